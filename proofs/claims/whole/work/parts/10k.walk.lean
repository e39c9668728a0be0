-- X10_state
def fnX10_state (F : Nat) (r1 : Nat → Int32) (r18 : Nat → Int32) (r19 : Nat → Int32) (r20 : Nat → Int32) (r21 : Nat → Int32) (r22 : Nat → Int32) (r23 : Nat → Int32) (r24 : Nat → Int32) (r25 : Nat → Int32) (r26 : Nat → Int32) (r32 : Nat → Int32) (r33 : Nat → Int32) (r34 : Nat → Int32) (r35 : Nat → Int32) (r36 : Nat → Int32) (r37 : Nat → Int32) (r38 : Nat → Int32) (r39 : Nat → Int32) (r40 : Nat → Int32) (r70 : Nat → Int32) (x1 : Int32) (x2 : Int32) : Option (((Int32) × (Nat → Int32) × (Nat → Int32) × (Nat → Int32) × (Nat → Int32) × (Nat → Int32) × (Nat → Int32) × (Nat → Int32) × (Nat → Int32) × (Nat → Int32) × (Nat → Int32)) ⊕ ((Nat) × (Nat → Int32) × (Nat → Int32) × (Nat → Int32) × (Nat → Int32) × (Nat → Int32) × (Nat → Int32) × (Nat → Int32) × (Nat → Int32) × (Nat → Int32) × (Nat → Int32))) := (fnX10_needStates F r1 r18 r19 r20 r21 r22 r23 r24 r25 r26 r32 r33 r34 r35 r36 r37 r38 r39 r40 r70).bind (Sum.elim (fun o1 => (fnX10_needState F o1.1 o1.2.2.2.2.2.2.2.2.2 x1).bind (Sum.elim (fun o2 => (fnX10_needNumber F o2 x2 (0 : Int32) (9 : Int32)).bind (Sum.elim (fun o3 => (if x2 = (0 : Int32) then (if mj_ib x1 200 = true then some (.inl ((o1.2.1 x1.toNatClampNeg), o1.1, o1.2.1, o1.2.2.1, o1.2.2.2.1, o1.2.2.2.2.1, o1.2.2.2.2.2.1, o1.2.2.2.2.2.2.1, o1.2.2.2.2.2.2.2.1, o1.2.2.2.2.2.2.2.2.1, o3)) else none) else (if x2 = (1 : Int32) then (if mj_ib x1 200 = true then (fnX1_get F (o1.2.2.1 x1.toNatClampNeg) (x2 - (1 : Int32))).bind (fun o7 => some (.inl (o7, o1.1, o1.2.1, o1.2.2.1, o1.2.2.2.1, o1.2.2.2.2.1, o1.2.2.2.2.2.1, o1.2.2.2.2.2.2.1, o1.2.2.2.2.2.2.2.1, o1.2.2.2.2.2.2.2.2.1, o3))) else none) else (if x2 = (2 : Int32) then (if mj_ib x1 200 = true then (fnX1_get F (o1.2.2.1 x1.toNatClampNeg) (x2 - (1 : Int32))).bind (fun o9 => some (.inl (o9, o1.1, o1.2.1, o1.2.2.1, o1.2.2.2.1, o1.2.2.2.2.1, o1.2.2.2.2.2.1, o1.2.2.2.2.2.2.1, o1.2.2.2.2.2.2.2.1, o1.2.2.2.2.2.2.2.2.1, o3))) else none) else (if x2 = (3 : Int32) then (if mj_ib x1 200 = true then (fnX1_get F (o1.2.2.1 x1.toNatClampNeg) (x2 - (1 : Int32))).bind (fun o11 => some (.inl (o11, o1.1, o1.2.1, o1.2.2.1, o1.2.2.2.1, o1.2.2.2.2.1, o1.2.2.2.2.2.1, o1.2.2.2.2.2.2.1, o1.2.2.2.2.2.2.2.1, o1.2.2.2.2.2.2.2.2.1, o3))) else none) else (if x2 = (4 : Int32) then (if mj_ib x1 200 = true then (fnX1_get F (o1.2.2.1 x1.toNatClampNeg) (x2 - (1 : Int32))).bind (fun o13 => some (.inl (o13, o1.1, o1.2.1, o1.2.2.1, o1.2.2.2.1, o1.2.2.2.2.1, o1.2.2.2.2.2.1, o1.2.2.2.2.2.2.1, o1.2.2.2.2.2.2.2.1, o1.2.2.2.2.2.2.2.2.1, o3))) else none) else (if x2 = (5 : Int32) then (if mj_ib x1 200 = true then (fnX1_get F (o1.2.2.1 x1.toNatClampNeg) (x2 - (1 : Int32))).bind (fun o15 => some (.inl (o15, o1.1, o1.2.1, o1.2.2.1, o1.2.2.2.1, o1.2.2.2.2.1, o1.2.2.2.2.2.1, o1.2.2.2.2.2.2.1, o1.2.2.2.2.2.2.2.1, o1.2.2.2.2.2.2.2.2.1, o3))) else none) else (if x2 = (6 : Int32) then (if mj_ib x1 200 = true then (fnX1_get F (o1.2.2.1 x1.toNatClampNeg) (x2 - (1 : Int32))).bind (fun o17 => some (.inl (o17, o1.1, o1.2.1, o1.2.2.1, o1.2.2.2.1, o1.2.2.2.2.1, o1.2.2.2.2.2.1, o1.2.2.2.2.2.2.1, o1.2.2.2.2.2.2.2.1, o1.2.2.2.2.2.2.2.2.1, o3))) else none) else (if x2 = (7 : Int32) then (if mj_ib x1 200 = true then some (.inl ((o1.2.2.2.1 x1.toNatClampNeg), o1.1, o1.2.1, o1.2.2.1, o1.2.2.2.1, o1.2.2.2.2.1, o1.2.2.2.2.2.1, o1.2.2.2.2.2.2.1, o1.2.2.2.2.2.2.2.1, o1.2.2.2.2.2.2.2.2.1, o3)) else none) else (if x2 = (8 : Int32) then (if mj_ib x1 200 = true then (if (o1.2.2.2.2.1 x1.toNatClampNeg) = 0 then some (.inl ((0 : Int32), o1.1, o1.2.1, o1.2.2.1, o1.2.2.2.1, o1.2.2.2.2.1, o1.2.2.2.2.2.1, o1.2.2.2.2.2.2.1, o1.2.2.2.2.2.2.2.1, o1.2.2.2.2.2.2.2.2.1, o3)) else some (.inl ((1 : Int32), o1.1, o1.2.1, o1.2.2.1, o1.2.2.2.1, o1.2.2.2.2.1, o1.2.2.2.2.2.1, o1.2.2.2.2.2.2.1, o1.2.2.2.2.2.2.2.1, o1.2.2.2.2.2.2.2.2.1, o3))) else none) else (if x2 = (9 : Int32) then (fnX4_arcsOf F o1.2.2.2.2.2.1 x1).bind (fun o21 => some (.inl (o21, o1.1, o1.2.1, o1.2.2.1, o1.2.2.2.1, o1.2.2.2.2.1, o1.2.2.2.2.2.1, o1.2.2.2.2.2.2.1, o1.2.2.2.2.2.2.2.1, o1.2.2.2.2.2.2.2.2.1, o3))) else (if mj_ib x1 200 = true then (fnX1_get F (o1.2.2.1 x1.toNatClampNeg) (x2 - (1 : Int32))).bind (fun o23 => some (.inl (o23, o1.1, o1.2.1, o1.2.2.1, o1.2.2.2.1, o1.2.2.2.2.1, o1.2.2.2.2.2.1, o1.2.2.2.2.2.2.1, o1.2.2.2.2.2.2.2.1, o1.2.2.2.2.2.2.2.2.1, o3))) else none)))))))))))) (fun eo3 => some (.inr (eo3.1, o1.1, o1.2.1, o1.2.2.1, o1.2.2.2.1, o1.2.2.2.2.1, o1.2.2.2.2.2.1, o1.2.2.2.2.2.2.1, o1.2.2.2.2.2.2.2.1, o1.2.2.2.2.2.2.2.2.1, eo3.2))))) (fun eo2 => some (.inr (eo2.1, o1.1, o1.2.1, o1.2.2.1, o1.2.2.2.1, o1.2.2.2.2.1, o1.2.2.2.2.2.1, o1.2.2.2.2.2.2.1, o1.2.2.2.2.2.2.2.1, o1.2.2.2.2.2.2.2.2.1, eo2.2))))) (fun eo1 => some (.inr (eo1.1, eo1.2.1, eo1.2.2.1, eo1.2.2.2.1, eo1.2.2.2.2.1, eo1.2.2.2.2.2.1, eo1.2.2.2.2.2.2.1, eo1.2.2.2.2.2.2.2.1, eo1.2.2.2.2.2.2.2.2.1, eo1.2.2.2.2.2.2.2.2.2.1, eo1.2.2.2.2.2.2.2.2.2.2))))
set_option maxRecDepth 100000 in
set_option maxHeartbeats 4000000 in
theorem mtX10_state {X : mj_XT} {l : Launch} {G : mj_GT} {ad : Nat → Nat} {Qn : Option Value → mj_IT → mj_LT → Prop} {Qx : String → mj_IT → mj_LT → Prop} (hR : mj_Rx X l G mj_P0 mj_S0 98 ad 3 18 Qn Qx) (hlt : l.stackTraces = false) (F : Nat) (I : mj_IT) (L : mj_LT) (r1 : Nat → Int32) (r18 : Nat → Int32) (r19 : Nat → Int32) (r20 : Nat → Int32) (r21 : Nat → Int32) (r22 : Nat → Int32) (r23 : Nat → Int32) (r24 : Nat → Int32) (r25 : Nat → Int32) (r26 : Nat → Int32) (r32 : Nat → Int32) (r33 : Nat → Int32) (r34 : Nat → Int32) (r35 : Nat → Int32) (r36 : Nat → Int32) (r37 : Nat → Int32) (r38 : Nat → Int32) (r39 : Nat → Int32) (r40 : Nat → Int32) (r70 : Nat → Int32) (x1 : Int32) (x2 : Int32) (o : (((Int32) × (Nat → Int32) × (Nat → Int32) × (Nat → Int32) × (Nat → Int32) × (Nat → Int32) × (Nat → Int32) × (Nat → Int32) × (Nat → Int32) × (Nat → Int32) × (Nat → Int32)) ⊕ ((Nat) × (Nat → Int32) × (Nat → Int32) × (Nat → Int32) × (Nat → Int32) × (Nat → Int32) × (Nat → Int32) × (Nat → Int32) × (Nat → Int32) × (Nat → Int32) × (Nat → Int32)))) (hf : fnX10_state F r1 r18 r19 r20 r21 r22 r23 r24 r25 r26 r32 r33 r34 r35 r36 r37 r38 r39 r40 r70 x1 x2 = some o) (hq : (Sum.elim (mj_u2 (fun ov => (mj_u2 (fun r32 => (mj_u2 (fun r33 => (mj_u2 (fun r34 => (mj_u2 (fun r35 => (mj_u2 (fun r36 => (mj_u2 (fun r37 => (mj_u2 (fun r38 => (mj_u2 (fun r39 => (mj_u2 (fun r40 r70 => Qn (some (.int ov)) (mj_rows I [(1, r1), (18, r18), (19, r19), (20, r20), (21, r21), (22, r22), (23, r23), (24, r24), (25, r25), (26, r26), (32, r32), (33, r33), (34, r34), (35, r35), (36, r36), (37, r37), (38, r38), (39, r39), (40, r40), (70, r70)]) L)))))))))))))))))))) (mj_u2 (fun kx => (mj_u2 (fun r32 => (mj_u2 (fun r33 => (mj_u2 (fun r34 => (mj_u2 (fun r35 => (mj_u2 (fun r36 => (mj_u2 (fun r37 => (mj_u2 (fun r38 => (mj_u2 (fun r39 => (mj_u2 (fun r40 r70 => Qx (mj_en kx) (mj_rows I [(1, r1), (18, r18), (19, r19), (20, r20), (21, r21), (22, r22), (23, r23), (24, r24), (25, r25), (26, r26), (32, r32), (33, r33), (34, r34), (35, r35), (36, r36), (37, r37), (38, r38), (39, r39), (40, r40), (70, r70)]) L))))))))))))))))))))) o) : mj_W X G RX10 "state" cX10_state 3 9 (some .int) mj_P0 mj_S0 98 ad 0 0 0 [(0, .ref 1), (1, .int x1), (2, .int x2)] [] (mj_rows I [(1, r1), (18, r18), (19, r19), (20, r20), (21, r21), (22, r22), (23, r23), (24, r24), (25, r25), (26, r26), (32, r32), (33, r33), (34, r34), (35, r35), (36, r36), (37, r37), (38, r38), (39, r39), (40, r40), (70, r70)]) L := by
  unfold fnX10_state at hf
  refine mj_aload_n 0 dX10_state_0 rfl ?_
  obtain ⟨so1, ho1, hf⟩ := mj_bd hf
  refine mj_callVx (st := []) [] hR (cmX10_needStates l G hlt F  _ _ r1 r18 r19 r20 r21 r22 r23 r24 r25 r26 r32 r33 r34 r35 r36 r37 r38 r39 r40 r70 rfl rfl rfl rfl rfl rfl rfl rfl rfl rfl rfl rfl rfl rfl rfl rfl rfl rfl rfl rfl so1 ho1) cw_X10_175 s0_1 a0_1 (by decide) rfl rfl (Nat.le_of_ble_eq_true rfl) ⟨by decide, by decide⟩ dX10_state_1 (fun E I2 L2 hx => ?_) (fun rv I2 L2 hx => ?_)
  · obtain ⟨eo1, hf, hx⟩ := mj_sxr hf hx
    obtain rfl := Option.some.inj hf
    obtain ⟨hE9, hI9, hL9⟩ := hx
    rw [hE9, hI9, hL9]
    have hZ := mj_er hq
    replace hZ := mj_u2p hZ
    replace hZ := mj_u2p hZ
    replace hZ := mj_u2p hZ
    replace hZ := mj_u2p hZ
    replace hZ := mj_u2p hZ
    replace hZ := mj_u2p hZ
    replace hZ := mj_u2p hZ
    replace hZ := mj_u2p hZ
    replace hZ := mj_u2p hZ
    replace hZ := mj_u2p hZ
    rw [mj_rr (l' := [(1, r1), (18, r18), (19, r19), (20, r20), (21, r21), (22, r22), (23, r23), (24, r24), (25, r25), (26, r26), (32, eo1.2.1), (33, eo1.2.2.1), (34, eo1.2.2.2.1), (35, eo1.2.2.2.2.1), (36, eo1.2.2.2.2.2.1), (37, eo1.2.2.2.2.2.2.1), (38, eo1.2.2.2.2.2.2.2.1), (39, eo1.2.2.2.2.2.2.2.2.1), (40, eo1.2.2.2.2.2.2.2.2.2.1), (70, eo1.2.2.2.2.2.2.2.2.2.2)]) rfl]
    exact hZ
  · obtain ⟨o1, hf, hx⟩ := mj_sxl hf hx
    obtain ⟨hr9, hI9, hL9⟩ := hx
    refine mj_cnv (s1 := []) (I2 := (mj_rows I [(1, r1), (18, r18), (19, r19), (20, r20), (21, r21), (22, r22), (23, r23), (24, r24), (25, r25), (26, r26), (32, o1.1), (33, o1.2.1), (34, o1.2.2.1), (35, o1.2.2.2.1), (36, o1.2.2.2.2.1), (37, o1.2.2.2.2.2.1), (38, o1.2.2.2.2.2.2.1), (39, o1.2.2.2.2.2.2.2.1), (40, o1.2.2.2.2.2.2.2.2.1), (70, o1.2.2.2.2.2.2.2.2.2)])) (L2 := L) (by rw [hr9]; rfl) (hI9.trans (mj_rr rfl)) hL9 ?_
    refine mj_aload_n 0 dX10_state_4 rfl ?_
    refine mj_iload_n 1 dX10_state_5 rfl ?_
    obtain ⟨so2, ho2, hf⟩ := mj_bd hf
    refine mj_callVx (st := []) [.int x1] hR (cmX10_needState l G hlt F x1 _ _ o1.1 o1.2.2.2.2.2.2.2.2.2 rfl rfl so2 ho2) cw_X10_178 s0_1 a0_1 (by decide) rfl rfl (Nat.le_of_ble_eq_true rfl) ⟨by decide, by decide⟩ dX10_state_6 (fun E I2 L2 hx => ?_) (fun rv I2 L2 hx => ?_)
    · obtain ⟨eo2, hf, hx⟩ := mj_sxr hf hx
      obtain rfl := Option.some.inj hf
      obtain ⟨hE9, hI9, hL9⟩ := hx
      rw [hE9, hI9, hL9]
      have hZ := mj_er hq
      replace hZ := mj_u2p hZ
      replace hZ := mj_u2p hZ
      replace hZ := mj_u2p hZ
      replace hZ := mj_u2p hZ
      replace hZ := mj_u2p hZ
      replace hZ := mj_u2p hZ
      replace hZ := mj_u2p hZ
      replace hZ := mj_u2p hZ
      replace hZ := mj_u2p hZ
      replace hZ := mj_u2p hZ
      rw [mj_rr (l' := [(1, r1), (18, r18), (19, r19), (20, r20), (21, r21), (22, r22), (23, r23), (24, r24), (25, r25), (26, r26), (32, o1.1), (33, o1.2.1), (34, o1.2.2.1), (35, o1.2.2.2.1), (36, o1.2.2.2.2.1), (37, o1.2.2.2.2.2.1), (38, o1.2.2.2.2.2.2.1), (39, o1.2.2.2.2.2.2.2.1), (40, o1.2.2.2.2.2.2.2.2.1), (70, eo2.2)]) rfl]
      exact hZ
    · obtain ⟨o2, hf, hx⟩ := mj_sxl hf hx
      obtain ⟨hr9, hI9, hL9⟩ := hx
      refine mj_cnv (s1 := []) (I2 := (mj_rows I [(1, r1), (18, r18), (19, r19), (20, r20), (21, r21), (22, r22), (23, r23), (24, r24), (25, r25), (26, r26), (32, o1.1), (33, o1.2.1), (34, o1.2.2.1), (35, o1.2.2.2.1), (36, o1.2.2.2.2.1), (37, o1.2.2.2.2.2.1), (38, o1.2.2.2.2.2.2.1), (39, o1.2.2.2.2.2.2.2.1), (40, o1.2.2.2.2.2.2.2.2.1), (70, o2)])) (L2 := L) (by rw [hr9]; rfl) (hI9.trans (mj_rr rfl)) hL9 ?_
      refine mj_aload_n 0 dX10_state_9 rfl ?_
      refine mj_iload_n 2 dX10_state_10 rfl ?_
      refine mj_iconst dX10_state_11 kc_iconst_0 ?_
      refine mj_bipush dX10_state_12 kc_bipush_9 ?_
      obtain ⟨so3, ho3, hf⟩ := mj_bd hf
      refine mj_callVx (st := []) [.int x2, .int (0 : Int32), .int (9 : Int32)] hR (cmX10_needNumber l G hlt F x2 (0 : Int32) (9 : Int32) _ _ o2 rfl so3 ho3) cw_X10_80 s0_1 a0_1 (by decide) rfl rfl (Nat.le_of_ble_eq_true rfl) ⟨by decide, by decide⟩ dX10_state_14 (fun E I2 L2 hx => ?_) (fun rv I2 L2 hx => ?_)
      · obtain ⟨eo3, hf, hx⟩ := mj_sxr hf hx
        obtain rfl := Option.some.inj hf
        obtain ⟨hE9, hI9, hL9⟩ := hx
        rw [hE9, hI9, hL9]
        have hZ := mj_er hq
        replace hZ := mj_u2p hZ
        replace hZ := mj_u2p hZ
        replace hZ := mj_u2p hZ
        replace hZ := mj_u2p hZ
        replace hZ := mj_u2p hZ
        replace hZ := mj_u2p hZ
        replace hZ := mj_u2p hZ
        replace hZ := mj_u2p hZ
        replace hZ := mj_u2p hZ
        replace hZ := mj_u2p hZ
        rw [mj_rr (l' := [(1, r1), (18, r18), (19, r19), (20, r20), (21, r21), (22, r22), (23, r23), (24, r24), (25, r25), (26, r26), (32, o1.1), (33, o1.2.1), (34, o1.2.2.1), (35, o1.2.2.2.1), (36, o1.2.2.2.2.1), (37, o1.2.2.2.2.2.1), (38, o1.2.2.2.2.2.2.1), (39, o1.2.2.2.2.2.2.2.1), (40, o1.2.2.2.2.2.2.2.2.1), (70, eo3.2)]) rfl]
        exact hZ
      · obtain ⟨o3, hf, hx⟩ := mj_sxl hf hx
        obtain ⟨hr9, hI9, hL9⟩ := hx
        refine mj_cnv (s1 := []) (I2 := (mj_rows I [(1, r1), (18, r18), (19, r19), (20, r20), (21, r21), (22, r22), (23, r23), (24, r24), (25, r25), (26, r26), (32, o1.1), (33, o1.2.1), (34, o1.2.2.1), (35, o1.2.2.2.1), (36, o1.2.2.2.2.1), (37, o1.2.2.2.2.2.1), (38, o1.2.2.2.2.2.2.1), (39, o1.2.2.2.2.2.2.2.1), (40, o1.2.2.2.2.2.2.2.2.1), (70, o3)])) (L2 := L) (by rw [hr9]; rfl) (hI9.trans (mj_rr rfl)) hL9 ?_
        refine mj_iload_n 2 dX10_state_17 rfl ?_
        by_cases c4_0 : x2 = (0 : Int32)
        · replace hf := mj_pos c4_0 hf
          refine mj_tsI (off := 54) 72 c4_0 dX10_state_18 (by decide) (by decide) (by decide) (by decide) ?_
          refine mj_aload_n 0 dX10_state_72 rfl ?_
          refine mj_getP p0_1_5 (by decide) fl_X10_37 rfl s0_1 a0_1 dX10_state_73 ?_
          refine mj_getP p0_32_8 (by decide) fl_X10_181 rfl s0_32 a0_32 dX10_state_76 ?_
          refine mj_iload_n 1 dX10_state_79 rfl ?_
          obtain ⟨z5, hf⟩ := mj_ck hf
          refine mj_ialdv (x := o1.2.1) rfl s0_33 a0_33 z5 dX10_state_80 ?_
          obtain rfl := Option.some.inj hf
          have hZ := mj_el hq
          replace hZ := mj_u2p hZ
          replace hZ := mj_u2p hZ
          replace hZ := mj_u2p hZ
          replace hZ := mj_u2p hZ
          replace hZ := mj_u2p hZ
          replace hZ := mj_u2p hZ
          replace hZ := mj_u2p hZ
          replace hZ := mj_u2p hZ
          replace hZ := mj_u2p hZ
          replace hZ := mj_u2p hZ
          exact mj_iretx hR ⟨by decide, by decide⟩ rfl rfl dX10_state_81 hZ
        · replace hf := mj_neg c4_0 hf
          by_cases c4_1 : x2 = (1 : Int32)
          · replace hf := mj_pos c4_1 hf
            refine mj_tsI (off := 101) 119 c4_1 dX10_state_18 (by decide) (by decide) (by decide) (by decide) ?_
            refine mj_aload_n 0 dX10_state_119 rfl ?_
            refine mj_getP p0_1_5 (by decide) fl_X10_37 rfl s0_1 a0_1 dX10_state_120 ?_
            refine mj_getP p0_32_9 (by decide) fl_X10_194 rfl s0_32 a0_32 dX10_state_123 ?_
            refine mj_iload_n 1 dX10_state_126 rfl ?_
            obtain ⟨z6, hf⟩ := mj_ck hf
            refine mj_ialdv (x := o1.2.2.1) rfl s0_34 a0_34 z6 dX10_state_127 ?_
            refine mj_iload_n 2 dX10_state_128 rfl ?_
            refine mj_iconst dX10_state_129 kc_iconst_1 ?_
            refine mj_isub dX10_state_130 ?_
            obtain ⟨o7, ho7, hf⟩ := mj_bd hf
            refine mj_callSd (I2 := (mj_rows I [(1, r1), (18, r18), (19, r19), (20, r20), (21, r21), (22, r22), (23, r23), (24, r24), (25, r25), (26, r26), (32, o1.1), (33, o1.2.1), (34, o1.2.2.1), (35, o1.2.2.2.1), (36, o1.2.2.2.2.1), (37, o1.2.2.2.2.2.1), (38, o1.2.2.2.2.2.2.1), (39, o1.2.2.2.2.2.2.2.1), (40, o1.2.2.2.2.2.2.2.2.1), (70, o3)])) (L2 := L) (s1 := [.int o7]) (st := []) [.int (o1.2.2.1 x1.toNatClampNeg), .int (x2 - (1 : Int32))] (cmX1_get X.2.1 G F (o1.2.2.1 x1.toNatClampNeg) (x2 - (1 : Int32)) _ _   o7 ho7) rfl rfl cw_X10_110 (by decide) rfl rfl (Nat.le_of_ble_eq_true rfl) (mj_rxc hR ⟨by decide, by decide⟩) dX10_state_131 rfl ?_
            obtain rfl := Option.some.inj hf
            have hZ := mj_el hq
            replace hZ := mj_u2p hZ
            replace hZ := mj_u2p hZ
            replace hZ := mj_u2p hZ
            replace hZ := mj_u2p hZ
            replace hZ := mj_u2p hZ
            replace hZ := mj_u2p hZ
            replace hZ := mj_u2p hZ
            replace hZ := mj_u2p hZ
            replace hZ := mj_u2p hZ
            replace hZ := mj_u2p hZ
            exact mj_iretx hR ⟨by decide, by decide⟩ rfl rfl dX10_state_134 hZ
          · replace hf := mj_neg c4_1 hf
            by_cases c4_2 : x2 = (2 : Int32)
            · replace hf := mj_pos c4_2 hf
              refine mj_tsI (off := 101) 119 c4_2 dX10_state_18 (by decide) (by decide) (by decide) (by decide) ?_
              refine mj_aload_n 0 dX10_state_119 rfl ?_
              refine mj_getP p0_1_5 (by decide) fl_X10_37 rfl s0_1 a0_1 dX10_state_120 ?_
              refine mj_getP p0_32_9 (by decide) fl_X10_194 rfl s0_32 a0_32 dX10_state_123 ?_
              refine mj_iload_n 1 dX10_state_126 rfl ?_
              obtain ⟨z8, hf⟩ := mj_ck hf
              refine mj_ialdv (x := o1.2.2.1) rfl s0_34 a0_34 z8 dX10_state_127 ?_
              refine mj_iload_n 2 dX10_state_128 rfl ?_
              refine mj_iconst dX10_state_129 kc_iconst_1 ?_
              refine mj_isub dX10_state_130 ?_
              obtain ⟨o9, ho9, hf⟩ := mj_bd hf
              refine mj_callSd (I2 := (mj_rows I [(1, r1), (18, r18), (19, r19), (20, r20), (21, r21), (22, r22), (23, r23), (24, r24), (25, r25), (26, r26), (32, o1.1), (33, o1.2.1), (34, o1.2.2.1), (35, o1.2.2.2.1), (36, o1.2.2.2.2.1), (37, o1.2.2.2.2.2.1), (38, o1.2.2.2.2.2.2.1), (39, o1.2.2.2.2.2.2.2.1), (40, o1.2.2.2.2.2.2.2.2.1), (70, o3)])) (L2 := L) (s1 := [.int o9]) (st := []) [.int (o1.2.2.1 x1.toNatClampNeg), .int (x2 - (1 : Int32))] (cmX1_get X.2.1 G F (o1.2.2.1 x1.toNatClampNeg) (x2 - (1 : Int32)) _ _   o9 ho9) rfl rfl cw_X10_110 (by decide) rfl rfl (Nat.le_of_ble_eq_true rfl) (mj_rxc hR ⟨by decide, by decide⟩) dX10_state_131 rfl ?_
              obtain rfl := Option.some.inj hf
              have hZ := mj_el hq
              replace hZ := mj_u2p hZ
              replace hZ := mj_u2p hZ
              replace hZ := mj_u2p hZ
              replace hZ := mj_u2p hZ
              replace hZ := mj_u2p hZ
              replace hZ := mj_u2p hZ
              replace hZ := mj_u2p hZ
              replace hZ := mj_u2p hZ
              replace hZ := mj_u2p hZ
              replace hZ := mj_u2p hZ
              exact mj_iretx hR ⟨by decide, by decide⟩ rfl rfl dX10_state_134 hZ
            · replace hf := mj_neg c4_2 hf
              by_cases c4_3 : x2 = (3 : Int32)
              · replace hf := mj_pos c4_3 hf
                refine mj_tsI (off := 101) 119 c4_3 dX10_state_18 (by decide) (by decide) (by decide) (by decide) ?_
                refine mj_aload_n 0 dX10_state_119 rfl ?_
                refine mj_getP p0_1_5 (by decide) fl_X10_37 rfl s0_1 a0_1 dX10_state_120 ?_
                refine mj_getP p0_32_9 (by decide) fl_X10_194 rfl s0_32 a0_32 dX10_state_123 ?_
                refine mj_iload_n 1 dX10_state_126 rfl ?_
                obtain ⟨z10, hf⟩ := mj_ck hf
                refine mj_ialdv (x := o1.2.2.1) rfl s0_34 a0_34 z10 dX10_state_127 ?_
                refine mj_iload_n 2 dX10_state_128 rfl ?_
                refine mj_iconst dX10_state_129 kc_iconst_1 ?_
                refine mj_isub dX10_state_130 ?_
                obtain ⟨o11, ho11, hf⟩ := mj_bd hf
                refine mj_callSd (I2 := (mj_rows I [(1, r1), (18, r18), (19, r19), (20, r20), (21, r21), (22, r22), (23, r23), (24, r24), (25, r25), (26, r26), (32, o1.1), (33, o1.2.1), (34, o1.2.2.1), (35, o1.2.2.2.1), (36, o1.2.2.2.2.1), (37, o1.2.2.2.2.2.1), (38, o1.2.2.2.2.2.2.1), (39, o1.2.2.2.2.2.2.2.1), (40, o1.2.2.2.2.2.2.2.2.1), (70, o3)])) (L2 := L) (s1 := [.int o11]) (st := []) [.int (o1.2.2.1 x1.toNatClampNeg), .int (x2 - (1 : Int32))] (cmX1_get X.2.1 G F (o1.2.2.1 x1.toNatClampNeg) (x2 - (1 : Int32)) _ _   o11 ho11) rfl rfl cw_X10_110 (by decide) rfl rfl (Nat.le_of_ble_eq_true rfl) (mj_rxc hR ⟨by decide, by decide⟩) dX10_state_131 rfl ?_
                obtain rfl := Option.some.inj hf
                have hZ := mj_el hq
                replace hZ := mj_u2p hZ
                replace hZ := mj_u2p hZ
                replace hZ := mj_u2p hZ
                replace hZ := mj_u2p hZ
                replace hZ := mj_u2p hZ
                replace hZ := mj_u2p hZ
                replace hZ := mj_u2p hZ
                replace hZ := mj_u2p hZ
                replace hZ := mj_u2p hZ
                replace hZ := mj_u2p hZ
                exact mj_iretx hR ⟨by decide, by decide⟩ rfl rfl dX10_state_134 hZ
              · replace hf := mj_neg c4_3 hf
                by_cases c4_4 : x2 = (4 : Int32)
                · replace hf := mj_pos c4_4 hf
                  refine mj_tsI (off := 101) 119 c4_4 dX10_state_18 (by decide) (by decide) (by decide) (by decide) ?_
                  refine mj_aload_n 0 dX10_state_119 rfl ?_
                  refine mj_getP p0_1_5 (by decide) fl_X10_37 rfl s0_1 a0_1 dX10_state_120 ?_
                  refine mj_getP p0_32_9 (by decide) fl_X10_194 rfl s0_32 a0_32 dX10_state_123 ?_
                  refine mj_iload_n 1 dX10_state_126 rfl ?_
                  obtain ⟨z12, hf⟩ := mj_ck hf
                  refine mj_ialdv (x := o1.2.2.1) rfl s0_34 a0_34 z12 dX10_state_127 ?_
                  refine mj_iload_n 2 dX10_state_128 rfl ?_
                  refine mj_iconst dX10_state_129 kc_iconst_1 ?_
                  refine mj_isub dX10_state_130 ?_
                  obtain ⟨o13, ho13, hf⟩ := mj_bd hf
                  refine mj_callSd (I2 := (mj_rows I [(1, r1), (18, r18), (19, r19), (20, r20), (21, r21), (22, r22), (23, r23), (24, r24), (25, r25), (26, r26), (32, o1.1), (33, o1.2.1), (34, o1.2.2.1), (35, o1.2.2.2.1), (36, o1.2.2.2.2.1), (37, o1.2.2.2.2.2.1), (38, o1.2.2.2.2.2.2.1), (39, o1.2.2.2.2.2.2.2.1), (40, o1.2.2.2.2.2.2.2.2.1), (70, o3)])) (L2 := L) (s1 := [.int o13]) (st := []) [.int (o1.2.2.1 x1.toNatClampNeg), .int (x2 - (1 : Int32))] (cmX1_get X.2.1 G F (o1.2.2.1 x1.toNatClampNeg) (x2 - (1 : Int32)) _ _   o13 ho13) rfl rfl cw_X10_110 (by decide) rfl rfl (Nat.le_of_ble_eq_true rfl) (mj_rxc hR ⟨by decide, by decide⟩) dX10_state_131 rfl ?_
                  obtain rfl := Option.some.inj hf
                  have hZ := mj_el hq
                  replace hZ := mj_u2p hZ
                  replace hZ := mj_u2p hZ
                  replace hZ := mj_u2p hZ
                  replace hZ := mj_u2p hZ
                  replace hZ := mj_u2p hZ
                  replace hZ := mj_u2p hZ
                  replace hZ := mj_u2p hZ
                  replace hZ := mj_u2p hZ
                  replace hZ := mj_u2p hZ
                  replace hZ := mj_u2p hZ
                  exact mj_iretx hR ⟨by decide, by decide⟩ rfl rfl dX10_state_134 hZ
                · replace hf := mj_neg c4_4 hf
                  by_cases c4_5 : x2 = (5 : Int32)
                  · replace hf := mj_pos c4_5 hf
                    refine mj_tsI (off := 101) 119 c4_5 dX10_state_18 (by decide) (by decide) (by decide) (by decide) ?_
                    refine mj_aload_n 0 dX10_state_119 rfl ?_
                    refine mj_getP p0_1_5 (by decide) fl_X10_37 rfl s0_1 a0_1 dX10_state_120 ?_
                    refine mj_getP p0_32_9 (by decide) fl_X10_194 rfl s0_32 a0_32 dX10_state_123 ?_
                    refine mj_iload_n 1 dX10_state_126 rfl ?_
                    obtain ⟨z14, hf⟩ := mj_ck hf
                    refine mj_ialdv (x := o1.2.2.1) rfl s0_34 a0_34 z14 dX10_state_127 ?_
                    refine mj_iload_n 2 dX10_state_128 rfl ?_
                    refine mj_iconst dX10_state_129 kc_iconst_1 ?_
                    refine mj_isub dX10_state_130 ?_
                    obtain ⟨o15, ho15, hf⟩ := mj_bd hf
                    refine mj_callSd (I2 := (mj_rows I [(1, r1), (18, r18), (19, r19), (20, r20), (21, r21), (22, r22), (23, r23), (24, r24), (25, r25), (26, r26), (32, o1.1), (33, o1.2.1), (34, o1.2.2.1), (35, o1.2.2.2.1), (36, o1.2.2.2.2.1), (37, o1.2.2.2.2.2.1), (38, o1.2.2.2.2.2.2.1), (39, o1.2.2.2.2.2.2.2.1), (40, o1.2.2.2.2.2.2.2.2.1), (70, o3)])) (L2 := L) (s1 := [.int o15]) (st := []) [.int (o1.2.2.1 x1.toNatClampNeg), .int (x2 - (1 : Int32))] (cmX1_get X.2.1 G F (o1.2.2.1 x1.toNatClampNeg) (x2 - (1 : Int32)) _ _   o15 ho15) rfl rfl cw_X10_110 (by decide) rfl rfl (Nat.le_of_ble_eq_true rfl) (mj_rxc hR ⟨by decide, by decide⟩) dX10_state_131 rfl ?_
                    obtain rfl := Option.some.inj hf
                    have hZ := mj_el hq
                    replace hZ := mj_u2p hZ
                    replace hZ := mj_u2p hZ
                    replace hZ := mj_u2p hZ
                    replace hZ := mj_u2p hZ
                    replace hZ := mj_u2p hZ
                    replace hZ := mj_u2p hZ
                    replace hZ := mj_u2p hZ
                    replace hZ := mj_u2p hZ
                    replace hZ := mj_u2p hZ
                    replace hZ := mj_u2p hZ
                    exact mj_iretx hR ⟨by decide, by decide⟩ rfl rfl dX10_state_134 hZ
                  · replace hf := mj_neg c4_5 hf
                    by_cases c4_6 : x2 = (6 : Int32)
                    · replace hf := mj_pos c4_6 hf
                      refine mj_tsI (off := 101) 119 c4_6 dX10_state_18 (by decide) (by decide) (by decide) (by decide) ?_
                      refine mj_aload_n 0 dX10_state_119 rfl ?_
                      refine mj_getP p0_1_5 (by decide) fl_X10_37 rfl s0_1 a0_1 dX10_state_120 ?_
                      refine mj_getP p0_32_9 (by decide) fl_X10_194 rfl s0_32 a0_32 dX10_state_123 ?_
                      refine mj_iload_n 1 dX10_state_126 rfl ?_
                      obtain ⟨z16, hf⟩ := mj_ck hf
                      refine mj_ialdv (x := o1.2.2.1) rfl s0_34 a0_34 z16 dX10_state_127 ?_
                      refine mj_iload_n 2 dX10_state_128 rfl ?_
                      refine mj_iconst dX10_state_129 kc_iconst_1 ?_
                      refine mj_isub dX10_state_130 ?_
                      obtain ⟨o17, ho17, hf⟩ := mj_bd hf
                      refine mj_callSd (I2 := (mj_rows I [(1, r1), (18, r18), (19, r19), (20, r20), (21, r21), (22, r22), (23, r23), (24, r24), (25, r25), (26, r26), (32, o1.1), (33, o1.2.1), (34, o1.2.2.1), (35, o1.2.2.2.1), (36, o1.2.2.2.2.1), (37, o1.2.2.2.2.2.1), (38, o1.2.2.2.2.2.2.1), (39, o1.2.2.2.2.2.2.2.1), (40, o1.2.2.2.2.2.2.2.2.1), (70, o3)])) (L2 := L) (s1 := [.int o17]) (st := []) [.int (o1.2.2.1 x1.toNatClampNeg), .int (x2 - (1 : Int32))] (cmX1_get X.2.1 G F (o1.2.2.1 x1.toNatClampNeg) (x2 - (1 : Int32)) _ _   o17 ho17) rfl rfl cw_X10_110 (by decide) rfl rfl (Nat.le_of_ble_eq_true rfl) (mj_rxc hR ⟨by decide, by decide⟩) dX10_state_131 rfl ?_
                      obtain rfl := Option.some.inj hf
                      have hZ := mj_el hq
                      replace hZ := mj_u2p hZ
                      replace hZ := mj_u2p hZ
                      replace hZ := mj_u2p hZ
                      replace hZ := mj_u2p hZ
                      replace hZ := mj_u2p hZ
                      replace hZ := mj_u2p hZ
                      replace hZ := mj_u2p hZ
                      replace hZ := mj_u2p hZ
                      replace hZ := mj_u2p hZ
                      replace hZ := mj_u2p hZ
                      exact mj_iretx hR ⟨by decide, by decide⟩ rfl rfl dX10_state_134 hZ
                    · replace hf := mj_neg c4_6 hf
                      by_cases c4_7 : x2 = (7 : Int32)
                      · replace hf := mj_pos c4_7 hf
                        refine mj_tsI (off := 64) 82 c4_7 dX10_state_18 (by decide) (by decide) (by decide) (by decide) ?_
                        refine mj_aload_n 0 dX10_state_82 rfl ?_
                        refine mj_getP p0_1_5 (by decide) fl_X10_37 rfl s0_1 a0_1 dX10_state_83 ?_
                        refine mj_getP p0_32_10 (by decide) fl_X10_184 rfl s0_32 a0_32 dX10_state_86 ?_
                        refine mj_iload_n 1 dX10_state_89 rfl ?_
                        obtain ⟨z18, hf⟩ := mj_ck hf
                        refine mj_ialdv (x := o1.2.2.2.1) rfl s0_35 a0_35 z18 dX10_state_90 ?_
                        obtain rfl := Option.some.inj hf
                        have hZ := mj_el hq
                        replace hZ := mj_u2p hZ
                        replace hZ := mj_u2p hZ
                        replace hZ := mj_u2p hZ
                        replace hZ := mj_u2p hZ
                        replace hZ := mj_u2p hZ
                        replace hZ := mj_u2p hZ
                        replace hZ := mj_u2p hZ
                        replace hZ := mj_u2p hZ
                        replace hZ := mj_u2p hZ
                        replace hZ := mj_u2p hZ
                        exact mj_iretx hR ⟨by decide, by decide⟩ rfl rfl dX10_state_91 hZ
                      · replace hf := mj_neg c4_7 hf
                        by_cases c4_8 : x2 = (8 : Int32)
                        · replace hf := mj_pos c4_8 hf
                          refine mj_tsI (off := 74) 92 c4_8 dX10_state_18 (by decide) (by decide) (by decide) (by decide) ?_
                          refine mj_aload_n 0 dX10_state_92 rfl ?_
                          refine mj_getP p0_1_5 (by decide) fl_X10_37 rfl s0_1 a0_1 dX10_state_93 ?_
                          refine mj_getP p0_32_11 (by decide) fl_X10_187 rfl s0_32 a0_32 dX10_state_96 ?_
                          refine mj_iload_n 1 dX10_state_99 rfl ?_
                          obtain ⟨z19, hf⟩ := mj_ck hf
                          refine mj_zaldv (x := o1.2.2.2.2.1) rfl s0_36 a0_36 z19 dX10_state_100 ?_
                          refine mj_if_eq 108 dX10_state_101 (by decide) (fun c20 => ?_) (fun c20 => ?_)
                          · replace hf := mj_pos c20 hf
                            refine mj_iconst dX10_state_108 kc_iconst_0 ?_
                            obtain rfl := Option.some.inj hf
                            have hZ := mj_el hq
                            replace hZ := mj_u2p hZ
                            replace hZ := mj_u2p hZ
                            replace hZ := mj_u2p hZ
                            replace hZ := mj_u2p hZ
                            replace hZ := mj_u2p hZ
                            replace hZ := mj_u2p hZ
                            replace hZ := mj_u2p hZ
                            replace hZ := mj_u2p hZ
                            replace hZ := mj_u2p hZ
                            replace hZ := mj_u2p hZ
                            exact mj_iretx hR ⟨by decide, by decide⟩ rfl rfl dX10_state_109 hZ
                          · replace hf := mj_neg c20 hf
                            refine mj_iconst dX10_state_104 kc_iconst_1 ?_
                            refine mj_goto 109 dX10_state_105 (by decide) ?_
                            obtain rfl := Option.some.inj hf
                            have hZ := mj_el hq
                            replace hZ := mj_u2p hZ
                            replace hZ := mj_u2p hZ
                            replace hZ := mj_u2p hZ
                            replace hZ := mj_u2p hZ
                            replace hZ := mj_u2p hZ
                            replace hZ := mj_u2p hZ
                            replace hZ := mj_u2p hZ
                            replace hZ := mj_u2p hZ
                            replace hZ := mj_u2p hZ
                            replace hZ := mj_u2p hZ
                            exact mj_iretx hR ⟨by decide, by decide⟩ rfl rfl dX10_state_109 hZ
                        · replace hf := mj_neg c4_8 hf
                          by_cases c4_9 : x2 = (9 : Int32)
                          · replace hf := mj_pos c4_9 hf
                            refine mj_tsI (off := 92) 110 c4_9 dX10_state_18 (by decide) (by decide) (by decide) (by decide) ?_
                            refine mj_aload_n 0 dX10_state_110 rfl ?_
                            refine mj_getP p0_1_5 (by decide) fl_X10_37 rfl s0_1 a0_1 dX10_state_111 ?_
                            refine mj_iload_n 1 dX10_state_114 rfl ?_
                            obtain ⟨o21, ho21, hf⟩ := mj_bd hf
                            refine mj_callVd (I2 := (mj_rows I [(1, r1), (18, r18), (19, r19), (20, r20), (21, r21), (22, r22), (23, r23), (24, r24), (25, r25), (26, r26), (32, o1.1), (33, o1.2.1), (34, o1.2.2.1), (35, o1.2.2.2.1), (36, o1.2.2.2.2.1), (37, o1.2.2.2.2.2.1), (38, o1.2.2.2.2.2.2.1), (39, o1.2.2.2.2.2.2.2.1), (40, o1.2.2.2.2.2.2.2.2.1), (70, o3)])) (L2 := L) (s1 := [.int o21]) (st := []) [.int x1] (cmX4_arcsOf X.2.1 G F x1 _ _ o1.2.2.2.2.2.1 rfl o21 ho21) (mj_rr rfl) rfl cw_X10_191 s0_32 a0_32 (by decide) rfl rfl (Nat.le_of_ble_eq_true rfl) (mj_rxc hR ⟨by decide, by decide⟩) dX10_state_115 rfl ?_
                            obtain rfl := Option.some.inj hf
                            have hZ := mj_el hq
                            replace hZ := mj_u2p hZ
                            replace hZ := mj_u2p hZ
                            replace hZ := mj_u2p hZ
                            replace hZ := mj_u2p hZ
                            replace hZ := mj_u2p hZ
                            replace hZ := mj_u2p hZ
                            replace hZ := mj_u2p hZ
                            replace hZ := mj_u2p hZ
                            replace hZ := mj_u2p hZ
                            replace hZ := mj_u2p hZ
                            exact mj_iretx hR ⟨by decide, by decide⟩ rfl rfl dX10_state_118 hZ
                          · replace hf := mj_neg c4_9 hf
                            refine mj_tsO 119 (ts_0_9 _ c4_0 c4_1 c4_2 c4_3 c4_4 c4_5 c4_6 c4_7 c4_8 c4_9) dX10_state_18 (by decide) ?_
                            refine mj_aload_n 0 dX10_state_119 rfl ?_
                            refine mj_getP p0_1_5 (by decide) fl_X10_37 rfl s0_1 a0_1 dX10_state_120 ?_
                            refine mj_getP p0_32_9 (by decide) fl_X10_194 rfl s0_32 a0_32 dX10_state_123 ?_
                            refine mj_iload_n 1 dX10_state_126 rfl ?_
                            obtain ⟨z22, hf⟩ := mj_ck hf
                            refine mj_ialdv (x := o1.2.2.1) rfl s0_34 a0_34 z22 dX10_state_127 ?_
                            refine mj_iload_n 2 dX10_state_128 rfl ?_
                            refine mj_iconst dX10_state_129 kc_iconst_1 ?_
                            refine mj_isub dX10_state_130 ?_
                            obtain ⟨o23, ho23, hf⟩ := mj_bd hf
                            refine mj_callSd (I2 := (mj_rows I [(1, r1), (18, r18), (19, r19), (20, r20), (21, r21), (22, r22), (23, r23), (24, r24), (25, r25), (26, r26), (32, o1.1), (33, o1.2.1), (34, o1.2.2.1), (35, o1.2.2.2.1), (36, o1.2.2.2.2.1), (37, o1.2.2.2.2.2.1), (38, o1.2.2.2.2.2.2.1), (39, o1.2.2.2.2.2.2.2.1), (40, o1.2.2.2.2.2.2.2.2.1), (70, o3)])) (L2 := L) (s1 := [.int o23]) (st := []) [.int (o1.2.2.1 x1.toNatClampNeg), .int (x2 - (1 : Int32))] (cmX1_get X.2.1 G F (o1.2.2.1 x1.toNatClampNeg) (x2 - (1 : Int32)) _ _   o23 ho23) rfl rfl cw_X10_110 (by decide) rfl rfl (Nat.le_of_ble_eq_true rfl) (mj_rxc hR ⟨by decide, by decide⟩) dX10_state_131 rfl ?_
                            obtain rfl := Option.some.inj hf
                            have hZ := mj_el hq
                            replace hZ := mj_u2p hZ
                            replace hZ := mj_u2p hZ
                            replace hZ := mj_u2p hZ
                            replace hZ := mj_u2p hZ
                            replace hZ := mj_u2p hZ
                            replace hZ := mj_u2p hZ
                            replace hZ := mj_u2p hZ
                            replace hZ := mj_u2p hZ
                            replace hZ := mj_u2p hZ
                            replace hZ := mj_u2p hZ
                            exact mj_iretx hR ⟨by decide, by decide⟩ rfl rfl dX10_state_134 hZ
set_option maxRecDepth 100000 in
set_option maxHeartbeats 4000000 in
theorem cmX10_state (l : Launch) (G : mj_GT) (hlt : l.stackTraces = false) (F : Nat) (x1 : Int32) (x2 : Int32) (I : mj_IT) (L : mj_LT) (r1 : Nat → Int32) (r18 : Nat → Int32) (r19 : Nat → Int32) (r20 : Nat → Int32) (r21 : Nat → Int32) (r22 : Nat → Int32) (r23 : Nat → Int32) (r24 : Nat → Int32) (r25 : Nat → Int32) (r26 : Nat → Int32) (r32 : Nat → Int32) (r33 : Nat → Int32) (r34 : Nat → Int32) (r35 : Nat → Int32) (r36 : Nat → Int32) (r37 : Nat → Int32) (r38 : Nat → Int32) (r39 : Nat → Int32) (r40 : Nat → Int32) (r70 : Nat → Int32) (hr1 : I 1 = r1) (hr18 : I 18 = r18) (hr19 : I 19 = r19) (hr20 : I 20 = r20) (hr21 : I 21 = r21) (hr22 : I 22 = r22) (hr23 : I 23 = r23) (hr24 : I 24 = r24) (hr25 : I 25 = r25) (hr26 : I 26 = r26) (hr32 : I 32 = r32) (hr33 : I 33 = r33) (hr34 : I 34 = r34) (hr35 : I 35 = r35) (hr36 : I 36 = r36) (hr37 : I 37 = r37) (hr38 : I 38 = r38) (hr39 : I 39 = r39) (hr40 : I 40 = r40) (hr70 : I 70 = r70) (o : (((Int32) × (Nat → Int32) × (Nat → Int32) × (Nat → Int32) × (Nat → Int32) × (Nat → Int32) × (Nat → Int32) × (Nat → Int32) × (Nat → Int32) × (Nat → Int32) × (Nat → Int32)) ⊕ ((Nat) × (Nat → Int32) × (Nat → Int32) × (Nat → Int32) × (Nat → Int32) × (Nat → Int32) × (Nat → Int32) × (Nat → Int32) × (Nat → Int32) × (Nat → Int32) × (Nat → Int32)))) (hf : fnX10_state F r1 r18 r19 r20 r21 r22 r23 r24 r25 r26 r32 r33 r34 r35 r36 r37 r38 r39 r40 r70 x1 x2 = some o) : mj_Mx l G yX10_state cX10_state 3 9 (some .int) 3 18 mj_P0 mj_S0 98 [.ref 1, .int x1, .int x2] I L (fun rv I2 L2 => Sum.elim (fun o => rv = (some (.int o.1)) ∧ I2 = (mj_rows I [(1, r1), (18, r18), (19, r19), (20, r20), (21, r21), (22, r22), (23, r23), (24, r24), (25, r25), (26, r26), (32, o.2.1), (33, o.2.2.1), (34, o.2.2.2.1), (35, o.2.2.2.2.1), (36, o.2.2.2.2.2.1), (37, o.2.2.2.2.2.2.1), (38, o.2.2.2.2.2.2.2.1), (39, o.2.2.2.2.2.2.2.2.1), (40, o.2.2.2.2.2.2.2.2.2.1), (70, o.2.2.2.2.2.2.2.2.2.2)]) ∧ L2 = L) (fun _ => False) o) (fun E I2 L2 => Sum.elim (fun _ => False) (fun o => E = mj_en o.1 ∧ I2 = (mj_rows I [(1, r1), (18, r18), (19, r19), (20, r20), (21, r21), (22, r22), (23, r23), (24, r24), (25, r25), (26, r26), (32, o.2.1), (33, o.2.2.1), (34, o.2.2.2.1), (35, o.2.2.2.2.1), (36, o.2.2.2.2.2.1), (37, o.2.2.2.2.2.2.1), (38, o.2.2.2.2.2.2.2.1), (39, o.2.2.2.2.2.2.2.2.1), (40, o.2.2.2.2.2.2.2.2.2.1), (70, o.2.2.2.2.2.2.2.2.2.2)]) ∧ L2 = L) o) := by
  refine mj_inx RX10 "state" [(0, .ref 1), (1, .int x1), (2, .int x2)] rfl rfl rfl (by decide) (Nat.le_of_ble_eq_true rfl) (fun X ad hR => ?_)
  refine mj_toI [(1, r1), (18, r18), (19, r19), (20, r20), (21, r21), (22, r22), (23, r23), (24, r24), (25, r25), (26, r26), (32, r32), (33, r33), (34, r34), (35, r35), (36, r36), (37, r37), (38, r38), (39, r39), (40, r40), (70, r70)] (by intro q hq; simp only [List.mem_cons, List.not_mem_nil, or_false] at hq; rcases hq with rfl | rfl | rfl | rfl | rfl | rfl | rfl | rfl | rfl | rfl | rfl | rfl | rfl | rfl | rfl | rfl | rfl | rfl | rfl | rfl <;> assumption) ?_
  refine mtX10_state hR hlt F I L r1 r18 r19 r20 r21 r22 r23 r24 r25 r26 r32 r33 r34 r35 r36 r37 r38 r39 r40 r70 x1 x2 o hf ?_
  rcases o with o | o
  · refine mj_elq ?_
    obtain ⟨w0, w1, w2, w3, w4, w5, w6, w7, w8, w9, w10⟩ := o
    refine mj_u2q ?_
    refine mj_u2q ?_
    refine mj_u2q ?_
    refine mj_u2q ?_
    refine mj_u2q ?_
    refine mj_u2q ?_
    refine mj_u2q ?_
    refine mj_u2q ?_
    refine mj_u2q ?_
    refine mj_u2q ?_
    refine mj_elq ?_
    exact ⟨rfl, rfl, rfl⟩
  · refine mj_erq ?_
    obtain ⟨w0, w1, w2, w3, w4, w5, w6, w7, w8, w9, w10⟩ := o
    refine mj_u2q ?_
    refine mj_u2q ?_
    refine mj_u2q ?_
    refine mj_u2q ?_
    refine mj_u2q ?_
    refine mj_u2q ?_
    refine mj_u2q ?_
    refine mj_u2q ?_
    refine mj_u2q ?_
    refine mj_u2q ?_
    refine mj_erq ?_
    exact ⟨rfl, rfl, rfl⟩

-- X10_arc
def jnX10_arc_29 (F : Nat) (r1 : Nat → Int32) (r18 : Nat → Int32) (r19 : Nat → Int32) (r20 : Nat → Int32) (r21 : Nat → Int32) (r22 : Nat → Int32) (r23 : Nat → Int32) (r24 : Nat → Int32) (r25 : Nat → Int32) (r26 : Nat → Int32) (x1 : Int32) (x2 : Int32) (x3 : Int32) (r32 : Nat → Int32) (r33 : Nat → Int32) (r34 : Nat → Int32) (r35 : Nat → Int32) (r36 : Nat → Int32) (r37 : Nat → Int32) (r38 : Nat → Int32) (r39 : Nat → Int32) (r40 : Nat → Int32) (r70 : Nat → Int32) : Option (((Int32) × (Nat → Int32) × (Nat → Int32) × (Nat → Int32) × (Nat → Int32) × (Nat → Int32) × (Nat → Int32) × (Nat → Int32) × (Nat → Int32) × (Nat → Int32) × (Nat → Int32)) ⊕ ((Nat) × (Nat → Int32) × (Nat → Int32) × (Nat → Int32) × (Nat → Int32) × (Nat → Int32) × (Nat → Int32) × (Nat → Int32) × (Nat → Int32) × (Nat → Int32) × (Nat → Int32))) := (fnX10_needNumber F r70 x3 (0 : Int32) (1 : Int32)).bind (Sum.elim (fun o1 => (if mj_ib x1 201 = true then (if x3 = 0 then (if mj_ib ((r37 x1.toNatClampNeg) + x2) 2000 = true then some (.inl ((r38 (((r37 x1.toNatClampNeg) + x2).toNatClampNeg)), r32, r33, r34, r35, r36, r37, r38, r39, r40, o1)) else none) else (if mj_ib ((r37 x1.toNatClampNeg) + x2) 2000 = true then some (.inl ((r39 (((r37 x1.toNatClampNeg) + x2).toNatClampNeg)), r32, r33, r34, r35, r36, r37, r38, r39, r40, o1)) else none)) else none)) (fun eo1 => some (.inr (eo1.1, r32, r33, r34, r35, r36, r37, r38, r39, r40, eo1.2))))
def jnX10_arc_25 (F : Nat) (r1 : Nat → Int32) (r18 : Nat → Int32) (r19 : Nat → Int32) (r20 : Nat → Int32) (r21 : Nat → Int32) (r22 : Nat → Int32) (r23 : Nat → Int32) (r24 : Nat → Int32) (r25 : Nat → Int32) (r26 : Nat → Int32) (x1 : Int32) (x2 : Int32) (x3 : Int32) (r32 : Nat → Int32) (r33 : Nat → Int32) (r34 : Nat → Int32) (r35 : Nat → Int32) (r36 : Nat → Int32) (r37 : Nat → Int32) (r38 : Nat → Int32) (r39 : Nat → Int32) (r40 : Nat → Int32) (r70 : Nat → Int32) : Option (((Int32) × (Nat → Int32) × (Nat → Int32) × (Nat → Int32) × (Nat → Int32) × (Nat → Int32) × (Nat → Int32) × (Nat → Int32) × (Nat → Int32) × (Nat → Int32) × (Nat → Int32)) ⊕ ((Nat) × (Nat → Int32) × (Nat → Int32) × (Nat → Int32) × (Nat → Int32) × (Nat → Int32) × (Nat → Int32) × (Nat → Int32) × (Nat → Int32) × (Nat → Int32) × (Nat → Int32))) := (fnX10_refuseElement F r70).bind (Sum.elim (fun o6 => jnX10_arc_29 F r1 r18 r19 r20 r21 r22 r23 r24 r25 r26 x1 x2 x3 r32 r33 r34 r35 r36 r37 r38 r39 r40 o6) (fun eo6 => some (.inr (eo6.1, r32, r33, r34, r35, r36, r37, r38, r39, r40, eo6.2))))
def fnX10_arc (F : Nat) (r1 : Nat → Int32) (r18 : Nat → Int32) (r19 : Nat → Int32) (r20 : Nat → Int32) (r21 : Nat → Int32) (r22 : Nat → Int32) (r23 : Nat → Int32) (r24 : Nat → Int32) (r25 : Nat → Int32) (r26 : Nat → Int32) (r32 : Nat → Int32) (r33 : Nat → Int32) (r34 : Nat → Int32) (r35 : Nat → Int32) (r36 : Nat → Int32) (r37 : Nat → Int32) (r38 : Nat → Int32) (r39 : Nat → Int32) (r40 : Nat → Int32) (r70 : Nat → Int32) (x1 : Int32) (x2 : Int32) (x3 : Int32) : Option (((Int32) × (Nat → Int32) × (Nat → Int32) × (Nat → Int32) × (Nat → Int32) × (Nat → Int32) × (Nat → Int32) × (Nat → Int32) × (Nat → Int32) × (Nat → Int32) × (Nat → Int32)) ⊕ ((Nat) × (Nat → Int32) × (Nat → Int32) × (Nat → Int32) × (Nat → Int32) × (Nat → Int32) × (Nat → Int32) × (Nat → Int32) × (Nat → Int32) × (Nat → Int32) × (Nat → Int32))) := (fnX10_needStates F r1 r18 r19 r20 r21 r22 r23 r24 r25 r26 r32 r33 r34 r35 r36 r37 r38 r39 r40 r70).bind (Sum.elim (fun o7 => (fnX10_needState F o7.1 o7.2.2.2.2.2.2.2.2.2 x1).bind (Sum.elim (fun o8 => (if x2 < 0 then jnX10_arc_25 F r1 r18 r19 r20 r21 r22 r23 r24 r25 r26 x1 x2 x3 o7.1 o7.2.1 o7.2.2.1 o7.2.2.2.1 o7.2.2.2.2.1 o7.2.2.2.2.2.1 o7.2.2.2.2.2.2.1 o7.2.2.2.2.2.2.2.1 o7.2.2.2.2.2.2.2.2.1 o8 else (fnX4_arcsOf F o7.2.2.2.2.2.1 x1).bind (fun o10 => (if x2 < o10 then jnX10_arc_29 F r1 r18 r19 r20 r21 r22 r23 r24 r25 r26 x1 x2 x3 o7.1 o7.2.1 o7.2.2.1 o7.2.2.2.1 o7.2.2.2.2.1 o7.2.2.2.2.2.1 o7.2.2.2.2.2.2.1 o7.2.2.2.2.2.2.2.1 o7.2.2.2.2.2.2.2.2.1 o8 else jnX10_arc_25 F r1 r18 r19 r20 r21 r22 r23 r24 r25 r26 x1 x2 x3 o7.1 o7.2.1 o7.2.2.1 o7.2.2.2.1 o7.2.2.2.2.1 o7.2.2.2.2.2.1 o7.2.2.2.2.2.2.1 o7.2.2.2.2.2.2.2.1 o7.2.2.2.2.2.2.2.2.1 o8)))) (fun eo8 => some (.inr (eo8.1, o7.1, o7.2.1, o7.2.2.1, o7.2.2.2.1, o7.2.2.2.2.1, o7.2.2.2.2.2.1, o7.2.2.2.2.2.2.1, o7.2.2.2.2.2.2.2.1, o7.2.2.2.2.2.2.2.2.1, eo8.2))))) (fun eo7 => some (.inr (eo7.1, eo7.2.1, eo7.2.2.1, eo7.2.2.2.1, eo7.2.2.2.2.1, eo7.2.2.2.2.2.1, eo7.2.2.2.2.2.2.1, eo7.2.2.2.2.2.2.2.1, eo7.2.2.2.2.2.2.2.2.1, eo7.2.2.2.2.2.2.2.2.2.1, eo7.2.2.2.2.2.2.2.2.2.2))))
set_option maxRecDepth 100000 in
set_option maxHeartbeats 4000000 in
theorem jtX10_arc_29 {X : mj_XT} {l : Launch} {G : mj_GT} {ad : Nat → Nat} {Qn : Option Value → mj_IT → mj_LT → Prop} {Qx : String → mj_IT → mj_LT → Prop} (hR : mj_Rx X l G mj_P0 mj_S0 98 ad 4 24 Qn Qx) (hlt : l.stackTraces = false) (F : Nat) (I : mj_IT) (L : mj_LT) (r1 : Nat → Int32) (r18 : Nat → Int32) (r19 : Nat → Int32) (r20 : Nat → Int32) (r21 : Nat → Int32) (r22 : Nat → Int32) (r23 : Nat → Int32) (r24 : Nat → Int32) (r25 : Nat → Int32) (r26 : Nat → Int32) (r32 : Nat → Int32) (r33 : Nat → Int32) (r34 : Nat → Int32) (r35 : Nat → Int32) (r36 : Nat → Int32) (r37 : Nat → Int32) (r38 : Nat → Int32) (r39 : Nat → Int32) (r40 : Nat → Int32) (r70 : Nat → Int32) (x1 : Int32) (x2 : Int32) (x3 : Int32) (o : (((Int32) × (Nat → Int32) × (Nat → Int32) × (Nat → Int32) × (Nat → Int32) × (Nat → Int32) × (Nat → Int32) × (Nat → Int32) × (Nat → Int32) × (Nat → Int32) × (Nat → Int32)) ⊕ ((Nat) × (Nat → Int32) × (Nat → Int32) × (Nat → Int32) × (Nat → Int32) × (Nat → Int32) × (Nat → Int32) × (Nat → Int32) × (Nat → Int32) × (Nat → Int32) × (Nat → Int32)))) (hf : jnX10_arc_29 F r1 r18 r19 r20 r21 r22 r23 r24 r25 r26 x1 x2 x3 r32 r33 r34 r35 r36 r37 r38 r39 r40 r70 = some o) (hq : (Sum.elim (mj_u2 (fun ov => (mj_u2 (fun r32 => (mj_u2 (fun r33 => (mj_u2 (fun r34 => (mj_u2 (fun r35 => (mj_u2 (fun r36 => (mj_u2 (fun r37 => (mj_u2 (fun r38 => (mj_u2 (fun r39 => (mj_u2 (fun r40 r70 => Qn (some (.int ov)) (mj_rows I [(1, r1), (18, r18), (19, r19), (20, r20), (21, r21), (22, r22), (23, r23), (24, r24), (25, r25), (26, r26), (32, r32), (33, r33), (34, r34), (35, r35), (36, r36), (37, r37), (38, r38), (39, r39), (40, r40), (70, r70)]) L)))))))))))))))))))) (mj_u2 (fun kx => (mj_u2 (fun r32 => (mj_u2 (fun r33 => (mj_u2 (fun r34 => (mj_u2 (fun r35 => (mj_u2 (fun r36 => (mj_u2 (fun r37 => (mj_u2 (fun r38 => (mj_u2 (fun r39 => (mj_u2 (fun r40 r70 => Qx (mj_en kx) (mj_rows I [(1, r1), (18, r18), (19, r19), (20, r20), (21, r21), (22, r22), (23, r23), (24, r24), (25, r25), (26, r26), (32, r32), (33, r33), (34, r34), (35, r35), (36, r36), (37, r37), (38, r38), (39, r39), (40, r40), (70, r70)]) L))))))))))))))))))))) o) : mj_W X G RX10 "arc" cX10_arc 5 9 (some .int) mj_P0 mj_S0 98 ad 3 18 29 [(0, .ref 1), (1, .int x1), (2, .int x2), (3, .int x3)] [] (mj_rows I [(1, r1), (18, r18), (19, r19), (20, r20), (21, r21), (22, r22), (23, r23), (24, r24), (25, r25), (26, r26), (32, r32), (33, r33), (34, r34), (35, r35), (36, r36), (37, r37), (38, r38), (39, r39), (40, r40), (70, r70)]) L := by
  unfold jnX10_arc_29 at hf
  refine mj_aload_n 0 dX10_arc_29 rfl ?_
  refine mj_iload_n 3 dX10_arc_30 rfl ?_
  refine mj_iconst dX10_arc_31 kc_iconst_0 ?_
  refine mj_iconst dX10_arc_32 kc_iconst_1 ?_
  obtain ⟨so1, ho1, hf⟩ := mj_bd hf
  refine mj_callVx (st := []) [.int x3, .int (0 : Int32), .int (1 : Int32)] hR (cmX10_needNumber l G hlt F x3 (0 : Int32) (1 : Int32) _ _ r70 rfl so1 ho1) cw_X10_80 s0_1 a0_1 (by decide) rfl rfl (Nat.le_of_ble_eq_true rfl) ⟨by decide, by decide⟩ dX10_arc_33 (fun E I2 L2 hx => ?_) (fun rv I2 L2 hx => ?_)
  · obtain ⟨eo1, hf, hx⟩ := mj_sxr hf hx
    obtain rfl := Option.some.inj hf
    obtain ⟨hE9, hI9, hL9⟩ := hx
    rw [hE9, hI9, hL9]
    have hZ := mj_er hq
    replace hZ := mj_u2p hZ
    replace hZ := mj_u2p hZ
    replace hZ := mj_u2p hZ
    replace hZ := mj_u2p hZ
    replace hZ := mj_u2p hZ
    replace hZ := mj_u2p hZ
    replace hZ := mj_u2p hZ
    replace hZ := mj_u2p hZ
    replace hZ := mj_u2p hZ
    replace hZ := mj_u2p hZ
    rw [mj_rr (l' := [(1, r1), (18, r18), (19, r19), (20, r20), (21, r21), (22, r22), (23, r23), (24, r24), (25, r25), (26, r26), (32, r32), (33, r33), (34, r34), (35, r35), (36, r36), (37, r37), (38, r38), (39, r39), (40, r40), (70, eo1.2)]) rfl]
    exact hZ
  · obtain ⟨o1, hf, hx⟩ := mj_sxl hf hx
    obtain ⟨hr9, hI9, hL9⟩ := hx
    refine mj_cnv (s1 := []) (I2 := (mj_rows I [(1, r1), (18, r18), (19, r19), (20, r20), (21, r21), (22, r22), (23, r23), (24, r24), (25, r25), (26, r26), (32, r32), (33, r33), (34, r34), (35, r35), (36, r36), (37, r37), (38, r38), (39, r39), (40, r40), (70, o1)])) (L2 := L) (by rw [hr9]; rfl) (hI9.trans (mj_rr rfl)) hL9 ?_
    refine mj_aload_n 0 dX10_arc_36 rfl ?_
    refine mj_getP p0_1_5 (by decide) fl_X10_37 rfl s0_1 a0_1 dX10_arc_37 ?_
    refine mj_getP p0_32_12 (by decide) fl_X10_200 rfl s0_32 a0_32 dX10_arc_40 ?_
    refine mj_iload_n 1 dX10_arc_43 rfl ?_
    obtain ⟨z2, hf⟩ := mj_ck hf
    refine mj_ialdv (x := r37) rfl s0_37 a0_37 z2 dX10_arc_44 ?_
    refine mj_iload_n 2 dX10_arc_45 rfl ?_
    refine mj_iadd dX10_arc_46 ?_
    refine mj_istore [(4, .int ((r37 x1.toNatClampNeg) + x2)), (0, .ref 1), (1, .int x1), (2, .int x2), (3, .int x3)] dX10_arc_47 (by decide) rfl ?_
    refine mj_iload_n 4 dX10_arc_49 rfl ?_
    refine mj_if_ne 66 dX10_arc_50 (by decide) (fun c3 => ?_) (fun c3 => ?_)
    · replace hf := mj_neg c3 hf
      refine mj_aload_n 1 dX10_arc_66 rfl ?_
      refine mj_getP p0_1_5 (by decide) fl_X10_37 rfl s0_1 a0_1 dX10_arc_67 ?_
      refine mj_getP p0_32_14 (by decide) fl_X10_206 rfl s0_32 a0_32 dX10_arc_70 ?_
      refine mj_iload 0 dX10_arc_73 rfl ?_
      obtain ⟨z4, hf⟩ := mj_ck hf
      refine mj_ialdv (x := r39) rfl s0_39 a0_39 z4 dX10_arc_75 ?_
      obtain rfl := Option.some.inj hf
      have hZ := mj_el hq
      replace hZ := mj_u2p hZ
      replace hZ := mj_u2p hZ
      replace hZ := mj_u2p hZ
      replace hZ := mj_u2p hZ
      replace hZ := mj_u2p hZ
      replace hZ := mj_u2p hZ
      replace hZ := mj_u2p hZ
      replace hZ := mj_u2p hZ
      replace hZ := mj_u2p hZ
      replace hZ := mj_u2p hZ
      exact mj_iretx hR ⟨by decide, by decide⟩ rfl rfl dX10_arc_76 hZ
    · replace hf := mj_pos c3 hf
      refine mj_aload_n 1 dX10_arc_53 rfl ?_
      refine mj_getP p0_1_5 (by decide) fl_X10_37 rfl s0_1 a0_1 dX10_arc_54 ?_
      refine mj_getP p0_32_13 (by decide) fl_X10_203 rfl s0_32 a0_32 dX10_arc_57 ?_
      refine mj_iload 0 dX10_arc_60 rfl ?_
      obtain ⟨z5, hf⟩ := mj_ck hf
      refine mj_ialdv (x := r38) rfl s0_38 a0_38 z5 dX10_arc_62 ?_
      refine mj_goto 76 dX10_arc_63 (by decide) ?_
      obtain rfl := Option.some.inj hf
      have hZ := mj_el hq
      replace hZ := mj_u2p hZ
      replace hZ := mj_u2p hZ
      replace hZ := mj_u2p hZ
      replace hZ := mj_u2p hZ
      replace hZ := mj_u2p hZ
      replace hZ := mj_u2p hZ
      replace hZ := mj_u2p hZ
      replace hZ := mj_u2p hZ
      replace hZ := mj_u2p hZ
      replace hZ := mj_u2p hZ
      exact mj_iretx hR ⟨by decide, by decide⟩ rfl rfl dX10_arc_76 hZ
set_option maxRecDepth 100000 in
set_option maxHeartbeats 4000000 in
theorem jtX10_arc_25 {X : mj_XT} {l : Launch} {G : mj_GT} {ad : Nat → Nat} {Qn : Option Value → mj_IT → mj_LT → Prop} {Qx : String → mj_IT → mj_LT → Prop} (hR : mj_Rx X l G mj_P0 mj_S0 98 ad 4 24 Qn Qx) (hlt : l.stackTraces = false) (F : Nat) (I : mj_IT) (L : mj_LT) (r1 : Nat → Int32) (r18 : Nat → Int32) (r19 : Nat → Int32) (r20 : Nat → Int32) (r21 : Nat → Int32) (r22 : Nat → Int32) (r23 : Nat → Int32) (r24 : Nat → Int32) (r25 : Nat → Int32) (r26 : Nat → Int32) (r32 : Nat → Int32) (r33 : Nat → Int32) (r34 : Nat → Int32) (r35 : Nat → Int32) (r36 : Nat → Int32) (r37 : Nat → Int32) (r38 : Nat → Int32) (r39 : Nat → Int32) (r40 : Nat → Int32) (r70 : Nat → Int32) (x1 : Int32) (x2 : Int32) (x3 : Int32) (o : (((Int32) × (Nat → Int32) × (Nat → Int32) × (Nat → Int32) × (Nat → Int32) × (Nat → Int32) × (Nat → Int32) × (Nat → Int32) × (Nat → Int32) × (Nat → Int32) × (Nat → Int32)) ⊕ ((Nat) × (Nat → Int32) × (Nat → Int32) × (Nat → Int32) × (Nat → Int32) × (Nat → Int32) × (Nat → Int32) × (Nat → Int32) × (Nat → Int32) × (Nat → Int32) × (Nat → Int32)))) (hf : jnX10_arc_25 F r1 r18 r19 r20 r21 r22 r23 r24 r25 r26 x1 x2 x3 r32 r33 r34 r35 r36 r37 r38 r39 r40 r70 = some o) (hq : (Sum.elim (mj_u2 (fun ov => (mj_u2 (fun r32 => (mj_u2 (fun r33 => (mj_u2 (fun r34 => (mj_u2 (fun r35 => (mj_u2 (fun r36 => (mj_u2 (fun r37 => (mj_u2 (fun r38 => (mj_u2 (fun r39 => (mj_u2 (fun r40 r70 => Qn (some (.int ov)) (mj_rows I [(1, r1), (18, r18), (19, r19), (20, r20), (21, r21), (22, r22), (23, r23), (24, r24), (25, r25), (26, r26), (32, r32), (33, r33), (34, r34), (35, r35), (36, r36), (37, r37), (38, r38), (39, r39), (40, r40), (70, r70)]) L)))))))))))))))))))) (mj_u2 (fun kx => (mj_u2 (fun r32 => (mj_u2 (fun r33 => (mj_u2 (fun r34 => (mj_u2 (fun r35 => (mj_u2 (fun r36 => (mj_u2 (fun r37 => (mj_u2 (fun r38 => (mj_u2 (fun r39 => (mj_u2 (fun r40 r70 => Qx (mj_en kx) (mj_rows I [(1, r1), (18, r18), (19, r19), (20, r20), (21, r21), (22, r22), (23, r23), (24, r24), (25, r25), (26, r26), (32, r32), (33, r33), (34, r34), (35, r35), (36, r36), (37, r37), (38, r38), (39, r39), (40, r40), (70, r70)]) L))))))))))))))))))))) o) : mj_W X G RX10 "arc" cX10_arc 5 9 (some .int) mj_P0 mj_S0 98 ad 2 12 25 [(0, .ref 1), (1, .int x1), (2, .int x2), (3, .int x3)] [] (mj_rows I [(1, r1), (18, r18), (19, r19), (20, r20), (21, r21), (22, r22), (23, r23), (24, r24), (25, r25), (26, r26), (32, r32), (33, r33), (34, r34), (35, r35), (36, r36), (37, r37), (38, r38), (39, r39), (40, r40), (70, r70)]) L := by
  unfold jnX10_arc_25 at hf
  refine mj_aload_n 0 dX10_arc_25 rfl ?_
  obtain ⟨so6, ho6, hf⟩ := mj_bd hf
  refine mj_callVx (st := []) [] hR (cmX10_refuseElement l G hlt F  _ _ r70 rfl so6 ho6) cw_X10_197 s0_1 a0_1 (by decide) rfl rfl (Nat.le_of_ble_eq_true rfl) ⟨by decide, by decide⟩ dX10_arc_26 (fun E I2 L2 hx => ?_) (fun rv I2 L2 hx => ?_)
  · obtain ⟨eo6, hf, hx⟩ := mj_sxr hf hx
    obtain rfl := Option.some.inj hf
    obtain ⟨hE9, hI9, hL9⟩ := hx
    rw [hE9, hI9, hL9]
    have hZ := mj_er hq
    replace hZ := mj_u2p hZ
    replace hZ := mj_u2p hZ
    replace hZ := mj_u2p hZ
    replace hZ := mj_u2p hZ
    replace hZ := mj_u2p hZ
    replace hZ := mj_u2p hZ
    replace hZ := mj_u2p hZ
    replace hZ := mj_u2p hZ
    replace hZ := mj_u2p hZ
    replace hZ := mj_u2p hZ
    rw [mj_rr (l' := [(1, r1), (18, r18), (19, r19), (20, r20), (21, r21), (22, r22), (23, r23), (24, r24), (25, r25), (26, r26), (32, r32), (33, r33), (34, r34), (35, r35), (36, r36), (37, r37), (38, r38), (39, r39), (40, r40), (70, eo6.2)]) rfl]
    exact hZ
  · obtain ⟨o6, hf, hx⟩ := mj_sxl hf hx
    obtain ⟨hr9, hI9, hL9⟩ := hx
    refine mj_cnv (s1 := []) (I2 := (mj_rows I [(1, r1), (18, r18), (19, r19), (20, r20), (21, r21), (22, r22), (23, r23), (24, r24), (25, r25), (26, r26), (32, r32), (33, r33), (34, r34), (35, r35), (36, r36), (37, r37), (38, r38), (39, r39), (40, r40), (70, o6)])) (L2 := L) (by rw [hr9]; rfl) (hI9.trans (mj_rr rfl)) hL9 ?_
    exact jtX10_arc_29 hR hlt F I L r1 r18 r19 r20 r21 r22 r23 r24 r25 r26 r32 r33 r34 r35 r36 r37 r38 r39 r40 o6 x1 x2 x3 o hf hq
set_option maxRecDepth 100000 in
set_option maxHeartbeats 4000000 in
theorem mtX10_arc {X : mj_XT} {l : Launch} {G : mj_GT} {ad : Nat → Nat} {Qn : Option Value → mj_IT → mj_LT → Prop} {Qx : String → mj_IT → mj_LT → Prop} (hR : mj_Rx X l G mj_P0 mj_S0 98 ad 4 24 Qn Qx) (hlt : l.stackTraces = false) (F : Nat) (I : mj_IT) (L : mj_LT) (r1 : Nat → Int32) (r18 : Nat → Int32) (r19 : Nat → Int32) (r20 : Nat → Int32) (r21 : Nat → Int32) (r22 : Nat → Int32) (r23 : Nat → Int32) (r24 : Nat → Int32) (r25 : Nat → Int32) (r26 : Nat → Int32) (r32 : Nat → Int32) (r33 : Nat → Int32) (r34 : Nat → Int32) (r35 : Nat → Int32) (r36 : Nat → Int32) (r37 : Nat → Int32) (r38 : Nat → Int32) (r39 : Nat → Int32) (r40 : Nat → Int32) (r70 : Nat → Int32) (x1 : Int32) (x2 : Int32) (x3 : Int32) (o : (((Int32) × (Nat → Int32) × (Nat → Int32) × (Nat → Int32) × (Nat → Int32) × (Nat → Int32) × (Nat → Int32) × (Nat → Int32) × (Nat → Int32) × (Nat → Int32) × (Nat → Int32)) ⊕ ((Nat) × (Nat → Int32) × (Nat → Int32) × (Nat → Int32) × (Nat → Int32) × (Nat → Int32) × (Nat → Int32) × (Nat → Int32) × (Nat → Int32) × (Nat → Int32) × (Nat → Int32)))) (hf : fnX10_arc F r1 r18 r19 r20 r21 r22 r23 r24 r25 r26 r32 r33 r34 r35 r36 r37 r38 r39 r40 r70 x1 x2 x3 = some o) (hq : (Sum.elim (mj_u2 (fun ov => (mj_u2 (fun r32 => (mj_u2 (fun r33 => (mj_u2 (fun r34 => (mj_u2 (fun r35 => (mj_u2 (fun r36 => (mj_u2 (fun r37 => (mj_u2 (fun r38 => (mj_u2 (fun r39 => (mj_u2 (fun r40 r70 => Qn (some (.int ov)) (mj_rows I [(1, r1), (18, r18), (19, r19), (20, r20), (21, r21), (22, r22), (23, r23), (24, r24), (25, r25), (26, r26), (32, r32), (33, r33), (34, r34), (35, r35), (36, r36), (37, r37), (38, r38), (39, r39), (40, r40), (70, r70)]) L)))))))))))))))))))) (mj_u2 (fun kx => (mj_u2 (fun r32 => (mj_u2 (fun r33 => (mj_u2 (fun r34 => (mj_u2 (fun r35 => (mj_u2 (fun r36 => (mj_u2 (fun r37 => (mj_u2 (fun r38 => (mj_u2 (fun r39 => (mj_u2 (fun r40 r70 => Qx (mj_en kx) (mj_rows I [(1, r1), (18, r18), (19, r19), (20, r20), (21, r21), (22, r22), (23, r23), (24, r24), (25, r25), (26, r26), (32, r32), (33, r33), (34, r34), (35, r35), (36, r36), (37, r37), (38, r38), (39, r39), (40, r40), (70, r70)]) L))))))))))))))))))))) o) : mj_W X G RX10 "arc" cX10_arc 5 9 (some .int) mj_P0 mj_S0 98 ad 0 0 0 [(0, .ref 1), (1, .int x1), (2, .int x2), (3, .int x3)] [] (mj_rows I [(1, r1), (18, r18), (19, r19), (20, r20), (21, r21), (22, r22), (23, r23), (24, r24), (25, r25), (26, r26), (32, r32), (33, r33), (34, r34), (35, r35), (36, r36), (37, r37), (38, r38), (39, r39), (40, r40), (70, r70)]) L := by
  unfold fnX10_arc at hf
  refine mj_aload_n 0 dX10_arc_0 rfl ?_
  obtain ⟨so7, ho7, hf⟩ := mj_bd hf
  refine mj_callVx (st := []) [] hR (cmX10_needStates l G hlt F  _ _ r1 r18 r19 r20 r21 r22 r23 r24 r25 r26 r32 r33 r34 r35 r36 r37 r38 r39 r40 r70 rfl rfl rfl rfl rfl rfl rfl rfl rfl rfl rfl rfl rfl rfl rfl rfl rfl rfl rfl rfl so7 ho7) cw_X10_175 s0_1 a0_1 (by decide) rfl rfl (Nat.le_of_ble_eq_true rfl) ⟨by decide, by decide⟩ dX10_arc_1 (fun E I2 L2 hx => ?_) (fun rv I2 L2 hx => ?_)
  · obtain ⟨eo7, hf, hx⟩ := mj_sxr hf hx
    obtain rfl := Option.some.inj hf
    obtain ⟨hE9, hI9, hL9⟩ := hx
    rw [hE9, hI9, hL9]
    have hZ := mj_er hq
    replace hZ := mj_u2p hZ
    replace hZ := mj_u2p hZ
    replace hZ := mj_u2p hZ
    replace hZ := mj_u2p hZ
    replace hZ := mj_u2p hZ
    replace hZ := mj_u2p hZ
    replace hZ := mj_u2p hZ
    replace hZ := mj_u2p hZ
    replace hZ := mj_u2p hZ
    replace hZ := mj_u2p hZ
    rw [mj_rr (l' := [(1, r1), (18, r18), (19, r19), (20, r20), (21, r21), (22, r22), (23, r23), (24, r24), (25, r25), (26, r26), (32, eo7.2.1), (33, eo7.2.2.1), (34, eo7.2.2.2.1), (35, eo7.2.2.2.2.1), (36, eo7.2.2.2.2.2.1), (37, eo7.2.2.2.2.2.2.1), (38, eo7.2.2.2.2.2.2.2.1), (39, eo7.2.2.2.2.2.2.2.2.1), (40, eo7.2.2.2.2.2.2.2.2.2.1), (70, eo7.2.2.2.2.2.2.2.2.2.2)]) rfl]
    exact hZ
  · obtain ⟨o7, hf, hx⟩ := mj_sxl hf hx
    obtain ⟨hr9, hI9, hL9⟩ := hx
    refine mj_cnv (s1 := []) (I2 := (mj_rows I [(1, r1), (18, r18), (19, r19), (20, r20), (21, r21), (22, r22), (23, r23), (24, r24), (25, r25), (26, r26), (32, o7.1), (33, o7.2.1), (34, o7.2.2.1), (35, o7.2.2.2.1), (36, o7.2.2.2.2.1), (37, o7.2.2.2.2.2.1), (38, o7.2.2.2.2.2.2.1), (39, o7.2.2.2.2.2.2.2.1), (40, o7.2.2.2.2.2.2.2.2.1), (70, o7.2.2.2.2.2.2.2.2.2)])) (L2 := L) (by rw [hr9]; rfl) (hI9.trans (mj_rr rfl)) hL9 ?_
    refine mj_aload_n 0 dX10_arc_4 rfl ?_
    refine mj_iload_n 1 dX10_arc_5 rfl ?_
    obtain ⟨so8, ho8, hf⟩ := mj_bd hf
    refine mj_callVx (st := []) [.int x1] hR (cmX10_needState l G hlt F x1 _ _ o7.1 o7.2.2.2.2.2.2.2.2.2 rfl rfl so8 ho8) cw_X10_178 s0_1 a0_1 (by decide) rfl rfl (Nat.le_of_ble_eq_true rfl) ⟨by decide, by decide⟩ dX10_arc_6 (fun E I2 L2 hx => ?_) (fun rv I2 L2 hx => ?_)
    · obtain ⟨eo8, hf, hx⟩ := mj_sxr hf hx
      obtain rfl := Option.some.inj hf
      obtain ⟨hE9, hI9, hL9⟩ := hx
      rw [hE9, hI9, hL9]
      have hZ := mj_er hq
      replace hZ := mj_u2p hZ
      replace hZ := mj_u2p hZ
      replace hZ := mj_u2p hZ
      replace hZ := mj_u2p hZ
      replace hZ := mj_u2p hZ
      replace hZ := mj_u2p hZ
      replace hZ := mj_u2p hZ
      replace hZ := mj_u2p hZ
      replace hZ := mj_u2p hZ
      replace hZ := mj_u2p hZ
      rw [mj_rr (l' := [(1, r1), (18, r18), (19, r19), (20, r20), (21, r21), (22, r22), (23, r23), (24, r24), (25, r25), (26, r26), (32, o7.1), (33, o7.2.1), (34, o7.2.2.1), (35, o7.2.2.2.1), (36, o7.2.2.2.2.1), (37, o7.2.2.2.2.2.1), (38, o7.2.2.2.2.2.2.1), (39, o7.2.2.2.2.2.2.2.1), (40, o7.2.2.2.2.2.2.2.2.1), (70, eo8.2)]) rfl]
      exact hZ
    · obtain ⟨o8, hf, hx⟩ := mj_sxl hf hx
      obtain ⟨hr9, hI9, hL9⟩ := hx
      refine mj_cnv (s1 := []) (I2 := (mj_rows I [(1, r1), (18, r18), (19, r19), (20, r20), (21, r21), (22, r22), (23, r23), (24, r24), (25, r25), (26, r26), (32, o7.1), (33, o7.2.1), (34, o7.2.2.1), (35, o7.2.2.2.1), (36, o7.2.2.2.2.1), (37, o7.2.2.2.2.2.1), (38, o7.2.2.2.2.2.2.1), (39, o7.2.2.2.2.2.2.2.1), (40, o7.2.2.2.2.2.2.2.2.1), (70, o8)])) (L2 := L) (by rw [hr9]; rfl) (hI9.trans (mj_rr rfl)) hL9 ?_
      refine mj_iload_n 2 dX10_arc_9 rfl ?_
      refine mj_if_lt 25 dX10_arc_10 (by decide) (fun c9 => ?_) (fun c9 => ?_)
      · replace hf := mj_pos c9 hf
        exact jtX10_arc_25 hR hlt F I L r1 r18 r19 r20 r21 r22 r23 r24 r25 r26 o7.1 o7.2.1 o7.2.2.1 o7.2.2.2.1 o7.2.2.2.2.1 o7.2.2.2.2.2.1 o7.2.2.2.2.2.2.1 o7.2.2.2.2.2.2.2.1 o7.2.2.2.2.2.2.2.2.1 o8 x1 x2 x3 o hf hq
      · replace hf := mj_neg c9 hf
        refine mj_iload_n 2 dX10_arc_13 rfl ?_
        refine mj_aload_n 0 dX10_arc_14 rfl ?_
        refine mj_getP p0_1_5 (by decide) fl_X10_37 rfl s0_1 a0_1 dX10_arc_15 ?_
        refine mj_iload_n 1 dX10_arc_18 rfl ?_
        obtain ⟨o10, ho10, hf⟩ := mj_bd hf
        refine mj_callVd (I2 := (mj_rows I [(1, r1), (18, r18), (19, r19), (20, r20), (21, r21), (22, r22), (23, r23), (24, r24), (25, r25), (26, r26), (32, o7.1), (33, o7.2.1), (34, o7.2.2.1), (35, o7.2.2.2.1), (36, o7.2.2.2.2.1), (37, o7.2.2.2.2.2.1), (38, o7.2.2.2.2.2.2.1), (39, o7.2.2.2.2.2.2.2.1), (40, o7.2.2.2.2.2.2.2.2.1), (70, o8)])) (L2 := L) (s1 := [.int o10, .int x2]) (st := [.int x2]) [.int x1] (cmX4_arcsOf X.2.1 G F x1 _ _ o7.2.2.2.2.2.1 rfl o10 ho10) (mj_rr rfl) rfl cw_X10_191 s0_32 a0_32 (by decide) rfl rfl (Nat.le_of_ble_eq_true rfl) (mj_rxc hR ⟨by decide, by decide⟩) dX10_arc_19 rfl ?_
        refine mj_icmp_lt 29 dX10_arc_22 (by decide) (fun c11 => ?_) (fun c11 => ?_)
        · replace hf := mj_pos c11 hf
          refine mj_wid (kc' := 3) (ks' := 18) (by decide) (by decide) ?_
          exact jtX10_arc_29 hR hlt F I L r1 r18 r19 r20 r21 r22 r23 r24 r25 r26 o7.1 o7.2.1 o7.2.2.1 o7.2.2.2.1 o7.2.2.2.2.1 o7.2.2.2.2.2.1 o7.2.2.2.2.2.2.1 o7.2.2.2.2.2.2.2.1 o7.2.2.2.2.2.2.2.2.1 o8 x1 x2 x3 o hf hq
        · replace hf := mj_neg c11 hf
          exact jtX10_arc_25 hR hlt F I L r1 r18 r19 r20 r21 r22 r23 r24 r25 r26 o7.1 o7.2.1 o7.2.2.1 o7.2.2.2.1 o7.2.2.2.2.1 o7.2.2.2.2.2.1 o7.2.2.2.2.2.2.1 o7.2.2.2.2.2.2.2.1 o7.2.2.2.2.2.2.2.2.1 o8 x1 x2 x3 o hf hq
set_option maxRecDepth 100000 in
set_option maxHeartbeats 4000000 in
theorem cmX10_arc (l : Launch) (G : mj_GT) (hlt : l.stackTraces = false) (F : Nat) (x1 : Int32) (x2 : Int32) (x3 : Int32) (I : mj_IT) (L : mj_LT) (r1 : Nat → Int32) (r18 : Nat → Int32) (r19 : Nat → Int32) (r20 : Nat → Int32) (r21 : Nat → Int32) (r22 : Nat → Int32) (r23 : Nat → Int32) (r24 : Nat → Int32) (r25 : Nat → Int32) (r26 : Nat → Int32) (r32 : Nat → Int32) (r33 : Nat → Int32) (r34 : Nat → Int32) (r35 : Nat → Int32) (r36 : Nat → Int32) (r37 : Nat → Int32) (r38 : Nat → Int32) (r39 : Nat → Int32) (r40 : Nat → Int32) (r70 : Nat → Int32) (hr1 : I 1 = r1) (hr18 : I 18 = r18) (hr19 : I 19 = r19) (hr20 : I 20 = r20) (hr21 : I 21 = r21) (hr22 : I 22 = r22) (hr23 : I 23 = r23) (hr24 : I 24 = r24) (hr25 : I 25 = r25) (hr26 : I 26 = r26) (hr32 : I 32 = r32) (hr33 : I 33 = r33) (hr34 : I 34 = r34) (hr35 : I 35 = r35) (hr36 : I 36 = r36) (hr37 : I 37 = r37) (hr38 : I 38 = r38) (hr39 : I 39 = r39) (hr40 : I 40 = r40) (hr70 : I 70 = r70) (o : (((Int32) × (Nat → Int32) × (Nat → Int32) × (Nat → Int32) × (Nat → Int32) × (Nat → Int32) × (Nat → Int32) × (Nat → Int32) × (Nat → Int32) × (Nat → Int32) × (Nat → Int32)) ⊕ ((Nat) × (Nat → Int32) × (Nat → Int32) × (Nat → Int32) × (Nat → Int32) × (Nat → Int32) × (Nat → Int32) × (Nat → Int32) × (Nat → Int32) × (Nat → Int32) × (Nat → Int32)))) (hf : fnX10_arc F r1 r18 r19 r20 r21 r22 r23 r24 r25 r26 r32 r33 r34 r35 r36 r37 r38 r39 r40 r70 x1 x2 x3 = some o) : mj_Mx l G yX10_arc cX10_arc 5 9 (some .int) 4 24 mj_P0 mj_S0 98 [.ref 1, .int x1, .int x2, .int x3] I L (fun rv I2 L2 => Sum.elim (fun o => rv = (some (.int o.1)) ∧ I2 = (mj_rows I [(1, r1), (18, r18), (19, r19), (20, r20), (21, r21), (22, r22), (23, r23), (24, r24), (25, r25), (26, r26), (32, o.2.1), (33, o.2.2.1), (34, o.2.2.2.1), (35, o.2.2.2.2.1), (36, o.2.2.2.2.2.1), (37, o.2.2.2.2.2.2.1), (38, o.2.2.2.2.2.2.2.1), (39, o.2.2.2.2.2.2.2.2.1), (40, o.2.2.2.2.2.2.2.2.2.1), (70, o.2.2.2.2.2.2.2.2.2.2)]) ∧ L2 = L) (fun _ => False) o) (fun E I2 L2 => Sum.elim (fun _ => False) (fun o => E = mj_en o.1 ∧ I2 = (mj_rows I [(1, r1), (18, r18), (19, r19), (20, r20), (21, r21), (22, r22), (23, r23), (24, r24), (25, r25), (26, r26), (32, o.2.1), (33, o.2.2.1), (34, o.2.2.2.1), (35, o.2.2.2.2.1), (36, o.2.2.2.2.2.1), (37, o.2.2.2.2.2.2.1), (38, o.2.2.2.2.2.2.2.1), (39, o.2.2.2.2.2.2.2.2.1), (40, o.2.2.2.2.2.2.2.2.2.1), (70, o.2.2.2.2.2.2.2.2.2.2)]) ∧ L2 = L) o) := by
  refine mj_inx RX10 "arc" [(0, .ref 1), (1, .int x1), (2, .int x2), (3, .int x3)] rfl rfl rfl (by decide) (Nat.le_of_ble_eq_true rfl) (fun X ad hR => ?_)
  refine mj_toI [(1, r1), (18, r18), (19, r19), (20, r20), (21, r21), (22, r22), (23, r23), (24, r24), (25, r25), (26, r26), (32, r32), (33, r33), (34, r34), (35, r35), (36, r36), (37, r37), (38, r38), (39, r39), (40, r40), (70, r70)] (by intro q hq; simp only [List.mem_cons, List.not_mem_nil, or_false] at hq; rcases hq with rfl | rfl | rfl | rfl | rfl | rfl | rfl | rfl | rfl | rfl | rfl | rfl | rfl | rfl | rfl | rfl | rfl | rfl | rfl | rfl <;> assumption) ?_
  refine mtX10_arc hR hlt F I L r1 r18 r19 r20 r21 r22 r23 r24 r25 r26 r32 r33 r34 r35 r36 r37 r38 r39 r40 r70 x1 x2 x3 o hf ?_
  rcases o with o | o
  · refine mj_elq ?_
    obtain ⟨w0, w1, w2, w3, w4, w5, w6, w7, w8, w9, w10⟩ := o
    refine mj_u2q ?_
    refine mj_u2q ?_
    refine mj_u2q ?_
    refine mj_u2q ?_
    refine mj_u2q ?_
    refine mj_u2q ?_
    refine mj_u2q ?_
    refine mj_u2q ?_
    refine mj_u2q ?_
    refine mj_u2q ?_
    refine mj_elq ?_
    exact ⟨rfl, rfl, rfl⟩
  · refine mj_erq ?_
    obtain ⟨w0, w1, w2, w3, w4, w5, w6, w7, w8, w9, w10⟩ := o
    refine mj_u2q ?_
    refine mj_u2q ?_
    refine mj_u2q ?_
    refine mj_u2q ?_
    refine mj_u2q ?_
    refine mj_u2q ?_
    refine mj_u2q ?_
    refine mj_u2q ?_
    refine mj_u2q ?_
    refine mj_u2q ?_
    refine mj_erq ?_
    exact ⟨rfl, rfl, rfl⟩

-- X10_needForm
def fnX10_needForm (F : Nat) (r70 : Nat → Int32) (x1 : Int32) : Option (((Nat → Int32)) ⊕ ((Nat) × (Nat → Int32))) := (fnX10_needNumber F r70 x1 (0 : Int32) (2 : Int32)).bind (Sum.elim (fun o1 => some (.inl o1)) (fun eo1 => some (.inr (eo1.1, eo1.2))))
set_option maxRecDepth 100000 in
set_option maxHeartbeats 4000000 in
theorem mtX10_needForm {X : mj_XT} {l : Launch} {G : mj_GT} {ad : Nat → Nat} {Qn : Option Value → mj_IT → mj_LT → Prop} {Qx : String → mj_IT → mj_LT → Prop} (hR : mj_Rx X l G mj_P0 mj_S0 98 ad 1 6 Qn Qx) (hlt : l.stackTraces = false) (F : Nat) (I : mj_IT) (L : mj_LT) (r70 : Nat → Int32) (x1 : Int32) (o : (((Nat → Int32)) ⊕ ((Nat) × (Nat → Int32)))) (hf : fnX10_needForm F r70 x1 = some o) (hq : (Sum.elim (fun r70 => Qn none (mj_rows I [(70, r70)]) L) (mj_u2 (fun kx r70 => Qx (mj_en kx) (mj_rows I [(70, r70)]) L))) o) : mj_W X G RX10 "needForm" cX10_needForm 2 9 none mj_P0 mj_S0 98 ad 0 0 0 [(0, .ref 1), (1, .int x1)] [] (mj_rows I [(70, r70)]) L := by
  unfold fnX10_needForm at hf
  refine mj_aload_n 0 dX10_needForm_0 rfl ?_
  refine mj_iload_n 1 dX10_needForm_1 rfl ?_
  refine mj_iconst dX10_needForm_2 kc_iconst_0 ?_
  refine mj_iconst dX10_needForm_3 kc_iconst_2 ?_
  obtain ⟨so1, ho1, hf⟩ := mj_bd hf
  refine mj_callVx (st := []) [.int x1, .int (0 : Int32), .int (2 : Int32)] hR (cmX10_needNumber l G hlt F x1 (0 : Int32) (2 : Int32) _ _ r70 rfl so1 ho1) cw_X10_80 s0_1 a0_1 (by decide) rfl rfl (Nat.le_of_ble_eq_true rfl) ⟨by decide, by decide⟩ dX10_needForm_4 (fun E I2 L2 hx => ?_) (fun rv I2 L2 hx => ?_)
  · obtain ⟨eo1, hf, hx⟩ := mj_sxr hf hx
    obtain rfl := Option.some.inj hf
    obtain ⟨hE9, hI9, hL9⟩ := hx
    rw [hE9, hI9, hL9]
    have hZ := mj_er hq
    replace hZ := mj_u2p hZ
    rw [mj_rr (l' := [(70, eo1.2)]) rfl]
    exact hZ
  · obtain ⟨o1, hf, hx⟩ := mj_sxl hf hx
    obtain ⟨hr9, hI9, hL9⟩ := hx
    refine mj_cnv (s1 := []) (I2 := (mj_rows I [(70, o1)])) (L2 := L) (by rw [hr9]; rfl) (hI9.trans (mj_rr rfl)) hL9 ?_
    obtain rfl := Option.some.inj hf
    have hZ := mj_el hq
    exact mj_vretx hR ⟨by decide, by decide⟩ rfl dX10_needForm_7 hZ
set_option maxRecDepth 100000 in
set_option maxHeartbeats 4000000 in
theorem cmX10_needForm (l : Launch) (G : mj_GT) (hlt : l.stackTraces = false) (F : Nat) (x1 : Int32) (I : mj_IT) (L : mj_LT) (r70 : Nat → Int32) (hr70 : I 70 = r70) (o : (((Nat → Int32)) ⊕ ((Nat) × (Nat → Int32)))) (hf : fnX10_needForm F r70 x1 = some o) : mj_Mx l G yX10_needForm cX10_needForm 2 9 none 1 6 mj_P0 mj_S0 98 [.ref 1, .int x1] I L (fun rv I2 L2 => Sum.elim (fun o => rv = none ∧ I2 = (mj_rows I [(70, o)]) ∧ L2 = L) (fun _ => False) o) (fun E I2 L2 => Sum.elim (fun _ => False) (fun o => E = mj_en o.1 ∧ I2 = (mj_rows I [(70, o.2)]) ∧ L2 = L) o) := by
  refine mj_inx RX10 "needForm" [(0, .ref 1), (1, .int x1)] rfl rfl rfl (by decide) (Nat.le_of_ble_eq_true rfl) (fun X ad hR => ?_)
  refine mj_toI [(70, r70)] (by intro q hq; simp only [List.mem_cons, List.not_mem_nil, or_false] at hq; rcases hq with rfl <;> assumption) ?_
  refine mtX10_needForm hR hlt F I L r70 x1 o hf ?_
  rcases o with o | o
  · refine mj_elq ?_
    refine mj_elq ?_
    exact ⟨rfl, rfl, rfl⟩
  · refine mj_erq ?_
    obtain ⟨w0, w1⟩ := o
    refine mj_u2q ?_
    refine mj_erq ?_
    exact ⟨rfl, rfl, rfl⟩

-- X10_total
def fnX10_total (F : Nat) (r1 : Nat → Int32) (r18 : Nat → Int32) (r19 : Nat → Int32) (r20 : Nat → Int32) (r21 : Nat → Int32) (r22 : Nat → Int32) (r23 : Nat → Int32) (r24 : Nat → Int32) (r25 : Nat → Int32) (r26 : Nat → Int32) (r32 : Nat → Int32) (r33 : Nat → Int32) (r34 : Nat → Int32) (r35 : Nat → Int32) (r36 : Nat → Int32) (r37 : Nat → Int32) (r38 : Nat → Int32) (r39 : Nat → Int32) (r40 : Nat → Int32) (r41 : Nat → Int32) (r42 : Nat → Int32) (r43 : Nat → Int32) (r44 : Nat → Int32) (r45 : Nat → Int32) (r46 : Nat → Int32) (r50 : Nat → Int32) (r70 : Nat → Int32) (x1 : Int32) (x2 : Int32) : Option (((Int32) × (Nat → Int32) × (Nat → Int32) × (Nat → Int32) × (Nat → Int32) × (Nat → Int32) × (Nat → Int32) × (Nat → Int32) × (Nat → Int32) × (Nat → Int32) × (Nat → Int32) × (Nat → Int32) × (Nat → Int32) × (Nat → Int32) × (Nat → Int32) × (Nat → Int32) × (Nat → Int32) × (Nat → Int32)) ⊕ ((Nat) × (Nat → Int32) × (Nat → Int32) × (Nat → Int32) × (Nat → Int32) × (Nat → Int32) × (Nat → Int32) × (Nat → Int32) × (Nat → Int32) × (Nat → Int32) × (Nat → Int32) × (Nat → Int32) × (Nat → Int32) × (Nat → Int32) × (Nat → Int32) × (Nat → Int32) × (Nat → Int32) × (Nat → Int32))) := (fnX10_needStates F r1 r18 r19 r20 r21 r22 r23 r24 r25 r26 r32 r33 r34 r35 r36 r37 r38 r39 r40 r70).bind (Sum.elim (fun o1 => (fnX10_needNumber F o1.2.2.2.2.2.2.2.2.2 x1 (0 : Int32) (2 : Int32)).bind (Sum.elim (fun o2 => (fnX10_needForm F o2 x2).bind (Sum.elim (fun o3 => (fnX2_solve F o1.1 o1.2.1 o1.2.2.2.2.1 o1.2.2.2.2.2.1 o1.2.2.2.2.2.2.1 o1.2.2.2.2.2.2.2.1 r41 r42 r43 r44 r45 r46 r50).bind (fun o4 => (if o4.1 = 0 then some (.inl ((-3 : Int32), o1.1, o1.2.1, o1.2.2.1, o1.2.2.2.1, o1.2.2.2.2.1, o1.2.2.2.2.2.1, o1.2.2.2.2.2.2.1, o1.2.2.2.2.2.2.2.1, o1.2.2.2.2.2.2.2.2.1, o4.2.1, o4.2.2.1, o4.2.2.2.1, o4.2.2.2.2.1, o4.2.2.2.2.2.1, o4.2.2.2.2.2.2.1, o4.2.2.2.2.2.2.2, o3)) else (if x1 = (0 : Int32) then (fnX3_inForm F (o4.2.1 0) x2).bind (fun o7 => some (.inl (o7, o1.1, o1.2.1, o1.2.2.1, o1.2.2.2.1, o1.2.2.2.2.1, o1.2.2.2.2.2.1, o1.2.2.2.2.2.2.1, o1.2.2.2.2.2.2.2.1, o1.2.2.2.2.2.2.2.2.1, o4.2.1, o4.2.2.1, o4.2.2.2.1, o4.2.2.2.2.1, o4.2.2.2.2.2.1, o4.2.2.2.2.2.2.1, o4.2.2.2.2.2.2.2, o3))) else (if x1 = (1 : Int32) then (fnX3_inForm F (o4.2.1 1) x2).bind (fun o8 => some (.inl (o8, o1.1, o1.2.1, o1.2.2.1, o1.2.2.2.1, o1.2.2.2.2.1, o1.2.2.2.2.2.1, o1.2.2.2.2.2.2.1, o1.2.2.2.2.2.2.2.1, o1.2.2.2.2.2.2.2.2.1, o4.2.1, o4.2.2.1, o4.2.2.2.1, o4.2.2.2.2.1, o4.2.2.2.2.2.1, o4.2.2.2.2.2.2.1, o4.2.2.2.2.2.2.2, o3))) else (fnX2_forEver F o4.2.1).bind (fun o9 => (fnX3_inForm F o9 x2).bind (fun o10 => some (.inl (o10, o1.1, o1.2.1, o1.2.2.1, o1.2.2.2.1, o1.2.2.2.2.1, o1.2.2.2.2.2.1, o1.2.2.2.2.2.2.1, o1.2.2.2.2.2.2.2.1, o1.2.2.2.2.2.2.2.2.1, o4.2.1, o4.2.2.1, o4.2.2.2.1, o4.2.2.2.2.1, o4.2.2.2.2.2.1, o4.2.2.2.2.2.2.1, o4.2.2.2.2.2.2.2, o3))))))))) (fun eo3 => some (.inr (eo3.1, o1.1, o1.2.1, o1.2.2.1, o1.2.2.2.1, o1.2.2.2.2.1, o1.2.2.2.2.2.1, o1.2.2.2.2.2.2.1, o1.2.2.2.2.2.2.2.1, o1.2.2.2.2.2.2.2.2.1, r41, r42, r43, r44, r45, r46, r50, eo3.2))))) (fun eo2 => some (.inr (eo2.1, o1.1, o1.2.1, o1.2.2.1, o1.2.2.2.1, o1.2.2.2.2.1, o1.2.2.2.2.2.1, o1.2.2.2.2.2.2.1, o1.2.2.2.2.2.2.2.1, o1.2.2.2.2.2.2.2.2.1, r41, r42, r43, r44, r45, r46, r50, eo2.2))))) (fun eo1 => some (.inr (eo1.1, eo1.2.1, eo1.2.2.1, eo1.2.2.2.1, eo1.2.2.2.2.1, eo1.2.2.2.2.2.1, eo1.2.2.2.2.2.2.1, eo1.2.2.2.2.2.2.2.1, eo1.2.2.2.2.2.2.2.2.1, eo1.2.2.2.2.2.2.2.2.2.1, r41, r42, r43, r44, r45, r46, r50, eo1.2.2.2.2.2.2.2.2.2.2))))
set_option maxRecDepth 100000 in
set_option maxHeartbeats 4000000 in
theorem mtX10_total {X : mj_XT} {l : Launch} {G : mj_GT} {ad : Nat → Nat} {Qn : Option Value → mj_IT → mj_LT → Prop} {Qx : String → mj_IT → mj_LT → Prop} (hR : mj_Rx X l G mj_P0 mj_S0 98 ad 3 18 Qn Qx) (hlt : l.stackTraces = false) (F : Nat) (I : mj_IT) (L : mj_LT) (r1 : Nat → Int32) (r18 : Nat → Int32) (r19 : Nat → Int32) (r20 : Nat → Int32) (r21 : Nat → Int32) (r22 : Nat → Int32) (r23 : Nat → Int32) (r24 : Nat → Int32) (r25 : Nat → Int32) (r26 : Nat → Int32) (r32 : Nat → Int32) (r33 : Nat → Int32) (r34 : Nat → Int32) (r35 : Nat → Int32) (r36 : Nat → Int32) (r37 : Nat → Int32) (r38 : Nat → Int32) (r39 : Nat → Int32) (r40 : Nat → Int32) (r41 : Nat → Int32) (r42 : Nat → Int32) (r43 : Nat → Int32) (r44 : Nat → Int32) (r45 : Nat → Int32) (r46 : Nat → Int32) (r50 : Nat → Int32) (r70 : Nat → Int32) (x1 : Int32) (x2 : Int32) (o : (((Int32) × (Nat → Int32) × (Nat → Int32) × (Nat → Int32) × (Nat → Int32) × (Nat → Int32) × (Nat → Int32) × (Nat → Int32) × (Nat → Int32) × (Nat → Int32) × (Nat → Int32) × (Nat → Int32) × (Nat → Int32) × (Nat → Int32) × (Nat → Int32) × (Nat → Int32) × (Nat → Int32) × (Nat → Int32)) ⊕ ((Nat) × (Nat → Int32) × (Nat → Int32) × (Nat → Int32) × (Nat → Int32) × (Nat → Int32) × (Nat → Int32) × (Nat → Int32) × (Nat → Int32) × (Nat → Int32) × (Nat → Int32) × (Nat → Int32) × (Nat → Int32) × (Nat → Int32) × (Nat → Int32) × (Nat → Int32) × (Nat → Int32) × (Nat → Int32)))) (hf : fnX10_total F r1 r18 r19 r20 r21 r22 r23 r24 r25 r26 r32 r33 r34 r35 r36 r37 r38 r39 r40 r41 r42 r43 r44 r45 r46 r50 r70 x1 x2 = some o) (hq : (Sum.elim (mj_u2 (fun ov => (mj_u2 (fun r32 => (mj_u2 (fun r33 => (mj_u2 (fun r34 => (mj_u2 (fun r35 => (mj_u2 (fun r36 => (mj_u2 (fun r37 => (mj_u2 (fun r38 => (mj_u2 (fun r39 => (mj_u2 (fun r40 => (mj_u2 (fun r41 => (mj_u2 (fun r42 => (mj_u2 (fun r43 => (mj_u2 (fun r44 => (mj_u2 (fun r45 => (mj_u2 (fun r46 => (mj_u2 (fun r50 r70 => Qn (some (.int ov)) (mj_rows I [(1, r1), (18, r18), (19, r19), (20, r20), (21, r21), (22, r22), (23, r23), (24, r24), (25, r25), (26, r26), (32, r32), (33, r33), (34, r34), (35, r35), (36, r36), (37, r37), (38, r38), (39, r39), (40, r40), (41, r41), (42, r42), (43, r43), (44, r44), (45, r45), (46, r46), (50, r50), (70, r70)]) L)))))))))))))))))))))))))))))))))) (mj_u2 (fun kx => (mj_u2 (fun r32 => (mj_u2 (fun r33 => (mj_u2 (fun r34 => (mj_u2 (fun r35 => (mj_u2 (fun r36 => (mj_u2 (fun r37 => (mj_u2 (fun r38 => (mj_u2 (fun r39 => (mj_u2 (fun r40 => (mj_u2 (fun r41 => (mj_u2 (fun r42 => (mj_u2 (fun r43 => (mj_u2 (fun r44 => (mj_u2 (fun r45 => (mj_u2 (fun r46 => (mj_u2 (fun r50 r70 => Qx (mj_en kx) (mj_rows I [(1, r1), (18, r18), (19, r19), (20, r20), (21, r21), (22, r22), (23, r23), (24, r24), (25, r25), (26, r26), (32, r32), (33, r33), (34, r34), (35, r35), (36, r36), (37, r37), (38, r38), (39, r39), (40, r40), (41, r41), (42, r42), (43, r43), (44, r44), (45, r45), (46, r46), (50, r50), (70, r70)]) L))))))))))))))))))))))))))))))))))) o) : mj_W X G RX10 "total" cX10_total 3 10 (some .int) mj_P0 mj_S0 98 ad 0 0 0 [(0, .ref 1), (1, .int x1), (2, .int x2)] [] (mj_rows I [(1, r1), (18, r18), (19, r19), (20, r20), (21, r21), (22, r22), (23, r23), (24, r24), (25, r25), (26, r26), (32, r32), (33, r33), (34, r34), (35, r35), (36, r36), (37, r37), (38, r38), (39, r39), (40, r40), (41, r41), (42, r42), (43, r43), (44, r44), (45, r45), (46, r46), (50, r50), (70, r70)]) L := by
  unfold fnX10_total at hf
  refine mj_aload_n 0 dX10_total_0 rfl ?_
  obtain ⟨so1, ho1, hf⟩ := mj_bd hf
  refine mj_callVx (st := []) [] hR (cmX10_needStates l G hlt F  _ _ r1 r18 r19 r20 r21 r22 r23 r24 r25 r26 r32 r33 r34 r35 r36 r37 r38 r39 r40 r70 rfl rfl rfl rfl rfl rfl rfl rfl rfl rfl rfl rfl rfl rfl rfl rfl rfl rfl rfl rfl so1 ho1) cw_X10_175 s0_1 a0_1 (by decide) rfl rfl (Nat.le_of_ble_eq_true rfl) ⟨by decide, by decide⟩ dX10_total_1 (fun E I2 L2 hx => ?_) (fun rv I2 L2 hx => ?_)
  · obtain ⟨eo1, hf, hx⟩ := mj_sxr hf hx
    obtain rfl := Option.some.inj hf
    obtain ⟨hE9, hI9, hL9⟩ := hx
    rw [hE9, hI9, hL9]
    have hZ := mj_er hq
    replace hZ := mj_u2p hZ
    replace hZ := mj_u2p hZ
    replace hZ := mj_u2p hZ
    replace hZ := mj_u2p hZ
    replace hZ := mj_u2p hZ
    replace hZ := mj_u2p hZ
    replace hZ := mj_u2p hZ
    replace hZ := mj_u2p hZ
    replace hZ := mj_u2p hZ
    replace hZ := mj_u2p hZ
    replace hZ := mj_u2p hZ
    replace hZ := mj_u2p hZ
    replace hZ := mj_u2p hZ
    replace hZ := mj_u2p hZ
    replace hZ := mj_u2p hZ
    replace hZ := mj_u2p hZ
    replace hZ := mj_u2p hZ
    rw [mj_rr (l' := [(1, r1), (18, r18), (19, r19), (20, r20), (21, r21), (22, r22), (23, r23), (24, r24), (25, r25), (26, r26), (32, eo1.2.1), (33, eo1.2.2.1), (34, eo1.2.2.2.1), (35, eo1.2.2.2.2.1), (36, eo1.2.2.2.2.2.1), (37, eo1.2.2.2.2.2.2.1), (38, eo1.2.2.2.2.2.2.2.1), (39, eo1.2.2.2.2.2.2.2.2.1), (40, eo1.2.2.2.2.2.2.2.2.2.1), (41, r41), (42, r42), (43, r43), (44, r44), (45, r45), (46, r46), (50, r50), (70, eo1.2.2.2.2.2.2.2.2.2.2)]) rfl]
    exact hZ
  · obtain ⟨o1, hf, hx⟩ := mj_sxl hf hx
    obtain ⟨hr9, hI9, hL9⟩ := hx
    refine mj_cnv (s1 := []) (I2 := (mj_rows I [(1, r1), (18, r18), (19, r19), (20, r20), (21, r21), (22, r22), (23, r23), (24, r24), (25, r25), (26, r26), (32, o1.1), (33, o1.2.1), (34, o1.2.2.1), (35, o1.2.2.2.1), (36, o1.2.2.2.2.1), (37, o1.2.2.2.2.2.1), (38, o1.2.2.2.2.2.2.1), (39, o1.2.2.2.2.2.2.2.1), (40, o1.2.2.2.2.2.2.2.2.1), (41, r41), (42, r42), (43, r43), (44, r44), (45, r45), (46, r46), (50, r50), (70, o1.2.2.2.2.2.2.2.2.2)])) (L2 := L) (by rw [hr9]; rfl) (hI9.trans (mj_rr rfl)) hL9 ?_
    refine mj_aload_n 0 dX10_total_4 rfl ?_
    refine mj_iload_n 1 dX10_total_5 rfl ?_
    refine mj_iconst dX10_total_6 kc_iconst_0 ?_
    refine mj_iconst dX10_total_7 kc_iconst_2 ?_
    obtain ⟨so2, ho2, hf⟩ := mj_bd hf
    refine mj_callVx (st := []) [.int x1, .int (0 : Int32), .int (2 : Int32)] hR (cmX10_needNumber l G hlt F x1 (0 : Int32) (2 : Int32) _ _ o1.2.2.2.2.2.2.2.2.2 rfl so2 ho2) cw_X10_80 s0_1 a0_1 (by decide) rfl rfl (Nat.le_of_ble_eq_true rfl) ⟨by decide, by decide⟩ dX10_total_8 (fun E I2 L2 hx => ?_) (fun rv I2 L2 hx => ?_)
    · obtain ⟨eo2, hf, hx⟩ := mj_sxr hf hx
      obtain rfl := Option.some.inj hf
      obtain ⟨hE9, hI9, hL9⟩ := hx
      rw [hE9, hI9, hL9]
      have hZ := mj_er hq
      replace hZ := mj_u2p hZ
      replace hZ := mj_u2p hZ
      replace hZ := mj_u2p hZ
      replace hZ := mj_u2p hZ
      replace hZ := mj_u2p hZ
      replace hZ := mj_u2p hZ
      replace hZ := mj_u2p hZ
      replace hZ := mj_u2p hZ
      replace hZ := mj_u2p hZ
      replace hZ := mj_u2p hZ
      replace hZ := mj_u2p hZ
      replace hZ := mj_u2p hZ
      replace hZ := mj_u2p hZ
      replace hZ := mj_u2p hZ
      replace hZ := mj_u2p hZ
      replace hZ := mj_u2p hZ
      replace hZ := mj_u2p hZ
      rw [mj_rr (l' := [(1, r1), (18, r18), (19, r19), (20, r20), (21, r21), (22, r22), (23, r23), (24, r24), (25, r25), (26, r26), (32, o1.1), (33, o1.2.1), (34, o1.2.2.1), (35, o1.2.2.2.1), (36, o1.2.2.2.2.1), (37, o1.2.2.2.2.2.1), (38, o1.2.2.2.2.2.2.1), (39, o1.2.2.2.2.2.2.2.1), (40, o1.2.2.2.2.2.2.2.2.1), (41, r41), (42, r42), (43, r43), (44, r44), (45, r45), (46, r46), (50, r50), (70, eo2.2)]) rfl]
      exact hZ
    · obtain ⟨o2, hf, hx⟩ := mj_sxl hf hx
      obtain ⟨hr9, hI9, hL9⟩ := hx
      refine mj_cnv (s1 := []) (I2 := (mj_rows I [(1, r1), (18, r18), (19, r19), (20, r20), (21, r21), (22, r22), (23, r23), (24, r24), (25, r25), (26, r26), (32, o1.1), (33, o1.2.1), (34, o1.2.2.1), (35, o1.2.2.2.1), (36, o1.2.2.2.2.1), (37, o1.2.2.2.2.2.1), (38, o1.2.2.2.2.2.2.1), (39, o1.2.2.2.2.2.2.2.1), (40, o1.2.2.2.2.2.2.2.2.1), (41, r41), (42, r42), (43, r43), (44, r44), (45, r45), (46, r46), (50, r50), (70, o2)])) (L2 := L) (by rw [hr9]; rfl) (hI9.trans (mj_rr rfl)) hL9 ?_
      refine mj_aload_n 0 dX10_total_11 rfl ?_
      refine mj_iload_n 2 dX10_total_12 rfl ?_
      obtain ⟨so3, ho3, hf⟩ := mj_bd hf
      refine mj_callVx (st := []) [.int x2] hR (cmX10_needForm l G hlt F x2 _ _ o2 rfl so3 ho3) cw_X10_209 s0_1 a0_1 (by decide) rfl rfl (Nat.le_of_ble_eq_true rfl) ⟨by decide, by decide⟩ dX10_total_13 (fun E I2 L2 hx => ?_) (fun rv I2 L2 hx => ?_)
      · obtain ⟨eo3, hf, hx⟩ := mj_sxr hf hx
        obtain rfl := Option.some.inj hf
        obtain ⟨hE9, hI9, hL9⟩ := hx
        rw [hE9, hI9, hL9]
        have hZ := mj_er hq
        replace hZ := mj_u2p hZ
        replace hZ := mj_u2p hZ
        replace hZ := mj_u2p hZ
        replace hZ := mj_u2p hZ
        replace hZ := mj_u2p hZ
        replace hZ := mj_u2p hZ
        replace hZ := mj_u2p hZ
        replace hZ := mj_u2p hZ
        replace hZ := mj_u2p hZ
        replace hZ := mj_u2p hZ
        replace hZ := mj_u2p hZ
        replace hZ := mj_u2p hZ
        replace hZ := mj_u2p hZ
        replace hZ := mj_u2p hZ
        replace hZ := mj_u2p hZ
        replace hZ := mj_u2p hZ
        replace hZ := mj_u2p hZ
        rw [mj_rr (l' := [(1, r1), (18, r18), (19, r19), (20, r20), (21, r21), (22, r22), (23, r23), (24, r24), (25, r25), (26, r26), (32, o1.1), (33, o1.2.1), (34, o1.2.2.1), (35, o1.2.2.2.1), (36, o1.2.2.2.2.1), (37, o1.2.2.2.2.2.1), (38, o1.2.2.2.2.2.2.1), (39, o1.2.2.2.2.2.2.2.1), (40, o1.2.2.2.2.2.2.2.2.1), (41, r41), (42, r42), (43, r43), (44, r44), (45, r45), (46, r46), (50, r50), (70, eo3.2)]) rfl]
        exact hZ
      · obtain ⟨o3, hf, hx⟩ := mj_sxl hf hx
        obtain ⟨hr9, hI9, hL9⟩ := hx
        refine mj_cnv (s1 := []) (I2 := (mj_rows I [(1, r1), (18, r18), (19, r19), (20, r20), (21, r21), (22, r22), (23, r23), (24, r24), (25, r25), (26, r26), (32, o1.1), (33, o1.2.1), (34, o1.2.2.1), (35, o1.2.2.2.1), (36, o1.2.2.2.2.1), (37, o1.2.2.2.2.2.1), (38, o1.2.2.2.2.2.2.1), (39, o1.2.2.2.2.2.2.2.1), (40, o1.2.2.2.2.2.2.2.2.1), (41, r41), (42, r42), (43, r43), (44, r44), (45, r45), (46, r46), (50, r50), (70, o3)])) (L2 := L) (by rw [hr9]; rfl) (hI9.trans (mj_rr rfl)) hL9 ?_
        refine mj_aload_n 0 dX10_total_16 rfl ?_
        refine mj_getP p0_1_6 (by decide) fl_X10_44 rfl s0_1 a0_1 dX10_total_17 ?_
        refine mj_aload_n 0 dX10_total_20 rfl ?_
        refine mj_getP p0_1_5 (by decide) fl_X10_37 rfl s0_1 a0_1 dX10_total_21 ?_
        obtain ⟨o4, ho4, hf⟩ := mj_bd hf
        refine mj_callVd (I2 := (mj_rows I [(1, r1), (18, r18), (19, r19), (20, r20), (21, r21), (22, r22), (23, r23), (24, r24), (25, r25), (26, r26), (32, o1.1), (33, o1.2.1), (34, o1.2.2.1), (35, o1.2.2.2.1), (36, o1.2.2.2.2.1), (37, o1.2.2.2.2.2.1), (38, o1.2.2.2.2.2.2.1), (39, o1.2.2.2.2.2.2.2.1), (40, o1.2.2.2.2.2.2.2.2.1), (41, o4.2.1), (42, o4.2.2.1), (43, o4.2.2.2.1), (44, o4.2.2.2.2.1), (45, o4.2.2.2.2.2.1), (46, o4.2.2.2.2.2.2.1), (50, o4.2.2.2.2.2.2.2), (70, o3)])) (L2 := L) (s1 := [.int o4.1]) (st := []) [.ref 32] (cmX2_solve X.2.1 G F  _ _ o1.1 o1.2.1 o1.2.2.2.2.1 o1.2.2.2.2.2.1 o1.2.2.2.2.2.2.1 o1.2.2.2.2.2.2.2.1 r41 r42 r43 r44 r45 r46 r50 rfl rfl rfl rfl rfl rfl rfl rfl rfl rfl rfl rfl rfl o4 ho4) (mj_rr rfl) rfl cw_X10_212 s0_41 a0_41 (by decide) rfl rfl (Nat.le_of_ble_eq_true rfl) (mj_rxc hR ⟨by decide, by decide⟩) dX10_total_24 rfl ?_
        refine mj_if_ne 33 dX10_total_27 (by decide) (fun c5 => ?_) (fun c5 => ?_)
        · replace hf := mj_neg c5 hf
          refine mj_iload_n 1 dX10_total_33 rfl ?_
          by_cases c6_0 : x1 = (0 : Int32)
          · replace hf := mj_pos c6_0 hf
            refine mj_lsI (off := 26) 60 c6_0 dX10_total_34 (by decide) (by decide) (by decide) ?_
            refine mj_aload_n 0 dX10_total_60 rfl ?_
            refine mj_getP p0_1_6 (by decide) fl_X10_44 rfl s0_1 a0_1 dX10_total_61 ?_
            refine mj_getIv (v := (o4.2.1 0)) rfl fl_X10_216 rfl s0_41 a0_41 dX10_total_64 ?_
            refine mj_iload_n 2 dX10_total_67 rfl ?_
            obtain ⟨o7, ho7, hf⟩ := mj_bd hf
            refine mj_callSd (I2 := (mj_rows I [(1, r1), (18, r18), (19, r19), (20, r20), (21, r21), (22, r22), (23, r23), (24, r24), (25, r25), (26, r26), (32, o1.1), (33, o1.2.1), (34, o1.2.2.1), (35, o1.2.2.2.1), (36, o1.2.2.2.2.1), (37, o1.2.2.2.2.2.1), (38, o1.2.2.2.2.2.2.1), (39, o1.2.2.2.2.2.2.2.1), (40, o1.2.2.2.2.2.2.2.2.1), (41, o4.2.1), (42, o4.2.2.1), (43, o4.2.2.2.1), (44, o4.2.2.2.2.1), (45, o4.2.2.2.2.2.1), (46, o4.2.2.2.2.2.2.1), (50, o4.2.2.2.2.2.2.2), (70, o3)])) (L2 := L) (s1 := [.int o7]) (st := []) [.int (o4.2.1 0), .int x2] (cmX3_inForm X.2.1 G F (o4.2.1 0) x2 _ _   o7 ho7) rfl rfl cw_X10_219 (by decide) rfl rfl (Nat.le_of_ble_eq_true rfl) (mj_rxc hR ⟨by decide, by decide⟩) dX10_total_68 rfl ?_
            obtain rfl := Option.some.inj hf
            have hZ := mj_el hq
            replace hZ := mj_u2p hZ
            replace hZ := mj_u2p hZ
            replace hZ := mj_u2p hZ
            replace hZ := mj_u2p hZ
            replace hZ := mj_u2p hZ
            replace hZ := mj_u2p hZ
            replace hZ := mj_u2p hZ
            replace hZ := mj_u2p hZ
            replace hZ := mj_u2p hZ
            replace hZ := mj_u2p hZ
            replace hZ := mj_u2p hZ
            replace hZ := mj_u2p hZ
            replace hZ := mj_u2p hZ
            replace hZ := mj_u2p hZ
            replace hZ := mj_u2p hZ
            replace hZ := mj_u2p hZ
            replace hZ := mj_u2p hZ
            exact mj_iretx hR ⟨by decide, by decide⟩ rfl rfl dX10_total_71 hZ
          · replace hf := mj_neg c6_0 hf
            by_cases c6_1 : x1 = (1 : Int32)
            · replace hf := mj_pos c6_1 hf
              refine mj_lsI (off := 38) 72 c6_1 dX10_total_34 (by decide) (by decide) (by decide) ?_
              refine mj_aload_n 0 dX10_total_72 rfl ?_
              refine mj_getP p0_1_6 (by decide) fl_X10_44 rfl s0_1 a0_1 dX10_total_73 ?_
              refine mj_getIv (v := (o4.2.1 1)) rfl fl_X10_224 rfl s0_41 a0_41 dX10_total_76 ?_
              refine mj_iload_n 2 dX10_total_79 rfl ?_
              obtain ⟨o8, ho8, hf⟩ := mj_bd hf
              refine mj_callSd (I2 := (mj_rows I [(1, r1), (18, r18), (19, r19), (20, r20), (21, r21), (22, r22), (23, r23), (24, r24), (25, r25), (26, r26), (32, o1.1), (33, o1.2.1), (34, o1.2.2.1), (35, o1.2.2.2.1), (36, o1.2.2.2.2.1), (37, o1.2.2.2.2.2.1), (38, o1.2.2.2.2.2.2.1), (39, o1.2.2.2.2.2.2.2.1), (40, o1.2.2.2.2.2.2.2.2.1), (41, o4.2.1), (42, o4.2.2.1), (43, o4.2.2.2.1), (44, o4.2.2.2.2.1), (45, o4.2.2.2.2.2.1), (46, o4.2.2.2.2.2.2.1), (50, o4.2.2.2.2.2.2.2), (70, o3)])) (L2 := L) (s1 := [.int o8]) (st := []) [.int (o4.2.1 1), .int x2] (cmX3_inForm X.2.1 G F (o4.2.1 1) x2 _ _   o8 ho8) rfl rfl cw_X10_219 (by decide) rfl rfl (Nat.le_of_ble_eq_true rfl) (mj_rxc hR ⟨by decide, by decide⟩) dX10_total_80 rfl ?_
              obtain rfl := Option.some.inj hf
              have hZ := mj_el hq
              replace hZ := mj_u2p hZ
              replace hZ := mj_u2p hZ
              replace hZ := mj_u2p hZ
              replace hZ := mj_u2p hZ
              replace hZ := mj_u2p hZ
              replace hZ := mj_u2p hZ
              replace hZ := mj_u2p hZ
              replace hZ := mj_u2p hZ
              replace hZ := mj_u2p hZ
              replace hZ := mj_u2p hZ
              replace hZ := mj_u2p hZ
              replace hZ := mj_u2p hZ
              replace hZ := mj_u2p hZ
              replace hZ := mj_u2p hZ
              replace hZ := mj_u2p hZ
              replace hZ := mj_u2p hZ
              replace hZ := mj_u2p hZ
              exact mj_iretx hR ⟨by decide, by decide⟩ rfl rfl dX10_total_83 hZ
            · replace hf := mj_neg c6_1 hf
              refine mj_lsO 84 c6_0 c6_1 dX10_total_34 (by decide) ?_
              refine mj_aload_n 0 dX10_total_84 rfl ?_
              refine mj_getP p0_1_6 (by decide) fl_X10_44 rfl s0_1 a0_1 dX10_total_85 ?_
              obtain ⟨o9, ho9, hf⟩ := mj_bd hf
              refine mj_callVd (I2 := (mj_rows I [(1, r1), (18, r18), (19, r19), (20, r20), (21, r21), (22, r22), (23, r23), (24, r24), (25, r25), (26, r26), (32, o1.1), (33, o1.2.1), (34, o1.2.2.1), (35, o1.2.2.2.1), (36, o1.2.2.2.2.1), (37, o1.2.2.2.2.2.1), (38, o1.2.2.2.2.2.2.1), (39, o1.2.2.2.2.2.2.2.1), (40, o1.2.2.2.2.2.2.2.2.1), (41, o4.2.1), (42, o4.2.2.1), (43, o4.2.2.2.1), (44, o4.2.2.2.2.1), (45, o4.2.2.2.2.2.1), (46, o4.2.2.2.2.2.2.1), (50, o4.2.2.2.2.2.2.2), (70, o3)])) (L2 := L) (s1 := [.int o9]) (st := []) [] (cmX2_forEver X.2.1 G F  _ _ o4.2.1 rfl o9 ho9) (mj_rr rfl) rfl cw_X10_227 s0_41 a0_41 (by decide) rfl rfl (Nat.le_of_ble_eq_true rfl) (mj_rxc hR ⟨by decide, by decide⟩) dX10_total_88 rfl ?_
              refine mj_iload_n 2 dX10_total_91 rfl ?_
              obtain ⟨o10, ho10, hf⟩ := mj_bd hf
              refine mj_callSd (I2 := (mj_rows I [(1, r1), (18, r18), (19, r19), (20, r20), (21, r21), (22, r22), (23, r23), (24, r24), (25, r25), (26, r26), (32, o1.1), (33, o1.2.1), (34, o1.2.2.1), (35, o1.2.2.2.1), (36, o1.2.2.2.2.1), (37, o1.2.2.2.2.2.1), (38, o1.2.2.2.2.2.2.1), (39, o1.2.2.2.2.2.2.2.1), (40, o1.2.2.2.2.2.2.2.2.1), (41, o4.2.1), (42, o4.2.2.1), (43, o4.2.2.2.1), (44, o4.2.2.2.2.1), (45, o4.2.2.2.2.2.1), (46, o4.2.2.2.2.2.2.1), (50, o4.2.2.2.2.2.2.2), (70, o3)])) (L2 := L) (s1 := [.int o10]) (st := []) [.int o9, .int x2] (cmX3_inForm X.2.1 G F o9 x2 _ _   o10 ho10) rfl rfl cw_X10_219 (by decide) rfl rfl (Nat.le_of_ble_eq_true rfl) (mj_rxc hR ⟨by decide, by decide⟩) dX10_total_92 rfl ?_
              obtain rfl := Option.some.inj hf
              have hZ := mj_el hq
              replace hZ := mj_u2p hZ
              replace hZ := mj_u2p hZ
              replace hZ := mj_u2p hZ
              replace hZ := mj_u2p hZ
              replace hZ := mj_u2p hZ
              replace hZ := mj_u2p hZ
              replace hZ := mj_u2p hZ
              replace hZ := mj_u2p hZ
              replace hZ := mj_u2p hZ
              replace hZ := mj_u2p hZ
              replace hZ := mj_u2p hZ
              replace hZ := mj_u2p hZ
              replace hZ := mj_u2p hZ
              replace hZ := mj_u2p hZ
              replace hZ := mj_u2p hZ
              replace hZ := mj_u2p hZ
              replace hZ := mj_u2p hZ
              exact mj_iretx hR ⟨by decide, by decide⟩ rfl rfl dX10_total_95 hZ
        · replace hf := mj_pos c5 hf
          refine mj_bipush dX10_total_30 kc_bipush_m3 ?_
          obtain rfl := Option.some.inj hf
          have hZ := mj_el hq
          replace hZ := mj_u2p hZ
          replace hZ := mj_u2p hZ
          replace hZ := mj_u2p hZ
          replace hZ := mj_u2p hZ
          replace hZ := mj_u2p hZ
          replace hZ := mj_u2p hZ
          replace hZ := mj_u2p hZ
          replace hZ := mj_u2p hZ
          replace hZ := mj_u2p hZ
          replace hZ := mj_u2p hZ
          replace hZ := mj_u2p hZ
          replace hZ := mj_u2p hZ
          replace hZ := mj_u2p hZ
          replace hZ := mj_u2p hZ
          replace hZ := mj_u2p hZ
          replace hZ := mj_u2p hZ
          replace hZ := mj_u2p hZ
          exact mj_iretx hR ⟨by decide, by decide⟩ rfl rfl dX10_total_32 hZ
set_option maxRecDepth 100000 in
set_option maxHeartbeats 4000000 in
theorem cmX10_total (l : Launch) (G : mj_GT) (hlt : l.stackTraces = false) (F : Nat) (x1 : Int32) (x2 : Int32) (I : mj_IT) (L : mj_LT) (r1 : Nat → Int32) (r18 : Nat → Int32) (r19 : Nat → Int32) (r20 : Nat → Int32) (r21 : Nat → Int32) (r22 : Nat → Int32) (r23 : Nat → Int32) (r24 : Nat → Int32) (r25 : Nat → Int32) (r26 : Nat → Int32) (r32 : Nat → Int32) (r33 : Nat → Int32) (r34 : Nat → Int32) (r35 : Nat → Int32) (r36 : Nat → Int32) (r37 : Nat → Int32) (r38 : Nat → Int32) (r39 : Nat → Int32) (r40 : Nat → Int32) (r41 : Nat → Int32) (r42 : Nat → Int32) (r43 : Nat → Int32) (r44 : Nat → Int32) (r45 : Nat → Int32) (r46 : Nat → Int32) (r50 : Nat → Int32) (r70 : Nat → Int32) (hr1 : I 1 = r1) (hr18 : I 18 = r18) (hr19 : I 19 = r19) (hr20 : I 20 = r20) (hr21 : I 21 = r21) (hr22 : I 22 = r22) (hr23 : I 23 = r23) (hr24 : I 24 = r24) (hr25 : I 25 = r25) (hr26 : I 26 = r26) (hr32 : I 32 = r32) (hr33 : I 33 = r33) (hr34 : I 34 = r34) (hr35 : I 35 = r35) (hr36 : I 36 = r36) (hr37 : I 37 = r37) (hr38 : I 38 = r38) (hr39 : I 39 = r39) (hr40 : I 40 = r40) (hr41 : I 41 = r41) (hr42 : I 42 = r42) (hr43 : I 43 = r43) (hr44 : I 44 = r44) (hr45 : I 45 = r45) (hr46 : I 46 = r46) (hr50 : I 50 = r50) (hr70 : I 70 = r70) (o : (((Int32) × (Nat → Int32) × (Nat → Int32) × (Nat → Int32) × (Nat → Int32) × (Nat → Int32) × (Nat → Int32) × (Nat → Int32) × (Nat → Int32) × (Nat → Int32) × (Nat → Int32) × (Nat → Int32) × (Nat → Int32) × (Nat → Int32) × (Nat → Int32) × (Nat → Int32) × (Nat → Int32) × (Nat → Int32)) ⊕ ((Nat) × (Nat → Int32) × (Nat → Int32) × (Nat → Int32) × (Nat → Int32) × (Nat → Int32) × (Nat → Int32) × (Nat → Int32) × (Nat → Int32) × (Nat → Int32) × (Nat → Int32) × (Nat → Int32) × (Nat → Int32) × (Nat → Int32) × (Nat → Int32) × (Nat → Int32) × (Nat → Int32) × (Nat → Int32)))) (hf : fnX10_total F r1 r18 r19 r20 r21 r22 r23 r24 r25 r26 r32 r33 r34 r35 r36 r37 r38 r39 r40 r41 r42 r43 r44 r45 r46 r50 r70 x1 x2 = some o) : mj_Mx l G yX10_total cX10_total 3 10 (some .int) 3 18 mj_P0 mj_S0 98 [.ref 1, .int x1, .int x2] I L (fun rv I2 L2 => Sum.elim (fun o => rv = (some (.int o.1)) ∧ I2 = (mj_rows I [(1, r1), (18, r18), (19, r19), (20, r20), (21, r21), (22, r22), (23, r23), (24, r24), (25, r25), (26, r26), (32, o.2.1), (33, o.2.2.1), (34, o.2.2.2.1), (35, o.2.2.2.2.1), (36, o.2.2.2.2.2.1), (37, o.2.2.2.2.2.2.1), (38, o.2.2.2.2.2.2.2.1), (39, o.2.2.2.2.2.2.2.2.1), (40, o.2.2.2.2.2.2.2.2.2.1), (41, o.2.2.2.2.2.2.2.2.2.2.1), (42, o.2.2.2.2.2.2.2.2.2.2.2.1), (43, o.2.2.2.2.2.2.2.2.2.2.2.2.1), (44, o.2.2.2.2.2.2.2.2.2.2.2.2.2.1), (45, o.2.2.2.2.2.2.2.2.2.2.2.2.2.2.1), (46, o.2.2.2.2.2.2.2.2.2.2.2.2.2.2.2.1), (50, o.2.2.2.2.2.2.2.2.2.2.2.2.2.2.2.2.1), (70, o.2.2.2.2.2.2.2.2.2.2.2.2.2.2.2.2.2)]) ∧ L2 = L) (fun _ => False) o) (fun E I2 L2 => Sum.elim (fun _ => False) (fun o => E = mj_en o.1 ∧ I2 = (mj_rows I [(1, r1), (18, r18), (19, r19), (20, r20), (21, r21), (22, r22), (23, r23), (24, r24), (25, r25), (26, r26), (32, o.2.1), (33, o.2.2.1), (34, o.2.2.2.1), (35, o.2.2.2.2.1), (36, o.2.2.2.2.2.1), (37, o.2.2.2.2.2.2.1), (38, o.2.2.2.2.2.2.2.1), (39, o.2.2.2.2.2.2.2.2.1), (40, o.2.2.2.2.2.2.2.2.2.1), (41, o.2.2.2.2.2.2.2.2.2.2.1), (42, o.2.2.2.2.2.2.2.2.2.2.2.1), (43, o.2.2.2.2.2.2.2.2.2.2.2.2.1), (44, o.2.2.2.2.2.2.2.2.2.2.2.2.2.1), (45, o.2.2.2.2.2.2.2.2.2.2.2.2.2.2.1), (46, o.2.2.2.2.2.2.2.2.2.2.2.2.2.2.2.1), (50, o.2.2.2.2.2.2.2.2.2.2.2.2.2.2.2.2.1), (70, o.2.2.2.2.2.2.2.2.2.2.2.2.2.2.2.2.2)]) ∧ L2 = L) o) := by
  refine mj_inx RX10 "total" [(0, .ref 1), (1, .int x1), (2, .int x2)] rfl rfl rfl (by decide) (Nat.le_of_ble_eq_true rfl) (fun X ad hR => ?_)
  refine mj_toI [(1, r1), (18, r18), (19, r19), (20, r20), (21, r21), (22, r22), (23, r23), (24, r24), (25, r25), (26, r26), (32, r32), (33, r33), (34, r34), (35, r35), (36, r36), (37, r37), (38, r38), (39, r39), (40, r40), (41, r41), (42, r42), (43, r43), (44, r44), (45, r45), (46, r46), (50, r50), (70, r70)] (by intro q hq; simp only [List.mem_cons, List.not_mem_nil, or_false] at hq; rcases hq with rfl | rfl | rfl | rfl | rfl | rfl | rfl | rfl | rfl | rfl | rfl | rfl | rfl | rfl | rfl | rfl | rfl | rfl | rfl | rfl | rfl | rfl | rfl | rfl | rfl | rfl | rfl <;> assumption) ?_
  refine mtX10_total hR hlt F I L r1 r18 r19 r20 r21 r22 r23 r24 r25 r26 r32 r33 r34 r35 r36 r37 r38 r39 r40 r41 r42 r43 r44 r45 r46 r50 r70 x1 x2 o hf ?_
  rcases o with o | o
  · refine mj_elq ?_
    obtain ⟨w0, w1, w2, w3, w4, w5, w6, w7, w8, w9, w10, w11, w12, w13, w14, w15, w16, w17⟩ := o
    refine mj_u2q ?_
    refine mj_u2q ?_
    refine mj_u2q ?_
    refine mj_u2q ?_
    refine mj_u2q ?_
    refine mj_u2q ?_
    refine mj_u2q ?_
    refine mj_u2q ?_
    refine mj_u2q ?_
    refine mj_u2q ?_
    refine mj_u2q ?_
    refine mj_u2q ?_
    refine mj_u2q ?_
    refine mj_u2q ?_
    refine mj_u2q ?_
    refine mj_u2q ?_
    refine mj_u2q ?_
    refine mj_elq ?_
    exact ⟨rfl, rfl, rfl⟩
  · refine mj_erq ?_
    obtain ⟨w0, w1, w2, w3, w4, w5, w6, w7, w8, w9, w10, w11, w12, w13, w14, w15, w16, w17⟩ := o
    refine mj_u2q ?_
    refine mj_u2q ?_
    refine mj_u2q ?_
    refine mj_u2q ?_
    refine mj_u2q ?_
    refine mj_u2q ?_
    refine mj_u2q ?_
    refine mj_u2q ?_
    refine mj_u2q ?_
    refine mj_u2q ?_
    refine mj_u2q ?_
    refine mj_u2q ?_
    refine mj_u2q ?_
    refine mj_u2q ?_
    refine mj_u2q ?_
    refine mj_u2q ?_
    refine mj_u2q ?_
    refine mj_erq ?_
    exact ⟨rfl, rfl, rfl⟩

-- X10_needEnd
def fnX10_needEnd (F : Nat) (r32 : Nat → Int32) (r70 : Nat → Int32) : Option (((Nat → Int32)) ⊕ ((Nat) × (Nat → Int32))) := (if (r32 4) = 0 then (fnX10_refuseState F r70).bind (Sum.elim (fun o2 => some (.inl o2)) (fun eo2 => some (.inr (eo2.1, eo2.2)))) else some (.inl r70))
set_option maxRecDepth 100000 in
set_option maxHeartbeats 4000000 in
theorem mtX10_needEnd {X : mj_XT} {l : Launch} {G : mj_GT} {ad : Nat → Nat} {Qn : Option Value → mj_IT → mj_LT → Prop} {Qx : String → mj_IT → mj_LT → Prop} (hR : mj_Rx X l G mj_P0 mj_S0 98 ad 1 6 Qn Qx) (hlt : l.stackTraces = false) (F : Nat) (I : mj_IT) (L : mj_LT) (r32 : Nat → Int32) (r70 : Nat → Int32) (o : (((Nat → Int32)) ⊕ ((Nat) × (Nat → Int32)))) (hf : fnX10_needEnd F r32 r70 = some o) (hq : (Sum.elim (fun r70 => Qn none (mj_rows I [(32, r32), (70, r70)]) L) (mj_u2 (fun kx r70 => Qx (mj_en kx) (mj_rows I [(32, r32), (70, r70)]) L))) o) : mj_W X G RX10 "needEnd" cX10_needEnd 1 8 none mj_P0 mj_S0 98 ad 0 0 0 [(0, .ref 1)] [] (mj_rows I [(32, r32), (70, r70)]) L := by
  unfold fnX10_needEnd at hf
  refine mj_aload_n 0 dX10_needEnd_0 rfl ?_
  refine mj_getP p0_1_5 (by decide) fl_X10_37 rfl s0_1 a0_1 dX10_needEnd_1 ?_
  refine mj_getIv (v := (r32 4)) rfl fl_X10_154 rfl s0_32 a0_32 dX10_needEnd_4 ?_
  refine mj_if_ne 14 dX10_needEnd_7 (by decide) (fun c1 => ?_) (fun c1 => ?_)
  · replace hf := mj_neg c1 hf
    obtain rfl := Option.some.inj hf
    have hZ := mj_el hq
    exact mj_vretx hR ⟨by decide, by decide⟩ rfl dX10_needEnd_14 hZ
  · replace hf := mj_pos c1 hf
    refine mj_aload_n 0 dX10_needEnd_10 rfl ?_
    obtain ⟨so2, ho2, hf⟩ := mj_bd hf
    refine mj_callVx (st := []) [] hR (cmX10_refuseState l G hlt F  _ _ r70 rfl so2 ho2) cw_X10_289 s0_1 a0_1 (by decide) rfl rfl (Nat.le_of_ble_eq_true rfl) ⟨by decide, by decide⟩ dX10_needEnd_11 (fun E I2 L2 hx => ?_) (fun rv I2 L2 hx => ?_)
    · obtain ⟨eo2, hf, hx⟩ := mj_sxr hf hx
      obtain rfl := Option.some.inj hf
      obtain ⟨hE9, hI9, hL9⟩ := hx
      rw [hE9, hI9, hL9]
      have hZ := mj_er hq
      replace hZ := mj_u2p hZ
      rw [mj_rr (l' := [(32, r32), (70, eo2.2)]) rfl]
      exact hZ
    · obtain ⟨o2, hf, hx⟩ := mj_sxl hf hx
      obtain ⟨hr9, hI9, hL9⟩ := hx
      refine mj_cnv (s1 := []) (I2 := (mj_rows I [(32, r32), (70, o2)])) (L2 := L) (by rw [hr9]; rfl) (hI9.trans (mj_rr rfl)) hL9 ?_
      obtain rfl := Option.some.inj hf
      have hZ := mj_el hq
      exact mj_vretx hR ⟨by decide, by decide⟩ rfl dX10_needEnd_14 hZ
set_option maxRecDepth 100000 in
set_option maxHeartbeats 4000000 in
theorem cmX10_needEnd (l : Launch) (G : mj_GT) (hlt : l.stackTraces = false) (F : Nat) (I : mj_IT) (L : mj_LT) (r32 : Nat → Int32) (r70 : Nat → Int32) (hr32 : I 32 = r32) (hr70 : I 70 = r70) (o : (((Nat → Int32)) ⊕ ((Nat) × (Nat → Int32)))) (hf : fnX10_needEnd F r32 r70 = some o) : mj_Mx l G yX10_needEnd cX10_needEnd 1 8 none 1 6 mj_P0 mj_S0 98 [.ref 1] I L (fun rv I2 L2 => Sum.elim (fun o => rv = none ∧ I2 = (mj_rows I [(32, r32), (70, o)]) ∧ L2 = L) (fun _ => False) o) (fun E I2 L2 => Sum.elim (fun _ => False) (fun o => E = mj_en o.1 ∧ I2 = (mj_rows I [(32, r32), (70, o.2)]) ∧ L2 = L) o) := by
  refine mj_inx RX10 "needEnd" [(0, .ref 1)] rfl rfl rfl (by decide) (Nat.le_of_ble_eq_true rfl) (fun X ad hR => ?_)
  refine mj_toI [(32, r32), (70, r70)] (by intro q hq; simp only [List.mem_cons, List.not_mem_nil, or_false] at hq; rcases hq with rfl | rfl <;> assumption) ?_
  refine mtX10_needEnd hR hlt F I L r32 r70 o hf ?_
  rcases o with o | o
  · refine mj_elq ?_
    refine mj_elq ?_
    exact ⟨rfl, rfl, rfl⟩
  · refine mj_erq ?_
    obtain ⟨w0, w1⟩ := o
    refine mj_u2q ?_
    refine mj_erq ?_
    exact ⟨rfl, rfl, rfl⟩

-- X10_coupleInForm
def fnX10_coupleInForm (F : Nat) (r32 : Nat → Int32) (r33 : Nat → Int32) (r34 : Nat → Int32) (r36 : Nat → Int32) (r37 : Nat → Int32) (r38 : Nat → Int32) (r39 : Nat → Int32) (r41 : Nat → Int32) (r42 : Nat → Int32) (r43 : Nat → Int32) (r44 : Nat → Int32) (r45 : Nat → Int32) (r46 : Nat → Int32) (r50 : Nat → Int32) (x1 : Int32) (x2 : Int32) (x3 : Int32) (x4 : Int32) (x5 : Int32) : Option ((Int32) × (Nat → Int32) × (Nat → Int32) × (Nat → Int32) × (Nat → Int32) × (Nat → Int32) × (Nat → Int32) × (Nat → Int32)) := (fnX2_canDivide F r32 r33 r36 r37 r38 r39 r41 r42 r43 r44 r45 r46 r50).bind (fun o1 => (if o1.1 = 0 then some ((-3 : Int32), o1.2.1, o1.2.2.1, o1.2.2.2.1, o1.2.2.2.2.1, o1.2.2.2.2.2.1, o1.2.2.2.2.2.2.1, o1.2.2.2.2.2.2.2) else (fnX2_coupleTogether F r32 r33 r34 o1.2.2.1 x1 x2 x3 x4).bind (fun o3 => (fnX2_shareOfEnded F o1.2.1 o3).bind (fun o4 => (fnX3_inForm F o4 x5).bind (fun o5 => some (o5, o1.2.1, o1.2.2.1, o1.2.2.2.1, o1.2.2.2.2.1, o1.2.2.2.2.2.1, o1.2.2.2.2.2.2.1, o1.2.2.2.2.2.2.2))))))
set_option maxRecDepth 100000 in
set_option maxHeartbeats 4000000 in
theorem mtX10_coupleInForm {X : mj_XT} {l : Launch} {G : mj_GT} {ad : Nat → Nat} {Qn : Option Value → mj_IT → mj_LT → Prop} (hR : mj_R X l G mj_P0 mj_S0 98 ad 0 0 Qn) (F : Nat) (I : mj_IT) (L : mj_LT) (r32 : Nat → Int32) (r33 : Nat → Int32) (r34 : Nat → Int32) (r36 : Nat → Int32) (r37 : Nat → Int32) (r38 : Nat → Int32) (r39 : Nat → Int32) (r41 : Nat → Int32) (r42 : Nat → Int32) (r43 : Nat → Int32) (r44 : Nat → Int32) (r45 : Nat → Int32) (r46 : Nat → Int32) (r50 : Nat → Int32) (x1 : Int32) (x2 : Int32) (x3 : Int32) (x4 : Int32) (x5 : Int32) (o : ((Int32) × (Nat → Int32) × (Nat → Int32) × (Nat → Int32) × (Nat → Int32) × (Nat → Int32) × (Nat → Int32) × (Nat → Int32))) (hf : fnX10_coupleInForm F r32 r33 r34 r36 r37 r38 r39 r41 r42 r43 r44 r45 r46 r50 x1 x2 x3 x4 x5 = some o) (hq : (mj_u2 (fun ov => (mj_u2 (fun r41 => (mj_u2 (fun r42 => (mj_u2 (fun r43 => (mj_u2 (fun r44 => (mj_u2 (fun r45 => (mj_u2 (fun r46 r50 => Qn (some (.int ov)) (mj_rows I [(32, r32), (33, r33), (34, r34), (36, r36), (37, r37), (38, r38), (39, r39), (41, r41), (42, r42), (43, r43), (44, r44), (45, r45), (46, r46), (50, r50)]) L)))))))))))))) o) : mj_W X G RX10 "coupleInForm" cX10_coupleInForm 6 7 (some .int) mj_P0 mj_S0 98 ad 0 0 0 [(0, .ref 1), (1, .int x1), (2, .int x2), (3, .int x3), (4, .int x4), (5, .int x5)] [] (mj_rows I [(32, r32), (33, r33), (34, r34), (36, r36), (37, r37), (38, r38), (39, r39), (41, r41), (42, r42), (43, r43), (44, r44), (45, r45), (46, r46), (50, r50)]) L := by
  unfold fnX10_coupleInForm at hf
  refine mj_aload_n 0 dX10_coupleInForm_0 rfl ?_
  refine mj_getP p0_1_6 (by decide) fl_X10_44 rfl s0_1 a0_1 dX10_coupleInForm_1 ?_
  refine mj_aload_n 0 dX10_coupleInForm_4 rfl ?_
  refine mj_getP p0_1_5 (by decide) fl_X10_37 rfl s0_1 a0_1 dX10_coupleInForm_5 ?_
  obtain ⟨o1, ho1, hf⟩ := mj_bd hf
  refine mj_callVd (I2 := (mj_rows I [(32, r32), (33, r33), (34, r34), (36, r36), (37, r37), (38, r38), (39, r39), (41, o1.2.1), (42, o1.2.2.1), (43, o1.2.2.2.1), (44, o1.2.2.2.2.1), (45, o1.2.2.2.2.2.1), (46, o1.2.2.2.2.2.2.1), (50, o1.2.2.2.2.2.2.2)])) (L2 := L) (s1 := [.int o1.1]) (st := []) [.ref 32] (cmX2_canDivide X.2.1 G F  _ _ r32 r33 r36 r37 r38 r39 r41 r42 r43 r44 r45 r46 r50 rfl rfl rfl rfl rfl rfl rfl rfl rfl rfl rfl rfl rfl o1 ho1) (mj_rr rfl) rfl cw_X10_237 s0_41 a0_41 (by decide) rfl rfl (Nat.le_of_ble_eq_true rfl) ⟨Nat.zero_le _, Nat.zero_le _⟩ dX10_coupleInForm_8 rfl ?_
  refine mj_if_ne 17 dX10_coupleInForm_11 (by decide) (fun c2 => ?_) (fun c2 => ?_)
  · replace hf := mj_neg c2 hf
    refine mj_aload_n 0 dX10_coupleInForm_17 rfl ?_
    refine mj_getP p0_1_6 (by decide) fl_X10_44 rfl s0_1 a0_1 dX10_coupleInForm_18 ?_
    refine mj_aload_n 0 dX10_coupleInForm_21 rfl ?_
    refine mj_getP p0_1_6 (by decide) fl_X10_44 rfl s0_1 a0_1 dX10_coupleInForm_22 ?_
    refine mj_aload_n 0 dX10_coupleInForm_25 rfl ?_
    refine mj_getP p0_1_5 (by decide) fl_X10_37 rfl s0_1 a0_1 dX10_coupleInForm_26 ?_
    refine mj_iload_n 1 dX10_coupleInForm_29 rfl ?_
    refine mj_iload_n 2 dX10_coupleInForm_30 rfl ?_
    refine mj_iload_n 3 dX10_coupleInForm_31 rfl ?_
    refine mj_iload 4 dX10_coupleInForm_32 rfl ?_
    obtain ⟨o3, ho3, hf⟩ := mj_bd hf
    refine mj_callVd (I2 := (mj_rows I [(32, r32), (33, r33), (34, r34), (36, r36), (37, r37), (38, r38), (39, r39), (41, o1.2.1), (42, o1.2.2.1), (43, o1.2.2.2.1), (44, o1.2.2.2.2.1), (45, o1.2.2.2.2.2.1), (46, o1.2.2.2.2.2.2.1), (50, o1.2.2.2.2.2.2.2)])) (L2 := L) (s1 := [.int o3, .ref 41]) (st := [.ref 41]) [.ref 32, .int x1, .int x2, .int x3, .int x4] (cmX2_coupleTogether X.2.1 G F x1 x2 x3 x4 _ _ r32 r33 r34 o1.2.2.1 rfl rfl rfl rfl o3 ho3) (mj_rr rfl) rfl cw_X10_309 s0_41 a0_41 (by decide) rfl rfl (Nat.le_of_ble_eq_true rfl) ⟨Nat.zero_le _, Nat.zero_le _⟩ dX10_coupleInForm_34 rfl ?_
    obtain ⟨o4, ho4, hf⟩ := mj_bd hf
    refine mj_callVd (I2 := (mj_rows I [(32, r32), (33, r33), (34, r34), (36, r36), (37, r37), (38, r38), (39, r39), (41, o1.2.1), (42, o1.2.2.1), (43, o1.2.2.2.1), (44, o1.2.2.2.2.1), (45, o1.2.2.2.2.2.1), (46, o1.2.2.2.2.2.2.1), (50, o1.2.2.2.2.2.2.2)])) (L2 := L) (s1 := [.int o4]) (st := []) [.int o3] (cmX2_shareOfEnded X.2.1 G F o3 _ _ o1.2.1 rfl o4 ho4) (mj_rr rfl) rfl cw_X10_244 s0_41 a0_41 (by decide) rfl rfl (Nat.le_of_ble_eq_true rfl) ⟨Nat.zero_le _, Nat.zero_le _⟩ dX10_coupleInForm_37 rfl ?_
    refine mj_iload 5 dX10_coupleInForm_40 rfl ?_
    obtain ⟨o5, ho5, hf⟩ := mj_bd hf
    refine mj_callSd (I2 := (mj_rows I [(32, r32), (33, r33), (34, r34), (36, r36), (37, r37), (38, r38), (39, r39), (41, o1.2.1), (42, o1.2.2.1), (43, o1.2.2.2.1), (44, o1.2.2.2.2.1), (45, o1.2.2.2.2.2.1), (46, o1.2.2.2.2.2.2.1), (50, o1.2.2.2.2.2.2.2)])) (L2 := L) (s1 := [.int o5]) (st := []) [.int o4, .int x5] (cmX3_inForm X.2.1 G F o4 x5 _ _   o5 ho5) rfl rfl cw_X10_219 (by decide) rfl rfl (Nat.le_of_ble_eq_true rfl) ⟨Nat.zero_le _, Nat.zero_le _⟩ dX10_coupleInForm_42 rfl ?_
    obtain rfl := Option.some.inj hf
    have hZ := hq
    replace hZ := mj_u2p hZ
    replace hZ := mj_u2p hZ
    replace hZ := mj_u2p hZ
    replace hZ := mj_u2p hZ
    replace hZ := mj_u2p hZ
    replace hZ := mj_u2p hZ
    replace hZ := mj_u2p hZ
    exact mj_iret hR ⟨Nat.le_refl _, Nat.le_refl _⟩ rfl rfl dX10_coupleInForm_45 hZ
  · replace hf := mj_pos c2 hf
    refine mj_bipush dX10_coupleInForm_14 kc_bipush_m3 ?_
    obtain rfl := Option.some.inj hf
    have hZ := hq
    replace hZ := mj_u2p hZ
    replace hZ := mj_u2p hZ
    replace hZ := mj_u2p hZ
    replace hZ := mj_u2p hZ
    replace hZ := mj_u2p hZ
    replace hZ := mj_u2p hZ
    replace hZ := mj_u2p hZ
    exact mj_iret hR ⟨Nat.le_refl _, Nat.le_refl _⟩ rfl rfl dX10_coupleInForm_16 hZ
set_option maxRecDepth 100000 in
set_option maxHeartbeats 4000000 in
theorem cmX10_coupleInForm (l : Launch) (G : mj_GT) (F : Nat) (x1 : Int32) (x2 : Int32) (x3 : Int32) (x4 : Int32) (x5 : Int32) (I : mj_IT) (L : mj_LT) (r32 : Nat → Int32) (r33 : Nat → Int32) (r34 : Nat → Int32) (r36 : Nat → Int32) (r37 : Nat → Int32) (r38 : Nat → Int32) (r39 : Nat → Int32) (r41 : Nat → Int32) (r42 : Nat → Int32) (r43 : Nat → Int32) (r44 : Nat → Int32) (r45 : Nat → Int32) (r46 : Nat → Int32) (r50 : Nat → Int32) (hr32 : I 32 = r32) (hr33 : I 33 = r33) (hr34 : I 34 = r34) (hr36 : I 36 = r36) (hr37 : I 37 = r37) (hr38 : I 38 = r38) (hr39 : I 39 = r39) (hr41 : I 41 = r41) (hr42 : I 42 = r42) (hr43 : I 43 = r43) (hr44 : I 44 = r44) (hr45 : I 45 = r45) (hr46 : I 46 = r46) (hr50 : I 50 = r50) (o : ((Int32) × (Nat → Int32) × (Nat → Int32) × (Nat → Int32) × (Nat → Int32) × (Nat → Int32) × (Nat → Int32) × (Nat → Int32))) (hf : fnX10_coupleInForm F r32 r33 r34 r36 r37 r38 r39 r41 r42 r43 r44 r45 r46 r50 x1 x2 x3 x4 x5 = some o) : mj_M l G yX10_coupleInForm cX10_coupleInForm 6 7 (some .int) 0 0 mj_P0 mj_S0 98 [.ref 1, .int x1, .int x2, .int x3, .int x4, .int x5] I L (mj_qd (some (.int o.1)) (mj_rows I [(32, r32), (33, r33), (34, r34), (36, r36), (37, r37), (38, r38), (39, r39), (41, o.2.1), (42, o.2.2.1), (43, o.2.2.2.1), (44, o.2.2.2.2.1), (45, o.2.2.2.2.2.1), (46, o.2.2.2.2.2.2.1), (50, o.2.2.2.2.2.2.2)]) L) := by
  refine mj_in RX10 "coupleInForm" [(0, .ref 1), (1, .int x1), (2, .int x2), (3, .int x3), (4, .int x4), (5, .int x5)] rfl rfl rfl (by decide) (Nat.le_of_ble_eq_true rfl) (fun X ad hR => ?_)
  refine mj_toI [(32, r32), (33, r33), (34, r34), (36, r36), (37, r37), (38, r38), (39, r39), (41, r41), (42, r42), (43, r43), (44, r44), (45, r45), (46, r46), (50, r50)] (by intro q hq; simp only [List.mem_cons, List.not_mem_nil, or_false] at hq; rcases hq with rfl | rfl | rfl | rfl | rfl | rfl | rfl | rfl | rfl | rfl | rfl | rfl | rfl | rfl <;> assumption) ?_
  refine mtX10_coupleInForm hR F I L r32 r33 r34 r36 r37 r38 r39 r41 r42 r43 r44 r45 r46 r50 x1 x2 x3 x4 x5 o hf ?_
  obtain ⟨w0, w1, w2, w3, w4, w5, w6, w7⟩ := o
  refine mj_u2q ?_
  refine mj_u2q ?_
  refine mj_u2q ?_
  refine mj_u2q ?_
  refine mj_u2q ?_
  refine mj_u2q ?_
  refine mj_u2q ?_
  exact ⟨rfl, rfl, rfl⟩

