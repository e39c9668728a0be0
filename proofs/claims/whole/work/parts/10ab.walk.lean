-- X2_eliminate
def bdX2_eliminate_12 (F : Nat) (r41 : Nat → Int32) (r45 : Nat → Int32) (r50 : Nat → Int32) (x1 : Int32) (x2 : Int32) : Option (((Int32)) ⊕ ((Int32))) := (if (r41 6) ≤ x2 then some (.inr x2) else (if mj_ib x2 200 = true then (if mj_ib ((r45 x2.toNatClampNeg) + x1) 40200 = true then (if (r50 (((r45 x2.toNatClampNeg) + x1).toNatClampNeg)) = 0 then some (.inl (x2 + (1))) else some (.inr x2)) else none) else none))
def bdX2_eliminate_91 (F : Nat) (r41 : Nat → Int32) (r45 : Nat → Int32) (r46 : Nat → Int32) (x1 : Int32) (x3 : Int32) (x4 : Int32) (x5 : Int32) (r50 : Nat → Int32) : Option (((Int32) × (Nat → Int32)) ⊕ ((Nat → Int32))) := (if (r41 6) ≤ x5 then some (.inr r50) else (if mj_ib x5 200 = true then (fnX2_takeAway F r46 r50 x3 (r45 x5.toNatClampNeg) x1 x4).bind (fun o7 => some (.inl ((x5 + (1)), o7))) else none))
def bdX2_eliminate_2 (F : Nat) (r41 : Nat → Int32) (x1 : Int32) (r45 : Nat → Int32) (r46 : Nat → Int32) (r50 : Nat → Int32) : Option (((Int32) × (Nat → Int32) × (Nat → Int32) × (Nat → Int32)) ⊕ (((Nat → Int32) × (Nat → Int32) × (Nat → Int32)) ⊕ ((Nat → Int32) × (Nat → Int32) × (Nat → Int32)))) := (if (r41 6) ≤ x1 then some (.inr (.inl (r45, r46, r50))) else (mj_it (bdX2_eliminate_12 F r41 r45 r50 x1) F x1).bind (fun x2_9 => (if x2_9 = (r41 6) then some (.inr (.inr (r45, r46, r50))) else (if mj_ib x2_9 200 = true then (if mj_ib x1 200 = true then (if mj_ib x2_9 200 = true then (if mj_ib x1 200 = true then (fnX2_normalise F r41 r46 r50 (r45 x2_9.toNatClampNeg) x1).bind (fun o15 => (mj_it (mj_u2 (fun z0 z1 => bdX2_eliminate_91 F r41 (upd (upd r45 x2_9.toNatClampNeg (r45 x1.toNatClampNeg)) x1.toNatClampNeg (r45 x2_9.toNatClampNeg)) o15.2.1 x1 (r45 x2_9.toNatClampNeg) o15.1 z0 z1)) F ((x1 + (1 : Int32)), o15.2.2)).bind (fun r50_16 => some (.inl ((x1 + (1)), (upd (upd r45 x2_9.toNatClampNeg (r45 x1.toNatClampNeg)) x1.toNatClampNeg (r45 x2_9.toNatClampNeg)), o15.2.1, r50_16)))) else none) else none) else none) else none))))
def fnX2_eliminate (F : Nat) (r41 : Nat → Int32) (r45 : Nat → Int32) (r46 : Nat → Int32) (r50 : Nat → Int32) : Option ((Int32) × (Nat → Int32) × (Nat → Int32) × (Nat → Int32)) := (mj_it (mj_u2 (fun z0 => (mj_u2 (fun z1 => (mj_u2 (fun z2 z3 => bdX2_eliminate_2 F r41 z0 z1 z2 z3)))))) F ((0 : Int32), r45, r46, r50)).bind (Sum.elim (mj_u2 (fun r45_17 => (mj_u2 (fun r46_17 r50_17 => some ((1 : Int32), r45_17, r46_17, r50_17))))) (mj_u2 (fun r45_17 => (mj_u2 (fun r46_17 r50_17 => some ((0 : Int32), r45_17, r46_17, r50_17))))))
set_option maxRecDepth 100000 in
set_option maxHeartbeats 4000000 in
theorem lpX2_eliminate_12 {X : mj_XT} {l : Launch} {G : mj_GT} {ad : Nat → Nat} {Qn : Option Value → mj_IT → mj_LT → Prop} (hR : mj_R X l G mj_P0 mj_S0 98 ad 0 0 Qn) (F : Nat) (I : mj_IT) (L : mj_LT) (r41 : Nat → Int32) (r45 : Nat → Int32) (r46 : Nat → Int32) (r50 : Nat → Int32) (x1 : Int32) : ∀ (n : Nat) (s : ((Int32))) (e : ((Int32))), mj_it (bdX2_eliminate_12 F r41 r45 r50 x1) n s = some e → (fun x2 => mj_W X G RX2 "eliminate" cX2_eliminate 6 4 (some .boolean) mj_P0 mj_S0 98 ad 0 0 42 [(0, .ref 41), (1, .int x1), (2, .int x2)] [] (mj_rows I [(41, r41), (45, r45), (46, r46), (50, r50)]) L) e → (fun x2 => mj_W X G RX2 "eliminate" cX2_eliminate 6 4 (some .boolean) mj_P0 mj_S0 98 ad 0 0 12 [(0, .ref 41), (1, .int x1), (2, .int x2)] [] (mj_rows I [(41, r41), (45, r45), (46, r46), (50, r50)]) L) s := by
  refine mj_loop (fun x2 o hf hc hx => ?_)
  unfold bdX2_eliminate_12 at hf
  refine mj_iload_n 2 dX2_eliminate_12 rfl ?_
  refine mj_aload_n 0 dX2_eliminate_13 rfl ?_
  refine mj_getIv (v := (r41 6)) rfl fl_X2_91 rfl s0_41 a0_41 dX2_eliminate_14 ?_
  refine mj_icmp_ge 42 dX2_eliminate_17 (by decide) (fun c1 => ?_) (fun c1 => ?_)
  · replace hf := mj_pos c1 hf
    obtain rfl := Option.some.inj hf
    have hZ := hx x2 rfl
    exact hZ
  · replace hf := mj_neg c1 hf
    refine mj_aload_n 0 dX2_eliminate_20 rfl ?_
    refine mj_getP p0_41_14 (by decide) fl_X2_37 rfl s0_41 a0_41 dX2_eliminate_21 ?_
    refine mj_aload_n 0 dX2_eliminate_24 rfl ?_
    refine mj_getP p0_41_9 (by decide) fl_X2_21 rfl s0_41 a0_41 dX2_eliminate_25 ?_
    refine mj_iload_n 2 dX2_eliminate_28 rfl ?_
    obtain ⟨z2, hf⟩ := mj_ck hf
    refine mj_ialdv (x := r45) rfl s0_45 a0_45 z2 dX2_eliminate_29 ?_
    refine mj_iload_n 1 dX2_eliminate_30 rfl ?_
    refine mj_iadd dX2_eliminate_31 ?_
    obtain ⟨z3, hf⟩ := mj_ck hf
    refine mj_ialdv (x := r50) rfl s0_50 a0_50 z3 dX2_eliminate_32 ?_
    refine mj_if_ne 42 dX2_eliminate_33 (by decide) (fun c4 => ?_) (fun c4 => ?_)
    · replace hf := mj_neg c4 hf
      obtain rfl := Option.some.inj hf
      have hZ := hx x2 rfl
      exact hZ
    · replace hf := mj_pos c4 hf
      refine mj_iinc 2 [(2, .int (x2 + (1))), (0, .ref 41), (1, .int x1)] dX2_eliminate_36 rfl (kz_1 _) (by decide) rfl ?_
      refine mj_goto 12 dX2_eliminate_39 (by decide) ?_
      refine mj_sub [1, 2, 0] [(0, .ref 41), (1, .int x1), (2, .int (x2 + (1)))] rfl ?_
      obtain rfl := Option.some.inj hf
      have hZ := hc (x2 + (1)) rfl
      exact hZ
set_option maxRecDepth 100000 in
set_option maxHeartbeats 4000000 in
theorem lpX2_eliminate_91 {X : mj_XT} {l : Launch} {G : mj_GT} {ad : Nat → Nat} {Qn : Option Value → mj_IT → mj_LT → Prop} (hR : mj_R X l G mj_P0 mj_S0 98 ad 0 0 Qn) (F : Nat) (I : mj_IT) (L : mj_LT) (r41 : Nat → Int32) (r45 : Nat → Int32) (r46 : Nat → Int32) (r50 : Nat → Int32) (x1 : Int32) (x3 : Int32) (x4 : Int32) : ∀ (n : Nat) (s : ((Int32) × (Nat → Int32))) (e : ((Nat → Int32))), mj_it (mj_u2 (fun z0 z1 => bdX2_eliminate_91 F r41 r45 r46 x1 x3 x4 z0 z1)) n s = some e → (fun r50 => mj_W X G RX2 "eliminate" cX2_eliminate 6 4 (some .boolean) mj_P0 mj_S0 98 ad 0 0 121 [(0, .ref 41), (1, .int x1)] [] (mj_rows I [(41, r41), (45, r45), (46, r46), (50, r50)]) L) e → (mj_u2 (fun x5 r50 => mj_W X G RX2 "eliminate" cX2_eliminate 6 4 (some .boolean) mj_P0 mj_S0 98 ad 0 0 91 [(0, .ref 41), (1, .int x1), (3, .int x3), (4, .int x4), (5, .int x5)] [] (mj_rows I [(41, r41), (45, r45), (46, r46), (50, r50)]) L)) s := by
  refine mj_loop (fun s o hf hc hx => ?_)
  obtain ⟨x5, r50⟩ := s
  replace hf := mj_u2e hf
  refine mj_u2q ?_
  unfold bdX2_eliminate_91 at hf
  refine mj_iload 4 dX2_eliminate_91 rfl ?_
  refine mj_aload_n 0 dX2_eliminate_93 rfl ?_
  refine mj_getIv (v := (r41 6)) rfl fl_X2_91 rfl s0_41 a0_41 dX2_eliminate_94 ?_
  refine mj_icmp_ge 121 dX2_eliminate_97 (by decide) (fun c5 => ?_) (fun c5 => ?_)
  · replace hf := mj_pos c5 hf
    refine mj_sub [0, 1] [(0, .ref 41), (1, .int x1)] rfl ?_
    obtain rfl := Option.some.inj hf
    have hZ := hx r50 rfl
    exact hZ
  · replace hf := mj_neg c5 hf
    refine mj_aload_n 0 dX2_eliminate_100 rfl ?_
    refine mj_iload_n 2 dX2_eliminate_101 rfl ?_
    refine mj_aload_n 0 dX2_eliminate_102 rfl ?_
    refine mj_getP p0_41_9 (by decide) fl_X2_21 rfl s0_41 a0_41 dX2_eliminate_103 ?_
    refine mj_iload 4 dX2_eliminate_106 rfl ?_
    obtain ⟨z6, hf⟩ := mj_ck hf
    refine mj_ialdv (x := r45) rfl s0_45 a0_45 z6 dX2_eliminate_108 ?_
    refine mj_iload_n 1 dX2_eliminate_109 rfl ?_
    refine mj_iload 3 dX2_eliminate_110 rfl ?_
    obtain ⟨o7, ho7, hf⟩ := mj_bd hf
    refine mj_callVd (I2 := (mj_rows I [(41, r41), (45, r45), (46, r46), (50, o7)])) (L2 := L) (s1 := []) (st := []) [.int x3, .int (r45 x5.toNatClampNeg), .int x1, .int x4] (cmX2_takeAway X.2.1 G F x3 (r45 x5.toNatClampNeg) x1 x4 _ _ r46 r50 rfl rfl o7 ho7) (mj_rr rfl) rfl cw_X2_132 s0_41 a0_41 (by decide) rfl rfl (Nat.le_of_ble_eq_true rfl) ⟨Nat.zero_le _, Nat.zero_le _⟩ dX2_eliminate_112 rfl ?_
    refine mj_iinc 4 [(5, .int (x5 + (1))), (0, .ref 41), (1, .int x1), (3, .int x3), (4, .int x4)] dX2_eliminate_115 rfl (kz_1 _) (by decide) rfl ?_
    refine mj_goto 91 dX2_eliminate_118 (by decide) ?_
    refine mj_sub [1, 2, 3, 4, 0] [(0, .ref 41), (1, .int x1), (3, .int x3), (4, .int x4), (5, .int (x5 + (1)))] rfl ?_
    obtain rfl := Option.some.inj hf
    have hZ := hc ((x5 + (1)), o7) rfl
    replace hZ := mj_u2p hZ
    exact hZ
set_option maxRecDepth 100000 in
set_option maxHeartbeats 4000000 in
theorem lpX2_eliminate_2 {X : mj_XT} {l : Launch} {G : mj_GT} {ad : Nat → Nat} {Qn : Option Value → mj_IT → mj_LT → Prop} (hR : mj_R X l G mj_P0 mj_S0 98 ad 0 0 Qn) (F : Nat) (I : mj_IT) (L : mj_LT) (r41 : Nat → Int32) (r45 : Nat → Int32) (r46 : Nat → Int32) (r50 : Nat → Int32) : ∀ (n : Nat) (s : ((Int32) × (Nat → Int32) × (Nat → Int32) × (Nat → Int32))) (e : (((Nat → Int32) × (Nat → Int32) × (Nat → Int32)) ⊕ ((Nat → Int32) × (Nat → Int32) × (Nat → Int32)))), mj_it (mj_u2 (fun z0 => (mj_u2 (fun z1 => (mj_u2 (fun z2 z3 => bdX2_eliminate_2 F r41 z0 z1 z2 z3)))))) n s = some e → (Sum.elim (mj_u2 (fun r45 => (mj_u2 (fun r46 r50 => mj_W X G RX2 "eliminate" cX2_eliminate 6 4 (some .boolean) mj_P0 mj_S0 98 ad 0 0 127 [] [] (mj_rows I [(41, r41), (45, r45), (46, r46), (50, r50)]) L)))) (mj_u2 (fun r45 => (mj_u2 (fun r46 r50 => mj_W X G RX2 "eliminate" cX2_eliminate 6 4 (some .boolean) mj_P0 mj_S0 98 ad 0 0 50 [] [] (mj_rows I [(41, r41), (45, r45), (46, r46), (50, r50)]) L))))) e → (mj_u2 (fun x1 => (mj_u2 (fun r45 => (mj_u2 (fun r46 r50 => mj_W X G RX2 "eliminate" cX2_eliminate 6 4 (some .boolean) mj_P0 mj_S0 98 ad 0 0 2 [(0, .ref 41), (1, .int x1)] [] (mj_rows I [(41, r41), (45, r45), (46, r46), (50, r50)]) L)))))) s := by
  refine mj_loop (fun s o hf hc hx => ?_)
  obtain ⟨x1, r45, r46, r50⟩ := s
  replace hf := mj_u2e hf
  refine mj_u2q ?_
  replace hf := mj_u2e hf
  refine mj_u2q ?_
  replace hf := mj_u2e hf
  refine mj_u2q ?_
  unfold bdX2_eliminate_2 at hf
  refine mj_iload_n 1 dX2_eliminate_2 rfl ?_
  refine mj_aload_n 0 dX2_eliminate_3 rfl ?_
  refine mj_getIv (v := (r41 6)) rfl fl_X2_91 rfl s0_41 a0_41 dX2_eliminate_4 ?_
  refine mj_icmp_ge 127 dX2_eliminate_7 (by decide) (fun c8 => ?_) (fun c8 => ?_)
  · replace hf := mj_pos c8 hf
    refine mj_sub [] [] rfl ?_
    obtain rfl := Option.some.inj hf
    have hZ := hx (.inl (r45, r46, r50)) rfl
    replace hZ := mj_el hZ
    replace hZ := mj_u2p hZ
    replace hZ := mj_u2p hZ
    exact hZ
  · replace hf := mj_neg c8 hf
    refine mj_iload_n 1 dX2_eliminate_10 rfl ?_
    refine mj_istore_n [(2, .int x1), (0, .ref 41), (1, .int x1)] dX2_eliminate_11 rfl (by decide) rfl ?_
    refine mj_sub [1, 2, 0] [(0, .ref 41), (1, .int x1), (2, .int x1)] rfl ?_
    obtain ⟨x2_9, ho9, hf⟩ := mj_bd hf
    refine lpX2_eliminate_12 hR F I L r41 r45 r46 r50 x1 F x1 x2_9 ho9 ?_
    refine ?_
    refine mj_iload_n 2 dX2_eliminate_42 rfl ?_
    refine mj_aload_n 0 dX2_eliminate_43 rfl ?_
    refine mj_getIv (v := (r41 6)) rfl fl_X2_91 rfl s0_41 a0_41 dX2_eliminate_44 ?_
    refine mj_icmp_ne 52 dX2_eliminate_47 (by decide) (fun c10 => ?_) (fun c10 => ?_)
    · replace hf := mj_neg c10 hf
      refine mj_aload_n 0 dX2_eliminate_52 rfl ?_
      refine mj_getP p0_41_9 (by decide) fl_X2_21 rfl s0_41 a0_41 dX2_eliminate_53 ?_
      refine mj_iload_n 2 dX2_eliminate_56 rfl ?_
      obtain ⟨z11, hf⟩ := mj_ck hf
      refine mj_ialdv (x := r45) rfl s0_45 a0_45 z11 dX2_eliminate_57 ?_
      refine mj_istore_n [(3, .int (r45 x2_9.toNatClampNeg)), (0, .ref 41), (1, .int x1), (2, .int x2_9)] dX2_eliminate_58 rfl (by decide) rfl ?_
      refine mj_aload_n 1 dX2_eliminate_59 rfl ?_
      refine mj_getP p0_41_9 (by decide) fl_X2_21 rfl s0_41 a0_41 dX2_eliminate_60 ?_
      refine mj_iload_n 3 dX2_eliminate_63 rfl ?_
      refine mj_aload_n 1 dX2_eliminate_64 rfl ?_
      refine mj_getP p0_41_9 (by decide) fl_X2_21 rfl s0_41 a0_41 dX2_eliminate_65 ?_
      refine mj_iload_n 2 dX2_eliminate_68 rfl ?_
      obtain ⟨z12, hf⟩ := mj_ck hf
      refine mj_ialdv (x := r45) rfl s0_45 a0_45 z12 dX2_eliminate_69 ?_
      obtain ⟨z13, hf⟩ := mj_ck hf
      refine mj_iastr [(41, r41), (45, (upd r45 x2_9.toNatClampNeg (r45 x1.toNatClampNeg))), (46, r46), (50, r50)] rfl s0_45 a0_45 z13 dX2_eliminate_70 ?_
      refine mj_aload_n 1 dX2_eliminate_71 rfl ?_
      refine mj_getP p0_41_9 (by decide) fl_X2_21 rfl s0_41 a0_41 dX2_eliminate_72 ?_
      refine mj_iload_n 2 dX2_eliminate_75 rfl ?_
      refine mj_iload_n 0 dX2_eliminate_76 rfl ?_
      obtain ⟨z14, hf⟩ := mj_ck hf
      refine mj_iastr [(41, r41), (45, (upd (upd r45 x2_9.toNatClampNeg (r45 x1.toNatClampNeg)) x1.toNatClampNeg (r45 x2_9.toNatClampNeg))), (46, r46), (50, r50)] rfl s0_45 a0_45 z14 dX2_eliminate_77 ?_
      refine mj_aload_n 1 dX2_eliminate_78 rfl ?_
      refine mj_iload_n 0 dX2_eliminate_79 rfl ?_
      refine mj_iload_n 2 dX2_eliminate_80 rfl ?_
      obtain ⟨o15, ho15, hf⟩ := mj_bd hf
      refine mj_callVd (I2 := (mj_rows I [(41, r41), (45, (upd (upd r45 x2_9.toNatClampNeg (r45 x1.toNatClampNeg)) x1.toNatClampNeg (r45 x2_9.toNatClampNeg))), (46, o15.2.1), (50, o15.2.2)])) (L2 := L) (s1 := [.int o15.1]) (st := []) [.int (r45 x2_9.toNatClampNeg), .int x1] (cmX2_normalise X.2.1 G F (r45 x2_9.toNatClampNeg) x1 _ _ r41 r46 r50 rfl rfl rfl o15 ho15) (mj_rr rfl) rfl cw_X2_129 s0_41 a0_41 (by decide) rfl rfl (Nat.le_of_ble_eq_true rfl) ⟨Nat.zero_le _, Nat.zero_le _⟩ dX2_eliminate_81 rfl ?_
      refine mj_istore [(4, .int o15.1), (3, .int (r45 x2_9.toNatClampNeg)), (0, .ref 41), (1, .int x1), (2, .int x2_9)] dX2_eliminate_84 (by decide) rfl ?_
      refine mj_iload_n 3 dX2_eliminate_86 rfl ?_
      refine mj_iconst dX2_eliminate_87 kc_iconst_1 ?_
      refine mj_iadd dX2_eliminate_88 ?_
      refine mj_istore [(5, .int (x1 + (1 : Int32))), (4, .int o15.1), (3, .int (r45 x2_9.toNatClampNeg)), (0, .ref 41), (1, .int x1), (2, .int x2_9)] dX2_eliminate_89 (by decide) rfl ?_
      refine mj_sub [3, 4, 2, 1, 0] [(0, .ref 41), (1, .int x1), (3, .int (r45 x2_9.toNatClampNeg)), (4, .int o15.1), (5, .int (x1 + (1 : Int32)))] rfl ?_
      obtain ⟨r50_16, ho16, hf⟩ := mj_bd hf
      refine lpX2_eliminate_91 hR F I L r41 (upd (upd r45 x2_9.toNatClampNeg (r45 x1.toNatClampNeg)) x1.toNatClampNeg (r45 x2_9.toNatClampNeg)) o15.2.1 o15.2.2 x1 (r45 x2_9.toNatClampNeg) o15.1 F ((x1 + (1 : Int32)), o15.2.2) r50_16 ho16 ?_
      refine ?_
      refine mj_iinc 1 [(1, .int (x1 + (1))), (0, .ref 41)] dX2_eliminate_121 rfl (kz_1 _) (by decide) rfl ?_
      refine mj_goto 2 dX2_eliminate_124 (by decide) ?_
      refine mj_sub [1, 0] [(0, .ref 41), (1, .int (x1 + (1)))] rfl ?_
      obtain rfl := Option.some.inj hf
      have hZ := hc ((x1 + (1)), (upd (upd r45 x2_9.toNatClampNeg (r45 x1.toNatClampNeg)) x1.toNatClampNeg (r45 x2_9.toNatClampNeg)), o15.2.1, r50_16) rfl
      replace hZ := mj_u2p hZ
      replace hZ := mj_u2p hZ
      replace hZ := mj_u2p hZ
      exact hZ
    · replace hf := mj_pos c10 hf
      refine mj_sub [] [] rfl ?_
      obtain rfl := Option.some.inj hf
      have hZ := hx (.inr (r45, r46, r50)) rfl
      replace hZ := mj_er hZ
      replace hZ := mj_u2p hZ
      replace hZ := mj_u2p hZ
      exact hZ
set_option maxRecDepth 100000 in
set_option maxHeartbeats 4000000 in
theorem mtX2_eliminate {X : mj_XT} {l : Launch} {G : mj_GT} {ad : Nat → Nat} {Qn : Option Value → mj_IT → mj_LT → Prop} (hR : mj_R X l G mj_P0 mj_S0 98 ad 0 0 Qn) (F : Nat) (I : mj_IT) (L : mj_LT) (r41 : Nat → Int32) (r45 : Nat → Int32) (r46 : Nat → Int32) (r50 : Nat → Int32) (o : ((Int32) × (Nat → Int32) × (Nat → Int32) × (Nat → Int32))) (hf : fnX2_eliminate F r41 r45 r46 r50 = some o) (hq : (mj_u2 (fun ov => (mj_u2 (fun r45 => (mj_u2 (fun r46 r50 => Qn (some (.int ov)) (mj_rows I [(41, r41), (45, r45), (46, r46), (50, r50)]) L)))))) o) : mj_W X G RX2 "eliminate" cX2_eliminate 6 4 (some .boolean) mj_P0 mj_S0 98 ad 0 0 0 [(0, .ref 41)] [] (mj_rows I [(41, r41), (45, r45), (46, r46), (50, r50)]) L := by
  unfold fnX2_eliminate at hf
  refine mj_iconst dX2_eliminate_0 kc_iconst_0 ?_
  refine mj_istore_n [(1, .int (0 : Int32)), (0, .ref 41)] dX2_eliminate_1 rfl (by decide) rfl ?_
  refine mj_sub [1, 0] [(0, .ref 41), (1, .int (0 : Int32))] rfl ?_
  obtain ⟨e17, ho17, hf⟩ := mj_bd hf
  refine lpX2_eliminate_2 hR F I L r41 r45 r46 r50 F ((0 : Int32), r45, r46, r50) e17 ho17 ?_
  rcases e17 with e17 | e17
  · replace hf := mj_ele hf
    obtain ⟨r45_17, r46_17, r50_17⟩ := e17
    replace hf := mj_u2e hf
    replace hf := mj_u2e hf
    refine mj_elq (?_)
    refine mj_u2q ?_
    refine mj_u2q ?_
    refine mj_iconst dX2_eliminate_127 kc_iconst_1 ?_
    obtain rfl := Option.some.inj hf
    have hZ := hq
    replace hZ := mj_u2p hZ
    replace hZ := mj_u2p hZ
    replace hZ := mj_u2p hZ
    exact mj_iret hR ⟨Nat.le_refl _, Nat.le_refl _⟩ rfl (by decide) dX2_eliminate_128 hZ
  · replace hf := mj_ere hf
    obtain ⟨r45_17, r46_17, r50_17⟩ := e17
    replace hf := mj_u2e hf
    replace hf := mj_u2e hf
    refine mj_erq (?_)
    refine mj_u2q ?_
    refine mj_u2q ?_
    refine mj_iconst dX2_eliminate_50 kc_iconst_0 ?_
    obtain rfl := Option.some.inj hf
    have hZ := hq
    replace hZ := mj_u2p hZ
    replace hZ := mj_u2p hZ
    replace hZ := mj_u2p hZ
    exact mj_iret hR ⟨Nat.le_refl _, Nat.le_refl _⟩ rfl (by decide) dX2_eliminate_51 hZ
set_option maxRecDepth 100000 in
set_option maxHeartbeats 4000000 in
theorem cmX2_eliminate (l : Launch) (G : mj_GT) (F : Nat) (I : mj_IT) (L : mj_LT) (r41 : Nat → Int32) (r45 : Nat → Int32) (r46 : Nat → Int32) (r50 : Nat → Int32) (hr41 : I 41 = r41) (hr45 : I 45 = r45) (hr46 : I 46 = r46) (hr50 : I 50 = r50) (o : ((Int32) × (Nat → Int32) × (Nat → Int32) × (Nat → Int32))) (hf : fnX2_eliminate F r41 r45 r46 r50 = some o) : mj_M l G yX2_eliminate cX2_eliminate 6 4 (some .boolean) 0 0 mj_P0 mj_S0 98 [.ref 41] I L (mj_qd (some (.int o.1)) (mj_rows I [(41, r41), (45, o.2.1), (46, o.2.2.1), (50, o.2.2.2)]) L) := by
  refine mj_in RX2 "eliminate" [(0, .ref 41)] rfl rfl rfl (by decide) (Nat.le_of_ble_eq_true rfl) (fun X ad hR => ?_)
  refine mj_toI [(41, r41), (45, r45), (46, r46), (50, r50)] (by intro q hq; simp only [List.mem_cons, List.not_mem_nil, or_false] at hq; rcases hq with rfl | rfl | rfl | rfl <;> assumption) ?_
  refine mtX2_eliminate hR F I L r41 r45 r46 r50 o hf ?_
  obtain ⟨w0, w1, w2, w3⟩ := o
  refine mj_u2q ?_
  refine mj_u2q ?_
  refine mj_u2q ?_
  exact ⟨rfl, rfl, rfl⟩

-- X2_substitute
def bdX2_substitute_32 (F : Nat) (r41 : Nat → Int32) (r42 : Nat → Int32) (r43 : Nat → Int32) (r45 : Nat → Int32) (r50 : Nat → Int32) (x1 : Int32) (x2 : Int32) (x3 : Int32) : Option (((Int32) × (Int32)) ⊕ ((Int32))) := (if (r41 6) ≤ x3 then some (.inr x2) else (if mj_ib x1 200 = true then (if mj_ib ((r45 x1.toNatClampNeg) + x3) 40200 = true then (if (r50 (((r45 x1.toNatClampNeg) + x3).toNatClampNeg)) = 0 then some (.inl (x2, (x3 + (1)))) else (if mj_ib x3 200 = true then (if mj_ib (r43 x3.toNatClampNeg) 200 = true then (fnX3_times F (r50 (((r45 x1.toNatClampNeg) + x3).toNatClampNeg)) (r42 ((r43 x3.toNatClampNeg).toNatClampNeg))).bind (fun o7 => (fnX3_less F x2 o7).bind (fun o8 => some (.inl (o8, (x3 + (1)))))) else none) else none)) else none) else none))
def bdX2_substitute_7 (F : Nat) (r41 : Nat → Int32) (r43 : Nat → Int32) (r45 : Nat → Int32) (r50 : Nat → Int32) (x1 : Int32) (r42 : Nat → Int32) : Option (((Int32) × (Nat → Int32)) ⊕ ((Nat → Int32))) := (if x1 < 0 then some (.inr r42) else (if mj_ib x1 200 = true then (if mj_ib ((r45 x1.toNatClampNeg) + (r41 6)) 40200 = true then (mj_it (mj_u2 (fun z0 z1 => bdX2_substitute_32 F r41 r42 r43 r45 r50 x1 z0 z1)) F ((r50 (((r45 x1.toNatClampNeg) + (r41 6)).toNatClampNeg)), (x1 + (1 : Int32)))).bind (fun x2_12 => (if mj_ib x1 200 = true then (if mj_ib (r43 x1.toNatClampNeg) 200 = true then some (.inl ((x1 + (-1)), (upd r42 ((r43 x1.toNatClampNeg).toNatClampNeg) x2_12))) else none) else none)) else none) else none))
def fnX2_substitute (F : Nat) (r41 : Nat → Int32) (r42 : Nat → Int32) (r43 : Nat → Int32) (r45 : Nat → Int32) (r50 : Nat → Int32) : Option ((Nat → Int32)) := (mj_it (mj_u2 (fun z0 z1 => bdX2_substitute_7 F r41 r43 r45 r50 z0 z1)) F (((r41 6) - (1 : Int32)), r42)).bind (fun r42_15 => some r42_15)
set_option maxRecDepth 100000 in
set_option maxHeartbeats 4000000 in
theorem lpX2_substitute_32 {X : mj_XT} {l : Launch} {G : mj_GT} {ad : Nat → Nat} {Qn : Option Value → mj_IT → mj_LT → Prop} (hR : mj_R X l G mj_P0 mj_S0 98 ad 0 0 Qn) (F : Nat) (I : mj_IT) (L : mj_LT) (r41 : Nat → Int32) (r42 : Nat → Int32) (r43 : Nat → Int32) (r45 : Nat → Int32) (r50 : Nat → Int32) (x1 : Int32) : ∀ (n : Nat) (s : ((Int32) × (Int32))) (e : ((Int32))), mj_it (mj_u2 (fun z0 z1 => bdX2_substitute_32 F r41 r42 r43 r45 r50 x1 z0 z1)) n s = some e → (fun x2 => mj_W X G RX2 "substitute" cX2_substitute 5 2 none mj_P0 mj_S0 98 ad 0 0 87 [(0, .ref 41), (1, .int x1), (2, .int x2)] [] (mj_rows I [(41, r41), (42, r42), (43, r43), (45, r45), (50, r50)]) L) e → (mj_u2 (fun x2 x3 => mj_W X G RX2 "substitute" cX2_substitute 5 2 none mj_P0 mj_S0 98 ad 0 0 32 [(0, .ref 41), (1, .int x1), (2, .int x2), (3, .int x3)] [] (mj_rows I [(41, r41), (42, r42), (43, r43), (45, r45), (50, r50)]) L)) s := by
  refine mj_loop (fun s o hf hc hx => ?_)
  obtain ⟨x2, x3⟩ := s
  replace hf := mj_u2e hf
  refine mj_u2q ?_
  unfold bdX2_substitute_32 at hf
  refine mj_iload_n 3 dX2_substitute_32 rfl ?_
  refine mj_aload_n 0 dX2_substitute_33 rfl ?_
  refine mj_getIv (v := (r41 6)) rfl fl_X2_91 rfl s0_41 a0_41 dX2_substitute_34 ?_
  refine mj_icmp_ge 87 dX2_substitute_37 (by decide) (fun c1 => ?_) (fun c1 => ?_)
  · replace hf := mj_pos c1 hf
    refine mj_sub [0, 1, 2] [(0, .ref 41), (1, .int x1), (2, .int x2)] rfl ?_
    obtain rfl := Option.some.inj hf
    have hZ := hx x2 rfl
    exact hZ
  · replace hf := mj_neg c1 hf
    refine mj_aload_n 0 dX2_substitute_40 rfl ?_
    refine mj_getP p0_41_14 (by decide) fl_X2_37 rfl s0_41 a0_41 dX2_substitute_41 ?_
    refine mj_aload_n 0 dX2_substitute_44 rfl ?_
    refine mj_getP p0_41_9 (by decide) fl_X2_21 rfl s0_41 a0_41 dX2_substitute_45 ?_
    refine mj_iload_n 1 dX2_substitute_48 rfl ?_
    obtain ⟨z2, hf⟩ := mj_ck hf
    refine mj_ialdv (x := r45) rfl s0_45 a0_45 z2 dX2_substitute_49 ?_
    refine mj_iload_n 3 dX2_substitute_50 rfl ?_
    refine mj_iadd dX2_substitute_51 ?_
    obtain ⟨z3, hf⟩ := mj_ck hf
    refine mj_ialdv (x := r50) rfl s0_50 a0_50 z3 dX2_substitute_52 ?_
    refine mj_istore [(4, .int (r50 (((r45 x1.toNatClampNeg) + x3).toNatClampNeg))), (0, .ref 41), (1, .int x1), (2, .int x2), (3, .int x3)] dX2_substitute_53 (by decide) rfl ?_
    refine mj_iload 0 dX2_substitute_55 rfl ?_
    refine mj_if_eq 81 dX2_substitute_57 (by decide) (fun c4 => ?_) (fun c4 => ?_)
    · replace hf := mj_pos c4 hf
      refine mj_iinc 4 [(3, .int (x3 + (1))), (4, .int (r50 (((r45 x1.toNatClampNeg) + x3).toNatClampNeg))), (0, .ref 41), (1, .int x1), (2, .int x2)] dX2_substitute_81 rfl (kz_1 _) (by decide) rfl ?_
      refine mj_goto 32 dX2_substitute_84 (by decide) ?_
      refine mj_sub [2, 3, 4, 0] [(0, .ref 41), (1, .int x1), (2, .int x2), (3, .int (x3 + (1)))] rfl ?_
      obtain rfl := Option.some.inj hf
      have hZ := hc (x2, (x3 + (1))) rfl
      replace hZ := mj_u2p hZ
      exact hZ
    · replace hf := mj_neg c4 hf
      refine mj_iload_n 3 dX2_substitute_60 rfl ?_
      refine mj_iload 0 dX2_substitute_61 rfl ?_
      refine mj_aload_n 1 dX2_substitute_63 rfl ?_
      refine mj_getP p0_41_3 (by decide) fl_X2_9 rfl s0_41 a0_41 dX2_substitute_64 ?_
      refine mj_aload_n 1 dX2_substitute_67 rfl ?_
      refine mj_getP p0_41_7 (by decide) fl_X2_15 rfl s0_41 a0_41 dX2_substitute_68 ?_
      refine mj_iload_n 4 dX2_substitute_71 rfl ?_
      obtain ⟨z5, hf⟩ := mj_ck hf
      refine mj_ialdv (x := r43) rfl s0_43 a0_43 z5 dX2_substitute_72 ?_
      obtain ⟨z6, hf⟩ := mj_ck hf
      refine mj_ialdv (x := r42) rfl s0_42 a0_42 z6 dX2_substitute_73 ?_
      obtain ⟨o7, ho7, hf⟩ := mj_bd hf
      refine mj_callSd (I2 := (mj_rows I [(41, r41), (42, r42), (43, r43), (45, r45), (50, r50)])) (L2 := L) (s1 := [.int o7, .int x2]) (st := [.int x2]) [.int (r50 (((r45 x1.toNatClampNeg) + x3).toNatClampNeg)), .int (r42 ((r43 x3.toNatClampNeg).toNatClampNeg))] (cmX3_times X.2.1 G F (r50 (((r45 x1.toNatClampNeg) + x3).toNatClampNeg)) (r42 ((r43 x3.toNatClampNeg).toNatClampNeg)) _ _   o7 ho7) rfl rfl cw_X2_81 (by decide) rfl rfl (Nat.le_of_ble_eq_true rfl) ⟨Nat.zero_le _, Nat.zero_le _⟩ dX2_substitute_74 rfl ?_
      obtain ⟨o8, ho8, hf⟩ := mj_bd hf
      refine mj_callSd (I2 := (mj_rows I [(41, r41), (42, r42), (43, r43), (45, r45), (50, r50)])) (L2 := L) (s1 := [.int o8]) (st := []) [.int x2, .int o7] (cmX3_less X.2.1 G F x2 o7 _ _   o8 ho8) rfl rfl cw_X2_85 (by decide) rfl rfl (Nat.le_of_ble_eq_true rfl) ⟨Nat.zero_le _, Nat.zero_le _⟩ dX2_substitute_77 rfl ?_
      refine mj_istore_n [(2, .int o8), (4, .int (r50 (((r45 x1.toNatClampNeg) + x3).toNatClampNeg))), (0, .ref 41), (1, .int x1), (3, .int x3)] dX2_substitute_80 rfl (by decide) rfl ?_
      refine mj_iinc 4 [(3, .int (x3 + (1))), (2, .int o8), (4, .int (r50 (((r45 x1.toNatClampNeg) + x3).toNatClampNeg))), (0, .ref 41), (1, .int x1)] dX2_substitute_81 rfl (kz_1 _) (by decide) rfl ?_
      refine mj_goto 32 dX2_substitute_84 (by decide) ?_
      refine mj_sub [3, 4, 1, 0] [(0, .ref 41), (1, .int x1), (2, .int o8), (3, .int (x3 + (1)))] rfl ?_
      obtain rfl := Option.some.inj hf
      have hZ := hc (o8, (x3 + (1))) rfl
      replace hZ := mj_u2p hZ
      exact hZ
set_option maxRecDepth 100000 in
set_option maxHeartbeats 4000000 in
theorem lpX2_substitute_7 {X : mj_XT} {l : Launch} {G : mj_GT} {ad : Nat → Nat} {Qn : Option Value → mj_IT → mj_LT → Prop} (hR : mj_R X l G mj_P0 mj_S0 98 ad 0 0 Qn) (F : Nat) (I : mj_IT) (L : mj_LT) (r41 : Nat → Int32) (r42 : Nat → Int32) (r43 : Nat → Int32) (r45 : Nat → Int32) (r50 : Nat → Int32) : ∀ (n : Nat) (s : ((Int32) × (Nat → Int32))) (e : ((Nat → Int32))), mj_it (mj_u2 (fun z0 z1 => bdX2_substitute_7 F r41 r43 r45 r50 z0 z1)) n s = some e → (fun r42 => mj_W X G RX2 "substitute" cX2_substitute 5 2 none mj_P0 mj_S0 98 ad 0 0 105 [] [] (mj_rows I [(41, r41), (42, r42), (43, r43), (45, r45), (50, r50)]) L) e → (mj_u2 (fun x1 r42 => mj_W X G RX2 "substitute" cX2_substitute 5 2 none mj_P0 mj_S0 98 ad 0 0 7 [(0, .ref 41), (1, .int x1)] [] (mj_rows I [(41, r41), (42, r42), (43, r43), (45, r45), (50, r50)]) L)) s := by
  refine mj_loop (fun s o hf hc hx => ?_)
  obtain ⟨x1, r42⟩ := s
  replace hf := mj_u2e hf
  refine mj_u2q ?_
  unfold bdX2_substitute_7 at hf
  refine mj_iload_n 1 dX2_substitute_7 rfl ?_
  refine mj_if_lt 105 dX2_substitute_8 (by decide) (fun c9 => ?_) (fun c9 => ?_)
  · replace hf := mj_pos c9 hf
    refine mj_sub [] [] rfl ?_
    obtain rfl := Option.some.inj hf
    have hZ := hx r42 rfl
    exact hZ
  · replace hf := mj_neg c9 hf
    refine mj_aload_n 0 dX2_substitute_11 rfl ?_
    refine mj_getP p0_41_14 (by decide) fl_X2_37 rfl s0_41 a0_41 dX2_substitute_12 ?_
    refine mj_aload_n 0 dX2_substitute_15 rfl ?_
    refine mj_getP p0_41_9 (by decide) fl_X2_21 rfl s0_41 a0_41 dX2_substitute_16 ?_
    refine mj_iload_n 1 dX2_substitute_19 rfl ?_
    obtain ⟨z10, hf⟩ := mj_ck hf
    refine mj_ialdv (x := r45) rfl s0_45 a0_45 z10 dX2_substitute_20 ?_
    refine mj_aload_n 0 dX2_substitute_21 rfl ?_
    refine mj_getIv (v := (r41 6)) rfl fl_X2_91 rfl s0_41 a0_41 dX2_substitute_22 ?_
    refine mj_iadd dX2_substitute_25 ?_
    obtain ⟨z11, hf⟩ := mj_ck hf
    refine mj_ialdv (x := r50) rfl s0_50 a0_50 z11 dX2_substitute_26 ?_
    refine mj_istore_n [(2, .int (r50 (((r45 x1.toNatClampNeg) + (r41 6)).toNatClampNeg))), (0, .ref 41), (1, .int x1)] dX2_substitute_27 rfl (by decide) rfl ?_
    refine mj_iload_n 2 dX2_substitute_28 rfl ?_
    refine mj_iconst dX2_substitute_29 kc_iconst_1 ?_
    refine mj_iadd dX2_substitute_30 ?_
    refine mj_istore_n [(3, .int (x1 + (1 : Int32))), (2, .int (r50 (((r45 x1.toNatClampNeg) + (r41 6)).toNatClampNeg))), (0, .ref 41), (1, .int x1)] dX2_substitute_31 rfl (by decide) rfl ?_
    refine mj_sub [2, 3, 1, 0] [(0, .ref 41), (1, .int x1), (2, .int (r50 (((r45 x1.toNatClampNeg) + (r41 6)).toNatClampNeg))), (3, .int (x1 + (1 : Int32)))] rfl ?_
    obtain ⟨x2_12, ho12, hf⟩ := mj_bd hf
    refine lpX2_substitute_32 hR F I L r41 r42 r43 r45 r50 x1 F ((r50 (((r45 x1.toNatClampNeg) + (r41 6)).toNatClampNeg)), (x1 + (1 : Int32))) x2_12 ho12 ?_
    refine ?_
    refine mj_aload_n 0 dX2_substitute_87 rfl ?_
    refine mj_getP p0_41_3 (by decide) fl_X2_9 rfl s0_41 a0_41 dX2_substitute_88 ?_
    refine mj_aload_n 0 dX2_substitute_91 rfl ?_
    refine mj_getP p0_41_7 (by decide) fl_X2_15 rfl s0_41 a0_41 dX2_substitute_92 ?_
    refine mj_iload_n 1 dX2_substitute_95 rfl ?_
    obtain ⟨z13, hf⟩ := mj_ck hf
    refine mj_ialdv (x := r43) rfl s0_43 a0_43 z13 dX2_substitute_96 ?_
    refine mj_iload_n 2 dX2_substitute_97 rfl ?_
    obtain ⟨z14, hf⟩ := mj_ck hf
    refine mj_iastr [(41, r41), (42, (upd r42 ((r43 x1.toNatClampNeg).toNatClampNeg) x2_12)), (43, r43), (45, r45), (50, r50)] rfl s0_42 a0_42 z14 dX2_substitute_98 ?_
    refine mj_iinc 1 [(1, .int (x1 + (-1))), (0, .ref 41), (2, .int x2_12)] dX2_substitute_99 rfl (kz_m1 _) (by decide) rfl ?_
    refine mj_goto 7 dX2_substitute_102 (by decide) ?_
    refine mj_sub [1, 0] [(0, .ref 41), (1, .int (x1 + (-1)))] rfl ?_
    obtain rfl := Option.some.inj hf
    have hZ := hc ((x1 + (-1)), (upd r42 ((r43 x1.toNatClampNeg).toNatClampNeg) x2_12)) rfl
    replace hZ := mj_u2p hZ
    exact hZ
set_option maxRecDepth 100000 in
set_option maxHeartbeats 4000000 in
theorem mtX2_substitute {X : mj_XT} {l : Launch} {G : mj_GT} {ad : Nat → Nat} {Qn : Option Value → mj_IT → mj_LT → Prop} (hR : mj_R X l G mj_P0 mj_S0 98 ad 0 0 Qn) (F : Nat) (I : mj_IT) (L : mj_LT) (r41 : Nat → Int32) (r42 : Nat → Int32) (r43 : Nat → Int32) (r45 : Nat → Int32) (r50 : Nat → Int32) (o : ((Nat → Int32))) (hf : fnX2_substitute F r41 r42 r43 r45 r50 = some o) (hq : (fun r42 => Qn none (mj_rows I [(41, r41), (42, r42), (43, r43), (45, r45), (50, r50)]) L) o) : mj_W X G RX2 "substitute" cX2_substitute 5 2 none mj_P0 mj_S0 98 ad 0 0 0 [(0, .ref 41)] [] (mj_rows I [(41, r41), (42, r42), (43, r43), (45, r45), (50, r50)]) L := by
  unfold fnX2_substitute at hf
  refine mj_aload_n 0 dX2_substitute_0 rfl ?_
  refine mj_getIv (v := (r41 6)) rfl fl_X2_91 rfl s0_41 a0_41 dX2_substitute_1 ?_
  refine mj_iconst dX2_substitute_4 kc_iconst_1 ?_
  refine mj_isub dX2_substitute_5 ?_
  refine mj_istore_n [(1, .int ((r41 6) - (1 : Int32))), (0, .ref 41)] dX2_substitute_6 rfl (by decide) rfl ?_
  refine mj_sub [1, 0] [(0, .ref 41), (1, .int ((r41 6) - (1 : Int32)))] rfl ?_
  obtain ⟨r42_15, ho15, hf⟩ := mj_bd hf
  refine lpX2_substitute_7 hR F I L r41 r42 r43 r45 r50 F (((r41 6) - (1 : Int32)), r42) r42_15 ho15 ?_
  refine ?_
  obtain rfl := Option.some.inj hf
  have hZ := hq
  exact mj_vret hR ⟨Nat.le_refl _, Nat.le_refl _⟩ rfl dX2_substitute_105 hZ
set_option maxRecDepth 100000 in
set_option maxHeartbeats 4000000 in
theorem cmX2_substitute (l : Launch) (G : mj_GT) (F : Nat) (I : mj_IT) (L : mj_LT) (r41 : Nat → Int32) (r42 : Nat → Int32) (r43 : Nat → Int32) (r45 : Nat → Int32) (r50 : Nat → Int32) (hr41 : I 41 = r41) (hr42 : I 42 = r42) (hr43 : I 43 = r43) (hr45 : I 45 = r45) (hr50 : I 50 = r50) (o : ((Nat → Int32))) (hf : fnX2_substitute F r41 r42 r43 r45 r50 = some o) : mj_M l G yX2_substitute cX2_substitute 5 2 none 0 0 mj_P0 mj_S0 98 [.ref 41] I L (mj_qd none (mj_rows I [(41, r41), (42, o), (43, r43), (45, r45), (50, r50)]) L) := by
  refine mj_in RX2 "substitute" [(0, .ref 41)] rfl rfl rfl (by decide) (Nat.le_of_ble_eq_true rfl) (fun X ad hR => ?_)
  refine mj_toI [(41, r41), (42, r42), (43, r43), (45, r45), (50, r50)] (by intro q hq; simp only [List.mem_cons, List.not_mem_nil, or_false] at hq; rcases hq with rfl | rfl | rfl | rfl | rfl <;> assumption) ?_
  refine mtX2_substitute hR F I L r41 r42 r43 r45 r50 o hf ?_
  exact ⟨rfl, rfl, rfl⟩

-- X2_passOn
def bdX2_passOn_2 (F : Nat) (r32 : Nat → Int32) (r36 : Nat → Int32) (r44 : Nat → Int32) (x2 : Int32) (r42 : Nat → Int32) : Option (((Int32) × (Nat → Int32)) ⊕ ((Nat → Int32))) := (if (r32 2) ≤ x2 then some (.inr r42) else (if mj_ib x2 200 = true then (if (r44 x2.toNatClampNeg) = (-1 : Int32) then (if x2 = 0 then (if mj_ib (0 : Int32) 200 = true then (if (r36 ((0 : Int32).toNatClampNeg)) = 0 then (if mj_ib x2 200 = true then some (.inl ((x2 + (1)), (upd r42 x2.toNatClampNeg (1 : Int32)))) else none) else (if mj_ib x2 200 = true then some (.inl ((x2 + (1)), (upd r42 x2.toNatClampNeg (0 : Int32)))) else none)) else none) else (if mj_ib x2 200 = true then some (.inl ((x2 + (1)), (upd r42 x2.toNatClampNeg (0 : Int32)))) else none)) else some (.inl ((x2 + (1)), r42))) else none))
def bdX2_passOn_86 (F : Nat) (r36 : Nat → Int32) (r37 : Nat → Int32) (r38 : Nat → Int32) (r39 : Nat → Int32) (r44 : Nat → Int32) (x2 : Int32) (x3 : Int32) (x4 : Int32) (x5 : Int32) (r42 : Nat → Int32) : Option (((Int32) × (Nat → Int32)) ⊕ ((Nat → Int32))) := (if mj_ib (x3 + (1 : Int32)) 201 = true then (if (r37 ((x3 + (1 : Int32)).toNatClampNeg)) ≤ x5 then some (.inr r42) else (if mj_ib x5 2000 = true then (if mj_ib (r38 x5.toNatClampNeg) 200 = true then (if (r36 ((r38 x5.toNatClampNeg).toNatClampNeg)) = 0 then (if mj_ib (r38 x5.toNatClampNeg) 200 = true then (if (r44 ((r38 x5.toNatClampNeg).toNatClampNeg)) = (-1 : Int32) then (if mj_ib (r38 x5.toNatClampNeg) 200 = true then (if mj_ib x5 2000 = true then (fnX3_times F x4 (r39 x5.toNatClampNeg)).bind (fun o19 => (fnX3_plus F (r42 ((r38 x5.toNatClampNeg).toNatClampNeg)) o19).bind (fun o20 => (if mj_ib (r38 x5.toNatClampNeg) 200 = true then some (.inl ((x5 + (1)), (upd r42 ((r38 x5.toNatClampNeg).toNatClampNeg) o20))) else none))) else none) else none) else some (.inl ((x5 + (1)), r42))) else none) else some (.inl ((x5 + (1)), r42))) else none) else none)) else none)
def bdX2_passOn_52 (F : Nat) (r36 : Nat → Int32) (r37 : Nat → Int32) (r38 : Nat → Int32) (r39 : Nat → Int32) (r41 : Nat → Int32) (r43 : Nat → Int32) (r44 : Nat → Int32) (x2 : Int32) (r42 : Nat → Int32) : Option (((Int32) × (Nat → Int32)) ⊕ ((Nat → Int32))) := (if (r41 6) ≤ x2 then some (.inr r42) else (if mj_ib x2 200 = true then (if mj_ib (r43 x2.toNatClampNeg) 200 = true then (fnX3_sixtieth F (r42 ((r43 x2.toNatClampNeg).toNatClampNeg))).bind (fun o25 => (if mj_ib (r43 x2.toNatClampNeg) 201 = true then (mj_it (mj_u2 (fun z0 z1 => bdX2_passOn_86 F r36 r37 r38 r39 r44 x2 (r43 x2.toNatClampNeg) o25 z0 z1)) F ((r37 ((r43 x2.toNatClampNeg).toNatClampNeg)), r42)).bind (fun r42_27 => some (.inl ((x2 + (1)), r42_27))) else none)) else none) else none))
def fnX2_passOn (F : Nat) (r32 : Nat → Int32) (r36 : Nat → Int32) (r37 : Nat → Int32) (r38 : Nat → Int32) (r39 : Nat → Int32) (r41 : Nat → Int32) (r42 : Nat → Int32) (r43 : Nat → Int32) (r44 : Nat → Int32) : Option ((Nat → Int32)) := (mj_it (mj_u2 (fun z0 z1 => bdX2_passOn_2 F r32 r36 r44 z0 z1)) F ((0 : Int32), r42)).bind (fun r42_28 => (mj_it (mj_u2 (fun z0 z1 => bdX2_passOn_52 F r36 r37 r38 r39 r41 r43 r44 z0 z1)) F ((0 : Int32), r42_28)).bind (fun r42_29 => some r42_29))
set_option maxRecDepth 100000 in
set_option maxHeartbeats 4000000 in
theorem lpX2_passOn_2 {X : mj_XT} {l : Launch} {G : mj_GT} {ad : Nat → Nat} {Qn : Option Value → mj_IT → mj_LT → Prop} (hR : mj_R X l G mj_P0 mj_S0 98 ad 0 0 Qn) (F : Nat) (I : mj_IT) (L : mj_LT) (r32 : Nat → Int32) (r36 : Nat → Int32) (r37 : Nat → Int32) (r38 : Nat → Int32) (r39 : Nat → Int32) (r41 : Nat → Int32) (r42 : Nat → Int32) (r43 : Nat → Int32) (r44 : Nat → Int32) : ∀ (n : Nat) (s : ((Int32) × (Nat → Int32))) (e : ((Nat → Int32))), mj_it (mj_u2 (fun z0 z1 => bdX2_passOn_2 F r32 r36 r44 z0 z1)) n s = some e → (fun r42 => mj_W X G RX2 "passOn" cX2_passOn 7 3 none mj_P0 mj_S0 98 ad 0 0 50 [(0, .ref 41), (1, .ref 32)] [] (mj_rows I [(32, r32), (36, r36), (37, r37), (38, r38), (39, r39), (41, r41), (42, r42), (43, r43), (44, r44)]) L) e → (mj_u2 (fun x2 r42 => mj_W X G RX2 "passOn" cX2_passOn 7 3 none mj_P0 mj_S0 98 ad 0 0 2 [(0, .ref 41), (1, .ref 32), (2, .int x2)] [] (mj_rows I [(32, r32), (36, r36), (37, r37), (38, r38), (39, r39), (41, r41), (42, r42), (43, r43), (44, r44)]) L)) s := by
  refine mj_loop (fun s o hf hc hx => ?_)
  obtain ⟨x2, r42⟩ := s
  replace hf := mj_u2e hf
  refine mj_u2q ?_
  unfold bdX2_passOn_2 at hf
  refine mj_iload_n 2 dX2_passOn_2 rfl ?_
  refine mj_aload_n 1 dX2_passOn_3 rfl ?_
  refine mj_getIv (v := (r32 2)) rfl fl_X2_94 rfl s0_32 a0_32 dX2_passOn_4 ?_
  refine mj_icmp_ge 50 dX2_passOn_7 (by decide) (fun c1 => ?_) (fun c1 => ?_)
  · replace hf := mj_pos c1 hf
    refine mj_sub [0, 1] [(0, .ref 41), (1, .ref 32)] rfl ?_
    obtain rfl := Option.some.inj hf
    have hZ := hx r42 rfl
    exact hZ
  · replace hf := mj_neg c1 hf
    refine mj_aload_n 0 dX2_passOn_10 rfl ?_
    refine mj_getP p0_41_8 (by decide) fl_X2_18 rfl s0_41 a0_41 dX2_passOn_11 ?_
    refine mj_iload_n 2 dX2_passOn_14 rfl ?_
    obtain ⟨z2, hf⟩ := mj_ck hf
    refine mj_ialdv (x := r44) rfl s0_44 a0_44 z2 dX2_passOn_15 ?_
    refine mj_iconst dX2_passOn_16 kc_iconst_m1 ?_
    refine mj_icmp_ne 44 dX2_passOn_17 (by decide) (fun c3 => ?_) (fun c3 => ?_)
    · replace hf := mj_neg c3 hf
      refine mj_iinc 2 [(2, .int (x2 + (1))), (0, .ref 41), (1, .ref 32)] dX2_passOn_44 rfl (kz_1 _) (by decide) rfl ?_
      refine mj_goto 2 dX2_passOn_47 (by decide) ?_
      refine mj_sub [1, 2, 0] [(0, .ref 41), (1, .ref 32), (2, .int (x2 + (1)))] rfl ?_
      obtain rfl := Option.some.inj hf
      have hZ := hc ((x2 + (1)), r42) rfl
      replace hZ := mj_u2p hZ
      exact hZ
    · replace hf := mj_pos c3 hf
      refine mj_aload_n 0 dX2_passOn_20 rfl ?_
      refine mj_getP p0_41_3 (by decide) fl_X2_9 rfl s0_41 a0_41 dX2_passOn_21 ?_
      refine mj_iload_n 2 dX2_passOn_24 rfl ?_
      refine mj_iload_n 2 dX2_passOn_25 rfl ?_
      refine mj_if_ne 42 dX2_passOn_26 (by decide) (fun c4 => ?_) (fun c4 => ?_)
      · replace hf := mj_neg c4 hf
        refine mj_iconst dX2_passOn_42 kc_iconst_0 ?_
        obtain ⟨z5, hf⟩ := mj_ck hf
        refine mj_iastr [(32, r32), (36, r36), (37, r37), (38, r38), (39, r39), (41, r41), (42, (upd r42 x2.toNatClampNeg (0 : Int32))), (43, r43), (44, r44)] rfl s0_42 a0_42 z5 dX2_passOn_43 ?_
        refine mj_iinc 2 [(2, .int (x2 + (1))), (0, .ref 41), (1, .ref 32)] dX2_passOn_44 rfl (kz_1 _) (by decide) rfl ?_
        refine mj_goto 2 dX2_passOn_47 (by decide) ?_
        refine mj_sub [1, 2, 0] [(0, .ref 41), (1, .ref 32), (2, .int (x2 + (1)))] rfl ?_
        obtain rfl := Option.some.inj hf
        have hZ := hc ((x2 + (1)), (upd r42 x2.toNatClampNeg (0 : Int32))) rfl
        replace hZ := mj_u2p hZ
        exact hZ
      · replace hf := mj_pos c4 hf
        refine mj_aload_n 1 dX2_passOn_29 rfl ?_
        refine mj_getP p0_32_11 (by decide) fl_X2_97 rfl s0_32 a0_32 dX2_passOn_30 ?_
        refine mj_iconst dX2_passOn_33 kc_iconst_0 ?_
        obtain ⟨z6, hf⟩ := mj_ck hf
        refine mj_zaldv (x := r36) rfl s0_36 a0_36 z6 dX2_passOn_34 ?_
        refine mj_if_ne 42 dX2_passOn_35 (by decide) (fun c7 => ?_) (fun c7 => ?_)
        · replace hf := mj_neg c7 hf
          refine mj_iconst dX2_passOn_42 kc_iconst_0 ?_
          obtain ⟨z8, hf⟩ := mj_ck hf
          refine mj_iastr [(32, r32), (36, r36), (37, r37), (38, r38), (39, r39), (41, r41), (42, (upd r42 x2.toNatClampNeg (0 : Int32))), (43, r43), (44, r44)] rfl s0_42 a0_42 z8 dX2_passOn_43 ?_
          refine mj_iinc 2 [(2, .int (x2 + (1))), (0, .ref 41), (1, .ref 32)] dX2_passOn_44 rfl (kz_1 _) (by decide) rfl ?_
          refine mj_goto 2 dX2_passOn_47 (by decide) ?_
          refine mj_sub [1, 2, 0] [(0, .ref 41), (1, .ref 32), (2, .int (x2 + (1)))] rfl ?_
          obtain rfl := Option.some.inj hf
          have hZ := hc ((x2 + (1)), (upd r42 x2.toNatClampNeg (0 : Int32))) rfl
          replace hZ := mj_u2p hZ
          exact hZ
        · replace hf := mj_pos c7 hf
          refine mj_iconst dX2_passOn_38 kc_iconst_1 ?_
          refine mj_goto 43 dX2_passOn_39 (by decide) ?_
          obtain ⟨z9, hf⟩ := mj_ck hf
          refine mj_iastr [(32, r32), (36, r36), (37, r37), (38, r38), (39, r39), (41, r41), (42, (upd r42 x2.toNatClampNeg (1 : Int32))), (43, r43), (44, r44)] rfl s0_42 a0_42 z9 dX2_passOn_43 ?_
          refine mj_iinc 2 [(2, .int (x2 + (1))), (0, .ref 41), (1, .ref 32)] dX2_passOn_44 rfl (kz_1 _) (by decide) rfl ?_
          refine mj_goto 2 dX2_passOn_47 (by decide) ?_
          refine mj_sub [1, 2, 0] [(0, .ref 41), (1, .ref 32), (2, .int (x2 + (1)))] rfl ?_
          obtain rfl := Option.some.inj hf
          have hZ := hc ((x2 + (1)), (upd r42 x2.toNatClampNeg (1 : Int32))) rfl
          replace hZ := mj_u2p hZ
          exact hZ
set_option maxRecDepth 100000 in
set_option maxHeartbeats 4000000 in
theorem lpX2_passOn_86 {X : mj_XT} {l : Launch} {G : mj_GT} {ad : Nat → Nat} {Qn : Option Value → mj_IT → mj_LT → Prop} (hR : mj_R X l G mj_P0 mj_S0 98 ad 0 0 Qn) (F : Nat) (I : mj_IT) (L : mj_LT) (r32 : Nat → Int32) (r36 : Nat → Int32) (r37 : Nat → Int32) (r38 : Nat → Int32) (r39 : Nat → Int32) (r41 : Nat → Int32) (r42 : Nat → Int32) (r43 : Nat → Int32) (r44 : Nat → Int32) (x2 : Int32) (x3 : Int32) (x4 : Int32) : ∀ (n : Nat) (s : ((Int32) × (Nat → Int32))) (e : ((Nat → Int32))), mj_it (mj_u2 (fun z0 z1 => bdX2_passOn_86 F r36 r37 r38 r39 r44 x2 x3 x4 z0 z1)) n s = some e → (fun r42 => mj_W X G RX2 "passOn" cX2_passOn 7 3 none mj_P0 mj_S0 98 ad 0 0 164 [(0, .ref 41), (1, .ref 32), (2, .int x2)] [] (mj_rows I [(32, r32), (36, r36), (37, r37), (38, r38), (39, r39), (41, r41), (42, r42), (43, r43), (44, r44)]) L) e → (mj_u2 (fun x5 r42 => mj_W X G RX2 "passOn" cX2_passOn 7 3 none mj_P0 mj_S0 98 ad 0 0 86 [(0, .ref 41), (1, .ref 32), (2, .int x2), (3, .int x3), (4, .int x4), (5, .int x5)] [] (mj_rows I [(32, r32), (36, r36), (37, r37), (38, r38), (39, r39), (41, r41), (42, r42), (43, r43), (44, r44)]) L)) s := by
  refine mj_loop (fun s o hf hc hx => ?_)
  obtain ⟨x5, r42⟩ := s
  replace hf := mj_u2e hf
  refine mj_u2q ?_
  unfold bdX2_passOn_86 at hf
  refine mj_iload 5 dX2_passOn_86 rfl ?_
  refine mj_aload_n 1 dX2_passOn_88 rfl ?_
  refine mj_getP p0_32_12 (by decide) fl_X2_117 rfl s0_32 a0_32 dX2_passOn_89 ?_
  refine mj_iload_n 3 dX2_passOn_92 rfl ?_
  refine mj_iconst dX2_passOn_93 kc_iconst_1 ?_
  refine mj_iadd dX2_passOn_94 ?_
  obtain ⟨z10, hf⟩ := mj_ck hf
  refine mj_ialdv (x := r37) rfl s0_37 a0_37 z10 dX2_passOn_95 ?_
  refine mj_icmp_ge 164 dX2_passOn_96 (by decide) (fun c11 => ?_) (fun c11 => ?_)
  · replace hf := mj_pos c11 hf
    refine mj_sub [0, 1, 2] [(0, .ref 41), (1, .ref 32), (2, .int x2)] rfl ?_
    obtain rfl := Option.some.inj hf
    have hZ := hx r42 rfl
    exact hZ
  · replace hf := mj_neg c11 hf
    refine mj_aload_n 1 dX2_passOn_99 rfl ?_
    refine mj_getP p0_32_13 (by decide) fl_X2_120 rfl s0_32 a0_32 dX2_passOn_100 ?_
    refine mj_iload 5 dX2_passOn_103 rfl ?_
    obtain ⟨z12, hf⟩ := mj_ck hf
    refine mj_ialdv (x := r38) rfl s0_38 a0_38 z12 dX2_passOn_105 ?_
    refine mj_istore [(6, .int (r38 x5.toNatClampNeg)), (0, .ref 41), (1, .ref 32), (2, .int x2), (3, .int x3), (4, .int x4), (5, .int x5)] dX2_passOn_106 (by decide) rfl ?_
    refine mj_aload_n 2 dX2_passOn_108 rfl ?_
    refine mj_getP p0_32_11 (by decide) fl_X2_97 rfl s0_32 a0_32 dX2_passOn_109 ?_
    refine mj_iload 0 dX2_passOn_112 rfl ?_
    obtain ⟨z13, hf⟩ := mj_ck hf
    refine mj_zaldv (x := r36) rfl s0_36 a0_36 z13 dX2_passOn_114 ?_
    refine mj_if_ne 158 dX2_passOn_115 (by decide) (fun c14 => ?_) (fun c14 => ?_)
    · replace hf := mj_neg c14 hf
      refine mj_iinc 6 [(5, .int (x5 + (1))), (6, .int (r38 x5.toNatClampNeg)), (0, .ref 41), (1, .ref 32), (2, .int x2), (3, .int x3), (4, .int x4)] dX2_passOn_158 rfl (kz_1 _) (by decide) rfl ?_
      refine mj_goto 86 dX2_passOn_161 (by decide) ?_
      refine mj_sub [2, 3, 4, 5, 6, 0] [(0, .ref 41), (1, .ref 32), (2, .int x2), (3, .int x3), (4, .int x4), (5, .int (x5 + (1)))] rfl ?_
      obtain rfl := Option.some.inj hf
      have hZ := hc ((x5 + (1)), r42) rfl
      replace hZ := mj_u2p hZ
      exact hZ
    · replace hf := mj_pos c14 hf
      refine mj_aload_n 1 dX2_passOn_118 rfl ?_
      refine mj_getP p0_41_8 (by decide) fl_X2_18 rfl s0_41 a0_41 dX2_passOn_119 ?_
      refine mj_iload 0 dX2_passOn_122 rfl ?_
      obtain ⟨z15, hf⟩ := mj_ck hf
      refine mj_ialdv (x := r44) rfl s0_44 a0_44 z15 dX2_passOn_124 ?_
      refine mj_iconst dX2_passOn_125 kc_iconst_m1 ?_
      refine mj_icmp_ne 158 dX2_passOn_126 (by decide) (fun c16 => ?_) (fun c16 => ?_)
      · replace hf := mj_neg c16 hf
        refine mj_iinc 6 [(5, .int (x5 + (1))), (6, .int (r38 x5.toNatClampNeg)), (0, .ref 41), (1, .ref 32), (2, .int x2), (3, .int x3), (4, .int x4)] dX2_passOn_158 rfl (kz_1 _) (by decide) rfl ?_
        refine mj_goto 86 dX2_passOn_161 (by decide) ?_
        refine mj_sub [2, 3, 4, 5, 6, 0] [(0, .ref 41), (1, .ref 32), (2, .int x2), (3, .int x3), (4, .int x4), (5, .int (x5 + (1)))] rfl ?_
        obtain rfl := Option.some.inj hf
        have hZ := hc ((x5 + (1)), r42) rfl
        replace hZ := mj_u2p hZ
        exact hZ
      · replace hf := mj_pos c16 hf
        refine mj_aload_n 1 dX2_passOn_129 rfl ?_
        refine mj_getP p0_41_3 (by decide) fl_X2_9 rfl s0_41 a0_41 dX2_passOn_130 ?_
        refine mj_iload 0 dX2_passOn_133 rfl ?_
        refine mj_aload_n 1 dX2_passOn_135 rfl ?_
        refine mj_getP p0_41_3 (by decide) fl_X2_9 rfl s0_41 a0_41 dX2_passOn_136 ?_
        refine mj_iload 0 dX2_passOn_139 rfl ?_
        obtain ⟨z17, hf⟩ := mj_ck hf
        refine mj_ialdv (x := r42) rfl s0_42 a0_42 z17 dX2_passOn_141 ?_
        refine mj_iload 5 dX2_passOn_142 rfl ?_
        refine mj_aload_n 2 dX2_passOn_144 rfl ?_
        refine mj_getP p0_32_14 (by decide) fl_X2_123 rfl s0_32 a0_32 dX2_passOn_145 ?_
        refine mj_iload 6 dX2_passOn_148 rfl ?_
        obtain ⟨z18, hf⟩ := mj_ck hf
        refine mj_ialdv (x := r39) rfl s0_39 a0_39 z18 dX2_passOn_150 ?_
        obtain ⟨o19, ho19, hf⟩ := mj_bd hf
        refine mj_callSd (I2 := (mj_rows I [(32, r32), (36, r36), (37, r37), (38, r38), (39, r39), (41, r41), (42, r42), (43, r43), (44, r44)])) (L2 := L) (s1 := [.int o19, .int (r42 ((r38 x5.toNatClampNeg).toNatClampNeg)), .int (r38 x5.toNatClampNeg), .ref 42]) (st := [.int (r42 ((r38 x5.toNatClampNeg).toNatClampNeg)), .int (r38 x5.toNatClampNeg), .ref 42]) [.int x4, .int (r39 x5.toNatClampNeg)] (cmX3_times X.2.1 G F x4 (r39 x5.toNatClampNeg) _ _   o19 ho19) rfl rfl cw_X2_81 (by decide) rfl rfl (Nat.le_of_ble_eq_true rfl) ⟨Nat.zero_le _, Nat.zero_le _⟩ dX2_passOn_151 rfl ?_
        obtain ⟨o20, ho20, hf⟩ := mj_bd hf
        refine mj_callSd (I2 := (mj_rows I [(32, r32), (36, r36), (37, r37), (38, r38), (39, r39), (41, r41), (42, r42), (43, r43), (44, r44)])) (L2 := L) (s1 := [.int o20, .int (r38 x5.toNatClampNeg), .ref 42]) (st := [.int (r38 x5.toNatClampNeg), .ref 42]) [.int (r42 ((r38 x5.toNatClampNeg).toNatClampNeg)), .int o19] (cmX3_plus X.2.1 G F (r42 ((r38 x5.toNatClampNeg).toNatClampNeg)) o19 _ _   o20 ho20) rfl rfl cw_X2_110 (by decide) rfl rfl (Nat.le_of_ble_eq_true rfl) ⟨Nat.zero_le _, Nat.zero_le _⟩ dX2_passOn_154 rfl ?_
        obtain ⟨z21, hf⟩ := mj_ck hf
        refine mj_iastr [(32, r32), (36, r36), (37, r37), (38, r38), (39, r39), (41, r41), (42, (upd r42 ((r38 x5.toNatClampNeg).toNatClampNeg) o20)), (43, r43), (44, r44)] rfl s0_42 a0_42 z21 dX2_passOn_157 ?_
        refine mj_iinc 6 [(5, .int (x5 + (1))), (6, .int (r38 x5.toNatClampNeg)), (0, .ref 41), (1, .ref 32), (2, .int x2), (3, .int x3), (4, .int x4)] dX2_passOn_158 rfl (kz_1 _) (by decide) rfl ?_
        refine mj_goto 86 dX2_passOn_161 (by decide) ?_
        refine mj_sub [2, 3, 4, 5, 6, 0] [(0, .ref 41), (1, .ref 32), (2, .int x2), (3, .int x3), (4, .int x4), (5, .int (x5 + (1)))] rfl ?_
        obtain rfl := Option.some.inj hf
        have hZ := hc ((x5 + (1)), (upd r42 ((r38 x5.toNatClampNeg).toNatClampNeg) o20)) rfl
        replace hZ := mj_u2p hZ
        exact hZ
set_option maxRecDepth 100000 in
set_option maxHeartbeats 4000000 in
theorem lpX2_passOn_52 {X : mj_XT} {l : Launch} {G : mj_GT} {ad : Nat → Nat} {Qn : Option Value → mj_IT → mj_LT → Prop} (hR : mj_R X l G mj_P0 mj_S0 98 ad 0 0 Qn) (F : Nat) (I : mj_IT) (L : mj_LT) (r32 : Nat → Int32) (r36 : Nat → Int32) (r37 : Nat → Int32) (r38 : Nat → Int32) (r39 : Nat → Int32) (r41 : Nat → Int32) (r42 : Nat → Int32) (r43 : Nat → Int32) (r44 : Nat → Int32) : ∀ (n : Nat) (s : ((Int32) × (Nat → Int32))) (e : ((Nat → Int32))), mj_it (mj_u2 (fun z0 z1 => bdX2_passOn_52 F r36 r37 r38 r39 r41 r43 r44 z0 z1)) n s = some e → (fun r42 => mj_W X G RX2 "passOn" cX2_passOn 7 3 none mj_P0 mj_S0 98 ad 0 0 170 [] [] (mj_rows I [(32, r32), (36, r36), (37, r37), (38, r38), (39, r39), (41, r41), (42, r42), (43, r43), (44, r44)]) L) e → (mj_u2 (fun x2 r42 => mj_W X G RX2 "passOn" cX2_passOn 7 3 none mj_P0 mj_S0 98 ad 0 0 52 [(0, .ref 41), (1, .ref 32), (2, .int x2)] [] (mj_rows I [(32, r32), (36, r36), (37, r37), (38, r38), (39, r39), (41, r41), (42, r42), (43, r43), (44, r44)]) L)) s := by
  refine mj_loop (fun s o hf hc hx => ?_)
  obtain ⟨x2, r42⟩ := s
  replace hf := mj_u2e hf
  refine mj_u2q ?_
  unfold bdX2_passOn_52 at hf
  refine mj_iload_n 2 dX2_passOn_52 rfl ?_
  refine mj_aload_n 0 dX2_passOn_53 rfl ?_
  refine mj_getIv (v := (r41 6)) rfl fl_X2_91 rfl s0_41 a0_41 dX2_passOn_54 ?_
  refine mj_icmp_ge 170 dX2_passOn_57 (by decide) (fun c22 => ?_) (fun c22 => ?_)
  · replace hf := mj_pos c22 hf
    refine mj_sub [] [] rfl ?_
    obtain rfl := Option.some.inj hf
    have hZ := hx r42 rfl
    exact hZ
  · replace hf := mj_neg c22 hf
    refine mj_aload_n 0 dX2_passOn_60 rfl ?_
    refine mj_getP p0_41_7 (by decide) fl_X2_15 rfl s0_41 a0_41 dX2_passOn_61 ?_
    refine mj_iload_n 2 dX2_passOn_64 rfl ?_
    obtain ⟨z23, hf⟩ := mj_ck hf
    refine mj_ialdv (x := r43) rfl s0_43 a0_43 z23 dX2_passOn_65 ?_
    refine mj_istore_n [(3, .int (r43 x2.toNatClampNeg)), (0, .ref 41), (1, .ref 32), (2, .int x2)] dX2_passOn_66 rfl (by decide) rfl ?_
    refine mj_aload_n 1 dX2_passOn_67 rfl ?_
    refine mj_getP p0_41_3 (by decide) fl_X2_9 rfl s0_41 a0_41 dX2_passOn_68 ?_
    refine mj_iload_n 0 dX2_passOn_71 rfl ?_
    obtain ⟨z24, hf⟩ := mj_ck hf
    refine mj_ialdv (x := r42) rfl s0_42 a0_42 z24 dX2_passOn_72 ?_
    obtain ⟨o25, ho25, hf⟩ := mj_bd hf
    refine mj_callSd (I2 := (mj_rows I [(32, r32), (36, r36), (37, r37), (38, r38), (39, r39), (41, r41), (42, r42), (43, r43), (44, r44)])) (L2 := L) (s1 := [.int o25]) (st := []) [.int (r42 ((r43 x2.toNatClampNeg).toNatClampNeg))] (cmX3_sixtieth X.2.1 G F (r42 ((r43 x2.toNatClampNeg).toNatClampNeg)) _ _   o25 ho25) rfl rfl cw_X2_126 (by decide) rfl rfl (Nat.le_of_ble_eq_true rfl) ⟨Nat.zero_le _, Nat.zero_le _⟩ dX2_passOn_73 rfl ?_
    refine mj_istore [(4, .int o25), (3, .int (r43 x2.toNatClampNeg)), (0, .ref 41), (1, .ref 32), (2, .int x2)] dX2_passOn_76 (by decide) rfl ?_
    refine mj_aload_n 3 dX2_passOn_78 rfl ?_
    refine mj_getP p0_32_12 (by decide) fl_X2_117 rfl s0_32 a0_32 dX2_passOn_79 ?_
    refine mj_iload_n 1 dX2_passOn_82 rfl ?_
    obtain ⟨z26, hf⟩ := mj_ck hf
    refine mj_ialdv (x := r37) rfl s0_37 a0_37 z26 dX2_passOn_83 ?_
    refine mj_istore [(5, .int (r37 ((r43 x2.toNatClampNeg).toNatClampNeg))), (4, .int o25), (3, .int (r43 x2.toNatClampNeg)), (0, .ref 41), (1, .ref 32), (2, .int x2)] dX2_passOn_84 (by decide) rfl ?_
    refine mj_sub [3, 4, 5, 2, 1, 0] [(0, .ref 41), (1, .ref 32), (2, .int x2), (3, .int (r43 x2.toNatClampNeg)), (4, .int o25), (5, .int (r37 ((r43 x2.toNatClampNeg).toNatClampNeg)))] rfl ?_
    obtain ⟨r42_27, ho27, hf⟩ := mj_bd hf
    refine lpX2_passOn_86 hR F I L r32 r36 r37 r38 r39 r41 r42 r43 r44 x2 (r43 x2.toNatClampNeg) o25 F ((r37 ((r43 x2.toNatClampNeg).toNatClampNeg)), r42) r42_27 ho27 ?_
    refine ?_
    refine mj_iinc 2 [(2, .int (x2 + (1))), (0, .ref 41), (1, .ref 32)] dX2_passOn_164 rfl (kz_1 _) (by decide) rfl ?_
    refine mj_goto 52 dX2_passOn_167 (by decide) ?_
    refine mj_sub [1, 2, 0] [(0, .ref 41), (1, .ref 32), (2, .int (x2 + (1)))] rfl ?_
    obtain rfl := Option.some.inj hf
    have hZ := hc ((x2 + (1)), r42_27) rfl
    replace hZ := mj_u2p hZ
    exact hZ
set_option maxRecDepth 100000 in
set_option maxHeartbeats 4000000 in
theorem mtX2_passOn {X : mj_XT} {l : Launch} {G : mj_GT} {ad : Nat → Nat} {Qn : Option Value → mj_IT → mj_LT → Prop} (hR : mj_R X l G mj_P0 mj_S0 98 ad 0 0 Qn) (F : Nat) (I : mj_IT) (L : mj_LT) (r32 : Nat → Int32) (r36 : Nat → Int32) (r37 : Nat → Int32) (r38 : Nat → Int32) (r39 : Nat → Int32) (r41 : Nat → Int32) (r42 : Nat → Int32) (r43 : Nat → Int32) (r44 : Nat → Int32) (o : ((Nat → Int32))) (hf : fnX2_passOn F r32 r36 r37 r38 r39 r41 r42 r43 r44 = some o) (hq : (fun r42 => Qn none (mj_rows I [(32, r32), (36, r36), (37, r37), (38, r38), (39, r39), (41, r41), (42, r42), (43, r43), (44, r44)]) L) o) : mj_W X G RX2 "passOn" cX2_passOn 7 3 none mj_P0 mj_S0 98 ad 0 0 0 [(0, .ref 41), (1, .ref 32)] [] (mj_rows I [(32, r32), (36, r36), (37, r37), (38, r38), (39, r39), (41, r41), (42, r42), (43, r43), (44, r44)]) L := by
  unfold fnX2_passOn at hf
  refine mj_iconst dX2_passOn_0 kc_iconst_0 ?_
  refine mj_istore_n [(2, .int (0 : Int32)), (0, .ref 41), (1, .ref 32)] dX2_passOn_1 rfl (by decide) rfl ?_
  refine mj_sub [1, 2, 0] [(0, .ref 41), (1, .ref 32), (2, .int (0 : Int32))] rfl ?_
  obtain ⟨r42_28, ho28, hf⟩ := mj_bd hf
  refine lpX2_passOn_2 hR F I L r32 r36 r37 r38 r39 r41 r42 r43 r44 F ((0 : Int32), r42) r42_28 ho28 ?_
  refine ?_
  refine mj_iconst dX2_passOn_50 kc_iconst_0 ?_
  refine mj_istore_n [(2, .int (0 : Int32)), (0, .ref 41), (1, .ref 32)] dX2_passOn_51 rfl (by decide) rfl ?_
  refine mj_sub [1, 2, 0] [(0, .ref 41), (1, .ref 32), (2, .int (0 : Int32))] rfl ?_
  obtain ⟨r42_29, ho29, hf⟩ := mj_bd hf
  refine lpX2_passOn_52 hR F I L r32 r36 r37 r38 r39 r41 r42_28 r43 r44 F ((0 : Int32), r42_28) r42_29 ho29 ?_
  refine ?_
  obtain rfl := Option.some.inj hf
  have hZ := hq
  exact mj_vret hR ⟨Nat.le_refl _, Nat.le_refl _⟩ rfl dX2_passOn_170 hZ
set_option maxRecDepth 100000 in
set_option maxHeartbeats 4000000 in
theorem cmX2_passOn (l : Launch) (G : mj_GT) (F : Nat) (I : mj_IT) (L : mj_LT) (r32 : Nat → Int32) (r36 : Nat → Int32) (r37 : Nat → Int32) (r38 : Nat → Int32) (r39 : Nat → Int32) (r41 : Nat → Int32) (r42 : Nat → Int32) (r43 : Nat → Int32) (r44 : Nat → Int32) (hr32 : I 32 = r32) (hr36 : I 36 = r36) (hr37 : I 37 = r37) (hr38 : I 38 = r38) (hr39 : I 39 = r39) (hr41 : I 41 = r41) (hr42 : I 42 = r42) (hr43 : I 43 = r43) (hr44 : I 44 = r44) (o : ((Nat → Int32))) (hf : fnX2_passOn F r32 r36 r37 r38 r39 r41 r42 r43 r44 = some o) : mj_M l G yX2_passOn cX2_passOn 7 3 none 0 0 mj_P0 mj_S0 98 [.ref 41, .ref 32] I L (mj_qd none (mj_rows I [(32, r32), (36, r36), (37, r37), (38, r38), (39, r39), (41, r41), (42, o), (43, r43), (44, r44)]) L) := by
  refine mj_in RX2 "passOn" [(0, .ref 41), (1, .ref 32)] rfl rfl rfl (by decide) (Nat.le_of_ble_eq_true rfl) (fun X ad hR => ?_)
  refine mj_toI [(32, r32), (36, r36), (37, r37), (38, r38), (39, r39), (41, r41), (42, r42), (43, r43), (44, r44)] (by intro q hq; simp only [List.mem_cons, List.not_mem_nil, or_false] at hq; rcases hq with rfl | rfl | rfl | rfl | rfl | rfl | rfl | rfl | rfl <;> assumption) ?_
  refine mtX2_passOn hR F I L r32 r36 r37 r38 r39 r41 r42 r43 r44 o hf ?_
  exact ⟨rfl, rfl, rfl⟩

-- X4_isEnd
def fnX4_isEnd (F : Nat) (r32 : Nat → Int32) (r33 : Nat → Int32) (x1 : Int32) : Option ((Int32)) := (if mj_ib x1 200 = true then (if (r33 x1.toNatClampNeg) = (r32 7) then some (1 : Int32) else some (0 : Int32)) else none)
set_option maxRecDepth 100000 in
set_option maxHeartbeats 4000000 in
theorem mtX4_isEnd {X : mj_XT} {l : Launch} {G : mj_GT} {ad : Nat → Nat} {Qn : Option Value → mj_IT → mj_LT → Prop} (hR : mj_R X l G mj_P0 mj_S0 98 ad 0 0 Qn) (F : Nat) (I : mj_IT) (L : mj_LT) (r32 : Nat → Int32) (r33 : Nat → Int32) (x1 : Int32) (o : ((Int32))) (hf : fnX4_isEnd F r32 r33 x1 = some o) (hq : (fun ov => Qn (some (.int ov)) (mj_rows I [(32, r32), (33, r33)]) L) o) : mj_W X G RX4 "isEnd" cX4_isEnd 2 1 (some .boolean) mj_P0 mj_S0 98 ad 0 0 0 [(0, .ref 32), (1, .int x1)] [] (mj_rows I [(32, r32), (33, r33)]) L := by
  unfold fnX4_isEnd at hf
  refine mj_aload_n 0 dX4_isEnd_0 rfl ?_
  refine mj_getP p0_32_8 (by decide) fl_X4_9 rfl s0_32 a0_32 dX4_isEnd_1 ?_
  refine mj_iload_n 1 dX4_isEnd_4 rfl ?_
  obtain ⟨z1, hf⟩ := mj_ck hf
  refine mj_ialdv (x := r33) rfl s0_33 a0_33 z1 dX4_isEnd_5 ?_
  refine mj_aload_n 0 dX4_isEnd_6 rfl ?_
  refine mj_getIv (v := (r32 7)) rfl fl_X4_57 rfl s0_32 a0_32 dX4_isEnd_7 ?_
  refine mj_icmp_ne 17 dX4_isEnd_10 (by decide) (fun c2 => ?_) (fun c2 => ?_)
  · replace hf := mj_neg c2 hf
    refine mj_iconst dX4_isEnd_17 kc_iconst_0 ?_
    obtain rfl := Option.some.inj hf
    have hZ := hq
    exact mj_iret hR ⟨Nat.le_refl _, Nat.le_refl _⟩ rfl (by decide) dX4_isEnd_18 hZ
  · replace hf := mj_pos c2 hf
    refine mj_iconst dX4_isEnd_13 kc_iconst_1 ?_
    refine mj_goto 18 dX4_isEnd_14 (by decide) ?_
    obtain rfl := Option.some.inj hf
    have hZ := hq
    exact mj_iret hR ⟨Nat.le_refl _, Nat.le_refl _⟩ rfl (by decide) dX4_isEnd_18 hZ
set_option maxRecDepth 100000 in
set_option maxHeartbeats 4000000 in
theorem cmX4_isEnd (l : Launch) (G : mj_GT) (F : Nat) (x1 : Int32) (I : mj_IT) (L : mj_LT) (r32 : Nat → Int32) (r33 : Nat → Int32) (hr32 : I 32 = r32) (hr33 : I 33 = r33) (o : ((Int32))) (hf : fnX4_isEnd F r32 r33 x1 = some o) : mj_M l G yX4_isEnd cX4_isEnd 2 1 (some .boolean) 0 0 mj_P0 mj_S0 98 [.ref 32, .int x1] I L (mj_qd (some (.int o)) (mj_rows I [(32, r32), (33, r33)]) L) := by
  refine mj_in RX4 "isEnd" [(0, .ref 32), (1, .int x1)] rfl rfl rfl (by decide) (Nat.le_of_ble_eq_true rfl) (fun X ad hR => ?_)
  refine mj_toI [(32, r32), (33, r33)] (by intro q hq; simp only [List.mem_cons, List.not_mem_nil, or_false] at hq; rcases hq with rfl | rfl <;> assumption) ?_
  refine mtX4_isEnd hR F I L r32 r33 x1 o hf ?_
  exact ⟨rfl, rfl, rfl⟩

-- X4_isBroken
def fnX4_isBroken (F : Nat) (r32 : Nat → Int32) (r33 : Nat → Int32) (x1 : Int32) : Option ((Int32)) := (if mj_ib x1 200 = true then (if (r33 x1.toNatClampNeg) ≤ (r32 7) then some (0 : Int32) else some (1 : Int32)) else none)
set_option maxRecDepth 100000 in
set_option maxHeartbeats 4000000 in
theorem mtX4_isBroken {X : mj_XT} {l : Launch} {G : mj_GT} {ad : Nat → Nat} {Qn : Option Value → mj_IT → mj_LT → Prop} (hR : mj_R X l G mj_P0 mj_S0 98 ad 0 0 Qn) (F : Nat) (I : mj_IT) (L : mj_LT) (r32 : Nat → Int32) (r33 : Nat → Int32) (x1 : Int32) (o : ((Int32))) (hf : fnX4_isBroken F r32 r33 x1 = some o) (hq : (fun ov => Qn (some (.int ov)) (mj_rows I [(32, r32), (33, r33)]) L) o) : mj_W X G RX4 "isBroken" cX4_isBroken 2 1 (some .boolean) mj_P0 mj_S0 98 ad 0 0 0 [(0, .ref 32), (1, .int x1)] [] (mj_rows I [(32, r32), (33, r33)]) L := by
  unfold fnX4_isBroken at hf
  refine mj_aload_n 0 dX4_isBroken_0 rfl ?_
  refine mj_getP p0_32_8 (by decide) fl_X4_9 rfl s0_32 a0_32 dX4_isBroken_1 ?_
  refine mj_iload_n 1 dX4_isBroken_4 rfl ?_
  obtain ⟨z1, hf⟩ := mj_ck hf
  refine mj_ialdv (x := r33) rfl s0_33 a0_33 z1 dX4_isBroken_5 ?_
  refine mj_aload_n 0 dX4_isBroken_6 rfl ?_
  refine mj_getIv (v := (r32 7)) rfl fl_X4_57 rfl s0_32 a0_32 dX4_isBroken_7 ?_
  refine mj_icmp_le 17 dX4_isBroken_10 (by decide) (fun c2 => ?_) (fun c2 => ?_)
  · replace hf := mj_pos c2 hf
    refine mj_iconst dX4_isBroken_17 kc_iconst_0 ?_
    obtain rfl := Option.some.inj hf
    have hZ := hq
    exact mj_iret hR ⟨Nat.le_refl _, Nat.le_refl _⟩ rfl (by decide) dX4_isBroken_18 hZ
  · replace hf := mj_neg c2 hf
    refine mj_iconst dX4_isBroken_13 kc_iconst_1 ?_
    refine mj_goto 18 dX4_isBroken_14 (by decide) ?_
    obtain rfl := Option.some.inj hf
    have hZ := hq
    exact mj_iret hR ⟨Nat.le_refl _, Nat.le_refl _⟩ rfl (by decide) dX4_isBroken_18 hZ
set_option maxRecDepth 100000 in
set_option maxHeartbeats 4000000 in
theorem cmX4_isBroken (l : Launch) (G : mj_GT) (F : Nat) (x1 : Int32) (I : mj_IT) (L : mj_LT) (r32 : Nat → Int32) (r33 : Nat → Int32) (hr32 : I 32 = r32) (hr33 : I 33 = r33) (o : ((Int32))) (hf : fnX4_isBroken F r32 r33 x1 = some o) : mj_M l G yX4_isBroken cX4_isBroken 2 1 (some .boolean) 0 0 mj_P0 mj_S0 98 [.ref 32, .int x1] I L (mj_qd (some (.int o)) (mj_rows I [(32, r32), (33, r33)]) L) := by
  refine mj_in RX4 "isBroken" [(0, .ref 32), (1, .int x1)] rfl rfl rfl (by decide) (Nat.le_of_ble_eq_true rfl) (fun X ad hR => ?_)
  refine mj_toI [(32, r32), (33, r33)] (by intro q hq; simp only [List.mem_cons, List.not_mem_nil, or_false] at hq; rcases hq with rfl | rfl <;> assumption) ?_
  refine mtX4_isBroken hR F I L r32 r33 x1 o hf ?_
  exact ⟨rfl, rfl, rfl⟩

-- X2_addUp
def bdX2_addUp_17 (F : Nat) (r32 : Nat → Int32) (r33 : Nat → Int32) (r42 : Nat → Int32) (x2 : Int32) (r41 : Nat → Int32) : Option (((Int32) × (Nat → Int32)) ⊕ ((Nat → Int32))) := (if (r32 2) ≤ x2 then some (.inr r41) else (fnX4_isEnd F r32 r33 x2).bind (fun o2 => (if o2 = 0 then (fnX4_isBroken F r32 r33 x2).bind (fun o4 => (if o4 = 0 then (if mj_ib x2 200 = true then (fnX3_plus F (r41 2) (r42 x2.toNatClampNeg)).bind (fun o7 => some (.inl ((x2 + (1)), (upd r41 2 o7)))) else none) else (if mj_ib x2 200 = true then (fnX3_plus F (r41 1) (r42 x2.toNatClampNeg)).bind (fun o9 => some (.inl ((x2 + (1)), (upd r41 1 o9)))) else none))) else (if mj_ib x2 200 = true then (fnX3_plus F (r41 0) (r42 x2.toNatClampNeg)).bind (fun o11 => some (.inl ((x2 + (1)), (upd r41 0 o11)))) else none))))
def fnX2_addUp (F : Nat) (r32 : Nat → Int32) (r33 : Nat → Int32) (r41 : Nat → Int32) (r42 : Nat → Int32) : Option ((Nat → Int32)) := (mj_it (mj_u2 (fun z0 z1 => bdX2_addUp_17 F r32 r33 r42 z0 z1)) F ((0 : Int32), (upd (upd (upd r41 0 (0 : Int32)) 1 (0 : Int32)) 2 (0 : Int32)))).bind (fun r41_12 => some r41_12)
set_option maxRecDepth 100000 in
set_option maxHeartbeats 4000000 in
theorem lpX2_addUp_17 {X : mj_XT} {l : Launch} {G : mj_GT} {ad : Nat → Nat} {Qn : Option Value → mj_IT → mj_LT → Prop} (hR : mj_R X l G mj_P0 mj_S0 98 ad 0 0 Qn) (F : Nat) (I : mj_IT) (L : mj_LT) (r32 : Nat → Int32) (r33 : Nat → Int32) (r41 : Nat → Int32) (r42 : Nat → Int32) : ∀ (n : Nat) (s : ((Int32) × (Nat → Int32))) (e : ((Nat → Int32))), mj_it (mj_u2 (fun z0 z1 => bdX2_addUp_17 F r32 r33 r42 z0 z1)) n s = some e → (fun r41 => mj_W X G RX2 "addUp" cX2_addUp 3 2 none mj_P0 mj_S0 98 ad 0 0 104 [] [] (mj_rows I [(32, r32), (33, r33), (41, r41), (42, r42)]) L) e → (mj_u2 (fun x2 r41 => mj_W X G RX2 "addUp" cX2_addUp 3 2 none mj_P0 mj_S0 98 ad 0 0 17 [(0, .ref 41), (1, .ref 32), (2, .int x2)] [] (mj_rows I [(32, r32), (33, r33), (41, r41), (42, r42)]) L)) s := by
  refine mj_loop (fun s o hf hc hx => ?_)
  obtain ⟨x2, r41⟩ := s
  replace hf := mj_u2e hf
  refine mj_u2q ?_
  unfold bdX2_addUp_17 at hf
  refine mj_iload_n 2 dX2_addUp_17 rfl ?_
  refine mj_aload_n 1 dX2_addUp_18 rfl ?_
  refine mj_getIv (v := (r32 2)) rfl fl_X2_94 rfl s0_32 a0_32 dX2_addUp_19 ?_
  refine mj_icmp_ge 104 dX2_addUp_22 (by decide) (fun c1 => ?_) (fun c1 => ?_)
  · replace hf := mj_pos c1 hf
    refine mj_sub [] [] rfl ?_
    obtain rfl := Option.some.inj hf
    have hZ := hx r41 rfl
    exact hZ
  · replace hf := mj_neg c1 hf
    refine mj_aload_n 1 dX2_addUp_25 rfl ?_
    refine mj_iload_n 2 dX2_addUp_26 rfl ?_
    obtain ⟨o2, ho2, hf⟩ := mj_bd hf
    refine mj_callVd (I2 := (mj_rows I [(32, r32), (33, r33), (41, r41), (42, r42)])) (L2 := L) (s1 := [.int o2]) (st := []) [.int x2] (cmX4_isEnd X.2.1 G F x2 _ _ r32 r33 rfl rfl o2 ho2) (mj_rr rfl) rfl cw_X2_139 s0_32 a0_32 (by decide) rfl rfl (Nat.le_of_ble_eq_true rfl) ⟨Nat.zero_le _, Nat.zero_le _⟩ dX2_addUp_27 rfl ?_
    refine mj_if_eq 53 dX2_addUp_30 (by decide) (fun c3 => ?_) (fun c3 => ?_)
    · replace hf := mj_pos c3 hf
      refine mj_aload_n 1 dX2_addUp_53 rfl ?_
      refine mj_iload_n 2 dX2_addUp_54 rfl ?_
      obtain ⟨o4, ho4, hf⟩ := mj_bd hf
      refine mj_callVd (I2 := (mj_rows I [(32, r32), (33, r33), (41, r41), (42, r42)])) (L2 := L) (s1 := [.int o4]) (st := []) [.int x2] (cmX4_isBroken X.2.1 G F x2 _ _ r32 r33 rfl rfl o4 ho4) (mj_rr rfl) rfl cw_X2_143 s0_32 a0_32 (by decide) rfl rfl (Nat.le_of_ble_eq_true rfl) ⟨Nat.zero_le _, Nat.zero_le _⟩ dX2_addUp_55 rfl ?_
      refine mj_if_eq 81 dX2_addUp_58 (by decide) (fun c5 => ?_) (fun c5 => ?_)
      · replace hf := mj_pos c5 hf
        refine mj_aload_n 0 dX2_addUp_81 rfl ?_
        refine mj_aload_n 0 dX2_addUp_82 rfl ?_
        refine mj_getIv (v := (r41 2)) rfl fl_X2_136 rfl s0_41 a0_41 dX2_addUp_83 ?_
        refine mj_aload_n 0 dX2_addUp_86 rfl ?_
        refine mj_getP p0_41_3 (by decide) fl_X2_9 rfl s0_41 a0_41 dX2_addUp_87 ?_
        refine mj_iload_n 2 dX2_addUp_90 rfl ?_
        obtain ⟨z6, hf⟩ := mj_ck hf
        refine mj_ialdv (x := r42) rfl s0_42 a0_42 z6 dX2_addUp_91 ?_
        obtain ⟨o7, ho7, hf⟩ := mj_bd hf
        refine mj_callSd (I2 := (mj_rows I [(32, r32), (33, r33), (41, r41), (42, r42)])) (L2 := L) (s1 := [.int o7, .ref 41]) (st := [.ref 41]) [.int (r41 2), .int (r42 x2.toNatClampNeg)] (cmX3_plus X.2.1 G F (r41 2) (r42 x2.toNatClampNeg) _ _   o7 ho7) rfl rfl cw_X2_110 (by decide) rfl rfl (Nat.le_of_ble_eq_true rfl) ⟨Nat.zero_le _, Nat.zero_le _⟩ dX2_addUp_92 rfl ?_
        refine mj_putIr (ci := 1) (j := 2) [(32, r32), (33, r33), (41, (upd r41 2 o7)), (42, r42)] rfl ⟨rfl, rfl⟩ fl_X2_136 rfl rfl s0_41 a0_41 dX2_addUp_95 ?_
        refine mj_iinc 2 [(2, .int (x2 + (1))), (0, .ref 41), (1, .ref 32)] dX2_addUp_98 rfl (kz_1 _) (by decide) rfl ?_
        refine mj_goto 17 dX2_addUp_101 (by decide) ?_
        refine mj_sub [1, 2, 0] [(0, .ref 41), (1, .ref 32), (2, .int (x2 + (1)))] rfl ?_
        obtain rfl := Option.some.inj hf
        have hZ := hc ((x2 + (1)), (upd r41 2 o7)) rfl
        replace hZ := mj_u2p hZ
        exact hZ
      · replace hf := mj_neg c5 hf
        refine mj_aload_n 0 dX2_addUp_61 rfl ?_
        refine mj_aload_n 0 dX2_addUp_62 rfl ?_
        refine mj_getIv (v := (r41 1)) rfl fl_X2_88 rfl s0_41 a0_41 dX2_addUp_63 ?_
        refine mj_aload_n 0 dX2_addUp_66 rfl ?_
        refine mj_getP p0_41_3 (by decide) fl_X2_9 rfl s0_41 a0_41 dX2_addUp_67 ?_
        refine mj_iload_n 2 dX2_addUp_70 rfl ?_
        obtain ⟨z8, hf⟩ := mj_ck hf
        refine mj_ialdv (x := r42) rfl s0_42 a0_42 z8 dX2_addUp_71 ?_
        obtain ⟨o9, ho9, hf⟩ := mj_bd hf
        refine mj_callSd (I2 := (mj_rows I [(32, r32), (33, r33), (41, r41), (42, r42)])) (L2 := L) (s1 := [.int o9, .ref 41]) (st := [.ref 41]) [.int (r41 1), .int (r42 x2.toNatClampNeg)] (cmX3_plus X.2.1 G F (r41 1) (r42 x2.toNatClampNeg) _ _   o9 ho9) rfl rfl cw_X2_110 (by decide) rfl rfl (Nat.le_of_ble_eq_true rfl) ⟨Nat.zero_le _, Nat.zero_le _⟩ dX2_addUp_72 rfl ?_
        refine mj_putIr (ci := 1) (j := 1) [(32, r32), (33, r33), (41, (upd r41 1 o9)), (42, r42)] rfl ⟨rfl, rfl⟩ fl_X2_88 rfl rfl s0_41 a0_41 dX2_addUp_75 ?_
        refine mj_goto 98 dX2_addUp_78 (by decide) ?_
        refine mj_iinc 2 [(2, .int (x2 + (1))), (0, .ref 41), (1, .ref 32)] dX2_addUp_98 rfl (kz_1 _) (by decide) rfl ?_
        refine mj_goto 17 dX2_addUp_101 (by decide) ?_
        refine mj_sub [1, 2, 0] [(0, .ref 41), (1, .ref 32), (2, .int (x2 + (1)))] rfl ?_
        obtain rfl := Option.some.inj hf
        have hZ := hc ((x2 + (1)), (upd r41 1 o9)) rfl
        replace hZ := mj_u2p hZ
        exact hZ
    · replace hf := mj_neg c3 hf
      refine mj_aload_n 0 dX2_addUp_33 rfl ?_
      refine mj_aload_n 0 dX2_addUp_34 rfl ?_
      refine mj_getIv (v := (r41 0)) rfl fl_X2_72 rfl s0_41 a0_41 dX2_addUp_35 ?_
      refine mj_aload_n 0 dX2_addUp_38 rfl ?_
      refine mj_getP p0_41_3 (by decide) fl_X2_9 rfl s0_41 a0_41 dX2_addUp_39 ?_
      refine mj_iload_n 2 dX2_addUp_42 rfl ?_
      obtain ⟨z10, hf⟩ := mj_ck hf
      refine mj_ialdv (x := r42) rfl s0_42 a0_42 z10 dX2_addUp_43 ?_
      obtain ⟨o11, ho11, hf⟩ := mj_bd hf
      refine mj_callSd (I2 := (mj_rows I [(32, r32), (33, r33), (41, r41), (42, r42)])) (L2 := L) (s1 := [.int o11, .ref 41]) (st := [.ref 41]) [.int (r41 0), .int (r42 x2.toNatClampNeg)] (cmX3_plus X.2.1 G F (r41 0) (r42 x2.toNatClampNeg) _ _   o11 ho11) rfl rfl cw_X2_110 (by decide) rfl rfl (Nat.le_of_ble_eq_true rfl) ⟨Nat.zero_le _, Nat.zero_le _⟩ dX2_addUp_44 rfl ?_
      refine mj_putIr (ci := 1) (j := 0) [(32, r32), (33, r33), (41, (upd r41 0 o11)), (42, r42)] rfl ⟨rfl, rfl⟩ fl_X2_72 rfl rfl s0_41 a0_41 dX2_addUp_47 ?_
      refine mj_goto 98 dX2_addUp_50 (by decide) ?_
      refine mj_iinc 2 [(2, .int (x2 + (1))), (0, .ref 41), (1, .ref 32)] dX2_addUp_98 rfl (kz_1 _) (by decide) rfl ?_
      refine mj_goto 17 dX2_addUp_101 (by decide) ?_
      refine mj_sub [1, 2, 0] [(0, .ref 41), (1, .ref 32), (2, .int (x2 + (1)))] rfl ?_
      obtain rfl := Option.some.inj hf
      have hZ := hc ((x2 + (1)), (upd r41 0 o11)) rfl
      replace hZ := mj_u2p hZ
      exact hZ
set_option maxRecDepth 100000 in
set_option maxHeartbeats 4000000 in
theorem mtX2_addUp {X : mj_XT} {l : Launch} {G : mj_GT} {ad : Nat → Nat} {Qn : Option Value → mj_IT → mj_LT → Prop} (hR : mj_R X l G mj_P0 mj_S0 98 ad 0 0 Qn) (F : Nat) (I : mj_IT) (L : mj_LT) (r32 : Nat → Int32) (r33 : Nat → Int32) (r41 : Nat → Int32) (r42 : Nat → Int32) (o : ((Nat → Int32))) (hf : fnX2_addUp F r32 r33 r41 r42 = some o) (hq : (fun r41 => Qn none (mj_rows I [(32, r32), (33, r33), (41, r41), (42, r42)]) L) o) : mj_W X G RX2 "addUp" cX2_addUp 3 2 none mj_P0 mj_S0 98 ad 0 0 0 [(0, .ref 41), (1, .ref 32)] [] (mj_rows I [(32, r32), (33, r33), (41, r41), (42, r42)]) L := by
  unfold fnX2_addUp at hf
  refine mj_aload_n 0 dX2_addUp_0 rfl ?_
  refine mj_iconst dX2_addUp_1 kc_iconst_0 ?_
  refine mj_putIr (ci := 1) (j := 0) [(32, r32), (33, r33), (41, (upd r41 0 (0 : Int32))), (42, r42)] rfl ⟨rfl, rfl⟩ fl_X2_72 rfl rfl s0_41 a0_41 dX2_addUp_2 ?_
  refine mj_aload_n 0 dX2_addUp_5 rfl ?_
  refine mj_iconst dX2_addUp_6 kc_iconst_0 ?_
  refine mj_putIr (ci := 1) (j := 1) [(32, r32), (33, r33), (41, (upd (upd r41 0 (0 : Int32)) 1 (0 : Int32))), (42, r42)] rfl ⟨rfl, rfl⟩ fl_X2_88 rfl rfl s0_41 a0_41 dX2_addUp_7 ?_
  refine mj_aload_n 0 dX2_addUp_10 rfl ?_
  refine mj_iconst dX2_addUp_11 kc_iconst_0 ?_
  refine mj_putIr (ci := 1) (j := 2) [(32, r32), (33, r33), (41, (upd (upd (upd r41 0 (0 : Int32)) 1 (0 : Int32)) 2 (0 : Int32))), (42, r42)] rfl ⟨rfl, rfl⟩ fl_X2_136 rfl rfl s0_41 a0_41 dX2_addUp_12 ?_
  refine mj_iconst dX2_addUp_15 kc_iconst_0 ?_
  refine mj_istore_n [(2, .int (0 : Int32)), (0, .ref 41), (1, .ref 32)] dX2_addUp_16 rfl (by decide) rfl ?_
  refine mj_sub [1, 2, 0] [(0, .ref 41), (1, .ref 32), (2, .int (0 : Int32))] rfl ?_
  obtain ⟨r41_12, ho12, hf⟩ := mj_bd hf
  refine lpX2_addUp_17 hR F I L r32 r33 (upd (upd (upd r41 0 (0 : Int32)) 1 (0 : Int32)) 2 (0 : Int32)) r42 F ((0 : Int32), (upd (upd (upd r41 0 (0 : Int32)) 1 (0 : Int32)) 2 (0 : Int32))) r41_12 ho12 ?_
  refine ?_
  obtain rfl := Option.some.inj hf
  have hZ := hq
  exact mj_vret hR ⟨Nat.le_refl _, Nat.le_refl _⟩ rfl dX2_addUp_104 hZ
set_option maxRecDepth 100000 in
set_option maxHeartbeats 4000000 in
theorem cmX2_addUp (l : Launch) (G : mj_GT) (F : Nat) (I : mj_IT) (L : mj_LT) (r32 : Nat → Int32) (r33 : Nat → Int32) (r41 : Nat → Int32) (r42 : Nat → Int32) (hr32 : I 32 = r32) (hr33 : I 33 = r33) (hr41 : I 41 = r41) (hr42 : I 42 = r42) (o : ((Nat → Int32))) (hf : fnX2_addUp F r32 r33 r41 r42 = some o) : mj_M l G yX2_addUp cX2_addUp 3 2 none 0 0 mj_P0 mj_S0 98 [.ref 41, .ref 32] I L (mj_qd none (mj_rows I [(32, r32), (33, r33), (41, o), (42, r42)]) L) := by
  refine mj_in RX2 "addUp" [(0, .ref 41), (1, .ref 32)] rfl rfl rfl (by decide) (Nat.le_of_ble_eq_true rfl) (fun X ad hR => ?_)
  refine mj_toI [(32, r32), (33, r33), (41, r41), (42, r42)] (by intro q hq; simp only [List.mem_cons, List.not_mem_nil, or_false] at hq; rcases hq with rfl | rfl | rfl | rfl <;> assumption) ?_
  refine mtX2_addUp hR F I L r32 r33 r41 r42 o hf ?_
  exact ⟨rfl, rfl, rfl⟩

-- X2_solve
def fnX2_solve (F : Nat) (r32 : Nat → Int32) (r33 : Nat → Int32) (r36 : Nat → Int32) (r37 : Nat → Int32) (r38 : Nat → Int32) (r39 : Nat → Int32) (r41 : Nat → Int32) (r42 : Nat → Int32) (r43 : Nat → Int32) (r44 : Nat → Int32) (r45 : Nat → Int32) (r46 : Nat → Int32) (r50 : Nat → Int32) : Option ((Int32) × (Nat → Int32) × (Nat → Int32) × (Nat → Int32) × (Nat → Int32) × (Nat → Int32) × (Nat → Int32) × (Nat → Int32)) := (if (r41 4) = (r32 0) then (if mj_bb (r41 5) = true then some ((r41 5), r41, r42, r43, r44, r45, r46, r50) else none) else (fnX2_write F r32 r36 r37 r38 r39 (upd r41 4 (r32 0)) r43 r44 r45 r50).bind (fun o3 => (fnX2_eliminate F o3.1 o3.2.2.2.1 r46 o3.2.2.2.2).bind (fun o4 => (if mj_bb o4.1 = true then (if o4.1 = 0 then (if mj_bb o4.1 = true then some (o4.1, (upd o3.1 5 o4.1), r42, o3.2.1, o3.2.2.1, o4.2.1, o4.2.2.1, o4.2.2.2) else none) else (fnX2_substitute F (upd o3.1 5 o4.1) r42 o3.2.1 o4.2.1 o4.2.2.2).bind (fun o8 => (fnX2_passOn F r32 r36 r37 r38 r39 (upd o3.1 5 o4.1) o8 o3.2.1 o3.2.2.1).bind (fun o9 => (fnX2_addUp F r32 r33 (upd o3.1 5 o4.1) o9).bind (fun o10 => (if mj_bb (o10 5) = true then some ((o10 5), o10, o9, o3.2.1, o3.2.2.1, o4.2.1, o4.2.2.1, o4.2.2.2) else none))))) else none))))
set_option maxRecDepth 100000 in
set_option maxHeartbeats 4000000 in
theorem mtX2_solve {X : mj_XT} {l : Launch} {G : mj_GT} {ad : Nat → Nat} {Qn : Option Value → mj_IT → mj_LT → Prop} (hR : mj_R X l G mj_P0 mj_S0 98 ad 0 0 Qn) (F : Nat) (I : mj_IT) (L : mj_LT) (r32 : Nat → Int32) (r33 : Nat → Int32) (r36 : Nat → Int32) (r37 : Nat → Int32) (r38 : Nat → Int32) (r39 : Nat → Int32) (r41 : Nat → Int32) (r42 : Nat → Int32) (r43 : Nat → Int32) (r44 : Nat → Int32) (r45 : Nat → Int32) (r46 : Nat → Int32) (r50 : Nat → Int32) (o : ((Int32) × (Nat → Int32) × (Nat → Int32) × (Nat → Int32) × (Nat → Int32) × (Nat → Int32) × (Nat → Int32) × (Nat → Int32))) (hf : fnX2_solve F r32 r33 r36 r37 r38 r39 r41 r42 r43 r44 r45 r46 r50 = some o) (hq : (mj_u2 (fun ov => (mj_u2 (fun r41 => (mj_u2 (fun r42 => (mj_u2 (fun r43 => (mj_u2 (fun r44 => (mj_u2 (fun r45 => (mj_u2 (fun r46 r50 => Qn (some (.int ov)) (mj_rows I [(32, r32), (33, r33), (36, r36), (37, r37), (38, r38), (39, r39), (41, r41), (42, r42), (43, r43), (44, r44), (45, r45), (46, r46), (50, r50)]) L)))))))))))))) o) : mj_W X G RX2 "solve" cX2_solve 2 5 (some .boolean) mj_P0 mj_S0 98 ad 0 0 0 [(0, .ref 41), (1, .ref 32)] [] (mj_rows I [(32, r32), (33, r33), (36, r36), (37, r37), (38, r38), (39, r39), (41, r41), (42, r42), (43, r43), (44, r44), (45, r45), (46, r46), (50, r50)]) L := by
  unfold fnX2_solve at hf
  refine mj_aload_n 0 dX2_solve_0 rfl ?_
  refine mj_getIv (v := (r41 4)) rfl fl_X2_40 rfl s0_41 a0_41 dX2_solve_1 ?_
  refine mj_aload_n 1 dX2_solve_4 rfl ?_
  refine mj_getIv (v := (r32 0)) rfl fl_X2_44 rfl s0_32 a0_32 dX2_solve_5 ?_
  refine mj_icmp_eq 53 dX2_solve_8 (by decide) (fun c1 => ?_) (fun c1 => ?_)
  · replace hf := mj_pos c1 hf
    refine mj_aload_n 0 dX2_solve_53 rfl ?_
    refine mj_getIv (v := (r41 5)) rfl fl_X2_55 rfl s0_41 a0_41 dX2_solve_54 ?_
    obtain ⟨z2, hf⟩ := mj_ck hf
    obtain rfl := Option.some.inj hf
    have hZ := hq
    replace hZ := mj_u2p hZ
    replace hZ := mj_u2p hZ
    replace hZ := mj_u2p hZ
    replace hZ := mj_u2p hZ
    replace hZ := mj_u2p hZ
    replace hZ := mj_u2p hZ
    replace hZ := mj_u2p hZ
    exact mj_iret hR ⟨Nat.le_refl _, Nat.le_refl _⟩ rfl (mj_bb_n z2).1 dX2_solve_57 hZ
  · replace hf := mj_neg c1 hf
    refine mj_aload_n 0 dX2_solve_11 rfl ?_
    refine mj_aload_n 1 dX2_solve_12 rfl ?_
    refine mj_getIv (v := (r32 0)) rfl fl_X2_44 rfl s0_32 a0_32 dX2_solve_13 ?_
    refine mj_putIr (ci := 1) (j := 4) [(32, r32), (33, r33), (36, r36), (37, r37), (38, r38), (39, r39), (41, (upd r41 4 (r32 0))), (42, r42), (43, r43), (44, r44), (45, r45), (46, r46), (50, r50)] rfl ⟨rfl, rfl⟩ fl_X2_40 rfl rfl s0_41 a0_41 dX2_solve_16 ?_
    refine mj_aload_n 0 dX2_solve_19 rfl ?_
    refine mj_aload_n 1 dX2_solve_20 rfl ?_
    obtain ⟨o3, ho3, hf⟩ := mj_bd hf
    refine mj_callVd (I2 := (mj_rows I [(32, r32), (33, r33), (36, r36), (37, r37), (38, r38), (39, r39), (41, o3.1), (42, r42), (43, o3.2.1), (44, o3.2.2.1), (45, o3.2.2.2.1), (46, r46), (50, o3.2.2.2.2)])) (L2 := L) (s1 := []) (st := []) [.ref 32] (cmX2_write X.2.1 G F  _ _ r32 r36 r37 r38 r39 (upd r41 4 (r32 0)) r43 r44 r45 r50 rfl rfl rfl rfl rfl rfl rfl rfl rfl rfl o3 ho3) (mj_rr rfl) rfl cw_X2_47 s0_41 a0_41 (by decide) rfl rfl (Nat.le_of_ble_eq_true rfl) ⟨Nat.zero_le _, Nat.zero_le _⟩ dX2_solve_21 rfl ?_
    refine mj_aload_n 0 dX2_solve_24 rfl ?_
    refine mj_aload_n 0 dX2_solve_25 rfl ?_
    obtain ⟨o4, ho4, hf⟩ := mj_bd hf
    refine mj_callVd (I2 := (mj_rows I [(32, r32), (33, r33), (36, r36), (37, r37), (38, r38), (39, r39), (41, o3.1), (42, r42), (43, o3.2.1), (44, o3.2.2.1), (45, o4.2.1), (46, o4.2.2.1), (50, o4.2.2.2)])) (L2 := L) (s1 := [.int o4.1, .ref 41]) (st := [.ref 41]) [] (cmX2_eliminate X.2.1 G F  _ _ o3.1 o3.2.2.2.1 r46 o3.2.2.2.2 rfl rfl rfl rfl o4 ho4) (mj_rr rfl) rfl cw_X2_51 s0_41 a0_41 (by decide) rfl rfl (Nat.le_of_ble_eq_true rfl) ⟨Nat.zero_le _, Nat.zero_le _⟩ dX2_solve_26 rfl ?_
    obtain ⟨z5, hf⟩ := mj_ck hf
    refine mj_putIr (ci := 1) (j := 5) [(32, r32), (33, r33), (36, r36), (37, r37), (38, r38), (39, r39), (41, (upd o3.1 5 o4.1)), (42, r42), (43, o3.2.1), (44, o3.2.2.1), (45, o4.2.1), (46, o4.2.2.1), (50, o4.2.2.2)] rfl (mj_bb_n z5) fl_X2_55 rfl rfl s0_41 a0_41 dX2_solve_29 ?_
    refine mj_aload_n 0 dX2_solve_32 rfl ?_
    refine mj_getIv (v := o4.1) rfl fl_X2_55 rfl s0_41 a0_41 dX2_solve_33 ?_
    refine mj_if_eq 53 dX2_solve_36 (by decide) (fun c6 => ?_) (fun c6 => ?_)
    · replace hf := mj_pos c6 hf
      refine mj_aload_n 0 dX2_solve_53 rfl ?_
      refine mj_getIv (v := o4.1) rfl fl_X2_55 rfl s0_41 a0_41 dX2_solve_54 ?_
      obtain ⟨z7, hf⟩ := mj_ck hf
      obtain rfl := Option.some.inj hf
      have hZ := hq
      replace hZ := mj_u2p hZ
      replace hZ := mj_u2p hZ
      replace hZ := mj_u2p hZ
      replace hZ := mj_u2p hZ
      replace hZ := mj_u2p hZ
      replace hZ := mj_u2p hZ
      replace hZ := mj_u2p hZ
      exact mj_iret hR ⟨Nat.le_refl _, Nat.le_refl _⟩ rfl (mj_bb_n z7).1 dX2_solve_57 hZ
    · replace hf := mj_neg c6 hf
      refine mj_aload_n 0 dX2_solve_39 rfl ?_
      obtain ⟨o8, ho8, hf⟩ := mj_bd hf
      refine mj_callVd (I2 := (mj_rows I [(32, r32), (33, r33), (36, r36), (37, r37), (38, r38), (39, r39), (41, (upd o3.1 5 o4.1)), (42, o8), (43, o3.2.1), (44, o3.2.2.1), (45, o4.2.1), (46, o4.2.2.1), (50, o4.2.2.2)])) (L2 := L) (s1 := []) (st := []) [] (cmX2_substitute X.2.1 G F  _ _ (upd o3.1 5 o4.1) r42 o3.2.1 o4.2.1 o4.2.2.2 rfl rfl rfl rfl rfl o8 ho8) (mj_rr rfl) rfl cw_X2_59 s0_41 a0_41 (by decide) rfl rfl (Nat.le_of_ble_eq_true rfl) ⟨Nat.zero_le _, Nat.zero_le _⟩ dX2_solve_40 rfl ?_
      refine mj_aload_n 0 dX2_solve_43 rfl ?_
      refine mj_aload_n 1 dX2_solve_44 rfl ?_
      obtain ⟨o9, ho9, hf⟩ := mj_bd hf
      refine mj_callVd (I2 := (mj_rows I [(32, r32), (33, r33), (36, r36), (37, r37), (38, r38), (39, r39), (41, (upd o3.1 5 o4.1)), (42, o9), (43, o3.2.1), (44, o3.2.2.1), (45, o4.2.1), (46, o4.2.2.1), (50, o4.2.2.2)])) (L2 := L) (s1 := []) (st := []) [.ref 32] (cmX2_passOn X.2.1 G F  _ _ r32 r36 r37 r38 r39 (upd o3.1 5 o4.1) o8 o3.2.1 o3.2.2.1 rfl rfl rfl rfl rfl rfl rfl rfl rfl o9 ho9) (mj_rr rfl) rfl cw_X2_62 s0_41 a0_41 (by decide) rfl rfl (Nat.le_of_ble_eq_true rfl) ⟨Nat.zero_le _, Nat.zero_le _⟩ dX2_solve_45 rfl ?_
      refine mj_aload_n 0 dX2_solve_48 rfl ?_
      refine mj_aload_n 1 dX2_solve_49 rfl ?_
      obtain ⟨o10, ho10, hf⟩ := mj_bd hf
      refine mj_callVd (I2 := (mj_rows I [(32, r32), (33, r33), (36, r36), (37, r37), (38, r38), (39, r39), (41, o10), (42, o9), (43, o3.2.1), (44, o3.2.2.1), (45, o4.2.1), (46, o4.2.2.1), (50, o4.2.2.2)])) (L2 := L) (s1 := []) (st := []) [.ref 32] (cmX2_addUp X.2.1 G F  _ _ r32 r33 (upd o3.1 5 o4.1) o9 rfl rfl rfl rfl o10 ho10) (mj_rr rfl) rfl cw_X2_65 s0_41 a0_41 (by decide) rfl rfl (Nat.le_of_ble_eq_true rfl) ⟨Nat.zero_le _, Nat.zero_le _⟩ dX2_solve_50 rfl ?_
      refine mj_aload_n 0 dX2_solve_53 rfl ?_
      refine mj_getIv (v := (o10 5)) rfl fl_X2_55 rfl s0_41 a0_41 dX2_solve_54 ?_
      obtain ⟨z11, hf⟩ := mj_ck hf
      obtain rfl := Option.some.inj hf
      have hZ := hq
      replace hZ := mj_u2p hZ
      replace hZ := mj_u2p hZ
      replace hZ := mj_u2p hZ
      replace hZ := mj_u2p hZ
      replace hZ := mj_u2p hZ
      replace hZ := mj_u2p hZ
      replace hZ := mj_u2p hZ
      exact mj_iret hR ⟨Nat.le_refl _, Nat.le_refl _⟩ rfl (mj_bb_n z11).1 dX2_solve_57 hZ
set_option maxRecDepth 100000 in
set_option maxHeartbeats 4000000 in
theorem cmX2_solve (l : Launch) (G : mj_GT) (F : Nat) (I : mj_IT) (L : mj_LT) (r32 : Nat → Int32) (r33 : Nat → Int32) (r36 : Nat → Int32) (r37 : Nat → Int32) (r38 : Nat → Int32) (r39 : Nat → Int32) (r41 : Nat → Int32) (r42 : Nat → Int32) (r43 : Nat → Int32) (r44 : Nat → Int32) (r45 : Nat → Int32) (r46 : Nat → Int32) (r50 : Nat → Int32) (hr32 : I 32 = r32) (hr33 : I 33 = r33) (hr36 : I 36 = r36) (hr37 : I 37 = r37) (hr38 : I 38 = r38) (hr39 : I 39 = r39) (hr41 : I 41 = r41) (hr42 : I 42 = r42) (hr43 : I 43 = r43) (hr44 : I 44 = r44) (hr45 : I 45 = r45) (hr46 : I 46 = r46) (hr50 : I 50 = r50) (o : ((Int32) × (Nat → Int32) × (Nat → Int32) × (Nat → Int32) × (Nat → Int32) × (Nat → Int32) × (Nat → Int32) × (Nat → Int32))) (hf : fnX2_solve F r32 r33 r36 r37 r38 r39 r41 r42 r43 r44 r45 r46 r50 = some o) : mj_M l G yX2_solve cX2_solve 2 5 (some .boolean) 0 0 mj_P0 mj_S0 98 [.ref 41, .ref 32] I L (mj_qd (some (.int o.1)) (mj_rows I [(32, r32), (33, r33), (36, r36), (37, r37), (38, r38), (39, r39), (41, o.2.1), (42, o.2.2.1), (43, o.2.2.2.1), (44, o.2.2.2.2.1), (45, o.2.2.2.2.2.1), (46, o.2.2.2.2.2.2.1), (50, o.2.2.2.2.2.2.2)]) L) := by
  refine mj_in RX2 "solve" [(0, .ref 41), (1, .ref 32)] rfl rfl rfl (by decide) (Nat.le_of_ble_eq_true rfl) (fun X ad hR => ?_)
  refine mj_toI [(32, r32), (33, r33), (36, r36), (37, r37), (38, r38), (39, r39), (41, r41), (42, r42), (43, r43), (44, r44), (45, r45), (46, r46), (50, r50)] (by intro q hq; simp only [List.mem_cons, List.not_mem_nil, or_false] at hq; rcases hq with rfl | rfl | rfl | rfl | rfl | rfl | rfl | rfl | rfl | rfl | rfl | rfl | rfl <;> assumption) ?_
  refine mtX2_solve hR F I L r32 r33 r36 r37 r38 r39 r41 r42 r43 r44 r45 r46 r50 o hf ?_
  obtain ⟨w0, w1, w2, w3, w4, w5, w6, w7⟩ := o
  refine mj_u2q ?_
  refine mj_u2q ?_
  refine mj_u2q ?_
  refine mj_u2q ?_
  refine mj_u2q ?_
  refine mj_u2q ?_
  refine mj_u2q ?_
  exact ⟨rfl, rfl, rfl⟩

-- X2_canDivide
def fnX2_canDivide (F : Nat) (r32 : Nat → Int32) (r33 : Nat → Int32) (r36 : Nat → Int32) (r37 : Nat → Int32) (r38 : Nat → Int32) (r39 : Nat → Int32) (r41 : Nat → Int32) (r42 : Nat → Int32) (r43 : Nat → Int32) (r44 : Nat → Int32) (r45 : Nat → Int32) (r46 : Nat → Int32) (r50 : Nat → Int32) : Option ((Int32) × (Nat → Int32) × (Nat → Int32) × (Nat → Int32) × (Nat → Int32) × (Nat → Int32) × (Nat → Int32) × (Nat → Int32)) := (fnX2_solve F r32 r33 r36 r37 r38 r39 r41 r42 r43 r44 r45 r46 r50).bind (fun o1 => (if o1.1 = 0 then some ((0 : Int32), o1.2.1, o1.2.2.1, o1.2.2.2.1, o1.2.2.2.2.1, o1.2.2.2.2.2.1, o1.2.2.2.2.2.2.1, o1.2.2.2.2.2.2.2) else (if (o1.2.1 0) = 0 then some ((0 : Int32), o1.2.1, o1.2.2.1, o1.2.2.2.1, o1.2.2.2.2.1, o1.2.2.2.2.2.1, o1.2.2.2.2.2.2.1, o1.2.2.2.2.2.2.2) else some ((1 : Int32), o1.2.1, o1.2.2.1, o1.2.2.2.1, o1.2.2.2.2.1, o1.2.2.2.2.2.1, o1.2.2.2.2.2.2.1, o1.2.2.2.2.2.2.2))))
set_option maxRecDepth 100000 in
set_option maxHeartbeats 4000000 in
theorem mtX2_canDivide {X : mj_XT} {l : Launch} {G : mj_GT} {ad : Nat → Nat} {Qn : Option Value → mj_IT → mj_LT → Prop} (hR : mj_R X l G mj_P0 mj_S0 98 ad 0 0 Qn) (F : Nat) (I : mj_IT) (L : mj_LT) (r32 : Nat → Int32) (r33 : Nat → Int32) (r36 : Nat → Int32) (r37 : Nat → Int32) (r38 : Nat → Int32) (r39 : Nat → Int32) (r41 : Nat → Int32) (r42 : Nat → Int32) (r43 : Nat → Int32) (r44 : Nat → Int32) (r45 : Nat → Int32) (r46 : Nat → Int32) (r50 : Nat → Int32) (o : ((Int32) × (Nat → Int32) × (Nat → Int32) × (Nat → Int32) × (Nat → Int32) × (Nat → Int32) × (Nat → Int32) × (Nat → Int32))) (hf : fnX2_canDivide F r32 r33 r36 r37 r38 r39 r41 r42 r43 r44 r45 r46 r50 = some o) (hq : (mj_u2 (fun ov => (mj_u2 (fun r41 => (mj_u2 (fun r42 => (mj_u2 (fun r43 => (mj_u2 (fun r44 => (mj_u2 (fun r45 => (mj_u2 (fun r46 r50 => Qn (some (.int ov)) (mj_rows I [(32, r32), (33, r33), (36, r36), (37, r37), (38, r38), (39, r39), (41, r41), (42, r42), (43, r43), (44, r44), (45, r45), (46, r46), (50, r50)]) L)))))))))))))) o) : mj_W X G RX2 "canDivide" cX2_canDivide 2 6 (some .boolean) mj_P0 mj_S0 98 ad 0 0 0 [(0, .ref 41), (1, .ref 32)] [] (mj_rows I [(32, r32), (33, r33), (36, r36), (37, r37), (38, r38), (39, r39), (41, r41), (42, r42), (43, r43), (44, r44), (45, r45), (46, r46), (50, r50)]) L := by
  unfold fnX2_canDivide at hf
  refine mj_aload_n 0 dX2_canDivide_0 rfl ?_
  refine mj_aload_n 1 dX2_canDivide_1 rfl ?_
  obtain ⟨o1, ho1, hf⟩ := mj_bd hf
  refine mj_callVd (I2 := (mj_rows I [(32, r32), (33, r33), (36, r36), (37, r37), (38, r38), (39, r39), (41, o1.2.1), (42, o1.2.2.1), (43, o1.2.2.2.1), (44, o1.2.2.2.2.1), (45, o1.2.2.2.2.2.1), (46, o1.2.2.2.2.2.2.1), (50, o1.2.2.2.2.2.2.2)])) (L2 := L) (s1 := [.int o1.1]) (st := []) [.ref 32] (cmX2_solve X.2.1 G F  _ _ r32 r33 r36 r37 r38 r39 r41 r42 r43 r44 r45 r46 r50 rfl rfl rfl rfl rfl rfl rfl rfl rfl rfl rfl rfl rfl o1 ho1) (mj_rr rfl) rfl cw_X2_68 s0_41 a0_41 (by decide) rfl rfl (Nat.le_of_ble_eq_true rfl) ⟨Nat.zero_le _, Nat.zero_le _⟩ dX2_canDivide_2 rfl ?_
  refine mj_if_eq 19 dX2_canDivide_5 (by decide) (fun c2 => ?_) (fun c2 => ?_)
  · replace hf := mj_pos c2 hf
    refine mj_iconst dX2_canDivide_19 kc_iconst_0 ?_
    obtain rfl := Option.some.inj hf
    have hZ := hq
    replace hZ := mj_u2p hZ
    replace hZ := mj_u2p hZ
    replace hZ := mj_u2p hZ
    replace hZ := mj_u2p hZ
    replace hZ := mj_u2p hZ
    replace hZ := mj_u2p hZ
    replace hZ := mj_u2p hZ
    exact mj_iret hR ⟨Nat.le_refl _, Nat.le_refl _⟩ rfl (by decide) dX2_canDivide_20 hZ
  · replace hf := mj_neg c2 hf
    refine mj_aload_n 0 dX2_canDivide_8 rfl ?_
    refine mj_getIv (v := (o1.2.1 0)) rfl fl_X2_72 rfl s0_41 a0_41 dX2_canDivide_9 ?_
    refine mj_if_eq 19 dX2_canDivide_12 (by decide) (fun c3 => ?_) (fun c3 => ?_)
    · replace hf := mj_pos c3 hf
      refine mj_iconst dX2_canDivide_19 kc_iconst_0 ?_
      obtain rfl := Option.some.inj hf
      have hZ := hq
      replace hZ := mj_u2p hZ
      replace hZ := mj_u2p hZ
      replace hZ := mj_u2p hZ
      replace hZ := mj_u2p hZ
      replace hZ := mj_u2p hZ
      replace hZ := mj_u2p hZ
      replace hZ := mj_u2p hZ
      exact mj_iret hR ⟨Nat.le_refl _, Nat.le_refl _⟩ rfl (by decide) dX2_canDivide_20 hZ
    · replace hf := mj_neg c3 hf
      refine mj_iconst dX2_canDivide_15 kc_iconst_1 ?_
      refine mj_goto 20 dX2_canDivide_16 (by decide) ?_
      obtain rfl := Option.some.inj hf
      have hZ := hq
      replace hZ := mj_u2p hZ
      replace hZ := mj_u2p hZ
      replace hZ := mj_u2p hZ
      replace hZ := mj_u2p hZ
      replace hZ := mj_u2p hZ
      replace hZ := mj_u2p hZ
      replace hZ := mj_u2p hZ
      exact mj_iret hR ⟨Nat.le_refl _, Nat.le_refl _⟩ rfl (by decide) dX2_canDivide_20 hZ
set_option maxRecDepth 100000 in
set_option maxHeartbeats 4000000 in
theorem cmX2_canDivide (l : Launch) (G : mj_GT) (F : Nat) (I : mj_IT) (L : mj_LT) (r32 : Nat → Int32) (r33 : Nat → Int32) (r36 : Nat → Int32) (r37 : Nat → Int32) (r38 : Nat → Int32) (r39 : Nat → Int32) (r41 : Nat → Int32) (r42 : Nat → Int32) (r43 : Nat → Int32) (r44 : Nat → Int32) (r45 : Nat → Int32) (r46 : Nat → Int32) (r50 : Nat → Int32) (hr32 : I 32 = r32) (hr33 : I 33 = r33) (hr36 : I 36 = r36) (hr37 : I 37 = r37) (hr38 : I 38 = r38) (hr39 : I 39 = r39) (hr41 : I 41 = r41) (hr42 : I 42 = r42) (hr43 : I 43 = r43) (hr44 : I 44 = r44) (hr45 : I 45 = r45) (hr46 : I 46 = r46) (hr50 : I 50 = r50) (o : ((Int32) × (Nat → Int32) × (Nat → Int32) × (Nat → Int32) × (Nat → Int32) × (Nat → Int32) × (Nat → Int32) × (Nat → Int32))) (hf : fnX2_canDivide F r32 r33 r36 r37 r38 r39 r41 r42 r43 r44 r45 r46 r50 = some o) : mj_M l G yX2_canDivide cX2_canDivide 2 6 (some .boolean) 0 0 mj_P0 mj_S0 98 [.ref 41, .ref 32] I L (mj_qd (some (.int o.1)) (mj_rows I [(32, r32), (33, r33), (36, r36), (37, r37), (38, r38), (39, r39), (41, o.2.1), (42, o.2.2.1), (43, o.2.2.2.1), (44, o.2.2.2.2.1), (45, o.2.2.2.2.2.1), (46, o.2.2.2.2.2.2.1), (50, o.2.2.2.2.2.2.2)]) L) := by
  refine mj_in RX2 "canDivide" [(0, .ref 41), (1, .ref 32)] rfl rfl rfl (by decide) (Nat.le_of_ble_eq_true rfl) (fun X ad hR => ?_)
  refine mj_toI [(32, r32), (33, r33), (36, r36), (37, r37), (38, r38), (39, r39), (41, r41), (42, r42), (43, r43), (44, r44), (45, r45), (46, r46), (50, r50)] (by intro q hq; simp only [List.mem_cons, List.not_mem_nil, or_false] at hq; rcases hq with rfl | rfl | rfl | rfl | rfl | rfl | rfl | rfl | rfl | rfl | rfl | rfl | rfl <;> assumption) ?_
  refine mtX2_canDivide hR F I L r32 r33 r36 r37 r38 r39 r41 r42 r43 r44 r45 r46 r50 o hf ?_
  obtain ⟨w0, w1, w2, w3, w4, w5, w6, w7⟩ := o
  refine mj_u2q ?_
  refine mj_u2q ?_
  refine mj_u2q ?_
  refine mj_u2q ?_
  refine mj_u2q ?_
  refine mj_u2q ?_
  refine mj_u2q ?_
  exact ⟨rfl, rfl, rfl⟩

-- X2_shareOfEnded
def fnX2_shareOfEnded (F : Nat) (r41 : Nat → Int32) (x1 : Int32) : Option ((Int32)) := (fnX3_inverse F (r41 0)).bind (fun o1 => (fnX3_times F x1 o1).bind (fun o2 => some o2))
set_option maxRecDepth 100000 in
set_option maxHeartbeats 4000000 in
theorem mtX2_shareOfEnded {X : mj_XT} {l : Launch} {G : mj_GT} {ad : Nat → Nat} {Qn : Option Value → mj_IT → mj_LT → Prop} (hR : mj_R X l G mj_P0 mj_S0 98 ad 0 0 Qn) (F : Nat) (I : mj_IT) (L : mj_LT) (r41 : Nat → Int32) (x1 : Int32) (o : ((Int32))) (hf : fnX2_shareOfEnded F r41 x1 = some o) (hq : (fun ov => Qn (some (.int ov)) (mj_rows I [(41, r41)]) L) o) : mj_W X G RX2 "shareOfEnded" cX2_shareOfEnded 2 3 (some .int) mj_P0 mj_S0 98 ad 0 0 0 [(0, .ref 41), (1, .int x1)] [] (mj_rows I [(41, r41)]) L := by
  unfold fnX2_shareOfEnded at hf
  refine mj_iload_n 1 dX2_shareOfEnded_0 rfl ?_
  refine mj_aload_n 0 dX2_shareOfEnded_1 rfl ?_
  refine mj_getIv (v := (r41 0)) rfl fl_X2_72 rfl s0_41 a0_41 dX2_shareOfEnded_2 ?_
  obtain ⟨o1, ho1, hf⟩ := mj_bd hf
  refine mj_callSd (I2 := (mj_rows I [(41, r41)])) (L2 := L) (s1 := [.int o1, .int x1]) (st := [.int x1]) [.int (r41 0)] (cmX3_inverse X.2.1 G F (r41 0) _ _   o1 ho1) rfl rfl cw_X2_75 (by decide) rfl rfl (Nat.le_of_ble_eq_true rfl) ⟨Nat.zero_le _, Nat.zero_le _⟩ dX2_shareOfEnded_5 rfl ?_
  obtain ⟨o2, ho2, hf⟩ := mj_bd hf
  refine mj_callSd (I2 := (mj_rows I [(41, r41)])) (L2 := L) (s1 := [.int o2]) (st := []) [.int x1, .int o1] (cmX3_times X.2.1 G F x1 o1 _ _   o2 ho2) rfl rfl cw_X2_81 (by decide) rfl rfl (Nat.le_of_ble_eq_true rfl) ⟨Nat.zero_le _, Nat.zero_le _⟩ dX2_shareOfEnded_8 rfl ?_
  obtain rfl := Option.some.inj hf
  have hZ := hq
  exact mj_iret hR ⟨Nat.le_refl _, Nat.le_refl _⟩ rfl rfl dX2_shareOfEnded_11 hZ
set_option maxRecDepth 100000 in
set_option maxHeartbeats 4000000 in
theorem cmX2_shareOfEnded (l : Launch) (G : mj_GT) (F : Nat) (x1 : Int32) (I : mj_IT) (L : mj_LT) (r41 : Nat → Int32) (hr41 : I 41 = r41) (o : ((Int32))) (hf : fnX2_shareOfEnded F r41 x1 = some o) : mj_M l G yX2_shareOfEnded cX2_shareOfEnded 2 3 (some .int) 0 0 mj_P0 mj_S0 98 [.ref 41, .int x1] I L (mj_qd (some (.int o)) (mj_rows I [(41, r41)]) L) := by
  refine mj_in RX2 "shareOfEnded" [(0, .ref 41), (1, .int x1)] rfl rfl rfl (by decide) (Nat.le_of_ble_eq_true rfl) (fun X ad hR => ?_)
  refine mj_toI [(41, r41)] (by intro q hq; simp only [List.mem_cons, List.not_mem_nil, or_false] at hq; rcases hq with rfl <;> assumption) ?_
  refine mtX2_shareOfEnded hR F I L r41 x1 o hf ?_
  exact ⟨rfl, rfl, rfl⟩

-- X2_forEver
def fnX2_forEver (F : Nat) (r41 : Nat → Int32) : Option ((Int32)) := (fnX3_less F (1 : Int32) (r41 0)).bind (fun o1 => (fnX3_less F o1 (r41 1)).bind (fun o2 => some o2))
set_option maxRecDepth 100000 in
set_option maxHeartbeats 4000000 in
theorem mtX2_forEver {X : mj_XT} {l : Launch} {G : mj_GT} {ad : Nat → Nat} {Qn : Option Value → mj_IT → mj_LT → Prop} (hR : mj_R X l G mj_P0 mj_S0 98 ad 0 0 Qn) (F : Nat) (I : mj_IT) (L : mj_LT) (r41 : Nat → Int32) (o : ((Int32))) (hf : fnX2_forEver F r41 = some o) (hq : (fun ov => Qn (some (.int ov)) (mj_rows I [(41, r41)]) L) o) : mj_W X G RX2 "forEver" cX2_forEver 1 2 (some .int) mj_P0 mj_S0 98 ad 0 0 0 [(0, .ref 41)] [] (mj_rows I [(41, r41)]) L := by
  unfold fnX2_forEver at hf
  refine mj_iconst dX2_forEver_0 kc_iconst_1 ?_
  refine mj_aload_n 0 dX2_forEver_1 rfl ?_
  refine mj_getIv (v := (r41 0)) rfl fl_X2_72 rfl s0_41 a0_41 dX2_forEver_2 ?_
  obtain ⟨o1, ho1, hf⟩ := mj_bd hf
  refine mj_callSd (I2 := (mj_rows I [(41, r41)])) (L2 := L) (s1 := [.int o1]) (st := []) [.int (1 : Int32), .int (r41 0)] (cmX3_less X.2.1 G F (1 : Int32) (r41 0) _ _   o1 ho1) rfl rfl cw_X2_85 (by decide) rfl rfl (Nat.le_of_ble_eq_true rfl) ⟨Nat.zero_le _, Nat.zero_le _⟩ dX2_forEver_5 rfl ?_
  refine mj_aload_n 0 dX2_forEver_8 rfl ?_
  refine mj_getIv (v := (r41 1)) rfl fl_X2_88 rfl s0_41 a0_41 dX2_forEver_9 ?_
  obtain ⟨o2, ho2, hf⟩ := mj_bd hf
  refine mj_callSd (I2 := (mj_rows I [(41, r41)])) (L2 := L) (s1 := [.int o2]) (st := []) [.int o1, .int (r41 1)] (cmX3_less X.2.1 G F o1 (r41 1) _ _   o2 ho2) rfl rfl cw_X2_85 (by decide) rfl rfl (Nat.le_of_ble_eq_true rfl) ⟨Nat.zero_le _, Nat.zero_le _⟩ dX2_forEver_12 rfl ?_
  obtain rfl := Option.some.inj hf
  have hZ := hq
  exact mj_iret hR ⟨Nat.le_refl _, Nat.le_refl _⟩ rfl rfl dX2_forEver_15 hZ
set_option maxRecDepth 100000 in
set_option maxHeartbeats 4000000 in
theorem cmX2_forEver (l : Launch) (G : mj_GT) (F : Nat) (I : mj_IT) (L : mj_LT) (r41 : Nat → Int32) (hr41 : I 41 = r41) (o : ((Int32))) (hf : fnX2_forEver F r41 = some o) : mj_M l G yX2_forEver cX2_forEver 1 2 (some .int) 0 0 mj_P0 mj_S0 98 [.ref 41] I L (mj_qd (some (.int o)) (mj_rows I [(41, r41)]) L) := by
  refine mj_in RX2 "forEver" [(0, .ref 41)] rfl rfl rfl (by decide) (Nat.le_of_ble_eq_true rfl) (fun X ad hR => ?_)
  refine mj_toI [(41, r41)] (by intro q hq; simp only [List.mem_cons, List.not_mem_nil, or_false] at hq; rcases hq with rfl <;> assumption) ?_
  refine mtX2_forEver hR F I L r41 o hf ?_
  exact ⟨rfl, rfl, rfl⟩

-- X2_coupleTogether
def bdX2_coupleTogether_6 (F : Nat) (r32 : Nat → Int32) (r33 : Nat → Int32) (r34 : Nat → Int32) (r42 : Nat → Int32) (x2 : Int32) (x3 : Int32) (x4 : Int32) (x5 : Int32) (x6 : Int32) (x7 : Int32) : Option (((Int32) × (Int32)) ⊕ ((Int32))) := (if (r32 2) ≤ x7 then some (.inr x6) else (fnX4_isEnd F r32 r33 x7).bind (fun o2 => (if o2 = 0 then some (.inl (x6, (x7 + (1)))) else (if mj_ib x7 200 = true then (fnX1_get F (r34 x7.toNatClampNeg) x2).bind (fun o5 => (if o5 = x3 then (if mj_ib x7 200 = true then (fnX1_get F (r34 x7.toNatClampNeg) x4).bind (fun o8 => (if o8 = x5 then (if mj_ib x7 200 = true then (fnX3_plus F x6 (r42 x7.toNatClampNeg)).bind (fun o11 => some (.inl (o11, (x7 + (1))))) else none) else some (.inl (x6, (x7 + (1)))))) else none) else some (.inl (x6, (x7 + (1)))))) else none))))
def fnX2_coupleTogether (F : Nat) (r32 : Nat → Int32) (r33 : Nat → Int32) (r34 : Nat → Int32) (r42 : Nat → Int32) (x2 : Int32) (x3 : Int32) (x4 : Int32) (x5 : Int32) : Option ((Int32)) := (mj_it (mj_u2 (fun z0 z1 => bdX2_coupleTogether_6 F r32 r33 r34 r42 x2 x3 x4 x5 z0 z1)) F ((0 : Int32), (0 : Int32))).bind (fun x6_12 => some x6_12)
set_option maxRecDepth 100000 in
set_option maxHeartbeats 4000000 in
theorem lpX2_coupleTogether_6 {X : mj_XT} {l : Launch} {G : mj_GT} {ad : Nat → Nat} {Qn : Option Value → mj_IT → mj_LT → Prop} (hR : mj_R X l G mj_P0 mj_S0 98 ad 0 0 Qn) (F : Nat) (I : mj_IT) (L : mj_LT) (r32 : Nat → Int32) (r33 : Nat → Int32) (r34 : Nat → Int32) (r42 : Nat → Int32) (x2 : Int32) (x3 : Int32) (x4 : Int32) (x5 : Int32) : ∀ (n : Nat) (s : ((Int32) × (Int32))) (e : ((Int32))), mj_it (mj_u2 (fun z0 z1 => bdX2_coupleTogether_6 F r32 r33 r34 r42 x2 x3 x4 x5 z0 z1)) n s = some e → (fun x6 => mj_W X G RX2 "coupleTogether" cX2_coupleTogether 8 2 (some .int) mj_P0 mj_S0 98 ad 0 0 76 [(6, .int x6)] [] (mj_rows I [(32, r32), (33, r33), (34, r34), (42, r42)]) L) e → (mj_u2 (fun x6 x7 => mj_W X G RX2 "coupleTogether" cX2_coupleTogether 8 2 (some .int) mj_P0 mj_S0 98 ad 0 0 6 [(0, .ref 41), (1, .ref 32), (2, .int x2), (3, .int x3), (4, .int x4), (5, .int x5), (6, .int x6), (7, .int x7)] [] (mj_rows I [(32, r32), (33, r33), (34, r34), (42, r42)]) L)) s := by
  refine mj_loop (fun s o hf hc hx => ?_)
  obtain ⟨x6, x7⟩ := s
  replace hf := mj_u2e hf
  refine mj_u2q ?_
  unfold bdX2_coupleTogether_6 at hf
  refine mj_iload 7 dX2_coupleTogether_6 rfl ?_
  refine mj_aload_n 1 dX2_coupleTogether_8 rfl ?_
  refine mj_getIv (v := (r32 2)) rfl fl_X2_94 rfl s0_32 a0_32 dX2_coupleTogether_9 ?_
  refine mj_icmp_ge 76 dX2_coupleTogether_12 (by decide) (fun c1 => ?_) (fun c1 => ?_)
  · replace hf := mj_pos c1 hf
    refine mj_sub [6] [(6, .int x6)] rfl ?_
    obtain rfl := Option.some.inj hf
    have hZ := hx x6 rfl
    exact hZ
  · replace hf := mj_neg c1 hf
    refine mj_aload_n 1 dX2_coupleTogether_15 rfl ?_
    refine mj_iload 7 dX2_coupleTogether_16 rfl ?_
    obtain ⟨o2, ho2, hf⟩ := mj_bd hf
    refine mj_callVd (I2 := (mj_rows I [(32, r32), (33, r33), (34, r34), (42, r42)])) (L2 := L) (s1 := [.int o2]) (st := []) [.int x7] (cmX4_isEnd X.2.1 G F x7 _ _ r32 r33 rfl rfl o2 ho2) (mj_rr rfl) rfl cw_X2_139 s0_32 a0_32 (by decide) rfl rfl (Nat.le_of_ble_eq_true rfl) ⟨Nat.zero_le _, Nat.zero_le _⟩ dX2_coupleTogether_18 rfl ?_
    refine mj_if_eq 70 dX2_coupleTogether_21 (by decide) (fun c3 => ?_) (fun c3 => ?_)
    · replace hf := mj_pos c3 hf
      refine mj_iinc 7 [(7, .int (x7 + (1))), (0, .ref 41), (1, .ref 32), (2, .int x2), (3, .int x3), (4, .int x4), (5, .int x5), (6, .int x6)] dX2_coupleTogether_70 rfl (kz_1 _) (by decide) rfl ?_
      refine mj_goto 6 dX2_coupleTogether_73 (by decide) ?_
      refine mj_sub [1, 2, 3, 4, 5, 6, 7, 0] [(0, .ref 41), (1, .ref 32), (2, .int x2), (3, .int x3), (4, .int x4), (5, .int x5), (6, .int x6), (7, .int (x7 + (1)))] rfl ?_
      obtain rfl := Option.some.inj hf
      have hZ := hc (x6, (x7 + (1))) rfl
      replace hZ := mj_u2p hZ
      exact hZ
    · replace hf := mj_neg c3 hf
      refine mj_aload_n 1 dX2_coupleTogether_24 rfl ?_
      refine mj_getP p0_32_9 (by decide) fl_X2_146 rfl s0_32 a0_32 dX2_coupleTogether_25 ?_
      refine mj_iload 7 dX2_coupleTogether_28 rfl ?_
      obtain ⟨z4, hf⟩ := mj_ck hf
      refine mj_ialdv (x := r34) rfl s0_34 a0_34 z4 dX2_coupleTogether_30 ?_
      refine mj_iload_n 2 dX2_coupleTogether_31 rfl ?_
      obtain ⟨o5, ho5, hf⟩ := mj_bd hf
      refine mj_callSd (I2 := (mj_rows I [(32, r32), (33, r33), (34, r34), (42, r42)])) (L2 := L) (s1 := [.int o5]) (st := []) [.int (r34 x7.toNatClampNeg), .int x2] (cmX1_get X.2.1 G F (r34 x7.toNatClampNeg) x2 _ _   o5 ho5) rfl rfl cw_X2_149 (by decide) rfl rfl (Nat.le_of_ble_eq_true rfl) ⟨Nat.zero_le _, Nat.zero_le _⟩ dX2_coupleTogether_32 rfl ?_
      refine mj_iload_n 3 dX2_coupleTogether_35 rfl ?_
      refine mj_icmp_ne 70 dX2_coupleTogether_36 (by decide) (fun c6 => ?_) (fun c6 => ?_)
      · replace hf := mj_neg c6 hf
        refine mj_iinc 7 [(7, .int (x7 + (1))), (0, .ref 41), (1, .ref 32), (2, .int x2), (3, .int x3), (4, .int x4), (5, .int x5), (6, .int x6)] dX2_coupleTogether_70 rfl (kz_1 _) (by decide) rfl ?_
        refine mj_goto 6 dX2_coupleTogether_73 (by decide) ?_
        refine mj_sub [1, 2, 3, 4, 5, 6, 7, 0] [(0, .ref 41), (1, .ref 32), (2, .int x2), (3, .int x3), (4, .int x4), (5, .int x5), (6, .int x6), (7, .int (x7 + (1)))] rfl ?_
        obtain rfl := Option.some.inj hf
        have hZ := hc (x6, (x7 + (1))) rfl
        replace hZ := mj_u2p hZ
        exact hZ
      · replace hf := mj_pos c6 hf
        refine mj_aload_n 1 dX2_coupleTogether_39 rfl ?_
        refine mj_getP p0_32_9 (by decide) fl_X2_146 rfl s0_32 a0_32 dX2_coupleTogether_40 ?_
        refine mj_iload 7 dX2_coupleTogether_43 rfl ?_
        obtain ⟨z7, hf⟩ := mj_ck hf
        refine mj_ialdv (x := r34) rfl s0_34 a0_34 z7 dX2_coupleTogether_45 ?_
        refine mj_iload 4 dX2_coupleTogether_46 rfl ?_
        obtain ⟨o8, ho8, hf⟩ := mj_bd hf
        refine mj_callSd (I2 := (mj_rows I [(32, r32), (33, r33), (34, r34), (42, r42)])) (L2 := L) (s1 := [.int o8]) (st := []) [.int (r34 x7.toNatClampNeg), .int x4] (cmX1_get X.2.1 G F (r34 x7.toNatClampNeg) x4 _ _   o8 ho8) rfl rfl cw_X2_149 (by decide) rfl rfl (Nat.le_of_ble_eq_true rfl) ⟨Nat.zero_le _, Nat.zero_le _⟩ dX2_coupleTogether_48 rfl ?_
        refine mj_iload 5 dX2_coupleTogether_51 rfl ?_
        refine mj_icmp_ne 70 dX2_coupleTogether_53 (by decide) (fun c9 => ?_) (fun c9 => ?_)
        · replace hf := mj_neg c9 hf
          refine mj_iinc 7 [(7, .int (x7 + (1))), (0, .ref 41), (1, .ref 32), (2, .int x2), (3, .int x3), (4, .int x4), (5, .int x5), (6, .int x6)] dX2_coupleTogether_70 rfl (kz_1 _) (by decide) rfl ?_
          refine mj_goto 6 dX2_coupleTogether_73 (by decide) ?_
          refine mj_sub [1, 2, 3, 4, 5, 6, 7, 0] [(0, .ref 41), (1, .ref 32), (2, .int x2), (3, .int x3), (4, .int x4), (5, .int x5), (6, .int x6), (7, .int (x7 + (1)))] rfl ?_
          obtain rfl := Option.some.inj hf
          have hZ := hc (x6, (x7 + (1))) rfl
          replace hZ := mj_u2p hZ
          exact hZ
        · replace hf := mj_pos c9 hf
          refine mj_iload 6 dX2_coupleTogether_56 rfl ?_
          refine mj_aload_n 0 dX2_coupleTogether_58 rfl ?_
          refine mj_getP p0_41_3 (by decide) fl_X2_9 rfl s0_41 a0_41 dX2_coupleTogether_59 ?_
          refine mj_iload 7 dX2_coupleTogether_62 rfl ?_
          obtain ⟨z10, hf⟩ := mj_ck hf
          refine mj_ialdv (x := r42) rfl s0_42 a0_42 z10 dX2_coupleTogether_64 ?_
          obtain ⟨o11, ho11, hf⟩ := mj_bd hf
          refine mj_callSd (I2 := (mj_rows I [(32, r32), (33, r33), (34, r34), (42, r42)])) (L2 := L) (s1 := [.int o11]) (st := []) [.int x6, .int (r42 x7.toNatClampNeg)] (cmX3_plus X.2.1 G F x6 (r42 x7.toNatClampNeg) _ _   o11 ho11) rfl rfl cw_X2_110 (by decide) rfl rfl (Nat.le_of_ble_eq_true rfl) ⟨Nat.zero_le _, Nat.zero_le _⟩ dX2_coupleTogether_65 rfl ?_
          refine mj_istore [(6, .int o11), (0, .ref 41), (1, .ref 32), (2, .int x2), (3, .int x3), (4, .int x4), (5, .int x5), (7, .int x7)] dX2_coupleTogether_68 (by decide) rfl ?_
          refine mj_iinc 7 [(7, .int (x7 + (1))), (6, .int o11), (0, .ref 41), (1, .ref 32), (2, .int x2), (3, .int x3), (4, .int x4), (5, .int x5)] dX2_coupleTogether_70 rfl (kz_1 _) (by decide) rfl ?_
          refine mj_goto 6 dX2_coupleTogether_73 (by decide) ?_
          refine mj_sub [2, 3, 4, 5, 6, 7, 1, 0] [(0, .ref 41), (1, .ref 32), (2, .int x2), (3, .int x3), (4, .int x4), (5, .int x5), (6, .int o11), (7, .int (x7 + (1)))] rfl ?_
          obtain rfl := Option.some.inj hf
          have hZ := hc (o11, (x7 + (1))) rfl
          replace hZ := mj_u2p hZ
          exact hZ
set_option maxRecDepth 100000 in
set_option maxHeartbeats 4000000 in
theorem mtX2_coupleTogether {X : mj_XT} {l : Launch} {G : mj_GT} {ad : Nat → Nat} {Qn : Option Value → mj_IT → mj_LT → Prop} (hR : mj_R X l G mj_P0 mj_S0 98 ad 0 0 Qn) (F : Nat) (I : mj_IT) (L : mj_LT) (r32 : Nat → Int32) (r33 : Nat → Int32) (r34 : Nat → Int32) (r42 : Nat → Int32) (x2 : Int32) (x3 : Int32) (x4 : Int32) (x5 : Int32) (o : ((Int32))) (hf : fnX2_coupleTogether F r32 r33 r34 r42 x2 x3 x4 x5 = some o) (hq : (fun ov => Qn (some (.int ov)) (mj_rows I [(32, r32), (33, r33), (34, r34), (42, r42)]) L) o) : mj_W X G RX2 "coupleTogether" cX2_coupleTogether 8 2 (some .int) mj_P0 mj_S0 98 ad 0 0 0 [(0, .ref 41), (1, .ref 32), (2, .int x2), (3, .int x3), (4, .int x4), (5, .int x5)] [] (mj_rows I [(32, r32), (33, r33), (34, r34), (42, r42)]) L := by
  unfold fnX2_coupleTogether at hf
  refine mj_iconst dX2_coupleTogether_0 kc_iconst_0 ?_
  refine mj_istore [(6, .int (0 : Int32)), (0, .ref 41), (1, .ref 32), (2, .int x2), (3, .int x3), (4, .int x4), (5, .int x5)] dX2_coupleTogether_1 (by decide) rfl ?_
  refine mj_iconst dX2_coupleTogether_3 kc_iconst_0 ?_
  refine mj_istore [(7, .int (0 : Int32)), (6, .int (0 : Int32)), (0, .ref 41), (1, .ref 32), (2, .int x2), (3, .int x3), (4, .int x4), (5, .int x5)] dX2_coupleTogether_4 (by decide) rfl ?_
  refine mj_sub [2, 3, 4, 5, 6, 7, 1, 0] [(0, .ref 41), (1, .ref 32), (2, .int x2), (3, .int x3), (4, .int x4), (5, .int x5), (6, .int (0 : Int32)), (7, .int (0 : Int32))] rfl ?_
  obtain ⟨x6_12, ho12, hf⟩ := mj_bd hf
  refine lpX2_coupleTogether_6 hR F I L r32 r33 r34 r42 x2 x3 x4 x5 F ((0 : Int32), (0 : Int32)) x6_12 ho12 ?_
  refine ?_
  refine mj_iload 0 dX2_coupleTogether_76 rfl ?_
  obtain rfl := Option.some.inj hf
  have hZ := hq
  exact mj_iret hR ⟨Nat.le_refl _, Nat.le_refl _⟩ rfl rfl dX2_coupleTogether_78 hZ
set_option maxRecDepth 100000 in
set_option maxHeartbeats 4000000 in
theorem cmX2_coupleTogether (l : Launch) (G : mj_GT) (F : Nat) (x2 : Int32) (x3 : Int32) (x4 : Int32) (x5 : Int32) (I : mj_IT) (L : mj_LT) (r32 : Nat → Int32) (r33 : Nat → Int32) (r34 : Nat → Int32) (r42 : Nat → Int32) (hr32 : I 32 = r32) (hr33 : I 33 = r33) (hr34 : I 34 = r34) (hr42 : I 42 = r42) (o : ((Int32))) (hf : fnX2_coupleTogether F r32 r33 r34 r42 x2 x3 x4 x5 = some o) : mj_M l G yX2_coupleTogether cX2_coupleTogether 8 2 (some .int) 0 0 mj_P0 mj_S0 98 [.ref 41, .ref 32, .int x2, .int x3, .int x4, .int x5] I L (mj_qd (some (.int o)) (mj_rows I [(32, r32), (33, r33), (34, r34), (42, r42)]) L) := by
  refine mj_in RX2 "coupleTogether" [(0, .ref 41), (1, .ref 32), (2, .int x2), (3, .int x3), (4, .int x4), (5, .int x5)] rfl rfl rfl (by decide) (Nat.le_of_ble_eq_true rfl) (fun X ad hR => ?_)
  refine mj_toI [(32, r32), (33, r33), (34, r34), (42, r42)] (by intro q hq; simp only [List.mem_cons, List.not_mem_nil, or_false] at hq; rcases hq with rfl | rfl | rfl | rfl <;> assumption) ?_
  refine mtX2_coupleTogether hR F I L r32 r33 r34 r42 x2 x3 x4 x5 o hf ?_
  exact ⟨rfl, rfl, rfl⟩

-- X2_valuesTogether
def bdX2_valuesTogether_5 (F : Nat) (r32 : Nat → Int32) (r33 : Nat → Int32) (r34 : Nat → Int32) (r42 : Nat → Int32) (x2 : Int32) (x3 : Int32) (x4 : Int32) : Option (((Int32) × (Int32)) ⊕ ((Int32))) := (if (r32 2) ≤ x4 then some (.inr x3) else (fnX4_isEnd F r32 r33 x4).bind (fun o2 => (if o2 = 0 then some (.inl (x3, (x4 + (1)))) else (if mj_ib x4 200 = true then (fnX1_get F (r34 x4.toNatClampNeg) x2).bind (fun o5 => (if mj_ib x4 200 = true then (fnX3_times F o5 (r42 x4.toNatClampNeg)).bind (fun o7 => (fnX3_plus F x3 o7).bind (fun o8 => some (.inl (o8, (x4 + (1)))))) else none)) else none))))
def fnX2_valuesTogether (F : Nat) (r32 : Nat → Int32) (r33 : Nat → Int32) (r34 : Nat → Int32) (r42 : Nat → Int32) (x2 : Int32) : Option ((Int32)) := (mj_it (mj_u2 (fun z0 z1 => bdX2_valuesTogether_5 F r32 r33 r34 r42 x2 z0 z1)) F ((0 : Int32), (0 : Int32))).bind (fun x3_9 => some x3_9)
set_option maxRecDepth 100000 in
set_option maxHeartbeats 4000000 in
theorem lpX2_valuesTogether_5 {X : mj_XT} {l : Launch} {G : mj_GT} {ad : Nat → Nat} {Qn : Option Value → mj_IT → mj_LT → Prop} (hR : mj_R X l G mj_P0 mj_S0 98 ad 0 0 Qn) (F : Nat) (I : mj_IT) (L : mj_LT) (r32 : Nat → Int32) (r33 : Nat → Int32) (r34 : Nat → Int32) (r42 : Nat → Int32) (x2 : Int32) : ∀ (n : Nat) (s : ((Int32) × (Int32))) (e : ((Int32))), mj_it (mj_u2 (fun z0 z1 => bdX2_valuesTogether_5 F r32 r33 r34 r42 x2 z0 z1)) n s = some e → (fun x3 => mj_W X G RX2 "valuesTogether" cX2_valuesTogether 5 2 (some .int) mj_P0 mj_S0 98 ad 0 0 55 [(3, .int x3)] [] (mj_rows I [(32, r32), (33, r33), (34, r34), (42, r42)]) L) e → (mj_u2 (fun x3 x4 => mj_W X G RX2 "valuesTogether" cX2_valuesTogether 5 2 (some .int) mj_P0 mj_S0 98 ad 0 0 5 [(0, .ref 41), (1, .ref 32), (2, .int x2), (3, .int x3), (4, .int x4)] [] (mj_rows I [(32, r32), (33, r33), (34, r34), (42, r42)]) L)) s := by
  refine mj_loop (fun s o hf hc hx => ?_)
  obtain ⟨x3, x4⟩ := s
  replace hf := mj_u2e hf
  refine mj_u2q ?_
  unfold bdX2_valuesTogether_5 at hf
  refine mj_iload 4 dX2_valuesTogether_5 rfl ?_
  refine mj_aload_n 1 dX2_valuesTogether_7 rfl ?_
  refine mj_getIv (v := (r32 2)) rfl fl_X2_94 rfl s0_32 a0_32 dX2_valuesTogether_8 ?_
  refine mj_icmp_ge 55 dX2_valuesTogether_11 (by decide) (fun c1 => ?_) (fun c1 => ?_)
  · replace hf := mj_pos c1 hf
    refine mj_sub [3] [(3, .int x3)] rfl ?_
    obtain rfl := Option.some.inj hf
    have hZ := hx x3 rfl
    exact hZ
  · replace hf := mj_neg c1 hf
    refine mj_aload_n 1 dX2_valuesTogether_14 rfl ?_
    refine mj_iload 4 dX2_valuesTogether_15 rfl ?_
    obtain ⟨o2, ho2, hf⟩ := mj_bd hf
    refine mj_callVd (I2 := (mj_rows I [(32, r32), (33, r33), (34, r34), (42, r42)])) (L2 := L) (s1 := [.int o2]) (st := []) [.int x4] (cmX4_isEnd X.2.1 G F x4 _ _ r32 r33 rfl rfl o2 ho2) (mj_rr rfl) rfl cw_X2_139 s0_32 a0_32 (by decide) rfl rfl (Nat.le_of_ble_eq_true rfl) ⟨Nat.zero_le _, Nat.zero_le _⟩ dX2_valuesTogether_17 rfl ?_
    refine mj_if_eq 49 dX2_valuesTogether_20 (by decide) (fun c3 => ?_) (fun c3 => ?_)
    · replace hf := mj_pos c3 hf
      refine mj_iinc 4 [(4, .int (x4 + (1))), (0, .ref 41), (1, .ref 32), (2, .int x2), (3, .int x3)] dX2_valuesTogether_49 rfl (kz_1 _) (by decide) rfl ?_
      refine mj_goto 5 dX2_valuesTogether_52 (by decide) ?_
      refine mj_sub [1, 2, 3, 4, 0] [(0, .ref 41), (1, .ref 32), (2, .int x2), (3, .int x3), (4, .int (x4 + (1)))] rfl ?_
      obtain rfl := Option.some.inj hf
      have hZ := hc (x3, (x4 + (1))) rfl
      replace hZ := mj_u2p hZ
      exact hZ
    · replace hf := mj_neg c3 hf
      refine mj_iload_n 3 dX2_valuesTogether_23 rfl ?_
      refine mj_aload_n 1 dX2_valuesTogether_24 rfl ?_
      refine mj_getP p0_32_9 (by decide) fl_X2_146 rfl s0_32 a0_32 dX2_valuesTogether_25 ?_
      refine mj_iload 4 dX2_valuesTogether_28 rfl ?_
      obtain ⟨z4, hf⟩ := mj_ck hf
      refine mj_ialdv (x := r34) rfl s0_34 a0_34 z4 dX2_valuesTogether_30 ?_
      refine mj_iload_n 2 dX2_valuesTogether_31 rfl ?_
      obtain ⟨o5, ho5, hf⟩ := mj_bd hf
      refine mj_callSd (I2 := (mj_rows I [(32, r32), (33, r33), (34, r34), (42, r42)])) (L2 := L) (s1 := [.int o5, .int x3]) (st := [.int x3]) [.int (r34 x4.toNatClampNeg), .int x2] (cmX1_get X.2.1 G F (r34 x4.toNatClampNeg) x2 _ _   o5 ho5) rfl rfl cw_X2_149 (by decide) rfl rfl (Nat.le_of_ble_eq_true rfl) ⟨Nat.zero_le _, Nat.zero_le _⟩ dX2_valuesTogether_32 rfl ?_
      refine mj_aload_n 0 dX2_valuesTogether_35 rfl ?_
      refine mj_getP p0_41_3 (by decide) fl_X2_9 rfl s0_41 a0_41 dX2_valuesTogether_36 ?_
      refine mj_iload 4 dX2_valuesTogether_39 rfl ?_
      obtain ⟨z6, hf⟩ := mj_ck hf
      refine mj_ialdv (x := r42) rfl s0_42 a0_42 z6 dX2_valuesTogether_41 ?_
      obtain ⟨o7, ho7, hf⟩ := mj_bd hf
      refine mj_callSd (I2 := (mj_rows I [(32, r32), (33, r33), (34, r34), (42, r42)])) (L2 := L) (s1 := [.int o7, .int x3]) (st := [.int x3]) [.int o5, .int (r42 x4.toNatClampNeg)] (cmX3_times X.2.1 G F o5 (r42 x4.toNatClampNeg) _ _   o7 ho7) rfl rfl cw_X2_81 (by decide) rfl rfl (Nat.le_of_ble_eq_true rfl) ⟨Nat.zero_le _, Nat.zero_le _⟩ dX2_valuesTogether_42 rfl ?_
      obtain ⟨o8, ho8, hf⟩ := mj_bd hf
      refine mj_callSd (I2 := (mj_rows I [(32, r32), (33, r33), (34, r34), (42, r42)])) (L2 := L) (s1 := [.int o8]) (st := []) [.int x3, .int o7] (cmX3_plus X.2.1 G F x3 o7 _ _   o8 ho8) rfl rfl cw_X2_110 (by decide) rfl rfl (Nat.le_of_ble_eq_true rfl) ⟨Nat.zero_le _, Nat.zero_le _⟩ dX2_valuesTogether_45 rfl ?_
      refine mj_istore_n [(3, .int o8), (0, .ref 41), (1, .ref 32), (2, .int x2), (4, .int x4)] dX2_valuesTogether_48 rfl (by decide) rfl ?_
      refine mj_iinc 4 [(4, .int (x4 + (1))), (3, .int o8), (0, .ref 41), (1, .ref 32), (2, .int x2)] dX2_valuesTogether_49 rfl (kz_1 _) (by decide) rfl ?_
      refine mj_goto 5 dX2_valuesTogether_52 (by decide) ?_
      refine mj_sub [2, 3, 4, 1, 0] [(0, .ref 41), (1, .ref 32), (2, .int x2), (3, .int o8), (4, .int (x4 + (1)))] rfl ?_
      obtain rfl := Option.some.inj hf
      have hZ := hc (o8, (x4 + (1))) rfl
      replace hZ := mj_u2p hZ
      exact hZ
set_option maxRecDepth 100000 in
set_option maxHeartbeats 4000000 in
theorem mtX2_valuesTogether {X : mj_XT} {l : Launch} {G : mj_GT} {ad : Nat → Nat} {Qn : Option Value → mj_IT → mj_LT → Prop} (hR : mj_R X l G mj_P0 mj_S0 98 ad 0 0 Qn) (F : Nat) (I : mj_IT) (L : mj_LT) (r32 : Nat → Int32) (r33 : Nat → Int32) (r34 : Nat → Int32) (r42 : Nat → Int32) (x2 : Int32) (o : ((Int32))) (hf : fnX2_valuesTogether F r32 r33 r34 r42 x2 = some o) (hq : (fun ov => Qn (some (.int ov)) (mj_rows I [(32, r32), (33, r33), (34, r34), (42, r42)]) L) o) : mj_W X G RX2 "valuesTogether" cX2_valuesTogether 5 2 (some .int) mj_P0 mj_S0 98 ad 0 0 0 [(0, .ref 41), (1, .ref 32), (2, .int x2)] [] (mj_rows I [(32, r32), (33, r33), (34, r34), (42, r42)]) L := by
  unfold fnX2_valuesTogether at hf
  refine mj_iconst dX2_valuesTogether_0 kc_iconst_0 ?_
  refine mj_istore_n [(3, .int (0 : Int32)), (0, .ref 41), (1, .ref 32), (2, .int x2)] dX2_valuesTogether_1 rfl (by decide) rfl ?_
  refine mj_iconst dX2_valuesTogether_2 kc_iconst_0 ?_
  refine mj_istore [(4, .int (0 : Int32)), (3, .int (0 : Int32)), (0, .ref 41), (1, .ref 32), (2, .int x2)] dX2_valuesTogether_3 (by decide) rfl ?_
  refine mj_sub [2, 3, 4, 1, 0] [(0, .ref 41), (1, .ref 32), (2, .int x2), (3, .int (0 : Int32)), (4, .int (0 : Int32))] rfl ?_
  obtain ⟨x3_9, ho9, hf⟩ := mj_bd hf
  refine lpX2_valuesTogether_5 hR F I L r32 r33 r34 r42 x2 F ((0 : Int32), (0 : Int32)) x3_9 ho9 ?_
  refine ?_
  refine mj_iload_n 0 dX2_valuesTogether_55 rfl ?_
  obtain rfl := Option.some.inj hf
  have hZ := hq
  exact mj_iret hR ⟨Nat.le_refl _, Nat.le_refl _⟩ rfl rfl dX2_valuesTogether_56 hZ
set_option maxRecDepth 100000 in
set_option maxHeartbeats 4000000 in
theorem cmX2_valuesTogether (l : Launch) (G : mj_GT) (F : Nat) (x2 : Int32) (I : mj_IT) (L : mj_LT) (r32 : Nat → Int32) (r33 : Nat → Int32) (r34 : Nat → Int32) (r42 : Nat → Int32) (hr32 : I 32 = r32) (hr33 : I 33 = r33) (hr34 : I 34 = r34) (hr42 : I 42 = r42) (o : ((Int32))) (hf : fnX2_valuesTogether F r32 r33 r34 r42 x2 = some o) : mj_M l G yX2_valuesTogether cX2_valuesTogether 5 2 (some .int) 0 0 mj_P0 mj_S0 98 [.ref 41, .ref 32, .int x2] I L (mj_qd (some (.int o)) (mj_rows I [(32, r32), (33, r33), (34, r34), (42, r42)]) L) := by
  refine mj_in RX2 "valuesTogether" [(0, .ref 41), (1, .ref 32), (2, .int x2)] rfl rfl rfl (by decide) (Nat.le_of_ble_eq_true rfl) (fun X ad hR => ?_)
  refine mj_toI [(32, r32), (33, r33), (34, r34), (42, r42)] (by intro q hq; simp only [List.mem_cons, List.not_mem_nil, or_false] at hq; rcases hq with rfl | rfl | rfl | rfl <;> assumption) ?_
  refine mtX2_valuesTogether hR F I L r32 r33 r34 r42 x2 o hf ?_
  exact ⟨rfl, rfl, rfl⟩

-- J7_fill_53178_47
def bdJ7_fill_53178_47_5 (F : Nat) (x1 : Int32) (x3 : Int32) (x2 : Int32) (r47 : Nat → Int32) : Option (((Int32) × (Nat → Int32)) ⊕ ((Nat → Int32))) := (if x3 ≤ x2 then some (.inr r47) else (if mj_ib x2 100 = true then some (.inl ((x2 + (1)), (upd r47 x2.toNatClampNeg x1))) else none))
def fnJ7_fill_53178_47 (F : Nat) (r47 : Nat → Int32) (x1 : Int32) : Option ((Nat → Int32)) := (mj_it (mj_u2 (fun z0 z1 => bdJ7_fill_53178_47_5 F x1 (100 : Int32) z0 z1)) F ((0 : Int32), r47)).bind (fun r47_3 => some r47_3)
set_option maxRecDepth 100000 in
set_option maxHeartbeats 4000000 in
theorem lpJ7_fill_53178_47_5 {X : mj_XT} {l : Launch} {G : mj_GT} {ad : Nat → Nat} {Qn : Option Value → mj_IT → mj_LT → Prop} (hR : mj_R X l G mj_P0 mj_S0 98 ad 0 0 Qn) (F : Nat) (I : mj_IT) (L : mj_LT) (r47 : Nat → Int32) (x1 : Int32) (x3 : Int32) : ∀ (n : Nat) (s : ((Int32) × (Nat → Int32))) (e : ((Nat → Int32))), mj_it (mj_u2 (fun z0 z1 => bdJ7_fill_53178_47_5 F x1 x3 z0 z1)) n s = some e → (fun r47 => mj_W X G RJ7 "fill" cJ7_fill_53178 4 1 none mj_P0 mj_S0 98 ad 0 0 20 [] [] (mj_rows I [(47, r47)]) L) e → (mj_u2 (fun x2 r47 => mj_W X G RJ7 "fill" cJ7_fill_53178 4 1 none mj_P0 mj_S0 98 ad 0 0 5 [(0, .ref 47), (1, .int x1), (2, .int x2), (3, .int x3)] [] (mj_rows I [(47, r47)]) L)) s := by
  refine mj_loop (fun s o hf hc hx => ?_)
  obtain ⟨x2, r47⟩ := s
  replace hf := mj_u2e hf
  refine mj_u2q ?_
  unfold bdJ7_fill_53178_47_5 at hf
  refine mj_iload_n 2 dJ7_fill_53178_5 rfl ?_
  refine mj_iload_n 3 dJ7_fill_53178_6 rfl ?_
  refine mj_icmp_ge 20 dJ7_fill_53178_7 (by decide) (fun c1 => ?_) (fun c1 => ?_)
  · replace hf := mj_pos c1 hf
    refine mj_sub [] [] rfl ?_
    obtain rfl := Option.some.inj hf
    have hZ := hx r47 rfl
    exact hZ
  · replace hf := mj_neg c1 hf
    refine mj_aload_n 0 dJ7_fill_53178_10 rfl ?_
    refine mj_iload_n 2 dJ7_fill_53178_11 rfl ?_
    refine mj_iload_n 1 dJ7_fill_53178_12 rfl ?_
    obtain ⟨z2, hf⟩ := mj_ck hf
    refine mj_iastr [(47, (upd r47 x2.toNatClampNeg x1))] rfl s0_47 a0_47 z2 dJ7_fill_53178_13 ?_
    refine mj_iinc 2 [(2, .int (x2 + (1))), (0, .ref 47), (1, .int x1), (3, .int x3)] dJ7_fill_53178_14 rfl (kz_1 _) (by decide) rfl ?_
    refine mj_goto 5 dJ7_fill_53178_17 (by decide) ?_
    refine mj_sub [1, 2, 0, 3] [(0, .ref 47), (1, .int x1), (2, .int (x2 + (1))), (3, .int x3)] rfl ?_
    obtain rfl := Option.some.inj hf
    have hZ := hc ((x2 + (1)), (upd r47 x2.toNatClampNeg x1)) rfl
    replace hZ := mj_u2p hZ
    exact hZ
set_option maxRecDepth 100000 in
set_option maxHeartbeats 4000000 in
theorem mtJ7_fill_53178_47 {X : mj_XT} {l : Launch} {G : mj_GT} {ad : Nat → Nat} {Qn : Option Value → mj_IT → mj_LT → Prop} (hR : mj_R X l G mj_P0 mj_S0 98 ad 0 0 Qn) (F : Nat) (I : mj_IT) (L : mj_LT) (r47 : Nat → Int32) (x1 : Int32) (o : ((Nat → Int32))) (hf : fnJ7_fill_53178_47 F r47 x1 = some o) (hq : (fun r47 => Qn none (mj_rows I [(47, r47)]) L) o) : mj_W X G RJ7 "fill" cJ7_fill_53178 4 1 none mj_P0 mj_S0 98 ad 0 0 0 [(0, .ref 47), (1, .int x1)] [] (mj_rows I [(47, r47)]) L := by
  unfold fnJ7_fill_53178_47 at hf
  refine mj_iconst dJ7_fill_53178_0 kc_iconst_0 ?_
  refine mj_istore_n [(2, .int (0 : Int32)), (0, .ref 47), (1, .int x1)] dJ7_fill_53178_1 rfl (by decide) rfl ?_
  refine mj_aload_n 1 dJ7_fill_53178_2 rfl ?_
  refine mj_alen (v := 100) s0_47 (by decide) a0_47 (by decide +kernel) dJ7_fill_53178_3 ?_
  refine mj_istore_n [(3, .int (100 : Int32)), (2, .int (0 : Int32)), (0, .ref 47), (1, .int x1)] dJ7_fill_53178_4 rfl (by decide) rfl ?_
  refine mj_sub [2, 3, 1, 0] [(0, .ref 47), (1, .int x1), (2, .int (0 : Int32)), (3, .int (100 : Int32))] rfl ?_
  obtain ⟨r47_3, ho3, hf⟩ := mj_bd hf
  refine lpJ7_fill_53178_47_5 hR F I L r47 x1 (100 : Int32) F ((0 : Int32), r47) r47_3 ho3 ?_
  refine ?_
  obtain rfl := Option.some.inj hf
  have hZ := hq
  exact mj_vret hR ⟨Nat.le_refl _, Nat.le_refl _⟩ rfl dJ7_fill_53178_20 hZ
set_option maxRecDepth 100000 in
set_option maxHeartbeats 4000000 in
theorem cmJ7_fill_53178_47 (l : Launch) (G : mj_GT) (F : Nat) (x1 : Int32) (I : mj_IT) (L : mj_LT) (r47 : Nat → Int32) (hr47 : I 47 = r47) (o : ((Nat → Int32))) (hf : fnJ7_fill_53178_47 F r47 x1 = some o) : mj_M l G yJ7_fill_53178 cJ7_fill_53178 4 1 none 0 0 mj_P0 mj_S0 98 [.ref 47, .int x1] I L (mj_qd none (mj_rows I [(47, o)]) L) := by
  refine mj_in RJ7 "fill" [(0, .ref 47), (1, .int x1)] rfl rfl rfl (by decide) (Nat.le_of_ble_eq_true rfl) (fun X ad hR => ?_)
  refine mj_toI [(47, r47)] (by intro q hq; simp only [List.mem_cons, List.not_mem_nil, or_false] at hq; rcases hq with rfl <;> assumption) ?_
  refine mtJ7_fill_53178_47 hR F I L r47 x1 o hf ?_
  exact ⟨rfl, rfl, rfl⟩

