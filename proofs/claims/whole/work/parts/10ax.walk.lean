-- X10_undo
def fnX10_undo (F : Nat) (r1 : Nat → Int32) (r21 : Nat → Int32) (r29 : Nat → Int32) (r30 : Nat → Int32) (r31 : Nat → Int32) (r32 : Nat → Int32) : Option ((Int32) × (Nat → Int32) × (Nat → Int32) × (Nat → Int32) × (Nat → Int32)) := (if (r29 0) = 0 then some ((-1 : Int32), r1, r21, r29, r32) else (fnX0_latestWhere F r29 r30).bind (fun o2 => (fnX0_latestWas F r29 r31).bind (fun o3 => (fnX0_drop F r29).bind (fun o4 => (if (6 : Int32) ≤ o2 then (if (40 : Int32) ≤ (o2 - (6 : Int32)) then (fnX4_forget F r32).bind (fun o7 => some ((o4 0), r1, r21, o4, o7)) else (if mj_ib (o2 - (6 : Int32)) 40 = true then (fnX4_forget F r32).bind (fun o9 => some ((o4 0), r1, (upd r21 ((o2 - (6 : Int32)).toNatClampNeg) o3), o4, o9)) else none)) else (fnX1_put F (r1 3) o2 o3).bind (fun o10 => (fnX4_forget F r32).bind (fun o11 => some ((o4 0), (upd r1 3 o10), r21, o4, o11))))))))
set_option maxRecDepth 100000 in
set_option maxHeartbeats 4000000 in
theorem mtX10_undo {X : mj_XT} {l : Launch} {G : mj_GT} {ad : Nat → Nat} {Qn : Option Value → mj_IT → mj_LT → Prop} (hR : mj_R X l G mj_P0 mj_S0 98 ad 0 0 Qn) (F : Nat) (I : mj_IT) (L : mj_LT) (r1 : Nat → Int32) (r21 : Nat → Int32) (r29 : Nat → Int32) (r30 : Nat → Int32) (r31 : Nat → Int32) (r32 : Nat → Int32) (o : ((Int32) × (Nat → Int32) × (Nat → Int32) × (Nat → Int32) × (Nat → Int32))) (hf : fnX10_undo F r1 r21 r29 r30 r31 r32 = some o) (hq : (mj_u2 (fun ov => (mj_u2 (fun r1 => (mj_u2 (fun r21 => (mj_u2 (fun r29 r32 => Qn (some (.int ov)) (mj_rows I [(1, r1), (21, r21), (29, r29), (30, r30), (31, r31), (32, r32)]) L)))))))) o) : mj_W X G RX10 "undo" cX10_undo 3 3 (some .int) mj_P0 mj_S0 98 ad 0 0 0 [(0, .ref 1)] [] (mj_rows I [(1, r1), (21, r21), (29, r29), (30, r30), (31, r31), (32, r32)]) L := by
  unfold fnX10_undo at hf
  refine mj_aload_n 0 dX10_undo_0 rfl ?_
  refine mj_getP p0_1_4 (by decide) fl_X10_30 rfl s0_1 a0_1 dX10_undo_1 ?_
  refine mj_getIv (v := (r29 0)) rfl fl_X10_135 rfl s0_29 a0_29 dX10_undo_4 ?_
  refine mj_if_ne 12 dX10_undo_7 (by decide) (fun c1 => ?_) (fun c1 => ?_)
  · replace hf := mj_neg c1 hf
    refine mj_aload_n 0 dX10_undo_12 rfl ?_
    refine mj_getP p0_1_4 (by decide) fl_X10_30 rfl s0_1 a0_1 dX10_undo_13 ?_
    obtain ⟨o2, ho2, hf⟩ := mj_bd hf
    refine mj_callVd (I2 := (mj_rows I [(1, r1), (21, r21), (29, r29), (30, r30), (31, r31), (32, r32)])) (L2 := L) (s1 := [.int o2]) (st := []) [] (cmX0_latestWhere X.2.1 G F  _ _ r29 r30 rfl rfl o2 ho2) (mj_rq rfl rfl) rfl cw_X10_136 s0_29 a0_29 (by decide) rfl rfl (Nat.le_of_ble_eq_true rfl) ⟨Nat.zero_le _, Nat.zero_le _⟩ dX10_undo_16 rfl ?_
    refine mj_istore_n [(1, .int o2), (0, .ref 1)] dX10_undo_19 rfl (by decide) rfl ?_
    refine mj_aload_n 1 dX10_undo_20 rfl ?_
    refine mj_getP p0_1_4 (by decide) fl_X10_30 rfl s0_1 a0_1 dX10_undo_21 ?_
    obtain ⟨o3, ho3, hf⟩ := mj_bd hf
    refine mj_callVd (I2 := (mj_rows I [(1, r1), (21, r21), (29, r29), (30, r30), (31, r31), (32, r32)])) (L2 := L) (s1 := [.int o3]) (st := []) [] (cmX0_latestWas X.2.1 G F  _ _ r29 r31 rfl rfl o3 ho3) (mj_rq rfl rfl) rfl cw_X10_139 s0_29 a0_29 (by decide) rfl rfl (Nat.le_of_ble_eq_true rfl) ⟨Nat.zero_le _, Nat.zero_le _⟩ dX10_undo_24 rfl ?_
    refine mj_istore_n [(2, .int o3), (1, .int o2), (0, .ref 1)] dX10_undo_27 rfl (by decide) rfl ?_
    refine mj_aload_n 2 dX10_undo_28 rfl ?_
    refine mj_getP p0_1_4 (by decide) fl_X10_30 rfl s0_1 a0_1 dX10_undo_29 ?_
    obtain ⟨o4, ho4, hf⟩ := mj_bd hf
    refine mj_callVd (I2 := (mj_rows I [(1, r1), (21, r21), (29, o4), (30, r30), (31, r31), (32, r32)])) (L2 := L) (s1 := []) (st := []) [] (cmX0_drop X.2.1 G F  _ _ r29 rfl o4 ho4) (mj_rq rfl rfl) rfl cw_X10_142 s0_29 a0_29 (by decide) rfl rfl (Nat.le_of_ble_eq_true rfl) ⟨Nat.zero_le _, Nat.zero_le _⟩ dX10_undo_32 rfl ?_
    refine mj_iload_n 1 dX10_undo_35 rfl ?_
    refine mj_bipush dX10_undo_36 kc_bipush_6 ?_
    refine mj_icmp_ge 57 dX10_undo_38 (by decide) (fun c5 => ?_) (fun c5 => ?_)
    · replace hf := mj_pos c5 hf
      refine mj_iload_n 1 dX10_undo_57 rfl ?_
      refine mj_bipush dX10_undo_58 kc_bipush_6 ?_
      refine mj_isub dX10_undo_60 ?_
      refine mj_bipush dX10_undo_61 kc_bipush_40 ?_
      refine mj_icmp_ge 79 dX10_undo_63 (by decide) (fun c6 => ?_) (fun c6 => ?_)
      · replace hf := mj_pos c6 hf
        refine mj_aload_n 2 dX10_undo_79 rfl ?_
        refine mj_getP p0_1_5 (by decide) fl_X10_37 rfl s0_1 a0_1 dX10_undo_80 ?_
        obtain ⟨o7, ho7, hf⟩ := mj_bd hf
        refine mj_callVd (I2 := (mj_rows I [(1, r1), (21, r21), (29, o4), (30, r30), (31, r31), (32, o7)])) (L2 := L) (s1 := []) (st := []) [] (cmX4_forget X.2.1 G F  _ _ r32 rfl o7 ho7) (mj_rq rfl rfl) rfl cw_X10_101 s0_32 a0_32 (by decide) rfl rfl (Nat.le_of_ble_eq_true rfl) ⟨Nat.zero_le _, Nat.zero_le _⟩ dX10_undo_83 rfl ?_
        refine mj_aload_n 2 dX10_undo_86 rfl ?_
        refine mj_getP p0_1_4 (by decide) fl_X10_30 rfl s0_1 a0_1 dX10_undo_87 ?_
        refine mj_getIv (v := (o4 0)) rfl fl_X10_135 rfl s0_29 a0_29 dX10_undo_90 ?_
        obtain rfl := Option.some.inj hf
        have hZ := hq
        replace hZ := mj_u2p hZ
        replace hZ := mj_u2p hZ
        replace hZ := mj_u2p hZ
        replace hZ := mj_u2p hZ
        exact mj_iret hR ⟨Nat.le_refl _, Nat.le_refl _⟩ rfl rfl dX10_undo_93 hZ
      · replace hf := mj_neg c6 hf
        refine mj_aload_n 2 dX10_undo_66 rfl ?_
        refine mj_getP p0_1_2 (by decide) fl_X10_23 rfl s0_1 a0_1 dX10_undo_67 ?_
        refine mj_getP p0_18_3 (by decide) fl_X10_132 rfl s0_18 a0_18 dX10_undo_70 ?_
        refine mj_iload_n 1 dX10_undo_73 rfl ?_
        refine mj_bipush dX10_undo_74 kc_bipush_6 ?_
        refine mj_isub dX10_undo_76 ?_
        refine mj_iload_n 0 dX10_undo_77 rfl ?_
        obtain ⟨z8, hf⟩ := mj_ck hf
        refine mj_iastr [(1, r1), (21, (upd r21 ((o2 - (6 : Int32)).toNatClampNeg) o3)), (29, o4), (30, r30), (31, r31), (32, r32)] rfl s0_21 a0_21 z8 dX10_undo_78 ?_
        refine mj_aload_n 2 dX10_undo_79 rfl ?_
        refine mj_getP p0_1_5 (by decide) fl_X10_37 rfl s0_1 a0_1 dX10_undo_80 ?_
        obtain ⟨o9, ho9, hf⟩ := mj_bd hf
        refine mj_callVd (I2 := (mj_rows I [(1, r1), (21, (upd r21 ((o2 - (6 : Int32)).toNatClampNeg) o3)), (29, o4), (30, r30), (31, r31), (32, o9)])) (L2 := L) (s1 := []) (st := []) [] (cmX4_forget X.2.1 G F  _ _ r32 rfl o9 ho9) (mj_rq rfl rfl) rfl cw_X10_101 s0_32 a0_32 (by decide) rfl rfl (Nat.le_of_ble_eq_true rfl) ⟨Nat.zero_le _, Nat.zero_le _⟩ dX10_undo_83 rfl ?_
        refine mj_aload_n 2 dX10_undo_86 rfl ?_
        refine mj_getP p0_1_4 (by decide) fl_X10_30 rfl s0_1 a0_1 dX10_undo_87 ?_
        refine mj_getIv (v := (o4 0)) rfl fl_X10_135 rfl s0_29 a0_29 dX10_undo_90 ?_
        obtain rfl := Option.some.inj hf
        have hZ := hq
        replace hZ := mj_u2p hZ
        replace hZ := mj_u2p hZ
        replace hZ := mj_u2p hZ
        replace hZ := mj_u2p hZ
        exact mj_iret hR ⟨Nat.le_refl _, Nat.le_refl _⟩ rfl rfl dX10_undo_93 hZ
    · replace hf := mj_neg c5 hf
      refine mj_aload_n 2 dX10_undo_41 rfl ?_
      refine mj_aload_n 2 dX10_undo_42 rfl ?_
      refine mj_getIv (v := (r1 3)) rfl fl_X10_95 rfl s0_1 a0_1 dX10_undo_43 ?_
      refine mj_iload_n 1 dX10_undo_46 rfl ?_
      refine mj_iload_n 0 dX10_undo_47 rfl ?_
      obtain ⟨o10, ho10, hf⟩ := mj_bd hf
      refine mj_callSd (I2 := (mj_rows I [(1, r1), (21, r21), (29, o4), (30, r30), (31, r31), (32, r32)])) (L2 := L) (s1 := [.int o10, .ref 1]) (st := [.ref 1]) [.int (r1 3), .int o2, .int o3] (cmX1_put X.2.1 G F (r1 3) o2 o3 _ _   o10 ho10) rfl rfl cw_X10_120 (by decide) rfl rfl (Nat.le_of_ble_eq_true rfl) ⟨Nat.zero_le _, Nat.zero_le _⟩ dX10_undo_48 rfl ?_
      refine mj_putIr (ci := 8) (j := 3) [(1, (upd r1 3 o10)), (21, r21), (29, o4), (30, r30), (31, r31), (32, r32)] rfl ⟨rfl, rfl⟩ fl_X10_95 rfl rfl s0_1 a0_1 dX10_undo_51 ?_
      refine mj_goto 79 dX10_undo_54 (by decide) ?_
      refine mj_aload_n 2 dX10_undo_79 rfl ?_
      refine mj_getP p0_1_5 (by decide) fl_X10_37 rfl s0_1 a0_1 dX10_undo_80 ?_
      obtain ⟨o11, ho11, hf⟩ := mj_bd hf
      refine mj_callVd (I2 := (mj_rows I [(1, (upd r1 3 o10)), (21, r21), (29, o4), (30, r30), (31, r31), (32, o11)])) (L2 := L) (s1 := []) (st := []) [] (cmX4_forget X.2.1 G F  _ _ r32 rfl o11 ho11) (mj_rq rfl rfl) rfl cw_X10_101 s0_32 a0_32 (by decide) rfl rfl (Nat.le_of_ble_eq_true rfl) ⟨Nat.zero_le _, Nat.zero_le _⟩ dX10_undo_83 rfl ?_
      refine mj_aload_n 2 dX10_undo_86 rfl ?_
      refine mj_getP p0_1_4 (by decide) fl_X10_30 rfl s0_1 a0_1 dX10_undo_87 ?_
      refine mj_getIv (v := (o4 0)) rfl fl_X10_135 rfl s0_29 a0_29 dX10_undo_90 ?_
      obtain rfl := Option.some.inj hf
      have hZ := hq
      replace hZ := mj_u2p hZ
      replace hZ := mj_u2p hZ
      replace hZ := mj_u2p hZ
      replace hZ := mj_u2p hZ
      exact mj_iret hR ⟨Nat.le_refl _, Nat.le_refl _⟩ rfl rfl dX10_undo_93 hZ
  · replace hf := mj_pos c1 hf
    refine mj_iconst dX10_undo_10 kc_iconst_m1 ?_
    obtain rfl := Option.some.inj hf
    have hZ := hq
    replace hZ := mj_u2p hZ
    replace hZ := mj_u2p hZ
    replace hZ := mj_u2p hZ
    replace hZ := mj_u2p hZ
    exact mj_iret hR ⟨Nat.le_refl _, Nat.le_refl _⟩ rfl rfl dX10_undo_11 hZ
set_option maxRecDepth 100000 in
set_option maxHeartbeats 4000000 in
theorem cmX10_undo (l : Launch) (G : mj_GT) (F : Nat) (I : mj_IT) (L : mj_LT) (r1 : Nat → Int32) (r21 : Nat → Int32) (r29 : Nat → Int32) (r30 : Nat → Int32) (r31 : Nat → Int32) (r32 : Nat → Int32) (hr1 : I 1 = r1) (hr21 : I 21 = r21) (hr29 : I 29 = r29) (hr30 : I 30 = r30) (hr31 : I 31 = r31) (hr32 : I 32 = r32) (o : ((Int32) × (Nat → Int32) × (Nat → Int32) × (Nat → Int32) × (Nat → Int32))) (hf : fnX10_undo F r1 r21 r29 r30 r31 r32 = some o) : mj_M l G yX10_undo cX10_undo 3 3 (some .int) 0 0 mj_P0 mj_S0 98 [.ref 1] I L (mj_qd (some (.int o.1)) (mj_rows I [(1, o.2.1), (21, o.2.2.1), (29, o.2.2.2.1), (30, r30), (31, r31), (32, o.2.2.2.2)]) L) := by
  refine mj_in RX10 "undo" [(0, .ref 1)] rfl rfl rfl (by decide) (Nat.le_of_ble_eq_true rfl) (fun X ad hR => ?_)
  refine mj_toI [(1, r1), (21, r21), (29, r29), (30, r30), (31, r31), (32, r32)] (by intro q hq; simp only [List.mem_cons, List.not_mem_nil, or_false] at hq; rcases hq with rfl | rfl | rfl | rfl | rfl | rfl <;> assumption) ?_
  refine mtX10_undo hR F I L r1 r21 r29 r30 r31 r32 o hf ?_
  obtain ⟨w0, w1, w2, w3, w4⟩ := o
  refine mj_u2q ?_
  refine mj_u2q ?_
  refine mj_u2q ?_
  refine mj_u2q ?_
  exact ⟨rfl, rfl, rfl⟩

