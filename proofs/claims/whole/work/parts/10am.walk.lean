-- X11_fault
def fnX11_fault (F : Nat) (r71 : Nat → Int32) : Option ((Int32) × (Nat → Int32)) := some ((r71 16), (upd r71 0 (0 : Int32)))
set_option maxRecDepth 100000 in
set_option maxHeartbeats 4000000 in
theorem mtX11_fault {X : mj_XT} {l : Launch} {G : mj_GT} {ad : Nat → Nat} {Qn : Option Value → mj_IT → mj_LT → Prop} (hR : mj_R X l G mj_P0 mj_S0 98 ad 0 0 Qn) (F : Nat) (I : mj_IT) (L : mj_LT) (r71 : Nat → Int32) (o : ((Int32) × (Nat → Int32))) (hf : fnX11_fault F r71 = some o) (hq : (mj_u2 (fun ov r71 => Qn (some (.int ov)) (mj_rows I [(71, r71)]) L)) o) : mj_W X G RX11 "fault" cX11_fault 1 1 (some .int) mj_P0 mj_S0 98 ad 0 0 0 [(0, .ref 71)] [] (mj_rows I [(71, r71)]) L := by
  unfold fnX11_fault at hf
  refine mj_aload_n 0 dX11_fault_0 rfl ?_
  refine mj_iconst dX11_fault_1 kc_iconst_0 ?_
  refine mj_putIr (ci := 9) (j := 0) [(71, (upd r71 0 (0 : Int32)))] rfl ⟨rfl, rfl⟩ fl_X11_1 rfl rfl s0_71 a0_71 dX11_fault_2 ?_
  refine mj_aload_n 0 dX11_fault_5 rfl ?_
  refine mj_getIv (v := (r71 16)) rfl fl_X11_165 rfl s0_71 a0_71 dX11_fault_6 ?_
  obtain rfl := Option.some.inj hf
  have hZ := hq
  replace hZ := mj_u2p hZ
  exact mj_iret hR ⟨Nat.le_refl _, Nat.le_refl _⟩ rfl rfl dX11_fault_9 hZ
set_option maxRecDepth 100000 in
set_option maxHeartbeats 4000000 in
theorem cmX11_fault (l : Launch) (G : mj_GT) (F : Nat) (I : mj_IT) (L : mj_LT) (r71 : Nat → Int32) (hr71 : I 71 = r71) (o : ((Int32) × (Nat → Int32))) (hf : fnX11_fault F r71 = some o) : mj_M l G yX11_fault cX11_fault 1 1 (some .int) 0 0 mj_P0 mj_S0 98 [.ref 71] I L (mj_qd (some (.int o.1)) (mj_rows I [(71, o.2)]) L) := by
  refine mj_in RX11 "fault" [(0, .ref 71)] rfl rfl rfl (by decide) (Nat.le_of_ble_eq_true rfl) (fun X ad hR => ?_)
  refine mj_toI [(71, r71)] (by intro q hq; simp only [List.mem_cons, List.not_mem_nil, or_false] at hq; rcases hq with rfl <;> assumption) ?_
  refine mtX11_fault hR F I L r71 o hf ?_
  obtain ⟨w0, w1⟩ := o
  refine mj_u2q ?_
  exact ⟨rfl, rfl, rfl⟩

-- X11_changes
def bdX11_changes_11 (F : Nat) (x1 : Int32) (x2 : Int32) (x3 : Int32) (r78 : Nat → Int32) (r79 : Nat → Int32) : Option (((Int32) × (Nat → Int32) × (Nat → Int32)) ⊕ ((Nat → Int32) × (Nat → Int32))) := (if (12 : Int32) ≤ x3 then some (.inr (r78, r79)) else (if mj_ib x3 13 = true then (if mj_ib (x3 - (1 : Int32)) 13 = true then (if mj_ib x3 13 = true then (if mj_ib (x3 - (1 : Int32)) 13 = true then some (.inl ((x3 + (1)), (upd r78 ((x3 - (1 : Int32)).toNatClampNeg) (r78 x3.toNatClampNeg)), (upd r79 ((x3 - (1 : Int32)).toNatClampNeg) (r79 x3.toNatClampNeg)))) else none) else none) else none) else none))
def jnX11_changes_61 (F : Nat) (x1 : Int32) (x2 : Int32) (r71 : Nat → Int32) (r78 : Nat → Int32) (r79 : Nat → Int32) : Option ((Int32) × (Nat → Int32) × (Nat → Int32) × (Nat → Int32)) := (if mj_ib (r71 17) 13 = true then (if mj_ib (r71 17) 13 = true then (fnX11_isOther F (upd r71 17 ((r71 17) + (1 : Int32)))).bind (fun o8 => some (x2, o8, (upd r78 ((r71 17).toNatClampNeg) x1), (upd r79 ((r71 17).toNatClampNeg) x2))) else none) else none)
def fnX11_changes (F : Nat) (r71 : Nat → Int32) (r78 : Nat → Int32) (r79 : Nat → Int32) (x1 : Int32) (x2 : Int32) : Option ((Int32) × (Nat → Int32) × (Nat → Int32) × (Nat → Int32)) := (if (r71 17) = (12 : Int32) then (mj_it (mj_u2 (fun z0 => (mj_u2 (fun z1 z2 => bdX11_changes_11 F x1 x2 z0 z1 z2)))) F ((1 : Int32), r78, r79)).bind (mj_u2 (fun r78_10 r79_10 => jnX11_changes_61 F x1 x2 (upd r71 17 ((r71 17) - (1 : Int32))) r78_10 r79_10)) else jnX11_changes_61 F x1 x2 r71 r78 r79)
set_option maxRecDepth 100000 in
set_option maxHeartbeats 4000000 in
theorem lpX11_changes_11 {X : mj_XT} {l : Launch} {G : mj_GT} {ad : Nat → Nat} {Qn : Option Value → mj_IT → mj_LT → Prop} (hR : mj_R X l G mj_P0 mj_S0 98 ad 0 0 Qn) (F : Nat) (I : mj_IT) (L : mj_LT) (r71 : Nat → Int32) (r78 : Nat → Int32) (r79 : Nat → Int32) (x1 : Int32) (x2 : Int32) : ∀ (n : Nat) (s : ((Int32) × (Nat → Int32) × (Nat → Int32))) (e : ((Nat → Int32) × (Nat → Int32))), mj_it (mj_u2 (fun z0 => (mj_u2 (fun z1 z2 => bdX11_changes_11 F x1 x2 z0 z1 z2)))) n s = some e → (mj_u2 (fun r78 r79 => mj_W X G RX11 "changes" cX11_changes 4 2 (some .int) mj_P0 mj_S0 98 ad 0 0 51 [(0, .ref 71), (1, .int x1), (2, .int x2)] [] (mj_rows I [(71, r71), (78, r78), (79, r79)]) L)) e → (mj_u2 (fun x3 => (mj_u2 (fun r78 r79 => mj_W X G RX11 "changes" cX11_changes 4 2 (some .int) mj_P0 mj_S0 98 ad 0 0 11 [(0, .ref 71), (1, .int x1), (2, .int x2), (3, .int x3)] [] (mj_rows I [(71, r71), (78, r78), (79, r79)]) L)))) s := by
  refine mj_loop (fun s o hf hc hx => ?_)
  obtain ⟨x3, r78, r79⟩ := s
  replace hf := mj_u2e hf
  refine mj_u2q ?_
  replace hf := mj_u2e hf
  refine mj_u2q ?_
  unfold bdX11_changes_11 at hf
  refine mj_iload_n 3 dX11_changes_11 rfl ?_
  refine mj_bipush dX11_changes_12 kc_bipush_12 ?_
  refine mj_icmp_ge 51 dX11_changes_14 (by decide) (fun c1 => ?_) (fun c1 => ?_)
  · replace hf := mj_pos c1 hf
    refine mj_sub [0, 1, 2] [(0, .ref 71), (1, .int x1), (2, .int x2)] rfl ?_
    obtain rfl := Option.some.inj hf
    have hZ := hx (r78, r79) rfl
    replace hZ := mj_u2p hZ
    exact hZ
  · replace hf := mj_neg c1 hf
    refine mj_aload_n 0 dX11_changes_17 rfl ?_
    refine mj_getP p0_71_18 (by decide) fl_X11_187 rfl s0_71 a0_71 dX11_changes_18 ?_
    refine mj_iload_n 3 dX11_changes_21 rfl ?_
    refine mj_iconst dX11_changes_22 kc_iconst_1 ?_
    refine mj_isub dX11_changes_23 ?_
    refine mj_aload_n 0 dX11_changes_24 rfl ?_
    refine mj_getP p0_71_18 (by decide) fl_X11_187 rfl s0_71 a0_71 dX11_changes_25 ?_
    refine mj_iload_n 3 dX11_changes_28 rfl ?_
    obtain ⟨z2, hf⟩ := mj_ck hf
    refine mj_ialdv (x := r78) rfl s0_78 a0_78 z2 dX11_changes_29 ?_
    obtain ⟨z3, hf⟩ := mj_ck hf
    refine mj_iastr [(71, r71), (78, (upd r78 ((x3 - (1 : Int32)).toNatClampNeg) (r78 x3.toNatClampNeg))), (79, r79)] rfl s0_78 a0_78 z3 dX11_changes_30 ?_
    refine mj_aload_n 0 dX11_changes_31 rfl ?_
    refine mj_getP p0_71_19 (by decide) fl_X11_190 rfl s0_71 a0_71 dX11_changes_32 ?_
    refine mj_iload_n 3 dX11_changes_35 rfl ?_
    refine mj_iconst dX11_changes_36 kc_iconst_1 ?_
    refine mj_isub dX11_changes_37 ?_
    refine mj_aload_n 0 dX11_changes_38 rfl ?_
    refine mj_getP p0_71_19 (by decide) fl_X11_190 rfl s0_71 a0_71 dX11_changes_39 ?_
    refine mj_iload_n 3 dX11_changes_42 rfl ?_
    obtain ⟨z4, hf⟩ := mj_ck hf
    refine mj_ialdv (x := r79) rfl s0_79 a0_79 z4 dX11_changes_43 ?_
    obtain ⟨z5, hf⟩ := mj_ck hf
    refine mj_iastr [(71, r71), (78, (upd r78 ((x3 - (1 : Int32)).toNatClampNeg) (r78 x3.toNatClampNeg))), (79, (upd r79 ((x3 - (1 : Int32)).toNatClampNeg) (r79 x3.toNatClampNeg)))] rfl s0_79 a0_79 z5 dX11_changes_44 ?_
    refine mj_iinc 3 [(3, .int (x3 + (1))), (0, .ref 71), (1, .int x1), (2, .int x2)] dX11_changes_45 rfl (kz_1 _) (by decide) rfl ?_
    refine mj_goto 11 dX11_changes_48 (by decide) ?_
    refine mj_sub [1, 2, 3, 0] [(0, .ref 71), (1, .int x1), (2, .int x2), (3, .int (x3 + (1)))] rfl ?_
    obtain rfl := Option.some.inj hf
    have hZ := hc ((x3 + (1)), (upd r78 ((x3 - (1 : Int32)).toNatClampNeg) (r78 x3.toNatClampNeg)), (upd r79 ((x3 - (1 : Int32)).toNatClampNeg) (r79 x3.toNatClampNeg))) rfl
    replace hZ := mj_u2p hZ
    replace hZ := mj_u2p hZ
    exact hZ
set_option maxRecDepth 100000 in
set_option maxHeartbeats 4000000 in
theorem jtX11_changes_61 {X : mj_XT} {l : Launch} {G : mj_GT} {ad : Nat → Nat} {Qn : Option Value → mj_IT → mj_LT → Prop} (hR : mj_R X l G mj_P0 mj_S0 98 ad 0 0 Qn) (F : Nat) (I : mj_IT) (L : mj_LT) (r71 : Nat → Int32) (r78 : Nat → Int32) (r79 : Nat → Int32) (x1 : Int32) (x2 : Int32) (o : ((Int32) × (Nat → Int32) × (Nat → Int32) × (Nat → Int32))) (hf : jnX11_changes_61 F x1 x2 r71 r78 r79 = some o) (hq : (mj_u2 (fun ov => (mj_u2 (fun r71 => (mj_u2 (fun r78 r79 => Qn (some (.int ov)) (mj_rows I [(71, r71), (78, r78), (79, r79)]) L)))))) o) : mj_W X G RX11 "changes" cX11_changes 4 2 (some .int) mj_P0 mj_S0 98 ad 0 0 61 [(0, .ref 71), (1, .int x1), (2, .int x2)] [] (mj_rows I [(71, r71), (78, r78), (79, r79)]) L := by
  unfold jnX11_changes_61 at hf
  refine mj_aload_n 0 dX11_changes_61 rfl ?_
  refine mj_getP p0_71_18 (by decide) fl_X11_187 rfl s0_71 a0_71 dX11_changes_62 ?_
  refine mj_aload_n 0 dX11_changes_65 rfl ?_
  refine mj_getIv (v := (r71 17)) rfl fl_X11_181 rfl s0_71 a0_71 dX11_changes_66 ?_
  refine mj_iload_n 1 dX11_changes_69 rfl ?_
  obtain ⟨z6, hf⟩ := mj_ck hf
  refine mj_iastr [(71, r71), (78, (upd r78 ((r71 17).toNatClampNeg) x1)), (79, r79)] rfl s0_78 a0_78 z6 dX11_changes_70 ?_
  refine mj_aload_n 0 dX11_changes_71 rfl ?_
  refine mj_getP p0_71_19 (by decide) fl_X11_190 rfl s0_71 a0_71 dX11_changes_72 ?_
  refine mj_aload_n 0 dX11_changes_75 rfl ?_
  refine mj_getIv (v := (r71 17)) rfl fl_X11_181 rfl s0_71 a0_71 dX11_changes_76 ?_
  refine mj_iload_n 2 dX11_changes_79 rfl ?_
  obtain ⟨z7, hf⟩ := mj_ck hf
  refine mj_iastr [(71, r71), (78, (upd r78 ((r71 17).toNatClampNeg) x1)), (79, (upd r79 ((r71 17).toNatClampNeg) x2))] rfl s0_79 a0_79 z7 dX11_changes_80 ?_
  refine mj_aload_n 0 dX11_changes_81 rfl ?_
  refine mj_dup dX11_changes_82 rfl ?_
  refine mj_getIv (v := (r71 17)) rfl fl_X11_181 rfl s0_71 a0_71 dX11_changes_83 ?_
  refine mj_iconst dX11_changes_86 kc_iconst_1 ?_
  refine mj_iadd dX11_changes_87 ?_
  refine mj_putIr (ci := 9) (j := 17) [(71, (upd r71 17 ((r71 17) + (1 : Int32)))), (78, (upd r78 ((r71 17).toNatClampNeg) x1)), (79, (upd r79 ((r71 17).toNatClampNeg) x2))] rfl ⟨rfl, rfl⟩ fl_X11_181 rfl rfl s0_71 a0_71 dX11_changes_88 ?_
  refine mj_aload_n 0 dX11_changes_91 rfl ?_
  obtain ⟨o8, ho8, hf⟩ := mj_bd hf
  refine mj_callVd (I2 := (mj_rows I [(71, o8), (78, (upd r78 ((r71 17).toNatClampNeg) x1)), (79, (upd r79 ((r71 17).toNatClampNeg) x2))])) (L2 := L) (s1 := []) (st := []) [] (cmX11_isOther X.2.1 G F  _ _ (upd r71 17 ((r71 17) + (1 : Int32))) rfl o8 ho8) (mj_rr rfl) rfl cw_X11_184 s0_71 a0_71 (by decide) rfl rfl (Nat.le_of_ble_eq_true rfl) ⟨Nat.zero_le _, Nat.zero_le _⟩ dX11_changes_92 rfl ?_
  refine mj_iload_n 2 dX11_changes_95 rfl ?_
  obtain rfl := Option.some.inj hf
  have hZ := hq
  replace hZ := mj_u2p hZ
  replace hZ := mj_u2p hZ
  replace hZ := mj_u2p hZ
  exact mj_iret hR ⟨Nat.le_refl _, Nat.le_refl _⟩ rfl rfl dX11_changes_96 hZ
set_option maxRecDepth 100000 in
set_option maxHeartbeats 4000000 in
theorem mtX11_changes {X : mj_XT} {l : Launch} {G : mj_GT} {ad : Nat → Nat} {Qn : Option Value → mj_IT → mj_LT → Prop} (hR : mj_R X l G mj_P0 mj_S0 98 ad 0 0 Qn) (F : Nat) (I : mj_IT) (L : mj_LT) (r71 : Nat → Int32) (r78 : Nat → Int32) (r79 : Nat → Int32) (x1 : Int32) (x2 : Int32) (o : ((Int32) × (Nat → Int32) × (Nat → Int32) × (Nat → Int32))) (hf : fnX11_changes F r71 r78 r79 x1 x2 = some o) (hq : (mj_u2 (fun ov => (mj_u2 (fun r71 => (mj_u2 (fun r78 r79 => Qn (some (.int ov)) (mj_rows I [(71, r71), (78, r78), (79, r79)]) L)))))) o) : mj_W X G RX11 "changes" cX11_changes 4 2 (some .int) mj_P0 mj_S0 98 ad 0 0 0 [(0, .ref 71), (1, .int x1), (2, .int x2)] [] (mj_rows I [(71, r71), (78, r78), (79, r79)]) L := by
  unfold fnX11_changes at hf
  refine mj_aload_n 0 dX11_changes_0 rfl ?_
  refine mj_getIv (v := (r71 17)) rfl fl_X11_181 rfl s0_71 a0_71 dX11_changes_1 ?_
  refine mj_bipush dX11_changes_4 kc_bipush_12 ?_
  refine mj_icmp_ne 61 dX11_changes_6 (by decide) (fun c9 => ?_) (fun c9 => ?_)
  · replace hf := mj_neg c9 hf
    exact jtX11_changes_61 hR F I L r71 r78 r79 x1 x2 o hf hq
  · replace hf := mj_pos c9 hf
    refine mj_iconst dX11_changes_9 kc_iconst_1 ?_
    refine mj_istore_n [(3, .int (1 : Int32)), (0, .ref 71), (1, .int x1), (2, .int x2)] dX11_changes_10 rfl (by decide) rfl ?_
    refine mj_sub [1, 2, 3, 0] [(0, .ref 71), (1, .int x1), (2, .int x2), (3, .int (1 : Int32))] rfl ?_
    obtain ⟨e10, ho10, hf⟩ := mj_bd hf
    refine lpX11_changes_11 hR F I L r71 r78 r79 x1 x2 F ((1 : Int32), r78, r79) e10 ho10 ?_
    obtain ⟨r78_10, r79_10⟩ := e10
    replace hf := mj_u2e hf
    refine ?_
    refine mj_u2q ?_
    refine mj_aload_n 0 dX11_changes_51 rfl ?_
    refine mj_dup dX11_changes_52 rfl ?_
    refine mj_getIv (v := (r71 17)) rfl fl_X11_181 rfl s0_71 a0_71 dX11_changes_53 ?_
    refine mj_iconst dX11_changes_56 kc_iconst_1 ?_
    refine mj_isub dX11_changes_57 ?_
    refine mj_putIr (ci := 9) (j := 17) [(71, (upd r71 17 ((r71 17) - (1 : Int32)))), (78, r78_10), (79, r79_10)] rfl ⟨rfl, rfl⟩ fl_X11_181 rfl rfl s0_71 a0_71 dX11_changes_58 ?_
    exact jtX11_changes_61 hR F I L (upd r71 17 ((r71 17) - (1 : Int32))) r78_10 r79_10 x1 x2 o hf hq
set_option maxRecDepth 100000 in
set_option maxHeartbeats 4000000 in
theorem cmX11_changes (l : Launch) (G : mj_GT) (F : Nat) (x1 : Int32) (x2 : Int32) (I : mj_IT) (L : mj_LT) (r71 : Nat → Int32) (r78 : Nat → Int32) (r79 : Nat → Int32) (hr71 : I 71 = r71) (hr78 : I 78 = r78) (hr79 : I 79 = r79) (o : ((Int32) × (Nat → Int32) × (Nat → Int32) × (Nat → Int32))) (hf : fnX11_changes F r71 r78 r79 x1 x2 = some o) : mj_M l G yX11_changes cX11_changes 4 2 (some .int) 0 0 mj_P0 mj_S0 98 [.ref 71, .int x1, .int x2] I L (mj_qd (some (.int o.1)) (mj_rows I [(71, o.2.1), (78, o.2.2.1), (79, o.2.2.2)]) L) := by
  refine mj_in RX11 "changes" [(0, .ref 71), (1, .int x1), (2, .int x2)] rfl rfl rfl (by decide) (Nat.le_of_ble_eq_true rfl) (fun X ad hR => ?_)
  refine mj_toI [(71, r71), (78, r78), (79, r79)] (by intro q hq; simp only [List.mem_cons, List.not_mem_nil, or_false] at hq; rcases hq with rfl | rfl | rfl <;> assumption) ?_
  refine mtX11_changes hR F I L r71 r78 r79 x1 x2 o hf ?_
  obtain ⟨w0, w1, w2, w3⟩ := o
  refine mj_u2q ?_
  refine mj_u2q ?_
  refine mj_u2q ?_
  exact ⟨rfl, rfl, rfl⟩

-- X11_isName
def fnX11_isName (F : Nat) (x1 : Int32) : Option ((Int32)) := (fnX11_lies F x1.toInt64 (0 : Int64) (5 : Int64)).bind (fun o1 => (if mj_bb o1 = true then some o1 else none))
set_option maxRecDepth 100000 in
set_option maxHeartbeats 4000000 in
theorem mtX11_isName {X : mj_XT} {l : Launch} {G : mj_GT} {ad : Nat → Nat} {Qn : Option Value → mj_IT → mj_LT → Prop} (hR : mj_R X l G mj_P0 mj_S0 98 ad 0 0 Qn) (F : Nat) (I : mj_IT) (L : mj_LT) (x1 : Int32) (o : ((Int32))) (hf : fnX11_isName F x1 = some o) (hq : (fun ov => Qn (some (.int ov)) I L) o) : mj_W X G RX11 "isName" cX11_isName 2 2 (some .boolean) mj_P0 mj_S0 98 ad 0 0 0 [(0, .ref 71), (1, .int x1)] [] I L := by
  unfold fnX11_isName at hf
  refine mj_iload_n 1 dX11_isName_0 rfl ?_
  refine mj_i2l dX11_isName_1 ?_
  refine mj_lconst (v := 0) dX11_isName_2 (by decide) ?_
  refine mj_ldc2 kk_X11_193 dX11_isName_3 ?_
  obtain ⟨o1, ho1, hf⟩ := mj_bd hf
  refine mj_callSd (I2 := I) (L2 := L) (s1 := [.int o1]) (st := []) [.long x1.toInt64, .long (0 : Int64), .long (5 : Int64)] (cmX11_lies X.2.1 G F x1.toInt64 (0 : Int64) (5 : Int64) _ _   o1 ho1) rfl rfl cw_X11_157 (by decide) rfl rfl (Nat.le_of_ble_eq_true rfl) ⟨Nat.zero_le _, Nat.zero_le _⟩ dX11_isName_6 rfl ?_
  obtain ⟨z2, hf⟩ := mj_ck hf
  obtain rfl := Option.some.inj hf
  have hZ := hq
  exact mj_iret hR ⟨Nat.le_refl _, Nat.le_refl _⟩ rfl (mj_bb_n z2).1 dX11_isName_9 hZ
set_option maxRecDepth 100000 in
set_option maxHeartbeats 4000000 in
theorem cmX11_isName (l : Launch) (G : mj_GT) (F : Nat) (x1 : Int32) (I : mj_IT) (L : mj_LT) (o : ((Int32))) (hf : fnX11_isName F x1 = some o) : mj_M l G yX11_isName cX11_isName 2 2 (some .boolean) 0 0 mj_P0 mj_S0 98 [.ref 71, .int x1] I L (mj_qd (some (.int o)) I L) := by
  refine mj_in RX11 "isName" [(0, .ref 71), (1, .int x1)] rfl rfl rfl (by decide) (Nat.le_of_ble_eq_true rfl) (fun X ad hR => ?_)
  refine mtX11_isName hR F I L x1 o hf ?_
  exact ⟨rfl, rfl, rfl⟩

-- X11_isStatement
def fnX11_isStatement (F : Nat) (r71 : Nat → Int32) (x1 : Int32) : Option ((Int32)) := (fnX11_lies F x1.toInt64 (0 : Int64) (((r71 4) - (1 : Int32)).toInt64)).bind (fun o1 => (if mj_bb o1 = true then some o1 else none))
set_option maxRecDepth 100000 in
set_option maxHeartbeats 4000000 in
theorem mtX11_isStatement {X : mj_XT} {l : Launch} {G : mj_GT} {ad : Nat → Nat} {Qn : Option Value → mj_IT → mj_LT → Prop} (hR : mj_R X l G mj_P0 mj_S0 98 ad 0 0 Qn) (F : Nat) (I : mj_IT) (L : mj_LT) (r71 : Nat → Int32) (x1 : Int32) (o : ((Int32))) (hf : fnX11_isStatement F r71 x1 = some o) (hq : (fun ov => Qn (some (.int ov)) (mj_rows I [(71, r71)]) L) o) : mj_W X G RX11 "isStatement" cX11_isStatement 2 2 (some .boolean) mj_P0 mj_S0 98 ad 0 0 0 [(0, .ref 71), (1, .int x1)] [] (mj_rows I [(71, r71)]) L := by
  unfold fnX11_isStatement at hf
  refine mj_iload_n 1 dX11_isStatement_0 rfl ?_
  refine mj_i2l dX11_isStatement_1 ?_
  refine mj_lconst (v := 0) dX11_isStatement_2 (by decide) ?_
  refine mj_aload_n 0 dX11_isStatement_3 rfl ?_
  refine mj_getIv (v := (r71 4)) rfl fl_X11_172 rfl s0_71 a0_71 dX11_isStatement_4 ?_
  refine mj_iconst dX11_isStatement_7 kc_iconst_1 ?_
  refine mj_isub dX11_isStatement_8 ?_
  refine mj_i2l dX11_isStatement_9 ?_
  obtain ⟨o1, ho1, hf⟩ := mj_bd hf
  refine mj_callSd (I2 := (mj_rows I [(71, r71)])) (L2 := L) (s1 := [.int o1]) (st := []) [.long x1.toInt64, .long (0 : Int64), .long (((r71 4) - (1 : Int32)).toInt64)] (cmX11_lies X.2.1 G F x1.toInt64 (0 : Int64) (((r71 4) - (1 : Int32)).toInt64) _ _   o1 ho1) rfl rfl cw_X11_157 (by decide) rfl rfl (Nat.le_of_ble_eq_true rfl) ⟨Nat.zero_le _, Nat.zero_le _⟩ dX11_isStatement_10 rfl ?_
  obtain ⟨z2, hf⟩ := mj_ck hf
  obtain rfl := Option.some.inj hf
  have hZ := hq
  exact mj_iret hR ⟨Nat.le_refl _, Nat.le_refl _⟩ rfl (mj_bb_n z2).1 dX11_isStatement_13 hZ
set_option maxRecDepth 100000 in
set_option maxHeartbeats 4000000 in
theorem cmX11_isStatement (l : Launch) (G : mj_GT) (F : Nat) (x1 : Int32) (I : mj_IT) (L : mj_LT) (r71 : Nat → Int32) (hr71 : I 71 = r71) (o : ((Int32))) (hf : fnX11_isStatement F r71 x1 = some o) : mj_M l G yX11_isStatement cX11_isStatement 2 2 (some .boolean) 0 0 mj_P0 mj_S0 98 [.ref 71, .int x1] I L (mj_qd (some (.int o)) (mj_rows I [(71, r71)]) L) := by
  refine mj_in RX11 "isStatement" [(0, .ref 71), (1, .int x1)] rfl rfl rfl (by decide) (Nat.le_of_ble_eq_true rfl) (fun X ad hR => ?_)
  refine mj_toI [(71, r71)] (by intro q hq; simp only [List.mem_cons, List.not_mem_nil, or_false] at hq; rcases hq with rfl <;> assumption) ?_
  refine mtX11_isStatement hR F I L r71 x1 o hf ?_
  exact ⟨rfl, rfl, rfl⟩

-- X11_first
def fnX11_first (F : Nat) (r71 : Nat → Int32) (r72 : Nat → Int32) (r75 : Nat → Int32) (r78 : Nat → Int32) (r79 : Nat → Int32) (x1 : Int32) (x2 : Int32) : Option ((Int32) × (Nat → Int32) × (Nat → Int32) × (Nat → Int32) × (Nat → Int32) × (Nat → Int32)) := (fnX11_isName F x1).bind (fun o1 => (fnX11_isFine F (upd r71 0 (0 : Int32)) r72 o1 (1 : Int32) (0 : Int32)).bind (fun o2 => (if o2.1 = 0 then some ((0 : Int32), o2.2.1, o2.2.2, r75, r78, r79) else (fnX11_lies F x2.toInt64 (0 : Int64) (9 : Int64)).bind (fun o4 => (fnX11_isFine F o2.2.1 o2.2.2 o4 (2 : Int32) (1 : Int32)).bind (fun o5 => (if o5.1 = 0 then some ((0 : Int32), o5.2.1, o5.2.2, r75, r78, r79) else (if mj_ib x1 6 = true then (if mj_ib x1 6 = true then (fnX11_changes F o5.2.1 r78 r79 x1 (r75 x1.toNatClampNeg)).bind (fun o9 => some (o9.1, o9.2.1, o5.2.2, (upd r75 x1.toNatClampNeg x2), o9.2.2.1, o9.2.2.2)) else none) else none)))))))
set_option maxRecDepth 100000 in
set_option maxHeartbeats 4000000 in
theorem mtX11_first {X : mj_XT} {l : Launch} {G : mj_GT} {ad : Nat → Nat} {Qn : Option Value → mj_IT → mj_LT → Prop} (hR : mj_R X l G mj_P0 mj_S0 98 ad 0 0 Qn) (F : Nat) (I : mj_IT) (L : mj_LT) (r71 : Nat → Int32) (r72 : Nat → Int32) (r75 : Nat → Int32) (r78 : Nat → Int32) (r79 : Nat → Int32) (x1 : Int32) (x2 : Int32) (o : ((Int32) × (Nat → Int32) × (Nat → Int32) × (Nat → Int32) × (Nat → Int32) × (Nat → Int32))) (hf : fnX11_first F r71 r72 r75 r78 r79 x1 x2 = some o) (hq : (mj_u2 (fun ov => (mj_u2 (fun r71 => (mj_u2 (fun r72 => (mj_u2 (fun r75 => (mj_u2 (fun r78 r79 => Qn (some (.int ov)) (mj_rows I [(71, r71), (72, r72), (75, r75), (78, r78), (79, r79)]) L)))))))))) o) : mj_W X G RX11 "first" cX11_first 4 3 (some .int) mj_P0 mj_S0 98 ad 0 0 0 [(0, .ref 71), (1, .int x1), (2, .int x2)] [] (mj_rows I [(71, r71), (72, r72), (75, r75), (78, r78), (79, r79)]) L := by
  unfold fnX11_first at hf
  refine mj_aload_n 0 dX11_first_0 rfl ?_
  refine mj_iconst dX11_first_1 kc_iconst_0 ?_
  refine mj_putIr (ci := 9) (j := 0) [(71, (upd r71 0 (0 : Int32))), (72, r72), (75, r75), (78, r78), (79, r79)] rfl ⟨rfl, rfl⟩ fl_X11_1 rfl rfl s0_71 a0_71 dX11_first_2 ?_
  refine mj_aload_n 0 dX11_first_5 rfl ?_
  refine mj_aload_n 0 dX11_first_6 rfl ?_
  refine mj_iload_n 1 dX11_first_7 rfl ?_
  obtain ⟨o1, ho1, hf⟩ := mj_bd hf
  refine mj_callVd (I2 := (mj_rows I [(71, (upd r71 0 (0 : Int32))), (72, r72), (75, r75), (78, r78), (79, r79)])) (L2 := L) (s1 := [.int o1, .ref 71]) (st := [.ref 71]) [.int x1] (cmX11_isName X.2.1 G F x1 _ _   o1 ho1) rfl rfl cw_X11_195 s0_71 a0_71 (by decide) rfl rfl (Nat.le_of_ble_eq_true rfl) ⟨Nat.zero_le _, Nat.zero_le _⟩ dX11_first_8 rfl ?_
  refine mj_iconst dX11_first_11 kc_iconst_1 ?_
  refine mj_iconst dX11_first_12 kc_iconst_0 ?_
  obtain ⟨o2, ho2, hf⟩ := mj_bd hf
  refine mj_callVd (I2 := (mj_rows I [(71, o2.2.1), (72, o2.2.2), (75, r75), (78, r78), (79, r79)])) (L2 := L) (s1 := [.int o2.1]) (st := []) [.int o1, .int (1 : Int32), .int (0 : Int32)] (cmX11_isFine X.2.1 G F o1 (1 : Int32) (0 : Int32) _ _ (upd r71 0 (0 : Int32)) r72 rfl rfl o2 ho2) (mj_rr rfl) rfl cw_X11_161 s0_71 a0_71 (by decide) rfl rfl (Nat.le_of_ble_eq_true rfl) ⟨Nat.zero_le _, Nat.zero_le _⟩ dX11_first_13 rfl ?_
  refine mj_if_eq 37 dX11_first_16 (by decide) (fun c3 => ?_) (fun c3 => ?_)
  · replace hf := mj_pos c3 hf
    refine mj_iconst dX11_first_37 kc_iconst_0 ?_
    obtain rfl := Option.some.inj hf
    have hZ := hq
    replace hZ := mj_u2p hZ
    replace hZ := mj_u2p hZ
    replace hZ := mj_u2p hZ
    replace hZ := mj_u2p hZ
    replace hZ := mj_u2p hZ
    exact mj_iret hR ⟨Nat.le_refl _, Nat.le_refl _⟩ rfl rfl dX11_first_38 hZ
  · replace hf := mj_neg c3 hf
    refine mj_aload_n 0 dX11_first_19 rfl ?_
    refine mj_iload_n 2 dX11_first_20 rfl ?_
    refine mj_i2l dX11_first_21 ?_
    refine mj_lconst (v := 0) dX11_first_22 (by decide) ?_
    refine mj_ldc2 kk_X11_198 dX11_first_23 ?_
    obtain ⟨o4, ho4, hf⟩ := mj_bd hf
    refine mj_callSd (I2 := (mj_rows I [(71, o2.2.1), (72, o2.2.2), (75, r75), (78, r78), (79, r79)])) (L2 := L) (s1 := [.int o4, .ref 71]) (st := [.ref 71]) [.long x2.toInt64, .long (0 : Int64), .long (9 : Int64)] (cmX11_lies X.2.1 G F x2.toInt64 (0 : Int64) (9 : Int64) _ _   o4 ho4) rfl rfl cw_X11_157 (by decide) rfl rfl (Nat.le_of_ble_eq_true rfl) ⟨Nat.zero_le _, Nat.zero_le _⟩ dX11_first_26 rfl ?_
    refine mj_iconst dX11_first_29 kc_iconst_2 ?_
    refine mj_iconst dX11_first_30 kc_iconst_1 ?_
    obtain ⟨o5, ho5, hf⟩ := mj_bd hf
    refine mj_callVd (I2 := (mj_rows I [(71, o5.2.1), (72, o5.2.2), (75, r75), (78, r78), (79, r79)])) (L2 := L) (s1 := [.int o5.1]) (st := []) [.int o4, .int (2 : Int32), .int (1 : Int32)] (cmX11_isFine X.2.1 G F o4 (2 : Int32) (1 : Int32) _ _ o2.2.1 o2.2.2 rfl rfl o5 ho5) (mj_rr rfl) rfl cw_X11_161 s0_71 a0_71 (by decide) rfl rfl (Nat.le_of_ble_eq_true rfl) ⟨Nat.zero_le _, Nat.zero_le _⟩ dX11_first_31 rfl ?_
    refine mj_if_ne 39 dX11_first_34 (by decide) (fun c6 => ?_) (fun c6 => ?_)
    · replace hf := mj_neg c6 hf
      refine mj_aload_n 0 dX11_first_39 rfl ?_
      refine mj_getP p0_71_6 (by decide) fl_X11_178 rfl s0_71 a0_71 dX11_first_40 ?_
      refine mj_iload_n 1 dX11_first_43 rfl ?_
      obtain ⟨z7, hf⟩ := mj_ck hf
      refine mj_ialdv (x := r75) rfl s0_75 a0_75 z7 dX11_first_44 ?_
      refine mj_istore_n [(3, .int (r75 x1.toNatClampNeg)), (0, .ref 71), (1, .int x1), (2, .int x2)] dX11_first_45 rfl (by decide) rfl ?_
      refine mj_aload_n 1 dX11_first_46 rfl ?_
      refine mj_getP p0_71_6 (by decide) fl_X11_178 rfl s0_71 a0_71 dX11_first_47 ?_
      refine mj_iload_n 2 dX11_first_50 rfl ?_
      refine mj_iload_n 3 dX11_first_51 rfl ?_
      obtain ⟨z8, hf⟩ := mj_ck hf
      refine mj_iastr [(71, o5.2.1), (72, o5.2.2), (75, (upd r75 x1.toNatClampNeg x2)), (78, r78), (79, r79)] rfl s0_75 a0_75 z8 dX11_first_52 ?_
      refine mj_aload_n 1 dX11_first_53 rfl ?_
      refine mj_iload_n 2 dX11_first_54 rfl ?_
      refine mj_iload_n 0 dX11_first_55 rfl ?_
      obtain ⟨o9, ho9, hf⟩ := mj_bd hf
      refine mj_callVd (I2 := (mj_rows I [(71, o9.2.1), (72, o5.2.2), (75, (upd r75 x1.toNatClampNeg x2)), (78, o9.2.2.1), (79, o9.2.2.2)])) (L2 := L) (s1 := [.int o9.1]) (st := []) [.int x1, .int (r75 x1.toNatClampNeg)] (cmX11_changes X.2.1 G F x1 (r75 x1.toNatClampNeg) _ _ o5.2.1 r78 r79 rfl rfl rfl o9 ho9) (mj_rr rfl) rfl cw_X11_200 s0_71 a0_71 (by decide) rfl rfl (Nat.le_of_ble_eq_true rfl) ⟨Nat.zero_le _, Nat.zero_le _⟩ dX11_first_56 rfl ?_
      obtain rfl := Option.some.inj hf
      have hZ := hq
      replace hZ := mj_u2p hZ
      replace hZ := mj_u2p hZ
      replace hZ := mj_u2p hZ
      replace hZ := mj_u2p hZ
      replace hZ := mj_u2p hZ
      exact mj_iret hR ⟨Nat.le_refl _, Nat.le_refl _⟩ rfl rfl dX11_first_59 hZ
    · replace hf := mj_pos c6 hf
      refine mj_iconst dX11_first_37 kc_iconst_0 ?_
      obtain rfl := Option.some.inj hf
      have hZ := hq
      replace hZ := mj_u2p hZ
      replace hZ := mj_u2p hZ
      replace hZ := mj_u2p hZ
      replace hZ := mj_u2p hZ
      replace hZ := mj_u2p hZ
      exact mj_iret hR ⟨Nat.le_refl _, Nat.le_refl _⟩ rfl rfl dX11_first_38 hZ
set_option maxRecDepth 100000 in
set_option maxHeartbeats 4000000 in
theorem cmX11_first (l : Launch) (G : mj_GT) (F : Nat) (x1 : Int32) (x2 : Int32) (I : mj_IT) (L : mj_LT) (r71 : Nat → Int32) (r72 : Nat → Int32) (r75 : Nat → Int32) (r78 : Nat → Int32) (r79 : Nat → Int32) (hr71 : I 71 = r71) (hr72 : I 72 = r72) (hr75 : I 75 = r75) (hr78 : I 78 = r78) (hr79 : I 79 = r79) (o : ((Int32) × (Nat → Int32) × (Nat → Int32) × (Nat → Int32) × (Nat → Int32) × (Nat → Int32))) (hf : fnX11_first F r71 r72 r75 r78 r79 x1 x2 = some o) : mj_M l G yX11_first cX11_first 4 3 (some .int) 0 0 mj_P0 mj_S0 98 [.ref 71, .int x1, .int x2] I L (mj_qd (some (.int o.1)) (mj_rows I [(71, o.2.1), (72, o.2.2.1), (75, o.2.2.2.1), (78, o.2.2.2.2.1), (79, o.2.2.2.2.2)]) L) := by
  refine mj_in RX11 "first" [(0, .ref 71), (1, .int x1), (2, .int x2)] rfl rfl rfl (by decide) (Nat.le_of_ble_eq_true rfl) (fun X ad hR => ?_)
  refine mj_toI [(71, r71), (72, r72), (75, r75), (78, r78), (79, r79)] (by intro q hq; simp only [List.mem_cons, List.not_mem_nil, or_false] at hq; rcases hq with rfl | rfl | rfl | rfl | rfl <;> assumption) ?_
  refine mtX11_first hR F I L r71 r72 r75 r78 r79 x1 x2 o hf ?_
  obtain ⟨w0, w1, w2, w3, w4, w5⟩ := o
  refine mj_u2q ?_
  refine mj_u2q ?_
  refine mj_u2q ?_
  refine mj_u2q ?_
  refine mj_u2q ?_
  exact ⟨rfl, rfl, rfl⟩

-- X11_chance
def jnX11_chance_47 (F : Nat) (x1 : Int32) (x2 : Int32) (t1 : Int32) (r71 : Nat → Int32) (r72 : Nat → Int32) (r73 : Nat → Int32) (r78 : Nat → Int32) (r79 : Nat → Int32) : Option ((Int32) × (Nat → Int32) × (Nat → Int32) × (Nat → Int32) × (Nat → Int32) × (Nat → Int32)) := (fnX11_isFine F r71 r72 t1 (2 : Int32) (1 : Int32)).bind (fun o1 => (if o1.1 = 0 then some ((0 : Int32), o1.2.1, o1.2.2, r73, r78, r79) else (fnX11_of F r73 x1 (2 : Int32)).bind (fun o3 => (if mj_ib (((12 : Int32) * x1) + (2 : Int32)) 480 = true then (fnX11_changes F o1.2.1 r78 r79 ((6 : Int32) + x1) o3).bind (fun o5 => some (o5.1, o5.2.1, o1.2.2, (upd r73 ((((12 : Int32) * x1) + (2 : Int32)).toNatClampNeg) x2), o5.2.2.1, o5.2.2.2)) else none))))
def jnX11_chance_46 (F : Nat) (x1 : Int32) (x2 : Int32) (r71 : Nat → Int32) (r72 : Nat → Int32) (r73 : Nat → Int32) (r78 : Nat → Int32) (r79 : Nat → Int32) : Option ((Int32) × (Nat → Int32) × (Nat → Int32) × (Nat → Int32) × (Nat → Int32) × (Nat → Int32)) := jnX11_chance_47 F x1 x2 (0 : Int32) r71 r72 r73 r78 r79
def fnX11_chance (F : Nat) (r71 : Nat → Int32) (r72 : Nat → Int32) (r73 : Nat → Int32) (r78 : Nat → Int32) (r79 : Nat → Int32) (x1 : Int32) (x2 : Int32) : Option ((Int32) × (Nat → Int32) × (Nat → Int32) × (Nat → Int32) × (Nat → Int32) × (Nat → Int32)) := (fnX11_isStatement F (upd r71 0 (0 : Int32)) x1).bind (fun o6 => (fnX11_isFine F (upd r71 0 (0 : Int32)) r72 o6 (1 : Int32) (0 : Int32)).bind (fun o7 => (if o7.1 = 0 then some ((0 : Int32), o7.2.1, o7.2.2, r73, r78, r79) else (fnX11_of F r73 x1 (0 : Int32)).bind (fun o9 => (if o9 = (2 : Int32) then (fnX11_lies F x2.toInt64 (0 : Int64) (60 : Int64)).bind (fun o11 => (if o11 = 0 then jnX11_chance_46 F x1 x2 o7.2.1 o7.2.2 r73 r78 r79 else jnX11_chance_47 F x1 x2 (1 : Int32) o7.2.1 o7.2.2 r73 r78 r79)) else jnX11_chance_46 F x1 x2 o7.2.1 o7.2.2 r73 r78 r79)))))
set_option maxRecDepth 100000 in
set_option maxHeartbeats 4000000 in
theorem jtX11_chance_47 {X : mj_XT} {l : Launch} {G : mj_GT} {ad : Nat → Nat} {Qn : Option Value → mj_IT → mj_LT → Prop} (hR : mj_R X l G mj_P0 mj_S0 98 ad 0 0 Qn) (F : Nat) (I : mj_IT) (L : mj_LT) (r71 : Nat → Int32) (r72 : Nat → Int32) (r73 : Nat → Int32) (r78 : Nat → Int32) (r79 : Nat → Int32) (x1 : Int32) (x2 : Int32) (t1 : Int32) (o : ((Int32) × (Nat → Int32) × (Nat → Int32) × (Nat → Int32) × (Nat → Int32) × (Nat → Int32))) (hf : jnX11_chance_47 F x1 x2 t1 r71 r72 r73 r78 r79 = some o) (hq : (mj_u2 (fun ov => (mj_u2 (fun r71 => (mj_u2 (fun r72 => (mj_u2 (fun r73 => (mj_u2 (fun r78 r79 => Qn (some (.int ov)) (mj_rows I [(71, r71), (72, r72), (73, r73), (78, r78), (79, r79)]) L)))))))))) o) : mj_W X G RX11 "chance" cX11_chance 4 3 (some .int) mj_P0 mj_S0 98 ad 0 0 47 [(0, .ref 71), (1, .int x1), (2, .int x2)] [.int t1, .ref 71] (mj_rows I [(71, r71), (72, r72), (73, r73), (78, r78), (79, r79)]) L := by
  unfold jnX11_chance_47 at hf
  refine mj_iconst dX11_chance_47 kc_iconst_2 ?_
  refine mj_iconst dX11_chance_48 kc_iconst_1 ?_
  obtain ⟨o1, ho1, hf⟩ := mj_bd hf
  refine mj_callVd (I2 := (mj_rows I [(71, o1.2.1), (72, o1.2.2), (73, r73), (78, r78), (79, r79)])) (L2 := L) (s1 := [.int o1.1]) (st := []) [.int t1, .int (2 : Int32), .int (1 : Int32)] (cmX11_isFine X.2.1 G F t1 (2 : Int32) (1 : Int32) _ _ r71 r72 rfl rfl o1 ho1) (mj_rr rfl) rfl cw_X11_161 s0_71 a0_71 (by decide) rfl rfl (Nat.le_of_ble_eq_true rfl) ⟨Nat.zero_le _, Nat.zero_le _⟩ dX11_chance_49 rfl ?_
  refine mj_if_ne 57 dX11_chance_52 (by decide) (fun c2 => ?_) (fun c2 => ?_)
  · replace hf := mj_neg c2 hf
    refine mj_aload_n 0 dX11_chance_57 rfl ?_
    refine mj_iload_n 1 dX11_chance_58 rfl ?_
    refine mj_iconst dX11_chance_59 kc_iconst_2 ?_
    obtain ⟨o3, ho3, hf⟩ := mj_bd hf
    refine mj_callVd (I2 := (mj_rows I [(71, o1.2.1), (72, o1.2.2), (73, r73), (78, r78), (79, r79)])) (L2 := L) (s1 := [.int o3]) (st := []) [.int x1, .int (2 : Int32)] (cmX11_of X.2.1 G F x1 (2 : Int32) _ _ r73 rfl o3 ho3) (mj_rr rfl) rfl cw_X11_175 s0_71 a0_71 (by decide) rfl rfl (Nat.le_of_ble_eq_true rfl) ⟨Nat.zero_le _, Nat.zero_le _⟩ dX11_chance_60 rfl ?_
    refine mj_istore_n [(3, .int o3), (0, .ref 71), (1, .int x1), (2, .int x2)] dX11_chance_63 rfl (by decide) rfl ?_
    refine mj_aload_n 1 dX11_chance_64 rfl ?_
    refine mj_getP p0_71_2 (by decide) fl_X11_11 rfl s0_71 a0_71 dX11_chance_65 ?_
    refine mj_bipush dX11_chance_68 kc_bipush_12 ?_
    refine mj_iload_n 2 dX11_chance_70 rfl ?_
    refine mj_imul dX11_chance_71 ?_
    refine mj_iconst dX11_chance_72 kc_iconst_2 ?_
    refine mj_iadd dX11_chance_73 ?_
    refine mj_iload_n 3 dX11_chance_74 rfl ?_
    obtain ⟨z4, hf⟩ := mj_ck hf
    refine mj_iastr [(71, o1.2.1), (72, o1.2.2), (73, (upd r73 ((((12 : Int32) * x1) + (2 : Int32)).toNatClampNeg) x2)), (78, r78), (79, r79)] rfl s0_73 a0_73 z4 dX11_chance_75 ?_
    refine mj_aload_n 1 dX11_chance_76 rfl ?_
    refine mj_bipush dX11_chance_77 kc_bipush_6 ?_
    refine mj_iload_n 2 dX11_chance_79 rfl ?_
    refine mj_iadd dX11_chance_80 ?_
    refine mj_iload_n 0 dX11_chance_81 rfl ?_
    obtain ⟨o5, ho5, hf⟩ := mj_bd hf
    refine mj_callVd (I2 := (mj_rows I [(71, o5.2.1), (72, o1.2.2), (73, (upd r73 ((((12 : Int32) * x1) + (2 : Int32)).toNatClampNeg) x2)), (78, o5.2.2.1), (79, o5.2.2.2)])) (L2 := L) (s1 := [.int o5.1]) (st := []) [.int ((6 : Int32) + x1), .int o3] (cmX11_changes X.2.1 G F ((6 : Int32) + x1) o3 _ _ o1.2.1 r78 r79 rfl rfl rfl o5 ho5) (mj_rr rfl) rfl cw_X11_200 s0_71 a0_71 (by decide) rfl rfl (Nat.le_of_ble_eq_true rfl) ⟨Nat.zero_le _, Nat.zero_le _⟩ dX11_chance_82 rfl ?_
    obtain rfl := Option.some.inj hf
    have hZ := hq
    replace hZ := mj_u2p hZ
    replace hZ := mj_u2p hZ
    replace hZ := mj_u2p hZ
    replace hZ := mj_u2p hZ
    replace hZ := mj_u2p hZ
    exact mj_iret hR ⟨Nat.le_refl _, Nat.le_refl _⟩ rfl rfl dX11_chance_85 hZ
  · replace hf := mj_pos c2 hf
    refine mj_iconst dX11_chance_55 kc_iconst_0 ?_
    obtain rfl := Option.some.inj hf
    have hZ := hq
    replace hZ := mj_u2p hZ
    replace hZ := mj_u2p hZ
    replace hZ := mj_u2p hZ
    replace hZ := mj_u2p hZ
    replace hZ := mj_u2p hZ
    exact mj_iret hR ⟨Nat.le_refl _, Nat.le_refl _⟩ rfl rfl dX11_chance_56 hZ
set_option maxRecDepth 100000 in
set_option maxHeartbeats 4000000 in
theorem jtX11_chance_46 {X : mj_XT} {l : Launch} {G : mj_GT} {ad : Nat → Nat} {Qn : Option Value → mj_IT → mj_LT → Prop} (hR : mj_R X l G mj_P0 mj_S0 98 ad 0 0 Qn) (F : Nat) (I : mj_IT) (L : mj_LT) (r71 : Nat → Int32) (r72 : Nat → Int32) (r73 : Nat → Int32) (r78 : Nat → Int32) (r79 : Nat → Int32) (x1 : Int32) (x2 : Int32) (o : ((Int32) × (Nat → Int32) × (Nat → Int32) × (Nat → Int32) × (Nat → Int32) × (Nat → Int32))) (hf : jnX11_chance_46 F x1 x2 r71 r72 r73 r78 r79 = some o) (hq : (mj_u2 (fun ov => (mj_u2 (fun r71 => (mj_u2 (fun r72 => (mj_u2 (fun r73 => (mj_u2 (fun r78 r79 => Qn (some (.int ov)) (mj_rows I [(71, r71), (72, r72), (73, r73), (78, r78), (79, r79)]) L)))))))))) o) : mj_W X G RX11 "chance" cX11_chance 4 3 (some .int) mj_P0 mj_S0 98 ad 0 0 46 [(0, .ref 71), (1, .int x1), (2, .int x2)] [.ref 71] (mj_rows I [(71, r71), (72, r72), (73, r73), (78, r78), (79, r79)]) L := by
  unfold jnX11_chance_46 at hf
  refine mj_iconst dX11_chance_46 kc_iconst_0 ?_
  exact jtX11_chance_47 hR F I L r71 r72 r73 r78 r79 x1 x2 (0 : Int32) o hf hq
set_option maxRecDepth 100000 in
set_option maxHeartbeats 4000000 in
theorem mtX11_chance {X : mj_XT} {l : Launch} {G : mj_GT} {ad : Nat → Nat} {Qn : Option Value → mj_IT → mj_LT → Prop} (hR : mj_R X l G mj_P0 mj_S0 98 ad 0 0 Qn) (F : Nat) (I : mj_IT) (L : mj_LT) (r71 : Nat → Int32) (r72 : Nat → Int32) (r73 : Nat → Int32) (r78 : Nat → Int32) (r79 : Nat → Int32) (x1 : Int32) (x2 : Int32) (o : ((Int32) × (Nat → Int32) × (Nat → Int32) × (Nat → Int32) × (Nat → Int32) × (Nat → Int32))) (hf : fnX11_chance F r71 r72 r73 r78 r79 x1 x2 = some o) (hq : (mj_u2 (fun ov => (mj_u2 (fun r71 => (mj_u2 (fun r72 => (mj_u2 (fun r73 => (mj_u2 (fun r78 r79 => Qn (some (.int ov)) (mj_rows I [(71, r71), (72, r72), (73, r73), (78, r78), (79, r79)]) L)))))))))) o) : mj_W X G RX11 "chance" cX11_chance 4 3 (some .int) mj_P0 mj_S0 98 ad 0 0 0 [(0, .ref 71), (1, .int x1), (2, .int x2)] [] (mj_rows I [(71, r71), (72, r72), (73, r73), (78, r78), (79, r79)]) L := by
  unfold fnX11_chance at hf
  refine mj_aload_n 0 dX11_chance_0 rfl ?_
  refine mj_iconst dX11_chance_1 kc_iconst_0 ?_
  refine mj_putIr (ci := 9) (j := 0) [(71, (upd r71 0 (0 : Int32))), (72, r72), (73, r73), (78, r78), (79, r79)] rfl ⟨rfl, rfl⟩ fl_X11_1 rfl rfl s0_71 a0_71 dX11_chance_2 ?_
  refine mj_aload_n 0 dX11_chance_5 rfl ?_
  refine mj_aload_n 0 dX11_chance_6 rfl ?_
  refine mj_iload_n 1 dX11_chance_7 rfl ?_
  obtain ⟨o6, ho6, hf⟩ := mj_bd hf
  refine mj_callVd (I2 := (mj_rows I [(71, (upd r71 0 (0 : Int32))), (72, r72), (73, r73), (78, r78), (79, r79)])) (L2 := L) (s1 := [.int o6, .ref 71]) (st := [.ref 71]) [.int x1] (cmX11_isStatement X.2.1 G F x1 _ _ (upd r71 0 (0 : Int32)) rfl o6 ho6) (mj_rr rfl) rfl cw_X11_203 s0_71 a0_71 (by decide) rfl rfl (Nat.le_of_ble_eq_true rfl) ⟨Nat.zero_le _, Nat.zero_le _⟩ dX11_chance_8 rfl ?_
  refine mj_iconst dX11_chance_11 kc_iconst_1 ?_
  refine mj_iconst dX11_chance_12 kc_iconst_0 ?_
  obtain ⟨o7, ho7, hf⟩ := mj_bd hf
  refine mj_callVd (I2 := (mj_rows I [(71, o7.2.1), (72, o7.2.2), (73, r73), (78, r78), (79, r79)])) (L2 := L) (s1 := [.int o7.1]) (st := []) [.int o6, .int (1 : Int32), .int (0 : Int32)] (cmX11_isFine X.2.1 G F o6 (1 : Int32) (0 : Int32) _ _ (upd r71 0 (0 : Int32)) r72 rfl rfl o7 ho7) (mj_rr rfl) rfl cw_X11_161 s0_71 a0_71 (by decide) rfl rfl (Nat.le_of_ble_eq_true rfl) ⟨Nat.zero_le _, Nat.zero_le _⟩ dX11_chance_13 rfl ?_
  refine mj_if_eq 55 dX11_chance_16 (by decide) (fun c8 => ?_) (fun c8 => ?_)
  · replace hf := mj_pos c8 hf
    refine mj_iconst dX11_chance_55 kc_iconst_0 ?_
    obtain rfl := Option.some.inj hf
    have hZ := hq
    replace hZ := mj_u2p hZ
    replace hZ := mj_u2p hZ
    replace hZ := mj_u2p hZ
    replace hZ := mj_u2p hZ
    replace hZ := mj_u2p hZ
    exact mj_iret hR ⟨Nat.le_refl _, Nat.le_refl _⟩ rfl rfl dX11_chance_56 hZ
  · replace hf := mj_neg c8 hf
    refine mj_aload_n 0 dX11_chance_19 rfl ?_
    refine mj_aload_n 0 dX11_chance_20 rfl ?_
    refine mj_iload_n 1 dX11_chance_21 rfl ?_
    refine mj_iconst dX11_chance_22 kc_iconst_0 ?_
    obtain ⟨o9, ho9, hf⟩ := mj_bd hf
    refine mj_callVd (I2 := (mj_rows I [(71, o7.2.1), (72, o7.2.2), (73, r73), (78, r78), (79, r79)])) (L2 := L) (s1 := [.int o9, .ref 71]) (st := [.ref 71]) [.int x1, .int (0 : Int32)] (cmX11_of X.2.1 G F x1 (0 : Int32) _ _ r73 rfl o9 ho9) (mj_rr rfl) rfl cw_X11_175 s0_71 a0_71 (by decide) rfl rfl (Nat.le_of_ble_eq_true rfl) ⟨Nat.zero_le _, Nat.zero_le _⟩ dX11_chance_23 rfl ?_
    refine mj_iconst dX11_chance_26 kc_iconst_2 ?_
    refine mj_icmp_ne 46 dX11_chance_27 (by decide) (fun c10 => ?_) (fun c10 => ?_)
    · replace hf := mj_neg c10 hf
      exact jtX11_chance_46 hR F I L o7.2.1 o7.2.2 r73 r78 r79 x1 x2 o hf hq
    · replace hf := mj_pos c10 hf
      refine mj_iload_n 2 dX11_chance_30 rfl ?_
      refine mj_i2l dX11_chance_31 ?_
      refine mj_lconst (v := 0) dX11_chance_32 (by decide) ?_
      refine mj_ldc2 kk_X11_206 dX11_chance_33 ?_
      obtain ⟨o11, ho11, hf⟩ := mj_bd hf
      refine mj_callSd (I2 := (mj_rows I [(71, o7.2.1), (72, o7.2.2), (73, r73), (78, r78), (79, r79)])) (L2 := L) (s1 := [.int o11, .ref 71]) (st := [.ref 71]) [.long x2.toInt64, .long (0 : Int64), .long (60 : Int64)] (cmX11_lies X.2.1 G F x2.toInt64 (0 : Int64) (60 : Int64) _ _   o11 ho11) rfl rfl cw_X11_157 (by decide) rfl rfl (Nat.le_of_ble_eq_true rfl) ⟨Nat.zero_le _, Nat.zero_le _⟩ dX11_chance_36 rfl ?_
      refine mj_if_eq 46 dX11_chance_39 (by decide) (fun c12 => ?_) (fun c12 => ?_)
      · replace hf := mj_pos c12 hf
        exact jtX11_chance_46 hR F I L o7.2.1 o7.2.2 r73 r78 r79 x1 x2 o hf hq
      · replace hf := mj_neg c12 hf
        refine mj_iconst dX11_chance_42 kc_iconst_1 ?_
        refine mj_goto 47 dX11_chance_43 (by decide) ?_
        exact jtX11_chance_47 hR F I L o7.2.1 o7.2.2 r73 r78 r79 x1 x2 (1 : Int32) o hf hq
set_option maxRecDepth 100000 in
set_option maxHeartbeats 4000000 in
theorem cmX11_chance (l : Launch) (G : mj_GT) (F : Nat) (x1 : Int32) (x2 : Int32) (I : mj_IT) (L : mj_LT) (r71 : Nat → Int32) (r72 : Nat → Int32) (r73 : Nat → Int32) (r78 : Nat → Int32) (r79 : Nat → Int32) (hr71 : I 71 = r71) (hr72 : I 72 = r72) (hr73 : I 73 = r73) (hr78 : I 78 = r78) (hr79 : I 79 = r79) (o : ((Int32) × (Nat → Int32) × (Nat → Int32) × (Nat → Int32) × (Nat → Int32) × (Nat → Int32))) (hf : fnX11_chance F r71 r72 r73 r78 r79 x1 x2 = some o) : mj_M l G yX11_chance cX11_chance 4 3 (some .int) 0 0 mj_P0 mj_S0 98 [.ref 71, .int x1, .int x2] I L (mj_qd (some (.int o.1)) (mj_rows I [(71, o.2.1), (72, o.2.2.1), (73, o.2.2.2.1), (78, o.2.2.2.2.1), (79, o.2.2.2.2.2)]) L) := by
  refine mj_in RX11 "chance" [(0, .ref 71), (1, .int x1), (2, .int x2)] rfl rfl rfl (by decide) (Nat.le_of_ble_eq_true rfl) (fun X ad hR => ?_)
  refine mj_toI [(71, r71), (72, r72), (73, r73), (78, r78), (79, r79)] (by intro q hq; simp only [List.mem_cons, List.not_mem_nil, or_false] at hq; rcases hq with rfl | rfl | rfl | rfl | rfl <;> assumption) ?_
  refine mtX11_chance hR F I L r71 r72 r73 r78 r79 x1 x2 o hf ?_
  obtain ⟨w0, w1, w2, w3, w4, w5⟩ := o
  refine mj_u2q ?_
  refine mj_u2q ?_
  refine mj_u2q ?_
  refine mj_u2q ?_
  refine mj_u2q ?_
  exact ⟨rfl, rfl, rfl⟩

-- X11_undo
def fnX11_undo (F : Nat) (r71 : Nat → Int32) (r73 : Nat → Int32) (r75 : Nat → Int32) (r78 : Nat → Int32) (r79 : Nat → Int32) : Option ((Int32) × (Nat → Int32) × (Nat → Int32) × (Nat → Int32)) := (if (r71 17) = 0 then some ((-1 : Int32), (upd r71 0 (0 : Int32)), r73, r75) else (if mj_ib ((r71 17) - (1 : Int32)) 13 = true then (if (6 : Int32) ≤ (r78 (((r71 17) - (1 : Int32)).toNatClampNeg)) then (if mj_ib ((r71 17) - (1 : Int32)) 13 = true then (if mj_ib (((12 : Int32) * ((r78 (((r71 17) - (1 : Int32)).toNatClampNeg)) - (6 : Int32))) + (2 : Int32)) 480 = true then (fnX11_isOther F (upd (upd r71 0 (0 : Int32)) 17 ((r71 17) - (1 : Int32)))).bind (fun o6 => some ((o6 17), o6, (upd r73 ((((12 : Int32) * ((r78 (((r71 17) - (1 : Int32)).toNatClampNeg)) - (6 : Int32))) + (2 : Int32)).toNatClampNeg) (r79 (((r71 17) - (1 : Int32)).toNatClampNeg))), r75)) else none) else none) else (if mj_ib ((r71 17) - (1 : Int32)) 13 = true then (if mj_ib (r78 (((r71 17) - (1 : Int32)).toNatClampNeg)) 6 = true then (fnX11_isOther F (upd (upd r71 0 (0 : Int32)) 17 ((r71 17) - (1 : Int32)))).bind (fun o9 => some ((o9 17), o9, r73, (upd r75 ((r78 (((r71 17) - (1 : Int32)).toNatClampNeg)).toNatClampNeg) (r79 (((r71 17) - (1 : Int32)).toNatClampNeg))))) else none) else none)) else none))
set_option maxRecDepth 100000 in
set_option maxHeartbeats 4000000 in
theorem mtX11_undo {X : mj_XT} {l : Launch} {G : mj_GT} {ad : Nat → Nat} {Qn : Option Value → mj_IT → mj_LT → Prop} (hR : mj_R X l G mj_P0 mj_S0 98 ad 0 0 Qn) (F : Nat) (I : mj_IT) (L : mj_LT) (r71 : Nat → Int32) (r73 : Nat → Int32) (r75 : Nat → Int32) (r78 : Nat → Int32) (r79 : Nat → Int32) (o : ((Int32) × (Nat → Int32) × (Nat → Int32) × (Nat → Int32))) (hf : fnX11_undo F r71 r73 r75 r78 r79 = some o) (hq : (mj_u2 (fun ov => (mj_u2 (fun r71 => (mj_u2 (fun r73 r75 => Qn (some (.int ov)) (mj_rows I [(71, r71), (73, r73), (75, r75), (78, r78), (79, r79)]) L)))))) o) : mj_W X G RX11 "undo" cX11_undo 2 2 (some .int) mj_P0 mj_S0 98 ad 0 0 0 [(0, .ref 71)] [] (mj_rows I [(71, r71), (73, r73), (75, r75), (78, r78), (79, r79)]) L := by
  unfold fnX11_undo at hf
  refine mj_aload_n 0 dX11_undo_0 rfl ?_
  refine mj_iconst dX11_undo_1 kc_iconst_0 ?_
  refine mj_putIr (ci := 9) (j := 0) [(71, (upd r71 0 (0 : Int32))), (73, r73), (75, r75), (78, r78), (79, r79)] rfl ⟨rfl, rfl⟩ fl_X11_1 rfl rfl s0_71 a0_71 dX11_undo_2 ?_
  refine mj_aload_n 0 dX11_undo_5 rfl ?_
  refine mj_getIv (v := (r71 17)) rfl fl_X11_181 rfl s0_71 a0_71 dX11_undo_6 ?_
  refine mj_if_ne 14 dX11_undo_9 (by decide) (fun c1 => ?_) (fun c1 => ?_)
  · replace hf := mj_neg c1 hf
    refine mj_aload_n 0 dX11_undo_14 rfl ?_
    refine mj_dup dX11_undo_15 rfl ?_
    refine mj_getIv (v := (r71 17)) rfl fl_X11_181 rfl s0_71 a0_71 dX11_undo_16 ?_
    refine mj_iconst dX11_undo_19 kc_iconst_1 ?_
    refine mj_isub dX11_undo_20 ?_
    refine mj_putIr (ci := 9) (j := 17) [(71, (upd (upd r71 0 (0 : Int32)) 17 ((r71 17) - (1 : Int32)))), (73, r73), (75, r75), (78, r78), (79, r79)] rfl ⟨rfl, rfl⟩ fl_X11_181 rfl rfl s0_71 a0_71 dX11_undo_21 ?_
    refine mj_aload_n 0 dX11_undo_24 rfl ?_
    refine mj_getP p0_71_18 (by decide) fl_X11_187 rfl s0_71 a0_71 dX11_undo_25 ?_
    refine mj_aload_n 0 dX11_undo_28 rfl ?_
    refine mj_getIv (v := ((r71 17) - (1 : Int32))) rfl fl_X11_181 rfl s0_71 a0_71 dX11_undo_29 ?_
    obtain ⟨z2, hf⟩ := mj_ck hf
    refine mj_ialdv (x := r78) rfl s0_78 a0_78 z2 dX11_undo_32 ?_
    refine mj_istore_n [(1, .int (r78 (((r71 17) - (1 : Int32)).toNatClampNeg))), (0, .ref 71)] dX11_undo_33 rfl (by decide) rfl ?_
    refine mj_iload_n 0 dX11_undo_34 rfl ?_
    refine mj_bipush dX11_undo_35 kc_bipush_6 ?_
    refine mj_icmp_ge 58 dX11_undo_37 (by decide) (fun c3 => ?_) (fun c3 => ?_)
    · replace hf := mj_pos c3 hf
      refine mj_aload_n 1 dX11_undo_58 rfl ?_
      refine mj_getP p0_71_2 (by decide) fl_X11_11 rfl s0_71 a0_71 dX11_undo_59 ?_
      refine mj_bipush dX11_undo_62 kc_bipush_12 ?_
      refine mj_iload_n 0 dX11_undo_64 rfl ?_
      refine mj_bipush dX11_undo_65 kc_bipush_6 ?_
      refine mj_isub dX11_undo_67 ?_
      refine mj_imul dX11_undo_68 ?_
      refine mj_iconst dX11_undo_69 kc_iconst_2 ?_
      refine mj_iadd dX11_undo_70 ?_
      refine mj_aload_n 1 dX11_undo_71 rfl ?_
      refine mj_getP p0_71_19 (by decide) fl_X11_190 rfl s0_71 a0_71 dX11_undo_72 ?_
      refine mj_aload_n 1 dX11_undo_75 rfl ?_
      refine mj_getIv (v := ((r71 17) - (1 : Int32))) rfl fl_X11_181 rfl s0_71 a0_71 dX11_undo_76 ?_
      obtain ⟨z4, hf⟩ := mj_ck hf
      refine mj_ialdv (x := r79) rfl s0_79 a0_79 z4 dX11_undo_79 ?_
      obtain ⟨z5, hf⟩ := mj_ck hf
      refine mj_iastr [(71, (upd (upd r71 0 (0 : Int32)) 17 ((r71 17) - (1 : Int32)))), (73, (upd r73 ((((12 : Int32) * ((r78 (((r71 17) - (1 : Int32)).toNatClampNeg)) - (6 : Int32))) + (2 : Int32)).toNatClampNeg) (r79 (((r71 17) - (1 : Int32)).toNatClampNeg)))), (75, r75), (78, r78), (79, r79)] rfl s0_73 a0_73 z5 dX11_undo_80 ?_
      refine mj_aload_n 1 dX11_undo_81 rfl ?_
      obtain ⟨o6, ho6, hf⟩ := mj_bd hf
      refine mj_callVd (I2 := (mj_rows I [(71, o6), (73, (upd r73 ((((12 : Int32) * ((r78 (((r71 17) - (1 : Int32)).toNatClampNeg)) - (6 : Int32))) + (2 : Int32)).toNatClampNeg) (r79 (((r71 17) - (1 : Int32)).toNatClampNeg)))), (75, r75), (78, r78), (79, r79)])) (L2 := L) (s1 := []) (st := []) [] (cmX11_isOther X.2.1 G F  _ _ (upd (upd r71 0 (0 : Int32)) 17 ((r71 17) - (1 : Int32))) rfl o6 ho6) (mj_rr rfl) rfl cw_X11_184 s0_71 a0_71 (by decide) rfl rfl (Nat.le_of_ble_eq_true rfl) ⟨Nat.zero_le _, Nat.zero_le _⟩ dX11_undo_82 rfl ?_
      refine mj_aload_n 1 dX11_undo_85 rfl ?_
      refine mj_getIv (v := (o6 17)) rfl fl_X11_181 rfl s0_71 a0_71 dX11_undo_86 ?_
      obtain rfl := Option.some.inj hf
      have hZ := hq
      replace hZ := mj_u2p hZ
      replace hZ := mj_u2p hZ
      replace hZ := mj_u2p hZ
      exact mj_iret hR ⟨Nat.le_refl _, Nat.le_refl _⟩ rfl rfl dX11_undo_89 hZ
    · replace hf := mj_neg c3 hf
      refine mj_aload_n 1 dX11_undo_40 rfl ?_
      refine mj_getP p0_71_6 (by decide) fl_X11_178 rfl s0_71 a0_71 dX11_undo_41 ?_
      refine mj_iload_n 0 dX11_undo_44 rfl ?_
      refine mj_aload_n 1 dX11_undo_45 rfl ?_
      refine mj_getP p0_71_19 (by decide) fl_X11_190 rfl s0_71 a0_71 dX11_undo_46 ?_
      refine mj_aload_n 1 dX11_undo_49 rfl ?_
      refine mj_getIv (v := ((r71 17) - (1 : Int32))) rfl fl_X11_181 rfl s0_71 a0_71 dX11_undo_50 ?_
      obtain ⟨z7, hf⟩ := mj_ck hf
      refine mj_ialdv (x := r79) rfl s0_79 a0_79 z7 dX11_undo_53 ?_
      obtain ⟨z8, hf⟩ := mj_ck hf
      refine mj_iastr [(71, (upd (upd r71 0 (0 : Int32)) 17 ((r71 17) - (1 : Int32)))), (73, r73), (75, (upd r75 ((r78 (((r71 17) - (1 : Int32)).toNatClampNeg)).toNatClampNeg) (r79 (((r71 17) - (1 : Int32)).toNatClampNeg)))), (78, r78), (79, r79)] rfl s0_75 a0_75 z8 dX11_undo_54 ?_
      refine mj_goto 81 dX11_undo_55 (by decide) ?_
      refine mj_aload_n 1 dX11_undo_81 rfl ?_
      obtain ⟨o9, ho9, hf⟩ := mj_bd hf
      refine mj_callVd (I2 := (mj_rows I [(71, o9), (73, r73), (75, (upd r75 ((r78 (((r71 17) - (1 : Int32)).toNatClampNeg)).toNatClampNeg) (r79 (((r71 17) - (1 : Int32)).toNatClampNeg)))), (78, r78), (79, r79)])) (L2 := L) (s1 := []) (st := []) [] (cmX11_isOther X.2.1 G F  _ _ (upd (upd r71 0 (0 : Int32)) 17 ((r71 17) - (1 : Int32))) rfl o9 ho9) (mj_rr rfl) rfl cw_X11_184 s0_71 a0_71 (by decide) rfl rfl (Nat.le_of_ble_eq_true rfl) ⟨Nat.zero_le _, Nat.zero_le _⟩ dX11_undo_82 rfl ?_
      refine mj_aload_n 1 dX11_undo_85 rfl ?_
      refine mj_getIv (v := (o9 17)) rfl fl_X11_181 rfl s0_71 a0_71 dX11_undo_86 ?_
      obtain rfl := Option.some.inj hf
      have hZ := hq
      replace hZ := mj_u2p hZ
      replace hZ := mj_u2p hZ
      replace hZ := mj_u2p hZ
      exact mj_iret hR ⟨Nat.le_refl _, Nat.le_refl _⟩ rfl rfl dX11_undo_89 hZ
  · replace hf := mj_pos c1 hf
    refine mj_iconst dX11_undo_12 kc_iconst_m1 ?_
    obtain rfl := Option.some.inj hf
    have hZ := hq
    replace hZ := mj_u2p hZ
    replace hZ := mj_u2p hZ
    replace hZ := mj_u2p hZ
    exact mj_iret hR ⟨Nat.le_refl _, Nat.le_refl _⟩ rfl rfl dX11_undo_13 hZ
set_option maxRecDepth 100000 in
set_option maxHeartbeats 4000000 in
theorem cmX11_undo (l : Launch) (G : mj_GT) (F : Nat) (I : mj_IT) (L : mj_LT) (r71 : Nat → Int32) (r73 : Nat → Int32) (r75 : Nat → Int32) (r78 : Nat → Int32) (r79 : Nat → Int32) (hr71 : I 71 = r71) (hr73 : I 73 = r73) (hr75 : I 75 = r75) (hr78 : I 78 = r78) (hr79 : I 79 = r79) (o : ((Int32) × (Nat → Int32) × (Nat → Int32) × (Nat → Int32))) (hf : fnX11_undo F r71 r73 r75 r78 r79 = some o) : mj_M l G yX11_undo cX11_undo 2 2 (some .int) 0 0 mj_P0 mj_S0 98 [.ref 71] I L (mj_qd (some (.int o.1)) (mj_rows I [(71, o.2.1), (73, o.2.2.1), (75, o.2.2.2), (78, r78), (79, r79)]) L) := by
  refine mj_in RX11 "undo" [(0, .ref 71)] rfl rfl rfl (by decide) (Nat.le_of_ble_eq_true rfl) (fun X ad hR => ?_)
  refine mj_toI [(71, r71), (73, r73), (75, r75), (78, r78), (79, r79)] (by intro q hq; simp only [List.mem_cons, List.not_mem_nil, or_false] at hq; rcases hq with rfl | rfl | rfl | rfl | rfl <;> assumption) ?_
  refine mtX11_undo hR F I L r71 r73 r75 r78 r79 o hf ?_
  obtain ⟨w0, w1, w2, w3⟩ := o
  refine mj_u2q ?_
  refine mj_u2q ?_
  refine mj_u2q ?_
  exact ⟨rfl, rfl, rfl⟩

-- X11_valueIn
def fnX11_valueIn (F : Nat) (r87 : Nat → Int32) (x1 : Int32) (x2 : Int32) : Option ((Int32)) := (if mj_ib x2 6 = true then (if (r87 x2.toNatClampNeg) = 0 then none else some ((x1 / (r87 x2.toNatClampNeg)) - (x1 / (r87 x2.toNatClampNeg)) / (10 : Int32) * (10 : Int32))) else none)
set_option maxRecDepth 100000 in
set_option maxHeartbeats 4000000 in
theorem mtX11_valueIn {X : mj_XT} {l : Launch} {G : mj_GT} {ad : Nat → Nat} {Qn : Option Value → mj_IT → mj_LT → Prop} (hR : mj_R X l G mj_P0 mj_S0 98 ad 0 0 Qn) (F : Nat) (I : mj_IT) (L : mj_LT) (r87 : Nat → Int32) (x1 : Int32) (x2 : Int32) (o : ((Int32))) (hf : fnX11_valueIn F r87 x1 x2 = some o) (hq : (fun ov => Qn (some (.int ov)) (mj_rows I [(87, r87)]) L) o) : mj_W X G RX11 "valueIn" cX11_valueIn 3 1 (some .int) mj_P0 mj_S0 98 ad 0 0 0 [(0, .ref 71), (1, .int x1), (2, .int x2)] [] (mj_rows I [(87, r87)]) L := by
  unfold fnX11_valueIn at hf
  refine mj_iload_n 1 dX11_valueIn_0 rfl ?_
  refine mj_aload_n 0 dX11_valueIn_1 rfl ?_
  refine mj_getP p0_71_34 (by decide) fl_X11_215 rfl s0_71 a0_71 dX11_valueIn_2 ?_
  refine mj_iload_n 2 dX11_valueIn_5 rfl ?_
  obtain ⟨z1, hf⟩ := mj_ck hf
  refine mj_ialdv (x := r87) rfl s0_87 a0_87 z1 dX11_valueIn_6 ?_
  obtain ⟨z2, hf⟩ := mj_nz hf
  refine mj_idiv dX11_valueIn_7 z2 ?_
  refine mj_bipush dX11_valueIn_8 kc_bipush_10 ?_
  refine mj_irem dX11_valueIn_10 (by decide) ?_
  obtain rfl := Option.some.inj hf
  have hZ := hq
  exact mj_iret hR ⟨Nat.le_refl _, Nat.le_refl _⟩ rfl rfl dX11_valueIn_11 hZ
set_option maxRecDepth 100000 in
set_option maxHeartbeats 4000000 in
theorem cmX11_valueIn (l : Launch) (G : mj_GT) (F : Nat) (x1 : Int32) (x2 : Int32) (I : mj_IT) (L : mj_LT) (r87 : Nat → Int32) (hr87 : I 87 = r87) (o : ((Int32))) (hf : fnX11_valueIn F r87 x1 x2 = some o) : mj_M l G yX11_valueIn cX11_valueIn 3 1 (some .int) 0 0 mj_P0 mj_S0 98 [.ref 71, .int x1, .int x2] I L (mj_qd (some (.int o)) (mj_rows I [(87, r87)]) L) := by
  refine mj_in RX11 "valueIn" [(0, .ref 71), (1, .int x1), (2, .int x2)] rfl rfl rfl (by decide) (Nat.le_of_ble_eq_true rfl) (fun X ad hR => ?_)
  refine mj_toI [(87, r87)] (by intro q hq; simp only [List.mem_cons, List.not_mem_nil, or_false] at hq; rcases hq with rfl <;> assumption) ?_
  refine mtX11_valueIn hR F I L r87 x1 x2 o hf ?_
  exact ⟨rfl, rfl, rfl⟩

-- X11_with
def fnX11_with (F : Nat) (r87 : Nat → Int32) (x1 : Int32) (x2 : Int32) (x3 : Int32) : Option ((Int32)) := (fnX11_valueIn F r87 x1 x2).bind (fun o1 => (if mj_ib x2 6 = true then some (x1 + ((x3 - o1) * (r87 x2.toNatClampNeg))) else none))
set_option maxRecDepth 100000 in
set_option maxHeartbeats 4000000 in
theorem mtX11_with {X : mj_XT} {l : Launch} {G : mj_GT} {ad : Nat → Nat} {Qn : Option Value → mj_IT → mj_LT → Prop} (hR : mj_R X l G mj_P0 mj_S0 98 ad 0 0 Qn) (F : Nat) (I : mj_IT) (L : mj_LT) (r87 : Nat → Int32) (x1 : Int32) (x2 : Int32) (x3 : Int32) (o : ((Int32))) (hf : fnX11_with F r87 x1 x2 x3 = some o) (hq : (fun ov => Qn (some (.int ov)) (mj_rows I [(87, r87)]) L) o) : mj_W X G RX11 "with" cX11_with 4 2 (some .int) mj_P0 mj_S0 98 ad 0 0 0 [(0, .ref 71), (1, .int x1), (2, .int x2), (3, .int x3)] [] (mj_rows I [(87, r87)]) L := by
  unfold fnX11_with at hf
  refine mj_iload_n 1 dX11_with_0 rfl ?_
  refine mj_iload_n 3 dX11_with_1 rfl ?_
  refine mj_aload_n 0 dX11_with_2 rfl ?_
  refine mj_iload_n 1 dX11_with_3 rfl ?_
  refine mj_iload_n 2 dX11_with_4 rfl ?_
  obtain ⟨o1, ho1, hf⟩ := mj_bd hf
  refine mj_callVd (I2 := (mj_rows I [(87, r87)])) (L2 := L) (s1 := [.int o1, .int x3, .int x1]) (st := [.int x3, .int x1]) [.int x1, .int x2] (cmX11_valueIn X.2.1 G F x1 x2 _ _ r87 rfl o1 ho1) (mj_rr rfl) rfl cw_X11_218 s0_71 a0_71 (by decide) rfl rfl (Nat.le_of_ble_eq_true rfl) ⟨Nat.zero_le _, Nat.zero_le _⟩ dX11_with_5 rfl ?_
  refine mj_isub dX11_with_8 ?_
  refine mj_aload_n 0 dX11_with_9 rfl ?_
  refine mj_getP p0_71_34 (by decide) fl_X11_215 rfl s0_71 a0_71 dX11_with_10 ?_
  refine mj_iload_n 2 dX11_with_13 rfl ?_
  obtain ⟨z2, hf⟩ := mj_ck hf
  refine mj_ialdv (x := r87) rfl s0_87 a0_87 z2 dX11_with_14 ?_
  refine mj_imul dX11_with_15 ?_
  refine mj_iadd dX11_with_16 ?_
  obtain rfl := Option.some.inj hf
  have hZ := hq
  exact mj_iret hR ⟨Nat.le_refl _, Nat.le_refl _⟩ rfl rfl dX11_with_17 hZ
set_option maxRecDepth 100000 in
set_option maxHeartbeats 4000000 in
theorem cmX11_with (l : Launch) (G : mj_GT) (F : Nat) (x1 : Int32) (x2 : Int32) (x3 : Int32) (I : mj_IT) (L : mj_LT) (r87 : Nat → Int32) (hr87 : I 87 = r87) (o : ((Int32))) (hf : fnX11_with F r87 x1 x2 x3 = some o) : mj_M l G yX11_with cX11_with 4 2 (some .int) 0 0 mj_P0 mj_S0 98 [.ref 71, .int x1, .int x2, .int x3] I L (mj_qd (some (.int o)) (mj_rows I [(87, r87)]) L) := by
  refine mj_in RX11 "with" [(0, .ref 71), (1, .int x1), (2, .int x2), (3, .int x3)] rfl rfl rfl (by decide) (Nat.le_of_ble_eq_true rfl) (fun X ad hR => ?_)
  refine mj_toI [(87, r87)] (by intro q hq; simp only [List.mem_cons, List.not_mem_nil, or_false] at hq; rcases hq with rfl <;> assumption) ?_
  refine mtX11_with hR F I L r87 x1 x2 x3 o hf ?_
  exact ⟨rfl, rfl, rfl⟩

-- X11_termIn
def fnX11_termIn (F : Nat) (r87 : Nat → Int32) (x1 : Int32) (x2 : Int32) : Option ((Int32)) := (if 0 ≤ x2 then (fnX11_valueIn F r87 x1 x2).bind (fun o2 => some o2) else some (x2 + (10 : Int32)))
set_option maxRecDepth 100000 in
set_option maxHeartbeats 4000000 in
theorem mtX11_termIn {X : mj_XT} {l : Launch} {G : mj_GT} {ad : Nat → Nat} {Qn : Option Value → mj_IT → mj_LT → Prop} (hR : mj_R X l G mj_P0 mj_S0 98 ad 0 0 Qn) (F : Nat) (I : mj_IT) (L : mj_LT) (r87 : Nat → Int32) (x1 : Int32) (x2 : Int32) (o : ((Int32))) (hf : fnX11_termIn F r87 x1 x2 = some o) (hq : (fun ov => Qn (some (.int ov)) (mj_rows I [(87, r87)]) L) o) : mj_W X G RX11 "termIn" cX11_termIn 3 2 (some .int) mj_P0 mj_S0 98 ad 0 0 0 [(0, .ref 71), (1, .int x1), (2, .int x2)] [] (mj_rows I [(87, r87)]) L := by
  unfold fnX11_termIn at hf
  refine mj_iload_n 2 dX11_termIn_0 rfl ?_
  refine mj_if_ge 11 dX11_termIn_1 (by decide) (fun c1 => ?_) (fun c1 => ?_)
  · replace hf := mj_pos c1 hf
    refine mj_aload_n 0 dX11_termIn_11 rfl ?_
    refine mj_iload_n 1 dX11_termIn_12 rfl ?_
    refine mj_iload_n 2 dX11_termIn_13 rfl ?_
    obtain ⟨o2, ho2, hf⟩ := mj_bd hf
    refine mj_callVd (I2 := (mj_rows I [(87, r87)])) (L2 := L) (s1 := [.int o2]) (st := []) [.int x1, .int x2] (cmX11_valueIn X.2.1 G F x1 x2 _ _ r87 rfl o2 ho2) (mj_rr rfl) rfl cw_X11_218 s0_71 a0_71 (by decide) rfl rfl (Nat.le_of_ble_eq_true rfl) ⟨Nat.zero_le _, Nat.zero_le _⟩ dX11_termIn_14 rfl ?_
    obtain rfl := Option.some.inj hf
    have hZ := hq
    exact mj_iret hR ⟨Nat.le_refl _, Nat.le_refl _⟩ rfl rfl dX11_termIn_17 hZ
  · replace hf := mj_neg c1 hf
    refine mj_iload_n 2 dX11_termIn_4 rfl ?_
    refine mj_bipush dX11_termIn_5 kc_bipush_10 ?_
    refine mj_iadd dX11_termIn_7 ?_
    refine mj_goto 17 dX11_termIn_8 (by decide) ?_
    obtain rfl := Option.some.inj hf
    have hZ := hq
    exact mj_iret hR ⟨Nat.le_refl _, Nat.le_refl _⟩ rfl rfl dX11_termIn_17 hZ
set_option maxRecDepth 100000 in
set_option maxHeartbeats 4000000 in
theorem cmX11_termIn (l : Launch) (G : mj_GT) (F : Nat) (x1 : Int32) (x2 : Int32) (I : mj_IT) (L : mj_LT) (r87 : Nat → Int32) (hr87 : I 87 = r87) (o : ((Int32))) (hf : fnX11_termIn F r87 x1 x2 = some o) : mj_M l G yX11_termIn cX11_termIn 3 2 (some .int) 0 0 mj_P0 mj_S0 98 [.ref 71, .int x1, .int x2] I L (mj_qd (some (.int o)) (mj_rows I [(87, r87)]) L) := by
  refine mj_in RX11 "termIn" [(0, .ref 71), (1, .int x1), (2, .int x2)] rfl rfl rfl (by decide) (Nat.le_of_ble_eq_true rfl) (fun X ad hR => ?_)
  refine mj_toI [(87, r87)] (by intro q hq; simp only [List.mem_cons, List.not_mem_nil, or_false] at hq; rcases hq with rfl <;> assumption) ?_
  refine mtX11_termIn hR F I L r87 x1 x2 o hf ?_
  exact ⟨rfl, rfl, rfl⟩

-- X11_sumIn
def fnX11_sumIn (F : Nat) (r73 : Nat → Int32) (r87 : Nat → Int32) (x1 : Int32) (x2 : Int32) : Option ((Int32)) := (if mj_ib x2 480 = true then (fnX11_termIn F r87 x1 (r73 x2.toNatClampNeg)).bind (fun o2 => (if mj_ib (x2 + (2 : Int32)) 480 = true then (if mj_ib (x2 + (1 : Int32)) 480 = true then (fnX11_termIn F r87 x1 (r73 ((x2 + (1 : Int32)).toNatClampNeg))).bind (fun o5 => some (((o2 + ((r73 ((x2 + (2 : Int32)).toNatClampNeg)) * o5)) + (10 : Int32)) - ((o2 + ((r73 ((x2 + (2 : Int32)).toNatClampNeg)) * o5)) + (10 : Int32)) / (10 : Int32) * (10 : Int32))) else none) else none)) else none)
set_option maxRecDepth 100000 in
set_option maxHeartbeats 4000000 in
theorem mtX11_sumIn {X : mj_XT} {l : Launch} {G : mj_GT} {ad : Nat → Nat} {Qn : Option Value → mj_IT → mj_LT → Prop} (hR : mj_R X l G mj_P0 mj_S0 98 ad 0 0 Qn) (F : Nat) (I : mj_IT) (L : mj_LT) (r73 : Nat → Int32) (r87 : Nat → Int32) (x1 : Int32) (x2 : Int32) (o : ((Int32))) (hf : fnX11_sumIn F r73 r87 x1 x2 = some o) (hq : (fun ov => Qn (some (.int ov)) (mj_rows I [(73, r73), (87, r87)]) L) o) : mj_W X G RX11 "sumIn" cX11_sumIn 3 3 (some .int) mj_P0 mj_S0 98 ad 0 0 0 [(0, .ref 71), (1, .int x1), (2, .int x2)] [] (mj_rows I [(73, r73), (87, r87)]) L := by
  unfold fnX11_sumIn at hf
  refine mj_aload_n 0 dX11_sumIn_0 rfl ?_
  refine mj_iload_n 1 dX11_sumIn_1 rfl ?_
  refine mj_aload_n 0 dX11_sumIn_2 rfl ?_
  refine mj_getP p0_71_2 (by decide) fl_X11_11 rfl s0_71 a0_71 dX11_sumIn_3 ?_
  refine mj_iload_n 2 dX11_sumIn_6 rfl ?_
  obtain ⟨z1, hf⟩ := mj_ck hf
  refine mj_ialdv (x := r73) rfl s0_73 a0_73 z1 dX11_sumIn_7 ?_
  obtain ⟨o2, ho2, hf⟩ := mj_bd hf
  refine mj_callVd (I2 := (mj_rows I [(73, r73), (87, r87)])) (L2 := L) (s1 := [.int o2]) (st := []) [.int x1, .int (r73 x2.toNatClampNeg)] (cmX11_termIn X.2.1 G F x1 (r73 x2.toNatClampNeg) _ _ r87 rfl o2 ho2) (mj_rr rfl) rfl cw_X11_221 s0_71 a0_71 (by decide) rfl rfl (Nat.le_of_ble_eq_true rfl) ⟨Nat.zero_le _, Nat.zero_le _⟩ dX11_sumIn_8 rfl ?_
  refine mj_aload_n 0 dX11_sumIn_11 rfl ?_
  refine mj_getP p0_71_2 (by decide) fl_X11_11 rfl s0_71 a0_71 dX11_sumIn_12 ?_
  refine mj_iload_n 2 dX11_sumIn_15 rfl ?_
  refine mj_iconst dX11_sumIn_16 kc_iconst_2 ?_
  refine mj_iadd dX11_sumIn_17 ?_
  obtain ⟨z3, hf⟩ := mj_ck hf
  refine mj_ialdv (x := r73) rfl s0_73 a0_73 z3 dX11_sumIn_18 ?_
  refine mj_aload_n 0 dX11_sumIn_19 rfl ?_
  refine mj_iload_n 1 dX11_sumIn_20 rfl ?_
  refine mj_aload_n 0 dX11_sumIn_21 rfl ?_
  refine mj_getP p0_71_2 (by decide) fl_X11_11 rfl s0_71 a0_71 dX11_sumIn_22 ?_
  refine mj_iload_n 2 dX11_sumIn_25 rfl ?_
  refine mj_iconst dX11_sumIn_26 kc_iconst_1 ?_
  refine mj_iadd dX11_sumIn_27 ?_
  obtain ⟨z4, hf⟩ := mj_ck hf
  refine mj_ialdv (x := r73) rfl s0_73 a0_73 z4 dX11_sumIn_28 ?_
  obtain ⟨o5, ho5, hf⟩ := mj_bd hf
  refine mj_callVd (I2 := (mj_rows I [(73, r73), (87, r87)])) (L2 := L) (s1 := [.int o5, .int (r73 ((x2 + (2 : Int32)).toNatClampNeg)), .int o2]) (st := [.int (r73 ((x2 + (2 : Int32)).toNatClampNeg)), .int o2]) [.int x1, .int (r73 ((x2 + (1 : Int32)).toNatClampNeg))] (cmX11_termIn X.2.1 G F x1 (r73 ((x2 + (1 : Int32)).toNatClampNeg)) _ _ r87 rfl o5 ho5) (mj_rr rfl) rfl cw_X11_221 s0_71 a0_71 (by decide) rfl rfl (Nat.le_of_ble_eq_true rfl) ⟨Nat.zero_le _, Nat.zero_le _⟩ dX11_sumIn_29 rfl ?_
  refine mj_imul dX11_sumIn_32 ?_
  refine mj_iadd dX11_sumIn_33 ?_
  refine mj_bipush dX11_sumIn_34 kc_bipush_10 ?_
  refine mj_iadd dX11_sumIn_36 ?_
  refine mj_bipush dX11_sumIn_37 kc_bipush_10 ?_
  refine mj_irem dX11_sumIn_39 (by decide) ?_
  obtain rfl := Option.some.inj hf
  have hZ := hq
  exact mj_iret hR ⟨Nat.le_refl _, Nat.le_refl _⟩ rfl rfl dX11_sumIn_40 hZ
set_option maxRecDepth 100000 in
set_option maxHeartbeats 4000000 in
theorem cmX11_sumIn (l : Launch) (G : mj_GT) (F : Nat) (x1 : Int32) (x2 : Int32) (I : mj_IT) (L : mj_LT) (r73 : Nat → Int32) (r87 : Nat → Int32) (hr73 : I 73 = r73) (hr87 : I 87 = r87) (o : ((Int32))) (hf : fnX11_sumIn F r73 r87 x1 x2 = some o) : mj_M l G yX11_sumIn cX11_sumIn 3 3 (some .int) 0 0 mj_P0 mj_S0 98 [.ref 71, .int x1, .int x2] I L (mj_qd (some (.int o)) (mj_rows I [(73, r73), (87, r87)]) L) := by
  refine mj_in RX11 "sumIn" [(0, .ref 71), (1, .int x1), (2, .int x2)] rfl rfl rfl (by decide) (Nat.le_of_ble_eq_true rfl) (fun X ad hR => ?_)
  refine mj_toI [(73, r73), (87, r87)] (by intro q hq; simp only [List.mem_cons, List.not_mem_nil, or_false] at hq; rcases hq with rfl | rfl <;> assumption) ?_
  refine mtX11_sumIn hR F I L r73 r87 x1 x2 o hf ?_
  exact ⟨rfl, rfl, rfl⟩

-- X11_holds
def fnX11_holds (F : Nat) (r73 : Nat → Int32) (r87 : Nat → Int32) (x1 : Int32) (x2 : Int32) : Option ((Int32)) := (fnX11_sumIn F r73 r87 x1 (((12 : Int32) * x2) + (5 : Int32))).bind (fun o1 => (fnX11_sumIn F r73 r87 x1 (((12 : Int32) * x2) + (8 : Int32))).bind (fun o2 => (fnX11_of F r73 x2 (11 : Int32)).bind (fun o3 => (if o3 = (61 : Int32) then (if o1 = o2 then some (1 : Int32) else some (0 : Int32)) else (if o3 = (60 : Int32) then (if o2 ≤ o1 then some (0 : Int32) else some (1 : Int32)) else (if o1 = o2 then some (0 : Int32) else some (1 : Int32)))))))
set_option maxRecDepth 100000 in
set_option maxHeartbeats 4000000 in
theorem mtX11_holds {X : mj_XT} {l : Launch} {G : mj_GT} {ad : Nat → Nat} {Qn : Option Value → mj_IT → mj_LT → Prop} (hR : mj_R X l G mj_P0 mj_S0 98 ad 0 0 Qn) (F : Nat) (I : mj_IT) (L : mj_LT) (r73 : Nat → Int32) (r87 : Nat → Int32) (x1 : Int32) (x2 : Int32) (o : ((Int32))) (hf : fnX11_holds F r73 r87 x1 x2 = some o) (hq : (fun ov => Qn (some (.int ov)) (mj_rows I [(73, r73), (87, r87)]) L) o) : mj_W X G RX11 "holds" cX11_holds 6 4 (some .boolean) mj_P0 mj_S0 98 ad 0 0 0 [(0, .ref 71), (1, .int x1), (2, .int x2)] [] (mj_rows I [(73, r73), (87, r87)]) L := by
  unfold fnX11_holds at hf
  refine mj_aload_n 0 dX11_holds_0 rfl ?_
  refine mj_iload_n 1 dX11_holds_1 rfl ?_
  refine mj_bipush dX11_holds_2 kc_bipush_12 ?_
  refine mj_iload_n 2 dX11_holds_4 rfl ?_
  refine mj_imul dX11_holds_5 ?_
  refine mj_iconst dX11_holds_6 kc_iconst_5 ?_
  refine mj_iadd dX11_holds_7 ?_
  obtain ⟨o1, ho1, hf⟩ := mj_bd hf
  refine mj_callVd (I2 := (mj_rows I [(73, r73), (87, r87)])) (L2 := L) (s1 := [.int o1]) (st := []) [.int x1, .int (((12 : Int32) * x2) + (5 : Int32))] (cmX11_sumIn X.2.1 G F x1 (((12 : Int32) * x2) + (5 : Int32)) _ _ r73 r87 rfl rfl o1 ho1) (mj_rr rfl) rfl cw_X11_224 s0_71 a0_71 (by decide) rfl rfl (Nat.le_of_ble_eq_true rfl) ⟨Nat.zero_le _, Nat.zero_le _⟩ dX11_holds_8 rfl ?_
  refine mj_istore_n [(3, .int o1), (0, .ref 71), (1, .int x1), (2, .int x2)] dX11_holds_11 rfl (by decide) rfl ?_
  refine mj_aload_n 1 dX11_holds_12 rfl ?_
  refine mj_iload_n 2 dX11_holds_13 rfl ?_
  refine mj_bipush dX11_holds_14 kc_bipush_12 ?_
  refine mj_iload_n 3 dX11_holds_16 rfl ?_
  refine mj_imul dX11_holds_17 ?_
  refine mj_bipush dX11_holds_18 kc_bipush_8 ?_
  refine mj_iadd dX11_holds_20 ?_
  obtain ⟨o2, ho2, hf⟩ := mj_bd hf
  refine mj_callVd (I2 := (mj_rows I [(73, r73), (87, r87)])) (L2 := L) (s1 := [.int o2]) (st := []) [.int x1, .int (((12 : Int32) * x2) + (8 : Int32))] (cmX11_sumIn X.2.1 G F x1 (((12 : Int32) * x2) + (8 : Int32)) _ _ r73 r87 rfl rfl o2 ho2) (mj_rr rfl) rfl cw_X11_224 s0_71 a0_71 (by decide) rfl rfl (Nat.le_of_ble_eq_true rfl) ⟨Nat.zero_le _, Nat.zero_le _⟩ dX11_holds_21 rfl ?_
  refine mj_istore [(4, .int o2), (3, .int o1), (0, .ref 71), (1, .int x1), (2, .int x2)] dX11_holds_24 (by decide) rfl ?_
  refine mj_aload_n 2 dX11_holds_26 rfl ?_
  refine mj_iload_n 4 dX11_holds_27 rfl ?_
  refine mj_bipush dX11_holds_28 kc_bipush_11 ?_
  obtain ⟨o3, ho3, hf⟩ := mj_bd hf
  refine mj_callVd (I2 := (mj_rows I [(73, r73), (87, r87)])) (L2 := L) (s1 := [.int o3]) (st := []) [.int x2, .int (11 : Int32)] (cmX11_of X.2.1 G F x2 (11 : Int32) _ _ r73 rfl o3 ho3) (mj_rr rfl) rfl cw_X11_175 s0_71 a0_71 (by decide) rfl rfl (Nat.le_of_ble_eq_true rfl) ⟨Nat.zero_le _, Nat.zero_le _⟩ dX11_holds_30 rfl ?_
  refine mj_istore [(5, .int o3), (4, .int o2), (3, .int o1), (0, .ref 71), (1, .int x1), (2, .int x2)] dX11_holds_33 (by decide) rfl ?_
  refine mj_iload 0 dX11_holds_35 rfl ?_
  refine mj_bipush dX11_holds_37 kc_bipush_61 ?_
  refine mj_icmp_ne 56 dX11_holds_39 (by decide) (fun c4 => ?_) (fun c4 => ?_)
  · replace hf := mj_neg c4 hf
    refine mj_iload 0 dX11_holds_56 rfl ?_
    refine mj_bipush dX11_holds_58 kc_bipush_60 ?_
    refine mj_icmp_ne 77 dX11_holds_60 (by decide) (fun c5 => ?_) (fun c5 => ?_)
    · replace hf := mj_neg c5 hf
      refine mj_iload_n 2 dX11_holds_77 rfl ?_
      refine mj_iload 1 dX11_holds_78 rfl ?_
      refine mj_icmp_eq 87 dX11_holds_80 (by decide) (fun c6 => ?_) (fun c6 => ?_)
      · replace hf := mj_pos c6 hf
        refine mj_iconst dX11_holds_87 kc_iconst_0 ?_
        obtain rfl := Option.some.inj hf
        have hZ := hq
        exact mj_iret hR ⟨Nat.le_refl _, Nat.le_refl _⟩ rfl (by decide) dX11_holds_88 hZ
      · replace hf := mj_neg c6 hf
        refine mj_iconst dX11_holds_83 kc_iconst_1 ?_
        refine mj_goto 88 dX11_holds_84 (by decide) ?_
        obtain rfl := Option.some.inj hf
        have hZ := hq
        exact mj_iret hR ⟨Nat.le_refl _, Nat.le_refl _⟩ rfl (by decide) dX11_holds_88 hZ
    · replace hf := mj_pos c5 hf
      refine mj_iload_n 2 dX11_holds_63 rfl ?_
      refine mj_iload 1 dX11_holds_64 rfl ?_
      refine mj_icmp_ge 73 dX11_holds_66 (by decide) (fun c7 => ?_) (fun c7 => ?_)
      · replace hf := mj_pos c7 hf
        refine mj_iconst dX11_holds_73 kc_iconst_0 ?_
        refine mj_goto 88 dX11_holds_74 (by decide) ?_
        obtain rfl := Option.some.inj hf
        have hZ := hq
        exact mj_iret hR ⟨Nat.le_refl _, Nat.le_refl _⟩ rfl (by decide) dX11_holds_88 hZ
      · replace hf := mj_neg c7 hf
        refine mj_iconst dX11_holds_69 kc_iconst_1 ?_
        refine mj_goto 88 dX11_holds_70 (by decide) ?_
        obtain rfl := Option.some.inj hf
        have hZ := hq
        exact mj_iret hR ⟨Nat.le_refl _, Nat.le_refl _⟩ rfl (by decide) dX11_holds_88 hZ
  · replace hf := mj_pos c4 hf
    refine mj_iload_n 2 dX11_holds_42 rfl ?_
    refine mj_iload 1 dX11_holds_43 rfl ?_
    refine mj_icmp_ne 52 dX11_holds_45 (by decide) (fun c8 => ?_) (fun c8 => ?_)
    · replace hf := mj_neg c8 hf
      refine mj_iconst dX11_holds_52 kc_iconst_0 ?_
      refine mj_goto 88 dX11_holds_53 (by decide) ?_
      obtain rfl := Option.some.inj hf
      have hZ := hq
      exact mj_iret hR ⟨Nat.le_refl _, Nat.le_refl _⟩ rfl (by decide) dX11_holds_88 hZ
    · replace hf := mj_pos c8 hf
      refine mj_iconst dX11_holds_48 kc_iconst_1 ?_
      refine mj_goto 88 dX11_holds_49 (by decide) ?_
      obtain rfl := Option.some.inj hf
      have hZ := hq
      exact mj_iret hR ⟨Nat.le_refl _, Nat.le_refl _⟩ rfl (by decide) dX11_holds_88 hZ
set_option maxRecDepth 100000 in
set_option maxHeartbeats 4000000 in
theorem cmX11_holds (l : Launch) (G : mj_GT) (F : Nat) (x1 : Int32) (x2 : Int32) (I : mj_IT) (L : mj_LT) (r73 : Nat → Int32) (r87 : Nat → Int32) (hr73 : I 73 = r73) (hr87 : I 87 = r87) (o : ((Int32))) (hf : fnX11_holds F r73 r87 x1 x2 = some o) : mj_M l G yX11_holds cX11_holds 6 4 (some .boolean) 0 0 mj_P0 mj_S0 98 [.ref 71, .int x1, .int x2] I L (mj_qd (some (.int o)) (mj_rows I [(73, r73), (87, r87)]) L) := by
  refine mj_in RX11 "holds" [(0, .ref 71), (1, .int x1), (2, .int x2)] rfl rfl rfl (by decide) (Nat.le_of_ble_eq_true rfl) (fun X ad hR => ?_)
  refine mj_toI [(73, r73), (87, r87)] (by intro q hq; simp only [List.mem_cons, List.not_mem_nil, or_false] at hq; rcases hq with rfl | rfl <;> assumption) ?_
  refine mtX11_holds hR F I L r73 r87 x1 x2 o hf ?_
  exact ⟨rfl, rfl, rfl⟩

-- X11_stateFor
def bdX11_stateFor_19 (F : Nat) (r71 : Nat → Int32) (r80 : Nat → Int32) (r81 : Nat → Int32) (x1 : Int32) (x3 : Int32) (x4 : Int32) : Option (((Int32)) ⊕ (Unit ⊕ ((Int32)))) := (if (r71 24) ≤ x4 then some (.inr (.inl ())) else (if mj_ib x4 200 = true then (if (r80 x4.toNatClampNeg) = x1 then (if mj_ib x4 200 = true then (if (r81 x4.toNatClampNeg) = x3 then some (.inr (.inr x4)) else some (.inl (x4 + (1)))) else none) else some (.inl (x4 + (1)))) else none))
def jnX11_stateFor_15 (F : Nat) (x1 : Int32) (t0 : Int32) (r71 : Nat → Int32) (r80 : Nat → Int32) (r81 : Nat → Int32) (r82 : Nat → Int32) : Option ((Int32) × (Nat → Int32) × (Nat → Int32) × (Nat → Int32) × (Nat → Int32)) := (mj_it (bdX11_stateFor_19 F r71 r80 r81 x1 t0) F (0 : Int32)).bind (Sum.elim (fun _ => (if (r71 24) = (200 : Int32) then some ((0 : Int32), (upd r71 21 (1 : Int32)), r80, r81, r82) else (if mj_ib (r71 24) 200 = true then (if mj_ib (r71 24) 200 = true then (if (r71 24) = 0 then (if mj_ib (r71 24) 200 = true then some ((((r71 24) + (1 : Int32)) - (1 : Int32)), (upd r71 24 ((r71 24) + (1 : Int32))), (upd r80 ((r71 24).toNatClampNeg) x1), (upd r81 ((r71 24).toNatClampNeg) t0), (upd r82 ((r71 24).toNatClampNeg) (0 : Int32))) else none) else (if mj_ib (r71 26) 200 = true then (if mj_ib (r71 24) 200 = true then some ((((r71 24) + (1 : Int32)) - (1 : Int32)), (upd r71 24 ((r71 24) + (1 : Int32))), (upd r80 ((r71 24).toNatClampNeg) x1), (upd r81 ((r71 24).toNatClampNeg) t0), (upd r82 ((r71 24).toNatClampNeg) ((r82 ((r71 26).toNatClampNeg)) + (1 : Int32)))) else none) else none)) else none) else none))) (fun x4_6 => some (x4_6, r71, r80, r81, r82)))
def fnX11_stateFor (F : Nat) (r71 : Nat → Int32) (r80 : Nat → Int32) (r81 : Nat → Int32) (r82 : Nat → Int32) (x1 : Int32) (x2 : Int32) : Option ((Int32) × (Nat → Int32) × (Nat → Int32) × (Nat → Int32) × (Nat → Int32)) := (if x1 = ((r71 4) + (1 : Int32)) then jnX11_stateFor_15 F x1 (0 : Int32) r71 r80 r81 r82 else jnX11_stateFor_15 F x1 x2 r71 r80 r81 r82)
set_option maxRecDepth 100000 in
set_option maxHeartbeats 4000000 in
theorem lpX11_stateFor_19 {X : mj_XT} {l : Launch} {G : mj_GT} {ad : Nat → Nat} {Qn : Option Value → mj_IT → mj_LT → Prop} (hR : mj_R X l G mj_P0 mj_S0 98 ad 0 0 Qn) (F : Nat) (I : mj_IT) (L : mj_LT) (r71 : Nat → Int32) (r80 : Nat → Int32) (r81 : Nat → Int32) (r82 : Nat → Int32) (x1 : Int32) (x3 : Int32) : ∀ (n : Nat) (s : ((Int32))) (e : (Unit ⊕ ((Int32)))), mj_it (bdX11_stateFor_19 F r71 r80 r81 x1 x3) n s = some e → (Sum.elim (fun _ => mj_W X G RX11 "stateFor" cX11_stateFor 5 1 (some .int) mj_P0 mj_S0 98 ad 0 0 59 [(0, .ref 71), (1, .int x1), (3, .int x3)] [] (mj_rows I [(71, r71), (80, r80), (81, r81), (82, r82)]) L) (fun x4 => mj_W X G RX11 "stateFor" cX11_stateFor 5 1 (some .int) mj_P0 mj_S0 98 ad 0 0 50 [(4, .int x4)] [] (mj_rows I [(71, r71), (80, r80), (81, r81), (82, r82)]) L)) e → (fun x4 => mj_W X G RX11 "stateFor" cX11_stateFor 5 1 (some .int) mj_P0 mj_S0 98 ad 0 0 19 [(0, .ref 71), (1, .int x1), (3, .int x3), (4, .int x4)] [] (mj_rows I [(71, r71), (80, r80), (81, r81), (82, r82)]) L) s := by
  refine mj_loop (fun x4 o hf hc hx => ?_)
  unfold bdX11_stateFor_19 at hf
  refine mj_iload 3 dX11_stateFor_19 rfl ?_
  refine mj_aload_n 0 dX11_stateFor_21 rfl ?_
  refine mj_getIv (v := (r71 24)) rfl fl_X11_227 rfl s0_71 a0_71 dX11_stateFor_22 ?_
  refine mj_icmp_ge 59 dX11_stateFor_25 (by decide) (fun c1 => ?_) (fun c1 => ?_)
  · replace hf := mj_pos c1 hf
    refine mj_sub [0, 1, 2] [(0, .ref 71), (1, .int x1), (3, .int x3)] rfl ?_
    obtain rfl := Option.some.inj hf
    have hZ := hx (.inl ()) rfl
    replace hZ := mj_el hZ
    exact hZ
  · replace hf := mj_neg c1 hf
    refine mj_aload_n 0 dX11_stateFor_28 rfl ?_
    refine mj_getP p0_71_27 (by decide) fl_X11_230 rfl s0_71 a0_71 dX11_stateFor_29 ?_
    refine mj_iload 3 dX11_stateFor_32 rfl ?_
    obtain ⟨z2, hf⟩ := mj_ck hf
    refine mj_ialdv (x := r80) rfl s0_80 a0_80 z2 dX11_stateFor_34 ?_
    refine mj_iload_n 1 dX11_stateFor_35 rfl ?_
    refine mj_icmp_ne 53 dX11_stateFor_36 (by decide) (fun c3 => ?_) (fun c3 => ?_)
    · replace hf := mj_neg c3 hf
      refine mj_iinc 3 [(4, .int (x4 + (1))), (0, .ref 71), (1, .int x1), (3, .int x3)] dX11_stateFor_53 rfl (kz_1 _) (by decide) rfl ?_
      refine mj_goto 19 dX11_stateFor_56 (by decide) ?_
      refine mj_sub [1, 2, 3, 0] [(0, .ref 71), (1, .int x1), (3, .int x3), (4, .int (x4 + (1)))] rfl ?_
      obtain rfl := Option.some.inj hf
      have hZ := hc (x4 + (1)) rfl
      exact hZ
    · replace hf := mj_pos c3 hf
      refine mj_aload_n 0 dX11_stateFor_39 rfl ?_
      refine mj_getP p0_71_28 (by decide) fl_X11_233 rfl s0_71 a0_71 dX11_stateFor_40 ?_
      refine mj_iload 3 dX11_stateFor_43 rfl ?_
      obtain ⟨z4, hf⟩ := mj_ck hf
      refine mj_ialdv (x := r81) rfl s0_81 a0_81 z4 dX11_stateFor_45 ?_
      refine mj_iload_n 2 dX11_stateFor_46 rfl ?_
      refine mj_icmp_ne 53 dX11_stateFor_47 (by decide) (fun c5 => ?_) (fun c5 => ?_)
      · replace hf := mj_neg c5 hf
        refine mj_iinc 3 [(4, .int (x4 + (1))), (0, .ref 71), (1, .int x1), (3, .int x3)] dX11_stateFor_53 rfl (kz_1 _) (by decide) rfl ?_
        refine mj_goto 19 dX11_stateFor_56 (by decide) ?_
        refine mj_sub [1, 2, 3, 0] [(0, .ref 71), (1, .int x1), (3, .int x3), (4, .int (x4 + (1)))] rfl ?_
        obtain rfl := Option.some.inj hf
        have hZ := hc (x4 + (1)) rfl
        exact hZ
      · replace hf := mj_pos c5 hf
        refine mj_sub [3] [(4, .int x4)] rfl ?_
        obtain rfl := Option.some.inj hf
        have hZ := hx (.inr x4) rfl
        replace hZ := mj_er hZ
        exact hZ
set_option maxRecDepth 100000 in
set_option maxHeartbeats 4000000 in
theorem jtX11_stateFor_15 {X : mj_XT} {l : Launch} {G : mj_GT} {ad : Nat → Nat} {Qn : Option Value → mj_IT → mj_LT → Prop} (hR : mj_R X l G mj_P0 mj_S0 98 ad 0 0 Qn) (F : Nat) (I : mj_IT) (L : mj_LT) (r71 : Nat → Int32) (r80 : Nat → Int32) (r81 : Nat → Int32) (r82 : Nat → Int32) (x1 : Int32) (t0 : Int32) (o : ((Int32) × (Nat → Int32) × (Nat → Int32) × (Nat → Int32) × (Nat → Int32))) (hf : jnX11_stateFor_15 F x1 t0 r71 r80 r81 r82 = some o) (hq : (mj_u2 (fun ov => (mj_u2 (fun r71 => (mj_u2 (fun r80 => (mj_u2 (fun r81 r82 => Qn (some (.int ov)) (mj_rows I [(71, r71), (80, r80), (81, r81), (82, r82)]) L)))))))) o) : mj_W X G RX11 "stateFor" cX11_stateFor 5 1 (some .int) mj_P0 mj_S0 98 ad 0 0 15 [(0, .ref 71), (1, .int x1)] [.int t0] (mj_rows I [(71, r71), (80, r80), (81, r81), (82, r82)]) L := by
  unfold jnX11_stateFor_15 at hf
  refine mj_istore_n [(3, .int t0), (0, .ref 71), (1, .int x1)] dX11_stateFor_15 rfl (by decide) rfl ?_
  refine mj_iconst dX11_stateFor_16 kc_iconst_0 ?_
  refine mj_istore [(4, .int (0 : Int32)), (3, .int t0), (0, .ref 71), (1, .int x1)] dX11_stateFor_17 (by decide) rfl ?_
  refine mj_sub [2, 3, 1, 0] [(0, .ref 71), (1, .int x1), (3, .int t0), (4, .int (0 : Int32))] rfl ?_
  obtain ⟨e6, ho6, hf⟩ := mj_bd hf
  refine lpX11_stateFor_19 hR F I L r71 r80 r81 r82 x1 t0 F (0 : Int32) e6 ho6 ?_
  rcases e6 with e6 | x4_6
  · replace hf := mj_ele hf
    refine mj_elq (?_)
    refine mj_aload_n 0 dX11_stateFor_59 rfl ?_
    refine mj_getIv (v := (r71 24)) rfl fl_X11_227 rfl s0_71 a0_71 dX11_stateFor_60 ?_
    refine mj_sipush dX11_stateFor_63 kc_sipush_200 ?_
    refine mj_icmp_ne 76 dX11_stateFor_66 (by decide) (fun c7 => ?_) (fun c7 => ?_)
    · replace hf := mj_neg c7 hf
      refine mj_aload_n 0 dX11_stateFor_76 rfl ?_
      refine mj_getP p0_71_27 (by decide) fl_X11_230 rfl s0_71 a0_71 dX11_stateFor_77 ?_
      refine mj_aload_n 0 dX11_stateFor_80 rfl ?_
      refine mj_getIv (v := (r71 24)) rfl fl_X11_227 rfl s0_71 a0_71 dX11_stateFor_81 ?_
      refine mj_iload_n 1 dX11_stateFor_84 rfl ?_
      obtain ⟨z8, hf⟩ := mj_ck hf
      refine mj_iastr [(71, r71), (80, (upd r80 ((r71 24).toNatClampNeg) x1)), (81, r81), (82, r82)] rfl s0_80 a0_80 z8 dX11_stateFor_85 ?_
      refine mj_aload_n 0 dX11_stateFor_86 rfl ?_
      refine mj_getP p0_71_28 (by decide) fl_X11_233 rfl s0_71 a0_71 dX11_stateFor_87 ?_
      refine mj_aload_n 0 dX11_stateFor_90 rfl ?_
      refine mj_getIv (v := (r71 24)) rfl fl_X11_227 rfl s0_71 a0_71 dX11_stateFor_91 ?_
      refine mj_iload_n 2 dX11_stateFor_94 rfl ?_
      obtain ⟨z9, hf⟩ := mj_ck hf
      refine mj_iastr [(71, r71), (80, (upd r80 ((r71 24).toNatClampNeg) x1)), (81, (upd r81 ((r71 24).toNatClampNeg) t0)), (82, r82)] rfl s0_81 a0_81 z9 dX11_stateFor_95 ?_
      refine mj_aload_n 0 dX11_stateFor_96 rfl ?_
      refine mj_getP p0_71_29 (by decide) fl_X11_239 rfl s0_71 a0_71 dX11_stateFor_97 ?_
      refine mj_aload_n 0 dX11_stateFor_100 rfl ?_
      refine mj_getIv (v := (r71 24)) rfl fl_X11_227 rfl s0_71 a0_71 dX11_stateFor_101 ?_
      refine mj_aload_n 0 dX11_stateFor_104 rfl ?_
      refine mj_getIv (v := (r71 24)) rfl fl_X11_227 rfl s0_71 a0_71 dX11_stateFor_105 ?_
      refine mj_if_ne 115 dX11_stateFor_108 (by decide) (fun c10 => ?_) (fun c10 => ?_)
      · replace hf := mj_neg c10 hf
        refine mj_aload_n 0 dX11_stateFor_115 rfl ?_
        refine mj_getP p0_71_29 (by decide) fl_X11_239 rfl s0_71 a0_71 dX11_stateFor_116 ?_
        refine mj_aload_n 0 dX11_stateFor_119 rfl ?_
        refine mj_getIv (v := (r71 26)) rfl fl_X11_242 rfl s0_71 a0_71 dX11_stateFor_120 ?_
        obtain ⟨z11, hf⟩ := mj_ck hf
        refine mj_ialdv (x := r82) rfl s0_82 a0_82 z11 dX11_stateFor_123 ?_
        refine mj_iconst dX11_stateFor_124 kc_iconst_1 ?_
        refine mj_iadd dX11_stateFor_125 ?_
        obtain ⟨z12, hf⟩ := mj_ck hf
        refine mj_iastr [(71, r71), (80, (upd r80 ((r71 24).toNatClampNeg) x1)), (81, (upd r81 ((r71 24).toNatClampNeg) t0)), (82, (upd r82 ((r71 24).toNatClampNeg) ((r82 ((r71 26).toNatClampNeg)) + (1 : Int32))))] rfl s0_82 a0_82 z12 dX11_stateFor_126 ?_
        refine mj_aload_n 0 dX11_stateFor_127 rfl ?_
        refine mj_dup dX11_stateFor_128 rfl ?_
        refine mj_getIv (v := (r71 24)) rfl fl_X11_227 rfl s0_71 a0_71 dX11_stateFor_129 ?_
        refine mj_iconst dX11_stateFor_132 kc_iconst_1 ?_
        refine mj_iadd dX11_stateFor_133 ?_
        refine mj_putIr (ci := 9) (j := 24) [(71, (upd r71 24 ((r71 24) + (1 : Int32)))), (80, (upd r80 ((r71 24).toNatClampNeg) x1)), (81, (upd r81 ((r71 24).toNatClampNeg) t0)), (82, (upd r82 ((r71 24).toNatClampNeg) ((r82 ((r71 26).toNatClampNeg)) + (1 : Int32))))] rfl ⟨rfl, rfl⟩ fl_X11_227 rfl rfl s0_71 a0_71 dX11_stateFor_134 ?_
        refine mj_aload_n 0 dX11_stateFor_137 rfl ?_
        refine mj_getIv (v := ((r71 24) + (1 : Int32))) rfl fl_X11_227 rfl s0_71 a0_71 dX11_stateFor_138 ?_
        refine mj_iconst dX11_stateFor_141 kc_iconst_1 ?_
        refine mj_isub dX11_stateFor_142 ?_
        obtain rfl := Option.some.inj hf
        have hZ := hq
        replace hZ := mj_u2p hZ
        replace hZ := mj_u2p hZ
        replace hZ := mj_u2p hZ
        replace hZ := mj_u2p hZ
        exact mj_iret hR ⟨Nat.le_refl _, Nat.le_refl _⟩ rfl rfl dX11_stateFor_143 hZ
      · replace hf := mj_pos c10 hf
        refine mj_iconst dX11_stateFor_111 kc_iconst_0 ?_
        refine mj_goto 126 dX11_stateFor_112 (by decide) ?_
        obtain ⟨z13, hf⟩ := mj_ck hf
        refine mj_iastr [(71, r71), (80, (upd r80 ((r71 24).toNatClampNeg) x1)), (81, (upd r81 ((r71 24).toNatClampNeg) t0)), (82, (upd r82 ((r71 24).toNatClampNeg) (0 : Int32)))] rfl s0_82 a0_82 z13 dX11_stateFor_126 ?_
        refine mj_aload_n 0 dX11_stateFor_127 rfl ?_
        refine mj_dup dX11_stateFor_128 rfl ?_
        refine mj_getIv (v := (r71 24)) rfl fl_X11_227 rfl s0_71 a0_71 dX11_stateFor_129 ?_
        refine mj_iconst dX11_stateFor_132 kc_iconst_1 ?_
        refine mj_iadd dX11_stateFor_133 ?_
        refine mj_putIr (ci := 9) (j := 24) [(71, (upd r71 24 ((r71 24) + (1 : Int32)))), (80, (upd r80 ((r71 24).toNatClampNeg) x1)), (81, (upd r81 ((r71 24).toNatClampNeg) t0)), (82, (upd r82 ((r71 24).toNatClampNeg) (0 : Int32)))] rfl ⟨rfl, rfl⟩ fl_X11_227 rfl rfl s0_71 a0_71 dX11_stateFor_134 ?_
        refine mj_aload_n 0 dX11_stateFor_137 rfl ?_
        refine mj_getIv (v := ((r71 24) + (1 : Int32))) rfl fl_X11_227 rfl s0_71 a0_71 dX11_stateFor_138 ?_
        refine mj_iconst dX11_stateFor_141 kc_iconst_1 ?_
        refine mj_isub dX11_stateFor_142 ?_
        obtain rfl := Option.some.inj hf
        have hZ := hq
        replace hZ := mj_u2p hZ
        replace hZ := mj_u2p hZ
        replace hZ := mj_u2p hZ
        replace hZ := mj_u2p hZ
        exact mj_iret hR ⟨Nat.le_refl _, Nat.le_refl _⟩ rfl rfl dX11_stateFor_143 hZ
    · replace hf := mj_pos c7 hf
      refine mj_aload_n 0 dX11_stateFor_69 rfl ?_
      refine mj_iconst dX11_stateFor_70 kc_iconst_1 ?_
      refine mj_putIr (ci := 9) (j := 21) [(71, (upd r71 21 (1 : Int32))), (80, r80), (81, r81), (82, r82)] rfl (by decide) fl_X11_236 rfl rfl s0_71 a0_71 dX11_stateFor_71 ?_
      refine mj_iconst dX11_stateFor_74 kc_iconst_0 ?_
      obtain rfl := Option.some.inj hf
      have hZ := hq
      replace hZ := mj_u2p hZ
      replace hZ := mj_u2p hZ
      replace hZ := mj_u2p hZ
      replace hZ := mj_u2p hZ
      exact mj_iret hR ⟨Nat.le_refl _, Nat.le_refl _⟩ rfl rfl dX11_stateFor_75 hZ
  · replace hf := mj_ere hf
    refine mj_erq (?_)
    refine mj_iload 0 dX11_stateFor_50 rfl ?_
    obtain rfl := Option.some.inj hf
    have hZ := hq
    replace hZ := mj_u2p hZ
    replace hZ := mj_u2p hZ
    replace hZ := mj_u2p hZ
    replace hZ := mj_u2p hZ
    exact mj_iret hR ⟨Nat.le_refl _, Nat.le_refl _⟩ rfl rfl dX11_stateFor_52 hZ
set_option maxRecDepth 100000 in
set_option maxHeartbeats 4000000 in
theorem mtX11_stateFor {X : mj_XT} {l : Launch} {G : mj_GT} {ad : Nat → Nat} {Qn : Option Value → mj_IT → mj_LT → Prop} (hR : mj_R X l G mj_P0 mj_S0 98 ad 0 0 Qn) (F : Nat) (I : mj_IT) (L : mj_LT) (r71 : Nat → Int32) (r80 : Nat → Int32) (r81 : Nat → Int32) (r82 : Nat → Int32) (x1 : Int32) (x2 : Int32) (o : ((Int32) × (Nat → Int32) × (Nat → Int32) × (Nat → Int32) × (Nat → Int32))) (hf : fnX11_stateFor F r71 r80 r81 r82 x1 x2 = some o) (hq : (mj_u2 (fun ov => (mj_u2 (fun r71 => (mj_u2 (fun r80 => (mj_u2 (fun r81 r82 => Qn (some (.int ov)) (mj_rows I [(71, r71), (80, r80), (81, r81), (82, r82)]) L)))))))) o) : mj_W X G RX11 "stateFor" cX11_stateFor 5 1 (some .int) mj_P0 mj_S0 98 ad 0 0 0 [(0, .ref 71), (1, .int x1), (2, .int x2)] [] (mj_rows I [(71, r71), (80, r80), (81, r81), (82, r82)]) L := by
  unfold fnX11_stateFor at hf
  refine mj_iload_n 1 dX11_stateFor_0 rfl ?_
  refine mj_aload_n 0 dX11_stateFor_1 rfl ?_
  refine mj_getIv (v := (r71 4)) rfl fl_X11_172 rfl s0_71 a0_71 dX11_stateFor_2 ?_
  refine mj_iconst dX11_stateFor_5 kc_iconst_1 ?_
  refine mj_iadd dX11_stateFor_6 ?_
  refine mj_icmp_ne 14 dX11_stateFor_7 (by decide) (fun c14 => ?_) (fun c14 => ?_)
  · replace hf := mj_neg c14 hf
    refine mj_iload_n 2 dX11_stateFor_14 rfl ?_
    refine mj_sub [0, 1] [(0, .ref 71), (1, .int x1)] rfl ?_
    exact jtX11_stateFor_15 hR F I L r71 r80 r81 r82 x1 x2 o hf hq
  · replace hf := mj_pos c14 hf
    refine mj_iconst dX11_stateFor_10 kc_iconst_0 ?_
    refine mj_goto 15 dX11_stateFor_11 (by decide) ?_
    refine mj_sub [0, 1] [(0, .ref 71), (1, .int x1)] rfl ?_
    exact jtX11_stateFor_15 hR F I L r71 r80 r81 r82 x1 (0 : Int32) o hf hq
set_option maxRecDepth 100000 in
set_option maxHeartbeats 4000000 in
theorem cmX11_stateFor (l : Launch) (G : mj_GT) (F : Nat) (x1 : Int32) (x2 : Int32) (I : mj_IT) (L : mj_LT) (r71 : Nat → Int32) (r80 : Nat → Int32) (r81 : Nat → Int32) (r82 : Nat → Int32) (hr71 : I 71 = r71) (hr80 : I 80 = r80) (hr81 : I 81 = r81) (hr82 : I 82 = r82) (o : ((Int32) × (Nat → Int32) × (Nat → Int32) × (Nat → Int32) × (Nat → Int32))) (hf : fnX11_stateFor F r71 r80 r81 r82 x1 x2 = some o) : mj_M l G yX11_stateFor cX11_stateFor 5 1 (some .int) 0 0 mj_P0 mj_S0 98 [.ref 71, .int x1, .int x2] I L (mj_qd (some (.int o.1)) (mj_rows I [(71, o.2.1), (80, o.2.2.1), (81, o.2.2.2.1), (82, o.2.2.2.2)]) L) := by
  refine mj_in RX11 "stateFor" [(0, .ref 71), (1, .int x1), (2, .int x2)] rfl rfl rfl (by decide) (Nat.le_of_ble_eq_true rfl) (fun X ad hR => ?_)
  refine mj_toI [(71, r71), (80, r80), (81, r81), (82, r82)] (by intro q hq; simp only [List.mem_cons, List.not_mem_nil, or_false] at hq; rcases hq with rfl | rfl | rfl | rfl <;> assumption) ?_
  refine mtX11_stateFor hR F I L r71 r80 r81 r82 x1 x2 o hf ?_
  obtain ⟨w0, w1, w2, w3, w4⟩ := o
  refine mj_u2q ?_
  refine mj_u2q ?_
  refine mj_u2q ?_
  refine mj_u2q ?_
  exact ⟨rfl, rfl, rfl⟩

-- X11_lead
def fnX11_lead (F : Nat) (r71 : Nat → Int32) (r80 : Nat → Int32) (r81 : Nat → Int32) (r82 : Nat → Int32) (r83 : Nat → Int32) (r84 : Nat → Int32) (r85 : Nat → Int32) (x1 : Int32) (x2 : Int32) (x3 : Int32) (x4 : Int32) : Option ((Nat → Int32) × (Nat → Int32) × (Nat → Int32) × (Nat → Int32) × (Nat → Int32) × (Nat → Int32) × (Nat → Int32)) := (if x4 = 0 then some (r71, r80, r81, r82, r83, r84, r85) else (if (r71 21) = 0 then (fnX11_stateFor F (upd r71 26 x1) r80 r81 r82 x2 x3).bind (fun o3 => (if mj_ib x1 200 = true then (if mj_ib (((10 : Int32) * x1) + (r83 x1.toNatClampNeg)) 2000 = true then (if mj_ib x1 200 = true then (if mj_ib (((10 : Int32) * x1) + (r83 x1.toNatClampNeg)) 2000 = true then (if mj_ib x1 200 = true then (if mj_ib x1 200 = true then some ((upd o3.2.1 25 ((o3.2.1 25) + (1 : Int32))), o3.2.2.1, o3.2.2.2.1, o3.2.2.2.2, (upd r83 x1.toNatClampNeg ((r83 x1.toNatClampNeg) + (1 : Int32))), (upd r84 ((((10 : Int32) * x1) + (r83 x1.toNatClampNeg)).toNatClampNeg) o3.1), (upd r85 ((((10 : Int32) * x1) + (r83 x1.toNatClampNeg)).toNatClampNeg) x4)) else none) else none) else none) else none) else none) else none)) else some (r71, r80, r81, r82, r83, r84, r85)))
set_option maxRecDepth 100000 in
set_option maxHeartbeats 4000000 in
theorem mtX11_lead {X : mj_XT} {l : Launch} {G : mj_GT} {ad : Nat → Nat} {Qn : Option Value → mj_IT → mj_LT → Prop} (hR : mj_R X l G mj_P0 mj_S0 98 ad 0 0 Qn) (F : Nat) (I : mj_IT) (L : mj_LT) (r71 : Nat → Int32) (r80 : Nat → Int32) (r81 : Nat → Int32) (r82 : Nat → Int32) (r83 : Nat → Int32) (r84 : Nat → Int32) (r85 : Nat → Int32) (x1 : Int32) (x2 : Int32) (x3 : Int32) (x4 : Int32) (o : ((Nat → Int32) × (Nat → Int32) × (Nat → Int32) × (Nat → Int32) × (Nat → Int32) × (Nat → Int32) × (Nat → Int32))) (hf : fnX11_lead F r71 r80 r81 r82 r83 r84 r85 x1 x2 x3 x4 = some o) (hq : (mj_u2 (fun r71 => (mj_u2 (fun r80 => (mj_u2 (fun r81 => (mj_u2 (fun r82 => (mj_u2 (fun r83 => (mj_u2 (fun r84 r85 => Qn none (mj_rows I [(71, r71), (80, r80), (81, r81), (82, r82), (83, r83), (84, r84), (85, r85)]) L)))))))))))) o) : mj_W X G RX11 "lead" cX11_lead 6 2 none mj_P0 mj_S0 98 ad 0 0 0 [(0, .ref 71), (1, .int x1), (2, .int x2), (3, .int x3), (4, .int x4)] [] (mj_rows I [(71, r71), (80, r80), (81, r81), (82, r82), (83, r83), (84, r84), (85, r85)]) L := by
  unfold fnX11_lead at hf
  refine mj_iload 4 dX11_lead_0 rfl ?_
  refine mj_if_eq 12 dX11_lead_2 (by decide) (fun c1 => ?_) (fun c1 => ?_)
  · replace hf := mj_pos c1 hf
    obtain rfl := Option.some.inj hf
    have hZ := hq
    replace hZ := mj_u2p hZ
    replace hZ := mj_u2p hZ
    replace hZ := mj_u2p hZ
    replace hZ := mj_u2p hZ
    replace hZ := mj_u2p hZ
    replace hZ := mj_u2p hZ
    exact mj_vret hR ⟨Nat.le_refl _, Nat.le_refl _⟩ rfl dX11_lead_12 hZ
  · replace hf := mj_neg c1 hf
    refine mj_aload_n 0 dX11_lead_5 rfl ?_
    refine mj_getIv (v := (r71 21)) rfl fl_X11_236 rfl s0_71 a0_71 dX11_lead_6 ?_
    refine mj_if_eq 13 dX11_lead_9 (by decide) (fun c2 => ?_) (fun c2 => ?_)
    · replace hf := mj_pos c2 hf
      refine mj_aload_n 0 dX11_lead_13 rfl ?_
      refine mj_iload_n 1 dX11_lead_14 rfl ?_
      refine mj_putIr (ci := 9) (j := 26) [(71, (upd r71 26 x1)), (80, r80), (81, r81), (82, r82), (83, r83), (84, r84), (85, r85)] rfl ⟨rfl, rfl⟩ fl_X11_242 rfl rfl s0_71 a0_71 dX11_lead_15 ?_
      refine mj_aload_n 0 dX11_lead_18 rfl ?_
      refine mj_iload_n 2 dX11_lead_19 rfl ?_
      refine mj_iload_n 3 dX11_lead_20 rfl ?_
      obtain ⟨o3, ho3, hf⟩ := mj_bd hf
      refine mj_callVd (I2 := (mj_rows I [(71, o3.2.1), (80, o3.2.2.1), (81, o3.2.2.2.1), (82, o3.2.2.2.2), (83, r83), (84, r84), (85, r85)])) (L2 := L) (s1 := [.int o3.1]) (st := []) [.int x2, .int x3] (cmX11_stateFor X.2.1 G F x2 x3 _ _ (upd r71 26 x1) r80 r81 r82 rfl rfl rfl rfl o3 ho3) (mj_rr rfl) rfl cw_X11_245 s0_71 a0_71 (by decide) rfl rfl (Nat.le_of_ble_eq_true rfl) ⟨Nat.zero_le _, Nat.zero_le _⟩ dX11_lead_21 rfl ?_
      refine mj_istore [(5, .int o3.1), (0, .ref 71), (1, .int x1), (2, .int x2), (3, .int x3), (4, .int x4)] dX11_lead_24 (by decide) rfl ?_
      refine mj_aload_n 1 dX11_lead_26 rfl ?_
      refine mj_getP p0_71_31 (by decide) fl_X11_248 rfl s0_71 a0_71 dX11_lead_27 ?_
      refine mj_bipush dX11_lead_30 kc_bipush_10 ?_
      refine mj_iload_n 2 dX11_lead_32 rfl ?_
      refine mj_imul dX11_lead_33 ?_
      refine mj_aload_n 1 dX11_lead_34 rfl ?_
      refine mj_getP p0_71_30 (by decide) fl_X11_251 rfl s0_71 a0_71 dX11_lead_35 ?_
      refine mj_iload_n 2 dX11_lead_38 rfl ?_
      obtain ⟨z4, hf⟩ := mj_ck hf
      refine mj_ialdv (x := r83) rfl s0_83 a0_83 z4 dX11_lead_39 ?_
      refine mj_iadd dX11_lead_40 ?_
      refine mj_iload 0 dX11_lead_41 rfl ?_
      obtain ⟨z5, hf⟩ := mj_ck hf
      refine mj_iastr [(71, o3.2.1), (80, o3.2.2.1), (81, o3.2.2.2.1), (82, o3.2.2.2.2), (83, r83), (84, (upd r84 ((((10 : Int32) * x1) + (r83 x1.toNatClampNeg)).toNatClampNeg) o3.1)), (85, r85)] rfl s0_84 a0_84 z5 dX11_lead_43 ?_
      refine mj_aload_n 1 dX11_lead_44 rfl ?_
      refine mj_getP p0_71_32 (by decide) fl_X11_254 rfl s0_71 a0_71 dX11_lead_45 ?_
      refine mj_bipush dX11_lead_48 kc_bipush_10 ?_
      refine mj_iload_n 2 dX11_lead_50 rfl ?_
      refine mj_imul dX11_lead_51 ?_
      refine mj_aload_n 1 dX11_lead_52 rfl ?_
      refine mj_getP p0_71_30 (by decide) fl_X11_251 rfl s0_71 a0_71 dX11_lead_53 ?_
      refine mj_iload_n 2 dX11_lead_56 rfl ?_
      obtain ⟨z6, hf⟩ := mj_ck hf
      refine mj_ialdv (x := r83) rfl s0_83 a0_83 z6 dX11_lead_57 ?_
      refine mj_iadd dX11_lead_58 ?_
      refine mj_iload 5 dX11_lead_59 rfl ?_
      obtain ⟨z7, hf⟩ := mj_ck hf
      refine mj_iastr [(71, o3.2.1), (80, o3.2.2.1), (81, o3.2.2.2.1), (82, o3.2.2.2.2), (83, r83), (84, (upd r84 ((((10 : Int32) * x1) + (r83 x1.toNatClampNeg)).toNatClampNeg) o3.1)), (85, (upd r85 ((((10 : Int32) * x1) + (r83 x1.toNatClampNeg)).toNatClampNeg) x4))] rfl s0_85 a0_85 z7 dX11_lead_61 ?_
      refine mj_aload_n 1 dX11_lead_62 rfl ?_
      refine mj_getP p0_71_30 (by decide) fl_X11_251 rfl s0_71 a0_71 dX11_lead_63 ?_
      refine mj_iload_n 2 dX11_lead_66 rfl ?_
      refine mj_dup2 dX11_lead_67 rfl rfl ?_
      obtain ⟨z8, hf⟩ := mj_ck hf
      refine mj_ialdv (x := r83) rfl s0_83 a0_83 z8 dX11_lead_68 ?_
      refine mj_iconst dX11_lead_69 kc_iconst_1 ?_
      refine mj_iadd dX11_lead_70 ?_
      obtain ⟨z9, hf⟩ := mj_ck hf
      refine mj_iastr [(71, o3.2.1), (80, o3.2.2.1), (81, o3.2.2.2.1), (82, o3.2.2.2.2), (83, (upd r83 x1.toNatClampNeg ((r83 x1.toNatClampNeg) + (1 : Int32)))), (84, (upd r84 ((((10 : Int32) * x1) + (r83 x1.toNatClampNeg)).toNatClampNeg) o3.1)), (85, (upd r85 ((((10 : Int32) * x1) + (r83 x1.toNatClampNeg)).toNatClampNeg) x4))] rfl s0_83 a0_83 z9 dX11_lead_71 ?_
      refine mj_aload_n 1 dX11_lead_72 rfl ?_
      refine mj_dup dX11_lead_73 rfl ?_
      refine mj_getIv (v := (o3.2.1 25)) rfl fl_X11_257 rfl s0_71 a0_71 dX11_lead_74 ?_
      refine mj_iconst dX11_lead_77 kc_iconst_1 ?_
      refine mj_iadd dX11_lead_78 ?_
      refine mj_putIr (ci := 9) (j := 25) [(71, (upd o3.2.1 25 ((o3.2.1 25) + (1 : Int32)))), (80, o3.2.2.1), (81, o3.2.2.2.1), (82, o3.2.2.2.2), (83, (upd r83 x1.toNatClampNeg ((r83 x1.toNatClampNeg) + (1 : Int32)))), (84, (upd r84 ((((10 : Int32) * x1) + (r83 x1.toNatClampNeg)).toNatClampNeg) o3.1)), (85, (upd r85 ((((10 : Int32) * x1) + (r83 x1.toNatClampNeg)).toNatClampNeg) x4))] rfl ⟨rfl, rfl⟩ fl_X11_257 rfl rfl s0_71 a0_71 dX11_lead_79 ?_
      obtain rfl := Option.some.inj hf
      have hZ := hq
      replace hZ := mj_u2p hZ
      replace hZ := mj_u2p hZ
      replace hZ := mj_u2p hZ
      replace hZ := mj_u2p hZ
      replace hZ := mj_u2p hZ
      replace hZ := mj_u2p hZ
      exact mj_vret hR ⟨Nat.le_refl _, Nat.le_refl _⟩ rfl dX11_lead_82 hZ
    · replace hf := mj_neg c2 hf
      obtain rfl := Option.some.inj hf
      have hZ := hq
      replace hZ := mj_u2p hZ
      replace hZ := mj_u2p hZ
      replace hZ := mj_u2p hZ
      replace hZ := mj_u2p hZ
      replace hZ := mj_u2p hZ
      replace hZ := mj_u2p hZ
      exact mj_vret hR ⟨Nat.le_refl _, Nat.le_refl _⟩ rfl dX11_lead_12 hZ
set_option maxRecDepth 100000 in
set_option maxHeartbeats 4000000 in
theorem cmX11_lead (l : Launch) (G : mj_GT) (F : Nat) (x1 : Int32) (x2 : Int32) (x3 : Int32) (x4 : Int32) (I : mj_IT) (L : mj_LT) (r71 : Nat → Int32) (r80 : Nat → Int32) (r81 : Nat → Int32) (r82 : Nat → Int32) (r83 : Nat → Int32) (r84 : Nat → Int32) (r85 : Nat → Int32) (hr71 : I 71 = r71) (hr80 : I 80 = r80) (hr81 : I 81 = r81) (hr82 : I 82 = r82) (hr83 : I 83 = r83) (hr84 : I 84 = r84) (hr85 : I 85 = r85) (o : ((Nat → Int32) × (Nat → Int32) × (Nat → Int32) × (Nat → Int32) × (Nat → Int32) × (Nat → Int32) × (Nat → Int32))) (hf : fnX11_lead F r71 r80 r81 r82 r83 r84 r85 x1 x2 x3 x4 = some o) : mj_M l G yX11_lead cX11_lead 6 2 none 0 0 mj_P0 mj_S0 98 [.ref 71, .int x1, .int x2, .int x3, .int x4] I L (mj_qd none (mj_rows I [(71, o.1), (80, o.2.1), (81, o.2.2.1), (82, o.2.2.2.1), (83, o.2.2.2.2.1), (84, o.2.2.2.2.2.1), (85, o.2.2.2.2.2.2)]) L) := by
  refine mj_in RX11 "lead" [(0, .ref 71), (1, .int x1), (2, .int x2), (3, .int x3), (4, .int x4)] rfl rfl rfl (by decide) (Nat.le_of_ble_eq_true rfl) (fun X ad hR => ?_)
  refine mj_toI [(71, r71), (80, r80), (81, r81), (82, r82), (83, r83), (84, r84), (85, r85)] (by intro q hq; simp only [List.mem_cons, List.not_mem_nil, or_false] at hq; rcases hq with rfl | rfl | rfl | rfl | rfl | rfl | rfl <;> assumption) ?_
  refine mtX11_lead hR F I L r71 r80 r81 r82 r83 r84 r85 x1 x2 x3 x4 o hf ?_
  obtain ⟨w0, w1, w2, w3, w4, w5, w6⟩ := o
  refine mj_u2q ?_
  refine mj_u2q ?_
  refine mj_u2q ?_
  refine mj_u2q ?_
  refine mj_u2q ?_
  refine mj_u2q ?_
  exact ⟨rfl, rfl, rfl⟩

