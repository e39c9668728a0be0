-- X8_readVariable
def fnX8_readVariable (F : Nat) (r2 : Nat → Int32) (r3 : Nat → Int32) : Option ((Int32) × (Nat → Int32)) := (fnX8_variableHere F r2 r3).bind (fun o1 => (if o1 = (-1 : Int32) then (fnX8_fail F r2 (1 : Int32)).bind (fun o4 => some ((0 : Int32), o4)) else (fnX8_goOn F r2 r3).bind (fun o3 => some (o1, o3))))
set_option maxRecDepth 100000 in
set_option maxHeartbeats 4000000 in
theorem mtX8_readVariable {X : mj_XT} {l : Launch} {G : mj_GT} {ad : Nat → Nat} {Qn : Option Value → mj_IT → mj_LT → Prop} (hR : mj_R X l G mj_P0 mj_S0 98 ad 0 0 Qn) (F : Nat) (I : mj_IT) (L : mj_LT) (r2 : Nat → Int32) (r3 : Nat → Int32) (o : ((Int32) × (Nat → Int32))) (hf : fnX8_readVariable F r2 r3 = some o) (hq : (mj_u2 (fun ov r2 => Qn (some (.int ov)) (mj_rows I [(2, r2), (3, r3)]) L)) o) : mj_W X G RX8 "readVariable" cX8_readVariable 2 2 (some .int) mj_P0 mj_S0 98 ad 0 0 0 [(0, .ref 2)] [] (mj_rows I [(2, r2), (3, r3)]) L := by
  unfold fnX8_readVariable at hf
  refine mj_aload_n 0 dX8_readVariable_0 rfl ?_
  obtain ⟨o1, ho1, hf⟩ := mj_bd hf
  refine mj_callVd (I2 := (mj_rows I [(2, r2), (3, r3)])) (L2 := L) (s1 := [.int o1]) (st := []) [] (cmX8_variableHere X.2.1 G F  _ _ r2 r3 rfl rfl o1 ho1) (mj_rr rfl) rfl cw_X8_94 s0_2 a0_2 (by decide) rfl rfl (Nat.le_of_ble_eq_true rfl) ⟨Nat.zero_le _, Nat.zero_le _⟩ dX8_readVariable_1 rfl ?_
  refine mj_istore_n [(1, .int o1), (0, .ref 2)] dX8_readVariable_4 rfl (by decide) rfl ?_
  refine mj_iload_n 0 dX8_readVariable_5 rfl ?_
  refine mj_iconst dX8_readVariable_6 kc_iconst_m1 ?_
  refine mj_icmp_ne 17 dX8_readVariable_7 (by decide) (fun c2 => ?_) (fun c2 => ?_)
  · replace hf := mj_neg c2 hf
    refine mj_aload_n 1 dX8_readVariable_17 rfl ?_
    obtain ⟨o3, ho3, hf⟩ := mj_bd hf
    refine mj_callVd (I2 := (mj_rows I [(2, o3), (3, r3)])) (L2 := L) (s1 := []) (st := []) [] (cmX8_goOn X.2.1 G F  _ _ r2 r3 rfl rfl o3 ho3) (mj_rr rfl) rfl cw_X8_60 s0_2 a0_2 (by decide) rfl rfl (Nat.le_of_ble_eq_true rfl) ⟨Nat.zero_le _, Nat.zero_le _⟩ dX8_readVariable_18 rfl ?_
    refine mj_iload_n 0 dX8_readVariable_21 rfl ?_
    obtain rfl := Option.some.inj hf
    have hZ := hq
    replace hZ := mj_u2p hZ
    exact mj_iret hR ⟨Nat.le_refl _, Nat.le_refl _⟩ rfl rfl dX8_readVariable_22 hZ
  · replace hf := mj_pos c2 hf
    refine mj_aload_n 1 dX8_readVariable_10 rfl ?_
    refine mj_iconst dX8_readVariable_11 kc_iconst_1 ?_
    obtain ⟨o4, ho4, hf⟩ := mj_bd hf
    refine mj_callVd (I2 := (mj_rows I [(2, o4), (3, r3)])) (L2 := L) (s1 := []) (st := []) [.int (1 : Int32)] (cmX8_fail X.2.1 G F (1 : Int32) _ _ r2 rfl o4 ho4) (mj_rr rfl) rfl cw_X8_116 s0_2 a0_2 (by decide) rfl rfl (Nat.le_of_ble_eq_true rfl) ⟨Nat.zero_le _, Nat.zero_le _⟩ dX8_readVariable_12 rfl ?_
    refine mj_iconst dX8_readVariable_15 kc_iconst_0 ?_
    obtain rfl := Option.some.inj hf
    have hZ := hq
    replace hZ := mj_u2p hZ
    exact mj_iret hR ⟨Nat.le_refl _, Nat.le_refl _⟩ rfl rfl dX8_readVariable_16 hZ
set_option maxRecDepth 100000 in
set_option maxHeartbeats 4000000 in
theorem cmX8_readVariable (l : Launch) (G : mj_GT) (F : Nat) (I : mj_IT) (L : mj_LT) (r2 : Nat → Int32) (r3 : Nat → Int32) (hr2 : I 2 = r2) (hr3 : I 3 = r3) (o : ((Int32) × (Nat → Int32))) (hf : fnX8_readVariable F r2 r3 = some o) : mj_M l G yX8_readVariable cX8_readVariable 2 2 (some .int) 0 0 mj_P0 mj_S0 98 [.ref 2] I L (mj_qd (some (.int o.1)) (mj_rows I [(2, o.2), (3, r3)]) L) := by
  refine mj_in RX8 "readVariable" [(0, .ref 2)] rfl rfl rfl (by decide) (Nat.le_of_ble_eq_true rfl) (fun X ad hR => ?_)
  refine mj_toI [(2, r2), (3, r3)] (by intro q hq; simp only [List.mem_cons, List.not_mem_nil, or_false] at hq; rcases hq with rfl | rfl <;> assumption) ?_
  refine mtX8_readVariable hR F I L r2 r3 o hf ?_
  obtain ⟨w0, w1⟩ := o
  refine mj_u2q ?_
  exact ⟨rfl, rfl, rfl⟩

-- X8_readNumber
def jnX8_readNumber_68 (F : Nat) (r3 : Nat → Int32) (x2 : Int32) (r2 : Nat → Int32) : Option ((Int32) × (Nat → Int32)) := (if x2 = (10 : Int32) then (if (1 : Int32) = 0 then (fnX8_fail F r2 (2 : Int32)).bind (fun o7 => some ((0 : Int32), o7)) else (fnX8_goOn F r2 r3).bind (fun o6 => some (x2, o6))) else (if (0 : Int32) = 0 then (fnX8_fail F r2 (2 : Int32)).bind (fun o4 => some ((0 : Int32), o4)) else (fnX8_goOn F r2 r3).bind (fun o3 => some (x2, o3))))
def jnX8_readNumber_31 (F : Nat) (r3 : Nat → Int32) (x1 : Int32) (x2 : Int32) (t0 : Int32) (r2 : Nat → Int32) : Option ((Int32) × (Nat → Int32)) := (if x1 = (2 : Int32) then (if (60 : Int32) < x2 then (if (0 : Int32) = 0 then (fnX8_fail F r2 (2 : Int32)).bind (fun o21 => some ((0 : Int32), o21)) else (fnX8_goOn F r2 r3).bind (fun o20 => some (x2, o20))) else (if (1 : Int32) = 0 then (fnX8_fail F r2 (2 : Int32)).bind (fun o24 => some ((0 : Int32), o24)) else (fnX8_goOn F r2 r3).bind (fun o23 => some (x2, o23)))) else (if x1 = (1 : Int32) then (if x2 < (2 : Int32) then jnX8_readNumber_68 F r3 x2 r2 else (if x2 ≤ (6 : Int32) then (if (1 : Int32) = 0 then (fnX8_fail F r2 (2 : Int32)).bind (fun o17 => some ((0 : Int32), o17)) else (fnX8_goOn F r2 r3).bind (fun o16 => some (x2, o16))) else jnX8_readNumber_68 F r3 x2 r2)) else (if t0 = 0 then (fnX8_fail F r2 (2 : Int32)).bind (fun o12 => some ((0 : Int32), o12)) else (fnX8_goOn F r2 r3).bind (fun o11 => some (x2, o11)))))
def fnX8_readNumber (F : Nat) (r2 : Nat → Int32) (r3 : Nat → Int32) (x1 : Int32) : Option ((Int32) × (Nat → Int32)) := (if (r2 4) = (2 : Int32) then (if (10 : Int32) ≤ (r2 7) then jnX8_readNumber_31 F r3 x1 (r2 7) (0 : Int32) r2 else jnX8_readNumber_31 F r3 x1 (r2 7) (1 : Int32) r2) else (fnX8_fail F r2 (1 : Int32)).bind (fun o27 => some ((0 : Int32), o27)))
set_option maxRecDepth 100000 in
set_option maxHeartbeats 4000000 in
theorem jtX8_readNumber_68 {X : mj_XT} {l : Launch} {G : mj_GT} {ad : Nat → Nat} {Qn : Option Value → mj_IT → mj_LT → Prop} (hR : mj_R X l G mj_P0 mj_S0 98 ad 0 0 Qn) (F : Nat) (I : mj_IT) (L : mj_LT) (r2 : Nat → Int32) (r3 : Nat → Int32) (x2 : Int32) (o : ((Int32) × (Nat → Int32))) (hf : jnX8_readNumber_68 F r3 x2 r2 = some o) (hq : (mj_u2 (fun ov r2 => Qn (some (.int ov)) (mj_rows I [(2, r2), (3, r3)]) L)) o) : mj_W X G RX8 "readNumber" cX8_readNumber 4 2 (some .int) mj_P0 mj_S0 98 ad 0 0 68 [(0, .ref 2), (2, .int x2)] [] (mj_rows I [(2, r2), (3, r3)]) L := by
  unfold jnX8_readNumber_68 at hf
  refine mj_iload_n 1 dX8_readNumber_68 rfl ?_
  refine mj_bipush dX8_readNumber_69 kc_bipush_10 ?_
  refine mj_icmp_ne 78 dX8_readNumber_71 (by decide) (fun c1 => ?_) (fun c1 => ?_)
  · replace hf := mj_neg c1 hf
    refine mj_iconst dX8_readNumber_78 kc_iconst_0 ?_
    refine mj_istore_n [(3, .int (0 : Int32)), (0, .ref 2), (2, .int x2)] dX8_readNumber_79 rfl (by decide) rfl ?_
    refine mj_iload_n 0 dX8_readNumber_80 rfl ?_
    refine mj_if_ne 91 dX8_readNumber_81 (by decide) (fun c2 => ?_) (fun c2 => ?_)
    · replace hf := mj_neg c2 hf
      refine mj_aload_n 1 dX8_readNumber_91 rfl ?_
      obtain ⟨o3, ho3, hf⟩ := mj_bd hf
      refine mj_callVd (I2 := (mj_rows I [(2, o3), (3, r3)])) (L2 := L) (s1 := []) (st := []) [] (cmX8_goOn X.2.1 G F  _ _ r2 r3 rfl rfl o3 ho3) (mj_rr rfl) rfl cw_X8_60 s0_2 a0_2 (by decide) rfl rfl (Nat.le_of_ble_eq_true rfl) ⟨Nat.zero_le _, Nat.zero_le _⟩ dX8_readNumber_92 rfl ?_
      refine mj_iload_n 2 dX8_readNumber_95 rfl ?_
      obtain rfl := Option.some.inj hf
      have hZ := hq
      replace hZ := mj_u2p hZ
      exact mj_iret hR ⟨Nat.le_refl _, Nat.le_refl _⟩ rfl rfl dX8_readNumber_96 hZ
    · replace hf := mj_pos c2 hf
      refine mj_aload_n 1 dX8_readNumber_84 rfl ?_
      refine mj_iconst dX8_readNumber_85 kc_iconst_2 ?_
      obtain ⟨o4, ho4, hf⟩ := mj_bd hf
      refine mj_callVd (I2 := (mj_rows I [(2, o4), (3, r3)])) (L2 := L) (s1 := []) (st := []) [.int (2 : Int32)] (cmX8_fail X.2.1 G F (2 : Int32) _ _ r2 rfl o4 ho4) (mj_rr rfl) rfl cw_X8_116 s0_2 a0_2 (by decide) rfl rfl (Nat.le_of_ble_eq_true rfl) ⟨Nat.zero_le _, Nat.zero_le _⟩ dX8_readNumber_86 rfl ?_
      refine mj_iconst dX8_readNumber_89 kc_iconst_0 ?_
      obtain rfl := Option.some.inj hf
      have hZ := hq
      replace hZ := mj_u2p hZ
      exact mj_iret hR ⟨Nat.le_refl _, Nat.le_refl _⟩ rfl rfl dX8_readNumber_90 hZ
  · replace hf := mj_pos c1 hf
    refine mj_iconst dX8_readNumber_74 kc_iconst_1 ?_
    refine mj_goto 79 dX8_readNumber_75 (by decide) ?_
    refine mj_istore_n [(3, .int (1 : Int32)), (0, .ref 2), (2, .int x2)] dX8_readNumber_79 rfl (by decide) rfl ?_
    refine mj_iload_n 0 dX8_readNumber_80 rfl ?_
    refine mj_if_ne 91 dX8_readNumber_81 (by decide) (fun c5 => ?_) (fun c5 => ?_)
    · replace hf := mj_neg c5 hf
      refine mj_aload_n 1 dX8_readNumber_91 rfl ?_
      obtain ⟨o6, ho6, hf⟩ := mj_bd hf
      refine mj_callVd (I2 := (mj_rows I [(2, o6), (3, r3)])) (L2 := L) (s1 := []) (st := []) [] (cmX8_goOn X.2.1 G F  _ _ r2 r3 rfl rfl o6 ho6) (mj_rr rfl) rfl cw_X8_60 s0_2 a0_2 (by decide) rfl rfl (Nat.le_of_ble_eq_true rfl) ⟨Nat.zero_le _, Nat.zero_le _⟩ dX8_readNumber_92 rfl ?_
      refine mj_iload_n 2 dX8_readNumber_95 rfl ?_
      obtain rfl := Option.some.inj hf
      have hZ := hq
      replace hZ := mj_u2p hZ
      exact mj_iret hR ⟨Nat.le_refl _, Nat.le_refl _⟩ rfl rfl dX8_readNumber_96 hZ
    · replace hf := mj_pos c5 hf
      refine mj_aload_n 1 dX8_readNumber_84 rfl ?_
      refine mj_iconst dX8_readNumber_85 kc_iconst_2 ?_
      obtain ⟨o7, ho7, hf⟩ := mj_bd hf
      refine mj_callVd (I2 := (mj_rows I [(2, o7), (3, r3)])) (L2 := L) (s1 := []) (st := []) [.int (2 : Int32)] (cmX8_fail X.2.1 G F (2 : Int32) _ _ r2 rfl o7 ho7) (mj_rr rfl) rfl cw_X8_116 s0_2 a0_2 (by decide) rfl rfl (Nat.le_of_ble_eq_true rfl) ⟨Nat.zero_le _, Nat.zero_le _⟩ dX8_readNumber_86 rfl ?_
      refine mj_iconst dX8_readNumber_89 kc_iconst_0 ?_
      obtain rfl := Option.some.inj hf
      have hZ := hq
      replace hZ := mj_u2p hZ
      exact mj_iret hR ⟨Nat.le_refl _, Nat.le_refl _⟩ rfl rfl dX8_readNumber_90 hZ
set_option maxRecDepth 100000 in
set_option maxHeartbeats 4000000 in
theorem jtX8_readNumber_31 {X : mj_XT} {l : Launch} {G : mj_GT} {ad : Nat → Nat} {Qn : Option Value → mj_IT → mj_LT → Prop} (hR : mj_R X l G mj_P0 mj_S0 98 ad 0 0 Qn) (F : Nat) (I : mj_IT) (L : mj_LT) (r2 : Nat → Int32) (r3 : Nat → Int32) (x1 : Int32) (x2 : Int32) (t0 : Int32) (o : ((Int32) × (Nat → Int32))) (hf : jnX8_readNumber_31 F r3 x1 x2 t0 r2 = some o) (hq : (mj_u2 (fun ov r2 => Qn (some (.int ov)) (mj_rows I [(2, r2), (3, r3)]) L)) o) : mj_W X G RX8 "readNumber" cX8_readNumber 4 2 (some .int) mj_P0 mj_S0 98 ad 0 0 31 [(0, .ref 2), (1, .int x1), (2, .int x2)] [.int t0] (mj_rows I [(2, r2), (3, r3)]) L := by
  unfold jnX8_readNumber_31 at hf
  refine mj_istore_n [(3, .int t0), (0, .ref 2), (1, .int x1), (2, .int x2)] dX8_readNumber_31 rfl (by decide) rfl ?_
  refine mj_iload_n 2 dX8_readNumber_32 rfl ?_
  refine mj_iconst dX8_readNumber_33 kc_iconst_2 ?_
  refine mj_icmp_ne 52 dX8_readNumber_34 (by decide) (fun c8 => ?_) (fun c8 => ?_)
  · replace hf := mj_neg c8 hf
    refine mj_iload_n 2 dX8_readNumber_52 rfl ?_
    refine mj_iconst dX8_readNumber_53 kc_iconst_1 ?_
    refine mj_icmp_ne 80 dX8_readNumber_54 (by decide) (fun c9 => ?_) (fun c9 => ?_)
    · replace hf := mj_neg c9 hf
      refine mj_iload_n 0 dX8_readNumber_80 rfl ?_
      refine mj_if_ne 91 dX8_readNumber_81 (by decide) (fun c10 => ?_) (fun c10 => ?_)
      · replace hf := mj_neg c10 hf
        refine mj_aload_n 1 dX8_readNumber_91 rfl ?_
        obtain ⟨o11, ho11, hf⟩ := mj_bd hf
        refine mj_callVd (I2 := (mj_rows I [(2, o11), (3, r3)])) (L2 := L) (s1 := []) (st := []) [] (cmX8_goOn X.2.1 G F  _ _ r2 r3 rfl rfl o11 ho11) (mj_rr rfl) rfl cw_X8_60 s0_2 a0_2 (by decide) rfl rfl (Nat.le_of_ble_eq_true rfl) ⟨Nat.zero_le _, Nat.zero_le _⟩ dX8_readNumber_92 rfl ?_
        refine mj_iload_n 3 dX8_readNumber_95 rfl ?_
        obtain rfl := Option.some.inj hf
        have hZ := hq
        replace hZ := mj_u2p hZ
        exact mj_iret hR ⟨Nat.le_refl _, Nat.le_refl _⟩ rfl rfl dX8_readNumber_96 hZ
      · replace hf := mj_pos c10 hf
        refine mj_aload_n 1 dX8_readNumber_84 rfl ?_
        refine mj_iconst dX8_readNumber_85 kc_iconst_2 ?_
        obtain ⟨o12, ho12, hf⟩ := mj_bd hf
        refine mj_callVd (I2 := (mj_rows I [(2, o12), (3, r3)])) (L2 := L) (s1 := []) (st := []) [.int (2 : Int32)] (cmX8_fail X.2.1 G F (2 : Int32) _ _ r2 rfl o12 ho12) (mj_rr rfl) rfl cw_X8_116 s0_2 a0_2 (by decide) rfl rfl (Nat.le_of_ble_eq_true rfl) ⟨Nat.zero_le _, Nat.zero_le _⟩ dX8_readNumber_86 rfl ?_
        refine mj_iconst dX8_readNumber_89 kc_iconst_0 ?_
        obtain rfl := Option.some.inj hf
        have hZ := hq
        replace hZ := mj_u2p hZ
        exact mj_iret hR ⟨Nat.le_refl _, Nat.le_refl _⟩ rfl rfl dX8_readNumber_90 hZ
    · replace hf := mj_pos c9 hf
      refine mj_iload_n 3 dX8_readNumber_57 rfl ?_
      refine mj_iconst dX8_readNumber_58 kc_iconst_2 ?_
      refine mj_icmp_lt 68 dX8_readNumber_59 (by decide) (fun c13 => ?_) (fun c13 => ?_)
      · replace hf := mj_pos c13 hf
        refine mj_sub [1, 3] [(0, .ref 2), (2, .int x2)] rfl ?_
        exact jtX8_readNumber_68 hR F I L r2 r3 x2 o hf hq
      · replace hf := mj_neg c13 hf
        refine mj_iload_n 3 dX8_readNumber_62 rfl ?_
        refine mj_bipush dX8_readNumber_63 kc_bipush_6 ?_
        refine mj_icmp_le 74 dX8_readNumber_65 (by decide) (fun c14 => ?_) (fun c14 => ?_)
        · replace hf := mj_pos c14 hf
          refine mj_iconst dX8_readNumber_74 kc_iconst_1 ?_
          refine mj_goto 79 dX8_readNumber_75 (by decide) ?_
          refine mj_istore_n [(3, .int (1 : Int32)), (0, .ref 2), (1, .int x1), (2, .int x2)] dX8_readNumber_79 rfl (by decide) rfl ?_
          refine mj_iload_n 0 dX8_readNumber_80 rfl ?_
          refine mj_if_ne 91 dX8_readNumber_81 (by decide) (fun c15 => ?_) (fun c15 => ?_)
          · replace hf := mj_neg c15 hf
            refine mj_aload_n 1 dX8_readNumber_91 rfl ?_
            obtain ⟨o16, ho16, hf⟩ := mj_bd hf
            refine mj_callVd (I2 := (mj_rows I [(2, o16), (3, r3)])) (L2 := L) (s1 := []) (st := []) [] (cmX8_goOn X.2.1 G F  _ _ r2 r3 rfl rfl o16 ho16) (mj_rr rfl) rfl cw_X8_60 s0_2 a0_2 (by decide) rfl rfl (Nat.le_of_ble_eq_true rfl) ⟨Nat.zero_le _, Nat.zero_le _⟩ dX8_readNumber_92 rfl ?_
            refine mj_iload_n 3 dX8_readNumber_95 rfl ?_
            obtain rfl := Option.some.inj hf
            have hZ := hq
            replace hZ := mj_u2p hZ
            exact mj_iret hR ⟨Nat.le_refl _, Nat.le_refl _⟩ rfl rfl dX8_readNumber_96 hZ
          · replace hf := mj_pos c15 hf
            refine mj_aload_n 1 dX8_readNumber_84 rfl ?_
            refine mj_iconst dX8_readNumber_85 kc_iconst_2 ?_
            obtain ⟨o17, ho17, hf⟩ := mj_bd hf
            refine mj_callVd (I2 := (mj_rows I [(2, o17), (3, r3)])) (L2 := L) (s1 := []) (st := []) [.int (2 : Int32)] (cmX8_fail X.2.1 G F (2 : Int32) _ _ r2 rfl o17 ho17) (mj_rr rfl) rfl cw_X8_116 s0_2 a0_2 (by decide) rfl rfl (Nat.le_of_ble_eq_true rfl) ⟨Nat.zero_le _, Nat.zero_le _⟩ dX8_readNumber_86 rfl ?_
            refine mj_iconst dX8_readNumber_89 kc_iconst_0 ?_
            obtain rfl := Option.some.inj hf
            have hZ := hq
            replace hZ := mj_u2p hZ
            exact mj_iret hR ⟨Nat.le_refl _, Nat.le_refl _⟩ rfl rfl dX8_readNumber_90 hZ
        · replace hf := mj_neg c14 hf
          refine mj_sub [1, 3] [(0, .ref 2), (2, .int x2)] rfl ?_
          exact jtX8_readNumber_68 hR F I L r2 r3 x2 o hf hq
  · replace hf := mj_pos c8 hf
    refine mj_iload_n 3 dX8_readNumber_37 rfl ?_
    refine mj_bipush dX8_readNumber_38 kc_bipush_60 ?_
    refine mj_icmp_gt 47 dX8_readNumber_40 (by decide) (fun c18 => ?_) (fun c18 => ?_)
    · replace hf := mj_pos c18 hf
      refine mj_iconst dX8_readNumber_47 kc_iconst_0 ?_
      refine mj_istore_n [(3, .int (0 : Int32)), (0, .ref 2), (1, .int x1), (2, .int x2)] dX8_readNumber_48 rfl (by decide) rfl ?_
      refine mj_goto 80 dX8_readNumber_49 (by decide) ?_
      refine mj_iload_n 0 dX8_readNumber_80 rfl ?_
      refine mj_if_ne 91 dX8_readNumber_81 (by decide) (fun c19 => ?_) (fun c19 => ?_)
      · replace hf := mj_neg c19 hf
        refine mj_aload_n 1 dX8_readNumber_91 rfl ?_
        obtain ⟨o20, ho20, hf⟩ := mj_bd hf
        refine mj_callVd (I2 := (mj_rows I [(2, o20), (3, r3)])) (L2 := L) (s1 := []) (st := []) [] (cmX8_goOn X.2.1 G F  _ _ r2 r3 rfl rfl o20 ho20) (mj_rr rfl) rfl cw_X8_60 s0_2 a0_2 (by decide) rfl rfl (Nat.le_of_ble_eq_true rfl) ⟨Nat.zero_le _, Nat.zero_le _⟩ dX8_readNumber_92 rfl ?_
        refine mj_iload_n 3 dX8_readNumber_95 rfl ?_
        obtain rfl := Option.some.inj hf
        have hZ := hq
        replace hZ := mj_u2p hZ
        exact mj_iret hR ⟨Nat.le_refl _, Nat.le_refl _⟩ rfl rfl dX8_readNumber_96 hZ
      · replace hf := mj_pos c19 hf
        refine mj_aload_n 1 dX8_readNumber_84 rfl ?_
        refine mj_iconst dX8_readNumber_85 kc_iconst_2 ?_
        obtain ⟨o21, ho21, hf⟩ := mj_bd hf
        refine mj_callVd (I2 := (mj_rows I [(2, o21), (3, r3)])) (L2 := L) (s1 := []) (st := []) [.int (2 : Int32)] (cmX8_fail X.2.1 G F (2 : Int32) _ _ r2 rfl o21 ho21) (mj_rr rfl) rfl cw_X8_116 s0_2 a0_2 (by decide) rfl rfl (Nat.le_of_ble_eq_true rfl) ⟨Nat.zero_le _, Nat.zero_le _⟩ dX8_readNumber_86 rfl ?_
        refine mj_iconst dX8_readNumber_89 kc_iconst_0 ?_
        obtain rfl := Option.some.inj hf
        have hZ := hq
        replace hZ := mj_u2p hZ
        exact mj_iret hR ⟨Nat.le_refl _, Nat.le_refl _⟩ rfl rfl dX8_readNumber_90 hZ
    · replace hf := mj_neg c18 hf
      refine mj_iconst dX8_readNumber_43 kc_iconst_1 ?_
      refine mj_goto 48 dX8_readNumber_44 (by decide) ?_
      refine mj_istore_n [(3, .int (1 : Int32)), (0, .ref 2), (1, .int x1), (2, .int x2)] dX8_readNumber_48 rfl (by decide) rfl ?_
      refine mj_goto 80 dX8_readNumber_49 (by decide) ?_
      refine mj_iload_n 0 dX8_readNumber_80 rfl ?_
      refine mj_if_ne 91 dX8_readNumber_81 (by decide) (fun c22 => ?_) (fun c22 => ?_)
      · replace hf := mj_neg c22 hf
        refine mj_aload_n 1 dX8_readNumber_91 rfl ?_
        obtain ⟨o23, ho23, hf⟩ := mj_bd hf
        refine mj_callVd (I2 := (mj_rows I [(2, o23), (3, r3)])) (L2 := L) (s1 := []) (st := []) [] (cmX8_goOn X.2.1 G F  _ _ r2 r3 rfl rfl o23 ho23) (mj_rr rfl) rfl cw_X8_60 s0_2 a0_2 (by decide) rfl rfl (Nat.le_of_ble_eq_true rfl) ⟨Nat.zero_le _, Nat.zero_le _⟩ dX8_readNumber_92 rfl ?_
        refine mj_iload_n 3 dX8_readNumber_95 rfl ?_
        obtain rfl := Option.some.inj hf
        have hZ := hq
        replace hZ := mj_u2p hZ
        exact mj_iret hR ⟨Nat.le_refl _, Nat.le_refl _⟩ rfl rfl dX8_readNumber_96 hZ
      · replace hf := mj_pos c22 hf
        refine mj_aload_n 1 dX8_readNumber_84 rfl ?_
        refine mj_iconst dX8_readNumber_85 kc_iconst_2 ?_
        obtain ⟨o24, ho24, hf⟩ := mj_bd hf
        refine mj_callVd (I2 := (mj_rows I [(2, o24), (3, r3)])) (L2 := L) (s1 := []) (st := []) [.int (2 : Int32)] (cmX8_fail X.2.1 G F (2 : Int32) _ _ r2 rfl o24 ho24) (mj_rr rfl) rfl cw_X8_116 s0_2 a0_2 (by decide) rfl rfl (Nat.le_of_ble_eq_true rfl) ⟨Nat.zero_le _, Nat.zero_le _⟩ dX8_readNumber_86 rfl ?_
        refine mj_iconst dX8_readNumber_89 kc_iconst_0 ?_
        obtain rfl := Option.some.inj hf
        have hZ := hq
        replace hZ := mj_u2p hZ
        exact mj_iret hR ⟨Nat.le_refl _, Nat.le_refl _⟩ rfl rfl dX8_readNumber_90 hZ
set_option maxRecDepth 100000 in
set_option maxHeartbeats 4000000 in
theorem mtX8_readNumber {X : mj_XT} {l : Launch} {G : mj_GT} {ad : Nat → Nat} {Qn : Option Value → mj_IT → mj_LT → Prop} (hR : mj_R X l G mj_P0 mj_S0 98 ad 0 0 Qn) (F : Nat) (I : mj_IT) (L : mj_LT) (r2 : Nat → Int32) (r3 : Nat → Int32) (x1 : Int32) (o : ((Int32) × (Nat → Int32))) (hf : fnX8_readNumber F r2 r3 x1 = some o) (hq : (mj_u2 (fun ov r2 => Qn (some (.int ov)) (mj_rows I [(2, r2), (3, r3)]) L)) o) : mj_W X G RX8 "readNumber" cX8_readNumber 4 2 (some .int) mj_P0 mj_S0 98 ad 0 0 0 [(0, .ref 2), (1, .int x1)] [] (mj_rows I [(2, r2), (3, r3)]) L := by
  unfold fnX8_readNumber at hf
  refine mj_aload_n 0 dX8_readNumber_0 rfl ?_
  refine mj_getIv (v := (r2 7)) rfl fl_X8_82 rfl s0_2 a0_2 dX8_readNumber_1 ?_
  refine mj_istore_n [(2, .int (r2 7)), (0, .ref 2), (1, .int x1)] dX8_readNumber_4 rfl (by decide) rfl ?_
  refine mj_aload_n 1 dX8_readNumber_5 rfl ?_
  refine mj_getIv (v := (r2 4)) rfl fl_X8_63 rfl s0_2 a0_2 dX8_readNumber_6 ?_
  refine mj_iconst dX8_readNumber_9 kc_iconst_2 ?_
  refine mj_icmp_eq 20 dX8_readNumber_10 (by decide) (fun c25 => ?_) (fun c25 => ?_)
  · replace hf := mj_pos c25 hf
    refine mj_iload_n 0 dX8_readNumber_20 rfl ?_
    refine mj_bipush dX8_readNumber_21 kc_bipush_10 ?_
    refine mj_icmp_ge 30 dX8_readNumber_23 (by decide) (fun c26 => ?_) (fun c26 => ?_)
    · replace hf := mj_pos c26 hf
      refine mj_iconst dX8_readNumber_30 kc_iconst_0 ?_
      refine mj_sub [1, 2, 0] [(0, .ref 2), (1, .int x1), (2, .int (r2 7))] rfl ?_
      exact jtX8_readNumber_31 hR F I L r2 r3 x1 (r2 7) (0 : Int32) o hf hq
    · replace hf := mj_neg c26 hf
      refine mj_iconst dX8_readNumber_26 kc_iconst_1 ?_
      refine mj_goto 31 dX8_readNumber_27 (by decide) ?_
      refine mj_sub [1, 2, 0] [(0, .ref 2), (1, .int x1), (2, .int (r2 7))] rfl ?_
      exact jtX8_readNumber_31 hR F I L r2 r3 x1 (r2 7) (1 : Int32) o hf hq
  · replace hf := mj_neg c25 hf
    refine mj_aload_n 1 dX8_readNumber_13 rfl ?_
    refine mj_iconst dX8_readNumber_14 kc_iconst_1 ?_
    obtain ⟨o27, ho27, hf⟩ := mj_bd hf
    refine mj_callVd (I2 := (mj_rows I [(2, o27), (3, r3)])) (L2 := L) (s1 := []) (st := []) [.int (1 : Int32)] (cmX8_fail X.2.1 G F (1 : Int32) _ _ r2 rfl o27 ho27) (mj_rr rfl) rfl cw_X8_116 s0_2 a0_2 (by decide) rfl rfl (Nat.le_of_ble_eq_true rfl) ⟨Nat.zero_le _, Nat.zero_le _⟩ dX8_readNumber_15 rfl ?_
    refine mj_iconst dX8_readNumber_18 kc_iconst_0 ?_
    obtain rfl := Option.some.inj hf
    have hZ := hq
    replace hZ := mj_u2p hZ
    exact mj_iret hR ⟨Nat.le_refl _, Nat.le_refl _⟩ rfl rfl dX8_readNumber_19 hZ
set_option maxRecDepth 100000 in
set_option maxHeartbeats 4000000 in
theorem cmX8_readNumber (l : Launch) (G : mj_GT) (F : Nat) (x1 : Int32) (I : mj_IT) (L : mj_LT) (r2 : Nat → Int32) (r3 : Nat → Int32) (hr2 : I 2 = r2) (hr3 : I 3 = r3) (o : ((Int32) × (Nat → Int32))) (hf : fnX8_readNumber F r2 r3 x1 = some o) : mj_M l G yX8_readNumber cX8_readNumber 4 2 (some .int) 0 0 mj_P0 mj_S0 98 [.ref 2, .int x1] I L (mj_qd (some (.int o.1)) (mj_rows I [(2, o.2), (3, r3)]) L) := by
  refine mj_in RX8 "readNumber" [(0, .ref 2), (1, .int x1)] rfl rfl rfl (by decide) (Nat.le_of_ble_eq_true rfl) (fun X ad hR => ?_)
  refine mj_toI [(2, r2), (3, r3)] (by intro q hq; simp only [List.mem_cons, List.not_mem_nil, or_false] at hq; rcases hq with rfl | rfl <;> assumption) ?_
  refine mtX8_readNumber hR F I L r2 r3 x1 o hf ?_
  obtain ⟨w0, w1⟩ := o
  refine mj_u2q ?_
  exact ⟨rfl, rfl, rfl⟩

-- X8_readTerm
def fnX8_readTerm (F : Nat) (r2 : Nat → Int32) (r3 : Nat → Int32) : Option ((Int32) × (Nat → Int32)) := (if (r2 4) = (2 : Int32) then (fnX8_readNumber F r2 r3 (0 : Int32)).bind (fun o3 => some (o3.1, o3.2)) else (fnX8_readVariable F r2 r3).bind (fun o2 => some (((10 : Int32) + o2.1), o2.2)))
set_option maxRecDepth 100000 in
set_option maxHeartbeats 4000000 in
theorem mtX8_readTerm {X : mj_XT} {l : Launch} {G : mj_GT} {ad : Nat → Nat} {Qn : Option Value → mj_IT → mj_LT → Prop} (hR : mj_R X l G mj_P0 mj_S0 98 ad 0 0 Qn) (F : Nat) (I : mj_IT) (L : mj_LT) (r2 : Nat → Int32) (r3 : Nat → Int32) (o : ((Int32) × (Nat → Int32))) (hf : fnX8_readTerm F r2 r3 = some o) (hq : (mj_u2 (fun ov r2 => Qn (some (.int ov)) (mj_rows I [(2, r2), (3, r3)]) L)) o) : mj_W X G RX8 "readTerm" cX8_readTerm 1 3 (some .int) mj_P0 mj_S0 98 ad 0 0 0 [(0, .ref 2)] [] (mj_rows I [(2, r2), (3, r3)]) L := by
  unfold fnX8_readTerm at hf
  refine mj_aload_n 0 dX8_readTerm_0 rfl ?_
  refine mj_getIv (v := (r2 4)) rfl fl_X8_63 rfl s0_2 a0_2 dX8_readTerm_1 ?_
  refine mj_iconst dX8_readTerm_4 kc_iconst_2 ?_
  refine mj_icmp_ne 16 dX8_readTerm_5 (by decide) (fun c1 => ?_) (fun c1 => ?_)
  · replace hf := mj_neg c1 hf
    refine mj_bipush dX8_readTerm_16 kc_bipush_10 ?_
    refine mj_aload_n 0 dX8_readTerm_18 rfl ?_
    obtain ⟨o2, ho2, hf⟩ := mj_bd hf
    refine mj_callVd (I2 := (mj_rows I [(2, o2.2), (3, r3)])) (L2 := L) (s1 := [.int o2.1, .int (10 : Int32)]) (st := [.int (10 : Int32)]) [] (cmX8_readVariable X.2.1 G F  _ _ r2 r3 rfl rfl o2 ho2) (mj_rr rfl) rfl cw_X8_131 s0_2 a0_2 (by decide) rfl rfl (Nat.le_of_ble_eq_true rfl) ⟨Nat.zero_le _, Nat.zero_le _⟩ dX8_readTerm_19 rfl ?_
    refine mj_iadd dX8_readTerm_22 ?_
    obtain rfl := Option.some.inj hf
    have hZ := hq
    replace hZ := mj_u2p hZ
    exact mj_iret hR ⟨Nat.le_refl _, Nat.le_refl _⟩ rfl rfl dX8_readTerm_23 hZ
  · replace hf := mj_pos c1 hf
    refine mj_aload_n 0 dX8_readTerm_8 rfl ?_
    refine mj_iconst dX8_readTerm_9 kc_iconst_0 ?_
    obtain ⟨o3, ho3, hf⟩ := mj_bd hf
    refine mj_callVd (I2 := (mj_rows I [(2, o3.2), (3, r3)])) (L2 := L) (s1 := [.int o3.1]) (st := []) [.int (0 : Int32)] (cmX8_readNumber X.2.1 G F (0 : Int32) _ _ r2 r3 rfl rfl o3 ho3) (mj_rr rfl) rfl cw_X8_154 s0_2 a0_2 (by decide) rfl rfl (Nat.le_of_ble_eq_true rfl) ⟨Nat.zero_le _, Nat.zero_le _⟩ dX8_readTerm_10 rfl ?_
    refine mj_goto 23 dX8_readTerm_13 (by decide) ?_
    obtain rfl := Option.some.inj hf
    have hZ := hq
    replace hZ := mj_u2p hZ
    exact mj_iret hR ⟨Nat.le_refl _, Nat.le_refl _⟩ rfl rfl dX8_readTerm_23 hZ
set_option maxRecDepth 100000 in
set_option maxHeartbeats 4000000 in
theorem cmX8_readTerm (l : Launch) (G : mj_GT) (F : Nat) (I : mj_IT) (L : mj_LT) (r2 : Nat → Int32) (r3 : Nat → Int32) (hr2 : I 2 = r2) (hr3 : I 3 = r3) (o : ((Int32) × (Nat → Int32))) (hf : fnX8_readTerm F r2 r3 = some o) : mj_M l G yX8_readTerm cX8_readTerm 1 3 (some .int) 0 0 mj_P0 mj_S0 98 [.ref 2] I L (mj_qd (some (.int o.1)) (mj_rows I [(2, o.2), (3, r3)]) L) := by
  refine mj_in RX8 "readTerm" [(0, .ref 2)] rfl rfl rfl (by decide) (Nat.le_of_ble_eq_true rfl) (fun X ad hR => ?_)
  refine mj_toI [(2, r2), (3, r3)] (by intro q hq; simp only [List.mem_cons, List.not_mem_nil, or_false] at hq; rcases hq with rfl | rfl <;> assumption) ?_
  refine mtX8_readTerm hR F I L r2 r3 o hf ?_
  obtain ⟨w0, w1⟩ := o
  refine mj_u2q ?_
  exact ⟨rfl, rfl, rfl⟩

-- X8_readSum
def jnX8_readSum_25 (F : Nat) (r3 : Nat → Int32) (x1 : Int32) (r2 : Nat → Int32) : Option ((Int32) × (Nat → Int32)) := (fnX8_isSign F r2 r3 (43 : Int32)).bind (fun o1 => (if o1 = 0 then (fnX8_goOn F r2 r3).bind (fun o3 => (fnX8_readTerm F o3 r3).bind (fun o4 => (fnX7_sum F x1 (2 : Int32) o4.1).bind (fun o5 => some (o5, o4.2)))) else (fnX8_goOn F r2 r3).bind (fun o6 => (fnX8_readTerm F o6 r3).bind (fun o7 => (fnX7_sum F x1 (1 : Int32) o7.1).bind (fun o8 => some (o8, o7.2))))))
def fnX8_readSum (F : Nat) (r2 : Nat → Int32) (r3 : Nat → Int32) : Option ((Int32) × (Nat → Int32)) := (fnX8_readTerm F r2 r3).bind (fun o9 => (fnX8_isSign F o9.2 r3 (43 : Int32)).bind (fun o10 => (if o10 = 0 then (fnX8_isSign F o9.2 r3 (45 : Int32)).bind (fun o12 => (if o12 = 0 then some (o9.1, o9.2) else jnX8_readSum_25 F r3 o9.1 o9.2)) else jnX8_readSum_25 F r3 o9.1 o9.2)))
set_option maxRecDepth 100000 in
set_option maxHeartbeats 4000000 in
theorem jtX8_readSum_25 {X : mj_XT} {l : Launch} {G : mj_GT} {ad : Nat → Nat} {Qn : Option Value → mj_IT → mj_LT → Prop} (hR : mj_R X l G mj_P0 mj_S0 98 ad 0 0 Qn) (F : Nat) (I : mj_IT) (L : mj_LT) (r2 : Nat → Int32) (r3 : Nat → Int32) (x1 : Int32) (o : ((Int32) × (Nat → Int32))) (hf : jnX8_readSum_25 F r3 x1 r2 = some o) (hq : (mj_u2 (fun ov r2 => Qn (some (.int ov)) (mj_rows I [(2, r2), (3, r3)]) L)) o) : mj_W X G RX8 "readSum" cX8_readSum 3 4 (some .int) mj_P0 mj_S0 98 ad 0 0 25 [(0, .ref 2), (1, .int x1)] [] (mj_rows I [(2, r2), (3, r3)]) L := by
  unfold jnX8_readSum_25 at hf
  refine mj_aload_n 0 dX8_readSum_25 rfl ?_
  refine mj_bipush dX8_readSum_26 kc_bipush_43 ?_
  obtain ⟨o1, ho1, hf⟩ := mj_bd hf
  refine mj_callVd (I2 := (mj_rows I [(2, r2), (3, r3)])) (L2 := L) (s1 := [.int o1]) (st := []) [.int (43 : Int32)] (cmX8_isSign X.2.1 G F (43 : Int32) _ _ r2 r3 rfl rfl o1 ho1) (mj_rr rfl) rfl cw_X8_66 s0_2 a0_2 (by decide) rfl rfl (Nat.le_of_ble_eq_true rfl) ⟨Nat.zero_le _, Nat.zero_le _⟩ dX8_readSum_28 rfl ?_
  refine mj_if_eq 38 dX8_readSum_31 (by decide) (fun c2 => ?_) (fun c2 => ?_)
  · replace hf := mj_pos c2 hf
    refine mj_iconst dX8_readSum_38 kc_iconst_2 ?_
    refine mj_istore_n [(2, .int (2 : Int32)), (0, .ref 2), (1, .int x1)] dX8_readSum_39 rfl (by decide) rfl ?_
    refine mj_aload_n 1 dX8_readSum_40 rfl ?_
    obtain ⟨o3, ho3, hf⟩ := mj_bd hf
    refine mj_callVd (I2 := (mj_rows I [(2, o3), (3, r3)])) (L2 := L) (s1 := []) (st := []) [] (cmX8_goOn X.2.1 G F  _ _ r2 r3 rfl rfl o3 ho3) (mj_rr rfl) rfl cw_X8_60 s0_2 a0_2 (by decide) rfl rfl (Nat.le_of_ble_eq_true rfl) ⟨Nat.zero_le _, Nat.zero_le _⟩ dX8_readSum_41 rfl ?_
    refine mj_iload_n 2 dX8_readSum_44 rfl ?_
    refine mj_iload_n 0 dX8_readSum_45 rfl ?_
    refine mj_aload_n 1 dX8_readSum_46 rfl ?_
    obtain ⟨o4, ho4, hf⟩ := mj_bd hf
    refine mj_callVd (I2 := (mj_rows I [(2, o4.2), (3, r3)])) (L2 := L) (s1 := [.int o4.1, .int (2 : Int32), .int x1]) (st := [.int (2 : Int32), .int x1]) [] (cmX8_readTerm X.2.1 G F  _ _ o3 r3 rfl rfl o4 ho4) (mj_rr rfl) rfl cw_X8_172 s0_2 a0_2 (by decide) rfl rfl (Nat.le_of_ble_eq_true rfl) ⟨Nat.zero_le _, Nat.zero_le _⟩ dX8_readSum_47 rfl ?_
    obtain ⟨o5, ho5, hf⟩ := mj_bd hf
    refine mj_callSd (I2 := (mj_rows I [(2, o4.2), (3, r3)])) (L2 := L) (s1 := [.int o5]) (st := []) [.int x1, .int (2 : Int32), .int o4.1] (cmX7_sum X.2.1 G F x1 (2 : Int32) o4.1 _ _   o5 ho5) rfl rfl cw_X8_175 (by decide) rfl rfl (Nat.le_of_ble_eq_true rfl) ⟨Nat.zero_le _, Nat.zero_le _⟩ dX8_readSum_50 rfl ?_
    obtain rfl := Option.some.inj hf
    have hZ := hq
    replace hZ := mj_u2p hZ
    exact mj_iret hR ⟨Nat.le_refl _, Nat.le_refl _⟩ rfl rfl dX8_readSum_53 hZ
  · replace hf := mj_neg c2 hf
    refine mj_iconst dX8_readSum_34 kc_iconst_1 ?_
    refine mj_goto 39 dX8_readSum_35 (by decide) ?_
    refine mj_istore_n [(2, .int (1 : Int32)), (0, .ref 2), (1, .int x1)] dX8_readSum_39 rfl (by decide) rfl ?_
    refine mj_aload_n 1 dX8_readSum_40 rfl ?_
    obtain ⟨o6, ho6, hf⟩ := mj_bd hf
    refine mj_callVd (I2 := (mj_rows I [(2, o6), (3, r3)])) (L2 := L) (s1 := []) (st := []) [] (cmX8_goOn X.2.1 G F  _ _ r2 r3 rfl rfl o6 ho6) (mj_rr rfl) rfl cw_X8_60 s0_2 a0_2 (by decide) rfl rfl (Nat.le_of_ble_eq_true rfl) ⟨Nat.zero_le _, Nat.zero_le _⟩ dX8_readSum_41 rfl ?_
    refine mj_iload_n 2 dX8_readSum_44 rfl ?_
    refine mj_iload_n 0 dX8_readSum_45 rfl ?_
    refine mj_aload_n 1 dX8_readSum_46 rfl ?_
    obtain ⟨o7, ho7, hf⟩ := mj_bd hf
    refine mj_callVd (I2 := (mj_rows I [(2, o7.2), (3, r3)])) (L2 := L) (s1 := [.int o7.1, .int (1 : Int32), .int x1]) (st := [.int (1 : Int32), .int x1]) [] (cmX8_readTerm X.2.1 G F  _ _ o6 r3 rfl rfl o7 ho7) (mj_rr rfl) rfl cw_X8_172 s0_2 a0_2 (by decide) rfl rfl (Nat.le_of_ble_eq_true rfl) ⟨Nat.zero_le _, Nat.zero_le _⟩ dX8_readSum_47 rfl ?_
    obtain ⟨o8, ho8, hf⟩ := mj_bd hf
    refine mj_callSd (I2 := (mj_rows I [(2, o7.2), (3, r3)])) (L2 := L) (s1 := [.int o8]) (st := []) [.int x1, .int (1 : Int32), .int o7.1] (cmX7_sum X.2.1 G F x1 (1 : Int32) o7.1 _ _   o8 ho8) rfl rfl cw_X8_175 (by decide) rfl rfl (Nat.le_of_ble_eq_true rfl) ⟨Nat.zero_le _, Nat.zero_le _⟩ dX8_readSum_50 rfl ?_
    obtain rfl := Option.some.inj hf
    have hZ := hq
    replace hZ := mj_u2p hZ
    exact mj_iret hR ⟨Nat.le_refl _, Nat.le_refl _⟩ rfl rfl dX8_readSum_53 hZ
set_option maxRecDepth 100000 in
set_option maxHeartbeats 4000000 in
theorem mtX8_readSum {X : mj_XT} {l : Launch} {G : mj_GT} {ad : Nat → Nat} {Qn : Option Value → mj_IT → mj_LT → Prop} (hR : mj_R X l G mj_P0 mj_S0 98 ad 0 0 Qn) (F : Nat) (I : mj_IT) (L : mj_LT) (r2 : Nat → Int32) (r3 : Nat → Int32) (o : ((Int32) × (Nat → Int32))) (hf : fnX8_readSum F r2 r3 = some o) (hq : (mj_u2 (fun ov r2 => Qn (some (.int ov)) (mj_rows I [(2, r2), (3, r3)]) L)) o) : mj_W X G RX8 "readSum" cX8_readSum 3 4 (some .int) mj_P0 mj_S0 98 ad 0 0 0 [(0, .ref 2)] [] (mj_rows I [(2, r2), (3, r3)]) L := by
  unfold fnX8_readSum at hf
  refine mj_aload_n 0 dX8_readSum_0 rfl ?_
  obtain ⟨o9, ho9, hf⟩ := mj_bd hf
  refine mj_callVd (I2 := (mj_rows I [(2, o9.2), (3, r3)])) (L2 := L) (s1 := [.int o9.1]) (st := []) [] (cmX8_readTerm X.2.1 G F  _ _ r2 r3 rfl rfl o9 ho9) (mj_rr rfl) rfl cw_X8_172 s0_2 a0_2 (by decide) rfl rfl (Nat.le_of_ble_eq_true rfl) ⟨Nat.zero_le _, Nat.zero_le _⟩ dX8_readSum_1 rfl ?_
  refine mj_istore_n [(1, .int o9.1), (0, .ref 2)] dX8_readSum_4 rfl (by decide) rfl ?_
  refine mj_aload_n 1 dX8_readSum_5 rfl ?_
  refine mj_bipush dX8_readSum_6 kc_bipush_43 ?_
  obtain ⟨o10, ho10, hf⟩ := mj_bd hf
  refine mj_callVd (I2 := (mj_rows I [(2, o9.2), (3, r3)])) (L2 := L) (s1 := [.int o10]) (st := []) [.int (43 : Int32)] (cmX8_isSign X.2.1 G F (43 : Int32) _ _ o9.2 r3 rfl rfl o10 ho10) (mj_rr rfl) rfl cw_X8_66 s0_2 a0_2 (by decide) rfl rfl (Nat.le_of_ble_eq_true rfl) ⟨Nat.zero_le _, Nat.zero_le _⟩ dX8_readSum_8 rfl ?_
  refine mj_if_ne 25 dX8_readSum_11 (by decide) (fun c11 => ?_) (fun c11 => ?_)
  · replace hf := mj_neg c11 hf
    refine mj_sub [1, 0] [(0, .ref 2), (1, .int o9.1)] rfl ?_
    exact jtX8_readSum_25 hR F I L o9.2 r3 o9.1 o hf hq
  · replace hf := mj_pos c11 hf
    refine mj_aload_n 1 dX8_readSum_14 rfl ?_
    refine mj_bipush dX8_readSum_15 kc_bipush_45 ?_
    obtain ⟨o12, ho12, hf⟩ := mj_bd hf
    refine mj_callVd (I2 := (mj_rows I [(2, o9.2), (3, r3)])) (L2 := L) (s1 := [.int o12]) (st := []) [.int (45 : Int32)] (cmX8_isSign X.2.1 G F (45 : Int32) _ _ o9.2 r3 rfl rfl o12 ho12) (mj_rr rfl) rfl cw_X8_66 s0_2 a0_2 (by decide) rfl rfl (Nat.le_of_ble_eq_true rfl) ⟨Nat.zero_le _, Nat.zero_le _⟩ dX8_readSum_17 rfl ?_
    refine mj_if_ne 25 dX8_readSum_20 (by decide) (fun c13 => ?_) (fun c13 => ?_)
    · replace hf := mj_neg c13 hf
      refine mj_sub [1, 0] [(0, .ref 2), (1, .int o9.1)] rfl ?_
      exact jtX8_readSum_25 hR F I L o9.2 r3 o9.1 o hf hq
    · replace hf := mj_pos c13 hf
      refine mj_iload_n 0 dX8_readSum_23 rfl ?_
      obtain rfl := Option.some.inj hf
      have hZ := hq
      replace hZ := mj_u2p hZ
      exact mj_iret hR ⟨Nat.le_refl _, Nat.le_refl _⟩ rfl rfl dX8_readSum_24 hZ
set_option maxRecDepth 100000 in
set_option maxHeartbeats 4000000 in
theorem cmX8_readSum (l : Launch) (G : mj_GT) (F : Nat) (I : mj_IT) (L : mj_LT) (r2 : Nat → Int32) (r3 : Nat → Int32) (hr2 : I 2 = r2) (hr3 : I 3 = r3) (o : ((Int32) × (Nat → Int32))) (hf : fnX8_readSum F r2 r3 = some o) : mj_M l G yX8_readSum cX8_readSum 3 4 (some .int) 0 0 mj_P0 mj_S0 98 [.ref 2] I L (mj_qd (some (.int o.1)) (mj_rows I [(2, o.2), (3, r3)]) L) := by
  refine mj_in RX8 "readSum" [(0, .ref 2)] rfl rfl rfl (by decide) (Nat.le_of_ble_eq_true rfl) (fun X ad hR => ?_)
  refine mj_toI [(2, r2), (3, r3)] (by intro q hq; simp only [List.mem_cons, List.not_mem_nil, or_false] at hq; rcases hq with rfl | rfl <;> assumption) ?_
  refine mtX8_readSum hR F I L r2 r3 o hf ?_
  obtain ⟨w0, w1⟩ := o
  refine mj_u2q ?_
  exact ⟨rfl, rfl, rfl⟩

-- X8_readRelation
def fnX8_readRelation (F : Nat) (r2 : Nat → Int32) (r3 : Nat → Int32) : Option ((Int32) × (Nat → Int32)) := (fnX8_isSign F r2 r3 (61 : Int32)).bind (fun o1 => (if o1 = 0 then (fnX8_isSign F r2 r3 (60 : Int32)).bind (fun o5 => (if o5 = 0 then (fnX8_isSign F r2 r3 (35 : Int32)).bind (fun o9 => (if o9 = 0 then (fnX8_fail F r2 (1 : Int32)).bind (fun o13 => some ((0 : Int32), o13)) else (if mj_ib (r2 5) 400 = true then (fnX8_goOn F r2 r3).bind (fun o12 => some ((r3 ((r2 5).toNatClampNeg)), o12)) else none))) else (if mj_ib (r2 5) 400 = true then (fnX8_goOn F r2 r3).bind (fun o8 => some ((r3 ((r2 5).toNatClampNeg)), o8)) else none))) else (if mj_ib (r2 5) 400 = true then (fnX8_goOn F r2 r3).bind (fun o4 => some ((r3 ((r2 5).toNatClampNeg)), o4)) else none)))
set_option maxRecDepth 100000 in
set_option maxHeartbeats 4000000 in
theorem mtX8_readRelation {X : mj_XT} {l : Launch} {G : mj_GT} {ad : Nat → Nat} {Qn : Option Value → mj_IT → mj_LT → Prop} (hR : mj_R X l G mj_P0 mj_S0 98 ad 0 0 Qn) (F : Nat) (I : mj_IT) (L : mj_LT) (r2 : Nat → Int32) (r3 : Nat → Int32) (o : ((Int32) × (Nat → Int32))) (hf : fnX8_readRelation F r2 r3 = some o) (hq : (mj_u2 (fun ov r2 => Qn (some (.int ov)) (mj_rows I [(2, r2), (3, r3)]) L)) o) : mj_W X G RX8 "readRelation" cX8_readRelation 2 2 (some .int) mj_P0 mj_S0 98 ad 0 0 0 [(0, .ref 2)] [] (mj_rows I [(2, r2), (3, r3)]) L := by
  unfold fnX8_readRelation at hf
  refine mj_aload_n 0 dX8_readRelation_0 rfl ?_
  refine mj_bipush dX8_readRelation_1 kc_bipush_61 ?_
  obtain ⟨o1, ho1, hf⟩ := mj_bd hf
  refine mj_callVd (I2 := (mj_rows I [(2, r2), (3, r3)])) (L2 := L) (s1 := [.int o1]) (st := []) [.int (61 : Int32)] (cmX8_isSign X.2.1 G F (61 : Int32) _ _ r2 r3 rfl rfl o1 ho1) (mj_rr rfl) rfl cw_X8_66 s0_2 a0_2 (by decide) rfl rfl (Nat.le_of_ble_eq_true rfl) ⟨Nat.zero_le _, Nat.zero_le _⟩ dX8_readRelation_3 rfl ?_
  refine mj_if_ne 34 dX8_readRelation_6 (by decide) (fun c2 => ?_) (fun c2 => ?_)
  · replace hf := mj_neg c2 hf
    refine mj_aload_n 0 dX8_readRelation_34 rfl ?_
    refine mj_getP p0_2_1 (by decide) fl_X8_9 rfl s0_2 a0_2 dX8_readRelation_35 ?_
    refine mj_aload_n 0 dX8_readRelation_38 rfl ?_
    refine mj_getIv (v := (r2 5)) rfl fl_X8_79 rfl s0_2 a0_2 dX8_readRelation_39 ?_
    obtain ⟨z3, hf⟩ := mj_ck hf
    refine mj_ialdv (x := r3) rfl s0_3 a0_3 z3 dX8_readRelation_42 ?_
    refine mj_istore_n [(1, .int (r3 ((r2 5).toNatClampNeg))), (0, .ref 2)] dX8_readRelation_43 rfl (by decide) rfl ?_
    refine mj_aload_n 1 dX8_readRelation_44 rfl ?_
    obtain ⟨o4, ho4, hf⟩ := mj_bd hf
    refine mj_callVd (I2 := (mj_rows I [(2, o4), (3, r3)])) (L2 := L) (s1 := []) (st := []) [] (cmX8_goOn X.2.1 G F  _ _ r2 r3 rfl rfl o4 ho4) (mj_rr rfl) rfl cw_X8_60 s0_2 a0_2 (by decide) rfl rfl (Nat.le_of_ble_eq_true rfl) ⟨Nat.zero_le _, Nat.zero_le _⟩ dX8_readRelation_45 rfl ?_
    refine mj_iload_n 0 dX8_readRelation_48 rfl ?_
    obtain rfl := Option.some.inj hf
    have hZ := hq
    replace hZ := mj_u2p hZ
    exact mj_iret hR ⟨Nat.le_refl _, Nat.le_refl _⟩ rfl rfl dX8_readRelation_49 hZ
  · replace hf := mj_pos c2 hf
    refine mj_aload_n 0 dX8_readRelation_9 rfl ?_
    refine mj_bipush dX8_readRelation_10 kc_bipush_60 ?_
    obtain ⟨o5, ho5, hf⟩ := mj_bd hf
    refine mj_callVd (I2 := (mj_rows I [(2, r2), (3, r3)])) (L2 := L) (s1 := [.int o5]) (st := []) [.int (60 : Int32)] (cmX8_isSign X.2.1 G F (60 : Int32) _ _ r2 r3 rfl rfl o5 ho5) (mj_rr rfl) rfl cw_X8_66 s0_2 a0_2 (by decide) rfl rfl (Nat.le_of_ble_eq_true rfl) ⟨Nat.zero_le _, Nat.zero_le _⟩ dX8_readRelation_12 rfl ?_
    refine mj_if_ne 34 dX8_readRelation_15 (by decide) (fun c6 => ?_) (fun c6 => ?_)
    · replace hf := mj_neg c6 hf
      refine mj_aload_n 0 dX8_readRelation_34 rfl ?_
      refine mj_getP p0_2_1 (by decide) fl_X8_9 rfl s0_2 a0_2 dX8_readRelation_35 ?_
      refine mj_aload_n 0 dX8_readRelation_38 rfl ?_
      refine mj_getIv (v := (r2 5)) rfl fl_X8_79 rfl s0_2 a0_2 dX8_readRelation_39 ?_
      obtain ⟨z7, hf⟩ := mj_ck hf
      refine mj_ialdv (x := r3) rfl s0_3 a0_3 z7 dX8_readRelation_42 ?_
      refine mj_istore_n [(1, .int (r3 ((r2 5).toNatClampNeg))), (0, .ref 2)] dX8_readRelation_43 rfl (by decide) rfl ?_
      refine mj_aload_n 1 dX8_readRelation_44 rfl ?_
      obtain ⟨o8, ho8, hf⟩ := mj_bd hf
      refine mj_callVd (I2 := (mj_rows I [(2, o8), (3, r3)])) (L2 := L) (s1 := []) (st := []) [] (cmX8_goOn X.2.1 G F  _ _ r2 r3 rfl rfl o8 ho8) (mj_rr rfl) rfl cw_X8_60 s0_2 a0_2 (by decide) rfl rfl (Nat.le_of_ble_eq_true rfl) ⟨Nat.zero_le _, Nat.zero_le _⟩ dX8_readRelation_45 rfl ?_
      refine mj_iload_n 0 dX8_readRelation_48 rfl ?_
      obtain rfl := Option.some.inj hf
      have hZ := hq
      replace hZ := mj_u2p hZ
      exact mj_iret hR ⟨Nat.le_refl _, Nat.le_refl _⟩ rfl rfl dX8_readRelation_49 hZ
    · replace hf := mj_pos c6 hf
      refine mj_aload_n 0 dX8_readRelation_18 rfl ?_
      refine mj_bipush dX8_readRelation_19 kc_bipush_35 ?_
      obtain ⟨o9, ho9, hf⟩ := mj_bd hf
      refine mj_callVd (I2 := (mj_rows I [(2, r2), (3, r3)])) (L2 := L) (s1 := [.int o9]) (st := []) [.int (35 : Int32)] (cmX8_isSign X.2.1 G F (35 : Int32) _ _ r2 r3 rfl rfl o9 ho9) (mj_rr rfl) rfl cw_X8_66 s0_2 a0_2 (by decide) rfl rfl (Nat.le_of_ble_eq_true rfl) ⟨Nat.zero_le _, Nat.zero_le _⟩ dX8_readRelation_21 rfl ?_
      refine mj_if_ne 34 dX8_readRelation_24 (by decide) (fun c10 => ?_) (fun c10 => ?_)
      · replace hf := mj_neg c10 hf
        refine mj_aload_n 0 dX8_readRelation_34 rfl ?_
        refine mj_getP p0_2_1 (by decide) fl_X8_9 rfl s0_2 a0_2 dX8_readRelation_35 ?_
        refine mj_aload_n 0 dX8_readRelation_38 rfl ?_
        refine mj_getIv (v := (r2 5)) rfl fl_X8_79 rfl s0_2 a0_2 dX8_readRelation_39 ?_
        obtain ⟨z11, hf⟩ := mj_ck hf
        refine mj_ialdv (x := r3) rfl s0_3 a0_3 z11 dX8_readRelation_42 ?_
        refine mj_istore_n [(1, .int (r3 ((r2 5).toNatClampNeg))), (0, .ref 2)] dX8_readRelation_43 rfl (by decide) rfl ?_
        refine mj_aload_n 1 dX8_readRelation_44 rfl ?_
        obtain ⟨o12, ho12, hf⟩ := mj_bd hf
        refine mj_callVd (I2 := (mj_rows I [(2, o12), (3, r3)])) (L2 := L) (s1 := []) (st := []) [] (cmX8_goOn X.2.1 G F  _ _ r2 r3 rfl rfl o12 ho12) (mj_rr rfl) rfl cw_X8_60 s0_2 a0_2 (by decide) rfl rfl (Nat.le_of_ble_eq_true rfl) ⟨Nat.zero_le _, Nat.zero_le _⟩ dX8_readRelation_45 rfl ?_
        refine mj_iload_n 0 dX8_readRelation_48 rfl ?_
        obtain rfl := Option.some.inj hf
        have hZ := hq
        replace hZ := mj_u2p hZ
        exact mj_iret hR ⟨Nat.le_refl _, Nat.le_refl _⟩ rfl rfl dX8_readRelation_49 hZ
      · replace hf := mj_pos c10 hf
        refine mj_aload_n 0 dX8_readRelation_27 rfl ?_
        refine mj_iconst dX8_readRelation_28 kc_iconst_1 ?_
        obtain ⟨o13, ho13, hf⟩ := mj_bd hf
        refine mj_callVd (I2 := (mj_rows I [(2, o13), (3, r3)])) (L2 := L) (s1 := []) (st := []) [.int (1 : Int32)] (cmX8_fail X.2.1 G F (1 : Int32) _ _ r2 rfl o13 ho13) (mj_rr rfl) rfl cw_X8_116 s0_2 a0_2 (by decide) rfl rfl (Nat.le_of_ble_eq_true rfl) ⟨Nat.zero_le _, Nat.zero_le _⟩ dX8_readRelation_29 rfl ?_
        refine mj_iconst dX8_readRelation_32 kc_iconst_0 ?_
        obtain rfl := Option.some.inj hf
        have hZ := hq
        replace hZ := mj_u2p hZ
        exact mj_iret hR ⟨Nat.le_refl _, Nat.le_refl _⟩ rfl rfl dX8_readRelation_33 hZ
set_option maxRecDepth 100000 in
set_option maxHeartbeats 4000000 in
theorem cmX8_readRelation (l : Launch) (G : mj_GT) (F : Nat) (I : mj_IT) (L : mj_LT) (r2 : Nat → Int32) (r3 : Nat → Int32) (hr2 : I 2 = r2) (hr3 : I 3 = r3) (o : ((Int32) × (Nat → Int32))) (hf : fnX8_readRelation F r2 r3 = some o) : mj_M l G yX8_readRelation cX8_readRelation 2 2 (some .int) 0 0 mj_P0 mj_S0 98 [.ref 2] I L (mj_qd (some (.int o.1)) (mj_rows I [(2, o.2), (3, r3)]) L) := by
  refine mj_in RX8 "readRelation" [(0, .ref 2)] rfl rfl rfl (by decide) (Nat.le_of_ble_eq_true rfl) (fun X ad hR => ?_)
  refine mj_toI [(2, r2), (3, r3)] (by intro q hq; simp only [List.mem_cons, List.not_mem_nil, or_false] at hq; rcases hq with rfl | rfl <;> assumption) ?_
  refine mtX8_readRelation hR F I L r2 r3 o hf ?_
  obtain ⟨w0, w1⟩ := o
  refine mj_u2q ?_
  exact ⟨rfl, rfl, rfl⟩

-- X8_readBehindWord
def fnX8_readBehindWord (F : Nat) (r2 : Nat → Int32) (r3 : Nat → Int32) (r6 : Nat → Int32) (r7 : Nat → Int32) (r8 : Nat → Int32) (r9 : Nat → Int32) (r10 : Nat → Int32) (x1 : Int32) (x2 : Int32) : Option ((Nat → Int32) × (Nat → Int32) × (Nat → Int32) × (Nat → Int32) × (Nat → Int32) × (Nat → Int32)) := (if x2 = (1 : Int32) then (fnX8_readVariable F r2 r3).bind (fun o12 => (if mj_ib x1 40 = true then (fnX8_readNumber F o12.2 r3 x2).bind (fun o14 => (if mj_ib x1 40 = true then some (o14.2, (upd r6 x1.toNatClampNeg o12.1), (upd r7 x1.toNatClampNeg o14.1), r8, r9, r10) else none)) else none)) else (if x2 = (2 : Int32) then (fnX8_readNumber F r2 r3 x2).bind (fun o10 => (if mj_ib x1 40 = true then some (o10.2, r6, (upd r7 x1.toNatClampNeg o10.1), r8, r9, r10) else none)) else (if x2 = (6 : Int32) then some (r2, r6, r7, r8, r9, r10) else (fnX8_readSum F r2 r3).bind (fun o4 => (if mj_ib x1 40 = true then (fnX8_readRelation F o4.2 r3).bind (fun o6 => (if mj_ib x1 40 = true then (fnX8_readSum F o6.2 r3).bind (fun o8 => (if mj_ib x1 40 = true then some (o8.2, r6, r7, (upd r8 x1.toNatClampNeg o4.1), (upd r9 x1.toNatClampNeg o6.1), (upd r10 x1.toNatClampNeg o8.1)) else none)) else none)) else none)))))
set_option maxRecDepth 100000 in
set_option maxHeartbeats 4000000 in
theorem mtX8_readBehindWord {X : mj_XT} {l : Launch} {G : mj_GT} {ad : Nat → Nat} {Qn : Option Value → mj_IT → mj_LT → Prop} (hR : mj_R X l G mj_P0 mj_S0 98 ad 0 0 Qn) (F : Nat) (I : mj_IT) (L : mj_LT) (r2 : Nat → Int32) (r3 : Nat → Int32) (r6 : Nat → Int32) (r7 : Nat → Int32) (r8 : Nat → Int32) (r9 : Nat → Int32) (r10 : Nat → Int32) (x1 : Int32) (x2 : Int32) (o : ((Nat → Int32) × (Nat → Int32) × (Nat → Int32) × (Nat → Int32) × (Nat → Int32) × (Nat → Int32))) (hf : fnX8_readBehindWord F r2 r3 r6 r7 r8 r9 r10 x1 x2 = some o) (hq : (mj_u2 (fun r2 => (mj_u2 (fun r6 => (mj_u2 (fun r7 => (mj_u2 (fun r8 => (mj_u2 (fun r9 r10 => Qn none (mj_rows I [(2, r2), (3, r3), (6, r6), (7, r7), (8, r8), (9, r9), (10, r10)]) L)))))))))) o) : mj_W X G RX8 "readBehindWord" cX8_readBehindWord 3 5 none mj_P0 mj_S0 98 ad 0 0 0 [(0, .ref 2), (1, .int x1), (2, .int x2)] [] (mj_rows I [(2, r2), (3, r3), (6, r6), (7, r7), (8, r8), (9, r9), (10, r10)]) L := by
  unfold fnX8_readBehindWord at hf
  refine mj_iload_n 2 dX8_readBehindWord_0 rfl ?_
  refine mj_iconst dX8_readBehindWord_1 kc_iconst_1 ?_
  refine mj_icmp_ne 35 dX8_readBehindWord_2 (by decide) (fun c1 => ?_) (fun c1 => ?_)
  · replace hf := mj_neg c1 hf
    refine mj_iload_n 2 dX8_readBehindWord_35 rfl ?_
    refine mj_iconst dX8_readBehindWord_36 kc_iconst_2 ?_
    refine mj_icmp_ne 57 dX8_readBehindWord_37 (by decide) (fun c2 => ?_) (fun c2 => ?_)
    · replace hf := mj_neg c2 hf
      refine mj_iload_n 2 dX8_readBehindWord_57 rfl ?_
      refine mj_bipush dX8_readBehindWord_58 kc_bipush_6 ?_
      refine mj_icmp_eq 102 dX8_readBehindWord_60 (by decide) (fun c3 => ?_) (fun c3 => ?_)
      · replace hf := mj_pos c3 hf
        obtain rfl := Option.some.inj hf
        have hZ := hq
        replace hZ := mj_u2p hZ
        replace hZ := mj_u2p hZ
        replace hZ := mj_u2p hZ
        replace hZ := mj_u2p hZ
        replace hZ := mj_u2p hZ
        exact mj_vret hR ⟨Nat.le_refl _, Nat.le_refl _⟩ rfl dX8_readBehindWord_102 hZ
      · replace hf := mj_neg c3 hf
        refine mj_aload_n 0 dX8_readBehindWord_63 rfl ?_
        refine mj_getP p0_2_2 (by decide) fl_X8_18 rfl s0_2 a0_2 dX8_readBehindWord_64 ?_
        refine mj_getP p0_4_4 (by decide) fl_X8_137 rfl s0_4 a0_4 dX8_readBehindWord_67 ?_
        refine mj_iload_n 1 dX8_readBehindWord_70 rfl ?_
        refine mj_aload_n 0 dX8_readBehindWord_71 rfl ?_
        obtain ⟨o4, ho4, hf⟩ := mj_bd hf
        refine mj_callVd (I2 := (mj_rows I [(2, o4.2), (3, r3), (6, r6), (7, r7), (8, r8), (9, r9), (10, r10)])) (L2 := L) (s1 := [.int o4.1, .int x1, .ref 8]) (st := [.int x1, .ref 8]) [] (cmX8_readSum X.2.1 G F  _ _ r2 r3 rfl rfl o4 ho4) (mj_rr rfl) rfl cw_X8_140 s0_2 a0_2 (by decide) rfl rfl (Nat.le_of_ble_eq_true rfl) ⟨Nat.zero_le _, Nat.zero_le _⟩ dX8_readBehindWord_72 rfl ?_
        obtain ⟨z5, hf⟩ := mj_ck hf
        refine mj_iastr [(2, o4.2), (3, r3), (6, r6), (7, r7), (8, (upd r8 x1.toNatClampNeg o4.1)), (9, r9), (10, r10)] rfl s0_8 a0_8 z5 dX8_readBehindWord_75 ?_
        refine mj_aload_n 0 dX8_readBehindWord_76 rfl ?_
        refine mj_getP p0_2_2 (by decide) fl_X8_18 rfl s0_2 a0_2 dX8_readBehindWord_77 ?_
        refine mj_getP p0_4_5 (by decide) fl_X8_158 rfl s0_4 a0_4 dX8_readBehindWord_80 ?_
        refine mj_iload_n 1 dX8_readBehindWord_83 rfl ?_
        refine mj_aload_n 0 dX8_readBehindWord_84 rfl ?_
        obtain ⟨o6, ho6, hf⟩ := mj_bd hf
        refine mj_callVd (I2 := (mj_rows I [(2, o6.2), (3, r3), (6, r6), (7, r7), (8, (upd r8 x1.toNatClampNeg o4.1)), (9, r9), (10, r10)])) (L2 := L) (s1 := [.int o6.1, .int x1, .ref 9]) (st := [.int x1, .ref 9]) [] (cmX8_readRelation X.2.1 G F  _ _ o4.2 r3 rfl rfl o6 ho6) (mj_rr rfl) rfl cw_X8_161 s0_2 a0_2 (by decide) rfl rfl (Nat.le_of_ble_eq_true rfl) ⟨Nat.zero_le _, Nat.zero_le _⟩ dX8_readBehindWord_85 rfl ?_
        obtain ⟨z7, hf⟩ := mj_ck hf
        refine mj_iastr [(2, o6.2), (3, r3), (6, r6), (7, r7), (8, (upd r8 x1.toNatClampNeg o4.1)), (9, (upd r9 x1.toNatClampNeg o6.1)), (10, r10)] rfl s0_9 a0_9 z7 dX8_readBehindWord_88 ?_
        refine mj_aload_n 0 dX8_readBehindWord_89 rfl ?_
        refine mj_getP p0_2_2 (by decide) fl_X8_18 rfl s0_2 a0_2 dX8_readBehindWord_90 ?_
        refine mj_getP p0_4_6 (by decide) fl_X8_164 rfl s0_4 a0_4 dX8_readBehindWord_93 ?_
        refine mj_iload_n 1 dX8_readBehindWord_96 rfl ?_
        refine mj_aload_n 0 dX8_readBehindWord_97 rfl ?_
        obtain ⟨o8, ho8, hf⟩ := mj_bd hf
        refine mj_callVd (I2 := (mj_rows I [(2, o8.2), (3, r3), (6, r6), (7, r7), (8, (upd r8 x1.toNatClampNeg o4.1)), (9, (upd r9 x1.toNatClampNeg o6.1)), (10, r10)])) (L2 := L) (s1 := [.int o8.1, .int x1, .ref 10]) (st := [.int x1, .ref 10]) [] (cmX8_readSum X.2.1 G F  _ _ o6.2 r3 rfl rfl o8 ho8) (mj_rr rfl) rfl cw_X8_140 s0_2 a0_2 (by decide) rfl rfl (Nat.le_of_ble_eq_true rfl) ⟨Nat.zero_le _, Nat.zero_le _⟩ dX8_readBehindWord_98 rfl ?_
        obtain ⟨z9, hf⟩ := mj_ck hf
        refine mj_iastr [(2, o8.2), (3, r3), (6, r6), (7, r7), (8, (upd r8 x1.toNatClampNeg o4.1)), (9, (upd r9 x1.toNatClampNeg o6.1)), (10, (upd r10 x1.toNatClampNeg o8.1))] rfl s0_10 a0_10 z9 dX8_readBehindWord_101 ?_
        obtain rfl := Option.some.inj hf
        have hZ := hq
        replace hZ := mj_u2p hZ
        replace hZ := mj_u2p hZ
        replace hZ := mj_u2p hZ
        replace hZ := mj_u2p hZ
        replace hZ := mj_u2p hZ
        exact mj_vret hR ⟨Nat.le_refl _, Nat.le_refl _⟩ rfl dX8_readBehindWord_102 hZ
    · replace hf := mj_pos c2 hf
      refine mj_aload_n 0 dX8_readBehindWord_40 rfl ?_
      refine mj_getP p0_2_2 (by decide) fl_X8_18 rfl s0_2 a0_2 dX8_readBehindWord_41 ?_
      refine mj_getP p0_4_3 (by decide) fl_X8_151 rfl s0_4 a0_4 dX8_readBehindWord_44 ?_
      refine mj_iload_n 1 dX8_readBehindWord_47 rfl ?_
      refine mj_aload_n 0 dX8_readBehindWord_48 rfl ?_
      refine mj_iload_n 2 dX8_readBehindWord_49 rfl ?_
      obtain ⟨o10, ho10, hf⟩ := mj_bd hf
      refine mj_callVd (I2 := (mj_rows I [(2, o10.2), (3, r3), (6, r6), (7, r7), (8, r8), (9, r9), (10, r10)])) (L2 := L) (s1 := [.int o10.1, .int x1, .ref 7]) (st := [.int x1, .ref 7]) [.int x2] (cmX8_readNumber X.2.1 G F x2 _ _ r2 r3 rfl rfl o10 ho10) (mj_rr rfl) rfl cw_X8_154 s0_2 a0_2 (by decide) rfl rfl (Nat.le_of_ble_eq_true rfl) ⟨Nat.zero_le _, Nat.zero_le _⟩ dX8_readBehindWord_50 rfl ?_
      obtain ⟨z11, hf⟩ := mj_ck hf
      refine mj_iastr [(2, o10.2), (3, r3), (6, r6), (7, (upd r7 x1.toNatClampNeg o10.1)), (8, r8), (9, r9), (10, r10)] rfl s0_7 a0_7 z11 dX8_readBehindWord_53 ?_
      refine mj_goto 102 dX8_readBehindWord_54 (by decide) ?_
      obtain rfl := Option.some.inj hf
      have hZ := hq
      replace hZ := mj_u2p hZ
      replace hZ := mj_u2p hZ
      replace hZ := mj_u2p hZ
      replace hZ := mj_u2p hZ
      replace hZ := mj_u2p hZ
      exact mj_vret hR ⟨Nat.le_refl _, Nat.le_refl _⟩ rfl dX8_readBehindWord_102 hZ
  · replace hf := mj_pos c1 hf
    refine mj_aload_n 0 dX8_readBehindWord_5 rfl ?_
    refine mj_getP p0_2_2 (by decide) fl_X8_18 rfl s0_2 a0_2 dX8_readBehindWord_6 ?_
    refine mj_getP p0_4_2 (by decide) fl_X8_128 rfl s0_4 a0_4 dX8_readBehindWord_9 ?_
    refine mj_iload_n 1 dX8_readBehindWord_12 rfl ?_
    refine mj_aload_n 0 dX8_readBehindWord_13 rfl ?_
    obtain ⟨o12, ho12, hf⟩ := mj_bd hf
    refine mj_callVd (I2 := (mj_rows I [(2, o12.2), (3, r3), (6, r6), (7, r7), (8, r8), (9, r9), (10, r10)])) (L2 := L) (s1 := [.int o12.1, .int x1, .ref 6]) (st := [.int x1, .ref 6]) [] (cmX8_readVariable X.2.1 G F  _ _ r2 r3 rfl rfl o12 ho12) (mj_rr rfl) rfl cw_X8_131 s0_2 a0_2 (by decide) rfl rfl (Nat.le_of_ble_eq_true rfl) ⟨Nat.zero_le _, Nat.zero_le _⟩ dX8_readBehindWord_14 rfl ?_
    obtain ⟨z13, hf⟩ := mj_ck hf
    refine mj_iastr [(2, o12.2), (3, r3), (6, (upd r6 x1.toNatClampNeg o12.1)), (7, r7), (8, r8), (9, r9), (10, r10)] rfl s0_6 a0_6 z13 dX8_readBehindWord_17 ?_
    refine mj_aload_n 0 dX8_readBehindWord_18 rfl ?_
    refine mj_getP p0_2_2 (by decide) fl_X8_18 rfl s0_2 a0_2 dX8_readBehindWord_19 ?_
    refine mj_getP p0_4_3 (by decide) fl_X8_151 rfl s0_4 a0_4 dX8_readBehindWord_22 ?_
    refine mj_iload_n 1 dX8_readBehindWord_25 rfl ?_
    refine mj_aload_n 0 dX8_readBehindWord_26 rfl ?_
    refine mj_iload_n 2 dX8_readBehindWord_27 rfl ?_
    obtain ⟨o14, ho14, hf⟩ := mj_bd hf
    refine mj_callVd (I2 := (mj_rows I [(2, o14.2), (3, r3), (6, (upd r6 x1.toNatClampNeg o12.1)), (7, r7), (8, r8), (9, r9), (10, r10)])) (L2 := L) (s1 := [.int o14.1, .int x1, .ref 7]) (st := [.int x1, .ref 7]) [.int x2] (cmX8_readNumber X.2.1 G F x2 _ _ o12.2 r3 rfl rfl o14 ho14) (mj_rr rfl) rfl cw_X8_154 s0_2 a0_2 (by decide) rfl rfl (Nat.le_of_ble_eq_true rfl) ⟨Nat.zero_le _, Nat.zero_le _⟩ dX8_readBehindWord_28 rfl ?_
    obtain ⟨z15, hf⟩ := mj_ck hf
    refine mj_iastr [(2, o14.2), (3, r3), (6, (upd r6 x1.toNatClampNeg o12.1)), (7, (upd r7 x1.toNatClampNeg o14.1)), (8, r8), (9, r9), (10, r10)] rfl s0_7 a0_7 z15 dX8_readBehindWord_31 ?_
    refine mj_goto 102 dX8_readBehindWord_32 (by decide) ?_
    obtain rfl := Option.some.inj hf
    have hZ := hq
    replace hZ := mj_u2p hZ
    replace hZ := mj_u2p hZ
    replace hZ := mj_u2p hZ
    replace hZ := mj_u2p hZ
    replace hZ := mj_u2p hZ
    exact mj_vret hR ⟨Nat.le_refl _, Nat.le_refl _⟩ rfl dX8_readBehindWord_102 hZ
set_option maxRecDepth 100000 in
set_option maxHeartbeats 4000000 in
theorem cmX8_readBehindWord (l : Launch) (G : mj_GT) (F : Nat) (x1 : Int32) (x2 : Int32) (I : mj_IT) (L : mj_LT) (r2 : Nat → Int32) (r3 : Nat → Int32) (r6 : Nat → Int32) (r7 : Nat → Int32) (r8 : Nat → Int32) (r9 : Nat → Int32) (r10 : Nat → Int32) (hr2 : I 2 = r2) (hr3 : I 3 = r3) (hr6 : I 6 = r6) (hr7 : I 7 = r7) (hr8 : I 8 = r8) (hr9 : I 9 = r9) (hr10 : I 10 = r10) (o : ((Nat → Int32) × (Nat → Int32) × (Nat → Int32) × (Nat → Int32) × (Nat → Int32) × (Nat → Int32))) (hf : fnX8_readBehindWord F r2 r3 r6 r7 r8 r9 r10 x1 x2 = some o) : mj_M l G yX8_readBehindWord cX8_readBehindWord 3 5 none 0 0 mj_P0 mj_S0 98 [.ref 2, .int x1, .int x2] I L (mj_qd none (mj_rows I [(2, o.1), (3, r3), (6, o.2.1), (7, o.2.2.1), (8, o.2.2.2.1), (9, o.2.2.2.2.1), (10, o.2.2.2.2.2)]) L) := by
  refine mj_in RX8 "readBehindWord" [(0, .ref 2), (1, .int x1), (2, .int x2)] rfl rfl rfl (by decide) (Nat.le_of_ble_eq_true rfl) (fun X ad hR => ?_)
  refine mj_toI [(2, r2), (3, r3), (6, r6), (7, r7), (8, r8), (9, r9), (10, r10)] (by intro q hq; simp only [List.mem_cons, List.not_mem_nil, or_false] at hq; rcases hq with rfl | rfl | rfl | rfl | rfl | rfl | rfl <;> assumption) ?_
  refine mtX8_readBehindWord hR F I L r2 r3 r6 r7 r8 r9 r10 x1 x2 o hf ?_
  obtain ⟨w0, w1, w2, w3, w4, w5⟩ := o
  refine mj_u2q ?_
  refine mj_u2q ?_
  refine mj_u2q ?_
  refine mj_u2q ?_
  refine mj_u2q ?_
  exact ⟨rfl, rfl, rfl⟩

-- X8_readSign
def fnX8_readSign (F : Nat) (r2 : Nat → Int32) (r3 : Nat → Int32) (x1 : Int32) : Option ((Nat → Int32)) := (fnX8_isSign F r2 r3 x1).bind (fun o1 => (if o1 = 0 then (fnX8_fail F r2 (1 : Int32)).bind (fun o3 => some o3) else (fnX8_goOn F r2 r3).bind (fun o4 => some o4)))
set_option maxRecDepth 100000 in
set_option maxHeartbeats 4000000 in
theorem mtX8_readSign {X : mj_XT} {l : Launch} {G : mj_GT} {ad : Nat → Nat} {Qn : Option Value → mj_IT → mj_LT → Prop} (hR : mj_R X l G mj_P0 mj_S0 98 ad 0 0 Qn) (F : Nat) (I : mj_IT) (L : mj_LT) (r2 : Nat → Int32) (r3 : Nat → Int32) (x1 : Int32) (o : ((Nat → Int32))) (hf : fnX8_readSign F r2 r3 x1 = some o) (hq : (fun r2 => Qn none (mj_rows I [(2, r2), (3, r3)]) L) o) : mj_W X G RX8 "readSign" cX8_readSign 2 2 none mj_P0 mj_S0 98 ad 0 0 0 [(0, .ref 2), (1, .int x1)] [] (mj_rows I [(2, r2), (3, r3)]) L := by
  unfold fnX8_readSign at hf
  refine mj_aload_n 0 dX8_readSign_0 rfl ?_
  refine mj_iload_n 1 dX8_readSign_1 rfl ?_
  obtain ⟨o1, ho1, hf⟩ := mj_bd hf
  refine mj_callVd (I2 := (mj_rows I [(2, r2), (3, r3)])) (L2 := L) (s1 := [.int o1]) (st := []) [.int x1] (cmX8_isSign X.2.1 G F x1 _ _ r2 r3 rfl rfl o1 ho1) (mj_rr rfl) rfl cw_X8_66 s0_2 a0_2 (by decide) rfl rfl (Nat.le_of_ble_eq_true rfl) ⟨Nat.zero_le _, Nat.zero_le _⟩ dX8_readSign_2 rfl ?_
  refine mj_if_eq 15 dX8_readSign_5 (by decide) (fun c2 => ?_) (fun c2 => ?_)
  · replace hf := mj_pos c2 hf
    refine mj_aload_n 0 dX8_readSign_15 rfl ?_
    refine mj_iconst dX8_readSign_16 kc_iconst_1 ?_
    obtain ⟨o3, ho3, hf⟩ := mj_bd hf
    refine mj_callVd (I2 := (mj_rows I [(2, o3), (3, r3)])) (L2 := L) (s1 := []) (st := []) [.int (1 : Int32)] (cmX8_fail X.2.1 G F (1 : Int32) _ _ r2 rfl o3 ho3) (mj_rr rfl) rfl cw_X8_116 s0_2 a0_2 (by decide) rfl rfl (Nat.le_of_ble_eq_true rfl) ⟨Nat.zero_le _, Nat.zero_le _⟩ dX8_readSign_17 rfl ?_
    obtain rfl := Option.some.inj hf
    have hZ := hq
    exact mj_vret hR ⟨Nat.le_refl _, Nat.le_refl _⟩ rfl dX8_readSign_20 hZ
  · replace hf := mj_neg c2 hf
    refine mj_aload_n 0 dX8_readSign_8 rfl ?_
    obtain ⟨o4, ho4, hf⟩ := mj_bd hf
    refine mj_callVd (I2 := (mj_rows I [(2, o4), (3, r3)])) (L2 := L) (s1 := []) (st := []) [] (cmX8_goOn X.2.1 G F  _ _ r2 r3 rfl rfl o4 ho4) (mj_rr rfl) rfl cw_X8_60 s0_2 a0_2 (by decide) rfl rfl (Nat.le_of_ble_eq_true rfl) ⟨Nat.zero_le _, Nat.zero_le _⟩ dX8_readSign_9 rfl ?_
    refine mj_goto 20 dX8_readSign_12 (by decide) ?_
    obtain rfl := Option.some.inj hf
    have hZ := hq
    exact mj_vret hR ⟨Nat.le_refl _, Nat.le_refl _⟩ rfl dX8_readSign_20 hZ
set_option maxRecDepth 100000 in
set_option maxHeartbeats 4000000 in
theorem cmX8_readSign (l : Launch) (G : mj_GT) (F : Nat) (x1 : Int32) (I : mj_IT) (L : mj_LT) (r2 : Nat → Int32) (r3 : Nat → Int32) (hr2 : I 2 = r2) (hr3 : I 3 = r3) (o : ((Nat → Int32))) (hf : fnX8_readSign F r2 r3 x1 = some o) : mj_M l G yX8_readSign cX8_readSign 2 2 none 0 0 mj_P0 mj_S0 98 [.ref 2, .int x1] I L (mj_qd none (mj_rows I [(2, o), (3, r3)]) L) := by
  refine mj_in RX8 "readSign" [(0, .ref 2), (1, .int x1)] rfl rfl rfl (by decide) (Nat.le_of_ble_eq_true rfl) (fun X ad hR => ?_)
  refine mj_toI [(2, r2), (3, r3)] (by intro q hq; simp only [List.mem_cons, List.not_mem_nil, or_false] at hq; rcases hq with rfl | rfl <;> assumption) ?_
  refine mtX8_readSign hR F I L r2 r3 x1 o hf ?_
  exact ⟨rfl, rfl, rfl⟩

-- X8_openBlock
def jnX8_openBlock_23 (F : Nat) (r3 : Nat → Int32) (x1 : Int32) (x2 : Int32) (r2 : Nat → Int32) (r15 : Nat → Int32) (r16 : Nat → Int32) (r17 : Nat → Int32) : Option ((Nat → Int32) × (Nat → Int32) × (Nat → Int32) × (Nat → Int32)) := (fnX8_readSign F r2 r3 (123 : Int32)).bind (fun o1 => (if (o1 8) = 0 then (if mj_ib ((o1 10) + (1 : Int32)) 7 = true then (if mj_ib ((o1 10) + (1 : Int32)) 7 = true then (if mj_ib ((o1 10) + (1 : Int32)) 7 = true then some ((upd o1 10 ((o1 10) + (1 : Int32))), (upd r15 (((o1 10) + (1 : Int32)).toNatClampNeg) x1), (upd r16 (((o1 10) + (1 : Int32)).toNatClampNeg) (-1 : Int32)), (upd r17 (((o1 10) + (1 : Int32)).toNatClampNeg) (vp_nar .boolean x2))) else none) else none) else none) else some (o1, r15, r16, r17)))
def fnX8_openBlock (F : Nat) (r2 : Nat → Int32) (r3 : Nat → Int32) (r15 : Nat → Int32) (r16 : Nat → Int32) (r17 : Nat → Int32) (x1 : Int32) (x2 : Int32) : Option ((Nat → Int32) × (Nat → Int32) × (Nat → Int32) × (Nat → Int32)) := (fnX8_isSign F r2 r3 (123 : Int32)).bind (fun o6 => (if o6 = 0 then jnX8_openBlock_23 F r3 x1 x2 r2 r15 r16 r17 else (if (r2 10) < (6 : Int32) then jnX8_openBlock_23 F r3 x1 x2 r2 r15 r16 r17 else (fnX8_fail F r2 (3 : Int32)).bind (fun o9 => jnX8_openBlock_23 F r3 x1 x2 o9 r15 r16 r17))))
set_option maxRecDepth 100000 in
set_option maxHeartbeats 4000000 in
theorem jtX8_openBlock_23 {X : mj_XT} {l : Launch} {G : mj_GT} {ad : Nat → Nat} {Qn : Option Value → mj_IT → mj_LT → Prop} (hR : mj_R X l G mj_P0 mj_S0 98 ad 0 0 Qn) (F : Nat) (I : mj_IT) (L : mj_LT) (r2 : Nat → Int32) (r3 : Nat → Int32) (r15 : Nat → Int32) (r16 : Nat → Int32) (r17 : Nat → Int32) (x1 : Int32) (x2 : Int32) (o : ((Nat → Int32) × (Nat → Int32) × (Nat → Int32) × (Nat → Int32))) (hf : jnX8_openBlock_23 F r3 x1 x2 r2 r15 r16 r17 = some o) (hq : (mj_u2 (fun r2 => (mj_u2 (fun r15 => (mj_u2 (fun r16 r17 => Qn none (mj_rows I [(2, r2), (3, r3), (15, r15), (16, r16), (17, r17)]) L)))))) o) : mj_W X G RX8 "openBlock" cX8_openBlock 3 3 none mj_P0 mj_S0 98 ad 0 0 23 [(0, .ref 2), (1, .int x1), (2, .int x2)] [] (mj_rows I [(2, r2), (3, r3), (15, r15), (16, r16), (17, r17)]) L := by
  unfold jnX8_openBlock_23 at hf
  refine mj_aload_n 0 dX8_openBlock_23 rfl ?_
  refine mj_bipush dX8_openBlock_24 kc_bipush_123 ?_
  obtain ⟨o1, ho1, hf⟩ := mj_bd hf
  refine mj_callVd (I2 := (mj_rows I [(2, o1), (3, r3), (15, r15), (16, r16), (17, r17)])) (L2 := L) (s1 := []) (st := []) [.int (123 : Int32)] (cmX8_readSign X.2.1 G F (123 : Int32) _ _ r2 r3 rfl rfl o1 ho1) (mj_rr rfl) rfl cw_X8_134 s0_2 a0_2 (by decide) rfl rfl (Nat.le_of_ble_eq_true rfl) ⟨Nat.zero_le _, Nat.zero_le _⟩ dX8_openBlock_26 rfl ?_
  refine mj_aload_n 0 dX8_openBlock_29 rfl ?_
  refine mj_getIv (v := (o1 8)) rfl fl_X8_51 rfl s0_2 a0_2 dX8_openBlock_30 ?_
  refine mj_if_ne 76 dX8_openBlock_33 (by decide) (fun c2 => ?_) (fun c2 => ?_)
  · replace hf := mj_neg c2 hf
    obtain rfl := Option.some.inj hf
    have hZ := hq
    replace hZ := mj_u2p hZ
    replace hZ := mj_u2p hZ
    replace hZ := mj_u2p hZ
    exact mj_vret hR ⟨Nat.le_refl _, Nat.le_refl _⟩ rfl dX8_openBlock_76 hZ
  · replace hf := mj_pos c2 hf
    refine mj_aload_n 0 dX8_openBlock_36 rfl ?_
    refine mj_dup dX8_openBlock_37 rfl ?_
    refine mj_getIv (v := (o1 10)) rfl fl_X8_54 rfl s0_2 a0_2 dX8_openBlock_38 ?_
    refine mj_iconst dX8_openBlock_41 kc_iconst_1 ?_
    refine mj_iadd dX8_openBlock_42 ?_
    refine mj_putIr (ci := 6) (j := 10) [(2, (upd o1 10 ((o1 10) + (1 : Int32)))), (3, r3), (15, r15), (16, r16), (17, r17)] rfl ⟨rfl, rfl⟩ fl_X8_54 rfl rfl s0_2 a0_2 dX8_openBlock_43 ?_
    refine mj_aload_n 0 dX8_openBlock_46 rfl ?_
    refine mj_getP p0_2_11 (by decide) fl_X8_26 rfl s0_2 a0_2 dX8_openBlock_47 ?_
    refine mj_aload_n 0 dX8_openBlock_50 rfl ?_
    refine mj_getIv (v := ((o1 10) + (1 : Int32))) rfl fl_X8_54 rfl s0_2 a0_2 dX8_openBlock_51 ?_
    refine mj_iload_n 1 dX8_openBlock_54 rfl ?_
    obtain ⟨z3, hf⟩ := mj_ck hf
    refine mj_iastr [(2, (upd o1 10 ((o1 10) + (1 : Int32)))), (3, r3), (15, (upd r15 (((o1 10) + (1 : Int32)).toNatClampNeg) x1)), (16, r16), (17, r17)] rfl s0_15 a0_15 z3 dX8_openBlock_55 ?_
    refine mj_aload_n 0 dX8_openBlock_56 rfl ?_
    refine mj_getP p0_2_12 (by decide) fl_X8_29 rfl s0_2 a0_2 dX8_openBlock_57 ?_
    refine mj_aload_n 0 dX8_openBlock_60 rfl ?_
    refine mj_getIv (v := ((o1 10) + (1 : Int32))) rfl fl_X8_54 rfl s0_2 a0_2 dX8_openBlock_61 ?_
    refine mj_iconst dX8_openBlock_64 kc_iconst_m1 ?_
    obtain ⟨z4, hf⟩ := mj_ck hf
    refine mj_iastr [(2, (upd o1 10 ((o1 10) + (1 : Int32)))), (3, r3), (15, (upd r15 (((o1 10) + (1 : Int32)).toNatClampNeg) x1)), (16, (upd r16 (((o1 10) + (1 : Int32)).toNatClampNeg) (-1 : Int32))), (17, r17)] rfl s0_16 a0_16 z4 dX8_openBlock_65 ?_
    refine mj_aload_n 0 dX8_openBlock_66 rfl ?_
    refine mj_getP p0_2_13 (by decide) fl_X8_32 rfl s0_2 a0_2 dX8_openBlock_67 ?_
    refine mj_aload_n 0 dX8_openBlock_70 rfl ?_
    refine mj_getIv (v := ((o1 10) + (1 : Int32))) rfl fl_X8_54 rfl s0_2 a0_2 dX8_openBlock_71 ?_
    refine mj_iload_n 2 dX8_openBlock_74 rfl ?_
    obtain ⟨z5, hf⟩ := mj_ck hf
    refine mj_zastr [(2, (upd o1 10 ((o1 10) + (1 : Int32)))), (3, r3), (15, (upd r15 (((o1 10) + (1 : Int32)).toNatClampNeg) x1)), (16, (upd r16 (((o1 10) + (1 : Int32)).toNatClampNeg) (-1 : Int32))), (17, (upd r17 (((o1 10) + (1 : Int32)).toNatClampNeg) (vp_nar .boolean x2)))] rfl s0_17 a0_17 z5 dX8_openBlock_75 ?_
    obtain rfl := Option.some.inj hf
    have hZ := hq
    replace hZ := mj_u2p hZ
    replace hZ := mj_u2p hZ
    replace hZ := mj_u2p hZ
    exact mj_vret hR ⟨Nat.le_refl _, Nat.le_refl _⟩ rfl dX8_openBlock_76 hZ
set_option maxRecDepth 100000 in
set_option maxHeartbeats 4000000 in
theorem mtX8_openBlock {X : mj_XT} {l : Launch} {G : mj_GT} {ad : Nat → Nat} {Qn : Option Value → mj_IT → mj_LT → Prop} (hR : mj_R X l G mj_P0 mj_S0 98 ad 0 0 Qn) (F : Nat) (I : mj_IT) (L : mj_LT) (r2 : Nat → Int32) (r3 : Nat → Int32) (r15 : Nat → Int32) (r16 : Nat → Int32) (r17 : Nat → Int32) (x1 : Int32) (x2 : Int32) (o : ((Nat → Int32) × (Nat → Int32) × (Nat → Int32) × (Nat → Int32))) (hf : fnX8_openBlock F r2 r3 r15 r16 r17 x1 x2 = some o) (hq : (mj_u2 (fun r2 => (mj_u2 (fun r15 => (mj_u2 (fun r16 r17 => Qn none (mj_rows I [(2, r2), (3, r3), (15, r15), (16, r16), (17, r17)]) L)))))) o) : mj_W X G RX8 "openBlock" cX8_openBlock 3 3 none mj_P0 mj_S0 98 ad 0 0 0 [(0, .ref 2), (1, .int x1), (2, .int x2)] [] (mj_rows I [(2, r2), (3, r3), (15, r15), (16, r16), (17, r17)]) L := by
  unfold fnX8_openBlock at hf
  refine mj_aload_n 0 dX8_openBlock_0 rfl ?_
  refine mj_bipush dX8_openBlock_1 kc_bipush_123 ?_
  obtain ⟨o6, ho6, hf⟩ := mj_bd hf
  refine mj_callVd (I2 := (mj_rows I [(2, r2), (3, r3), (15, r15), (16, r16), (17, r17)])) (L2 := L) (s1 := [.int o6]) (st := []) [.int (123 : Int32)] (cmX8_isSign X.2.1 G F (123 : Int32) _ _ r2 r3 rfl rfl o6 ho6) (mj_rr rfl) rfl cw_X8_66 s0_2 a0_2 (by decide) rfl rfl (Nat.le_of_ble_eq_true rfl) ⟨Nat.zero_le _, Nat.zero_le _⟩ dX8_openBlock_3 rfl ?_
  refine mj_if_eq 23 dX8_openBlock_6 (by decide) (fun c7 => ?_) (fun c7 => ?_)
  · replace hf := mj_pos c7 hf
    exact jtX8_openBlock_23 hR F I L r2 r3 r15 r16 r17 x1 x2 o hf hq
  · replace hf := mj_neg c7 hf
    refine mj_aload_n 0 dX8_openBlock_9 rfl ?_
    refine mj_getIv (v := (r2 10)) rfl fl_X8_54 rfl s0_2 a0_2 dX8_openBlock_10 ?_
    refine mj_bipush dX8_openBlock_13 kc_bipush_6 ?_
    refine mj_icmp_lt 23 dX8_openBlock_15 (by decide) (fun c8 => ?_) (fun c8 => ?_)
    · replace hf := mj_pos c8 hf
      exact jtX8_openBlock_23 hR F I L r2 r3 r15 r16 r17 x1 x2 o hf hq
    · replace hf := mj_neg c8 hf
      refine mj_aload_n 0 dX8_openBlock_18 rfl ?_
      refine mj_iconst dX8_openBlock_19 kc_iconst_3 ?_
      obtain ⟨o9, ho9, hf⟩ := mj_bd hf
      refine mj_callVd (I2 := (mj_rows I [(2, o9), (3, r3), (15, r15), (16, r16), (17, r17)])) (L2 := L) (s1 := []) (st := []) [.int (3 : Int32)] (cmX8_fail X.2.1 G F (3 : Int32) _ _ r2 rfl o9 ho9) (mj_rr rfl) rfl cw_X8_116 s0_2 a0_2 (by decide) rfl rfl (Nat.le_of_ble_eq_true rfl) ⟨Nat.zero_le _, Nat.zero_le _⟩ dX8_openBlock_20 rfl ?_
      exact jtX8_openBlock_23 hR F I L o9 r3 r15 r16 r17 x1 x2 o hf hq
set_option maxRecDepth 100000 in
set_option maxHeartbeats 4000000 in
theorem cmX8_openBlock (l : Launch) (G : mj_GT) (F : Nat) (x1 : Int32) (x2 : Int32) (I : mj_IT) (L : mj_LT) (r2 : Nat → Int32) (r3 : Nat → Int32) (r15 : Nat → Int32) (r16 : Nat → Int32) (r17 : Nat → Int32) (hr2 : I 2 = r2) (hr3 : I 3 = r3) (hr15 : I 15 = r15) (hr16 : I 16 = r16) (hr17 : I 17 = r17) (o : ((Nat → Int32) × (Nat → Int32) × (Nat → Int32) × (Nat → Int32))) (hf : fnX8_openBlock F r2 r3 r15 r16 r17 x1 x2 = some o) : mj_M l G yX8_openBlock cX8_openBlock 3 3 none 0 0 mj_P0 mj_S0 98 [.ref 2, .int x1, .int x2] I L (mj_qd none (mj_rows I [(2, o.1), (3, r3), (15, o.2.1), (16, o.2.2.1), (17, o.2.2.2)]) L) := by
  refine mj_in RX8 "openBlock" [(0, .ref 2), (1, .int x1), (2, .int x2)] rfl rfl rfl (by decide) (Nat.le_of_ble_eq_true rfl) (fun X ad hR => ?_)
  refine mj_toI [(2, r2), (3, r3), (15, r15), (16, r16), (17, r17)] (by intro q hq; simp only [List.mem_cons, List.not_mem_nil, or_false] at hq; rcases hq with rfl | rfl | rfl | rfl | rfl <;> assumption) ?_
  refine mtX8_openBlock hR F I L r2 r3 r15 r16 r17 x1 x2 o hf ?_
  obtain ⟨w0, w1, w2, w3⟩ := o
  refine mj_u2q ?_
  refine mj_u2q ?_
  refine mj_u2q ?_
  exact ⟨rfl, rfl, rfl⟩

-- X9_atEnd
def bdX9_atEnd_4 (F : Nat) (r32 : Nat → Int32) (r33 : Nat → Int32) (r52 : Nat → Int32) (x2 : Int32) (x3 : Int32) : Option (((Int32) × (Int32)) ⊕ ((Int32))) := (if (r32 2) ≤ x3 then some (.inr x2) else (fnX4_isEnd F r32 r33 x3).bind (fun o2 => (if o2 = 0 then some (.inl (x2, (x3 + (1)))) else (if mj_ib x3 200 = true then (fnX3_plus F x2 (r52 x3.toNatClampNeg)).bind (fun o5 => some (.inl (o5, (x3 + (1))))) else none))))
def fnX9_atEnd (F : Nat) (r32 : Nat → Int32) (r33 : Nat → Int32) (r52 : Nat → Int32) : Option ((Int32)) := (mj_it (mj_u2 (fun z0 z1 => bdX9_atEnd_4 F r32 r33 r52 z0 z1)) F ((0 : Int32), (0 : Int32))).bind (fun x2_6 => some x2_6)
set_option maxRecDepth 100000 in
set_option maxHeartbeats 4000000 in
theorem lpX9_atEnd_4 {X : mj_XT} {l : Launch} {G : mj_GT} {ad : Nat → Nat} {Qn : Option Value → mj_IT → mj_LT → Prop} (hR : mj_R X l G mj_P0 mj_S0 98 ad 0 0 Qn) (F : Nat) (I : mj_IT) (L : mj_LT) (r32 : Nat → Int32) (r33 : Nat → Int32) (r52 : Nat → Int32) : ∀ (n : Nat) (s : ((Int32) × (Int32))) (e : ((Int32))), mj_it (mj_u2 (fun z0 z1 => bdX9_atEnd_4 F r32 r33 r52 z0 z1)) n s = some e → (fun x2 => mj_W X G RX9 "atEnd" cX9_atEnd 4 2 (some .int) mj_P0 mj_S0 98 ad 0 0 37 [(2, .int x2)] [] (mj_rows I [(32, r32), (33, r33), (52, r52)]) L) e → (mj_u2 (fun x2 x3 => mj_W X G RX9 "atEnd" cX9_atEnd 4 2 (some .int) mj_P0 mj_S0 98 ad 0 0 4 [(0, .ref 51), (1, .ref 32), (2, .int x2), (3, .int x3)] [] (mj_rows I [(32, r32), (33, r33), (52, r52)]) L)) s := by
  refine mj_loop (fun s o hf hc hx => ?_)
  obtain ⟨x2, x3⟩ := s
  replace hf := mj_u2e hf
  refine mj_u2q ?_
  unfold bdX9_atEnd_4 at hf
  refine mj_iload_n 3 dX9_atEnd_4 rfl ?_
  refine mj_aload_n 1 dX9_atEnd_5 rfl ?_
  refine mj_getIv (v := (r32 2)) rfl fl_X9_51 rfl s0_32 a0_32 dX9_atEnd_6 ?_
  refine mj_icmp_ge 37 dX9_atEnd_9 (by decide) (fun c1 => ?_) (fun c1 => ?_)
  · replace hf := mj_pos c1 hf
    refine mj_sub [2] [(2, .int x2)] rfl ?_
    obtain rfl := Option.some.inj hf
    have hZ := hx x2 rfl
    exact hZ
  · replace hf := mj_neg c1 hf
    refine mj_aload_n 1 dX9_atEnd_12 rfl ?_
    refine mj_iload_n 3 dX9_atEnd_13 rfl ?_
    obtain ⟨o2, ho2, hf⟩ := mj_bd hf
    refine mj_callVd (I2 := (mj_rows I [(32, r32), (33, r33), (52, r52)])) (L2 := L) (s1 := [.int o2]) (st := []) [.int x3] (cmX4_isEnd X.2.1 G F x3 _ _ r32 r33 rfl rfl o2 ho2) (mj_rr rfl) rfl cw_X9_54 s0_32 a0_32 (by decide) rfl rfl (Nat.le_of_ble_eq_true rfl) ⟨Nat.zero_le _, Nat.zero_le _⟩ dX9_atEnd_14 rfl ?_
    refine mj_if_eq 31 dX9_atEnd_17 (by decide) (fun c3 => ?_) (fun c3 => ?_)
    · replace hf := mj_pos c3 hf
      refine mj_iinc 3 [(3, .int (x3 + (1))), (0, .ref 51), (1, .ref 32), (2, .int x2)] dX9_atEnd_31 rfl (kz_1 _) (by decide) rfl ?_
      refine mj_goto 4 dX9_atEnd_34 (by decide) ?_
      refine mj_sub [1, 2, 3, 0] [(0, .ref 51), (1, .ref 32), (2, .int x2), (3, .int (x3 + (1)))] rfl ?_
      obtain rfl := Option.some.inj hf
      have hZ := hc (x2, (x3 + (1))) rfl
      replace hZ := mj_u2p hZ
      exact hZ
    · replace hf := mj_neg c3 hf
      refine mj_iload_n 2 dX9_atEnd_20 rfl ?_
      refine mj_aload_n 0 dX9_atEnd_21 rfl ?_
      refine mj_getP p0_51_2 (by decide) fl_X9_9 rfl s0_51 a0_51 dX9_atEnd_22 ?_
      refine mj_iload_n 3 dX9_atEnd_25 rfl ?_
      obtain ⟨z4, hf⟩ := mj_ck hf
      refine mj_ialdv (x := r52) rfl s0_52 a0_52 z4 dX9_atEnd_26 ?_
      obtain ⟨o5, ho5, hf⟩ := mj_bd hf
      refine mj_callSd (I2 := (mj_rows I [(32, r32), (33, r33), (52, r52)])) (L2 := L) (s1 := [.int o5]) (st := []) [.int x2, .int (r52 x3.toNatClampNeg)] (cmX3_plus X.2.1 G F x2 (r52 x3.toNatClampNeg) _ _   o5 ho5) rfl rfl cw_X9_45 (by decide) rfl rfl (Nat.le_of_ble_eq_true rfl) ⟨Nat.zero_le _, Nat.zero_le _⟩ dX9_atEnd_27 rfl ?_
      refine mj_istore_n [(2, .int o5), (0, .ref 51), (1, .ref 32), (3, .int x3)] dX9_atEnd_30 rfl (by decide) rfl ?_
      refine mj_iinc 3 [(3, .int (x3 + (1))), (2, .int o5), (0, .ref 51), (1, .ref 32)] dX9_atEnd_31 rfl (kz_1 _) (by decide) rfl ?_
      refine mj_goto 4 dX9_atEnd_34 (by decide) ?_
      refine mj_sub [2, 3, 1, 0] [(0, .ref 51), (1, .ref 32), (2, .int o5), (3, .int (x3 + (1)))] rfl ?_
      obtain rfl := Option.some.inj hf
      have hZ := hc (o5, (x3 + (1))) rfl
      replace hZ := mj_u2p hZ
      exact hZ
set_option maxRecDepth 100000 in
set_option maxHeartbeats 4000000 in
theorem mtX9_atEnd {X : mj_XT} {l : Launch} {G : mj_GT} {ad : Nat → Nat} {Qn : Option Value → mj_IT → mj_LT → Prop} (hR : mj_R X l G mj_P0 mj_S0 98 ad 0 0 Qn) (F : Nat) (I : mj_IT) (L : mj_LT) (r32 : Nat → Int32) (r33 : Nat → Int32) (r52 : Nat → Int32) (o : ((Int32))) (hf : fnX9_atEnd F r32 r33 r52 = some o) (hq : (fun ov => Qn (some (.int ov)) (mj_rows I [(32, r32), (33, r33), (52, r52)]) L) o) : mj_W X G RX9 "atEnd" cX9_atEnd 4 2 (some .int) mj_P0 mj_S0 98 ad 0 0 0 [(0, .ref 51), (1, .ref 32)] [] (mj_rows I [(32, r32), (33, r33), (52, r52)]) L := by
  unfold fnX9_atEnd at hf
  refine mj_iconst dX9_atEnd_0 kc_iconst_0 ?_
  refine mj_istore_n [(2, .int (0 : Int32)), (0, .ref 51), (1, .ref 32)] dX9_atEnd_1 rfl (by decide) rfl ?_
  refine mj_iconst dX9_atEnd_2 kc_iconst_0 ?_
  refine mj_istore_n [(3, .int (0 : Int32)), (2, .int (0 : Int32)), (0, .ref 51), (1, .ref 32)] dX9_atEnd_3 rfl (by decide) rfl ?_
  refine mj_sub [2, 3, 1, 0] [(0, .ref 51), (1, .ref 32), (2, .int (0 : Int32)), (3, .int (0 : Int32))] rfl ?_
  obtain ⟨x2_6, ho6, hf⟩ := mj_bd hf
  refine lpX9_atEnd_4 hR F I L r32 r33 r52 F ((0 : Int32), (0 : Int32)) x2_6 ho6 ?_
  refine ?_
  refine mj_iload_n 0 dX9_atEnd_37 rfl ?_
  obtain rfl := Option.some.inj hf
  have hZ := hq
  exact mj_iret hR ⟨Nat.le_refl _, Nat.le_refl _⟩ rfl rfl dX9_atEnd_38 hZ
set_option maxRecDepth 100000 in
set_option maxHeartbeats 4000000 in
theorem cmX9_atEnd (l : Launch) (G : mj_GT) (F : Nat) (I : mj_IT) (L : mj_LT) (r32 : Nat → Int32) (r33 : Nat → Int32) (r52 : Nat → Int32) (hr32 : I 32 = r32) (hr33 : I 33 = r33) (hr52 : I 52 = r52) (o : ((Int32))) (hf : fnX9_atEnd F r32 r33 r52 = some o) : mj_M l G yX9_atEnd cX9_atEnd 4 2 (some .int) 0 0 mj_P0 mj_S0 98 [.ref 51, .ref 32] I L (mj_qd (some (.int o)) (mj_rows I [(32, r32), (33, r33), (52, r52)]) L) := by
  refine mj_in RX9 "atEnd" [(0, .ref 51), (1, .ref 32)] rfl rfl rfl (by decide) (Nat.le_of_ble_eq_true rfl) (fun X ad hR => ?_)
  refine mj_toI [(32, r32), (33, r33), (52, r52)] (by intro q hq; simp only [List.mem_cons, List.not_mem_nil, or_false] at hq; rcases hq with rfl | rfl | rfl <;> assumption) ?_
  refine mtX9_atEnd hR F I L r32 r33 r52 o hf ?_
  exact ⟨rfl, rfl, rfl⟩

-- X10_feed
def fnX10_feed (F : Nat) (r2 : Nat → Int32) (r3 : Nat → Int32) (x1 : Int32) (x2 : Int32) (x3 : Int32) (x4 : Int32) (x5 : Int32) : Option ((Int32) × (Nat → Int32) × (Nat → Int32)) := (if ((r2 0) + (20 : Int32)) ≤ (400 : Int32) then (fnX8_put F r2 r3 x1).bind (fun o2 => (fnX8_put F o2.1 o2.2 x2).bind (fun o3 => (fnX8_put F o3.1 o3.2 x3).bind (fun o4 => (fnX8_put F o4.1 o4.2 x4).bind (fun o5 => (fnX8_put F o5.1 o5.2 x5).bind (fun o6 => some ((o6.1 0), o6.1, o6.2)))))) else some ((-1 : Int32), r2, r3))
set_option maxRecDepth 100000 in
set_option maxHeartbeats 4000000 in
theorem mtX10_feed {X : mj_XT} {l : Launch} {G : mj_GT} {ad : Nat → Nat} {Qn : Option Value → mj_IT → mj_LT → Prop} (hR : mj_R X l G mj_P0 mj_S0 98 ad 0 0 Qn) (F : Nat) (I : mj_IT) (L : mj_LT) (r2 : Nat → Int32) (r3 : Nat → Int32) (x1 : Int32) (x2 : Int32) (x3 : Int32) (x4 : Int32) (x5 : Int32) (o : ((Int32) × (Nat → Int32) × (Nat → Int32))) (hf : fnX10_feed F r2 r3 x1 x2 x3 x4 x5 = some o) (hq : (mj_u2 (fun ov => (mj_u2 (fun r2 r3 => Qn (some (.int ov)) (mj_rows I [(2, r2), (3, r3)]) L)))) o) : mj_W X G RX10 "feed" cX10_feed 6 2 (some .int) mj_P0 mj_S0 98 ad 0 0 0 [(0, .ref 1), (1, .int x1), (2, .int x2), (3, .int x3), (4, .int x4), (5, .int x5)] [] (mj_rows I [(2, r2), (3, r3)]) L := by
  unfold fnX10_feed at hf
  refine mj_aload_n 0 dX10_feed_0 rfl ?_
  refine mj_getP p0_1_0 (by decide) fl_X10_10 rfl s0_1 a0_1 dX10_feed_1 ?_
  refine mj_getIv (v := (r2 0)) rfl fl_X10_73 rfl s0_2 a0_2 dX10_feed_4 ?_
  refine mj_bipush dX10_feed_7 kc_bipush_20 ?_
  refine mj_iadd dX10_feed_9 ?_
  refine mj_sipush dX10_feed_10 kc_sipush_400 ?_
  refine mj_icmp_le 18 dX10_feed_13 (by decide) (fun c1 => ?_) (fun c1 => ?_)
  · replace hf := mj_pos c1 hf
    refine mj_aload_n 0 dX10_feed_18 rfl ?_
    refine mj_getP p0_1_0 (by decide) fl_X10_10 rfl s0_1 a0_1 dX10_feed_19 ?_
    refine mj_iload_n 1 dX10_feed_22 rfl ?_
    obtain ⟨o2, ho2, hf⟩ := mj_bd hf
    refine mj_callVd (I2 := (mj_rows I [(2, o2.1), (3, o2.2)])) (L2 := L) (s1 := []) (st := []) [.int x1] (cmX8_put X.2.1 G F x1 _ _ r2 r3 rfl rfl o2 ho2) (mj_rr rfl) rfl cw_X10_76 s0_2 a0_2 (by decide) rfl rfl (Nat.le_of_ble_eq_true rfl) ⟨Nat.zero_le _, Nat.zero_le _⟩ dX10_feed_23 rfl ?_
    refine mj_aload_n 0 dX10_feed_26 rfl ?_
    refine mj_getP p0_1_0 (by decide) fl_X10_10 rfl s0_1 a0_1 dX10_feed_27 ?_
    refine mj_iload_n 2 dX10_feed_30 rfl ?_
    obtain ⟨o3, ho3, hf⟩ := mj_bd hf
    refine mj_callVd (I2 := (mj_rows I [(2, o3.1), (3, o3.2)])) (L2 := L) (s1 := []) (st := []) [.int x2] (cmX8_put X.2.1 G F x2 _ _ o2.1 o2.2 rfl rfl o3 ho3) (mj_rr rfl) rfl cw_X10_76 s0_2 a0_2 (by decide) rfl rfl (Nat.le_of_ble_eq_true rfl) ⟨Nat.zero_le _, Nat.zero_le _⟩ dX10_feed_31 rfl ?_
    refine mj_aload_n 0 dX10_feed_34 rfl ?_
    refine mj_getP p0_1_0 (by decide) fl_X10_10 rfl s0_1 a0_1 dX10_feed_35 ?_
    refine mj_iload_n 3 dX10_feed_38 rfl ?_
    obtain ⟨o4, ho4, hf⟩ := mj_bd hf
    refine mj_callVd (I2 := (mj_rows I [(2, o4.1), (3, o4.2)])) (L2 := L) (s1 := []) (st := []) [.int x3] (cmX8_put X.2.1 G F x3 _ _ o3.1 o3.2 rfl rfl o4 ho4) (mj_rr rfl) rfl cw_X10_76 s0_2 a0_2 (by decide) rfl rfl (Nat.le_of_ble_eq_true rfl) ⟨Nat.zero_le _, Nat.zero_le _⟩ dX10_feed_39 rfl ?_
    refine mj_aload_n 0 dX10_feed_42 rfl ?_
    refine mj_getP p0_1_0 (by decide) fl_X10_10 rfl s0_1 a0_1 dX10_feed_43 ?_
    refine mj_iload 4 dX10_feed_46 rfl ?_
    obtain ⟨o5, ho5, hf⟩ := mj_bd hf
    refine mj_callVd (I2 := (mj_rows I [(2, o5.1), (3, o5.2)])) (L2 := L) (s1 := []) (st := []) [.int x4] (cmX8_put X.2.1 G F x4 _ _ o4.1 o4.2 rfl rfl o5 ho5) (mj_rr rfl) rfl cw_X10_76 s0_2 a0_2 (by decide) rfl rfl (Nat.le_of_ble_eq_true rfl) ⟨Nat.zero_le _, Nat.zero_le _⟩ dX10_feed_48 rfl ?_
    refine mj_aload_n 0 dX10_feed_51 rfl ?_
    refine mj_getP p0_1_0 (by decide) fl_X10_10 rfl s0_1 a0_1 dX10_feed_52 ?_
    refine mj_iload 5 dX10_feed_55 rfl ?_
    obtain ⟨o6, ho6, hf⟩ := mj_bd hf
    refine mj_callVd (I2 := (mj_rows I [(2, o6.1), (3, o6.2)])) (L2 := L) (s1 := []) (st := []) [.int x5] (cmX8_put X.2.1 G F x5 _ _ o5.1 o5.2 rfl rfl o6 ho6) (mj_rr rfl) rfl cw_X10_76 s0_2 a0_2 (by decide) rfl rfl (Nat.le_of_ble_eq_true rfl) ⟨Nat.zero_le _, Nat.zero_le _⟩ dX10_feed_57 rfl ?_
    refine mj_aload_n 0 dX10_feed_60 rfl ?_
    refine mj_getP p0_1_0 (by decide) fl_X10_10 rfl s0_1 a0_1 dX10_feed_61 ?_
    refine mj_getIv (v := (o6.1 0)) rfl fl_X10_73 rfl s0_2 a0_2 dX10_feed_64 ?_
    obtain rfl := Option.some.inj hf
    have hZ := hq
    replace hZ := mj_u2p hZ
    replace hZ := mj_u2p hZ
    exact mj_iret hR ⟨Nat.le_refl _, Nat.le_refl _⟩ rfl rfl dX10_feed_67 hZ
  · replace hf := mj_neg c1 hf
    refine mj_iconst dX10_feed_16 kc_iconst_m1 ?_
    obtain rfl := Option.some.inj hf
    have hZ := hq
    replace hZ := mj_u2p hZ
    replace hZ := mj_u2p hZ
    exact mj_iret hR ⟨Nat.le_refl _, Nat.le_refl _⟩ rfl rfl dX10_feed_17 hZ
set_option maxRecDepth 100000 in
set_option maxHeartbeats 4000000 in
theorem cmX10_feed (l : Launch) (G : mj_GT) (F : Nat) (x1 : Int32) (x2 : Int32) (x3 : Int32) (x4 : Int32) (x5 : Int32) (I : mj_IT) (L : mj_LT) (r2 : Nat → Int32) (r3 : Nat → Int32) (hr2 : I 2 = r2) (hr3 : I 3 = r3) (o : ((Int32) × (Nat → Int32) × (Nat → Int32))) (hf : fnX10_feed F r2 r3 x1 x2 x3 x4 x5 = some o) : mj_M l G yX10_feed cX10_feed 6 2 (some .int) 0 0 mj_P0 mj_S0 98 [.ref 1, .int x1, .int x2, .int x3, .int x4, .int x5] I L (mj_qd (some (.int o.1)) (mj_rows I [(2, o.2.1), (3, o.2.2)]) L) := by
  refine mj_in RX10 "feed" [(0, .ref 1), (1, .int x1), (2, .int x2), (3, .int x3), (4, .int x4), (5, .int x5)] rfl rfl rfl (by decide) (Nat.le_of_ble_eq_true rfl) (fun X ad hR => ?_)
  refine mj_toI [(2, r2), (3, r3)] (by intro q hq; simp only [List.mem_cons, List.not_mem_nil, or_false] at hq; rcases hq with rfl | rfl <;> assumption) ?_
  refine mtX10_feed hR F I L r2 r3 x1 x2 x3 x4 x5 o hf ?_
  obtain ⟨w0, w1, w2⟩ := o
  refine mj_u2q ?_
  refine mj_u2q ?_
  exact ⟨rfl, rfl, rfl⟩

-- X10_fault
def fnX10_fault (F : Nat) (r1 : Nat → Int32) : Option ((Int32)) := some (r1 1)
set_option maxRecDepth 100000 in
set_option maxHeartbeats 4000000 in
theorem mtX10_fault {X : mj_XT} {l : Launch} {G : mj_GT} {ad : Nat → Nat} {Qn : Option Value → mj_IT → mj_LT → Prop} (hR : mj_R X l G mj_P0 mj_S0 98 ad 0 0 Qn) (F : Nat) (I : mj_IT) (L : mj_LT) (r1 : Nat → Int32) (o : ((Int32))) (hf : fnX10_fault F r1 = some o) (hq : (fun ov => Qn (some (.int ov)) (mj_rows I [(1, r1)]) L) o) : mj_W X G RX10 "fault" cX10_fault 1 1 (some .int) mj_P0 mj_S0 98 ad 0 0 0 [(0, .ref 1)] [] (mj_rows I [(1, r1)]) L := by
  unfold fnX10_fault at hf
  refine mj_aload_n 0 dX10_fault_0 rfl ?_
  refine mj_getIv (v := (r1 1)) rfl fl_X10_16 rfl s0_1 a0_1 dX10_fault_1 ?_
  obtain rfl := Option.some.inj hf
  have hZ := hq
  exact mj_iret hR ⟨Nat.le_refl _, Nat.le_refl _⟩ rfl rfl dX10_fault_4 hZ
set_option maxRecDepth 100000 in
set_option maxHeartbeats 4000000 in
theorem cmX10_fault (l : Launch) (G : mj_GT) (F : Nat) (I : mj_IT) (L : mj_LT) (r1 : Nat → Int32) (hr1 : I 1 = r1) (o : ((Int32))) (hf : fnX10_fault F r1 = some o) : mj_M l G yX10_fault cX10_fault 1 1 (some .int) 0 0 mj_P0 mj_S0 98 [.ref 1] I L (mj_qd (some (.int o)) (mj_rows I [(1, r1)]) L) := by
  refine mj_in RX10 "fault" [(0, .ref 1)] rfl rfl rfl (by decide) (Nat.le_of_ble_eq_true rfl) (fun X ad hR => ?_)
  refine mj_toI [(1, r1)] (by intro q hq; simp only [List.mem_cons, List.not_mem_nil, or_false] at hq; rcases hq with rfl <;> assumption) ?_
  refine mtX10_fault hR F I L r1 o hf ?_
  exact ⟨rfl, rfl, rfl⟩

-- X10_undo
def fnX10_undo (F : Nat) (r1 : Nat → Int32) (r21 : Nat → Int32) (r29 : Nat → Int32) (r30 : Nat → Int32) (r31 : Nat → Int32) (r32 : Nat → Int32) : Option ((Int32) × (Nat → Int32) × (Nat → Int32) × (Nat → Int32) × (Nat → Int32)) := (if (r29 0) = 0 then some ((-1 : Int32), r1, r21, r29, r32) else (fnX0_latestWhere F r29 r30).bind (fun o2 => (fnX0_latestWas F r29 r31).bind (fun o3 => (fnX0_drop F r29).bind (fun o4 => (if (6 : Int32) ≤ o2 then (if (40 : Int32) ≤ (o2 - (6 : Int32)) then (fnX4_forget F r32).bind (fun o7 => some ((o4 0), r1, r21, o4, o7)) else (if mj_ib (o2 - (6 : Int32)) 40 = true then (fnX4_forget F r32).bind (fun o9 => some ((o4 0), r1, (upd r21 ((o2 - (6 : Int32)).toNatClampNeg) o3), o4, o9)) else none)) else (fnX1_put F (r1 3) o2 o3).bind (fun o10 => (fnX4_forget F r32).bind (fun o11 => some ((o4 0), (upd r1 3 o10), r21, o4, o11))))))))
set_option maxRecDepth 100000 in
set_option maxHeartbeats 4000000 in
theorem mtX10_undo {X : mj_XT} {l : Launch} {G : mj_GT} {ad : Nat → Nat} {Qn : Option Value → mj_IT → mj_LT → Prop} (hR : mj_R X l G mj_P0 mj_S0 98 ad 0 0 Qn) (F : Nat) (I : mj_IT) (L : mj_LT) (r1 : Nat → Int32) (r21 : Nat → Int32) (r29 : Nat → Int32) (r30 : Nat → Int32) (r31 : Nat → Int32) (r32 : Nat → Int32) (o : ((Int32) × (Nat → Int32) × (Nat → Int32) × (Nat → Int32) × (Nat → Int32))) (hf : fnX10_undo F r1 r21 r29 r30 r31 r32 = some o) (hq : (mj_u2 (fun ov => (mj_u2 (fun r1 => (mj_u2 (fun r21 => (mj_u2 (fun r29 r32 => Qn (some (.int ov)) (mj_rows I [(1, r1), (21, r21), (29, r29), (30, r30), (31, r31), (32, r32)]) L)))))))) o) : mj_W X G RX10 "undo" cX10_undo 3 3 (some .int) mj_P0 mj_S0 98 ad 0 0 0 [(0, .ref 1)] [] (mj_rows I [(1, r1), (21, r21), (29, r29), (30, r30), (31, r31), (32, r32)]) L := by
  unfold fnX10_undo at hf
  refine mj_aload_n 0 dX10_undo_0 rfl ?_
  refine mj_getP p0_1_4 (by decide) fl_X10_30 rfl s0_1 a0_1 dX10_undo_1 ?_
  refine mj_getIv (v := (r29 0)) rfl fl_X10_135 rfl s0_29 a0_29 dX10_undo_4 ?_
  refine mj_if_ne 12 dX10_undo_7 (by decide) (fun c1 => ?_) (fun c1 => ?_)
  · replace hf := mj_neg c1 hf
    refine mj_aload_n 0 dX10_undo_12 rfl ?_
    refine mj_getP p0_1_4 (by decide) fl_X10_30 rfl s0_1 a0_1 dX10_undo_13 ?_
    obtain ⟨o2, ho2, hf⟩ := mj_bd hf
    refine mj_callVd (I2 := (mj_rows I [(1, r1), (21, r21), (29, r29), (30, r30), (31, r31), (32, r32)])) (L2 := L) (s1 := [.int o2]) (st := []) [] (cmX0_latestWhere X.2.1 G F  _ _ r29 r30 rfl rfl o2 ho2) (mj_rr rfl) rfl cw_X10_136 s0_29 a0_29 (by decide) rfl rfl (Nat.le_of_ble_eq_true rfl) ⟨Nat.zero_le _, Nat.zero_le _⟩ dX10_undo_16 rfl ?_
    refine mj_istore_n [(1, .int o2), (0, .ref 1)] dX10_undo_19 rfl (by decide) rfl ?_
    refine mj_aload_n 1 dX10_undo_20 rfl ?_
    refine mj_getP p0_1_4 (by decide) fl_X10_30 rfl s0_1 a0_1 dX10_undo_21 ?_
    obtain ⟨o3, ho3, hf⟩ := mj_bd hf
    refine mj_callVd (I2 := (mj_rows I [(1, r1), (21, r21), (29, r29), (30, r30), (31, r31), (32, r32)])) (L2 := L) (s1 := [.int o3]) (st := []) [] (cmX0_latestWas X.2.1 G F  _ _ r29 r31 rfl rfl o3 ho3) (mj_rr rfl) rfl cw_X10_139 s0_29 a0_29 (by decide) rfl rfl (Nat.le_of_ble_eq_true rfl) ⟨Nat.zero_le _, Nat.zero_le _⟩ dX10_undo_24 rfl ?_
    refine mj_istore_n [(2, .int o3), (1, .int o2), (0, .ref 1)] dX10_undo_27 rfl (by decide) rfl ?_
    refine mj_aload_n 2 dX10_undo_28 rfl ?_
    refine mj_getP p0_1_4 (by decide) fl_X10_30 rfl s0_1 a0_1 dX10_undo_29 ?_
    obtain ⟨o4, ho4, hf⟩ := mj_bd hf
    refine mj_callVd (I2 := (mj_rows I [(1, r1), (21, r21), (29, o4), (30, r30), (31, r31), (32, r32)])) (L2 := L) (s1 := []) (st := []) [] (cmX0_drop X.2.1 G F  _ _ r29 rfl o4 ho4) (mj_rr rfl) rfl cw_X10_142 s0_29 a0_29 (by decide) rfl rfl (Nat.le_of_ble_eq_true rfl) ⟨Nat.zero_le _, Nat.zero_le _⟩ dX10_undo_32 rfl ?_
    refine mj_iload_n 1 dX10_undo_35 rfl ?_
    refine mj_bipush dX10_undo_36 kc_bipush_6 ?_
    refine mj_icmp_ge 57 dX10_undo_38 (by decide) (fun c5 => ?_) (fun c5 => ?_)
    · replace hf := mj_pos c5 hf
      refine mj_iload_n 1 dX10_undo_57 rfl ?_
      refine mj_bipush dX10_undo_58 kc_bipush_6 ?_
      refine mj_isub dX10_undo_60 ?_
      refine mj_bipush dX10_undo_61 kc_bipush_40 ?_
      refine mj_icmp_ge 79 dX10_undo_63 (by decide) (fun c6 => ?_) (fun c6 => ?_)
      · replace hf := mj_pos c6 hf
        refine mj_aload_n 2 dX10_undo_79 rfl ?_
        refine mj_getP p0_1_5 (by decide) fl_X10_37 rfl s0_1 a0_1 dX10_undo_80 ?_
        obtain ⟨o7, ho7, hf⟩ := mj_bd hf
        refine mj_callVd (I2 := (mj_rows I [(1, r1), (21, r21), (29, o4), (30, r30), (31, r31), (32, o7)])) (L2 := L) (s1 := []) (st := []) [] (cmX4_forget X.2.1 G F  _ _ r32 rfl o7 ho7) (mj_rr rfl) rfl cw_X10_101 s0_32 a0_32 (by decide) rfl rfl (Nat.le_of_ble_eq_true rfl) ⟨Nat.zero_le _, Nat.zero_le _⟩ dX10_undo_83 rfl ?_
        refine mj_aload_n 2 dX10_undo_86 rfl ?_
        refine mj_getP p0_1_4 (by decide) fl_X10_30 rfl s0_1 a0_1 dX10_undo_87 ?_
        refine mj_getIv (v := (o4 0)) rfl fl_X10_135 rfl s0_29 a0_29 dX10_undo_90 ?_
        obtain rfl := Option.some.inj hf
        have hZ := hq
        replace hZ := mj_u2p hZ
        replace hZ := mj_u2p hZ
        replace hZ := mj_u2p hZ
        replace hZ := mj_u2p hZ
        exact mj_iret hR ⟨Nat.le_refl _, Nat.le_refl _⟩ rfl rfl dX10_undo_93 hZ
      · replace hf := mj_neg c6 hf
        refine mj_aload_n 2 dX10_undo_66 rfl ?_
        refine mj_getP p0_1_2 (by decide) fl_X10_23 rfl s0_1 a0_1 dX10_undo_67 ?_
        refine mj_getP p0_18_3 (by decide) fl_X10_132 rfl s0_18 a0_18 dX10_undo_70 ?_
        refine mj_iload_n 1 dX10_undo_73 rfl ?_
        refine mj_bipush dX10_undo_74 kc_bipush_6 ?_
        refine mj_isub dX10_undo_76 ?_
        refine mj_iload_n 0 dX10_undo_77 rfl ?_
        obtain ⟨z8, hf⟩ := mj_ck hf
        refine mj_iastr [(1, r1), (21, (upd r21 ((o2 - (6 : Int32)).toNatClampNeg) o3)), (29, o4), (30, r30), (31, r31), (32, r32)] rfl s0_21 a0_21 z8 dX10_undo_78 ?_
        refine mj_aload_n 2 dX10_undo_79 rfl ?_
        refine mj_getP p0_1_5 (by decide) fl_X10_37 rfl s0_1 a0_1 dX10_undo_80 ?_
        obtain ⟨o9, ho9, hf⟩ := mj_bd hf
        refine mj_callVd (I2 := (mj_rows I [(1, r1), (21, (upd r21 ((o2 - (6 : Int32)).toNatClampNeg) o3)), (29, o4), (30, r30), (31, r31), (32, o9)])) (L2 := L) (s1 := []) (st := []) [] (cmX4_forget X.2.1 G F  _ _ r32 rfl o9 ho9) (mj_rr rfl) rfl cw_X10_101 s0_32 a0_32 (by decide) rfl rfl (Nat.le_of_ble_eq_true rfl) ⟨Nat.zero_le _, Nat.zero_le _⟩ dX10_undo_83 rfl ?_
        refine mj_aload_n 2 dX10_undo_86 rfl ?_
        refine mj_getP p0_1_4 (by decide) fl_X10_30 rfl s0_1 a0_1 dX10_undo_87 ?_
        refine mj_getIv (v := (o4 0)) rfl fl_X10_135 rfl s0_29 a0_29 dX10_undo_90 ?_
        obtain rfl := Option.some.inj hf
        have hZ := hq
        replace hZ := mj_u2p hZ
        replace hZ := mj_u2p hZ
        replace hZ := mj_u2p hZ
        replace hZ := mj_u2p hZ
        exact mj_iret hR ⟨Nat.le_refl _, Nat.le_refl _⟩ rfl rfl dX10_undo_93 hZ
    · replace hf := mj_neg c5 hf
      refine mj_aload_n 2 dX10_undo_41 rfl ?_
      refine mj_aload_n 2 dX10_undo_42 rfl ?_
      refine mj_getIv (v := (r1 3)) rfl fl_X10_95 rfl s0_1 a0_1 dX10_undo_43 ?_
      refine mj_iload_n 1 dX10_undo_46 rfl ?_
      refine mj_iload_n 0 dX10_undo_47 rfl ?_
      obtain ⟨o10, ho10, hf⟩ := mj_bd hf
      refine mj_callSd (I2 := (mj_rows I [(1, r1), (21, r21), (29, o4), (30, r30), (31, r31), (32, r32)])) (L2 := L) (s1 := [.int o10, .ref 1]) (st := [.ref 1]) [.int (r1 3), .int o2, .int o3] (cmX1_put X.2.1 G F (r1 3) o2 o3 _ _   o10 ho10) rfl rfl cw_X10_120 (by decide) rfl rfl (Nat.le_of_ble_eq_true rfl) ⟨Nat.zero_le _, Nat.zero_le _⟩ dX10_undo_48 rfl ?_
      refine mj_putIr (ci := 8) (j := 3) [(1, (upd r1 3 o10)), (21, r21), (29, o4), (30, r30), (31, r31), (32, r32)] rfl ⟨rfl, rfl⟩ fl_X10_95 rfl rfl s0_1 a0_1 dX10_undo_51 ?_
      refine mj_goto 79 dX10_undo_54 (by decide) ?_
      refine mj_aload_n 2 dX10_undo_79 rfl ?_
      refine mj_getP p0_1_5 (by decide) fl_X10_37 rfl s0_1 a0_1 dX10_undo_80 ?_
      obtain ⟨o11, ho11, hf⟩ := mj_bd hf
      refine mj_callVd (I2 := (mj_rows I [(1, (upd r1 3 o10)), (21, r21), (29, o4), (30, r30), (31, r31), (32, o11)])) (L2 := L) (s1 := []) (st := []) [] (cmX4_forget X.2.1 G F  _ _ r32 rfl o11 ho11) (mj_rr rfl) rfl cw_X10_101 s0_32 a0_32 (by decide) rfl rfl (Nat.le_of_ble_eq_true rfl) ⟨Nat.zero_le _, Nat.zero_le _⟩ dX10_undo_83 rfl ?_
      refine mj_aload_n 2 dX10_undo_86 rfl ?_
      refine mj_getP p0_1_4 (by decide) fl_X10_30 rfl s0_1 a0_1 dX10_undo_87 ?_
      refine mj_getIv (v := (o4 0)) rfl fl_X10_135 rfl s0_29 a0_29 dX10_undo_90 ?_
      obtain rfl := Option.some.inj hf
      have hZ := hq
      replace hZ := mj_u2p hZ
      replace hZ := mj_u2p hZ
      replace hZ := mj_u2p hZ
      replace hZ := mj_u2p hZ
      exact mj_iret hR ⟨Nat.le_refl _, Nat.le_refl _⟩ rfl rfl dX10_undo_93 hZ
  · replace hf := mj_pos c1 hf
    refine mj_iconst dX10_undo_10 kc_iconst_m1 ?_
    obtain rfl := Option.some.inj hf
    have hZ := hq
    replace hZ := mj_u2p hZ
    replace hZ := mj_u2p hZ
    replace hZ := mj_u2p hZ
    replace hZ := mj_u2p hZ
    exact mj_iret hR ⟨Nat.le_refl _, Nat.le_refl _⟩ rfl rfl dX10_undo_11 hZ
set_option maxRecDepth 100000 in
set_option maxHeartbeats 4000000 in
theorem cmX10_undo (l : Launch) (G : mj_GT) (F : Nat) (I : mj_IT) (L : mj_LT) (r1 : Nat → Int32) (r21 : Nat → Int32) (r29 : Nat → Int32) (r30 : Nat → Int32) (r31 : Nat → Int32) (r32 : Nat → Int32) (hr1 : I 1 = r1) (hr21 : I 21 = r21) (hr29 : I 29 = r29) (hr30 : I 30 = r30) (hr31 : I 31 = r31) (hr32 : I 32 = r32) (o : ((Int32) × (Nat → Int32) × (Nat → Int32) × (Nat → Int32) × (Nat → Int32))) (hf : fnX10_undo F r1 r21 r29 r30 r31 r32 = some o) : mj_M l G yX10_undo cX10_undo 3 3 (some .int) 0 0 mj_P0 mj_S0 98 [.ref 1] I L (mj_qd (some (.int o.1)) (mj_rows I [(1, o.2.1), (21, o.2.2.1), (29, o.2.2.2.1), (30, r30), (31, r31), (32, o.2.2.2.2)]) L) := by
  refine mj_in RX10 "undo" [(0, .ref 1)] rfl rfl rfl (by decide) (Nat.le_of_ble_eq_true rfl) (fun X ad hR => ?_)
  refine mj_toI [(1, r1), (21, r21), (29, r29), (30, r30), (31, r31), (32, r32)] (by intro q hq; simp only [List.mem_cons, List.not_mem_nil, or_false] at hq; rcases hq with rfl | rfl | rfl | rfl | rfl | rfl <;> assumption) ?_
  refine mtX10_undo hR F I L r1 r21 r29 r30 r31 r32 o hf ?_
  obtain ⟨w0, w1, w2, w3, w4⟩ := o
  refine mj_u2q ?_
  refine mj_u2q ?_
  refine mj_u2q ?_
  refine mj_u2q ?_
  exact ⟨rfl, rfl, rfl⟩

-- X10_print
def bdX10_print_19 (F : Nat) (r32 : Nat → Int32) (r33 : Nat → Int32) (r34 : Nat → Int32) (x1 : Int64) (x3 : Int32) : Option (((Int64) × (Int32)) ⊕ ((Int64))) := (if (r32 2) ≤ x3 then some (.inr x1) else (if (r32 6) = 0 then (if mj_ib x3 200 = true then (if mj_ib x3 200 = true then some (.inl ((((31 : Int64) * (((31 : Int64) * x1) + ((r33 x3.toNatClampNeg).toInt64))) + ((r34 x3.toNatClampNeg).toInt64)), (x3 + (1)))) else none) else none) else some (.inr x1)))
def fnX10_print (F : Nat) (r1 : Nat → Int32) (r18 : Nat → Int32) (r19 : Nat → Int32) (r20 : Nat → Int32) (r21 : Nat → Int32) (r22 : Nat → Int32) (r23 : Nat → Int32) (r24 : Nat → Int32) (r25 : Nat → Int32) (r26 : Nat → Int32) (r32 : Nat → Int32) (r33 : Nat → Int32) (r34 : Nat → Int32) (r35 : Nat → Int32) (r36 : Nat → Int32) (r37 : Nat → Int32) (r38 : Nat → Int32) (r39 : Nat → Int32) (r40 : Nat → Int32) : Option ((Int64) × (Nat → Int32) × (Nat → Int32) × (Nat → Int32) × (Nat → Int32) × (Nat → Int32) × (Nat → Int32) × (Nat → Int32) × (Nat → Int32) × (Nat → Int32)) := (fnX4_explore F r18 r19 r20 r21 r22 r23 r24 r25 r26 r32 r33 r34 r35 r36 r37 r38 r39 r40 (r1 3)).bind (fun o5 => (mj_it (mj_u2 (fun z0 z1 => bdX10_print_19 F o5.1 o5.2.1 o5.2.2.1 z0 z1)) F ((0 : Int64), (0 : Int32))).bind (fun x1_6 => some (x1_6, o5.1, o5.2.1, o5.2.2.1, o5.2.2.2.1, o5.2.2.2.2.1, o5.2.2.2.2.2.1, o5.2.2.2.2.2.2.1, o5.2.2.2.2.2.2.2.1, o5.2.2.2.2.2.2.2.2)))
set_option maxRecDepth 100000 in
set_option maxHeartbeats 4000000 in
theorem lpX10_print_19 {X : mj_XT} {l : Launch} {G : mj_GT} {ad : Nat → Nat} {Qn : Option Value → mj_IT → mj_LT → Prop} (hR : mj_R X l G mj_P0 mj_S0 98 ad 0 0 Qn) (F : Nat) (I : mj_IT) (L : mj_LT) (r1 : Nat → Int32) (r18 : Nat → Int32) (r19 : Nat → Int32) (r20 : Nat → Int32) (r21 : Nat → Int32) (r22 : Nat → Int32) (r23 : Nat → Int32) (r24 : Nat → Int32) (r25 : Nat → Int32) (r26 : Nat → Int32) (r32 : Nat → Int32) (r33 : Nat → Int32) (r34 : Nat → Int32) (r35 : Nat → Int32) (r36 : Nat → Int32) (r37 : Nat → Int32) (r38 : Nat → Int32) (r39 : Nat → Int32) (r40 : Nat → Int32) : ∀ (n : Nat) (s : ((Int64) × (Int32))) (e : ((Int64))), mj_it (mj_u2 (fun z0 z1 => bdX10_print_19 F r32 r33 r34 z0 z1)) n s = some e → (fun x1 => mj_W X G RX10 "print" cX10_print 4 6 (some .long) mj_P0 mj_S0 98 ad 0 0 80 [(1, .long x1)] [] (mj_rows I [(1, r1), (18, r18), (19, r19), (20, r20), (21, r21), (22, r22), (23, r23), (24, r24), (25, r25), (26, r26), (32, r32), (33, r33), (34, r34), (35, r35), (36, r36), (37, r37), (38, r38), (39, r39), (40, r40)]) L) e → (mj_u2 (fun x1 x3 => mj_W X G RX10 "print" cX10_print 4 6 (some .long) mj_P0 mj_S0 98 ad 0 0 19 [(0, .ref 1), (1, .long x1), (3, .int x3)] [] (mj_rows I [(1, r1), (18, r18), (19, r19), (20, r20), (21, r21), (22, r22), (23, r23), (24, r24), (25, r25), (26, r26), (32, r32), (33, r33), (34, r34), (35, r35), (36, r36), (37, r37), (38, r38), (39, r39), (40, r40)]) L)) s := by
  refine mj_loop (fun s o hf hc hx => ?_)
  obtain ⟨x1, x3⟩ := s
  replace hf := mj_u2e hf
  refine mj_u2q ?_
  unfold bdX10_print_19 at hf
  refine mj_iload_n 2 dX10_print_19 rfl ?_
  refine mj_aload_n 0 dX10_print_20 rfl ?_
  refine mj_getP p0_1_5 (by decide) fl_X10_37 rfl s0_1 a0_1 dX10_print_21 ?_
  refine mj_getIv (v := (r32 2)) rfl fl_X10_153 rfl s0_32 a0_32 dX10_print_24 ?_
  refine mj_icmp_ge 80 dX10_print_27 (by decide) (fun c1 => ?_) (fun c1 => ?_)
  · replace hf := mj_pos c1 hf
    refine mj_sub [1] [(1, .long x1)] rfl ?_
    obtain rfl := Option.some.inj hf
    have hZ := hx x1 rfl
    exact hZ
  · replace hf := mj_neg c1 hf
    refine mj_aload_n 0 dX10_print_30 rfl ?_
    refine mj_getP p0_1_5 (by decide) fl_X10_37 rfl s0_1 a0_1 dX10_print_31 ?_
    refine mj_getIv (v := (r32 6)) rfl fl_X10_149 rfl s0_32 a0_32 dX10_print_34 ?_
    refine mj_if_ne 80 dX10_print_37 (by decide) (fun c2 => ?_) (fun c2 => ?_)
    · replace hf := mj_neg c2 hf
      refine mj_sub [1] [(1, .long x1)] rfl ?_
      obtain rfl := Option.some.inj hf
      have hZ := hx x1 rfl
      exact hZ
    · replace hf := mj_pos c2 hf
      refine mj_ldc2 kk_X10_287 dX10_print_40 ?_
      refine mj_lload_n 1 dX10_print_43 rfl ?_
      refine mj_lmul dX10_print_44 ?_
      refine mj_aload_n 0 dX10_print_45 rfl ?_
      refine mj_getP p0_1_5 (by decide) fl_X10_37 rfl s0_1 a0_1 dX10_print_46 ?_
      refine mj_getP p0_32_8 (by decide) fl_X10_181 rfl s0_32 a0_32 dX10_print_49 ?_
      refine mj_iload_n 2 dX10_print_52 rfl ?_
      obtain ⟨z3, hf⟩ := mj_ck hf
      refine mj_ialdv (x := r33) rfl s0_33 a0_33 z3 dX10_print_53 ?_
      refine mj_i2l dX10_print_54 ?_
      refine mj_ladd dX10_print_55 ?_
      refine mj_lstore_n [(1, .long (((31 : Int64) * x1) + ((r33 x3.toNatClampNeg).toInt64))), (0, .ref 1), (3, .int x3)] dX10_print_56 rfl (by decide) rfl ?_
      refine mj_ldc2 kk_X10_287 dX10_print_57 ?_
      refine mj_lload_n 0 dX10_print_60 rfl ?_
      refine mj_lmul dX10_print_61 ?_
      refine mj_aload_n 1 dX10_print_62 rfl ?_
      refine mj_getP p0_1_5 (by decide) fl_X10_37 rfl s0_1 a0_1 dX10_print_63 ?_
      refine mj_getP p0_32_9 (by decide) fl_X10_194 rfl s0_32 a0_32 dX10_print_66 ?_
      refine mj_iload_n 2 dX10_print_69 rfl ?_
      obtain ⟨z4, hf⟩ := mj_ck hf
      refine mj_ialdv (x := r34) rfl s0_34 a0_34 z4 dX10_print_70 ?_
      refine mj_i2l dX10_print_71 ?_
      refine mj_ladd dX10_print_72 ?_
      refine mj_lstore_n [(1, .long (((31 : Int64) * (((31 : Int64) * x1) + ((r33 x3.toNatClampNeg).toInt64))) + ((r34 x3.toNatClampNeg).toInt64))), (0, .ref 1), (3, .int x3)] dX10_print_73 rfl (by decide) rfl ?_
      refine mj_iinc 2 [(3, .int (x3 + (1))), (1, .long (((31 : Int64) * (((31 : Int64) * x1) + ((r33 x3.toNatClampNeg).toInt64))) + ((r34 x3.toNatClampNeg).toInt64))), (0, .ref 1)] dX10_print_74 rfl (kz_1 _) (by decide) rfl ?_
      refine mj_goto 19 dX10_print_77 (by decide) ?_
      refine mj_sub [2, 1, 0] [(0, .ref 1), (1, .long (((31 : Int64) * (((31 : Int64) * x1) + ((r33 x3.toNatClampNeg).toInt64))) + ((r34 x3.toNatClampNeg).toInt64))), (3, .int (x3 + (1)))] rfl ?_
      obtain rfl := Option.some.inj hf
      have hZ := hc ((((31 : Int64) * (((31 : Int64) * x1) + ((r33 x3.toNatClampNeg).toInt64))) + ((r34 x3.toNatClampNeg).toInt64)), (x3 + (1))) rfl
      replace hZ := mj_u2p hZ
      exact hZ
set_option maxRecDepth 100000 in
set_option maxHeartbeats 4000000 in
theorem mtX10_print {X : mj_XT} {l : Launch} {G : mj_GT} {ad : Nat → Nat} {Qn : Option Value → mj_IT → mj_LT → Prop} (hR : mj_R X l G mj_P0 mj_S0 98 ad 0 0 Qn) (F : Nat) (I : mj_IT) (L : mj_LT) (r1 : Nat → Int32) (r18 : Nat → Int32) (r19 : Nat → Int32) (r20 : Nat → Int32) (r21 : Nat → Int32) (r22 : Nat → Int32) (r23 : Nat → Int32) (r24 : Nat → Int32) (r25 : Nat → Int32) (r26 : Nat → Int32) (r32 : Nat → Int32) (r33 : Nat → Int32) (r34 : Nat → Int32) (r35 : Nat → Int32) (r36 : Nat → Int32) (r37 : Nat → Int32) (r38 : Nat → Int32) (r39 : Nat → Int32) (r40 : Nat → Int32) (o : ((Int64) × (Nat → Int32) × (Nat → Int32) × (Nat → Int32) × (Nat → Int32) × (Nat → Int32) × (Nat → Int32) × (Nat → Int32) × (Nat → Int32) × (Nat → Int32))) (hf : fnX10_print F r1 r18 r19 r20 r21 r22 r23 r24 r25 r26 r32 r33 r34 r35 r36 r37 r38 r39 r40 = some o) (hq : (mj_u2 (fun ov => (mj_u2 (fun r32 => (mj_u2 (fun r33 => (mj_u2 (fun r34 => (mj_u2 (fun r35 => (mj_u2 (fun r36 => (mj_u2 (fun r37 => (mj_u2 (fun r38 => (mj_u2 (fun r39 r40 => Qn (some (.long ov)) (mj_rows I [(1, r1), (18, r18), (19, r19), (20, r20), (21, r21), (22, r22), (23, r23), (24, r24), (25, r25), (26, r26), (32, r32), (33, r33), (34, r34), (35, r35), (36, r36), (37, r37), (38, r38), (39, r39), (40, r40)]) L)))))))))))))))))) o) : mj_W X G RX10 "print" cX10_print 4 6 (some .long) mj_P0 mj_S0 98 ad 0 0 0 [(0, .ref 1)] [] (mj_rows I [(1, r1), (18, r18), (19, r19), (20, r20), (21, r21), (22, r22), (23, r23), (24, r24), (25, r25), (26, r26), (32, r32), (33, r33), (34, r34), (35, r35), (36, r36), (37, r37), (38, r38), (39, r39), (40, r40)]) L := by
  unfold fnX10_print at hf
  refine mj_aload_n 0 dX10_print_0 rfl ?_
  refine mj_getP p0_1_5 (by decide) fl_X10_37 rfl s0_1 a0_1 dX10_print_1 ?_
  refine mj_aload_n 0 dX10_print_4 rfl ?_
  refine mj_getP p0_1_2 (by decide) fl_X10_23 rfl s0_1 a0_1 dX10_print_5 ?_
  refine mj_aload_n 0 dX10_print_8 rfl ?_
  refine mj_getIv (v := (r1 3)) rfl fl_X10_95 rfl s0_1 a0_1 dX10_print_9 ?_
  obtain ⟨o5, ho5, hf⟩ := mj_bd hf
  refine mj_callVd (I2 := (mj_rows I [(1, r1), (18, r18), (19, r19), (20, r20), (21, r21), (22, r22), (23, r23), (24, r24), (25, r25), (26, r26), (32, o5.1), (33, o5.2.1), (34, o5.2.2.1), (35, o5.2.2.2.1), (36, o5.2.2.2.2.1), (37, o5.2.2.2.2.2.1), (38, o5.2.2.2.2.2.2.1), (39, o5.2.2.2.2.2.2.2.1), (40, o5.2.2.2.2.2.2.2.2)])) (L2 := L) (s1 := []) (st := []) [.ref 18, .int (r1 3)] (cmX4_explore X.2.1 G F (r1 3) _ _ r18 r19 r20 r21 r22 r23 r24 r25 r26 r32 r33 r34 r35 r36 r37 r38 r39 r40 rfl rfl rfl rfl rfl rfl rfl rfl rfl rfl rfl rfl rfl rfl rfl rfl rfl rfl o5 ho5) (mj_rr rfl) rfl cw_X10_145 s0_32 a0_32 (by decide) rfl rfl (Nat.le_of_ble_eq_true rfl) ⟨Nat.zero_le _, Nat.zero_le _⟩ dX10_print_12 rfl ?_
  refine mj_lconst (v := 0) dX10_print_15 (by decide) ?_
  refine mj_lstore_n [(1, .long (0 : Int64)), (0, .ref 1)] dX10_print_16 rfl (by decide) rfl ?_
  refine mj_iconst dX10_print_17 kc_iconst_0 ?_
  refine mj_istore_n [(3, .int (0 : Int32)), (1, .long (0 : Int64)), (0, .ref 1)] dX10_print_18 rfl (by decide) rfl ?_
  refine mj_sub [2, 1, 0] [(0, .ref 1), (1, .long (0 : Int64)), (3, .int (0 : Int32))] rfl ?_
  obtain ⟨x1_6, ho6, hf⟩ := mj_bd hf
  refine lpX10_print_19 hR F I L r1 r18 r19 r20 r21 r22 r23 r24 r25 r26 o5.1 o5.2.1 o5.2.2.1 o5.2.2.2.1 o5.2.2.2.2.1 o5.2.2.2.2.2.1 o5.2.2.2.2.2.2.1 o5.2.2.2.2.2.2.2.1 o5.2.2.2.2.2.2.2.2 F ((0 : Int64), (0 : Int32)) x1_6 ho6 ?_
  refine ?_
  refine mj_lload_n 0 dX10_print_80 rfl ?_
  obtain rfl := Option.some.inj hf
  have hZ := hq
  replace hZ := mj_u2p hZ
  replace hZ := mj_u2p hZ
  replace hZ := mj_u2p hZ
  replace hZ := mj_u2p hZ
  replace hZ := mj_u2p hZ
  replace hZ := mj_u2p hZ
  replace hZ := mj_u2p hZ
  replace hZ := mj_u2p hZ
  replace hZ := mj_u2p hZ
  exact mj_lret hR ⟨Nat.le_refl _, Nat.le_refl _⟩ rfl dX10_print_81 hZ
set_option maxRecDepth 100000 in
set_option maxHeartbeats 4000000 in
theorem cmX10_print (l : Launch) (G : mj_GT) (F : Nat) (I : mj_IT) (L : mj_LT) (r1 : Nat → Int32) (r18 : Nat → Int32) (r19 : Nat → Int32) (r20 : Nat → Int32) (r21 : Nat → Int32) (r22 : Nat → Int32) (r23 : Nat → Int32) (r24 : Nat → Int32) (r25 : Nat → Int32) (r26 : Nat → Int32) (r32 : Nat → Int32) (r33 : Nat → Int32) (r34 : Nat → Int32) (r35 : Nat → Int32) (r36 : Nat → Int32) (r37 : Nat → Int32) (r38 : Nat → Int32) (r39 : Nat → Int32) (r40 : Nat → Int32) (hr1 : I 1 = r1) (hr18 : I 18 = r18) (hr19 : I 19 = r19) (hr20 : I 20 = r20) (hr21 : I 21 = r21) (hr22 : I 22 = r22) (hr23 : I 23 = r23) (hr24 : I 24 = r24) (hr25 : I 25 = r25) (hr26 : I 26 = r26) (hr32 : I 32 = r32) (hr33 : I 33 = r33) (hr34 : I 34 = r34) (hr35 : I 35 = r35) (hr36 : I 36 = r36) (hr37 : I 37 = r37) (hr38 : I 38 = r38) (hr39 : I 39 = r39) (hr40 : I 40 = r40) (o : ((Int64) × (Nat → Int32) × (Nat → Int32) × (Nat → Int32) × (Nat → Int32) × (Nat → Int32) × (Nat → Int32) × (Nat → Int32) × (Nat → Int32) × (Nat → Int32))) (hf : fnX10_print F r1 r18 r19 r20 r21 r22 r23 r24 r25 r26 r32 r33 r34 r35 r36 r37 r38 r39 r40 = some o) : mj_M l G yX10_print cX10_print 4 6 (some .long) 0 0 mj_P0 mj_S0 98 [.ref 1] I L (mj_qd (some (.long o.1)) (mj_rows I [(1, r1), (18, r18), (19, r19), (20, r20), (21, r21), (22, r22), (23, r23), (24, r24), (25, r25), (26, r26), (32, o.2.1), (33, o.2.2.1), (34, o.2.2.2.1), (35, o.2.2.2.2.1), (36, o.2.2.2.2.2.1), (37, o.2.2.2.2.2.2.1), (38, o.2.2.2.2.2.2.2.1), (39, o.2.2.2.2.2.2.2.2.1), (40, o.2.2.2.2.2.2.2.2.2)]) L) := by
  refine mj_in RX10 "print" [(0, .ref 1)] rfl rfl rfl (by decide) (Nat.le_of_ble_eq_true rfl) (fun X ad hR => ?_)
  refine mj_toI [(1, r1), (18, r18), (19, r19), (20, r20), (21, r21), (22, r22), (23, r23), (24, r24), (25, r25), (26, r26), (32, r32), (33, r33), (34, r34), (35, r35), (36, r36), (37, r37), (38, r38), (39, r39), (40, r40)] (by intro q hq; simp only [List.mem_cons, List.not_mem_nil, or_false] at hq; rcases hq with rfl | rfl | rfl | rfl | rfl | rfl | rfl | rfl | rfl | rfl | rfl | rfl | rfl | rfl | rfl | rfl | rfl | rfl | rfl <;> assumption) ?_
  refine mtX10_print hR F I L r1 r18 r19 r20 r21 r22 r23 r24 r25 r26 r32 r33 r34 r35 r36 r37 r38 r39 r40 o hf ?_
  obtain ⟨w0, w1, w2, w3, w4, w5, w6, w7, w8, w9⟩ := o
  refine mj_u2q ?_
  refine mj_u2q ?_
  refine mj_u2q ?_
  refine mj_u2q ?_
  refine mj_u2q ?_
  refine mj_u2q ?_
  refine mj_u2q ?_
  refine mj_u2q ?_
  refine mj_u2q ?_
  exact ⟨rfl, rfl, rfl⟩

-- X10_status
def fnX10_status (F : Nat) (r70 : Nat → Int32) (x1 : Int32) : Option ((Int32)) := (if x1 < 0 then some (-1 : Int32) else (if (3 : Int32) ≤ x1 then some (-1 : Int32) else (if mj_ib x1 3 = true then some (r70 x1.toNatClampNeg) else none)))
set_option maxRecDepth 100000 in
set_option maxHeartbeats 4000000 in
theorem mtX10_status {X : mj_XT} {l : Launch} {G : mj_GT} {ad : Nat → Nat} {Qn : Option Value → mj_IT → mj_LT → Prop} (hR : mj_R X l G mj_P0 mj_S0 98 ad 0 0 Qn) (F : Nat) (I : mj_IT) (L : mj_LT) (r70 : Nat → Int32) (x1 : Int32) (o : ((Int32))) (hf : fnX10_status F r70 x1 = some o) (hq : (fun ov => Qn (some (.int ov)) (mj_rows I [(70, r70)]) L) o) : mj_W X G RX10 "status" cX10_status 2 1 (some .int) mj_P0 mj_S0 98 ad 0 0 0 [(0, .ref 1), (1, .int x1)] [] (mj_rows I [(70, r70)]) L := by
  unfold fnX10_status at hf
  refine mj_iload_n 1 dX10_status_0 rfl ?_
  refine mj_if_lt 22 dX10_status_1 (by decide) (fun c1 => ?_) (fun c1 => ?_)
  · replace hf := mj_pos c1 hf
    refine mj_iconst dX10_status_22 kc_iconst_m1 ?_
    obtain rfl := Option.some.inj hf
    have hZ := hq
    exact mj_iret hR ⟨Nat.le_refl _, Nat.le_refl _⟩ rfl rfl dX10_status_23 hZ
  · replace hf := mj_neg c1 hf
    refine mj_iload_n 1 dX10_status_4 rfl ?_
    refine mj_aload_n 0 dX10_status_5 rfl ?_
    refine mj_getP p0_1_10 (by decide) fl_X10_69 rfl s0_1 a0_1 dX10_status_6 ?_
    refine mj_alen (v := 3) s0_70 (by decide) a0_70 (by decide +kernel) dX10_status_9 ?_
    refine mj_icmp_ge 22 dX10_status_10 (by decide) (fun c2 => ?_) (fun c2 => ?_)
    · replace hf := mj_pos c2 hf
      refine mj_iconst dX10_status_22 kc_iconst_m1 ?_
      obtain rfl := Option.some.inj hf
      have hZ := hq
      exact mj_iret hR ⟨Nat.le_refl _, Nat.le_refl _⟩ rfl rfl dX10_status_23 hZ
    · replace hf := mj_neg c2 hf
      refine mj_aload_n 0 dX10_status_13 rfl ?_
      refine mj_getP p0_1_10 (by decide) fl_X10_69 rfl s0_1 a0_1 dX10_status_14 ?_
      refine mj_iload_n 1 dX10_status_17 rfl ?_
      obtain ⟨z3, hf⟩ := mj_ck hf
      refine mj_ialdv (x := r70) rfl s0_70 a0_70 z3 dX10_status_18 ?_
      refine mj_goto 23 dX10_status_19 (by decide) ?_
      obtain rfl := Option.some.inj hf
      have hZ := hq
      exact mj_iret hR ⟨Nat.le_refl _, Nat.le_refl _⟩ rfl rfl dX10_status_23 hZ
set_option maxRecDepth 100000 in
set_option maxHeartbeats 4000000 in
theorem cmX10_status (l : Launch) (G : mj_GT) (F : Nat) (x1 : Int32) (I : mj_IT) (L : mj_LT) (r70 : Nat → Int32) (hr70 : I 70 = r70) (o : ((Int32))) (hf : fnX10_status F r70 x1 = some o) : mj_M l G yX10_status cX10_status 2 1 (some .int) 0 0 mj_P0 mj_S0 98 [.ref 1, .int x1] I L (mj_qd (some (.int o)) (mj_rows I [(70, r70)]) L) := by
  refine mj_in RX10 "status" [(0, .ref 1), (1, .int x1)] rfl rfl rfl (by decide) (Nat.le_of_ble_eq_true rfl) (fun X ad hR => ?_)
  refine mj_toI [(70, r70)] (by intro q hq; simp only [List.mem_cons, List.not_mem_nil, or_false] at hq; rcases hq with rfl <;> assumption) ?_
  refine mtX10_status hR F I L r70 x1 o hf ?_
  exact ⟨rfl, rfl, rfl⟩

-- X10_coupleInForm
def fnX10_coupleInForm (F : Nat) (r32 : Nat → Int32) (r33 : Nat → Int32) (r34 : Nat → Int32) (r36 : Nat → Int32) (r37 : Nat → Int32) (r38 : Nat → Int32) (r39 : Nat → Int32) (r41 : Nat → Int32) (r42 : Nat → Int32) (r43 : Nat → Int32) (r44 : Nat → Int32) (r45 : Nat → Int32) (r46 : Nat → Int32) (r50 : Nat → Int32) (x1 : Int32) (x2 : Int32) (x3 : Int32) (x4 : Int32) (x5 : Int32) : Option ((Int32) × (Nat → Int32) × (Nat → Int32) × (Nat → Int32) × (Nat → Int32) × (Nat → Int32) × (Nat → Int32) × (Nat → Int32)) := (fnX2_canDivide F r32 r33 r36 r37 r38 r39 r41 r42 r43 r44 r45 r46 r50).bind (fun o1 => (if o1.1 = 0 then some ((-3 : Int32), o1.2.1, o1.2.2.1, o1.2.2.2.1, o1.2.2.2.2.1, o1.2.2.2.2.2.1, o1.2.2.2.2.2.2.1, o1.2.2.2.2.2.2.2) else (fnX2_coupleTogether F r32 r33 r34 o1.2.2.1 x1 x2 x3 x4).bind (fun o3 => (fnX2_shareOfEnded F o1.2.1 o3).bind (fun o4 => (fnX3_inForm F o4 x5).bind (fun o5 => some (o5, o1.2.1, o1.2.2.1, o1.2.2.2.1, o1.2.2.2.2.1, o1.2.2.2.2.2.1, o1.2.2.2.2.2.2.1, o1.2.2.2.2.2.2.2))))))
set_option maxRecDepth 100000 in
set_option maxHeartbeats 4000000 in
theorem mtX10_coupleInForm {X : mj_XT} {l : Launch} {G : mj_GT} {ad : Nat → Nat} {Qn : Option Value → mj_IT → mj_LT → Prop} (hR : mj_R X l G mj_P0 mj_S0 98 ad 0 0 Qn) (F : Nat) (I : mj_IT) (L : mj_LT) (r32 : Nat → Int32) (r33 : Nat → Int32) (r34 : Nat → Int32) (r36 : Nat → Int32) (r37 : Nat → Int32) (r38 : Nat → Int32) (r39 : Nat → Int32) (r41 : Nat → Int32) (r42 : Nat → Int32) (r43 : Nat → Int32) (r44 : Nat → Int32) (r45 : Nat → Int32) (r46 : Nat → Int32) (r50 : Nat → Int32) (x1 : Int32) (x2 : Int32) (x3 : Int32) (x4 : Int32) (x5 : Int32) (o : ((Int32) × (Nat → Int32) × (Nat → Int32) × (Nat → Int32) × (Nat → Int32) × (Nat → Int32) × (Nat → Int32) × (Nat → Int32))) (hf : fnX10_coupleInForm F r32 r33 r34 r36 r37 r38 r39 r41 r42 r43 r44 r45 r46 r50 x1 x2 x3 x4 x5 = some o) (hq : (mj_u2 (fun ov => (mj_u2 (fun r41 => (mj_u2 (fun r42 => (mj_u2 (fun r43 => (mj_u2 (fun r44 => (mj_u2 (fun r45 => (mj_u2 (fun r46 r50 => Qn (some (.int ov)) (mj_rows I [(32, r32), (33, r33), (34, r34), (36, r36), (37, r37), (38, r38), (39, r39), (41, r41), (42, r42), (43, r43), (44, r44), (45, r45), (46, r46), (50, r50)]) L)))))))))))))) o) : mj_W X G RX10 "coupleInForm" cX10_coupleInForm 6 7 (some .int) mj_P0 mj_S0 98 ad 0 0 0 [(0, .ref 1), (1, .int x1), (2, .int x2), (3, .int x3), (4, .int x4), (5, .int x5)] [] (mj_rows I [(32, r32), (33, r33), (34, r34), (36, r36), (37, r37), (38, r38), (39, r39), (41, r41), (42, r42), (43, r43), (44, r44), (45, r45), (46, r46), (50, r50)]) L := by
  unfold fnX10_coupleInForm at hf
  refine mj_aload_n 0 dX10_coupleInForm_0 rfl ?_
  refine mj_getP p0_1_6 (by decide) fl_X10_44 rfl s0_1 a0_1 dX10_coupleInForm_1 ?_
  refine mj_aload_n 0 dX10_coupleInForm_4 rfl ?_
  refine mj_getP p0_1_5 (by decide) fl_X10_37 rfl s0_1 a0_1 dX10_coupleInForm_5 ?_
  obtain ⟨o1, ho1, hf⟩ := mj_bd hf
  refine mj_callVd (I2 := (mj_rows I [(32, r32), (33, r33), (34, r34), (36, r36), (37, r37), (38, r38), (39, r39), (41, o1.2.1), (42, o1.2.2.1), (43, o1.2.2.2.1), (44, o1.2.2.2.2.1), (45, o1.2.2.2.2.2.1), (46, o1.2.2.2.2.2.2.1), (50, o1.2.2.2.2.2.2.2)])) (L2 := L) (s1 := [.int o1.1]) (st := []) [.ref 32] (cmX2_canDivide X.2.1 G F  _ _ r32 r33 r36 r37 r38 r39 r41 r42 r43 r44 r45 r46 r50 rfl rfl rfl rfl rfl rfl rfl rfl rfl rfl rfl rfl rfl o1 ho1) (mj_rr rfl) rfl cw_X10_237 s0_41 a0_41 (by decide) rfl rfl (Nat.le_of_ble_eq_true rfl) ⟨Nat.zero_le _, Nat.zero_le _⟩ dX10_coupleInForm_8 rfl ?_
  refine mj_if_ne 17 dX10_coupleInForm_11 (by decide) (fun c2 => ?_) (fun c2 => ?_)
  · replace hf := mj_neg c2 hf
    refine mj_aload_n 0 dX10_coupleInForm_17 rfl ?_
    refine mj_getP p0_1_6 (by decide) fl_X10_44 rfl s0_1 a0_1 dX10_coupleInForm_18 ?_
    refine mj_aload_n 0 dX10_coupleInForm_21 rfl ?_
    refine mj_getP p0_1_6 (by decide) fl_X10_44 rfl s0_1 a0_1 dX10_coupleInForm_22 ?_
    refine mj_aload_n 0 dX10_coupleInForm_25 rfl ?_
    refine mj_getP p0_1_5 (by decide) fl_X10_37 rfl s0_1 a0_1 dX10_coupleInForm_26 ?_
    refine mj_iload_n 1 dX10_coupleInForm_29 rfl ?_
    refine mj_iload_n 2 dX10_coupleInForm_30 rfl ?_
    refine mj_iload_n 3 dX10_coupleInForm_31 rfl ?_
    refine mj_iload 4 dX10_coupleInForm_32 rfl ?_
    obtain ⟨o3, ho3, hf⟩ := mj_bd hf
    refine mj_callVd (I2 := (mj_rows I [(32, r32), (33, r33), (34, r34), (36, r36), (37, r37), (38, r38), (39, r39), (41, o1.2.1), (42, o1.2.2.1), (43, o1.2.2.2.1), (44, o1.2.2.2.2.1), (45, o1.2.2.2.2.2.1), (46, o1.2.2.2.2.2.2.1), (50, o1.2.2.2.2.2.2.2)])) (L2 := L) (s1 := [.int o3, .ref 41]) (st := [.ref 41]) [.ref 32, .int x1, .int x2, .int x3, .int x4] (cmX2_coupleTogether X.2.1 G F x1 x2 x3 x4 _ _ r32 r33 r34 o1.2.2.1 rfl rfl rfl rfl o3 ho3) (mj_rr rfl) rfl cw_X10_309 s0_41 a0_41 (by decide) rfl rfl (Nat.le_of_ble_eq_true rfl) ⟨Nat.zero_le _, Nat.zero_le _⟩ dX10_coupleInForm_34 rfl ?_
    obtain ⟨o4, ho4, hf⟩ := mj_bd hf
    refine mj_callVd (I2 := (mj_rows I [(32, r32), (33, r33), (34, r34), (36, r36), (37, r37), (38, r38), (39, r39), (41, o1.2.1), (42, o1.2.2.1), (43, o1.2.2.2.1), (44, o1.2.2.2.2.1), (45, o1.2.2.2.2.2.1), (46, o1.2.2.2.2.2.2.1), (50, o1.2.2.2.2.2.2.2)])) (L2 := L) (s1 := [.int o4]) (st := []) [.int o3] (cmX2_shareOfEnded X.2.1 G F o3 _ _ o1.2.1 rfl o4 ho4) (mj_rr rfl) rfl cw_X10_244 s0_41 a0_41 (by decide) rfl rfl (Nat.le_of_ble_eq_true rfl) ⟨Nat.zero_le _, Nat.zero_le _⟩ dX10_coupleInForm_37 rfl ?_
    refine mj_iload 5 dX10_coupleInForm_40 rfl ?_
    obtain ⟨o5, ho5, hf⟩ := mj_bd hf
    refine mj_callSd (I2 := (mj_rows I [(32, r32), (33, r33), (34, r34), (36, r36), (37, r37), (38, r38), (39, r39), (41, o1.2.1), (42, o1.2.2.1), (43, o1.2.2.2.1), (44, o1.2.2.2.2.1), (45, o1.2.2.2.2.2.1), (46, o1.2.2.2.2.2.2.1), (50, o1.2.2.2.2.2.2.2)])) (L2 := L) (s1 := [.int o5]) (st := []) [.int o4, .int x5] (cmX3_inForm X.2.1 G F o4 x5 _ _   o5 ho5) rfl rfl cw_X10_219 (by decide) rfl rfl (Nat.le_of_ble_eq_true rfl) ⟨Nat.zero_le _, Nat.zero_le _⟩ dX10_coupleInForm_42 rfl ?_
    obtain rfl := Option.some.inj hf
    have hZ := hq
    replace hZ := mj_u2p hZ
    replace hZ := mj_u2p hZ
    replace hZ := mj_u2p hZ
    replace hZ := mj_u2p hZ
    replace hZ := mj_u2p hZ
    replace hZ := mj_u2p hZ
    replace hZ := mj_u2p hZ
    exact mj_iret hR ⟨Nat.le_refl _, Nat.le_refl _⟩ rfl rfl dX10_coupleInForm_45 hZ
  · replace hf := mj_pos c2 hf
    refine mj_bipush dX10_coupleInForm_14 kc_bipush_m3 ?_
    obtain rfl := Option.some.inj hf
    have hZ := hq
    replace hZ := mj_u2p hZ
    replace hZ := mj_u2p hZ
    replace hZ := mj_u2p hZ
    replace hZ := mj_u2p hZ
    replace hZ := mj_u2p hZ
    replace hZ := mj_u2p hZ
    replace hZ := mj_u2p hZ
    exact mj_iret hR ⟨Nat.le_refl _, Nat.le_refl _⟩ rfl rfl dX10_coupleInForm_16 hZ
set_option maxRecDepth 100000 in
set_option maxHeartbeats 4000000 in
theorem cmX10_coupleInForm (l : Launch) (G : mj_GT) (F : Nat) (x1 : Int32) (x2 : Int32) (x3 : Int32) (x4 : Int32) (x5 : Int32) (I : mj_IT) (L : mj_LT) (r32 : Nat → Int32) (r33 : Nat → Int32) (r34 : Nat → Int32) (r36 : Nat → Int32) (r37 : Nat → Int32) (r38 : Nat → Int32) (r39 : Nat → Int32) (r41 : Nat → Int32) (r42 : Nat → Int32) (r43 : Nat → Int32) (r44 : Nat → Int32) (r45 : Nat → Int32) (r46 : Nat → Int32) (r50 : Nat → Int32) (hr32 : I 32 = r32) (hr33 : I 33 = r33) (hr34 : I 34 = r34) (hr36 : I 36 = r36) (hr37 : I 37 = r37) (hr38 : I 38 = r38) (hr39 : I 39 = r39) (hr41 : I 41 = r41) (hr42 : I 42 = r42) (hr43 : I 43 = r43) (hr44 : I 44 = r44) (hr45 : I 45 = r45) (hr46 : I 46 = r46) (hr50 : I 50 = r50) (o : ((Int32) × (Nat → Int32) × (Nat → Int32) × (Nat → Int32) × (Nat → Int32) × (Nat → Int32) × (Nat → Int32) × (Nat → Int32))) (hf : fnX10_coupleInForm F r32 r33 r34 r36 r37 r38 r39 r41 r42 r43 r44 r45 r46 r50 x1 x2 x3 x4 x5 = some o) : mj_M l G yX10_coupleInForm cX10_coupleInForm 6 7 (some .int) 0 0 mj_P0 mj_S0 98 [.ref 1, .int x1, .int x2, .int x3, .int x4, .int x5] I L (mj_qd (some (.int o.1)) (mj_rows I [(32, r32), (33, r33), (34, r34), (36, r36), (37, r37), (38, r38), (39, r39), (41, o.2.1), (42, o.2.2.1), (43, o.2.2.2.1), (44, o.2.2.2.2.1), (45, o.2.2.2.2.2.1), (46, o.2.2.2.2.2.2.1), (50, o.2.2.2.2.2.2.2)]) L) := by
  refine mj_in RX10 "coupleInForm" [(0, .ref 1), (1, .int x1), (2, .int x2), (3, .int x3), (4, .int x4), (5, .int x5)] rfl rfl rfl (by decide) (Nat.le_of_ble_eq_true rfl) (fun X ad hR => ?_)
  refine mj_toI [(32, r32), (33, r33), (34, r34), (36, r36), (37, r37), (38, r38), (39, r39), (41, r41), (42, r42), (43, r43), (44, r44), (45, r45), (46, r46), (50, r50)] (by intro q hq; simp only [List.mem_cons, List.not_mem_nil, or_false] at hq; rcases hq with rfl | rfl | rfl | rfl | rfl | rfl | rfl | rfl | rfl | rfl | rfl | rfl | rfl | rfl <;> assumption) ?_
  refine mtX10_coupleInForm hR F I L r32 r33 r34 r36 r37 r38 r39 r41 r42 r43 r44 r45 r46 r50 x1 x2 x3 x4 x5 o hf ?_
  obtain ⟨w0, w1, w2, w3, w4, w5, w6, w7⟩ := o
  refine mj_u2q ?_
  refine mj_u2q ?_
  refine mj_u2q ?_
  refine mj_u2q ?_
  refine mj_u2q ?_
  refine mj_u2q ?_
  refine mj_u2q ?_
  exact ⟨rfl, rfl, rfl⟩

-- X11_thrown
def fnX11_thrown (F : Nat) (r71 : Nat → Int32) : Option ((Int32)) := some (r71 0)
set_option maxRecDepth 100000 in
set_option maxHeartbeats 4000000 in
theorem mtX11_thrown {X : mj_XT} {l : Launch} {G : mj_GT} {ad : Nat → Nat} {Qn : Option Value → mj_IT → mj_LT → Prop} (hR : mj_R X l G mj_P0 mj_S0 98 ad 0 0 Qn) (F : Nat) (I : mj_IT) (L : mj_LT) (r71 : Nat → Int32) (o : ((Int32))) (hf : fnX11_thrown F r71 = some o) (hq : (fun ov => Qn (some (.int ov)) (mj_rows I [(71, r71)]) L) o) : mj_W X G RX11 "thrown" cX11_thrown 1 1 (some .int) mj_P0 mj_S0 98 ad 0 0 0 [(0, .ref 71)] [] (mj_rows I [(71, r71)]) L := by
  unfold fnX11_thrown at hf
  refine mj_aload_n 0 dX11_thrown_0 rfl ?_
  refine mj_getIv (v := (r71 0)) rfl fl_X11_1 rfl s0_71 a0_71 dX11_thrown_1 ?_
  obtain rfl := Option.some.inj hf
  have hZ := hq
  exact mj_iret hR ⟨Nat.le_refl _, Nat.le_refl _⟩ rfl rfl dX11_thrown_4 hZ
set_option maxRecDepth 100000 in
set_option maxHeartbeats 4000000 in
theorem cmX11_thrown (l : Launch) (G : mj_GT) (F : Nat) (I : mj_IT) (L : mj_LT) (r71 : Nat → Int32) (hr71 : I 71 = r71) (o : ((Int32))) (hf : fnX11_thrown F r71 = some o) : mj_M l G yX11_thrown cX11_thrown 1 1 (some .int) 0 0 mj_P0 mj_S0 98 [.ref 71] I L (mj_qd (some (.int o)) (mj_rows I [(71, r71)]) L) := by
  refine mj_in RX11 "thrown" [(0, .ref 71)] rfl rfl rfl (by decide) (Nat.le_of_ble_eq_true rfl) (fun X ad hR => ?_)
  refine mj_toI [(71, r71)] (by intro q hq; simp only [List.mem_cons, List.not_mem_nil, or_false] at hq; rcases hq with rfl <;> assumption) ?_
  refine mtX11_thrown hR F I L r71 o hf ?_
  exact ⟨rfl, rfl, rfl⟩

