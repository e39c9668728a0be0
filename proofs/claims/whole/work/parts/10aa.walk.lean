-- X0_keep
def jnX0_keep_49 (F : Nat) (x1 : Int32) (x2 : Int32) (r29 : Nat → Int32) (r30 : Nat → Int32) (r31 : Nat → Int32) : Option ((Nat → Int32) × (Nat → Int32) × (Nat → Int32)) := (if mj_ib (r29 0) 12 = true then (if mj_ib (r29 0) 12 = true then some ((upd r29 0 ((r29 0) + (1 : Int32))), (upd r30 ((r29 0).toNatClampNeg) x1), (upd r31 ((r29 0).toNatClampNeg) x2)) else none) else none)
def fnX0_keep (F : Nat) (r29 : Nat → Int32) (r30 : Nat → Int32) (r31 : Nat → Int32) (x1 : Int32) (x2 : Int32) : Option ((Nat → Int32) × (Nat → Int32) × (Nat → Int32)) := (if (r29 0) = (12 : Int32) then (if mj_cpk (1 : Int32) (0 : Int32) (11 : Int32) 12 12 = true then (if mj_cpk (1 : Int32) (0 : Int32) (11 : Int32) 12 12 = true then jnX0_keep_49 F x1 x2 (upd r29 0 ((r29 0) - (1 : Int32))) (va_cpy r30 r30 (1 : Int32).toNatClampNeg (0 : Int32).toNatClampNeg (11 : Int32).toNatClampNeg) (va_cpy r31 r31 (1 : Int32).toNatClampNeg (0 : Int32).toNatClampNeg (11 : Int32).toNatClampNeg) else none) else none) else jnX0_keep_49 F x1 x2 r29 r30 r31)
set_option maxRecDepth 100000 in
set_option maxHeartbeats 4000000 in
theorem jtX0_keep_49 {X : mj_XT} {l : Launch} {G : mj_GT} {ad : Nat → Nat} {Qn : Option Value → mj_IT → mj_LT → Prop} (hR : mj_R X l G mj_P0 mj_S0 98 ad 0 0 Qn) (F : Nat) (I : mj_IT) (L : mj_LT) (r29 : Nat → Int32) (r30 : Nat → Int32) (r31 : Nat → Int32) (x1 : Int32) (x2 : Int32) (o : ((Nat → Int32) × (Nat → Int32) × (Nat → Int32))) (hf : jnX0_keep_49 F x1 x2 r29 r30 r31 = some o) (hq : (mj_u2 (fun r29 => (mj_u2 (fun r30 r31 => Qn none (mj_rows I [(29, r29), (30, r30), (31, r31)]) L)))) o) : mj_W X G RX0 "keep" cX0_keep 3 3 none mj_P0 mj_S0 98 ad 0 0 49 [(0, .ref 29), (1, .int x1), (2, .int x2)] [] (mj_rows I [(29, r29), (30, r30), (31, r31)]) L := by
  unfold jnX0_keep_49 at hf
  refine mj_aload_n 0 dX0_keep_49 rfl ?_
  refine mj_getP p0_29_1 (by decide) fl_X0_9 rfl s0_29 a0_29 dX0_keep_50 ?_
  refine mj_aload_n 0 dX0_keep_53 rfl ?_
  refine mj_getIv (v := (r29 0)) rfl fl_X0_18 rfl s0_29 a0_29 dX0_keep_54 ?_
  refine mj_iload_n 1 dX0_keep_57 rfl ?_
  obtain ⟨z1, hf⟩ := mj_ck hf
  refine mj_iastr [(29, r29), (30, (upd r30 ((r29 0).toNatClampNeg) x1)), (31, r31)] rfl s0_30 a0_30 z1 dX0_keep_58 ?_
  refine mj_aload_n 0 dX0_keep_59 rfl ?_
  refine mj_getP p0_29_2 (by decide) fl_X0_15 rfl s0_29 a0_29 dX0_keep_60 ?_
  refine mj_aload_n 0 dX0_keep_63 rfl ?_
  refine mj_getIv (v := (r29 0)) rfl fl_X0_18 rfl s0_29 a0_29 dX0_keep_64 ?_
  refine mj_iload_n 2 dX0_keep_67 rfl ?_
  obtain ⟨z2, hf⟩ := mj_ck hf
  refine mj_iastr [(29, r29), (30, (upd r30 ((r29 0).toNatClampNeg) x1)), (31, (upd r31 ((r29 0).toNatClampNeg) x2))] rfl s0_31 a0_31 z2 dX0_keep_68 ?_
  refine mj_aload_n 0 dX0_keep_69 rfl ?_
  refine mj_dup dX0_keep_70 rfl ?_
  refine mj_getIv (v := (r29 0)) rfl fl_X0_18 rfl s0_29 a0_29 dX0_keep_71 ?_
  refine mj_iconst dX0_keep_74 kc_iconst_1 ?_
  refine mj_iadd dX0_keep_75 ?_
  refine mj_putIr (ci := 0) (j := 0) [(29, (upd r29 0 ((r29 0) + (1 : Int32)))), (30, (upd r30 ((r29 0).toNatClampNeg) x1)), (31, (upd r31 ((r29 0).toNatClampNeg) x2))] rfl ⟨rfl, rfl⟩ fl_X0_18 rfl rfl s0_29 a0_29 dX0_keep_76 ?_
  obtain rfl := Option.some.inj hf
  have hZ := hq
  replace hZ := mj_u2p hZ
  replace hZ := mj_u2p hZ
  exact mj_vret hR ⟨Nat.le_refl _, Nat.le_refl _⟩ rfl dX0_keep_79 hZ
set_option maxRecDepth 100000 in
set_option maxHeartbeats 4000000 in
theorem mtX0_keep {X : mj_XT} {l : Launch} {G : mj_GT} {ad : Nat → Nat} {Qn : Option Value → mj_IT → mj_LT → Prop} (hR : mj_R X l G mj_P0 mj_S0 98 ad 0 0 Qn) (F : Nat) (I : mj_IT) (L : mj_LT) (r29 : Nat → Int32) (r30 : Nat → Int32) (r31 : Nat → Int32) (x1 : Int32) (x2 : Int32) (o : ((Nat → Int32) × (Nat → Int32) × (Nat → Int32))) (hf : fnX0_keep F r29 r30 r31 x1 x2 = some o) (hq : (mj_u2 (fun r29 => (mj_u2 (fun r30 r31 => Qn none (mj_rows I [(29, r29), (30, r30), (31, r31)]) L)))) o) : mj_W X G RX0 "keep" cX0_keep 3 3 none mj_P0 mj_S0 98 ad 0 0 0 [(0, .ref 29), (1, .int x1), (2, .int x2)] [] (mj_rows I [(29, r29), (30, r30), (31, r31)]) L := by
  unfold fnX0_keep at hf
  refine mj_aload_n 0 dX0_keep_0 rfl ?_
  refine mj_getIv (v := (r29 0)) rfl fl_X0_18 rfl s0_29 a0_29 dX0_keep_1 ?_
  refine mj_bipush dX0_keep_4 kc_bipush_12 ?_
  refine mj_icmp_ne 49 dX0_keep_6 (by decide) (fun c3 => ?_) (fun c3 => ?_)
  · replace hf := mj_neg c3 hf
    exact jtX0_keep_49 hR F I L r29 r30 r31 x1 x2 o hf hq
  · replace hf := mj_pos c3 hf
    refine mj_aload_n 0 dX0_keep_9 rfl ?_
    refine mj_getP p0_29_1 (by decide) fl_X0_9 rfl s0_29 a0_29 dX0_keep_10 ?_
    refine mj_iconst dX0_keep_13 kc_iconst_1 ?_
    refine mj_aload_n 0 dX0_keep_14 rfl ?_
    refine mj_getP p0_29_1 (by decide) fl_X0_9 rfl s0_29 a0_29 dX0_keep_15 ?_
    refine mj_iconst dX0_keep_18 kc_iconst_0 ?_
    refine mj_bipush dX0_keep_19 kc_bipush_11 ?_
    obtain ⟨z4, hf⟩ := mj_ck hf
    refine mj_acopy [(29, r29), (30, (va_cpy r30 r30 (1 : Int32).toNatClampNeg (0 : Int32).toNatClampNeg (11 : Int32).toNatClampNeg)), (31, r31)] rfl s0_30 a0_30 s0_30 a0_30 z4 ac_X0_22 (by decide) (Nat.le_of_ble_eq_true rfl) dX0_keep_21 ?_
    refine mj_aload_n 0 dX0_keep_24 rfl ?_
    refine mj_getP p0_29_2 (by decide) fl_X0_15 rfl s0_29 a0_29 dX0_keep_25 ?_
    refine mj_iconst dX0_keep_28 kc_iconst_1 ?_
    refine mj_aload_n 0 dX0_keep_29 rfl ?_
    refine mj_getP p0_29_2 (by decide) fl_X0_15 rfl s0_29 a0_29 dX0_keep_30 ?_
    refine mj_iconst dX0_keep_33 kc_iconst_0 ?_
    refine mj_bipush dX0_keep_34 kc_bipush_11 ?_
    obtain ⟨z5, hf⟩ := mj_ck hf
    refine mj_acopy [(29, r29), (30, (va_cpy r30 r30 (1 : Int32).toNatClampNeg (0 : Int32).toNatClampNeg (11 : Int32).toNatClampNeg)), (31, (va_cpy r31 r31 (1 : Int32).toNatClampNeg (0 : Int32).toNatClampNeg (11 : Int32).toNatClampNeg))] rfl s0_31 a0_31 s0_31 a0_31 z5 ac_X0_22 (by decide) (Nat.le_of_ble_eq_true rfl) dX0_keep_36 ?_
    refine mj_aload_n 0 dX0_keep_39 rfl ?_
    refine mj_dup dX0_keep_40 rfl ?_
    refine mj_getIv (v := (r29 0)) rfl fl_X0_18 rfl s0_29 a0_29 dX0_keep_41 ?_
    refine mj_iconst dX0_keep_44 kc_iconst_1 ?_
    refine mj_isub dX0_keep_45 ?_
    refine mj_putIr (ci := 0) (j := 0) [(29, (upd r29 0 ((r29 0) - (1 : Int32)))), (30, (va_cpy r30 r30 (1 : Int32).toNatClampNeg (0 : Int32).toNatClampNeg (11 : Int32).toNatClampNeg)), (31, (va_cpy r31 r31 (1 : Int32).toNatClampNeg (0 : Int32).toNatClampNeg (11 : Int32).toNatClampNeg))] rfl ⟨rfl, rfl⟩ fl_X0_18 rfl rfl s0_29 a0_29 dX0_keep_46 ?_
    exact jtX0_keep_49 hR F I L (upd r29 0 ((r29 0) - (1 : Int32))) (va_cpy r30 r30 (1 : Int32).toNatClampNeg (0 : Int32).toNatClampNeg (11 : Int32).toNatClampNeg) (va_cpy r31 r31 (1 : Int32).toNatClampNeg (0 : Int32).toNatClampNeg (11 : Int32).toNatClampNeg) x1 x2 o hf hq
set_option maxRecDepth 100000 in
set_option maxHeartbeats 4000000 in
theorem cmX0_keep (l : Launch) (G : mj_GT) (F : Nat) (x1 : Int32) (x2 : Int32) (I : mj_IT) (L : mj_LT) (r29 : Nat → Int32) (r30 : Nat → Int32) (r31 : Nat → Int32) (hr29 : I 29 = r29) (hr30 : I 30 = r30) (hr31 : I 31 = r31) (o : ((Nat → Int32) × (Nat → Int32) × (Nat → Int32))) (hf : fnX0_keep F r29 r30 r31 x1 x2 = some o) : mj_M l G yX0_keep cX0_keep 3 3 none 0 0 mj_P0 mj_S0 98 [.ref 29, .int x1, .int x2] I L (mj_qd none (mj_rows I [(29, o.1), (30, o.2.1), (31, o.2.2)]) L) := by
  refine mj_in RX0 "keep" [(0, .ref 29), (1, .int x1), (2, .int x2)] rfl rfl rfl (by decide) (Nat.le_of_ble_eq_true rfl) (fun X ad hR => ?_)
  refine mj_toI [(29, r29), (30, r30), (31, r31)] (by intro q hq; simp only [List.mem_cons, List.not_mem_nil, or_false] at hq; rcases hq with rfl | rfl | rfl <;> assumption) ?_
  refine mtX0_keep hR F I L r29 r30 r31 x1 x2 o hf ?_
  obtain ⟨w0, w1, w2⟩ := o
  refine mj_u2q ?_
  refine mj_u2q ?_
  exact ⟨rfl, rfl, rfl⟩

-- X0_latestWhere
def fnX0_latestWhere (F : Nat) (r29 : Nat → Int32) (r30 : Nat → Int32) : Option ((Int32)) := (if (r29 0) ≤ 0 then some (0 : Int32) else (if mj_ib ((r29 0) - (1 : Int32)) 12 = true then some (r30 (((r29 0) - (1 : Int32)).toNatClampNeg)) else none))
set_option maxRecDepth 100000 in
set_option maxHeartbeats 4000000 in
theorem mtX0_latestWhere {X : mj_XT} {l : Launch} {G : mj_GT} {ad : Nat → Nat} {Qn : Option Value → mj_IT → mj_LT → Prop} (hR : mj_R X l G mj_P0 mj_S0 98 ad 0 0 Qn) (F : Nat) (I : mj_IT) (L : mj_LT) (r29 : Nat → Int32) (r30 : Nat → Int32) (o : ((Int32))) (hf : fnX0_latestWhere F r29 r30 = some o) (hq : (fun ov => Qn (some (.int ov)) (mj_rows I [(29, r29), (30, r30)]) L) o) : mj_W X G RX0 "latestWhere" cX0_latestWhere 1 1 (some .int) mj_P0 mj_S0 98 ad 0 0 0 [(0, .ref 29)] [] (mj_rows I [(29, r29), (30, r30)]) L := by
  unfold fnX0_latestWhere at hf
  refine mj_aload_n 0 dX0_latestWhere_0 rfl ?_
  refine mj_getIv (v := (r29 0)) rfl fl_X0_18 rfl s0_29 a0_29 dX0_latestWhere_1 ?_
  refine mj_if_le 21 dX0_latestWhere_4 (by decide) (fun c1 => ?_) (fun c1 => ?_)
  · replace hf := mj_pos c1 hf
    refine mj_iconst dX0_latestWhere_21 kc_iconst_0 ?_
    obtain rfl := Option.some.inj hf
    have hZ := hq
    exact mj_iret hR ⟨Nat.le_refl _, Nat.le_refl _⟩ rfl rfl dX0_latestWhere_22 hZ
  · replace hf := mj_neg c1 hf
    refine mj_aload_n 0 dX0_latestWhere_7 rfl ?_
    refine mj_getP p0_29_1 (by decide) fl_X0_9 rfl s0_29 a0_29 dX0_latestWhere_8 ?_
    refine mj_aload_n 0 dX0_latestWhere_11 rfl ?_
    refine mj_getIv (v := (r29 0)) rfl fl_X0_18 rfl s0_29 a0_29 dX0_latestWhere_12 ?_
    refine mj_iconst dX0_latestWhere_15 kc_iconst_1 ?_
    refine mj_isub dX0_latestWhere_16 ?_
    obtain ⟨z2, hf⟩ := mj_ck hf
    refine mj_ialdv (x := r30) rfl s0_30 a0_30 z2 dX0_latestWhere_17 ?_
    refine mj_goto 22 dX0_latestWhere_18 (by decide) ?_
    obtain rfl := Option.some.inj hf
    have hZ := hq
    exact mj_iret hR ⟨Nat.le_refl _, Nat.le_refl _⟩ rfl rfl dX0_latestWhere_22 hZ
set_option maxRecDepth 100000 in
set_option maxHeartbeats 4000000 in
theorem cmX0_latestWhere (l : Launch) (G : mj_GT) (F : Nat) (I : mj_IT) (L : mj_LT) (r29 : Nat → Int32) (r30 : Nat → Int32) (hr29 : I 29 = r29) (hr30 : I 30 = r30) (o : ((Int32))) (hf : fnX0_latestWhere F r29 r30 = some o) : mj_M l G yX0_latestWhere cX0_latestWhere 1 1 (some .int) 0 0 mj_P0 mj_S0 98 [.ref 29] I L (mj_qd (some (.int o)) (mj_rows I [(29, r29), (30, r30)]) L) := by
  refine mj_in RX0 "latestWhere" [(0, .ref 29)] rfl rfl rfl (by decide) (Nat.le_of_ble_eq_true rfl) (fun X ad hR => ?_)
  refine mj_toI [(29, r29), (30, r30)] (by intro q hq; simp only [List.mem_cons, List.not_mem_nil, or_false] at hq; rcases hq with rfl | rfl <;> assumption) ?_
  refine mtX0_latestWhere hR F I L r29 r30 o hf ?_
  exact ⟨rfl, rfl, rfl⟩

-- X0_latestWas
def fnX0_latestWas (F : Nat) (r29 : Nat → Int32) (r31 : Nat → Int32) : Option ((Int32)) := (if (r29 0) ≤ 0 then some (0 : Int32) else (if mj_ib ((r29 0) - (1 : Int32)) 12 = true then some (r31 (((r29 0) - (1 : Int32)).toNatClampNeg)) else none))
set_option maxRecDepth 100000 in
set_option maxHeartbeats 4000000 in
theorem mtX0_latestWas {X : mj_XT} {l : Launch} {G : mj_GT} {ad : Nat → Nat} {Qn : Option Value → mj_IT → mj_LT → Prop} (hR : mj_R X l G mj_P0 mj_S0 98 ad 0 0 Qn) (F : Nat) (I : mj_IT) (L : mj_LT) (r29 : Nat → Int32) (r31 : Nat → Int32) (o : ((Int32))) (hf : fnX0_latestWas F r29 r31 = some o) (hq : (fun ov => Qn (some (.int ov)) (mj_rows I [(29, r29), (31, r31)]) L) o) : mj_W X G RX0 "latestWas" cX0_latestWas 1 1 (some .int) mj_P0 mj_S0 98 ad 0 0 0 [(0, .ref 29)] [] (mj_rows I [(29, r29), (31, r31)]) L := by
  unfold fnX0_latestWas at hf
  refine mj_aload_n 0 dX0_latestWas_0 rfl ?_
  refine mj_getIv (v := (r29 0)) rfl fl_X0_18 rfl s0_29 a0_29 dX0_latestWas_1 ?_
  refine mj_if_le 21 dX0_latestWas_4 (by decide) (fun c1 => ?_) (fun c1 => ?_)
  · replace hf := mj_pos c1 hf
    refine mj_iconst dX0_latestWas_21 kc_iconst_0 ?_
    obtain rfl := Option.some.inj hf
    have hZ := hq
    exact mj_iret hR ⟨Nat.le_refl _, Nat.le_refl _⟩ rfl rfl dX0_latestWas_22 hZ
  · replace hf := mj_neg c1 hf
    refine mj_aload_n 0 dX0_latestWas_7 rfl ?_
    refine mj_getP p0_29_2 (by decide) fl_X0_15 rfl s0_29 a0_29 dX0_latestWas_8 ?_
    refine mj_aload_n 0 dX0_latestWas_11 rfl ?_
    refine mj_getIv (v := (r29 0)) rfl fl_X0_18 rfl s0_29 a0_29 dX0_latestWas_12 ?_
    refine mj_iconst dX0_latestWas_15 kc_iconst_1 ?_
    refine mj_isub dX0_latestWas_16 ?_
    obtain ⟨z2, hf⟩ := mj_ck hf
    refine mj_ialdv (x := r31) rfl s0_31 a0_31 z2 dX0_latestWas_17 ?_
    refine mj_goto 22 dX0_latestWas_18 (by decide) ?_
    obtain rfl := Option.some.inj hf
    have hZ := hq
    exact mj_iret hR ⟨Nat.le_refl _, Nat.le_refl _⟩ rfl rfl dX0_latestWas_22 hZ
set_option maxRecDepth 100000 in
set_option maxHeartbeats 4000000 in
theorem cmX0_latestWas (l : Launch) (G : mj_GT) (F : Nat) (I : mj_IT) (L : mj_LT) (r29 : Nat → Int32) (r31 : Nat → Int32) (hr29 : I 29 = r29) (hr31 : I 31 = r31) (o : ((Int32))) (hf : fnX0_latestWas F r29 r31 = some o) : mj_M l G yX0_latestWas cX0_latestWas 1 1 (some .int) 0 0 mj_P0 mj_S0 98 [.ref 29] I L (mj_qd (some (.int o)) (mj_rows I [(29, r29), (31, r31)]) L) := by
  refine mj_in RX0 "latestWas" [(0, .ref 29)] rfl rfl rfl (by decide) (Nat.le_of_ble_eq_true rfl) (fun X ad hR => ?_)
  refine mj_toI [(29, r29), (31, r31)] (by intro q hq; simp only [List.mem_cons, List.not_mem_nil, or_false] at hq; rcases hq with rfl | rfl <;> assumption) ?_
  refine mtX0_latestWas hR F I L r29 r31 o hf ?_
  exact ⟨rfl, rfl, rfl⟩

-- X0_drop
def fnX0_drop (F : Nat) (r29 : Nat → Int32) : Option ((Nat → Int32)) := (if (r29 0) ≤ 0 then some r29 else some (upd r29 0 ((r29 0) - (1 : Int32))))
set_option maxRecDepth 100000 in
set_option maxHeartbeats 4000000 in
theorem mtX0_drop {X : mj_XT} {l : Launch} {G : mj_GT} {ad : Nat → Nat} {Qn : Option Value → mj_IT → mj_LT → Prop} (hR : mj_R X l G mj_P0 mj_S0 98 ad 0 0 Qn) (F : Nat) (I : mj_IT) (L : mj_LT) (r29 : Nat → Int32) (o : ((Nat → Int32))) (hf : fnX0_drop F r29 = some o) (hq : (fun r29 => Qn none (mj_rows I [(29, r29)]) L) o) : mj_W X G RX0 "drop" cX0_drop 1 1 none mj_P0 mj_S0 98 ad 0 0 0 [(0, .ref 29)] [] (mj_rows I [(29, r29)]) L := by
  unfold fnX0_drop at hf
  refine mj_aload_n 0 dX0_drop_0 rfl ?_
  refine mj_getIv (v := (r29 0)) rfl fl_X0_18 rfl s0_29 a0_29 dX0_drop_1 ?_
  refine mj_if_le 17 dX0_drop_4 (by decide) (fun c1 => ?_) (fun c1 => ?_)
  · replace hf := mj_pos c1 hf
    obtain rfl := Option.some.inj hf
    have hZ := hq
    exact mj_vret hR ⟨Nat.le_refl _, Nat.le_refl _⟩ rfl dX0_drop_17 hZ
  · replace hf := mj_neg c1 hf
    refine mj_aload_n 0 dX0_drop_7 rfl ?_
    refine mj_dup dX0_drop_8 rfl ?_
    refine mj_getIv (v := (r29 0)) rfl fl_X0_18 rfl s0_29 a0_29 dX0_drop_9 ?_
    refine mj_iconst dX0_drop_12 kc_iconst_1 ?_
    refine mj_isub dX0_drop_13 ?_
    refine mj_putIr (ci := 0) (j := 0) [(29, (upd r29 0 ((r29 0) - (1 : Int32))))] rfl ⟨rfl, rfl⟩ fl_X0_18 rfl rfl s0_29 a0_29 dX0_drop_14 ?_
    obtain rfl := Option.some.inj hf
    have hZ := hq
    exact mj_vret hR ⟨Nat.le_refl _, Nat.le_refl _⟩ rfl dX0_drop_17 hZ
set_option maxRecDepth 100000 in
set_option maxHeartbeats 4000000 in
theorem cmX0_drop (l : Launch) (G : mj_GT) (F : Nat) (I : mj_IT) (L : mj_LT) (r29 : Nat → Int32) (hr29 : I 29 = r29) (o : ((Nat → Int32))) (hf : fnX0_drop F r29 = some o) : mj_M l G yX0_drop cX0_drop 1 1 none 0 0 mj_P0 mj_S0 98 [.ref 29] I L (mj_qd none (mj_rows I [(29, o)]) L) := by
  refine mj_in RX0 "drop" [(0, .ref 29)] rfl rfl rfl (by decide) (Nat.le_of_ble_eq_true rfl) (fun X ad hR => ?_)
  refine mj_toI [(29, r29)] (by intro q hq; simp only [List.mem_cons, List.not_mem_nil, or_false] at hq; rcases hq with rfl <;> assumption) ?_
  refine mtX0_drop hR F I L r29 o hf ?_
  exact ⟨rfl, rfl, rfl⟩

-- X0_clear
def fnX0_clear (F : Nat) (r29 : Nat → Int32) : Option ((Nat → Int32)) := some (upd r29 0 (0 : Int32))
set_option maxRecDepth 100000 in
set_option maxHeartbeats 4000000 in
theorem mtX0_clear {X : mj_XT} {l : Launch} {G : mj_GT} {ad : Nat → Nat} {Qn : Option Value → mj_IT → mj_LT → Prop} (hR : mj_R X l G mj_P0 mj_S0 98 ad 0 0 Qn) (F : Nat) (I : mj_IT) (L : mj_LT) (r29 : Nat → Int32) (o : ((Nat → Int32))) (hf : fnX0_clear F r29 = some o) (hq : (fun r29 => Qn none (mj_rows I [(29, r29)]) L) o) : mj_W X G RX0 "clear" cX0_clear 1 1 none mj_P0 mj_S0 98 ad 0 0 0 [(0, .ref 29)] [] (mj_rows I [(29, r29)]) L := by
  unfold fnX0_clear at hf
  refine mj_aload_n 0 dX0_clear_0 rfl ?_
  refine mj_iconst dX0_clear_1 kc_iconst_0 ?_
  refine mj_putIr (ci := 0) (j := 0) [(29, (upd r29 0 (0 : Int32)))] rfl ⟨rfl, rfl⟩ fl_X0_18 rfl rfl s0_29 a0_29 dX0_clear_2 ?_
  obtain rfl := Option.some.inj hf
  have hZ := hq
  exact mj_vret hR ⟨Nat.le_refl _, Nat.le_refl _⟩ rfl dX0_clear_5 hZ
set_option maxRecDepth 100000 in
set_option maxHeartbeats 4000000 in
theorem cmX0_clear (l : Launch) (G : mj_GT) (F : Nat) (I : mj_IT) (L : mj_LT) (r29 : Nat → Int32) (hr29 : I 29 = r29) (o : ((Nat → Int32))) (hf : fnX0_clear F r29 = some o) : mj_M l G yX0_clear cX0_clear 1 1 none 0 0 mj_P0 mj_S0 98 [.ref 29] I L (mj_qd none (mj_rows I [(29, o)]) L) := by
  refine mj_in RX0 "clear" [(0, .ref 29)] rfl rfl rfl (by decide) (Nat.le_of_ble_eq_true rfl) (fun X ad hR => ?_)
  refine mj_toI [(29, r29)] (by intro q hq; simp only [List.mem_cons, List.not_mem_nil, or_false] at hq; rcases hq with rfl <;> assumption) ?_
  refine mtX0_clear hR F I L r29 o hf ?_
  exact ⟨rfl, rfl, rfl⟩

-- X1_get
def fnX1_get (F : Nat) (x0 : Int32) (x1 : Int32) : Option ((Int32)) := (if x1 < 0 then some (0 : Int32) else (if (6 : Int32) ≤ x1 then some (0 : Int32) else (if mj_ib x1 6 = true then (if (mj_un x1.toNatClampNeg) = 0 then none else some ((x0 / (mj_un x1.toNatClampNeg)) - (x0 / (mj_un x1.toNatClampNeg)) / (10 : Int32) * (10 : Int32))) else none)))
set_option maxRecDepth 100000 in
set_option maxHeartbeats 4000000 in
theorem mtX1_get {X : mj_XT} {l : Launch} {G : mj_GT} {ad : Nat → Nat} {Qn : Option Value → mj_IT → mj_LT → Prop} (hR : mj_R X l G mj_P0 mj_S0 98 ad 0 0 Qn) (F : Nat) (I : mj_IT) (L : mj_LT) (x0 : Int32) (x1 : Int32) (o : ((Int32))) (hf : fnX1_get F x0 x1 = some o) (hq : (fun ov => Qn (some (.int ov)) I L) o) : mj_W X G RX1 "get" cX1_get 2 1 (some .int) mj_P0 mj_S0 98 ad 0 0 0 [(0, .int x0), (1, .int x1)] [] I L := by
  unfold fnX1_get at hf
  refine mj_iload_n 1 dX1_get_0 rfl ?_
  refine mj_if_lt 23 dX1_get_1 (by decide) (fun c1 => ?_) (fun c1 => ?_)
  · replace hf := mj_pos c1 hf
    refine mj_iconst dX1_get_23 kc_iconst_0 ?_
    obtain rfl := Option.some.inj hf
    have hZ := hq
    exact mj_iret hR ⟨Nat.le_refl _, Nat.le_refl _⟩ rfl rfl dX1_get_24 hZ
  · replace hf := mj_neg c1 hf
    refine mj_iload_n 1 dX1_get_4 rfl ?_
    refine mj_bipush dX1_get_5 kc_bipush_6 ?_
    refine mj_icmp_ge 23 dX1_get_7 (by decide) (fun c2 => ?_) (fun c2 => ?_)
    · replace hf := mj_pos c2 hf
      refine mj_iconst dX1_get_23 kc_iconst_0 ?_
      obtain rfl := Option.some.inj hf
      have hZ := hq
      exact mj_iret hR ⟨Nat.le_refl _, Nat.le_refl _⟩ rfl rfl dX1_get_24 hZ
    · replace hf := mj_neg c2 hf
      refine mj_iload_n 0 dX1_get_10 rfl ?_
      refine mj_units un_X1_9 dX1_get_11 ?_
      refine mj_iload_n 1 dX1_get_14 rfl ?_
      obtain ⟨z3, hf⟩ := mj_ck hf
      refine mj_uald (mj_ib_in z3) dX1_get_15 ?_
      obtain ⟨z4, hf⟩ := mj_nz hf
      refine mj_idiv dX1_get_16 z4 ?_
      refine mj_bipush dX1_get_17 kc_bipush_10 ?_
      refine mj_irem dX1_get_19 (by decide) ?_
      refine mj_goto 24 dX1_get_20 (by decide) ?_
      obtain rfl := Option.some.inj hf
      have hZ := hq
      exact mj_iret hR ⟨Nat.le_refl _, Nat.le_refl _⟩ rfl rfl dX1_get_24 hZ
set_option maxRecDepth 100000 in
set_option maxHeartbeats 4000000 in
theorem cmX1_get (l : Launch) (G : mj_GT) (F : Nat) (x0 : Int32) (x1 : Int32) (I : mj_IT) (L : mj_LT) (o : ((Int32))) (hf : fnX1_get F x0 x1 = some o) : mj_M l G yX1_get cX1_get 2 1 (some .int) 0 0 mj_P0 mj_S0 98 [.int x0, .int x1] I L (mj_qd (some (.int o)) I L) := by
  refine mj_in RX1 "get" [(0, .int x0), (1, .int x1)] rfl rfl rfl (by decide) (Nat.le_of_ble_eq_true rfl) (fun X ad hR => ?_)
  refine mtX1_get hR F I L x0 x1 o hf ?_
  exact ⟨rfl, rfl, rfl⟩

-- X1_put
def fnX1_put (F : Nat) (x0 : Int32) (x1 : Int32) (x2 : Int32) : Option ((Int32)) := (if x1 < 0 then some x0 else (if (6 : Int32) ≤ x1 then some x0 else (fnX1_get F x0 x1).bind (fun o3 => (if mj_ib x1 6 = true then some (x0 + ((x2 - o3) * (mj_un x1.toNatClampNeg))) else none))))
set_option maxRecDepth 100000 in
set_option maxHeartbeats 4000000 in
theorem mtX1_put {X : mj_XT} {l : Launch} {G : mj_GT} {ad : Nat → Nat} {Qn : Option Value → mj_IT → mj_LT → Prop} (hR : mj_R X l G mj_P0 mj_S0 98 ad 0 0 Qn) (F : Nat) (I : mj_IT) (L : mj_LT) (x0 : Int32) (x1 : Int32) (x2 : Int32) (o : ((Int32))) (hf : fnX1_put F x0 x1 x2 = some o) (hq : (fun ov => Qn (some (.int ov)) I L) o) : mj_W X G RX1 "put" cX1_put 3 2 (some .int) mj_P0 mj_S0 98 ad 0 0 0 [(0, .int x0), (1, .int x1), (2, .int x2)] [] I L := by
  unfold fnX1_put at hf
  refine mj_iload_n 1 dX1_put_0 rfl ?_
  refine mj_if_lt 28 dX1_put_1 (by decide) (fun c1 => ?_) (fun c1 => ?_)
  · replace hf := mj_pos c1 hf
    refine mj_iload_n 0 dX1_put_28 rfl ?_
    obtain rfl := Option.some.inj hf
    have hZ := hq
    exact mj_iret hR ⟨Nat.le_refl _, Nat.le_refl _⟩ rfl rfl dX1_put_29 hZ
  · replace hf := mj_neg c1 hf
    refine mj_iload_n 1 dX1_put_4 rfl ?_
    refine mj_bipush dX1_put_5 kc_bipush_6 ?_
    refine mj_icmp_ge 28 dX1_put_7 (by decide) (fun c2 => ?_) (fun c2 => ?_)
    · replace hf := mj_pos c2 hf
      refine mj_iload_n 0 dX1_put_28 rfl ?_
      obtain rfl := Option.some.inj hf
      have hZ := hq
      exact mj_iret hR ⟨Nat.le_refl _, Nat.le_refl _⟩ rfl rfl dX1_put_29 hZ
    · replace hf := mj_neg c2 hf
      refine mj_iload_n 0 dX1_put_10 rfl ?_
      refine mj_iload_n 2 dX1_put_11 rfl ?_
      refine mj_iload_n 0 dX1_put_12 rfl ?_
      refine mj_iload_n 1 dX1_put_13 rfl ?_
      obtain ⟨o3, ho3, hf⟩ := mj_bd hf
      refine mj_callSd (I2 := I) (L2 := L) (s1 := [.int o3, .int x2, .int x0]) (st := [.int x2, .int x0]) [.int x0, .int x1] (cmX1_get X.2.1 G F x0 x1 _ _   o3 ho3) rfl rfl cw_X1_15 (by decide) rfl rfl (Nat.le_of_ble_eq_true rfl) ⟨Nat.zero_le _, Nat.zero_le _⟩ dX1_put_14 rfl ?_
      refine mj_isub dX1_put_17 ?_
      refine mj_units un_X1_9 dX1_put_18 ?_
      refine mj_iload_n 1 dX1_put_21 rfl ?_
      obtain ⟨z4, hf⟩ := mj_ck hf
      refine mj_uald (mj_ib_in z4) dX1_put_22 ?_
      refine mj_imul dX1_put_23 ?_
      refine mj_iadd dX1_put_24 ?_
      refine mj_goto 29 dX1_put_25 (by decide) ?_
      obtain rfl := Option.some.inj hf
      have hZ := hq
      exact mj_iret hR ⟨Nat.le_refl _, Nat.le_refl _⟩ rfl rfl dX1_put_29 hZ
set_option maxRecDepth 100000 in
set_option maxHeartbeats 4000000 in
theorem cmX1_put (l : Launch) (G : mj_GT) (F : Nat) (x0 : Int32) (x1 : Int32) (x2 : Int32) (I : mj_IT) (L : mj_LT) (o : ((Int32))) (hf : fnX1_put F x0 x1 x2 = some o) : mj_M l G yX1_put cX1_put 3 2 (some .int) 0 0 mj_P0 mj_S0 98 [.int x0, .int x1, .int x2] I L (mj_qd (some (.int o)) I L) := by
  refine mj_in RX1 "put" [(0, .int x0), (1, .int x1), (2, .int x2)] rfl rfl rfl (by decide) (Nat.le_of_ble_eq_true rfl) (fun X ad hR => ?_)
  refine mtX1_put hR F I L x0 x1 x2 o hf ?_
  exact ⟨rfl, rfl, rfl⟩

-- X4_arcsOf
def fnX4_arcsOf (F : Nat) (r37 : Nat → Int32) (x1 : Int32) : Option ((Int32)) := (if mj_ib (x1 + (1 : Int32)) 201 = true then (if mj_ib x1 201 = true then some ((r37 ((x1 + (1 : Int32)).toNatClampNeg)) - (r37 x1.toNatClampNeg)) else none) else none)
set_option maxRecDepth 100000 in
set_option maxHeartbeats 4000000 in
theorem mtX4_arcsOf {X : mj_XT} {l : Launch} {G : mj_GT} {ad : Nat → Nat} {Qn : Option Value → mj_IT → mj_LT → Prop} (hR : mj_R X l G mj_P0 mj_S0 98 ad 0 0 Qn) (F : Nat) (I : mj_IT) (L : mj_LT) (r37 : Nat → Int32) (x1 : Int32) (o : ((Int32))) (hf : fnX4_arcsOf F r37 x1 = some o) (hq : (fun ov => Qn (some (.int ov)) (mj_rows I [(37, r37)]) L) o) : mj_W X G RX4 "arcsOf" cX4_arcsOf 2 1 (some .int) mj_P0 mj_S0 98 ad 0 0 0 [(0, .ref 32), (1, .int x1)] [] (mj_rows I [(37, r37)]) L := by
  unfold fnX4_arcsOf at hf
  refine mj_aload_n 0 dX4_arcsOf_0 rfl ?_
  refine mj_getP p0_32_12 (by decide) fl_X4_25 rfl s0_32 a0_32 dX4_arcsOf_1 ?_
  refine mj_iload_n 1 dX4_arcsOf_4 rfl ?_
  refine mj_iconst dX4_arcsOf_5 kc_iconst_1 ?_
  refine mj_iadd dX4_arcsOf_6 ?_
  obtain ⟨z1, hf⟩ := mj_ck hf
  refine mj_ialdv (x := r37) rfl s0_37 a0_37 z1 dX4_arcsOf_7 ?_
  refine mj_aload_n 0 dX4_arcsOf_8 rfl ?_
  refine mj_getP p0_32_12 (by decide) fl_X4_25 rfl s0_32 a0_32 dX4_arcsOf_9 ?_
  refine mj_iload_n 1 dX4_arcsOf_12 rfl ?_
  obtain ⟨z2, hf⟩ := mj_ck hf
  refine mj_ialdv (x := r37) rfl s0_37 a0_37 z2 dX4_arcsOf_13 ?_
  refine mj_isub dX4_arcsOf_14 ?_
  obtain rfl := Option.some.inj hf
  have hZ := hq
  exact mj_iret hR ⟨Nat.le_refl _, Nat.le_refl _⟩ rfl rfl dX4_arcsOf_15 hZ
set_option maxRecDepth 100000 in
set_option maxHeartbeats 4000000 in
theorem cmX4_arcsOf (l : Launch) (G : mj_GT) (F : Nat) (x1 : Int32) (I : mj_IT) (L : mj_LT) (r37 : Nat → Int32) (hr37 : I 37 = r37) (o : ((Int32))) (hf : fnX4_arcsOf F r37 x1 = some o) : mj_M l G yX4_arcsOf cX4_arcsOf 2 1 (some .int) 0 0 mj_P0 mj_S0 98 [.ref 32, .int x1] I L (mj_qd (some (.int o)) (mj_rows I [(37, r37)]) L) := by
  refine mj_in RX4 "arcsOf" [(0, .ref 32), (1, .int x1)] rfl rfl rfl (by decide) (Nat.le_of_ble_eq_true rfl) (fun X ad hR => ?_)
  refine mj_toI [(37, r37)] (by intro q hq; simp only [List.mem_cons, List.not_mem_nil, or_false] at hq; rcases hq with rfl <;> assumption) ?_
  refine mtX4_arcsOf hR F I L r37 x1 o hf ?_
  exact ⟨rfl, rfl, rfl⟩

-- J7_rangeCheck_23922
def fnJ7_rangeCheck_23922 (F : Nat) (x0 : Int32) (x1 : Int32) (x2 : Int32) : Option Unit := (if x1 ≤ x2 then (if 0 ≤ x1 then (if x2 ≤ x0 then some () else none) else none) else none)
set_option maxRecDepth 100000 in
set_option maxHeartbeats 4000000 in
theorem mtJ7_rangeCheck_23922 {X : mj_XT} {l : Launch} {G : mj_GT} {ad : Nat → Nat} {Qn : Option Value → mj_IT → mj_LT → Prop} (hR : mj_R X l G mj_P0 mj_S0 98 ad 0 0 Qn) (F : Nat) (I : mj_IT) (L : mj_LT) (x0 : Int32) (x1 : Int32) (x2 : Int32) (o : Unit) (hf : fnJ7_rangeCheck_23922 F x0 x1 x2 = some o) (hq : (fun _ => Qn none I L) o) : mj_W X G RJ7 "rangeCheck" cJ7_rangeCheck_23922 3 1 none mj_P0 mj_S0 98 ad 0 0 0 [(0, .int x0), (1, .int x1), (2, .int x2)] [] I L := by
  unfold fnJ7_rangeCheck_23922 at hf
  refine mj_iload_n 1 dJ7_rangeCheck_23922_0 rfl ?_
  refine mj_iload_n 2 dJ7_rangeCheck_23922_1 rfl ?_
  refine mj_icmp_le 46 dJ7_rangeCheck_23922_2 (by decide) (fun c1 => ?_) (fun c1 => ?_)
  · replace hf := mj_pos c1 hf
    refine mj_iload_n 1 dJ7_rangeCheck_23922_46 rfl ?_
    refine mj_if_ge 59 dJ7_rangeCheck_23922_47 (by decide) (fun c2 => ?_) (fun c2 => ?_)
    · replace hf := mj_pos c2 hf
      refine mj_iload_n 2 dJ7_rangeCheck_23922_59 rfl ?_
      refine mj_iload_n 0 dJ7_rangeCheck_23922_60 rfl ?_
      refine mj_icmp_le 73 dJ7_rangeCheck_23922_61 (by decide) (fun c3 => ?_) (fun c3 => ?_)
      · replace hf := mj_pos c3 hf
        obtain rfl := Option.some.inj hf
        have hZ := hq
        exact mj_vret hR ⟨Nat.le_refl _, Nat.le_refl _⟩ rfl dJ7_rangeCheck_23922_73 hZ
      · replace hf := mj_neg c3 hf
        exact absurd hf (by simp)
    · replace hf := mj_neg c2 hf
      exact absurd hf (by simp)
  · replace hf := mj_neg c1 hf
    exact absurd hf (by simp)
set_option maxRecDepth 100000 in
set_option maxHeartbeats 4000000 in
theorem cmJ7_rangeCheck_23922 (l : Launch) (G : mj_GT) (F : Nat) (x0 : Int32) (x1 : Int32) (x2 : Int32) (I : mj_IT) (L : mj_LT) (o : Unit) (hf : fnJ7_rangeCheck_23922 F x0 x1 x2 = some o) : mj_M l G yJ7_rangeCheck_23922 cJ7_rangeCheck_23922 3 1 none 0 0 mj_P0 mj_S0 98 [.int x0, .int x1, .int x2] I L (mj_qd none I L) := by
  refine mj_in RJ7 "rangeCheck" [(0, .int x0), (1, .int x1), (2, .int x2)] rfl rfl rfl (by decide) (Nat.le_of_ble_eq_true rfl) (fun X ad hR => ?_)
  refine mtJ7_rangeCheck_23922 hR F I L x0 x1 x2 o hf ?_
  exact ⟨rfl, rfl, rfl⟩

-- J7_fill_fda19
def bdJ7_fill_fda19_10 (F : Nat) (x2 : Int32) (x3 : Int32) (x4 : Int32) (r50 : Nat → Int32) : Option (((Int32) × (Nat → Int32)) ⊕ ((Nat → Int32))) := (if x2 ≤ x4 then some (.inr r50) else (if mj_ib x4 40200 = true then some (.inl ((x4 + (1)), (upd r50 x4.toNatClampNeg x3))) else none))
def fnJ7_fill_fda19 (F : Nat) (r50 : Nat → Int32) (x1 : Int32) (x2 : Int32) (x3 : Int32) : Option ((Nat → Int32)) := (fnJ7_rangeCheck_23922 F (40200 : Int32) x1 x2).bind (fun o3 => (mj_it (mj_u2 (fun z0 z1 => bdJ7_fill_fda19_10 F x2 x3 z0 z1)) F (x1, r50)).bind (fun r50_4 => some r50_4))
set_option maxRecDepth 100000 in
set_option maxHeartbeats 4000000 in
theorem lpJ7_fill_fda19_10 {X : mj_XT} {l : Launch} {G : mj_GT} {ad : Nat → Nat} {Qn : Option Value → mj_IT → mj_LT → Prop} (hR : mj_R X l G mj_P0 mj_S0 98 ad 0 0 Qn) (F : Nat) (I : mj_IT) (L : mj_LT) (r50 : Nat → Int32) (x2 : Int32) (x3 : Int32) : ∀ (n : Nat) (s : ((Int32) × (Nat → Int32))) (e : ((Nat → Int32))), mj_it (mj_u2 (fun z0 z1 => bdJ7_fill_fda19_10 F x2 x3 z0 z1)) n s = some e → (fun r50 => mj_W X G RJ7 "fill" cJ7_fill_fda19 5 2 none mj_P0 mj_S0 98 ad 0 0 27 [] [] (mj_rows I [(50, r50)]) L) e → (mj_u2 (fun x4 r50 => mj_W X G RJ7 "fill" cJ7_fill_fda19 5 2 none mj_P0 mj_S0 98 ad 0 0 10 [(0, .ref 50), (2, .int x2), (3, .int x3), (4, .int x4)] [] (mj_rows I [(50, r50)]) L)) s := by
  refine mj_loop (fun s o hf hc hx => ?_)
  obtain ⟨x4, r50⟩ := s
  replace hf := mj_u2e hf
  refine mj_u2q ?_
  unfold bdJ7_fill_fda19_10 at hf
  refine mj_iload 3 dJ7_fill_fda19_10 rfl ?_
  refine mj_iload_n 1 dJ7_fill_fda19_12 rfl ?_
  refine mj_icmp_ge 27 dJ7_fill_fda19_13 (by decide) (fun c1 => ?_) (fun c1 => ?_)
  · replace hf := mj_pos c1 hf
    refine mj_sub [] [] rfl ?_
    obtain rfl := Option.some.inj hf
    have hZ := hx r50 rfl
    exact hZ
  · replace hf := mj_neg c1 hf
    refine mj_aload_n 0 dJ7_fill_fda19_16 rfl ?_
    refine mj_iload 3 dJ7_fill_fda19_17 rfl ?_
    refine mj_iload_n 2 dJ7_fill_fda19_19 rfl ?_
    obtain ⟨z2, hf⟩ := mj_ck hf
    refine mj_iastr [(50, (upd r50 x4.toNatClampNeg x3))] rfl s0_50 a0_50 z2 dJ7_fill_fda19_20 ?_
    refine mj_iinc 3 [(4, .int (x4 + (1))), (0, .ref 50), (2, .int x2), (3, .int x3)] dJ7_fill_fda19_21 rfl (kz_1 _) (by decide) rfl ?_
    refine mj_goto 10 dJ7_fill_fda19_24 (by decide) ?_
    refine mj_sub [1, 2, 3, 0] [(0, .ref 50), (2, .int x2), (3, .int x3), (4, .int (x4 + (1)))] rfl ?_
    obtain rfl := Option.some.inj hf
    have hZ := hc ((x4 + (1)), (upd r50 x4.toNatClampNeg x3)) rfl
    replace hZ := mj_u2p hZ
    exact hZ
set_option maxRecDepth 100000 in
set_option maxHeartbeats 4000000 in
theorem mtJ7_fill_fda19 {X : mj_XT} {l : Launch} {G : mj_GT} {ad : Nat → Nat} {Qn : Option Value → mj_IT → mj_LT → Prop} (hR : mj_R X l G mj_P0 mj_S0 98 ad 0 0 Qn) (F : Nat) (I : mj_IT) (L : mj_LT) (r50 : Nat → Int32) (x1 : Int32) (x2 : Int32) (x3 : Int32) (o : ((Nat → Int32))) (hf : fnJ7_fill_fda19 F r50 x1 x2 x3 = some o) (hq : (fun r50 => Qn none (mj_rows I [(50, r50)]) L) o) : mj_W X G RJ7 "fill" cJ7_fill_fda19 5 2 none mj_P0 mj_S0 98 ad 0 0 0 [(0, .ref 50), (1, .int x1), (2, .int x2), (3, .int x3)] [] (mj_rows I [(50, r50)]) L := by
  unfold fnJ7_fill_fda19 at hf
  refine mj_aload_n 0 dJ7_fill_fda19_0 rfl ?_
  refine mj_alen (v := 40200) s0_50 (by decide) a0_50 (by decide +kernel) dJ7_fill_fda19_1 ?_
  refine mj_iload_n 1 dJ7_fill_fda19_2 rfl ?_
  refine mj_iload_n 2 dJ7_fill_fda19_3 rfl ?_
  obtain ⟨o3, ho3, hf⟩ := mj_bd hf
  refine mj_callSd (I2 := (mj_rows I [(50, r50)])) (L2 := L) (s1 := []) (st := []) [.int (40200 : Int32), .int x1, .int x2] (cmJ7_rangeCheck_23922 X.2.1 G F (40200 : Int32) x1 x2 _ _   o3 ho3) rfl rfl cw_J7_13 (by decide) rfl rfl (Nat.le_of_ble_eq_true rfl) ⟨Nat.zero_le _, Nat.zero_le _⟩ dJ7_fill_fda19_4 rfl ?_
  refine mj_iload_n 1 dJ7_fill_fda19_7 rfl ?_
  refine mj_istore [(4, .int x1), (0, .ref 50), (1, .int x1), (2, .int x2), (3, .int x3)] dJ7_fill_fda19_8 (by decide) rfl ?_
  refine mj_sub [1, 3, 4, 0] [(0, .ref 50), (2, .int x2), (3, .int x3), (4, .int x1)] rfl ?_
  obtain ⟨r50_4, ho4, hf⟩ := mj_bd hf
  refine lpJ7_fill_fda19_10 hR F I L r50 x2 x3 F (x1, r50) r50_4 ho4 ?_
  refine ?_
  obtain rfl := Option.some.inj hf
  have hZ := hq
  exact mj_vret hR ⟨Nat.le_refl _, Nat.le_refl _⟩ rfl dJ7_fill_fda19_27 hZ
set_option maxRecDepth 100000 in
set_option maxHeartbeats 4000000 in
theorem cmJ7_fill_fda19 (l : Launch) (G : mj_GT) (F : Nat) (x1 : Int32) (x2 : Int32) (x3 : Int32) (I : mj_IT) (L : mj_LT) (r50 : Nat → Int32) (hr50 : I 50 = r50) (o : ((Nat → Int32))) (hf : fnJ7_fill_fda19 F r50 x1 x2 x3 = some o) : mj_M l G yJ7_fill_fda19 cJ7_fill_fda19 5 2 none 0 0 mj_P0 mj_S0 98 [.ref 50, .int x1, .int x2, .int x3] I L (mj_qd none (mj_rows I [(50, o)]) L) := by
  refine mj_in RJ7 "fill" [(0, .ref 50), (1, .int x1), (2, .int x2), (3, .int x3)] rfl rfl rfl (by decide) (Nat.le_of_ble_eq_true rfl) (fun X ad hR => ?_)
  refine mj_toI [(50, r50)] (by intro q hq; simp only [List.mem_cons, List.not_mem_nil, or_false] at hq; rcases hq with rfl <;> assumption) ?_
  refine mtJ7_fill_fda19 hR F I L r50 x1 x2 x3 o hf ?_
  exact ⟨rfl, rfl, rfl⟩

-- X3_plus
def fnX3_plus (F : Nat) (x0 : Int32) (x1 : Int32) : Option ((Int32)) := (if (x0 + x1) < (998244353 : Int32) then some (x0 + x1) else some ((x0 + x1) - (998244353 : Int32)))
set_option maxRecDepth 100000 in
set_option maxHeartbeats 4000000 in
theorem mtX3_plus {X : mj_XT} {l : Launch} {G : mj_GT} {ad : Nat → Nat} {Qn : Option Value → mj_IT → mj_LT → Prop} (hR : mj_R X l G mj_P0 mj_S0 98 ad 0 0 Qn) (F : Nat) (I : mj_IT) (L : mj_LT) (x0 : Int32) (x1 : Int32) (o : ((Int32))) (hf : fnX3_plus F x0 x1 = some o) (hq : (fun ov => Qn (some (.int ov)) I L) o) : mj_W X G RX3 "plus" cX3_plus 3 1 (some .int) mj_P0 mj_S0 98 ad 0 0 0 [(0, .int x0), (1, .int x1)] [] I L := by
  unfold fnX3_plus at hf
  refine mj_iload_n 0 dX3_plus_0 rfl ?_
  refine mj_iload_n 1 dX3_plus_1 rfl ?_
  refine mj_iadd dX3_plus_2 ?_
  refine mj_istore_n [(2, .int (x0 + x1)), (0, .int x0), (1, .int x1)] dX3_plus_3 rfl (by decide) rfl ?_
  refine mj_iload_n 0 dX3_plus_4 rfl ?_
  refine mj_ldc kk_X3_11 dX3_plus_5 ?_
  refine mj_icmp_lt 17 dX3_plus_7 (by decide) (fun c1 => ?_) (fun c1 => ?_)
  · replace hf := mj_pos c1 hf
    refine mj_iload_n 0 dX3_plus_17 rfl ?_
    obtain rfl := Option.some.inj hf
    have hZ := hq
    exact mj_iret hR ⟨Nat.le_refl _, Nat.le_refl _⟩ rfl rfl dX3_plus_18 hZ
  · replace hf := mj_neg c1 hf
    refine mj_iload_n 0 dX3_plus_10 rfl ?_
    refine mj_ldc kk_X3_11 dX3_plus_11 ?_
    refine mj_isub dX3_plus_13 ?_
    refine mj_goto 18 dX3_plus_14 (by decide) ?_
    obtain rfl := Option.some.inj hf
    have hZ := hq
    exact mj_iret hR ⟨Nat.le_refl _, Nat.le_refl _⟩ rfl rfl dX3_plus_18 hZ
set_option maxRecDepth 100000 in
set_option maxHeartbeats 4000000 in
theorem cmX3_plus (l : Launch) (G : mj_GT) (F : Nat) (x0 : Int32) (x1 : Int32) (I : mj_IT) (L : mj_LT) (o : ((Int32))) (hf : fnX3_plus F x0 x1 = some o) : mj_M l G yX3_plus cX3_plus 3 1 (some .int) 0 0 mj_P0 mj_S0 98 [.int x0, .int x1] I L (mj_qd (some (.int o)) I L) := by
  refine mj_in RX3 "plus" [(0, .int x0), (1, .int x1)] rfl rfl rfl (by decide) (Nat.le_of_ble_eq_true rfl) (fun X ad hR => ?_)
  refine mtX3_plus hR F I L x0 x1 o hf ?_
  exact ⟨rfl, rfl, rfl⟩

-- X3_times
def fnX3_times (F : Nat) (x0 : Int32) (x1 : Int32) : Option ((Int32)) := some (((x0.toInt64 * x1.toInt64) - (x0.toInt64 * x1.toInt64) / (998244353 : Int64) * (998244353 : Int64)).toInt32)
set_option maxRecDepth 100000 in
set_option maxHeartbeats 4000000 in
theorem mtX3_times {X : mj_XT} {l : Launch} {G : mj_GT} {ad : Nat → Nat} {Qn : Option Value → mj_IT → mj_LT → Prop} (hR : mj_R X l G mj_P0 mj_S0 98 ad 0 0 Qn) (F : Nat) (I : mj_IT) (L : mj_LT) (x0 : Int32) (x1 : Int32) (o : ((Int32))) (hf : fnX3_times F x0 x1 = some o) (hq : (fun ov => Qn (some (.int ov)) I L) o) : mj_W X G RX3 "times" cX3_times 2 1 (some .int) mj_P0 mj_S0 98 ad 0 0 0 [(0, .int x0), (1, .int x1)] [] I L := by
  unfold fnX3_times at hf
  refine mj_iload_n 0 dX3_times_0 rfl ?_
  refine mj_i2l dX3_times_1 ?_
  refine mj_iload_n 1 dX3_times_2 rfl ?_
  refine mj_i2l dX3_times_3 ?_
  refine mj_lmul dX3_times_4 ?_
  refine mj_ldc2 kk_X3_12 dX3_times_5 ?_
  refine mj_lrem dX3_times_8 (by decide) ?_
  refine mj_l2i dX3_times_9 ?_
  obtain rfl := Option.some.inj hf
  have hZ := hq
  exact mj_iret hR ⟨Nat.le_refl _, Nat.le_refl _⟩ rfl rfl dX3_times_10 hZ
set_option maxRecDepth 100000 in
set_option maxHeartbeats 4000000 in
theorem cmX3_times (l : Launch) (G : mj_GT) (F : Nat) (x0 : Int32) (x1 : Int32) (I : mj_IT) (L : mj_LT) (o : ((Int32))) (hf : fnX3_times F x0 x1 = some o) : mj_M l G yX3_times cX3_times 2 1 (some .int) 0 0 mj_P0 mj_S0 98 [.int x0, .int x1] I L (mj_qd (some (.int o)) I L) := by
  refine mj_in RX3 "times" [(0, .int x0), (1, .int x1)] rfl rfl rfl (by decide) (Nat.le_of_ble_eq_true rfl) (fun X ad hR => ?_)
  refine mtX3_times hR F I L x0 x1 o hf ?_
  exact ⟨rfl, rfl, rfl⟩

-- X3_sixtieth
def fnX3_sixtieth (F : Nat) (x0 : Int32) : Option ((Int32)) := (fnX3_times F x0 (715408453 : Int32)).bind (fun o1 => some o1)
set_option maxRecDepth 100000 in
set_option maxHeartbeats 4000000 in
theorem mtX3_sixtieth {X : mj_XT} {l : Launch} {G : mj_GT} {ad : Nat → Nat} {Qn : Option Value → mj_IT → mj_LT → Prop} (hR : mj_R X l G mj_P0 mj_S0 98 ad 0 0 Qn) (F : Nat) (I : mj_IT) (L : mj_LT) (x0 : Int32) (o : ((Int32))) (hf : fnX3_sixtieth F x0 = some o) (hq : (fun ov => Qn (some (.int ov)) I L) o) : mj_W X G RX3 "sixtieth" cX3_sixtieth 1 2 (some .int) mj_P0 mj_S0 98 ad 0 0 0 [(0, .int x0)] [] I L := by
  unfold fnX3_sixtieth at hf
  refine mj_iload_n 0 dX3_sixtieth_0 rfl ?_
  refine mj_ldc kk_X3_14 dX3_sixtieth_1 ?_
  obtain ⟨o1, ho1, hf⟩ := mj_bd hf
  refine mj_callSd (I2 := I) (L2 := L) (s1 := [.int o1]) (st := []) [.int x0, .int (715408453 : Int32)] (cmX3_times X.2.1 G F x0 (715408453 : Int32) _ _   o1 ho1) rfl rfl cw_X3_15 (by decide) rfl rfl (Nat.le_of_ble_eq_true rfl) ⟨Nat.zero_le _, Nat.zero_le _⟩ dX3_sixtieth_3 rfl ?_
  obtain rfl := Option.some.inj hf
  have hZ := hq
  exact mj_iret hR ⟨Nat.le_refl _, Nat.le_refl _⟩ rfl rfl dX3_sixtieth_6 hZ
set_option maxRecDepth 100000 in
set_option maxHeartbeats 4000000 in
theorem cmX3_sixtieth (l : Launch) (G : mj_GT) (F : Nat) (x0 : Int32) (I : mj_IT) (L : mj_LT) (o : ((Int32))) (hf : fnX3_sixtieth F x0 = some o) : mj_M l G yX3_sixtieth cX3_sixtieth 1 2 (some .int) 0 0 mj_P0 mj_S0 98 [.int x0] I L (mj_qd (some (.int o)) I L) := by
  refine mj_in RX3 "sixtieth" [(0, .int x0)] rfl rfl rfl (by decide) (Nat.le_of_ble_eq_true rfl) (fun X ad hR => ?_)
  refine mtX3_sixtieth hR F I L x0 o hf ?_
  exact ⟨rfl, rfl, rfl⟩

-- X3_less
def fnX3_less (F : Nat) (x0 : Int32) (x1 : Int32) : Option ((Int32)) := (if x0 < x1 then some ((x0 - x1) + (998244353 : Int32)) else some (x0 - x1))
set_option maxRecDepth 100000 in
set_option maxHeartbeats 4000000 in
theorem mtX3_less {X : mj_XT} {l : Launch} {G : mj_GT} {ad : Nat → Nat} {Qn : Option Value → mj_IT → mj_LT → Prop} (hR : mj_R X l G mj_P0 mj_S0 98 ad 0 0 Qn) (F : Nat) (I : mj_IT) (L : mj_LT) (x0 : Int32) (x1 : Int32) (o : ((Int32))) (hf : fnX3_less F x0 x1 = some o) (hq : (fun ov => Qn (some (.int ov)) I L) o) : mj_W X G RX3 "less" cX3_less 2 1 (some .int) mj_P0 mj_S0 98 ad 0 0 0 [(0, .int x0), (1, .int x1)] [] I L := by
  unfold fnX3_less at hf
  refine mj_iload_n 0 dX3_less_0 rfl ?_
  refine mj_iload_n 1 dX3_less_1 rfl ?_
  refine mj_icmp_lt 11 dX3_less_2 (by decide) (fun c1 => ?_) (fun c1 => ?_)
  · replace hf := mj_pos c1 hf
    refine mj_iload_n 0 dX3_less_11 rfl ?_
    refine mj_iload_n 1 dX3_less_12 rfl ?_
    refine mj_isub dX3_less_13 ?_
    refine mj_ldc kk_X3_11 dX3_less_14 ?_
    refine mj_iadd dX3_less_16 ?_
    obtain rfl := Option.some.inj hf
    have hZ := hq
    exact mj_iret hR ⟨Nat.le_refl _, Nat.le_refl _⟩ rfl rfl dX3_less_17 hZ
  · replace hf := mj_neg c1 hf
    refine mj_iload_n 0 dX3_less_5 rfl ?_
    refine mj_iload_n 1 dX3_less_6 rfl ?_
    refine mj_isub dX3_less_7 ?_
    refine mj_goto 17 dX3_less_8 (by decide) ?_
    obtain rfl := Option.some.inj hf
    have hZ := hq
    exact mj_iret hR ⟨Nat.le_refl _, Nat.le_refl _⟩ rfl rfl dX3_less_17 hZ
set_option maxRecDepth 100000 in
set_option maxHeartbeats 4000000 in
theorem cmX3_less (l : Launch) (G : mj_GT) (F : Nat) (x0 : Int32) (x1 : Int32) (I : mj_IT) (L : mj_LT) (o : ((Int32))) (hf : fnX3_less F x0 x1 = some o) : mj_M l G yX3_less cX3_less 2 1 (some .int) 0 0 mj_P0 mj_S0 98 [.int x0, .int x1] I L (mj_qd (some (.int o)) I L) := by
  refine mj_in RX3 "less" [(0, .int x0), (1, .int x1)] rfl rfl rfl (by decide) (Nat.le_of_ble_eq_true rfl) (fun X ad hR => ?_)
  refine mtX3_less hR F I L x0 x1 o hf ?_
  exact ⟨rfl, rfl, rfl⟩

-- X2_writeArcs
def bdX2_writeArcs_15 (F : Nat) (r37 : Nat → Int32) (r38 : Nat → Int32) (r39 : Nat → Int32) (r44 : Nat → Int32) (r45 : Nat → Int32) (x2 : Int32) (x3 : Int32) (x4 : Int32) (r50 : Nat → Int32) : Option (((Int32) × (Nat → Int32)) ⊕ ((Nat → Int32))) := (if mj_ib (x3 + (1 : Int32)) 201 = true then (if (r37 ((x3 + (1 : Int32)).toNatClampNeg)) ≤ x4 then some (.inr r50) else (if mj_ib x4 2000 = true then (if mj_ib (r38 x4.toNatClampNeg) 200 = true then (if (r44 ((r38 x4.toNatClampNeg).toNatClampNeg)) = (-1 : Int32) then some (.inl ((x4 + (1)), r50)) else (if mj_ib (r44 ((r38 x4.toNatClampNeg).toNatClampNeg)) 200 = true then (if mj_ib ((r45 ((r44 ((r38 x4.toNatClampNeg).toNatClampNeg)).toNatClampNeg)) + x2) 40200 = true then (if mj_ib x4 2000 = true then (fnX3_sixtieth F (r39 x4.toNatClampNeg)).bind (fun o9 => (fnX3_less F (r50 (((r45 ((r44 ((r38 x4.toNatClampNeg).toNatClampNeg)).toNatClampNeg)) + x2).toNatClampNeg)) o9).bind (fun o10 => (if mj_ib ((r45 ((r44 ((r38 x4.toNatClampNeg).toNatClampNeg)).toNatClampNeg)) + x2) 40200 = true then some (.inl ((x4 + (1)), (upd r50 (((r45 ((r44 ((r38 x4.toNatClampNeg).toNatClampNeg)).toNatClampNeg)) + x2).toNatClampNeg) o10))) else none))) else none) else none) else none)) else none) else none)) else none)
def fnX2_writeArcs (F : Nat) (r37 : Nat → Int32) (r38 : Nat → Int32) (r39 : Nat → Int32) (r43 : Nat → Int32) (r44 : Nat → Int32) (r45 : Nat → Int32) (r50 : Nat → Int32) (x2 : Int32) : Option ((Nat → Int32)) := (if mj_ib x2 200 = true then (if mj_ib (r43 x2.toNatClampNeg) 201 = true then (mj_it (mj_u2 (fun z0 z1 => bdX2_writeArcs_15 F r37 r38 r39 r44 r45 x2 (r43 x2.toNatClampNeg) z0 z1)) F ((r37 ((r43 x2.toNatClampNeg).toNatClampNeg)), r50)).bind (fun r50_14 => some r50_14) else none) else none)
set_option maxRecDepth 100000 in
set_option maxHeartbeats 4000000 in
theorem lpX2_writeArcs_15 {X : mj_XT} {l : Launch} {G : mj_GT} {ad : Nat → Nat} {Qn : Option Value → mj_IT → mj_LT → Prop} (hR : mj_R X l G mj_P0 mj_S0 98 ad 0 0 Qn) (F : Nat) (I : mj_IT) (L : mj_LT) (r37 : Nat → Int32) (r38 : Nat → Int32) (r39 : Nat → Int32) (r43 : Nat → Int32) (r44 : Nat → Int32) (r45 : Nat → Int32) (r50 : Nat → Int32) (x2 : Int32) (x3 : Int32) : ∀ (n : Nat) (s : ((Int32) × (Nat → Int32))) (e : ((Nat → Int32))), mj_it (mj_u2 (fun z0 z1 => bdX2_writeArcs_15 F r37 r38 r39 r44 r45 x2 x3 z0 z1)) n s = some e → (fun r50 => mj_W X G RX2 "writeArcs" cX2_writeArcs 7 3 none mj_P0 mj_S0 98 ad 0 0 92 [] [] (mj_rows I [(37, r37), (38, r38), (39, r39), (43, r43), (44, r44), (45, r45), (50, r50)]) L) e → (mj_u2 (fun x4 r50 => mj_W X G RX2 "writeArcs" cX2_writeArcs 7 3 none mj_P0 mj_S0 98 ad 0 0 15 [(0, .ref 41), (1, .ref 32), (2, .int x2), (3, .int x3), (4, .int x4)] [] (mj_rows I [(37, r37), (38, r38), (39, r39), (43, r43), (44, r44), (45, r45), (50, r50)]) L)) s := by
  refine mj_loop (fun s o hf hc hx => ?_)
  obtain ⟨x4, r50⟩ := s
  replace hf := mj_u2e hf
  refine mj_u2q ?_
  unfold bdX2_writeArcs_15 at hf
  refine mj_iload 4 dX2_writeArcs_15 rfl ?_
  refine mj_aload_n 1 dX2_writeArcs_17 rfl ?_
  refine mj_getP p0_32_12 (by decide) fl_X2_117 rfl s0_32 a0_32 dX2_writeArcs_18 ?_
  refine mj_iload_n 3 dX2_writeArcs_21 rfl ?_
  refine mj_iconst dX2_writeArcs_22 kc_iconst_1 ?_
  refine mj_iadd dX2_writeArcs_23 ?_
  obtain ⟨z1, hf⟩ := mj_ck hf
  refine mj_ialdv (x := r37) rfl s0_37 a0_37 z1 dX2_writeArcs_24 ?_
  refine mj_icmp_ge 92 dX2_writeArcs_25 (by decide) (fun c2 => ?_) (fun c2 => ?_)
  · replace hf := mj_pos c2 hf
    refine mj_sub [] [] rfl ?_
    obtain rfl := Option.some.inj hf
    have hZ := hx r50 rfl
    exact hZ
  · replace hf := mj_neg c2 hf
    refine mj_aload_n 0 dX2_writeArcs_28 rfl ?_
    refine mj_getP p0_41_8 (by decide) fl_X2_18 rfl s0_41 a0_41 dX2_writeArcs_29 ?_
    refine mj_aload_n 1 dX2_writeArcs_32 rfl ?_
    refine mj_getP p0_32_13 (by decide) fl_X2_120 rfl s0_32 a0_32 dX2_writeArcs_33 ?_
    refine mj_iload 4 dX2_writeArcs_36 rfl ?_
    obtain ⟨z3, hf⟩ := mj_ck hf
    refine mj_ialdv (x := r38) rfl s0_38 a0_38 z3 dX2_writeArcs_38 ?_
    obtain ⟨z4, hf⟩ := mj_ck hf
    refine mj_ialdv (x := r44) rfl s0_44 a0_44 z4 dX2_writeArcs_39 ?_
    refine mj_istore [(5, .int (r44 ((r38 x4.toNatClampNeg).toNatClampNeg))), (0, .ref 41), (1, .ref 32), (2, .int x2), (3, .int x3), (4, .int x4)] dX2_writeArcs_40 (by decide) rfl ?_
    refine mj_iload 0 dX2_writeArcs_42 rfl ?_
    refine mj_iconst dX2_writeArcs_44 kc_iconst_m1 ?_
    refine mj_icmp_eq 86 dX2_writeArcs_45 (by decide) (fun c5 => ?_) (fun c5 => ?_)
    · replace hf := mj_pos c5 hf
      refine mj_iinc 5 [(4, .int (x4 + (1))), (5, .int (r44 ((r38 x4.toNatClampNeg).toNatClampNeg))), (0, .ref 41), (1, .ref 32), (2, .int x2), (3, .int x3)] dX2_writeArcs_86 rfl (kz_1 _) (by decide) rfl ?_
      refine mj_goto 15 dX2_writeArcs_89 (by decide) ?_
      refine mj_sub [2, 3, 4, 5, 0] [(0, .ref 41), (1, .ref 32), (2, .int x2), (3, .int x3), (4, .int (x4 + (1)))] rfl ?_
      obtain rfl := Option.some.inj hf
      have hZ := hc ((x4 + (1)), r50) rfl
      replace hZ := mj_u2p hZ
      exact hZ
    · replace hf := mj_neg c5 hf
      refine mj_aload_n 1 dX2_writeArcs_48 rfl ?_
      refine mj_getP p0_41_9 (by decide) fl_X2_21 rfl s0_41 a0_41 dX2_writeArcs_49 ?_
      refine mj_iload 0 dX2_writeArcs_52 rfl ?_
      obtain ⟨z6, hf⟩ := mj_ck hf
      refine mj_ialdv (x := r45) rfl s0_45 a0_45 z6 dX2_writeArcs_54 ?_
      refine mj_iload_n 3 dX2_writeArcs_55 rfl ?_
      refine mj_iadd dX2_writeArcs_56 ?_
      refine mj_istore [(6, .int ((r45 ((r44 ((r38 x4.toNatClampNeg).toNatClampNeg)).toNatClampNeg)) + x2)), (5, .int (r44 ((r38 x4.toNatClampNeg).toNatClampNeg))), (0, .ref 41), (1, .ref 32), (2, .int x2), (3, .int x3), (4, .int x4)] dX2_writeArcs_57 (by decide) rfl ?_
      refine mj_aload_n 2 dX2_writeArcs_59 rfl ?_
      refine mj_getP p0_41_14 (by decide) fl_X2_37 rfl s0_41 a0_41 dX2_writeArcs_60 ?_
      refine mj_iload 0 dX2_writeArcs_63 rfl ?_
      refine mj_aload_n 2 dX2_writeArcs_65 rfl ?_
      refine mj_getP p0_41_14 (by decide) fl_X2_37 rfl s0_41 a0_41 dX2_writeArcs_66 ?_
      refine mj_iload 0 dX2_writeArcs_69 rfl ?_
      obtain ⟨z7, hf⟩ := mj_ck hf
      refine mj_ialdv (x := r50) rfl s0_50 a0_50 z7 dX2_writeArcs_71 ?_
      refine mj_aload_n 3 dX2_writeArcs_72 rfl ?_
      refine mj_getP p0_32_14 (by decide) fl_X2_123 rfl s0_32 a0_32 dX2_writeArcs_73 ?_
      refine mj_iload 6 dX2_writeArcs_76 rfl ?_
      obtain ⟨z8, hf⟩ := mj_ck hf
      refine mj_ialdv (x := r39) rfl s0_39 a0_39 z8 dX2_writeArcs_78 ?_
      obtain ⟨o9, ho9, hf⟩ := mj_bd hf
      refine mj_callSd (I2 := (mj_rows I [(37, r37), (38, r38), (39, r39), (43, r43), (44, r44), (45, r45), (50, r50)])) (L2 := L) (s1 := [.int o9, .int (r50 (((r45 ((r44 ((r38 x4.toNatClampNeg).toNatClampNeg)).toNatClampNeg)) + x2).toNatClampNeg)), .int ((r45 ((r44 ((r38 x4.toNatClampNeg).toNatClampNeg)).toNatClampNeg)) + x2), .ref 50]) (st := [.int (r50 (((r45 ((r44 ((r38 x4.toNatClampNeg).toNatClampNeg)).toNatClampNeg)) + x2).toNatClampNeg)), .int ((r45 ((r44 ((r38 x4.toNatClampNeg).toNatClampNeg)).toNatClampNeg)) + x2), .ref 50]) [.int (r39 x4.toNatClampNeg)] (cmX3_sixtieth X.2.1 G F (r39 x4.toNatClampNeg) _ _   o9 ho9) rfl rfl cw_X2_126 (by decide) rfl rfl (Nat.le_of_ble_eq_true rfl) ⟨Nat.zero_le _, Nat.zero_le _⟩ dX2_writeArcs_79 rfl ?_
      obtain ⟨o10, ho10, hf⟩ := mj_bd hf
      refine mj_callSd (I2 := (mj_rows I [(37, r37), (38, r38), (39, r39), (43, r43), (44, r44), (45, r45), (50, r50)])) (L2 := L) (s1 := [.int o10, .int ((r45 ((r44 ((r38 x4.toNatClampNeg).toNatClampNeg)).toNatClampNeg)) + x2), .ref 50]) (st := [.int ((r45 ((r44 ((r38 x4.toNatClampNeg).toNatClampNeg)).toNatClampNeg)) + x2), .ref 50]) [.int (r50 (((r45 ((r44 ((r38 x4.toNatClampNeg).toNatClampNeg)).toNatClampNeg)) + x2).toNatClampNeg)), .int o9] (cmX3_less X.2.1 G F (r50 (((r45 ((r44 ((r38 x4.toNatClampNeg).toNatClampNeg)).toNatClampNeg)) + x2).toNatClampNeg)) o9 _ _   o10 ho10) rfl rfl cw_X2_85 (by decide) rfl rfl (Nat.le_of_ble_eq_true rfl) ⟨Nat.zero_le _, Nat.zero_le _⟩ dX2_writeArcs_82 rfl ?_
      obtain ⟨z11, hf⟩ := mj_ck hf
      refine mj_iastr [(37, r37), (38, r38), (39, r39), (43, r43), (44, r44), (45, r45), (50, (upd r50 (((r45 ((r44 ((r38 x4.toNatClampNeg).toNatClampNeg)).toNatClampNeg)) + x2).toNatClampNeg) o10))] rfl s0_50 a0_50 z11 dX2_writeArcs_85 ?_
      refine mj_iinc 6 [(4, .int (x4 + (1))), (6, .int ((r45 ((r44 ((r38 x4.toNatClampNeg).toNatClampNeg)).toNatClampNeg)) + x2)), (5, .int (r44 ((r38 x4.toNatClampNeg).toNatClampNeg))), (0, .ref 41), (1, .ref 32), (2, .int x2), (3, .int x3)] dX2_writeArcs_86 rfl (kz_1 _) (by decide) rfl ?_
      refine mj_goto 15 dX2_writeArcs_89 (by decide) ?_
      refine mj_sub [3, 4, 5, 6, 0] [(0, .ref 41), (1, .ref 32), (2, .int x2), (3, .int x3), (4, .int (x4 + (1)))] rfl ?_
      obtain rfl := Option.some.inj hf
      have hZ := hc ((x4 + (1)), (upd r50 (((r45 ((r44 ((r38 x4.toNatClampNeg).toNatClampNeg)).toNatClampNeg)) + x2).toNatClampNeg) o10)) rfl
      replace hZ := mj_u2p hZ
      exact hZ
set_option maxRecDepth 100000 in
set_option maxHeartbeats 4000000 in
theorem mtX2_writeArcs {X : mj_XT} {l : Launch} {G : mj_GT} {ad : Nat → Nat} {Qn : Option Value → mj_IT → mj_LT → Prop} (hR : mj_R X l G mj_P0 mj_S0 98 ad 0 0 Qn) (F : Nat) (I : mj_IT) (L : mj_LT) (r37 : Nat → Int32) (r38 : Nat → Int32) (r39 : Nat → Int32) (r43 : Nat → Int32) (r44 : Nat → Int32) (r45 : Nat → Int32) (r50 : Nat → Int32) (x2 : Int32) (o : ((Nat → Int32))) (hf : fnX2_writeArcs F r37 r38 r39 r43 r44 r45 r50 x2 = some o) (hq : (fun r50 => Qn none (mj_rows I [(37, r37), (38, r38), (39, r39), (43, r43), (44, r44), (45, r45), (50, r50)]) L) o) : mj_W X G RX2 "writeArcs" cX2_writeArcs 7 3 none mj_P0 mj_S0 98 ad 0 0 0 [(0, .ref 41), (1, .ref 32), (2, .int x2)] [] (mj_rows I [(37, r37), (38, r38), (39, r39), (43, r43), (44, r44), (45, r45), (50, r50)]) L := by
  unfold fnX2_writeArcs at hf
  refine mj_aload_n 0 dX2_writeArcs_0 rfl ?_
  refine mj_getP p0_41_7 (by decide) fl_X2_15 rfl s0_41 a0_41 dX2_writeArcs_1 ?_
  refine mj_iload_n 2 dX2_writeArcs_4 rfl ?_
  obtain ⟨z12, hf⟩ := mj_ck hf
  refine mj_ialdv (x := r43) rfl s0_43 a0_43 z12 dX2_writeArcs_5 ?_
  refine mj_istore_n [(3, .int (r43 x2.toNatClampNeg)), (0, .ref 41), (1, .ref 32), (2, .int x2)] dX2_writeArcs_6 rfl (by decide) rfl ?_
  refine mj_aload_n 2 dX2_writeArcs_7 rfl ?_
  refine mj_getP p0_32_12 (by decide) fl_X2_117 rfl s0_32 a0_32 dX2_writeArcs_8 ?_
  refine mj_iload_n 0 dX2_writeArcs_11 rfl ?_
  obtain ⟨z13, hf⟩ := mj_ck hf
  refine mj_ialdv (x := r37) rfl s0_37 a0_37 z13 dX2_writeArcs_12 ?_
  refine mj_istore [(4, .int (r37 ((r43 x2.toNatClampNeg).toNatClampNeg))), (3, .int (r43 x2.toNatClampNeg)), (0, .ref 41), (1, .ref 32), (2, .int x2)] dX2_writeArcs_13 (by decide) rfl ?_
  refine mj_sub [2, 3, 4, 1, 0] [(0, .ref 41), (1, .ref 32), (2, .int x2), (3, .int (r43 x2.toNatClampNeg)), (4, .int (r37 ((r43 x2.toNatClampNeg).toNatClampNeg)))] rfl ?_
  obtain ⟨r50_14, ho14, hf⟩ := mj_bd hf
  refine lpX2_writeArcs_15 hR F I L r37 r38 r39 r43 r44 r45 r50 x2 (r43 x2.toNatClampNeg) F ((r37 ((r43 x2.toNatClampNeg).toNatClampNeg)), r50) r50_14 ho14 ?_
  refine ?_
  obtain rfl := Option.some.inj hf
  have hZ := hq
  exact mj_vret hR ⟨Nat.le_refl _, Nat.le_refl _⟩ rfl dX2_writeArcs_92 hZ
set_option maxRecDepth 100000 in
set_option maxHeartbeats 4000000 in
theorem cmX2_writeArcs (l : Launch) (G : mj_GT) (F : Nat) (x2 : Int32) (I : mj_IT) (L : mj_LT) (r37 : Nat → Int32) (r38 : Nat → Int32) (r39 : Nat → Int32) (r43 : Nat → Int32) (r44 : Nat → Int32) (r45 : Nat → Int32) (r50 : Nat → Int32) (hr37 : I 37 = r37) (hr38 : I 38 = r38) (hr39 : I 39 = r39) (hr43 : I 43 = r43) (hr44 : I 44 = r44) (hr45 : I 45 = r45) (hr50 : I 50 = r50) (o : ((Nat → Int32))) (hf : fnX2_writeArcs F r37 r38 r39 r43 r44 r45 r50 x2 = some o) : mj_M l G yX2_writeArcs cX2_writeArcs 7 3 none 0 0 mj_P0 mj_S0 98 [.ref 41, .ref 32, .int x2] I L (mj_qd none (mj_rows I [(37, r37), (38, r38), (39, r39), (43, r43), (44, r44), (45, r45), (50, o)]) L) := by
  refine mj_in RX2 "writeArcs" [(0, .ref 41), (1, .ref 32), (2, .int x2)] rfl rfl rfl (by decide) (Nat.le_of_ble_eq_true rfl) (fun X ad hR => ?_)
  refine mj_toI [(37, r37), (38, r38), (39, r39), (43, r43), (44, r44), (45, r45), (50, r50)] (by intro q hq; simp only [List.mem_cons, List.not_mem_nil, or_false] at hq; rcases hq with rfl | rfl | rfl | rfl | rfl | rfl | rfl <;> assumption) ?_
  refine mtX2_writeArcs hR F I L r37 r38 r39 r43 r44 r45 r50 x2 o hf ?_
  exact ⟨rfl, rfl, rfl⟩

-- X2_write
def bdX2_write_7 (F : Nat) (r32 : Nat → Int32) (r36 : Nat → Int32) (r37 : Nat → Int32) (x2 : Int32) (r41 : Nat → Int32) (r43 : Nat → Int32) (r44 : Nat → Int32) : Option (((Int32) × (Nat → Int32) × (Nat → Int32) × (Nat → Int32)) ⊕ ((Nat → Int32) × (Nat → Int32) × (Nat → Int32))) := (if (r32 2) ≤ x2 then some (.inr (r41, r43, r44)) else (if mj_ib x2 200 = true then (if mj_ib x2 200 = true then (if (r36 x2.toNatClampNeg) = 0 then (fnX4_arcsOf F r37 x2).bind (fun o5 => (if o5 ≤ 0 then some (.inl ((x2 + (1)), r41, r43, (upd r44 x2.toNatClampNeg (-1 : Int32)))) else (if mj_ib x2 200 = true then (if mj_ib (r41 6) 200 = true then some (.inl ((x2 + (1)), (upd r41 6 ((r41 6) + (1 : Int32))), (upd r43 ((r41 6).toNatClampNeg) x2), (upd (upd r44 x2.toNatClampNeg (-1 : Int32)) x2.toNatClampNeg (r41 6)))) else none) else none))) else some (.inl ((x2 + (1)), r41, r43, (upd r44 x2.toNatClampNeg (-1 : Int32))))) else none) else none))
def bdX2_write_97 (F : Nat) (r41 : Nat → Int32) (r43 : Nat → Int32) (x2 : Int32) (r45 : Nat → Int32) (r50 : Nat → Int32) : Option (((Int32) × (Nat → Int32) × (Nat → Int32)) ⊕ ((Nat → Int32) × (Nat → Int32))) := (if (r41 6) ≤ x2 then some (.inr (r45, r50)) else (if mj_ib x2 200 = true then (if mj_ib x2 200 = true then (if mj_ib (((upd r45 x2.toNatClampNeg (x2 * ((r41 6) + (1 : Int32)))) x2.toNatClampNeg) + x2) 40200 = true then (fnX3_plus F (r50 ((((upd r45 x2.toNatClampNeg (x2 * ((r41 6) + (1 : Int32)))) x2.toNatClampNeg) + x2).toNatClampNeg)) (1 : Int32)).bind (fun o13 => (if mj_ib (((upd r45 x2.toNatClampNeg (x2 * ((r41 6) + (1 : Int32)))) x2.toNatClampNeg) + x2) 40200 = true then (if mj_ib x2 200 = true then (if mj_ib x2 200 = true then (if (r43 x2.toNatClampNeg) = 0 then (if mj_ib (((upd r45 x2.toNatClampNeg (x2 * ((r41 6) + (1 : Int32)))) x2.toNatClampNeg) + (r41 6)) 40200 = true then some (.inl ((x2 + (1)), (upd r45 x2.toNatClampNeg (x2 * ((r41 6) + (1 : Int32)))), (upd (upd r50 ((((upd r45 x2.toNatClampNeg (x2 * ((r41 6) + (1 : Int32)))) x2.toNatClampNeg) + x2).toNatClampNeg) o13) ((((upd r45 x2.toNatClampNeg (x2 * ((r41 6) + (1 : Int32)))) x2.toNatClampNeg) + (r41 6)).toNatClampNeg) (1 : Int32)))) else none) else (if mj_ib (((upd r45 x2.toNatClampNeg (x2 * ((r41 6) + (1 : Int32)))) x2.toNatClampNeg) + (r41 6)) 40200 = true then some (.inl ((x2 + (1)), (upd r45 x2.toNatClampNeg (x2 * ((r41 6) + (1 : Int32)))), (upd (upd r50 ((((upd r45 x2.toNatClampNeg (x2 * ((r41 6) + (1 : Int32)))) x2.toNatClampNeg) + x2).toNatClampNeg) o13) ((((upd r45 x2.toNatClampNeg (x2 * ((r41 6) + (1 : Int32)))) x2.toNatClampNeg) + (r41 6)).toNatClampNeg) (0 : Int32)))) else none)) else none) else none) else none)) else none) else none) else none))
def bdX2_write_182 (F : Nat) (r37 : Nat → Int32) (r38 : Nat → Int32) (r39 : Nat → Int32) (r41 : Nat → Int32) (r43 : Nat → Int32) (r44 : Nat → Int32) (r45 : Nat → Int32) (x2 : Int32) (r50 : Nat → Int32) : Option (((Int32) × (Nat → Int32)) ⊕ ((Nat → Int32))) := (if (r41 6) ≤ x2 then some (.inr r50) else (fnX2_writeArcs F r37 r38 r39 r43 r44 r45 r50 x2).bind (fun o21 => some (.inl ((x2 + (1)), o21))))
def fnX2_write (F : Nat) (r32 : Nat → Int32) (r36 : Nat → Int32) (r37 : Nat → Int32) (r38 : Nat → Int32) (r39 : Nat → Int32) (r41 : Nat → Int32) (r43 : Nat → Int32) (r44 : Nat → Int32) (r45 : Nat → Int32) (r50 : Nat → Int32) : Option ((Nat → Int32) × (Nat → Int32) × (Nat → Int32) × (Nat → Int32) × (Nat → Int32)) := (mj_it (mj_u2 (fun z0 => (mj_u2 (fun z1 => (mj_u2 (fun z2 z3 => bdX2_write_7 F r32 r36 r37 z0 z1 z2 z3)))))) F ((0 : Int32), (upd r41 6 (0 : Int32)), r43, r44)).bind (mj_u2 (fun r41_22 => (mj_u2 (fun r43_22 r44_22 => (fnJ7_fill_fda19 F r50 (0 : Int32) ((r41_22 6) * ((r41_22 6) + (1 : Int32))) (0 : Int32)).bind (fun o23 => (mj_it (mj_u2 (fun z0 => (mj_u2 (fun z1 z2 => bdX2_write_97 F r41_22 r43_22 z0 z1 z2)))) F ((0 : Int32), r45, o23)).bind (mj_u2 (fun r45_24 r50_24 => (mj_it (mj_u2 (fun z0 z1 => bdX2_write_182 F r37 r38 r39 r41_22 r43_22 r44_22 r45_24 z0 z1)) F ((0 : Int32), r50_24)).bind (fun r50_25 => some (r41_22, r43_22, r44_22, r45_24, r50_25)))))))))
set_option maxRecDepth 100000 in
set_option maxHeartbeats 4000000 in
theorem lpX2_write_7 {X : mj_XT} {l : Launch} {G : mj_GT} {ad : Nat → Nat} {Qn : Option Value → mj_IT → mj_LT → Prop} (hR : mj_R X l G mj_P0 mj_S0 98 ad 0 0 Qn) (F : Nat) (I : mj_IT) (L : mj_LT) (r32 : Nat → Int32) (r36 : Nat → Int32) (r37 : Nat → Int32) (r38 : Nat → Int32) (r39 : Nat → Int32) (r41 : Nat → Int32) (r43 : Nat → Int32) (r44 : Nat → Int32) (r45 : Nat → Int32) (r50 : Nat → Int32) : ∀ (n : Nat) (s : ((Int32) × (Nat → Int32) × (Nat → Int32) × (Nat → Int32))) (e : ((Nat → Int32) × (Nat → Int32) × (Nat → Int32))), mj_it (mj_u2 (fun z0 => (mj_u2 (fun z1 => (mj_u2 (fun z2 z3 => bdX2_write_7 F r32 r36 r37 z0 z1 z2 z3)))))) n s = some e → (mj_u2 (fun r41 => (mj_u2 (fun r43 r44 => mj_W X G RX2 "write" cX2_write 4 4 none mj_P0 mj_S0 98 ad 0 0 75 [(0, .ref 41), (1, .ref 32)] [] (mj_rows I [(32, r32), (36, r36), (37, r37), (38, r38), (39, r39), (41, r41), (43, r43), (44, r44), (45, r45), (50, r50)]) L)))) e → (mj_u2 (fun x2 => (mj_u2 (fun r41 => (mj_u2 (fun r43 r44 => mj_W X G RX2 "write" cX2_write 4 4 none mj_P0 mj_S0 98 ad 0 0 7 [(0, .ref 41), (1, .ref 32), (2, .int x2)] [] (mj_rows I [(32, r32), (36, r36), (37, r37), (38, r38), (39, r39), (41, r41), (43, r43), (44, r44), (45, r45), (50, r50)]) L)))))) s := by
  refine mj_loop (fun s o hf hc hx => ?_)
  obtain ⟨x2, r41, r43, r44⟩ := s
  replace hf := mj_u2e hf
  refine mj_u2q ?_
  replace hf := mj_u2e hf
  refine mj_u2q ?_
  replace hf := mj_u2e hf
  refine mj_u2q ?_
  unfold bdX2_write_7 at hf
  refine mj_iload_n 2 dX2_write_7 rfl ?_
  refine mj_aload_n 1 dX2_write_8 rfl ?_
  refine mj_getIv (v := (r32 2)) rfl fl_X2_94 rfl s0_32 a0_32 dX2_write_9 ?_
  refine mj_icmp_ge 75 dX2_write_12 (by decide) (fun c1 => ?_) (fun c1 => ?_)
  · replace hf := mj_pos c1 hf
    refine mj_sub [0, 1] [(0, .ref 41), (1, .ref 32)] rfl ?_
    obtain rfl := Option.some.inj hf
    have hZ := hx (r41, r43, r44) rfl
    replace hZ := mj_u2p hZ
    replace hZ := mj_u2p hZ
    exact hZ
  · replace hf := mj_neg c1 hf
    refine mj_aload_n 0 dX2_write_15 rfl ?_
    refine mj_getP p0_41_8 (by decide) fl_X2_18 rfl s0_41 a0_41 dX2_write_16 ?_
    refine mj_iload_n 2 dX2_write_19 rfl ?_
    refine mj_iconst dX2_write_20 kc_iconst_m1 ?_
    obtain ⟨z2, hf⟩ := mj_ck hf
    refine mj_iastr [(32, r32), (36, r36), (37, r37), (38, r38), (39, r39), (41, r41), (43, r43), (44, (upd r44 x2.toNatClampNeg (-1 : Int32))), (45, r45), (50, r50)] rfl s0_44 a0_44 z2 dX2_write_21 ?_
    refine mj_aload_n 1 dX2_write_22 rfl ?_
    refine mj_getP p0_32_11 (by decide) fl_X2_97 rfl s0_32 a0_32 dX2_write_23 ?_
    refine mj_iload_n 2 dX2_write_26 rfl ?_
    obtain ⟨z3, hf⟩ := mj_ck hf
    refine mj_zaldv (x := r36) rfl s0_36 a0_36 z3 dX2_write_27 ?_
    refine mj_if_ne 69 dX2_write_28 (by decide) (fun c4 => ?_) (fun c4 => ?_)
    · replace hf := mj_neg c4 hf
      refine mj_iinc 2 [(2, .int (x2 + (1))), (0, .ref 41), (1, .ref 32)] dX2_write_69 rfl (kz_1 _) (by decide) rfl ?_
      refine mj_goto 7 dX2_write_72 (by decide) ?_
      refine mj_sub [1, 2, 0] [(0, .ref 41), (1, .ref 32), (2, .int (x2 + (1)))] rfl ?_
      obtain rfl := Option.some.inj hf
      have hZ := hc ((x2 + (1)), r41, r43, (upd r44 x2.toNatClampNeg (-1 : Int32))) rfl
      replace hZ := mj_u2p hZ
      replace hZ := mj_u2p hZ
      replace hZ := mj_u2p hZ
      exact hZ
    · replace hf := mj_pos c4 hf
      refine mj_aload_n 1 dX2_write_31 rfl ?_
      refine mj_iload_n 2 dX2_write_32 rfl ?_
      obtain ⟨o5, ho5, hf⟩ := mj_bd hf
      refine mj_callVd (I2 := (mj_rows I [(32, r32), (36, r36), (37, r37), (38, r38), (39, r39), (41, r41), (43, r43), (44, (upd r44 x2.toNatClampNeg (-1 : Int32))), (45, r45), (50, r50)])) (L2 := L) (s1 := [.int o5]) (st := []) [.int x2] (cmX4_arcsOf X.2.1 G F x2 _ _ r37 rfl o5 ho5) (mj_rr rfl) rfl cw_X2_101 s0_32 a0_32 (by decide) rfl rfl (Nat.le_of_ble_eq_true rfl) ⟨Nat.zero_le _, Nat.zero_le _⟩ dX2_write_33 rfl ?_
      refine mj_if_le 69 dX2_write_36 (by decide) (fun c6 => ?_) (fun c6 => ?_)
      · replace hf := mj_pos c6 hf
        refine mj_iinc 2 [(2, .int (x2 + (1))), (0, .ref 41), (1, .ref 32)] dX2_write_69 rfl (kz_1 _) (by decide) rfl ?_
        refine mj_goto 7 dX2_write_72 (by decide) ?_
        refine mj_sub [1, 2, 0] [(0, .ref 41), (1, .ref 32), (2, .int (x2 + (1)))] rfl ?_
        obtain rfl := Option.some.inj hf
        have hZ := hc ((x2 + (1)), r41, r43, (upd r44 x2.toNatClampNeg (-1 : Int32))) rfl
        replace hZ := mj_u2p hZ
        replace hZ := mj_u2p hZ
        replace hZ := mj_u2p hZ
        exact hZ
      · replace hf := mj_neg c6 hf
        refine mj_aload_n 0 dX2_write_39 rfl ?_
        refine mj_getP p0_41_8 (by decide) fl_X2_18 rfl s0_41 a0_41 dX2_write_40 ?_
        refine mj_iload_n 2 dX2_write_43 rfl ?_
        refine mj_aload_n 0 dX2_write_44 rfl ?_
        refine mj_getIv (v := (r41 6)) rfl fl_X2_91 rfl s0_41 a0_41 dX2_write_45 ?_
        obtain ⟨z7, hf⟩ := mj_ck hf
        refine mj_iastr [(32, r32), (36, r36), (37, r37), (38, r38), (39, r39), (41, r41), (43, r43), (44, (upd (upd r44 x2.toNatClampNeg (-1 : Int32)) x2.toNatClampNeg (r41 6))), (45, r45), (50, r50)] rfl s0_44 a0_44 z7 dX2_write_48 ?_
        refine mj_aload_n 0 dX2_write_49 rfl ?_
        refine mj_getP p0_41_7 (by decide) fl_X2_15 rfl s0_41 a0_41 dX2_write_50 ?_
        refine mj_aload_n 0 dX2_write_53 rfl ?_
        refine mj_getIv (v := (r41 6)) rfl fl_X2_91 rfl s0_41 a0_41 dX2_write_54 ?_
        refine mj_iload_n 2 dX2_write_57 rfl ?_
        obtain ⟨z8, hf⟩ := mj_ck hf
        refine mj_iastr [(32, r32), (36, r36), (37, r37), (38, r38), (39, r39), (41, r41), (43, (upd r43 ((r41 6).toNatClampNeg) x2)), (44, (upd (upd r44 x2.toNatClampNeg (-1 : Int32)) x2.toNatClampNeg (r41 6))), (45, r45), (50, r50)] rfl s0_43 a0_43 z8 dX2_write_58 ?_
        refine mj_aload_n 0 dX2_write_59 rfl ?_
        refine mj_dup dX2_write_60 rfl ?_
        refine mj_getIv (v := (r41 6)) rfl fl_X2_91 rfl s0_41 a0_41 dX2_write_61 ?_
        refine mj_iconst dX2_write_64 kc_iconst_1 ?_
        refine mj_iadd dX2_write_65 ?_
        refine mj_putIr (ci := 1) (j := 6) [(32, r32), (36, r36), (37, r37), (38, r38), (39, r39), (41, (upd r41 6 ((r41 6) + (1 : Int32)))), (43, (upd r43 ((r41 6).toNatClampNeg) x2)), (44, (upd (upd r44 x2.toNatClampNeg (-1 : Int32)) x2.toNatClampNeg (r41 6))), (45, r45), (50, r50)] rfl ⟨rfl, rfl⟩ fl_X2_91 rfl rfl s0_41 a0_41 dX2_write_66 ?_
        refine mj_iinc 2 [(2, .int (x2 + (1))), (0, .ref 41), (1, .ref 32)] dX2_write_69 rfl (kz_1 _) (by decide) rfl ?_
        refine mj_goto 7 dX2_write_72 (by decide) ?_
        refine mj_sub [1, 2, 0] [(0, .ref 41), (1, .ref 32), (2, .int (x2 + (1)))] rfl ?_
        obtain rfl := Option.some.inj hf
        have hZ := hc ((x2 + (1)), (upd r41 6 ((r41 6) + (1 : Int32))), (upd r43 ((r41 6).toNatClampNeg) x2), (upd (upd r44 x2.toNatClampNeg (-1 : Int32)) x2.toNatClampNeg (r41 6))) rfl
        replace hZ := mj_u2p hZ
        replace hZ := mj_u2p hZ
        replace hZ := mj_u2p hZ
        exact hZ
set_option maxRecDepth 100000 in
set_option maxHeartbeats 4000000 in
theorem lpX2_write_97 {X : mj_XT} {l : Launch} {G : mj_GT} {ad : Nat → Nat} {Qn : Option Value → mj_IT → mj_LT → Prop} (hR : mj_R X l G mj_P0 mj_S0 98 ad 0 0 Qn) (F : Nat) (I : mj_IT) (L : mj_LT) (r32 : Nat → Int32) (r36 : Nat → Int32) (r37 : Nat → Int32) (r38 : Nat → Int32) (r39 : Nat → Int32) (r41 : Nat → Int32) (r43 : Nat → Int32) (r44 : Nat → Int32) (r45 : Nat → Int32) (r50 : Nat → Int32) : ∀ (n : Nat) (s : ((Int32) × (Nat → Int32) × (Nat → Int32))) (e : ((Nat → Int32) × (Nat → Int32))), mj_it (mj_u2 (fun z0 => (mj_u2 (fun z1 z2 => bdX2_write_97 F r41 r43 z0 z1 z2)))) n s = some e → (mj_u2 (fun r45 r50 => mj_W X G RX2 "write" cX2_write 4 4 none mj_P0 mj_S0 98 ad 0 0 180 [(0, .ref 41), (1, .ref 32)] [] (mj_rows I [(32, r32), (36, r36), (37, r37), (38, r38), (39, r39), (41, r41), (43, r43), (44, r44), (45, r45), (50, r50)]) L)) e → (mj_u2 (fun x2 => (mj_u2 (fun r45 r50 => mj_W X G RX2 "write" cX2_write 4 4 none mj_P0 mj_S0 98 ad 0 0 97 [(0, .ref 41), (1, .ref 32), (2, .int x2)] [] (mj_rows I [(32, r32), (36, r36), (37, r37), (38, r38), (39, r39), (41, r41), (43, r43), (44, r44), (45, r45), (50, r50)]) L)))) s := by
  refine mj_loop (fun s o hf hc hx => ?_)
  obtain ⟨x2, r45, r50⟩ := s
  replace hf := mj_u2e hf
  refine mj_u2q ?_
  replace hf := mj_u2e hf
  refine mj_u2q ?_
  unfold bdX2_write_97 at hf
  refine mj_iload_n 2 dX2_write_97 rfl ?_
  refine mj_aload_n 0 dX2_write_98 rfl ?_
  refine mj_getIv (v := (r41 6)) rfl fl_X2_91 rfl s0_41 a0_41 dX2_write_99 ?_
  refine mj_icmp_ge 180 dX2_write_102 (by decide) (fun c9 => ?_) (fun c9 => ?_)
  · replace hf := mj_pos c9 hf
    refine mj_sub [0, 1] [(0, .ref 41), (1, .ref 32)] rfl ?_
    obtain rfl := Option.some.inj hf
    have hZ := hx (r45, r50) rfl
    replace hZ := mj_u2p hZ
    exact hZ
  · replace hf := mj_neg c9 hf
    refine mj_aload_n 0 dX2_write_105 rfl ?_
    refine mj_getP p0_41_9 (by decide) fl_X2_21 rfl s0_41 a0_41 dX2_write_106 ?_
    refine mj_iload_n 2 dX2_write_109 rfl ?_
    refine mj_iload_n 2 dX2_write_110 rfl ?_
    refine mj_aload_n 0 dX2_write_111 rfl ?_
    refine mj_getIv (v := (r41 6)) rfl fl_X2_91 rfl s0_41 a0_41 dX2_write_112 ?_
    refine mj_iconst dX2_write_115 kc_iconst_1 ?_
    refine mj_iadd dX2_write_116 ?_
    refine mj_imul dX2_write_117 ?_
    obtain ⟨z10, hf⟩ := mj_ck hf
    refine mj_iastr [(32, r32), (36, r36), (37, r37), (38, r38), (39, r39), (41, r41), (43, r43), (44, r44), (45, (upd r45 x2.toNatClampNeg (x2 * ((r41 6) + (1 : Int32))))), (50, r50)] rfl s0_45 a0_45 z10 dX2_write_118 ?_
    refine mj_aload_n 0 dX2_write_119 rfl ?_
    refine mj_getP p0_41_9 (by decide) fl_X2_21 rfl s0_41 a0_41 dX2_write_120 ?_
    refine mj_iload_n 2 dX2_write_123 rfl ?_
    obtain ⟨z11, hf⟩ := mj_ck hf
    refine mj_ialdv (x := (upd r45 x2.toNatClampNeg (x2 * ((r41 6) + (1 : Int32))))) rfl s0_45 a0_45 z11 dX2_write_124 ?_
    refine mj_iload_n 2 dX2_write_125 rfl ?_
    refine mj_iadd dX2_write_126 ?_
    refine mj_istore_n [(3, .int (((upd r45 x2.toNatClampNeg (x2 * ((r41 6) + (1 : Int32)))) x2.toNatClampNeg) + x2)), (0, .ref 41), (1, .ref 32), (2, .int x2)] dX2_write_127 rfl (by decide) rfl ?_
    refine mj_aload_n 1 dX2_write_128 rfl ?_
    refine mj_getP p0_41_14 (by decide) fl_X2_37 rfl s0_41 a0_41 dX2_write_129 ?_
    refine mj_iload_n 0 dX2_write_132 rfl ?_
    refine mj_aload_n 1 dX2_write_133 rfl ?_
    refine mj_getP p0_41_14 (by decide) fl_X2_37 rfl s0_41 a0_41 dX2_write_134 ?_
    refine mj_iload_n 0 dX2_write_137 rfl ?_
    obtain ⟨z12, hf⟩ := mj_ck hf
    refine mj_ialdv (x := r50) rfl s0_50 a0_50 z12 dX2_write_138 ?_
    refine mj_iconst dX2_write_139 kc_iconst_1 ?_
    obtain ⟨o13, ho13, hf⟩ := mj_bd hf
    refine mj_callSd (I2 := (mj_rows I [(32, r32), (36, r36), (37, r37), (38, r38), (39, r39), (41, r41), (43, r43), (44, r44), (45, (upd r45 x2.toNatClampNeg (x2 * ((r41 6) + (1 : Int32))))), (50, r50)])) (L2 := L) (s1 := [.int o13, .int (((upd r45 x2.toNatClampNeg (x2 * ((r41 6) + (1 : Int32)))) x2.toNatClampNeg) + x2), .ref 50]) (st := [.int (((upd r45 x2.toNatClampNeg (x2 * ((r41 6) + (1 : Int32)))) x2.toNatClampNeg) + x2), .ref 50]) [.int (r50 ((((upd r45 x2.toNatClampNeg (x2 * ((r41 6) + (1 : Int32)))) x2.toNatClampNeg) + x2).toNatClampNeg)), .int (1 : Int32)] (cmX3_plus X.2.1 G F (r50 ((((upd r45 x2.toNatClampNeg (x2 * ((r41 6) + (1 : Int32)))) x2.toNatClampNeg) + x2).toNatClampNeg)) (1 : Int32) _ _   o13 ho13) rfl rfl cw_X2_110 (by decide) rfl rfl (Nat.le_of_ble_eq_true rfl) ⟨Nat.zero_le _, Nat.zero_le _⟩ dX2_write_140 rfl ?_
    obtain ⟨z14, hf⟩ := mj_ck hf
    refine mj_iastr [(32, r32), (36, r36), (37, r37), (38, r38), (39, r39), (41, r41), (43, r43), (44, r44), (45, (upd r45 x2.toNatClampNeg (x2 * ((r41 6) + (1 : Int32))))), (50, (upd r50 ((((upd r45 x2.toNatClampNeg (x2 * ((r41 6) + (1 : Int32)))) x2.toNatClampNeg) + x2).toNatClampNeg) o13))] rfl s0_50 a0_50 z14 dX2_write_143 ?_
    refine mj_aload_n 1 dX2_write_144 rfl ?_
    refine mj_getP p0_41_14 (by decide) fl_X2_37 rfl s0_41 a0_41 dX2_write_145 ?_
    refine mj_aload_n 1 dX2_write_148 rfl ?_
    refine mj_getP p0_41_9 (by decide) fl_X2_21 rfl s0_41 a0_41 dX2_write_149 ?_
    refine mj_iload_n 3 dX2_write_152 rfl ?_
    obtain ⟨z15, hf⟩ := mj_ck hf
    refine mj_ialdv (x := (upd r45 x2.toNatClampNeg (x2 * ((r41 6) + (1 : Int32))))) rfl s0_45 a0_45 z15 dX2_write_153 ?_
    refine mj_aload_n 1 dX2_write_154 rfl ?_
    refine mj_getIv (v := (r41 6)) rfl fl_X2_91 rfl s0_41 a0_41 dX2_write_155 ?_
    refine mj_iadd dX2_write_158 ?_
    refine mj_aload_n 1 dX2_write_159 rfl ?_
    refine mj_getP p0_41_7 (by decide) fl_X2_15 rfl s0_41 a0_41 dX2_write_160 ?_
    refine mj_iload_n 3 dX2_write_163 rfl ?_
    obtain ⟨z16, hf⟩ := mj_ck hf
    refine mj_ialdv (x := r43) rfl s0_43 a0_43 z16 dX2_write_164 ?_
    refine mj_if_ne 172 dX2_write_165 (by decide) (fun c17 => ?_) (fun c17 => ?_)
    · replace hf := mj_neg c17 hf
      refine mj_iconst dX2_write_172 kc_iconst_0 ?_
      obtain ⟨z18, hf⟩ := mj_ck hf
      refine mj_iastr [(32, r32), (36, r36), (37, r37), (38, r38), (39, r39), (41, r41), (43, r43), (44, r44), (45, (upd r45 x2.toNatClampNeg (x2 * ((r41 6) + (1 : Int32))))), (50, (upd (upd r50 ((((upd r45 x2.toNatClampNeg (x2 * ((r41 6) + (1 : Int32)))) x2.toNatClampNeg) + x2).toNatClampNeg) o13) ((((upd r45 x2.toNatClampNeg (x2 * ((r41 6) + (1 : Int32)))) x2.toNatClampNeg) + (r41 6)).toNatClampNeg) (0 : Int32)))] rfl s0_50 a0_50 z18 dX2_write_173 ?_
      refine mj_iinc 3 [(2, .int (x2 + (1))), (3, .int (((upd r45 x2.toNatClampNeg (x2 * ((r41 6) + (1 : Int32)))) x2.toNatClampNeg) + x2)), (0, .ref 41), (1, .ref 32)] dX2_write_174 rfl (kz_1 _) (by decide) rfl ?_
      refine mj_goto 97 dX2_write_177 (by decide) ?_
      refine mj_sub [2, 3, 0] [(0, .ref 41), (1, .ref 32), (2, .int (x2 + (1)))] rfl ?_
      obtain rfl := Option.some.inj hf
      have hZ := hc ((x2 + (1)), (upd r45 x2.toNatClampNeg (x2 * ((r41 6) + (1 : Int32)))), (upd (upd r50 ((((upd r45 x2.toNatClampNeg (x2 * ((r41 6) + (1 : Int32)))) x2.toNatClampNeg) + x2).toNatClampNeg) o13) ((((upd r45 x2.toNatClampNeg (x2 * ((r41 6) + (1 : Int32)))) x2.toNatClampNeg) + (r41 6)).toNatClampNeg) (0 : Int32))) rfl
      replace hZ := mj_u2p hZ
      replace hZ := mj_u2p hZ
      exact hZ
    · replace hf := mj_pos c17 hf
      refine mj_iconst dX2_write_168 kc_iconst_1 ?_
      refine mj_goto 173 dX2_write_169 (by decide) ?_
      obtain ⟨z19, hf⟩ := mj_ck hf
      refine mj_iastr [(32, r32), (36, r36), (37, r37), (38, r38), (39, r39), (41, r41), (43, r43), (44, r44), (45, (upd r45 x2.toNatClampNeg (x2 * ((r41 6) + (1 : Int32))))), (50, (upd (upd r50 ((((upd r45 x2.toNatClampNeg (x2 * ((r41 6) + (1 : Int32)))) x2.toNatClampNeg) + x2).toNatClampNeg) o13) ((((upd r45 x2.toNatClampNeg (x2 * ((r41 6) + (1 : Int32)))) x2.toNatClampNeg) + (r41 6)).toNatClampNeg) (1 : Int32)))] rfl s0_50 a0_50 z19 dX2_write_173 ?_
      refine mj_iinc 3 [(2, .int (x2 + (1))), (3, .int (((upd r45 x2.toNatClampNeg (x2 * ((r41 6) + (1 : Int32)))) x2.toNatClampNeg) + x2)), (0, .ref 41), (1, .ref 32)] dX2_write_174 rfl (kz_1 _) (by decide) rfl ?_
      refine mj_goto 97 dX2_write_177 (by decide) ?_
      refine mj_sub [2, 3, 0] [(0, .ref 41), (1, .ref 32), (2, .int (x2 + (1)))] rfl ?_
      obtain rfl := Option.some.inj hf
      have hZ := hc ((x2 + (1)), (upd r45 x2.toNatClampNeg (x2 * ((r41 6) + (1 : Int32)))), (upd (upd r50 ((((upd r45 x2.toNatClampNeg (x2 * ((r41 6) + (1 : Int32)))) x2.toNatClampNeg) + x2).toNatClampNeg) o13) ((((upd r45 x2.toNatClampNeg (x2 * ((r41 6) + (1 : Int32)))) x2.toNatClampNeg) + (r41 6)).toNatClampNeg) (1 : Int32))) rfl
      replace hZ := mj_u2p hZ
      replace hZ := mj_u2p hZ
      exact hZ
set_option maxRecDepth 100000 in
set_option maxHeartbeats 4000000 in
theorem lpX2_write_182 {X : mj_XT} {l : Launch} {G : mj_GT} {ad : Nat → Nat} {Qn : Option Value → mj_IT → mj_LT → Prop} (hR : mj_R X l G mj_P0 mj_S0 98 ad 0 0 Qn) (F : Nat) (I : mj_IT) (L : mj_LT) (r32 : Nat → Int32) (r36 : Nat → Int32) (r37 : Nat → Int32) (r38 : Nat → Int32) (r39 : Nat → Int32) (r41 : Nat → Int32) (r43 : Nat → Int32) (r44 : Nat → Int32) (r45 : Nat → Int32) (r50 : Nat → Int32) : ∀ (n : Nat) (s : ((Int32) × (Nat → Int32))) (e : ((Nat → Int32))), mj_it (mj_u2 (fun z0 z1 => bdX2_write_182 F r37 r38 r39 r41 r43 r44 r45 z0 z1)) n s = some e → (fun r50 => mj_W X G RX2 "write" cX2_write 4 4 none mj_P0 mj_S0 98 ad 0 0 202 [] [] (mj_rows I [(32, r32), (36, r36), (37, r37), (38, r38), (39, r39), (41, r41), (43, r43), (44, r44), (45, r45), (50, r50)]) L) e → (mj_u2 (fun x2 r50 => mj_W X G RX2 "write" cX2_write 4 4 none mj_P0 mj_S0 98 ad 0 0 182 [(0, .ref 41), (1, .ref 32), (2, .int x2)] [] (mj_rows I [(32, r32), (36, r36), (37, r37), (38, r38), (39, r39), (41, r41), (43, r43), (44, r44), (45, r45), (50, r50)]) L)) s := by
  refine mj_loop (fun s o hf hc hx => ?_)
  obtain ⟨x2, r50⟩ := s
  replace hf := mj_u2e hf
  refine mj_u2q ?_
  unfold bdX2_write_182 at hf
  refine mj_iload_n 2 dX2_write_182 rfl ?_
  refine mj_aload_n 0 dX2_write_183 rfl ?_
  refine mj_getIv (v := (r41 6)) rfl fl_X2_91 rfl s0_41 a0_41 dX2_write_184 ?_
  refine mj_icmp_ge 202 dX2_write_187 (by decide) (fun c20 => ?_) (fun c20 => ?_)
  · replace hf := mj_pos c20 hf
    refine mj_sub [] [] rfl ?_
    obtain rfl := Option.some.inj hf
    have hZ := hx r50 rfl
    exact hZ
  · replace hf := mj_neg c20 hf
    refine mj_aload_n 0 dX2_write_190 rfl ?_
    refine mj_aload_n 1 dX2_write_191 rfl ?_
    refine mj_iload_n 2 dX2_write_192 rfl ?_
    obtain ⟨o21, ho21, hf⟩ := mj_bd hf
    refine mj_callVd (I2 := (mj_rows I [(32, r32), (36, r36), (37, r37), (38, r38), (39, r39), (41, r41), (43, r43), (44, r44), (45, r45), (50, o21)])) (L2 := L) (s1 := []) (st := []) [.ref 32, .int x2] (cmX2_writeArcs X.2.1 G F x2 _ _ r37 r38 r39 r43 r44 r45 r50 rfl rfl rfl rfl rfl rfl rfl o21 ho21) (mj_rr rfl) rfl cw_X2_113 s0_41 a0_41 (by decide) rfl rfl (Nat.le_of_ble_eq_true rfl) ⟨Nat.zero_le _, Nat.zero_le _⟩ dX2_write_193 rfl ?_
    refine mj_iinc 2 [(2, .int (x2 + (1))), (0, .ref 41), (1, .ref 32)] dX2_write_196 rfl (kz_1 _) (by decide) rfl ?_
    refine mj_goto 182 dX2_write_199 (by decide) ?_
    refine mj_sub [1, 2, 0] [(0, .ref 41), (1, .ref 32), (2, .int (x2 + (1)))] rfl ?_
    obtain rfl := Option.some.inj hf
    have hZ := hc ((x2 + (1)), o21) rfl
    replace hZ := mj_u2p hZ
    exact hZ
set_option maxRecDepth 100000 in
set_option maxHeartbeats 4000000 in
theorem mtX2_write {X : mj_XT} {l : Launch} {G : mj_GT} {ad : Nat → Nat} {Qn : Option Value → mj_IT → mj_LT → Prop} (hR : mj_R X l G mj_P0 mj_S0 98 ad 0 0 Qn) (F : Nat) (I : mj_IT) (L : mj_LT) (r32 : Nat → Int32) (r36 : Nat → Int32) (r37 : Nat → Int32) (r38 : Nat → Int32) (r39 : Nat → Int32) (r41 : Nat → Int32) (r43 : Nat → Int32) (r44 : Nat → Int32) (r45 : Nat → Int32) (r50 : Nat → Int32) (o : ((Nat → Int32) × (Nat → Int32) × (Nat → Int32) × (Nat → Int32) × (Nat → Int32))) (hf : fnX2_write F r32 r36 r37 r38 r39 r41 r43 r44 r45 r50 = some o) (hq : (mj_u2 (fun r41 => (mj_u2 (fun r43 => (mj_u2 (fun r44 => (mj_u2 (fun r45 r50 => Qn none (mj_rows I [(32, r32), (36, r36), (37, r37), (38, r38), (39, r39), (41, r41), (43, r43), (44, r44), (45, r45), (50, r50)]) L)))))))) o) : mj_W X G RX2 "write" cX2_write 4 4 none mj_P0 mj_S0 98 ad 0 0 0 [(0, .ref 41), (1, .ref 32)] [] (mj_rows I [(32, r32), (36, r36), (37, r37), (38, r38), (39, r39), (41, r41), (43, r43), (44, r44), (45, r45), (50, r50)]) L := by
  unfold fnX2_write at hf
  refine mj_aload_n 0 dX2_write_0 rfl ?_
  refine mj_iconst dX2_write_1 kc_iconst_0 ?_
  refine mj_putIr (ci := 1) (j := 6) [(32, r32), (36, r36), (37, r37), (38, r38), (39, r39), (41, (upd r41 6 (0 : Int32))), (43, r43), (44, r44), (45, r45), (50, r50)] rfl ⟨rfl, rfl⟩ fl_X2_91 rfl rfl s0_41 a0_41 dX2_write_2 ?_
  refine mj_iconst dX2_write_5 kc_iconst_0 ?_
  refine mj_istore_n [(2, .int (0 : Int32)), (0, .ref 41), (1, .ref 32)] dX2_write_6 rfl (by decide) rfl ?_
  refine mj_sub [1, 2, 0] [(0, .ref 41), (1, .ref 32), (2, .int (0 : Int32))] rfl ?_
  obtain ⟨e22, ho22, hf⟩ := mj_bd hf
  refine lpX2_write_7 hR F I L r32 r36 r37 r38 r39 (upd r41 6 (0 : Int32)) r43 r44 r45 r50 F ((0 : Int32), (upd r41 6 (0 : Int32)), r43, r44) e22 ho22 ?_
  obtain ⟨r41_22, r43_22, r44_22⟩ := e22
  replace hf := mj_u2e hf
  replace hf := mj_u2e hf
  refine ?_
  refine mj_u2q ?_
  refine mj_u2q ?_
  refine mj_aload_n 0 dX2_write_75 rfl ?_
  refine mj_getP p0_41_14 (by decide) fl_X2_37 rfl s0_41 a0_41 dX2_write_76 ?_
  refine mj_iconst dX2_write_79 kc_iconst_0 ?_
  refine mj_aload_n 0 dX2_write_80 rfl ?_
  refine mj_getIv (v := (r41_22 6)) rfl fl_X2_91 rfl s0_41 a0_41 dX2_write_81 ?_
  refine mj_aload_n 0 dX2_write_84 rfl ?_
  refine mj_getIv (v := (r41_22 6)) rfl fl_X2_91 rfl s0_41 a0_41 dX2_write_85 ?_
  refine mj_iconst dX2_write_88 kc_iconst_1 ?_
  refine mj_iadd dX2_write_89 ?_
  refine mj_imul dX2_write_90 ?_
  refine mj_iconst dX2_write_91 kc_iconst_0 ?_
  obtain ⟨o23, ho23, hf⟩ := mj_bd hf
  refine mj_callSd (I2 := (mj_rows I [(32, r32), (36, r36), (37, r37), (38, r38), (39, r39), (41, r41_22), (43, r43_22), (44, r44_22), (45, r45), (50, o23)])) (L2 := L) (s1 := []) (st := []) [.ref 50, .int (0 : Int32), .int ((r41_22 6) * ((r41_22 6) + (1 : Int32))), .int (0 : Int32)] (cmJ7_fill_fda19 X.2.1 G F (0 : Int32) ((r41_22 6) * ((r41_22 6) + (1 : Int32))) (0 : Int32) _ _ r50 rfl o23 ho23) (mj_rr rfl) rfl cw_X2_104 (by decide) rfl rfl (Nat.le_of_ble_eq_true rfl) ⟨Nat.zero_le _, Nat.zero_le _⟩ dX2_write_92 rfl ?_
  refine mj_iconst dX2_write_95 kc_iconst_0 ?_
  refine mj_istore_n [(2, .int (0 : Int32)), (0, .ref 41), (1, .ref 32)] dX2_write_96 rfl (by decide) rfl ?_
  refine mj_sub [1, 2, 0] [(0, .ref 41), (1, .ref 32), (2, .int (0 : Int32))] rfl ?_
  obtain ⟨e24, ho24, hf⟩ := mj_bd hf
  refine lpX2_write_97 hR F I L r32 r36 r37 r38 r39 r41_22 r43_22 r44_22 r45 o23 F ((0 : Int32), r45, o23) e24 ho24 ?_
  obtain ⟨r45_24, r50_24⟩ := e24
  replace hf := mj_u2e hf
  refine ?_
  refine mj_u2q ?_
  refine mj_iconst dX2_write_180 kc_iconst_0 ?_
  refine mj_istore_n [(2, .int (0 : Int32)), (0, .ref 41), (1, .ref 32)] dX2_write_181 rfl (by decide) rfl ?_
  refine mj_sub [1, 2, 0] [(0, .ref 41), (1, .ref 32), (2, .int (0 : Int32))] rfl ?_
  obtain ⟨r50_25, ho25, hf⟩ := mj_bd hf
  refine lpX2_write_182 hR F I L r32 r36 r37 r38 r39 r41_22 r43_22 r44_22 r45_24 r50_24 F ((0 : Int32), r50_24) r50_25 ho25 ?_
  refine ?_
  obtain rfl := Option.some.inj hf
  have hZ := hq
  replace hZ := mj_u2p hZ
  replace hZ := mj_u2p hZ
  replace hZ := mj_u2p hZ
  replace hZ := mj_u2p hZ
  exact mj_vret hR ⟨Nat.le_refl _, Nat.le_refl _⟩ rfl dX2_write_202 hZ
set_option maxRecDepth 100000 in
set_option maxHeartbeats 4000000 in
theorem cmX2_write (l : Launch) (G : mj_GT) (F : Nat) (I : mj_IT) (L : mj_LT) (r32 : Nat → Int32) (r36 : Nat → Int32) (r37 : Nat → Int32) (r38 : Nat → Int32) (r39 : Nat → Int32) (r41 : Nat → Int32) (r43 : Nat → Int32) (r44 : Nat → Int32) (r45 : Nat → Int32) (r50 : Nat → Int32) (hr32 : I 32 = r32) (hr36 : I 36 = r36) (hr37 : I 37 = r37) (hr38 : I 38 = r38) (hr39 : I 39 = r39) (hr41 : I 41 = r41) (hr43 : I 43 = r43) (hr44 : I 44 = r44) (hr45 : I 45 = r45) (hr50 : I 50 = r50) (o : ((Nat → Int32) × (Nat → Int32) × (Nat → Int32) × (Nat → Int32) × (Nat → Int32))) (hf : fnX2_write F r32 r36 r37 r38 r39 r41 r43 r44 r45 r50 = some o) : mj_M l G yX2_write cX2_write 4 4 none 0 0 mj_P0 mj_S0 98 [.ref 41, .ref 32] I L (mj_qd none (mj_rows I [(32, r32), (36, r36), (37, r37), (38, r38), (39, r39), (41, o.1), (43, o.2.1), (44, o.2.2.1), (45, o.2.2.2.1), (50, o.2.2.2.2)]) L) := by
  refine mj_in RX2 "write" [(0, .ref 41), (1, .ref 32)] rfl rfl rfl (by decide) (Nat.le_of_ble_eq_true rfl) (fun X ad hR => ?_)
  refine mj_toI [(32, r32), (36, r36), (37, r37), (38, r38), (39, r39), (41, r41), (43, r43), (44, r44), (45, r45), (50, r50)] (by intro q hq; simp only [List.mem_cons, List.not_mem_nil, or_false] at hq; rcases hq with rfl | rfl | rfl | rfl | rfl | rfl | rfl | rfl | rfl | rfl <;> assumption) ?_
  refine mtX2_write hR F I L r32 r36 r37 r38 r39 r41 r43 r44 r45 r50 o hf ?_
  obtain ⟨w0, w1, w2, w3, w4⟩ := o
  refine mj_u2q ?_
  refine mj_u2q ?_
  refine mj_u2q ?_
  refine mj_u2q ?_
  exact ⟨rfl, rfl, rfl⟩

-- X3_inverse
def bdX3_inverse_7 (F : Nat) (x1 : Int32) (x2 : Int32) (x3 : Int32) : Option (((Int32) × (Int32) × (Int32)) ⊕ ((Int32))) := (if x3 ≤ 0 then some (.inr x2) else (if (x3 &&& (1 : Int32)) = (1 : Int32) then (fnX3_times F x2 x1).bind (fun o4 => (fnX3_times F x1 x1).bind (fun o5 => some (.inl (o5, o4, (x3 >>> ((1 : Int32) &&& 31)))))) else (fnX3_times F x1 x1).bind (fun o3 => some (.inl (o3, x2, (x3 >>> ((1 : Int32) &&& 31)))))))
def fnX3_inverse (F : Nat) (x0 : Int32) : Option ((Int32)) := (mj_it (mj_u2 (fun z0 => (mj_u2 (fun z1 z2 => bdX3_inverse_7 F z0 z1 z2)))) F (x0, (1 : Int32), (998244351 : Int32))).bind (fun x2_6 => some x2_6)
set_option maxRecDepth 100000 in
set_option maxHeartbeats 4000000 in
theorem lpX3_inverse_7 {X : mj_XT} {l : Launch} {G : mj_GT} {ad : Nat → Nat} {Qn : Option Value → mj_IT → mj_LT → Prop} (hR : mj_R X l G mj_P0 mj_S0 98 ad 0 0 Qn) (F : Nat) (I : mj_IT) (L : mj_LT) : ∀ (n : Nat) (s : ((Int32) × (Int32) × (Int32))) (e : ((Int32))), mj_it (mj_u2 (fun z0 => (mj_u2 (fun z1 z2 => bdX3_inverse_7 F z0 z1 z2)))) n s = some e → (fun x2 => mj_W X G RX3 "inverse" cX3_inverse 4 2 (some .int) mj_P0 mj_S0 98 ad 0 0 37 [(2, .int x2)] [] I L) e → (mj_u2 (fun x1 => (mj_u2 (fun x2 x3 => mj_W X G RX3 "inverse" cX3_inverse 4 2 (some .int) mj_P0 mj_S0 98 ad 0 0 7 [(1, .int x1), (2, .int x2), (3, .int x3)] [] I L)))) s := by
  refine mj_loop (fun s o hf hc hx => ?_)
  obtain ⟨x1, x2, x3⟩ := s
  replace hf := mj_u2e hf
  refine mj_u2q ?_
  replace hf := mj_u2e hf
  refine mj_u2q ?_
  unfold bdX3_inverse_7 at hf
  refine mj_iload_n 2 dX3_inverse_7 rfl ?_
  refine mj_if_le 37 dX3_inverse_8 (by decide) (fun c1 => ?_) (fun c1 => ?_)
  · replace hf := mj_pos c1 hf
    refine mj_sub [1] [(2, .int x2)] rfl ?_
    obtain rfl := Option.some.inj hf
    have hZ := hx x2 rfl
    exact hZ
  · replace hf := mj_neg c1 hf
    refine mj_iload_n 2 dX3_inverse_11 rfl ?_
    refine mj_iconst dX3_inverse_12 kc_iconst_1 ?_
    refine mj_iand dX3_inverse_13 ?_
    refine mj_iconst dX3_inverse_14 kc_iconst_1 ?_
    refine mj_icmp_ne 24 dX3_inverse_15 (by decide) (fun c2 => ?_) (fun c2 => ?_)
    · replace hf := mj_neg c2 hf
      refine mj_iload_n 0 dX3_inverse_24 rfl ?_
      refine mj_iload_n 0 dX3_inverse_25 rfl ?_
      obtain ⟨o3, ho3, hf⟩ := mj_bd hf
      refine mj_callSd (I2 := I) (L2 := L) (s1 := [.int o3]) (st := []) [.int x1, .int x1] (cmX3_times X.2.1 G F x1 x1 _ _   o3 ho3) rfl rfl cw_X3_15 (by decide) rfl rfl (Nat.le_of_ble_eq_true rfl) ⟨Nat.zero_le _, Nat.zero_le _⟩ dX3_inverse_26 rfl ?_
      refine mj_istore_n [(1, .int o3), (2, .int x2), (3, .int x3)] dX3_inverse_29 rfl (by decide) rfl ?_
      refine mj_iload_n 2 dX3_inverse_30 rfl ?_
      refine mj_iconst dX3_inverse_31 kc_iconst_1 ?_
      refine mj_ishr dX3_inverse_32 ?_
      refine mj_istore_n [(3, .int (x3 >>> ((1 : Int32) &&& 31))), (1, .int o3), (2, .int x2)] dX3_inverse_33 rfl (by decide) rfl ?_
      refine mj_goto 7 dX3_inverse_34 (by decide) ?_
      refine mj_sub [1, 2, 0] [(1, .int o3), (2, .int x2), (3, .int (x3 >>> ((1 : Int32) &&& 31)))] rfl ?_
      obtain rfl := Option.some.inj hf
      have hZ := hc (o3, x2, (x3 >>> ((1 : Int32) &&& 31))) rfl
      replace hZ := mj_u2p hZ
      replace hZ := mj_u2p hZ
      exact hZ
    · replace hf := mj_pos c2 hf
      refine mj_iload_n 1 dX3_inverse_18 rfl ?_
      refine mj_iload_n 0 dX3_inverse_19 rfl ?_
      obtain ⟨o4, ho4, hf⟩ := mj_bd hf
      refine mj_callSd (I2 := I) (L2 := L) (s1 := [.int o4]) (st := []) [.int x2, .int x1] (cmX3_times X.2.1 G F x2 x1 _ _   o4 ho4) rfl rfl cw_X3_15 (by decide) rfl rfl (Nat.le_of_ble_eq_true rfl) ⟨Nat.zero_le _, Nat.zero_le _⟩ dX3_inverse_20 rfl ?_
      refine mj_istore_n [(2, .int o4), (1, .int x1), (3, .int x3)] dX3_inverse_23 rfl (by decide) rfl ?_
      refine mj_iload_n 1 dX3_inverse_24 rfl ?_
      refine mj_iload_n 1 dX3_inverse_25 rfl ?_
      obtain ⟨o5, ho5, hf⟩ := mj_bd hf
      refine mj_callSd (I2 := I) (L2 := L) (s1 := [.int o5]) (st := []) [.int x1, .int x1] (cmX3_times X.2.1 G F x1 x1 _ _   o5 ho5) rfl rfl cw_X3_15 (by decide) rfl rfl (Nat.le_of_ble_eq_true rfl) ⟨Nat.zero_le _, Nat.zero_le _⟩ dX3_inverse_26 rfl ?_
      refine mj_istore_n [(1, .int o5), (2, .int o4), (3, .int x3)] dX3_inverse_29 rfl (by decide) rfl ?_
      refine mj_iload_n 2 dX3_inverse_30 rfl ?_
      refine mj_iconst dX3_inverse_31 kc_iconst_1 ?_
      refine mj_ishr dX3_inverse_32 ?_
      refine mj_istore_n [(3, .int (x3 >>> ((1 : Int32) &&& 31))), (1, .int o5), (2, .int o4)] dX3_inverse_33 rfl (by decide) rfl ?_
      refine mj_goto 7 dX3_inverse_34 (by decide) ?_
      refine mj_sub [1, 2, 0] [(1, .int o5), (2, .int o4), (3, .int (x3 >>> ((1 : Int32) &&& 31)))] rfl ?_
      obtain rfl := Option.some.inj hf
      have hZ := hc (o5, o4, (x3 >>> ((1 : Int32) &&& 31))) rfl
      replace hZ := mj_u2p hZ
      replace hZ := mj_u2p hZ
      exact hZ
set_option maxRecDepth 100000 in
set_option maxHeartbeats 4000000 in
theorem mtX3_inverse {X : mj_XT} {l : Launch} {G : mj_GT} {ad : Nat → Nat} {Qn : Option Value → mj_IT → mj_LT → Prop} (hR : mj_R X l G mj_P0 mj_S0 98 ad 0 0 Qn) (F : Nat) (I : mj_IT) (L : mj_LT) (x0 : Int32) (o : ((Int32))) (hf : fnX3_inverse F x0 = some o) (hq : (fun ov => Qn (some (.int ov)) I L) o) : mj_W X G RX3 "inverse" cX3_inverse 4 2 (some .int) mj_P0 mj_S0 98 ad 0 0 0 [(0, .int x0)] [] I L := by
  unfold fnX3_inverse at hf
  refine mj_iload_n 0 dX3_inverse_0 rfl ?_
  refine mj_istore_n [(1, .int x0), (0, .int x0)] dX3_inverse_1 rfl (by decide) rfl ?_
  refine mj_iconst dX3_inverse_2 kc_iconst_1 ?_
  refine mj_istore_n [(2, .int (1 : Int32)), (1, .int x0), (0, .int x0)] dX3_inverse_3 rfl (by decide) rfl ?_
  refine mj_ldc kk_X3_19 dX3_inverse_4 ?_
  refine mj_istore_n [(3, .int (998244351 : Int32)), (2, .int (1 : Int32)), (1, .int x0), (0, .int x0)] dX3_inverse_6 rfl (by decide) rfl ?_
  refine mj_sub [2, 1, 0] [(1, .int x0), (2, .int (1 : Int32)), (3, .int (998244351 : Int32))] rfl ?_
  obtain ⟨x2_6, ho6, hf⟩ := mj_bd hf
  refine lpX3_inverse_7 hR F I L  F (x0, (1 : Int32), (998244351 : Int32)) x2_6 ho6 ?_
  refine ?_
  refine mj_iload_n 0 dX3_inverse_37 rfl ?_
  obtain rfl := Option.some.inj hf
  have hZ := hq
  exact mj_iret hR ⟨Nat.le_refl _, Nat.le_refl _⟩ rfl rfl dX3_inverse_38 hZ
set_option maxRecDepth 100000 in
set_option maxHeartbeats 4000000 in
theorem cmX3_inverse (l : Launch) (G : mj_GT) (F : Nat) (x0 : Int32) (I : mj_IT) (L : mj_LT) (o : ((Int32))) (hf : fnX3_inverse F x0 = some o) : mj_M l G yX3_inverse cX3_inverse 4 2 (some .int) 0 0 mj_P0 mj_S0 98 [.int x0] I L (mj_qd (some (.int o)) I L) := by
  refine mj_in RX3 "inverse" [(0, .int x0)] rfl rfl rfl (by decide) (Nat.le_of_ble_eq_true rfl) (fun X ad hR => ?_)
  refine mtX3_inverse hR F I L x0 o hf ?_
  exact ⟨rfl, rfl, rfl⟩

-- X2_normalise
def bdX2_normalise_34 (F : Nat) (r41 : Nat → Int32) (x1 : Int32) (x3 : Int32) (x4 : Int32) (x5 : Int32) (r46 : Nat → Int32) (r50 : Nat → Int32) : Option (((Int32) × (Int32) × (Nat → Int32) × (Nat → Int32)) ⊕ ((Int32) × (Nat → Int32) × (Nat → Int32))) := (if (r41 6) < x5 then some (.inr (x4, r46, r50)) else (if mj_ib (x1 + x5) 40200 = true then (if (r50 ((x1 + x5).toNatClampNeg)) = 0 then some (.inl (x4, (x5 + (1)), r46, r50)) else (if mj_ib (x1 + x5) 40200 = true then (fnX3_times F (r50 ((x1 + x5).toNatClampNeg)) x3).bind (fun o5 => (if mj_ib (x1 + x5) 40200 = true then (if mj_ib x4 201 = true then some (.inl ((x4 + (1)), (x5 + (1)), (upd r46 x4.toNatClampNeg x5), (upd r50 ((x1 + x5).toNatClampNeg) o5))) else none) else none)) else none)) else none))
def jnX2_normalise_27 (F : Nat) (r41 : Nat → Int32) (x1 : Int32) (x2 : Int32) (t0 : Int32) (r46 : Nat → Int32) (r50 : Nat → Int32) : Option ((Int32) × (Nat → Int32) × (Nat → Int32)) := (mj_it (mj_u2 (fun z0 => (mj_u2 (fun z1 => (mj_u2 (fun z2 z3 => bdX2_normalise_34 F r41 x1 t0 z0 z1 z2 z3)))))) F ((0 : Int32), x2, r46, r50)).bind (mj_u2 (fun x4_8 => (mj_u2 (fun r46_8 r50_8 => some (x4_8, r46_8, r50_8)))))
def fnX2_normalise (F : Nat) (r41 : Nat → Int32) (r46 : Nat → Int32) (r50 : Nat → Int32) (x1 : Int32) (x2 : Int32) : Option ((Int32) × (Nat → Int32) × (Nat → Int32)) := (if mj_ib (x1 + x2) 40200 = true then (if (r50 ((x1 + x2).toNatClampNeg)) = (1 : Int32) then jnX2_normalise_27 F r41 x1 x2 (1 : Int32) r46 r50 else (if mj_ib (x1 + x2) 40200 = true then (fnX3_inverse F (r50 ((x1 + x2).toNatClampNeg))).bind (fun o12 => jnX2_normalise_27 F r41 x1 x2 o12 r46 r50) else none)) else none)
set_option maxRecDepth 100000 in
set_option maxHeartbeats 4000000 in
theorem lpX2_normalise_34 {X : mj_XT} {l : Launch} {G : mj_GT} {ad : Nat → Nat} {Qn : Option Value → mj_IT → mj_LT → Prop} (hR : mj_R X l G mj_P0 mj_S0 98 ad 0 0 Qn) (F : Nat) (I : mj_IT) (L : mj_LT) (r41 : Nat → Int32) (r46 : Nat → Int32) (r50 : Nat → Int32) (x1 : Int32) (x3 : Int32) : ∀ (n : Nat) (s : ((Int32) × (Int32) × (Nat → Int32) × (Nat → Int32))) (e : ((Int32) × (Nat → Int32) × (Nat → Int32))), mj_it (mj_u2 (fun z0 => (mj_u2 (fun z1 => (mj_u2 (fun z2 z3 => bdX2_normalise_34 F r41 x1 x3 z0 z1 z2 z3)))))) n s = some e → (mj_u2 (fun x4 => (mj_u2 (fun r46 r50 => mj_W X G RX2 "normalise" cX2_normalise 6 3 (some .int) mj_P0 mj_S0 98 ad 0 0 95 [(4, .int x4)] [] (mj_rows I [(41, r41), (46, r46), (50, r50)]) L)))) e → (mj_u2 (fun x4 => (mj_u2 (fun x5 => (mj_u2 (fun r46 r50 => mj_W X G RX2 "normalise" cX2_normalise 6 3 (some .int) mj_P0 mj_S0 98 ad 0 0 34 [(0, .ref 41), (1, .int x1), (3, .int x3), (4, .int x4), (5, .int x5)] [] (mj_rows I [(41, r41), (46, r46), (50, r50)]) L)))))) s := by
  refine mj_loop (fun s o hf hc hx => ?_)
  obtain ⟨x4, x5, r46, r50⟩ := s
  replace hf := mj_u2e hf
  refine mj_u2q ?_
  replace hf := mj_u2e hf
  refine mj_u2q ?_
  replace hf := mj_u2e hf
  refine mj_u2q ?_
  unfold bdX2_normalise_34 at hf
  refine mj_iload 4 dX2_normalise_34 rfl ?_
  refine mj_aload_n 0 dX2_normalise_36 rfl ?_
  refine mj_getIv (v := (r41 6)) rfl fl_X2_91 rfl s0_41 a0_41 dX2_normalise_37 ?_
  refine mj_icmp_gt 95 dX2_normalise_40 (by decide) (fun c1 => ?_) (fun c1 => ?_)
  · replace hf := mj_pos c1 hf
    refine mj_sub [3] [(4, .int x4)] rfl ?_
    obtain rfl := Option.some.inj hf
    have hZ := hx (x4, r46, r50) rfl
    replace hZ := mj_u2p hZ
    replace hZ := mj_u2p hZ
    exact hZ
  · replace hf := mj_neg c1 hf
    refine mj_aload_n 0 dX2_normalise_43 rfl ?_
    refine mj_getP p0_41_14 (by decide) fl_X2_37 rfl s0_41 a0_41 dX2_normalise_44 ?_
    refine mj_iload_n 1 dX2_normalise_47 rfl ?_
    refine mj_iload 4 dX2_normalise_48 rfl ?_
    refine mj_iadd dX2_normalise_50 ?_
    obtain ⟨z2, hf⟩ := mj_ck hf
    refine mj_ialdv (x := r50) rfl s0_50 a0_50 z2 dX2_normalise_51 ?_
    refine mj_if_eq 89 dX2_normalise_52 (by decide) (fun c3 => ?_) (fun c3 => ?_)
    · replace hf := mj_pos c3 hf
      refine mj_iinc 4 [(5, .int (x5 + (1))), (0, .ref 41), (1, .int x1), (3, .int x3), (4, .int x4)] dX2_normalise_89 rfl (kz_1 _) (by decide) rfl ?_
      refine mj_goto 34 dX2_normalise_92 (by decide) ?_
      refine mj_sub [1, 2, 3, 4, 0] [(0, .ref 41), (1, .int x1), (3, .int x3), (4, .int x4), (5, .int (x5 + (1)))] rfl ?_
      obtain rfl := Option.some.inj hf
      have hZ := hc (x4, (x5 + (1)), r46, r50) rfl
      replace hZ := mj_u2p hZ
      replace hZ := mj_u2p hZ
      replace hZ := mj_u2p hZ
      exact hZ
    · replace hf := mj_neg c3 hf
      refine mj_aload_n 0 dX2_normalise_55 rfl ?_
      refine mj_getP p0_41_14 (by decide) fl_X2_37 rfl s0_41 a0_41 dX2_normalise_56 ?_
      refine mj_iload_n 1 dX2_normalise_59 rfl ?_
      refine mj_iload 4 dX2_normalise_60 rfl ?_
      refine mj_iadd dX2_normalise_62 ?_
      refine mj_aload_n 0 dX2_normalise_63 rfl ?_
      refine mj_getP p0_41_14 (by decide) fl_X2_37 rfl s0_41 a0_41 dX2_normalise_64 ?_
      refine mj_iload_n 1 dX2_normalise_67 rfl ?_
      refine mj_iload 4 dX2_normalise_68 rfl ?_
      refine mj_iadd dX2_normalise_70 ?_
      obtain ⟨z4, hf⟩ := mj_ck hf
      refine mj_ialdv (x := r50) rfl s0_50 a0_50 z4 dX2_normalise_71 ?_
      refine mj_iload_n 2 dX2_normalise_72 rfl ?_
      obtain ⟨o5, ho5, hf⟩ := mj_bd hf
      refine mj_callSd (I2 := (mj_rows I [(41, r41), (46, r46), (50, r50)])) (L2 := L) (s1 := [.int o5, .int (x1 + x5), .ref 50]) (st := [.int (x1 + x5), .ref 50]) [.int (r50 ((x1 + x5).toNatClampNeg)), .int x3] (cmX3_times X.2.1 G F (r50 ((x1 + x5).toNatClampNeg)) x3 _ _   o5 ho5) rfl rfl cw_X2_81 (by decide) rfl rfl (Nat.le_of_ble_eq_true rfl) ⟨Nat.zero_le _, Nat.zero_le _⟩ dX2_normalise_73 rfl ?_
      obtain ⟨z6, hf⟩ := mj_ck hf
      refine mj_iastr [(41, r41), (46, r46), (50, (upd r50 ((x1 + x5).toNatClampNeg) o5))] rfl s0_50 a0_50 z6 dX2_normalise_76 ?_
      refine mj_aload_n 0 dX2_normalise_77 rfl ?_
      refine mj_getP p0_41_10 (by decide) fl_X2_24 rfl s0_41 a0_41 dX2_normalise_78 ?_
      refine mj_iload 3 dX2_normalise_81 rfl ?_
      refine mj_iload 4 dX2_normalise_83 rfl ?_
      obtain ⟨z7, hf⟩ := mj_ck hf
      refine mj_iastr [(41, r41), (46, (upd r46 x4.toNatClampNeg x5)), (50, (upd r50 ((x1 + x5).toNatClampNeg) o5))] rfl s0_46 a0_46 z7 dX2_normalise_85 ?_
      refine mj_iinc 3 [(4, .int (x4 + (1))), (0, .ref 41), (1, .int x1), (3, .int x3), (5, .int x5)] dX2_normalise_86 rfl (kz_1 _) (by decide) rfl ?_
      refine mj_iinc 4 [(5, .int (x5 + (1))), (4, .int (x4 + (1))), (0, .ref 41), (1, .int x1), (3, .int x3)] dX2_normalise_89 rfl (kz_1 _) (by decide) rfl ?_
      refine mj_goto 34 dX2_normalise_92 (by decide) ?_
      refine mj_sub [2, 3, 4, 1, 0] [(0, .ref 41), (1, .int x1), (3, .int x3), (4, .int (x4 + (1))), (5, .int (x5 + (1)))] rfl ?_
      obtain rfl := Option.some.inj hf
      have hZ := hc ((x4 + (1)), (x5 + (1)), (upd r46 x4.toNatClampNeg x5), (upd r50 ((x1 + x5).toNatClampNeg) o5)) rfl
      replace hZ := mj_u2p hZ
      replace hZ := mj_u2p hZ
      replace hZ := mj_u2p hZ
      exact hZ
set_option maxRecDepth 100000 in
set_option maxHeartbeats 4000000 in
theorem jtX2_normalise_27 {X : mj_XT} {l : Launch} {G : mj_GT} {ad : Nat → Nat} {Qn : Option Value → mj_IT → mj_LT → Prop} (hR : mj_R X l G mj_P0 mj_S0 98 ad 0 0 Qn) (F : Nat) (I : mj_IT) (L : mj_LT) (r41 : Nat → Int32) (r46 : Nat → Int32) (r50 : Nat → Int32) (x1 : Int32) (x2 : Int32) (t0 : Int32) (o : ((Int32) × (Nat → Int32) × (Nat → Int32))) (hf : jnX2_normalise_27 F r41 x1 x2 t0 r46 r50 = some o) (hq : (mj_u2 (fun ov => (mj_u2 (fun r46 r50 => Qn (some (.int ov)) (mj_rows I [(41, r41), (46, r46), (50, r50)]) L)))) o) : mj_W X G RX2 "normalise" cX2_normalise 6 3 (some .int) mj_P0 mj_S0 98 ad 0 0 27 [(0, .ref 41), (1, .int x1), (2, .int x2)] [.int t0] (mj_rows I [(41, r41), (46, r46), (50, r50)]) L := by
  unfold jnX2_normalise_27 at hf
  refine mj_istore_n [(3, .int t0), (0, .ref 41), (1, .int x1), (2, .int x2)] dX2_normalise_27 rfl (by decide) rfl ?_
  refine mj_iconst dX2_normalise_28 kc_iconst_0 ?_
  refine mj_istore [(4, .int (0 : Int32)), (3, .int t0), (0, .ref 41), (1, .int x1), (2, .int x2)] dX2_normalise_29 (by decide) rfl ?_
  refine mj_iload_n 4 dX2_normalise_31 rfl ?_
  refine mj_istore [(5, .int x2), (4, .int (0 : Int32)), (3, .int t0), (0, .ref 41), (1, .int x1), (2, .int x2)] dX2_normalise_32 (by decide) rfl ?_
  refine mj_sub [3, 4, 2, 1, 0] [(0, .ref 41), (1, .int x1), (3, .int t0), (4, .int (0 : Int32)), (5, .int x2)] rfl ?_
  obtain ⟨e8, ho8, hf⟩ := mj_bd hf
  refine lpX2_normalise_34 hR F I L r41 r46 r50 x1 t0 F ((0 : Int32), x2, r46, r50) e8 ho8 ?_
  obtain ⟨x4_8, r46_8, r50_8⟩ := e8
  replace hf := mj_u2e hf
  replace hf := mj_u2e hf
  refine ?_
  refine mj_u2q ?_
  refine mj_u2q ?_
  refine mj_iload 0 dX2_normalise_95 rfl ?_
  obtain rfl := Option.some.inj hf
  have hZ := hq
  replace hZ := mj_u2p hZ
  replace hZ := mj_u2p hZ
  exact mj_iret hR ⟨Nat.le_refl _, Nat.le_refl _⟩ rfl rfl dX2_normalise_97 hZ
set_option maxRecDepth 100000 in
set_option maxHeartbeats 4000000 in
theorem mtX2_normalise {X : mj_XT} {l : Launch} {G : mj_GT} {ad : Nat → Nat} {Qn : Option Value → mj_IT → mj_LT → Prop} (hR : mj_R X l G mj_P0 mj_S0 98 ad 0 0 Qn) (F : Nat) (I : mj_IT) (L : mj_LT) (r41 : Nat → Int32) (r46 : Nat → Int32) (r50 : Nat → Int32) (x1 : Int32) (x2 : Int32) (o : ((Int32) × (Nat → Int32) × (Nat → Int32))) (hf : fnX2_normalise F r41 r46 r50 x1 x2 = some o) (hq : (mj_u2 (fun ov => (mj_u2 (fun r46 r50 => Qn (some (.int ov)) (mj_rows I [(41, r41), (46, r46), (50, r50)]) L)))) o) : mj_W X G RX2 "normalise" cX2_normalise 6 3 (some .int) mj_P0 mj_S0 98 ad 0 0 0 [(0, .ref 41), (1, .int x1), (2, .int x2)] [] (mj_rows I [(41, r41), (46, r46), (50, r50)]) L := by
  unfold fnX2_normalise at hf
  refine mj_aload_n 0 dX2_normalise_0 rfl ?_
  refine mj_getP p0_41_14 (by decide) fl_X2_37 rfl s0_41 a0_41 dX2_normalise_1 ?_
  refine mj_iload_n 1 dX2_normalise_4 rfl ?_
  refine mj_iload_n 2 dX2_normalise_5 rfl ?_
  refine mj_iadd dX2_normalise_6 ?_
  obtain ⟨z9, hf⟩ := mj_ck hf
  refine mj_ialdv (x := r50) rfl s0_50 a0_50 z9 dX2_normalise_7 ?_
  refine mj_iconst dX2_normalise_8 kc_iconst_1 ?_
  refine mj_icmp_ne 16 dX2_normalise_9 (by decide) (fun c10 => ?_) (fun c10 => ?_)
  · replace hf := mj_neg c10 hf
    refine mj_aload_n 0 dX2_normalise_16 rfl ?_
    refine mj_getP p0_41_14 (by decide) fl_X2_37 rfl s0_41 a0_41 dX2_normalise_17 ?_
    refine mj_iload_n 1 dX2_normalise_20 rfl ?_
    refine mj_iload_n 2 dX2_normalise_21 rfl ?_
    refine mj_iadd dX2_normalise_22 ?_
    obtain ⟨z11, hf⟩ := mj_ck hf
    refine mj_ialdv (x := r50) rfl s0_50 a0_50 z11 dX2_normalise_23 ?_
    obtain ⟨o12, ho12, hf⟩ := mj_bd hf
    refine mj_callSd (I2 := (mj_rows I [(41, r41), (46, r46), (50, r50)])) (L2 := L) (s1 := [.int o12]) (st := []) [.int (r50 ((x1 + x2).toNatClampNeg))] (cmX3_inverse X.2.1 G F (r50 ((x1 + x2).toNatClampNeg)) _ _   o12 ho12) rfl rfl cw_X2_75 (by decide) rfl rfl (Nat.le_of_ble_eq_true rfl) ⟨Nat.zero_le _, Nat.zero_le _⟩ dX2_normalise_24 rfl ?_
    exact jtX2_normalise_27 hR F I L r41 r46 r50 x1 x2 o12 o hf hq
  · replace hf := mj_pos c10 hf
    refine mj_iconst dX2_normalise_12 kc_iconst_1 ?_
    refine mj_goto 27 dX2_normalise_13 (by decide) ?_
    exact jtX2_normalise_27 hR F I L r41 r46 r50 x1 x2 (1 : Int32) o hf hq
set_option maxRecDepth 100000 in
set_option maxHeartbeats 4000000 in
theorem cmX2_normalise (l : Launch) (G : mj_GT) (F : Nat) (x1 : Int32) (x2 : Int32) (I : mj_IT) (L : mj_LT) (r41 : Nat → Int32) (r46 : Nat → Int32) (r50 : Nat → Int32) (hr41 : I 41 = r41) (hr46 : I 46 = r46) (hr50 : I 50 = r50) (o : ((Int32) × (Nat → Int32) × (Nat → Int32))) (hf : fnX2_normalise F r41 r46 r50 x1 x2 = some o) : mj_M l G yX2_normalise cX2_normalise 6 3 (some .int) 0 0 mj_P0 mj_S0 98 [.ref 41, .int x1, .int x2] I L (mj_qd (some (.int o.1)) (mj_rows I [(41, r41), (46, o.2.1), (50, o.2.2)]) L) := by
  refine mj_in RX2 "normalise" [(0, .ref 41), (1, .int x1), (2, .int x2)] rfl rfl rfl (by decide) (Nat.le_of_ble_eq_true rfl) (fun X ad hR => ?_)
  refine mj_toI [(41, r41), (46, r46), (50, r50)] (by intro q hq; simp only [List.mem_cons, List.not_mem_nil, or_false] at hq; rcases hq with rfl | rfl | rfl <;> assumption) ?_
  refine mtX2_normalise hR F I L r41 r46 r50 x1 x2 o hf ?_
  obtain ⟨w0, w1, w2⟩ := o
  refine mj_u2q ?_
  refine mj_u2q ?_
  exact ⟨rfl, rfl, rfl⟩

-- X2_takeAway
def bdX2_takeAway_19 (F : Nat) (r46 : Nat → Int32) (x1 : Int32) (x2 : Int32) (x4 : Int32) (x5 : Int32) (x6 : Int32) (r50 : Nat → Int32) : Option (((Int32) × (Nat → Int32)) ⊕ ((Nat → Int32))) := (if x4 ≤ x6 then some (.inr r50) else (if mj_ib x6 201 = true then (if mj_ib (x2 + (r46 x6.toNatClampNeg)) 40200 = true then (if mj_ib (x1 + (r46 x6.toNatClampNeg)) 40200 = true then (fnX3_times F x5 (r50 ((x1 + (r46 x6.toNatClampNeg)).toNatClampNeg))).bind (fun o5 => (fnX3_less F (r50 ((x2 + (r46 x6.toNatClampNeg)).toNatClampNeg)) o5).bind (fun o6 => (if mj_ib (x2 + (r46 x6.toNatClampNeg)) 40200 = true then some (.inl ((x6 + (1)), (upd r50 ((x2 + (r46 x6.toNatClampNeg)).toNatClampNeg) o6))) else none))) else none) else none) else none))
def fnX2_takeAway (F : Nat) (r46 : Nat → Int32) (r50 : Nat → Int32) (x1 : Int32) (x2 : Int32) (x3 : Int32) (x4 : Int32) : Option ((Nat → Int32)) := (if mj_ib (x2 + x3) 40200 = true then (if (r50 ((x2 + x3).toNatClampNeg)) = 0 then some r50 else (mj_it (mj_u2 (fun z0 z1 => bdX2_takeAway_19 F r46 x1 x2 x4 (r50 ((x2 + x3).toNatClampNeg)) z0 z1)) F ((0 : Int32), r50)).bind (fun r50_10 => some r50_10)) else none)
set_option maxRecDepth 100000 in
set_option maxHeartbeats 4000000 in
theorem lpX2_takeAway_19 {X : mj_XT} {l : Launch} {G : mj_GT} {ad : Nat → Nat} {Qn : Option Value → mj_IT → mj_LT → Prop} (hR : mj_R X l G mj_P0 mj_S0 98 ad 0 0 Qn) (F : Nat) (I : mj_IT) (L : mj_LT) (r46 : Nat → Int32) (r50 : Nat → Int32) (x1 : Int32) (x2 : Int32) (x4 : Int32) (x5 : Int32) : ∀ (n : Nat) (s : ((Int32) × (Nat → Int32))) (e : ((Nat → Int32))), mj_it (mj_u2 (fun z0 z1 => bdX2_takeAway_19 F r46 x1 x2 x4 x5 z0 z1)) n s = some e → (fun r50 => mj_W X G RX2 "takeAway" cX2_takeAway 8 2 none mj_P0 mj_S0 98 ad 0 0 76 [] [] (mj_rows I [(46, r46), (50, r50)]) L) e → (mj_u2 (fun x6 r50 => mj_W X G RX2 "takeAway" cX2_takeAway 8 2 none mj_P0 mj_S0 98 ad 0 0 19 [(0, .ref 41), (1, .int x1), (2, .int x2), (4, .int x4), (5, .int x5), (6, .int x6)] [] (mj_rows I [(46, r46), (50, r50)]) L)) s := by
  refine mj_loop (fun s o hf hc hx => ?_)
  obtain ⟨x6, r50⟩ := s
  replace hf := mj_u2e hf
  refine mj_u2q ?_
  unfold bdX2_takeAway_19 at hf
  refine mj_iload 5 dX2_takeAway_19 rfl ?_
  refine mj_iload 3 dX2_takeAway_21 rfl ?_
  refine mj_icmp_ge 76 dX2_takeAway_23 (by decide) (fun c1 => ?_) (fun c1 => ?_)
  · replace hf := mj_pos c1 hf
    refine mj_sub [] [] rfl ?_
    obtain rfl := Option.some.inj hf
    have hZ := hx r50 rfl
    exact hZ
  · replace hf := mj_neg c1 hf
    refine mj_aload_n 0 dX2_takeAway_26 rfl ?_
    refine mj_getP p0_41_10 (by decide) fl_X2_24 rfl s0_41 a0_41 dX2_takeAway_27 ?_
    refine mj_iload 5 dX2_takeAway_30 rfl ?_
    obtain ⟨z2, hf⟩ := mj_ck hf
    refine mj_ialdv (x := r46) rfl s0_46 a0_46 z2 dX2_takeAway_32 ?_
    refine mj_istore [(7, .int (r46 x6.toNatClampNeg)), (0, .ref 41), (1, .int x1), (2, .int x2), (4, .int x4), (5, .int x5), (6, .int x6)] dX2_takeAway_33 (by decide) rfl ?_
    refine mj_aload_n 1 dX2_takeAway_35 rfl ?_
    refine mj_getP p0_41_14 (by decide) fl_X2_37 rfl s0_41 a0_41 dX2_takeAway_36 ?_
    refine mj_iload_n 3 dX2_takeAway_39 rfl ?_
    refine mj_iload 0 dX2_takeAway_40 rfl ?_
    refine mj_iadd dX2_takeAway_42 ?_
    refine mj_aload_n 1 dX2_takeAway_43 rfl ?_
    refine mj_getP p0_41_14 (by decide) fl_X2_37 rfl s0_41 a0_41 dX2_takeAway_44 ?_
    refine mj_iload_n 3 dX2_takeAway_47 rfl ?_
    refine mj_iload 0 dX2_takeAway_48 rfl ?_
    refine mj_iadd dX2_takeAway_50 ?_
    obtain ⟨z3, hf⟩ := mj_ck hf
    refine mj_ialdv (x := r50) rfl s0_50 a0_50 z3 dX2_takeAway_51 ?_
    refine mj_iload 5 dX2_takeAway_52 rfl ?_
    refine mj_aload_n 1 dX2_takeAway_54 rfl ?_
    refine mj_getP p0_41_14 (by decide) fl_X2_37 rfl s0_41 a0_41 dX2_takeAway_55 ?_
    refine mj_iload_n 2 dX2_takeAway_58 rfl ?_
    refine mj_iload 0 dX2_takeAway_59 rfl ?_
    refine mj_iadd dX2_takeAway_61 ?_
    obtain ⟨z4, hf⟩ := mj_ck hf
    refine mj_ialdv (x := r50) rfl s0_50 a0_50 z4 dX2_takeAway_62 ?_
    obtain ⟨o5, ho5, hf⟩ := mj_bd hf
    refine mj_callSd (I2 := (mj_rows I [(46, r46), (50, r50)])) (L2 := L) (s1 := [.int o5, .int (r50 ((x2 + (r46 x6.toNatClampNeg)).toNatClampNeg)), .int (x2 + (r46 x6.toNatClampNeg)), .ref 50]) (st := [.int (r50 ((x2 + (r46 x6.toNatClampNeg)).toNatClampNeg)), .int (x2 + (r46 x6.toNatClampNeg)), .ref 50]) [.int x5, .int (r50 ((x1 + (r46 x6.toNatClampNeg)).toNatClampNeg))] (cmX3_times X.2.1 G F x5 (r50 ((x1 + (r46 x6.toNatClampNeg)).toNatClampNeg)) _ _   o5 ho5) rfl rfl cw_X2_81 (by decide) rfl rfl (Nat.le_of_ble_eq_true rfl) ⟨Nat.zero_le _, Nat.zero_le _⟩ dX2_takeAway_63 rfl ?_
    obtain ⟨o6, ho6, hf⟩ := mj_bd hf
    refine mj_callSd (I2 := (mj_rows I [(46, r46), (50, r50)])) (L2 := L) (s1 := [.int o6, .int (x2 + (r46 x6.toNatClampNeg)), .ref 50]) (st := [.int (x2 + (r46 x6.toNatClampNeg)), .ref 50]) [.int (r50 ((x2 + (r46 x6.toNatClampNeg)).toNatClampNeg)), .int o5] (cmX3_less X.2.1 G F (r50 ((x2 + (r46 x6.toNatClampNeg)).toNatClampNeg)) o5 _ _   o6 ho6) rfl rfl cw_X2_85 (by decide) rfl rfl (Nat.le_of_ble_eq_true rfl) ⟨Nat.zero_le _, Nat.zero_le _⟩ dX2_takeAway_66 rfl ?_
    obtain ⟨z7, hf⟩ := mj_ck hf
    refine mj_iastr [(46, r46), (50, (upd r50 ((x2 + (r46 x6.toNatClampNeg)).toNatClampNeg) o6))] rfl s0_50 a0_50 z7 dX2_takeAway_69 ?_
    refine mj_iinc 6 [(6, .int (x6 + (1))), (7, .int (r46 x6.toNatClampNeg)), (0, .ref 41), (1, .int x1), (2, .int x2), (4, .int x4), (5, .int x5)] dX2_takeAway_70 rfl (kz_1 _) (by decide) rfl ?_
    refine mj_goto 19 dX2_takeAway_73 (by decide) ?_
    refine mj_sub [2, 3, 4, 5, 6, 0] [(0, .ref 41), (1, .int x1), (2, .int x2), (4, .int x4), (5, .int x5), (6, .int (x6 + (1)))] rfl ?_
    obtain rfl := Option.some.inj hf
    have hZ := hc ((x6 + (1)), (upd r50 ((x2 + (r46 x6.toNatClampNeg)).toNatClampNeg) o6)) rfl
    replace hZ := mj_u2p hZ
    exact hZ
set_option maxRecDepth 100000 in
set_option maxHeartbeats 4000000 in
theorem mtX2_takeAway {X : mj_XT} {l : Launch} {G : mj_GT} {ad : Nat → Nat} {Qn : Option Value → mj_IT → mj_LT → Prop} (hR : mj_R X l G mj_P0 mj_S0 98 ad 0 0 Qn) (F : Nat) (I : mj_IT) (L : mj_LT) (r46 : Nat → Int32) (r50 : Nat → Int32) (x1 : Int32) (x2 : Int32) (x3 : Int32) (x4 : Int32) (o : ((Nat → Int32))) (hf : fnX2_takeAway F r46 r50 x1 x2 x3 x4 = some o) (hq : (fun r50 => Qn none (mj_rows I [(46, r46), (50, r50)]) L) o) : mj_W X G RX2 "takeAway" cX2_takeAway 8 2 none mj_P0 mj_S0 98 ad 0 0 0 [(0, .ref 41), (1, .int x1), (2, .int x2), (3, .int x3), (4, .int x4)] [] (mj_rows I [(46, r46), (50, r50)]) L := by
  unfold fnX2_takeAway at hf
  refine mj_aload_n 0 dX2_takeAway_0 rfl ?_
  refine mj_getP p0_41_14 (by decide) fl_X2_37 rfl s0_41 a0_41 dX2_takeAway_1 ?_
  refine mj_iload_n 2 dX2_takeAway_4 rfl ?_
  refine mj_iload_n 3 dX2_takeAway_5 rfl ?_
  refine mj_iadd dX2_takeAway_6 ?_
  obtain ⟨z8, hf⟩ := mj_ck hf
  refine mj_ialdv (x := r50) rfl s0_50 a0_50 z8 dX2_takeAway_7 ?_
  refine mj_istore [(5, .int (r50 ((x2 + x3).toNatClampNeg))), (0, .ref 41), (1, .int x1), (2, .int x2), (3, .int x3), (4, .int x4)] dX2_takeAway_8 (by decide) rfl ?_
  refine mj_iload 0 dX2_takeAway_10 rfl ?_
  refine mj_if_ne 16 dX2_takeAway_12 (by decide) (fun c9 => ?_) (fun c9 => ?_)
  · replace hf := mj_neg c9 hf
    refine mj_iconst dX2_takeAway_16 kc_iconst_0 ?_
    refine mj_istore [(6, .int (0 : Int32)), (5, .int (r50 ((x2 + x3).toNatClampNeg))), (0, .ref 41), (1, .int x1), (2, .int x2), (3, .int x3), (4, .int x4)] dX2_takeAway_17 (by decide) rfl ?_
    refine mj_sub [2, 3, 4, 6, 1, 0] [(0, .ref 41), (1, .int x1), (2, .int x2), (4, .int x4), (5, .int (r50 ((x2 + x3).toNatClampNeg))), (6, .int (0 : Int32))] rfl ?_
    obtain ⟨r50_10, ho10, hf⟩ := mj_bd hf
    refine lpX2_takeAway_19 hR F I L r46 r50 x1 x2 x4 (r50 ((x2 + x3).toNatClampNeg)) F ((0 : Int32), r50) r50_10 ho10 ?_
    refine ?_
    obtain rfl := Option.some.inj hf
    have hZ := hq
    exact mj_vret hR ⟨Nat.le_refl _, Nat.le_refl _⟩ rfl dX2_takeAway_76 hZ
  · replace hf := mj_pos c9 hf
    obtain rfl := Option.some.inj hf
    have hZ := hq
    exact mj_vret hR ⟨Nat.le_refl _, Nat.le_refl _⟩ rfl dX2_takeAway_15 hZ
set_option maxRecDepth 100000 in
set_option maxHeartbeats 4000000 in
theorem cmX2_takeAway (l : Launch) (G : mj_GT) (F : Nat) (x1 : Int32) (x2 : Int32) (x3 : Int32) (x4 : Int32) (I : mj_IT) (L : mj_LT) (r46 : Nat → Int32) (r50 : Nat → Int32) (hr46 : I 46 = r46) (hr50 : I 50 = r50) (o : ((Nat → Int32))) (hf : fnX2_takeAway F r46 r50 x1 x2 x3 x4 = some o) : mj_M l G yX2_takeAway cX2_takeAway 8 2 none 0 0 mj_P0 mj_S0 98 [.ref 41, .int x1, .int x2, .int x3, .int x4] I L (mj_qd none (mj_rows I [(46, r46), (50, o)]) L) := by
  refine mj_in RX2 "takeAway" [(0, .ref 41), (1, .int x1), (2, .int x2), (3, .int x3), (4, .int x4)] rfl rfl rfl (by decide) (Nat.le_of_ble_eq_true rfl) (fun X ad hR => ?_)
  refine mj_toI [(46, r46), (50, r50)] (by intro q hq; simp only [List.mem_cons, List.not_mem_nil, or_false] at hq; rcases hq with rfl | rfl <;> assumption) ?_
  refine mtX2_takeAway hR F I L r46 r50 x1 x2 x3 x4 o hf ?_
  exact ⟨rfl, rfl, rfl⟩

