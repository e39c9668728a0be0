-- X11_sum
def jnX11_sum_60 (F : Nat) (r77 : Nat → Int32) (x1 : Int32) (x2 : Int32) (x3 : Int32) (t1 : Int32) (t2 : Int32) (r71 : Nat → Int32) (r74 : Nat → Int32) : Option ((Nat → Int32) × (Nat → Int32)) := (if mj_ib t1 480 = true then (if x2 = 0 then (if x3 = 0 then (if mj_ib (x1 + (1 : Int32)) 480 = true then some (r71, (upd (upd r74 t1.toNatClampNeg t2) ((x1 + (1 : Int32)).toNatClampNeg) (-10 : Int32))) else none) else (fnX11_term F r71 r77).bind (fun o7 => (if mj_ib (x1 + (1 : Int32)) 480 = true then some (o7.2, (upd (upd r74 t1.toNatClampNeg t2) ((x1 + (1 : Int32)).toNatClampNeg) o7.1)) else none))) else (fnX11_term F r71 r77).bind (fun o3 => (if mj_ib (x1 + (1 : Int32)) 480 = true then some (o3.2, (upd (upd r74 t1.toNatClampNeg t2) ((x1 + (1 : Int32)).toNatClampNeg) o3.1)) else none))) else none)
def jnX11_sum_35 (F : Nat) (r77 : Nat → Int32) (x1 : Int32) (x2 : Int32) (t0 : Int32) (r71 : Nat → Int32) (r74 : Nat → Int32) : Option ((Nat → Int32) × (Nat → Int32)) := (if x2 = 0 then (if t0 = 0 then jnX11_sum_60 F r77 x1 x2 t0 (x1 + (2 : Int32)) (0 : Int32) r71 r74 else jnX11_sum_60 F r77 x1 x2 t0 (x1 + (2 : Int32)) (-1 : Int32) r71 r74) else jnX11_sum_60 F r77 x1 x2 t0 (x1 + (2 : Int32)) (1 : Int32) r71 r74)
def jnX11_sum_34 (F : Nat) (r77 : Nat → Int32) (x1 : Int32) (x2 : Int32) (r71 : Nat → Int32) (r74 : Nat → Int32) : Option ((Nat → Int32) × (Nat → Int32)) := jnX11_sum_35 F r77 x1 x2 (0 : Int32) r71 r74
def fnX11_sum (F : Nat) (r71 : Nat → Int32) (r74 : Nat → Int32) (r77 : Nat → Int32) (x1 : Int32) : Option ((Nat → Int32) × (Nat → Int32)) := (fnX11_term F r71 r77).bind (fun o11 => (if mj_ib x1 480 = true then (fnX11_takes F o11.2 r77 (43 : Int32)).bind (fun o13 => (if o13.1 = 0 then (fnX11_takes F o13.2 r77 (45 : Int32)).bind (fun o15 => (if o15.1 = 0 then jnX11_sum_34 F r77 x1 o13.1 o15.2 (upd r74 x1.toNatClampNeg o11.1) else jnX11_sum_35 F r77 x1 o13.1 (1 : Int32) o15.2 (upd r74 x1.toNatClampNeg o11.1))) else jnX11_sum_34 F r77 x1 o13.1 o13.2 (upd r74 x1.toNatClampNeg o11.1))) else none))
set_option maxRecDepth 100000 in
set_option maxHeartbeats 4000000 in
theorem jtX11_sum_60 {X : mj_XT} {l : Launch} {G : mj_GT} {ad : Nat → Nat} {Qn : Option Value → mj_IT → mj_LT → Prop} (hR : mj_R X l G mj_P0 mj_S0 98 ad 0 0 Qn) (F : Nat) (I : mj_IT) (L : mj_LT) (r71 : Nat → Int32) (r74 : Nat → Int32) (r77 : Nat → Int32) (x1 : Int32) (x2 : Int32) (x3 : Int32) (t1 : Int32) (t2 : Int32) (o : ((Nat → Int32) × (Nat → Int32))) (hf : jnX11_sum_60 F r77 x1 x2 x3 t1 t2 r71 r74 = some o) (hq : (mj_u2 (fun r71 r74 => Qn none (mj_rows I [(71, r71), (74, r74), (77, r77)]) L)) o) : mj_W X G RX11 "sum" cX11_sum 4 6 none mj_P0 mj_S0 98 ad 0 0 60 [(0, .ref 71), (1, .int x1), (2, .int x2), (3, .int x3)] [.int t2, .int t1, .ref 74] (mj_rows I [(71, r71), (74, r74), (77, r77)]) L := by
  unfold jnX11_sum_60 at hf
  obtain ⟨z1, hf⟩ := mj_ck hf
  refine mj_iastr [(71, r71), (74, (upd r74 t1.toNatClampNeg t2)), (77, r77)] rfl s0_74 a0_74 z1 dX11_sum_60 ?_
  refine mj_aload_n 0 dX11_sum_61 rfl ?_
  refine mj_getP p0_71_3 (by decide) fl_X11_95 rfl s0_71 a0_71 dX11_sum_62 ?_
  refine mj_iload_n 1 dX11_sum_65 rfl ?_
  refine mj_iconst dX11_sum_66 kc_iconst_1 ?_
  refine mj_iadd dX11_sum_67 ?_
  refine mj_iload_n 2 dX11_sum_68 rfl ?_
  refine mj_if_ne 76 dX11_sum_69 (by decide) (fun c2 => ?_) (fun c2 => ?_)
  · replace hf := mj_neg c2 hf
    refine mj_aload_n 0 dX11_sum_76 rfl ?_
    obtain ⟨o3, ho3, hf⟩ := mj_bd hf
    refine mj_callVd (I2 := (mj_rows I [(71, o3.2), (74, (upd r74 t1.toNatClampNeg t2)), (77, r77)])) (L2 := L) (s1 := [.int o3.1, .int (x1 + (1 : Int32)), .ref 74]) (st := [.int (x1 + (1 : Int32)), .ref 74]) [] (cmX11_term X.2.1 G F  _ _ r71 r77 rfl rfl o3 ho3) (mj_rr rfl) rfl cw_X11_98 s0_71 a0_71 (by decide) rfl rfl (Nat.le_of_ble_eq_true rfl) ⟨Nat.zero_le _, Nat.zero_le _⟩ dX11_sum_77 rfl ?_
    refine mj_goto 85 dX11_sum_80 (by decide) ?_
    obtain ⟨z4, hf⟩ := mj_ck hf
    refine mj_iastr [(71, o3.2), (74, (upd (upd r74 t1.toNatClampNeg t2) ((x1 + (1 : Int32)).toNatClampNeg) o3.1)), (77, r77)] rfl s0_74 a0_74 z4 dX11_sum_85 ?_
    obtain rfl := Option.some.inj hf
    have hZ := hq
    replace hZ := mj_u2p hZ
    exact mj_vret hR ⟨Nat.le_refl _, Nat.le_refl _⟩ rfl dX11_sum_86 hZ
  · replace hf := mj_pos c2 hf
    refine mj_iload_n 3 dX11_sum_72 rfl ?_
    refine mj_if_eq 83 dX11_sum_73 (by decide) (fun c5 => ?_) (fun c5 => ?_)
    · replace hf := mj_pos c5 hf
      refine mj_bipush dX11_sum_83 kc_bipush_m10 ?_
      obtain ⟨z6, hf⟩ := mj_ck hf
      refine mj_iastr [(71, r71), (74, (upd (upd r74 t1.toNatClampNeg t2) ((x1 + (1 : Int32)).toNatClampNeg) (-10 : Int32))), (77, r77)] rfl s0_74 a0_74 z6 dX11_sum_85 ?_
      obtain rfl := Option.some.inj hf
      have hZ := hq
      replace hZ := mj_u2p hZ
      exact mj_vret hR ⟨Nat.le_refl _, Nat.le_refl _⟩ rfl dX11_sum_86 hZ
    · replace hf := mj_neg c5 hf
      refine mj_aload_n 0 dX11_sum_76 rfl ?_
      obtain ⟨o7, ho7, hf⟩ := mj_bd hf
      refine mj_callVd (I2 := (mj_rows I [(71, o7.2), (74, (upd r74 t1.toNatClampNeg t2)), (77, r77)])) (L2 := L) (s1 := [.int o7.1, .int (x1 + (1 : Int32)), .ref 74]) (st := [.int (x1 + (1 : Int32)), .ref 74]) [] (cmX11_term X.2.1 G F  _ _ r71 r77 rfl rfl o7 ho7) (mj_rr rfl) rfl cw_X11_98 s0_71 a0_71 (by decide) rfl rfl (Nat.le_of_ble_eq_true rfl) ⟨Nat.zero_le _, Nat.zero_le _⟩ dX11_sum_77 rfl ?_
      refine mj_goto 85 dX11_sum_80 (by decide) ?_
      obtain ⟨z8, hf⟩ := mj_ck hf
      refine mj_iastr [(71, o7.2), (74, (upd (upd r74 t1.toNatClampNeg t2) ((x1 + (1 : Int32)).toNatClampNeg) o7.1)), (77, r77)] rfl s0_74 a0_74 z8 dX11_sum_85 ?_
      obtain rfl := Option.some.inj hf
      have hZ := hq
      replace hZ := mj_u2p hZ
      exact mj_vret hR ⟨Nat.le_refl _, Nat.le_refl _⟩ rfl dX11_sum_86 hZ
set_option maxRecDepth 100000 in
set_option maxHeartbeats 4000000 in
theorem jtX11_sum_35 {X : mj_XT} {l : Launch} {G : mj_GT} {ad : Nat → Nat} {Qn : Option Value → mj_IT → mj_LT → Prop} (hR : mj_R X l G mj_P0 mj_S0 98 ad 0 0 Qn) (F : Nat) (I : mj_IT) (L : mj_LT) (r71 : Nat → Int32) (r74 : Nat → Int32) (r77 : Nat → Int32) (x1 : Int32) (x2 : Int32) (t0 : Int32) (o : ((Nat → Int32) × (Nat → Int32))) (hf : jnX11_sum_35 F r77 x1 x2 t0 r71 r74 = some o) (hq : (mj_u2 (fun r71 r74 => Qn none (mj_rows I [(71, r71), (74, r74), (77, r77)]) L)) o) : mj_W X G RX11 "sum" cX11_sum 4 6 none mj_P0 mj_S0 98 ad 0 0 35 [(0, .ref 71), (1, .int x1), (2, .int x2)] [.int t0] (mj_rows I [(71, r71), (74, r74), (77, r77)]) L := by
  unfold jnX11_sum_35 at hf
  refine mj_istore_n [(3, .int t0), (0, .ref 71), (1, .int x1), (2, .int x2)] dX11_sum_35 rfl (by decide) rfl ?_
  refine mj_aload_n 1 dX11_sum_36 rfl ?_
  refine mj_getP p0_71_3 (by decide) fl_X11_95 rfl s0_71 a0_71 dX11_sum_37 ?_
  refine mj_iload_n 2 dX11_sum_40 rfl ?_
  refine mj_iconst dX11_sum_41 kc_iconst_2 ?_
  refine mj_iadd dX11_sum_42 ?_
  refine mj_iload_n 3 dX11_sum_43 rfl ?_
  refine mj_if_eq 51 dX11_sum_44 (by decide) (fun c9 => ?_) (fun c9 => ?_)
  · replace hf := mj_pos c9 hf
    refine mj_iload_n 0 dX11_sum_51 rfl ?_
    refine mj_if_eq 59 dX11_sum_52 (by decide) (fun c10 => ?_) (fun c10 => ?_)
    · replace hf := mj_pos c10 hf
      refine mj_iconst dX11_sum_59 kc_iconst_0 ?_
      refine mj_sub [1, 2, 3, 0] [(0, .ref 71), (1, .int x1), (2, .int x2), (3, .int t0)] rfl ?_
      exact jtX11_sum_60 hR F I L r71 r74 r77 x1 x2 t0 (x1 + (2 : Int32)) (0 : Int32) o hf hq
    · replace hf := mj_neg c10 hf
      refine mj_iconst dX11_sum_55 kc_iconst_m1 ?_
      refine mj_goto 60 dX11_sum_56 (by decide) ?_
      refine mj_sub [1, 2, 3, 0] [(0, .ref 71), (1, .int x1), (2, .int x2), (3, .int t0)] rfl ?_
      exact jtX11_sum_60 hR F I L r71 r74 r77 x1 x2 t0 (x1 + (2 : Int32)) (-1 : Int32) o hf hq
  · replace hf := mj_neg c9 hf
    refine mj_iconst dX11_sum_47 kc_iconst_1 ?_
    refine mj_goto 60 dX11_sum_48 (by decide) ?_
    refine mj_sub [1, 2, 3, 0] [(0, .ref 71), (1, .int x1), (2, .int x2), (3, .int t0)] rfl ?_
    exact jtX11_sum_60 hR F I L r71 r74 r77 x1 x2 t0 (x1 + (2 : Int32)) (1 : Int32) o hf hq
set_option maxRecDepth 100000 in
set_option maxHeartbeats 4000000 in
theorem jtX11_sum_34 {X : mj_XT} {l : Launch} {G : mj_GT} {ad : Nat → Nat} {Qn : Option Value → mj_IT → mj_LT → Prop} (hR : mj_R X l G mj_P0 mj_S0 98 ad 0 0 Qn) (F : Nat) (I : mj_IT) (L : mj_LT) (r71 : Nat → Int32) (r74 : Nat → Int32) (r77 : Nat → Int32) (x1 : Int32) (x2 : Int32) (o : ((Nat → Int32) × (Nat → Int32))) (hf : jnX11_sum_34 F r77 x1 x2 r71 r74 = some o) (hq : (mj_u2 (fun r71 r74 => Qn none (mj_rows I [(71, r71), (74, r74), (77, r77)]) L)) o) : mj_W X G RX11 "sum" cX11_sum 4 6 none mj_P0 mj_S0 98 ad 0 0 34 [(0, .ref 71), (1, .int x1), (2, .int x2)] [] (mj_rows I [(71, r71), (74, r74), (77, r77)]) L := by
  unfold jnX11_sum_34 at hf
  refine mj_iconst dX11_sum_34 kc_iconst_0 ?_
  exact jtX11_sum_35 hR F I L r71 r74 r77 x1 x2 (0 : Int32) o hf hq
set_option maxRecDepth 100000 in
set_option maxHeartbeats 4000000 in
theorem mtX11_sum {X : mj_XT} {l : Launch} {G : mj_GT} {ad : Nat → Nat} {Qn : Option Value → mj_IT → mj_LT → Prop} (hR : mj_R X l G mj_P0 mj_S0 98 ad 0 0 Qn) (F : Nat) (I : mj_IT) (L : mj_LT) (r71 : Nat → Int32) (r74 : Nat → Int32) (r77 : Nat → Int32) (x1 : Int32) (o : ((Nat → Int32) × (Nat → Int32))) (hf : fnX11_sum F r71 r74 r77 x1 = some o) (hq : (mj_u2 (fun r71 r74 => Qn none (mj_rows I [(71, r71), (74, r74), (77, r77)]) L)) o) : mj_W X G RX11 "sum" cX11_sum 4 6 none mj_P0 mj_S0 98 ad 0 0 0 [(0, .ref 71), (1, .int x1)] [] (mj_rows I [(71, r71), (74, r74), (77, r77)]) L := by
  unfold fnX11_sum at hf
  refine mj_aload_n 0 dX11_sum_0 rfl ?_
  refine mj_getP p0_71_3 (by decide) fl_X11_95 rfl s0_71 a0_71 dX11_sum_1 ?_
  refine mj_iload_n 1 dX11_sum_4 rfl ?_
  refine mj_aload_n 0 dX11_sum_5 rfl ?_
  obtain ⟨o11, ho11, hf⟩ := mj_bd hf
  refine mj_callVd (I2 := (mj_rows I [(71, o11.2), (74, r74), (77, r77)])) (L2 := L) (s1 := [.int o11.1, .int x1, .ref 74]) (st := [.int x1, .ref 74]) [] (cmX11_term X.2.1 G F  _ _ r71 r77 rfl rfl o11 ho11) (mj_rr rfl) rfl cw_X11_98 s0_71 a0_71 (by decide) rfl rfl (Nat.le_of_ble_eq_true rfl) ⟨Nat.zero_le _, Nat.zero_le _⟩ dX11_sum_6 rfl ?_
  obtain ⟨z12, hf⟩ := mj_ck hf
  refine mj_iastr [(71, o11.2), (74, (upd r74 x1.toNatClampNeg o11.1)), (77, r77)] rfl s0_74 a0_74 z12 dX11_sum_9 ?_
  refine mj_aload_n 0 dX11_sum_10 rfl ?_
  refine mj_bipush dX11_sum_11 kc_bipush_43 ?_
  obtain ⟨o13, ho13, hf⟩ := mj_bd hf
  refine mj_callVd (I2 := (mj_rows I [(71, o13.2), (74, (upd r74 x1.toNatClampNeg o11.1)), (77, r77)])) (L2 := L) (s1 := [.int o13.1]) (st := []) [.int (43 : Int32)] (cmX11_takes X.2.1 G F (43 : Int32) _ _ o11.2 r77 rfl rfl o13 ho13) (mj_rr rfl) rfl cw_X11_61 s0_71 a0_71 (by decide) rfl rfl (Nat.le_of_ble_eq_true rfl) ⟨Nat.zero_le _, Nat.zero_le _⟩ dX11_sum_13 rfl ?_
  refine mj_istore_n [(2, .int o13.1), (0, .ref 71), (1, .int x1)] dX11_sum_16 rfl (by decide) rfl ?_
  refine mj_iload_n 0 dX11_sum_17 rfl ?_
  refine mj_if_ne 34 dX11_sum_18 (by decide) (fun c14 => ?_) (fun c14 => ?_)
  · replace hf := mj_neg c14 hf
    refine mj_sub [1, 2, 0] [(0, .ref 71), (1, .int x1), (2, .int o13.1)] rfl ?_
    exact jtX11_sum_34 hR F I L o13.2 (upd r74 x1.toNatClampNeg o11.1) r77 x1 o13.1 o hf hq
  · replace hf := mj_pos c14 hf
    refine mj_aload_n 1 dX11_sum_21 rfl ?_
    refine mj_bipush dX11_sum_22 kc_bipush_45 ?_
    obtain ⟨o15, ho15, hf⟩ := mj_bd hf
    refine mj_callVd (I2 := (mj_rows I [(71, o15.2), (74, (upd r74 x1.toNatClampNeg o11.1)), (77, r77)])) (L2 := L) (s1 := [.int o15.1]) (st := []) [.int (45 : Int32)] (cmX11_takes X.2.1 G F (45 : Int32) _ _ o13.2 r77 rfl rfl o15 ho15) (mj_rr rfl) rfl cw_X11_61 s0_71 a0_71 (by decide) rfl rfl (Nat.le_of_ble_eq_true rfl) ⟨Nat.zero_le _, Nat.zero_le _⟩ dX11_sum_24 rfl ?_
    refine mj_if_eq 34 dX11_sum_27 (by decide) (fun c16 => ?_) (fun c16 => ?_)
    · replace hf := mj_pos c16 hf
      refine mj_sub [1, 2, 0] [(0, .ref 71), (1, .int x1), (2, .int o13.1)] rfl ?_
      exact jtX11_sum_34 hR F I L o15.2 (upd r74 x1.toNatClampNeg o11.1) r77 x1 o13.1 o hf hq
    · replace hf := mj_neg c16 hf
      refine mj_iconst dX11_sum_30 kc_iconst_1 ?_
      refine mj_goto 35 dX11_sum_31 (by decide) ?_
      refine mj_sub [1, 2, 0] [(0, .ref 71), (1, .int x1), (2, .int o13.1)] rfl ?_
      exact jtX11_sum_35 hR F I L o15.2 (upd r74 x1.toNatClampNeg o11.1) r77 x1 o13.1 (1 : Int32) o hf hq
set_option maxRecDepth 100000 in
set_option maxHeartbeats 4000000 in
theorem cmX11_sum (l : Launch) (G : mj_GT) (F : Nat) (x1 : Int32) (I : mj_IT) (L : mj_LT) (r71 : Nat → Int32) (r74 : Nat → Int32) (r77 : Nat → Int32) (hr71 : I 71 = r71) (hr74 : I 74 = r74) (hr77 : I 77 = r77) (o : ((Nat → Int32) × (Nat → Int32))) (hf : fnX11_sum F r71 r74 r77 x1 = some o) : mj_M l G yX11_sum cX11_sum 4 6 none 0 0 mj_P0 mj_S0 98 [.ref 71, .int x1] I L (mj_qd none (mj_rows I [(71, o.1), (74, o.2), (77, r77)]) L) := by
  refine mj_in RX11 "sum" [(0, .ref 71), (1, .int x1)] rfl rfl rfl (by decide) (Nat.le_of_ble_eq_true rfl) (fun X ad hR => ?_)
  refine mj_toI [(71, r71), (74, r74), (77, r77)] (by intro q hq; simp only [List.mem_cons, List.not_mem_nil, or_false] at hq; rcases hq with rfl | rfl | rfl <;> assumption) ?_
  refine mtX11_sum hR F I L r71 r74 r77 x1 o hf ?_
  obtain ⟨w0, w1⟩ := o
  refine mj_u2q ?_
  exact ⟨rfl, rfl, rfl⟩

-- X11_test
def jnX11_test_64 (F : Nat) (r77 : Nat → Int32) (x1 : Int32) (x2 : Int32) (r71 : Nat → Int32) (r74 : Nat → Int32) : Option ((Nat → Int32) × (Nat → Int32)) := (if mj_ib (((12 : Int32) * x1) + (11 : Int32)) 480 = true then (fnX11_sum F (upd r71 11 ((r71 11) + (1 : Int32))) (upd r74 ((((12 : Int32) * x1) + (11 : Int32)).toNatClampNeg) x2) r77 (((12 : Int32) * x1) + (8 : Int32))).bind (fun o2 => some (o2.1, o2.2)) else none)
def jnX11_test_55 (F : Nat) (r77 : Nat → Int32) (x1 : Int32) (x2 : Int32) (r71 : Nat → Int32) (r74 : Nat → Int32) : Option ((Nat → Int32) × (Nat → Int32)) := (fnX11_wrong F r71 (1 : Int32) (r71 11)).bind (fun o3 => jnX11_test_64 F r77 x1 x2 o3 r74)
def jnX11_test_44 (F : Nat) (r77 : Nat → Int32) (x1 : Int32) (x2 : Int32) (r71 : Nat → Int32) (r74 : Nat → Int32) : Option ((Nat → Int32) × (Nat → Int32)) := (if (r71 11) < (r71 10) then jnX11_test_64 F r77 x1 x2 r71 r74 else jnX11_test_55 F r77 x1 x2 r71 r74)
def jnX11_test_25 (F : Nat) (r77 : Nat → Int32) (x1 : Int32) (t0 : Int32) (r71 : Nat → Int32) (r74 : Nat → Int32) : Option ((Nat → Int32) × (Nat → Int32)) := (if t0 = (61 : Int32) then jnX11_test_44 F r77 x1 t0 r71 r74 else (if t0 = (60 : Int32) then jnX11_test_44 F r77 x1 t0 r71 r74 else (if t0 = (35 : Int32) then jnX11_test_44 F r77 x1 t0 r71 r74 else jnX11_test_55 F r77 x1 t0 r71 r74)))
def fnX11_test (F : Nat) (r71 : Nat → Int32) (r74 : Nat → Int32) (r77 : Nat → Int32) (x1 : Int32) : Option ((Nat → Int32) × (Nat → Int32)) := (fnX11_sum F r71 r74 r77 (((12 : Int32) * x1) + (5 : Int32))).bind (fun o8 => (if (o8.1 14) = 0 then (fnX11_sign F o8.1 r77).bind (fun o10 => jnX11_test_25 F r77 x1 o10.1 o10.2 o8.2) else jnX11_test_25 F r77 x1 (0 : Int32) o8.1 o8.2))
set_option maxRecDepth 100000 in
set_option maxHeartbeats 4000000 in
theorem jtX11_test_64 {X : mj_XT} {l : Launch} {G : mj_GT} {ad : Nat → Nat} {Qn : Option Value → mj_IT → mj_LT → Prop} (hR : mj_R X l G mj_P0 mj_S0 98 ad 0 0 Qn) (F : Nat) (I : mj_IT) (L : mj_LT) (r71 : Nat → Int32) (r74 : Nat → Int32) (r77 : Nat → Int32) (x1 : Int32) (x2 : Int32) (o : ((Nat → Int32) × (Nat → Int32))) (hf : jnX11_test_64 F r77 x1 x2 r71 r74 = some o) (hq : (mj_u2 (fun r71 r74 => Qn none (mj_rows I [(71, r71), (74, r74), (77, r77)]) L)) o) : mj_W X G RX11 "test" cX11_test 3 7 none mj_P0 mj_S0 98 ad 0 0 64 [(0, .ref 71), (1, .int x1), (2, .int x2)] [] (mj_rows I [(71, r71), (74, r74), (77, r77)]) L := by
  unfold jnX11_test_64 at hf
  refine mj_aload_n 0 dX11_test_64 rfl ?_
  refine mj_getP p0_71_3 (by decide) fl_X11_95 rfl s0_71 a0_71 dX11_test_65 ?_
  refine mj_bipush dX11_test_68 kc_bipush_12 ?_
  refine mj_iload_n 1 dX11_test_70 rfl ?_
  refine mj_imul dX11_test_71 ?_
  refine mj_bipush dX11_test_72 kc_bipush_11 ?_
  refine mj_iadd dX11_test_74 ?_
  refine mj_iload_n 2 dX11_test_75 rfl ?_
  obtain ⟨z1, hf⟩ := mj_ck hf
  refine mj_iastr [(71, r71), (74, (upd r74 ((((12 : Int32) * x1) + (11 : Int32)).toNatClampNeg) x2)), (77, r77)] rfl s0_74 a0_74 z1 dX11_test_76 ?_
  refine mj_aload_n 0 dX11_test_77 rfl ?_
  refine mj_dup dX11_test_78 rfl ?_
  refine mj_getIv (v := (r71 11)) rfl fl_X11_31 rfl s0_71 a0_71 dX11_test_79 ?_
  refine mj_iconst dX11_test_82 kc_iconst_1 ?_
  refine mj_iadd dX11_test_83 ?_
  refine mj_putIr (ci := 9) (j := 11) [(71, (upd r71 11 ((r71 11) + (1 : Int32)))), (74, (upd r74 ((((12 : Int32) * x1) + (11 : Int32)).toNatClampNeg) x2)), (77, r77)] rfl ⟨rfl, rfl⟩ fl_X11_31 rfl rfl s0_71 a0_71 dX11_test_84 ?_
  refine mj_aload_n 0 dX11_test_87 rfl ?_
  refine mj_bipush dX11_test_88 kc_bipush_12 ?_
  refine mj_iload_n 1 dX11_test_90 rfl ?_
  refine mj_imul dX11_test_91 ?_
  refine mj_bipush dX11_test_92 kc_bipush_8 ?_
  refine mj_iadd dX11_test_94 ?_
  obtain ⟨o2, ho2, hf⟩ := mj_bd hf
  refine mj_callVd (I2 := (mj_rows I [(71, o2.1), (74, o2.2), (77, r77)])) (L2 := L) (s1 := []) (st := []) [.int (((12 : Int32) * x1) + (8 : Int32))] (cmX11_sum X.2.1 G F (((12 : Int32) * x1) + (8 : Int32)) _ _ (upd r71 11 ((r71 11) + (1 : Int32))) (upd r74 ((((12 : Int32) * x1) + (11 : Int32)).toNatClampNeg) x2) r77 rfl rfl rfl o2 ho2) (mj_rr rfl) rfl cw_X11_101 s0_71 a0_71 (by decide) rfl rfl (Nat.le_of_ble_eq_true rfl) ⟨Nat.zero_le _, Nat.zero_le _⟩ dX11_test_95 rfl ?_
  obtain rfl := Option.some.inj hf
  have hZ := hq
  replace hZ := mj_u2p hZ
  exact mj_vret hR ⟨Nat.le_refl _, Nat.le_refl _⟩ rfl dX11_test_98 hZ
set_option maxRecDepth 100000 in
set_option maxHeartbeats 4000000 in
theorem jtX11_test_55 {X : mj_XT} {l : Launch} {G : mj_GT} {ad : Nat → Nat} {Qn : Option Value → mj_IT → mj_LT → Prop} (hR : mj_R X l G mj_P0 mj_S0 98 ad 0 0 Qn) (F : Nat) (I : mj_IT) (L : mj_LT) (r71 : Nat → Int32) (r74 : Nat → Int32) (r77 : Nat → Int32) (x1 : Int32) (x2 : Int32) (o : ((Nat → Int32) × (Nat → Int32))) (hf : jnX11_test_55 F r77 x1 x2 r71 r74 = some o) (hq : (mj_u2 (fun r71 r74 => Qn none (mj_rows I [(71, r71), (74, r74), (77, r77)]) L)) o) : mj_W X G RX11 "test" cX11_test 3 7 none mj_P0 mj_S0 98 ad 0 0 55 [(0, .ref 71), (1, .int x1), (2, .int x2)] [] (mj_rows I [(71, r71), (74, r74), (77, r77)]) L := by
  unfold jnX11_test_55 at hf
  refine mj_aload_n 0 dX11_test_55 rfl ?_
  refine mj_iconst dX11_test_56 kc_iconst_1 ?_
  refine mj_aload_n 0 dX11_test_57 rfl ?_
  refine mj_getIv (v := (r71 11)) rfl fl_X11_31 rfl s0_71 a0_71 dX11_test_58 ?_
  obtain ⟨o3, ho3, hf⟩ := mj_bd hf
  refine mj_callVd (I2 := (mj_rows I [(71, o3), (74, r74), (77, r77)])) (L2 := L) (s1 := []) (st := []) [.int (1 : Int32), .int (r71 11)] (cmX11_wrong X.2.1 G F (1 : Int32) (r71 11) _ _ r71 rfl o3 ho3) (mj_rr rfl) rfl cw_X11_64 s0_71 a0_71 (by decide) rfl rfl (Nat.le_of_ble_eq_true rfl) ⟨Nat.zero_le _, Nat.zero_le _⟩ dX11_test_61 rfl ?_
  exact jtX11_test_64 hR F I L o3 r74 r77 x1 x2 o hf hq
set_option maxRecDepth 100000 in
set_option maxHeartbeats 4000000 in
theorem jtX11_test_44 {X : mj_XT} {l : Launch} {G : mj_GT} {ad : Nat → Nat} {Qn : Option Value → mj_IT → mj_LT → Prop} (hR : mj_R X l G mj_P0 mj_S0 98 ad 0 0 Qn) (F : Nat) (I : mj_IT) (L : mj_LT) (r71 : Nat → Int32) (r74 : Nat → Int32) (r77 : Nat → Int32) (x1 : Int32) (x2 : Int32) (o : ((Nat → Int32) × (Nat → Int32))) (hf : jnX11_test_44 F r77 x1 x2 r71 r74 = some o) (hq : (mj_u2 (fun r71 r74 => Qn none (mj_rows I [(71, r71), (74, r74), (77, r77)]) L)) o) : mj_W X G RX11 "test" cX11_test 3 7 none mj_P0 mj_S0 98 ad 0 0 44 [(0, .ref 71), (1, .int x1), (2, .int x2)] [] (mj_rows I [(71, r71), (74, r74), (77, r77)]) L := by
  unfold jnX11_test_44 at hf
  refine mj_aload_n 0 dX11_test_44 rfl ?_
  refine mj_getIv (v := (r71 11)) rfl fl_X11_31 rfl s0_71 a0_71 dX11_test_45 ?_
  refine mj_aload_n 0 dX11_test_48 rfl ?_
  refine mj_getIv (v := (r71 10)) rfl fl_X11_34 rfl s0_71 a0_71 dX11_test_49 ?_
  refine mj_icmp_lt 64 dX11_test_52 (by decide) (fun c4 => ?_) (fun c4 => ?_)
  · replace hf := mj_pos c4 hf
    exact jtX11_test_64 hR F I L r71 r74 r77 x1 x2 o hf hq
  · replace hf := mj_neg c4 hf
    exact jtX11_test_55 hR F I L r71 r74 r77 x1 x2 o hf hq
set_option maxRecDepth 100000 in
set_option maxHeartbeats 4000000 in
theorem jtX11_test_25 {X : mj_XT} {l : Launch} {G : mj_GT} {ad : Nat → Nat} {Qn : Option Value → mj_IT → mj_LT → Prop} (hR : mj_R X l G mj_P0 mj_S0 98 ad 0 0 Qn) (F : Nat) (I : mj_IT) (L : mj_LT) (r71 : Nat → Int32) (r74 : Nat → Int32) (r77 : Nat → Int32) (x1 : Int32) (t0 : Int32) (o : ((Nat → Int32) × (Nat → Int32))) (hf : jnX11_test_25 F r77 x1 t0 r71 r74 = some o) (hq : (mj_u2 (fun r71 r74 => Qn none (mj_rows I [(71, r71), (74, r74), (77, r77)]) L)) o) : mj_W X G RX11 "test" cX11_test 3 7 none mj_P0 mj_S0 98 ad 0 0 25 [(0, .ref 71), (1, .int x1)] [.int t0] (mj_rows I [(71, r71), (74, r74), (77, r77)]) L := by
  unfold jnX11_test_25 at hf
  refine mj_istore_n [(2, .int t0), (0, .ref 71), (1, .int x1)] dX11_test_25 rfl (by decide) rfl ?_
  refine mj_iload_n 0 dX11_test_26 rfl ?_
  refine mj_bipush dX11_test_27 kc_bipush_61 ?_
  refine mj_icmp_eq 44 dX11_test_29 (by decide) (fun c5 => ?_) (fun c5 => ?_)
  · replace hf := mj_pos c5 hf
    refine mj_sub [1, 2, 0] [(0, .ref 71), (1, .int x1), (2, .int t0)] rfl ?_
    exact jtX11_test_44 hR F I L r71 r74 r77 x1 t0 o hf hq
  · replace hf := mj_neg c5 hf
    refine mj_iload_n 0 dX11_test_32 rfl ?_
    refine mj_bipush dX11_test_33 kc_bipush_60 ?_
    refine mj_icmp_eq 44 dX11_test_35 (by decide) (fun c6 => ?_) (fun c6 => ?_)
    · replace hf := mj_pos c6 hf
      refine mj_sub [1, 2, 0] [(0, .ref 71), (1, .int x1), (2, .int t0)] rfl ?_
      exact jtX11_test_44 hR F I L r71 r74 r77 x1 t0 o hf hq
    · replace hf := mj_neg c6 hf
      refine mj_iload_n 0 dX11_test_38 rfl ?_
      refine mj_bipush dX11_test_39 kc_bipush_35 ?_
      refine mj_icmp_ne 55 dX11_test_41 (by decide) (fun c7 => ?_) (fun c7 => ?_)
      · replace hf := mj_neg c7 hf
        refine mj_sub [1, 2, 0] [(0, .ref 71), (1, .int x1), (2, .int t0)] rfl ?_
        exact jtX11_test_55 hR F I L r71 r74 r77 x1 t0 o hf hq
      · replace hf := mj_pos c7 hf
        refine mj_sub [1, 2, 0] [(0, .ref 71), (1, .int x1), (2, .int t0)] rfl ?_
        exact jtX11_test_44 hR F I L r71 r74 r77 x1 t0 o hf hq
set_option maxRecDepth 100000 in
set_option maxHeartbeats 4000000 in
theorem mtX11_test {X : mj_XT} {l : Launch} {G : mj_GT} {ad : Nat → Nat} {Qn : Option Value → mj_IT → mj_LT → Prop} (hR : mj_R X l G mj_P0 mj_S0 98 ad 0 0 Qn) (F : Nat) (I : mj_IT) (L : mj_LT) (r71 : Nat → Int32) (r74 : Nat → Int32) (r77 : Nat → Int32) (x1 : Int32) (o : ((Nat → Int32) × (Nat → Int32))) (hf : fnX11_test F r71 r74 r77 x1 = some o) (hq : (mj_u2 (fun r71 r74 => Qn none (mj_rows I [(71, r71), (74, r74), (77, r77)]) L)) o) : mj_W X G RX11 "test" cX11_test 3 7 none mj_P0 mj_S0 98 ad 0 0 0 [(0, .ref 71), (1, .int x1)] [] (mj_rows I [(71, r71), (74, r74), (77, r77)]) L := by
  unfold fnX11_test at hf
  refine mj_aload_n 0 dX11_test_0 rfl ?_
  refine mj_bipush dX11_test_1 kc_bipush_12 ?_
  refine mj_iload_n 1 dX11_test_3 rfl ?_
  refine mj_imul dX11_test_4 ?_
  refine mj_iconst dX11_test_5 kc_iconst_5 ?_
  refine mj_iadd dX11_test_6 ?_
  obtain ⟨o8, ho8, hf⟩ := mj_bd hf
  refine mj_callVd (I2 := (mj_rows I [(71, o8.1), (74, o8.2), (77, r77)])) (L2 := L) (s1 := []) (st := []) [.int (((12 : Int32) * x1) + (5 : Int32))] (cmX11_sum X.2.1 G F (((12 : Int32) * x1) + (5 : Int32)) _ _ r71 r74 r77 rfl rfl rfl o8 ho8) (mj_rr rfl) rfl cw_X11_101 s0_71 a0_71 (by decide) rfl rfl (Nat.le_of_ble_eq_true rfl) ⟨Nat.zero_le _, Nat.zero_le _⟩ dX11_test_7 rfl ?_
  refine mj_aload_n 0 dX11_test_10 rfl ?_
  refine mj_getIv (v := (o8.1 14)) rfl fl_X11_25 rfl s0_71 a0_71 dX11_test_11 ?_
  refine mj_if_ne 24 dX11_test_14 (by decide) (fun c9 => ?_) (fun c9 => ?_)
  · replace hf := mj_neg c9 hf
    refine mj_iconst dX11_test_24 kc_iconst_0 ?_
    exact jtX11_test_25 hR F I L o8.1 o8.2 r77 x1 (0 : Int32) o hf hq
  · replace hf := mj_pos c9 hf
    refine mj_aload_n 0 dX11_test_17 rfl ?_
    obtain ⟨o10, ho10, hf⟩ := mj_bd hf
    refine mj_callVd (I2 := (mj_rows I [(71, o10.2), (74, o8.2), (77, r77)])) (L2 := L) (s1 := [.int o10.1]) (st := []) [] (cmX11_sign X.2.1 G F  _ _ o8.1 r77 rfl rfl o10 ho10) (mj_rr rfl) rfl cw_X11_40 s0_71 a0_71 (by decide) rfl rfl (Nat.le_of_ble_eq_true rfl) ⟨Nat.zero_le _, Nat.zero_le _⟩ dX11_test_18 rfl ?_
    refine mj_goto 25 dX11_test_21 (by decide) ?_
    exact jtX11_test_25 hR F I L o10.2 o8.2 r77 x1 o10.1 o hf hq
set_option maxRecDepth 100000 in
set_option maxHeartbeats 4000000 in
theorem cmX11_test (l : Launch) (G : mj_GT) (F : Nat) (x1 : Int32) (I : mj_IT) (L : mj_LT) (r71 : Nat → Int32) (r74 : Nat → Int32) (r77 : Nat → Int32) (hr71 : I 71 = r71) (hr74 : I 74 = r74) (hr77 : I 77 = r77) (o : ((Nat → Int32) × (Nat → Int32))) (hf : fnX11_test F r71 r74 r77 x1 = some o) : mj_M l G yX11_test cX11_test 3 7 none 0 0 mj_P0 mj_S0 98 [.ref 71, .int x1] I L (mj_qd none (mj_rows I [(71, o.1), (74, o.2), (77, r77)]) L) := by
  refine mj_in RX11 "test" [(0, .ref 71), (1, .int x1)] rfl rfl rfl (by decide) (Nat.le_of_ble_eq_true rfl) (fun X ad hR => ?_)
  refine mj_toI [(71, r71), (74, r74), (77, r77)] (by intro q hq; simp only [List.mem_cons, List.not_mem_nil, or_false] at hq; rcases hq with rfl | rfl | rfl <;> assumption) ?_
  refine mtX11_test hR F I L r71 r74 r77 x1 o hf ?_
  obtain ⟨w0, w1⟩ := o
  refine mj_u2q ?_
  exact ⟨rfl, rfl, rfl⟩

-- X11_isChance
def fnX11_isChance (F : Nat) (x0 : Int32) : Option ((Int32)) := (if x0 < (2 : Int32) then (if x0 = (10 : Int32) then some (1 : Int32) else some (0 : Int32)) else (if x0 ≤ (6 : Int32) then some (1 : Int32) else (if x0 = (10 : Int32) then some (1 : Int32) else some (0 : Int32))))
set_option maxRecDepth 100000 in
set_option maxHeartbeats 4000000 in
theorem mtX11_isChance {X : mj_XT} {l : Launch} {G : mj_GT} {ad : Nat → Nat} {Qn : Option Value → mj_IT → mj_LT → Prop} (hR : mj_R X l G mj_P0 mj_S0 98 ad 0 0 Qn) (F : Nat) (I : mj_IT) (L : mj_LT) (x0 : Int32) (o : ((Int32))) (hf : fnX11_isChance F x0 = some o) (hq : (fun ov => Qn (some (.int ov)) I L) o) : mj_W X G RX11 "isChance" cX11_isChance 1 1 (some .boolean) mj_P0 mj_S0 98 ad 0 0 0 [(0, .int x0)] [] I L := by
  unfold fnX11_isChance at hf
  refine mj_iload_n 0 dX11_isChance_0 rfl ?_
  refine mj_iconst dX11_isChance_1 kc_iconst_2 ?_
  refine mj_icmp_lt 11 dX11_isChance_2 (by decide) (fun c1 => ?_) (fun c1 => ?_)
  · replace hf := mj_pos c1 hf
    refine mj_iload_n 0 dX11_isChance_11 rfl ?_
    refine mj_bipush dX11_isChance_12 kc_bipush_10 ?_
    refine mj_icmp_ne 21 dX11_isChance_14 (by decide) (fun c2 => ?_) (fun c2 => ?_)
    · replace hf := mj_neg c2 hf
      refine mj_iconst dX11_isChance_21 kc_iconst_0 ?_
      obtain rfl := Option.some.inj hf
      have hZ := hq
      exact mj_iret hR ⟨Nat.le_refl _, Nat.le_refl _⟩ rfl (by decide) dX11_isChance_22 hZ
    · replace hf := mj_pos c2 hf
      refine mj_iconst dX11_isChance_17 kc_iconst_1 ?_
      refine mj_goto 22 dX11_isChance_18 (by decide) ?_
      obtain rfl := Option.some.inj hf
      have hZ := hq
      exact mj_iret hR ⟨Nat.le_refl _, Nat.le_refl _⟩ rfl (by decide) dX11_isChance_22 hZ
  · replace hf := mj_neg c1 hf
    refine mj_iload_n 0 dX11_isChance_5 rfl ?_
    refine mj_bipush dX11_isChance_6 kc_bipush_6 ?_
    refine mj_icmp_le 17 dX11_isChance_8 (by decide) (fun c3 => ?_) (fun c3 => ?_)
    · replace hf := mj_pos c3 hf
      refine mj_iconst dX11_isChance_17 kc_iconst_1 ?_
      refine mj_goto 22 dX11_isChance_18 (by decide) ?_
      obtain rfl := Option.some.inj hf
      have hZ := hq
      exact mj_iret hR ⟨Nat.le_refl _, Nat.le_refl _⟩ rfl (by decide) dX11_isChance_22 hZ
    · replace hf := mj_neg c3 hf
      refine mj_iload_n 0 dX11_isChance_11 rfl ?_
      refine mj_bipush dX11_isChance_12 kc_bipush_10 ?_
      refine mj_icmp_ne 21 dX11_isChance_14 (by decide) (fun c4 => ?_) (fun c4 => ?_)
      · replace hf := mj_neg c4 hf
        refine mj_iconst dX11_isChance_21 kc_iconst_0 ?_
        obtain rfl := Option.some.inj hf
        have hZ := hq
        exact mj_iret hR ⟨Nat.le_refl _, Nat.le_refl _⟩ rfl (by decide) dX11_isChance_22 hZ
      · replace hf := mj_pos c4 hf
        refine mj_iconst dX11_isChance_17 kc_iconst_1 ?_
        refine mj_goto 22 dX11_isChance_18 (by decide) ?_
        obtain rfl := Option.some.inj hf
        have hZ := hq
        exact mj_iret hR ⟨Nat.le_refl _, Nat.le_refl _⟩ rfl (by decide) dX11_isChance_22 hZ
set_option maxRecDepth 100000 in
set_option maxHeartbeats 4000000 in
theorem cmX11_isChance (l : Launch) (G : mj_GT) (F : Nat) (x0 : Int32) (I : mj_IT) (L : mj_LT) (o : ((Int32))) (hf : fnX11_isChance F x0 = some o) : mj_M l G yX11_isChance cX11_isChance 1 1 (some .boolean) 0 0 mj_P0 mj_S0 98 [.int x0] I L (mj_qd (some (.int o)) I L) := by
  refine mj_in RX11 "isChance" [(0, .int x0)] rfl rfl rfl (by decide) (Nat.le_of_ble_eq_true rfl) (fun X ad hR => ?_)
  refine mtX11_isChance hR F I L x0 o hf ?_
  exact ⟨rfl, rfl, rfl⟩

-- X11_isHere_71_2001
def bdX11_isHere_71_2001_7 (F : Nat) (r71 : Nat → Int32) (r77 : Nat → Int32) (x2 : Int32) : Option (((Int32)) ⊕ (Unit ⊕ Unit)) := (if (4 : Int32) ≤ x2 then some (.inr (.inl ())) else (fnX11_isSmall F r71 r77 ((r71 11) + x2)).bind (fun o3 => (if o3 = 0 then some (.inr (.inr ())) else (if mj_ib ((r71 11) + x2) 400 = true then (if mj_ib x2 4 = true then (if (r77 (((r71 11) + x2).toNatClampNeg)) = (mj_ch 0 x2.toNatClampNeg) then some (.inl (x2 + (1))) else some (.inr (.inr ()))) else none) else none))))
def fnX11_isHere_71_2001 (F : Nat) (r71 : Nat → Int32) (r77 : Nat → Int32) : Option ((Int32) × (Nat → Int32)) := (fnX11_sign F r71 r77).bind (fun o8 => (mj_it (bdX11_isHere_71_2001_7 F o8.2 r77) F (0 : Int32)).bind (Sum.elim (fun _ => (fnX11_isSmall F o8.2 r77 ((o8.2 11) + (4 : Int32))).bind (fun o11 => (if o11 = 0 then some ((1 : Int32), o8.2) else some ((0 : Int32), o8.2)))) (fun _ => some ((0 : Int32), o8.2))))
set_option maxRecDepth 100000 in
set_option maxHeartbeats 4000000 in
theorem lpX11_isHere_71_2001_7 {X : mj_XT} {l : Launch} {G : mj_GT} {ad : Nat → Nat} {Qn : Option Value → mj_IT → mj_LT → Prop} (hR : mj_R X l G mj_P0 mj_S0 98 ad 0 0 Qn) (F : Nat) (I : mj_IT) (L : mj_LT) (r71 : Nat → Int32) (r77 : Nat → Int32) : ∀ (n : Nat) (s : ((Int32))) (e : (Unit ⊕ Unit)), mj_it (bdX11_isHere_71_2001_7 F r71 r77) n s = some e → (Sum.elim (fun _ => mj_W X G RX11 "isHere" cX11_isHere 3 5 (some .boolean) mj_P0 mj_S0 98 ad 0 0 55 [(0, .ref 71), (1, .ref 2001)] [] (mj_rows I [(71, r71), (77, r77)]) L) (fun _ => mj_W X G RX11 "isHere" cX11_isHere 3 5 (some .boolean) mj_P0 mj_S0 98 ad 0 0 47 [] [] (mj_rows I [(71, r71), (77, r77)]) L)) e → (fun x2 => mj_W X G RX11 "isHere" cX11_isHere 3 5 (some .boolean) mj_P0 mj_S0 98 ad 0 0 7 [(0, .ref 71), (1, .ref 2001), (2, .int x2)] [] (mj_rows I [(71, r71), (77, r77)]) L) s := by
  refine mj_loop (fun x2 o hf hc hx => ?_)
  unfold bdX11_isHere_71_2001_7 at hf
  refine mj_iload_n 2 dX11_isHere_7 rfl ?_
  refine mj_aload_n 1 dX11_isHere_8 rfl ?_
  refine mj_callVs (i := 0) (I2 := (mj_rows I [(71, r71), (77, r77)])) (L2 := L) (s1 := [.int (4 : Int32), .int x2]) (st := [.int x2]) [] (cmJ0_length X.2.1 G 0 2001 rfl (by decide) _ _) rfl rfl cw_X11_44 rfl (by decide) (by decide) rfl rfl (Nat.le_of_ble_eq_true rfl) ⟨Nat.zero_le _, Nat.zero_le _⟩ dX11_isHere_9 rfl ?_
  refine mj_icmp_ge 55 dX11_isHere_12 (by decide) (fun c2 => ?_) (fun c2 => ?_)
  · replace hf := mj_pos c2 hf
    refine mj_sub [0, 1] [(0, .ref 71), (1, .ref 2001)] rfl ?_
    obtain rfl := Option.some.inj hf
    have hZ := hx (.inl ()) rfl
    replace hZ := mj_el hZ
    exact hZ
  · replace hf := mj_neg c2 hf
    refine mj_aload_n 0 dX11_isHere_15 rfl ?_
    refine mj_aload_n 0 dX11_isHere_16 rfl ?_
    refine mj_getIv (v := (r71 11)) rfl fl_X11_31 rfl s0_71 a0_71 dX11_isHere_17 ?_
    refine mj_iload_n 2 dX11_isHere_20 rfl ?_
    refine mj_iadd dX11_isHere_21 ?_
    obtain ⟨o3, ho3, hf⟩ := mj_bd hf
    refine mj_callVd (I2 := (mj_rows I [(71, r71), (77, r77)])) (L2 := L) (s1 := [.int o3]) (st := []) [.int ((r71 11) + x2)] (cmX11_isSmall X.2.1 G F ((r71 11) + x2) _ _ r71 r77 rfl rfl o3 ho3) (mj_rr rfl) rfl cw_X11_49 s0_71 a0_71 (by decide) rfl rfl (Nat.le_of_ble_eq_true rfl) ⟨Nat.zero_le _, Nat.zero_le _⟩ dX11_isHere_22 rfl ?_
    refine mj_if_eq 47 dX11_isHere_25 (by decide) (fun c4 => ?_) (fun c4 => ?_)
    · replace hf := mj_pos c4 hf
      refine mj_sub [] [] rfl ?_
      obtain rfl := Option.some.inj hf
      have hZ := hx (.inr ()) rfl
      replace hZ := mj_er hZ
      exact hZ
    · replace hf := mj_neg c4 hf
      refine mj_aload_n 0 dX11_isHere_28 rfl ?_
      refine mj_getP p0_71_8 (by decide) fl_X11_37 rfl s0_71 a0_71 dX11_isHere_29 ?_
      refine mj_aload_n 0 dX11_isHere_32 rfl ?_
      refine mj_getIv (v := (r71 11)) rfl fl_X11_31 rfl s0_71 a0_71 dX11_isHere_33 ?_
      refine mj_iload_n 2 dX11_isHere_36 rfl ?_
      refine mj_iadd dX11_isHere_37 ?_
      obtain ⟨z5, hf⟩ := mj_ck hf
      refine mj_baldv (x := r77) rfl s0_77 a0_77 z5 dX11_isHere_38 ?_
      refine mj_aload_n 1 dX11_isHere_39 rfl ?_
      refine mj_iload_n 2 dX11_isHere_40 rfl ?_
      obtain ⟨z6, hf⟩ := mj_ck hf
      refine mj_callVs (i := 0) (I2 := (mj_rows I [(71, r71), (77, r77)])) (L2 := L) (s1 := [.int (mj_ch 0 x2.toNatClampNeg), .int (r77 (((r71 11) + x2).toNatClampNeg))]) (st := [.int (r77 (((r71 11) + x2).toNatClampNeg))]) [.int x2] (cmJ0_charAt X.2.1 G 0 2001 rfl (by decide) x2 _ _ z6) rfl rfl cw_X11_53 rfl (by decide) (by decide) rfl rfl (Nat.le_of_ble_eq_true rfl) ⟨Nat.zero_le _, Nat.zero_le _⟩ dX11_isHere_41 rfl ?_
      refine mj_icmp_eq 49 dX11_isHere_44 (by decide) (fun c7 => ?_) (fun c7 => ?_)
      · replace hf := mj_pos c7 hf
        refine mj_iinc 2 [(2, .int (x2 + (1))), (0, .ref 71), (1, .ref 2001)] dX11_isHere_49 rfl (kz_1 _) (by decide) rfl ?_
        refine mj_goto 7 dX11_isHere_52 (by decide) ?_
        refine mj_sub [1, 2, 0] [(0, .ref 71), (1, .ref 2001), (2, .int (x2 + (1)))] rfl ?_
        obtain rfl := Option.some.inj hf
        have hZ := hc (x2 + (1)) rfl
        exact hZ
      · replace hf := mj_neg c7 hf
        refine mj_sub [] [] rfl ?_
        obtain rfl := Option.some.inj hf
        have hZ := hx (.inr ()) rfl
        replace hZ := mj_er hZ
        exact hZ
set_option maxRecDepth 100000 in
set_option maxHeartbeats 4000000 in
theorem mtX11_isHere_71_2001 {X : mj_XT} {l : Launch} {G : mj_GT} {ad : Nat → Nat} {Qn : Option Value → mj_IT → mj_LT → Prop} (hR : mj_R X l G mj_P0 mj_S0 98 ad 0 0 Qn) (F : Nat) (I : mj_IT) (L : mj_LT) (r71 : Nat → Int32) (r77 : Nat → Int32) (o : ((Int32) × (Nat → Int32))) (hf : fnX11_isHere_71_2001 F r71 r77 = some o) (hq : (mj_u2 (fun ov r71 => Qn (some (.int ov)) (mj_rows I [(71, r71), (77, r77)]) L)) o) : mj_W X G RX11 "isHere" cX11_isHere 3 5 (some .boolean) mj_P0 mj_S0 98 ad 0 0 0 [(0, .ref 71), (1, .ref 2001)] [] (mj_rows I [(71, r71), (77, r77)]) L := by
  unfold fnX11_isHere_71_2001 at hf
  refine mj_aload_n 0 dX11_isHere_0 rfl ?_
  obtain ⟨o8, ho8, hf⟩ := mj_bd hf
  refine mj_callVd (I2 := (mj_rows I [(71, o8.2), (77, r77)])) (L2 := L) (s1 := [.int o8.1]) (st := []) [] (cmX11_sign X.2.1 G F  _ _ r71 r77 rfl rfl o8 ho8) (mj_rr rfl) rfl cw_X11_40 s0_71 a0_71 (by decide) rfl rfl (Nat.le_of_ble_eq_true rfl) ⟨Nat.zero_le _, Nat.zero_le _⟩ dX11_isHere_1 rfl ?_
  refine mj_pop dX11_isHere_4 rfl ?_
  refine mj_iconst dX11_isHere_5 kc_iconst_0 ?_
  refine mj_istore_n [(2, .int (0 : Int32)), (0, .ref 71), (1, .ref 2001)] dX11_isHere_6 rfl (by decide) rfl ?_
  refine mj_sub [1, 2, 0] [(0, .ref 71), (1, .ref 2001), (2, .int (0 : Int32))] rfl ?_
  obtain ⟨e9, ho9, hf⟩ := mj_bd hf
  refine lpX11_isHere_71_2001_7 hR F I L o8.2 r77 F (0 : Int32) e9 ho9 ?_
  rcases e9 with e9 | e9
  · replace hf := mj_ele hf
    refine mj_elq (?_)
    refine mj_aload_n 0 dX11_isHere_55 rfl ?_
    refine mj_aload_n 0 dX11_isHere_56 rfl ?_
    refine mj_getIv (v := (o8.2 11)) rfl fl_X11_31 rfl s0_71 a0_71 dX11_isHere_57 ?_
    refine mj_aload_n 1 dX11_isHere_60 rfl ?_
    refine mj_callVs (i := 0) (I2 := (mj_rows I [(71, o8.2), (77, r77)])) (L2 := L) (s1 := [.int (4 : Int32), .int (o8.2 11), .ref 71]) (st := [.int (o8.2 11), .ref 71]) [] (cmJ0_length X.2.1 G 0 2001 rfl (by decide) _ _) rfl rfl cw_X11_44 rfl (by decide) (by decide) rfl rfl (Nat.le_of_ble_eq_true rfl) ⟨Nat.zero_le _, Nat.zero_le _⟩ dX11_isHere_61 rfl ?_
    refine mj_iadd dX11_isHere_64 ?_
    obtain ⟨o11, ho11, hf⟩ := mj_bd hf
    refine mj_callVd (I2 := (mj_rows I [(71, o8.2), (77, r77)])) (L2 := L) (s1 := [.int o11]) (st := []) [.int ((o8.2 11) + (4 : Int32))] (cmX11_isSmall X.2.1 G F ((o8.2 11) + (4 : Int32)) _ _ o8.2 r77 rfl rfl o11 ho11) (mj_rr rfl) rfl cw_X11_49 s0_71 a0_71 (by decide) rfl rfl (Nat.le_of_ble_eq_true rfl) ⟨Nat.zero_le _, Nat.zero_le _⟩ dX11_isHere_65 rfl ?_
    refine mj_if_ne 75 dX11_isHere_68 (by decide) (fun c12 => ?_) (fun c12 => ?_)
    · replace hf := mj_neg c12 hf
      refine mj_iconst dX11_isHere_75 kc_iconst_0 ?_
      obtain rfl := Option.some.inj hf
      have hZ := hq
      replace hZ := mj_u2p hZ
      exact mj_iret hR ⟨Nat.le_refl _, Nat.le_refl _⟩ rfl (by decide) dX11_isHere_76 hZ
    · replace hf := mj_pos c12 hf
      refine mj_iconst dX11_isHere_71 kc_iconst_1 ?_
      refine mj_goto 76 dX11_isHere_72 (by decide) ?_
      obtain rfl := Option.some.inj hf
      have hZ := hq
      replace hZ := mj_u2p hZ
      exact mj_iret hR ⟨Nat.le_refl _, Nat.le_refl _⟩ rfl (by decide) dX11_isHere_76 hZ
  · replace hf := mj_ere hf
    refine mj_erq (?_)
    refine mj_iconst dX11_isHere_47 kc_iconst_0 ?_
    obtain rfl := Option.some.inj hf
    have hZ := hq
    replace hZ := mj_u2p hZ
    exact mj_iret hR ⟨Nat.le_refl _, Nat.le_refl _⟩ rfl (by decide) dX11_isHere_48 hZ
set_option maxRecDepth 100000 in
set_option maxHeartbeats 4000000 in
theorem cmX11_isHere_71_2001 (l : Launch) (G : mj_GT) (F : Nat) (I : mj_IT) (L : mj_LT) (r71 : Nat → Int32) (r77 : Nat → Int32) (hr71 : I 71 = r71) (hr77 : I 77 = r77) (o : ((Int32) × (Nat → Int32))) (hf : fnX11_isHere_71_2001 F r71 r77 = some o) : mj_M l G yX11_isHere cX11_isHere 3 5 (some .boolean) 0 0 mj_P0 mj_S0 98 [.ref 71, .ref 2001] I L (mj_qd (some (.int o.1)) (mj_rows I [(71, o.2), (77, r77)]) L) := by
  refine mj_in RX11 "isHere" [(0, .ref 71), (1, .ref 2001)] rfl rfl rfl (by decide) (Nat.le_of_ble_eq_true rfl) (fun X ad hR => ?_)
  refine mj_toI [(71, r71), (77, r77)] (by intro q hq; simp only [List.mem_cons, List.not_mem_nil, or_false] at hq; rcases hq with rfl | rfl <;> assumption) ?_
  refine mtX11_isHere_71_2001 hR F I L r71 r77 o hf ?_
  obtain ⟨w0, w1⟩ := o
  refine mj_u2q ?_
  exact ⟨rfl, rfl, rfl⟩

-- X11_isHere_71_2002
def bdX11_isHere_71_2002_7 (F : Nat) (r71 : Nat → Int32) (r77 : Nat → Int32) (x2 : Int32) : Option (((Int32)) ⊕ (Unit ⊕ Unit)) := (if (4 : Int32) ≤ x2 then some (.inr (.inl ())) else (fnX11_isSmall F r71 r77 ((r71 11) + x2)).bind (fun o3 => (if o3 = 0 then some (.inr (.inr ())) else (if mj_ib ((r71 11) + x2) 400 = true then (if mj_ib x2 4 = true then (if (r77 (((r71 11) + x2).toNatClampNeg)) = (mj_ch 1 x2.toNatClampNeg) then some (.inl (x2 + (1))) else some (.inr (.inr ()))) else none) else none))))
def fnX11_isHere_71_2002 (F : Nat) (r71 : Nat → Int32) (r77 : Nat → Int32) : Option ((Int32) × (Nat → Int32)) := (fnX11_sign F r71 r77).bind (fun o8 => (mj_it (bdX11_isHere_71_2002_7 F o8.2 r77) F (0 : Int32)).bind (Sum.elim (fun _ => (fnX11_isSmall F o8.2 r77 ((o8.2 11) + (4 : Int32))).bind (fun o11 => (if o11 = 0 then some ((1 : Int32), o8.2) else some ((0 : Int32), o8.2)))) (fun _ => some ((0 : Int32), o8.2))))
set_option maxRecDepth 100000 in
set_option maxHeartbeats 4000000 in
theorem lpX11_isHere_71_2002_7 {X : mj_XT} {l : Launch} {G : mj_GT} {ad : Nat → Nat} {Qn : Option Value → mj_IT → mj_LT → Prop} (hR : mj_R X l G mj_P0 mj_S0 98 ad 0 0 Qn) (F : Nat) (I : mj_IT) (L : mj_LT) (r71 : Nat → Int32) (r77 : Nat → Int32) : ∀ (n : Nat) (s : ((Int32))) (e : (Unit ⊕ Unit)), mj_it (bdX11_isHere_71_2002_7 F r71 r77) n s = some e → (Sum.elim (fun _ => mj_W X G RX11 "isHere" cX11_isHere 3 5 (some .boolean) mj_P0 mj_S0 98 ad 0 0 55 [(0, .ref 71), (1, .ref 2002)] [] (mj_rows I [(71, r71), (77, r77)]) L) (fun _ => mj_W X G RX11 "isHere" cX11_isHere 3 5 (some .boolean) mj_P0 mj_S0 98 ad 0 0 47 [] [] (mj_rows I [(71, r71), (77, r77)]) L)) e → (fun x2 => mj_W X G RX11 "isHere" cX11_isHere 3 5 (some .boolean) mj_P0 mj_S0 98 ad 0 0 7 [(0, .ref 71), (1, .ref 2002), (2, .int x2)] [] (mj_rows I [(71, r71), (77, r77)]) L) s := by
  refine mj_loop (fun x2 o hf hc hx => ?_)
  unfold bdX11_isHere_71_2002_7 at hf
  refine mj_iload_n 2 dX11_isHere_7 rfl ?_
  refine mj_aload_n 1 dX11_isHere_8 rfl ?_
  refine mj_callVs (i := 1) (I2 := (mj_rows I [(71, r71), (77, r77)])) (L2 := L) (s1 := [.int (4 : Int32), .int x2]) (st := [.int x2]) [] (cmJ0_length X.2.1 G 1 2002 rfl (by decide) _ _) rfl rfl cw_X11_44 rfl (by decide) (by decide) rfl rfl (Nat.le_of_ble_eq_true rfl) ⟨Nat.zero_le _, Nat.zero_le _⟩ dX11_isHere_9 rfl ?_
  refine mj_icmp_ge 55 dX11_isHere_12 (by decide) (fun c2 => ?_) (fun c2 => ?_)
  · replace hf := mj_pos c2 hf
    refine mj_sub [0, 1] [(0, .ref 71), (1, .ref 2002)] rfl ?_
    obtain rfl := Option.some.inj hf
    have hZ := hx (.inl ()) rfl
    replace hZ := mj_el hZ
    exact hZ
  · replace hf := mj_neg c2 hf
    refine mj_aload_n 0 dX11_isHere_15 rfl ?_
    refine mj_aload_n 0 dX11_isHere_16 rfl ?_
    refine mj_getIv (v := (r71 11)) rfl fl_X11_31 rfl s0_71 a0_71 dX11_isHere_17 ?_
    refine mj_iload_n 2 dX11_isHere_20 rfl ?_
    refine mj_iadd dX11_isHere_21 ?_
    obtain ⟨o3, ho3, hf⟩ := mj_bd hf
    refine mj_callVd (I2 := (mj_rows I [(71, r71), (77, r77)])) (L2 := L) (s1 := [.int o3]) (st := []) [.int ((r71 11) + x2)] (cmX11_isSmall X.2.1 G F ((r71 11) + x2) _ _ r71 r77 rfl rfl o3 ho3) (mj_rr rfl) rfl cw_X11_49 s0_71 a0_71 (by decide) rfl rfl (Nat.le_of_ble_eq_true rfl) ⟨Nat.zero_le _, Nat.zero_le _⟩ dX11_isHere_22 rfl ?_
    refine mj_if_eq 47 dX11_isHere_25 (by decide) (fun c4 => ?_) (fun c4 => ?_)
    · replace hf := mj_pos c4 hf
      refine mj_sub [] [] rfl ?_
      obtain rfl := Option.some.inj hf
      have hZ := hx (.inr ()) rfl
      replace hZ := mj_er hZ
      exact hZ
    · replace hf := mj_neg c4 hf
      refine mj_aload_n 0 dX11_isHere_28 rfl ?_
      refine mj_getP p0_71_8 (by decide) fl_X11_37 rfl s0_71 a0_71 dX11_isHere_29 ?_
      refine mj_aload_n 0 dX11_isHere_32 rfl ?_
      refine mj_getIv (v := (r71 11)) rfl fl_X11_31 rfl s0_71 a0_71 dX11_isHere_33 ?_
      refine mj_iload_n 2 dX11_isHere_36 rfl ?_
      refine mj_iadd dX11_isHere_37 ?_
      obtain ⟨z5, hf⟩ := mj_ck hf
      refine mj_baldv (x := r77) rfl s0_77 a0_77 z5 dX11_isHere_38 ?_
      refine mj_aload_n 1 dX11_isHere_39 rfl ?_
      refine mj_iload_n 2 dX11_isHere_40 rfl ?_
      obtain ⟨z6, hf⟩ := mj_ck hf
      refine mj_callVs (i := 1) (I2 := (mj_rows I [(71, r71), (77, r77)])) (L2 := L) (s1 := [.int (mj_ch 1 x2.toNatClampNeg), .int (r77 (((r71 11) + x2).toNatClampNeg))]) (st := [.int (r77 (((r71 11) + x2).toNatClampNeg))]) [.int x2] (cmJ0_charAt X.2.1 G 1 2002 rfl (by decide) x2 _ _ z6) rfl rfl cw_X11_53 rfl (by decide) (by decide) rfl rfl (Nat.le_of_ble_eq_true rfl) ⟨Nat.zero_le _, Nat.zero_le _⟩ dX11_isHere_41 rfl ?_
      refine mj_icmp_eq 49 dX11_isHere_44 (by decide) (fun c7 => ?_) (fun c7 => ?_)
      · replace hf := mj_pos c7 hf
        refine mj_iinc 2 [(2, .int (x2 + (1))), (0, .ref 71), (1, .ref 2002)] dX11_isHere_49 rfl (kz_1 _) (by decide) rfl ?_
        refine mj_goto 7 dX11_isHere_52 (by decide) ?_
        refine mj_sub [1, 2, 0] [(0, .ref 71), (1, .ref 2002), (2, .int (x2 + (1)))] rfl ?_
        obtain rfl := Option.some.inj hf
        have hZ := hc (x2 + (1)) rfl
        exact hZ
      · replace hf := mj_neg c7 hf
        refine mj_sub [] [] rfl ?_
        obtain rfl := Option.some.inj hf
        have hZ := hx (.inr ()) rfl
        replace hZ := mj_er hZ
        exact hZ
set_option maxRecDepth 100000 in
set_option maxHeartbeats 4000000 in
theorem mtX11_isHere_71_2002 {X : mj_XT} {l : Launch} {G : mj_GT} {ad : Nat → Nat} {Qn : Option Value → mj_IT → mj_LT → Prop} (hR : mj_R X l G mj_P0 mj_S0 98 ad 0 0 Qn) (F : Nat) (I : mj_IT) (L : mj_LT) (r71 : Nat → Int32) (r77 : Nat → Int32) (o : ((Int32) × (Nat → Int32))) (hf : fnX11_isHere_71_2002 F r71 r77 = some o) (hq : (mj_u2 (fun ov r71 => Qn (some (.int ov)) (mj_rows I [(71, r71), (77, r77)]) L)) o) : mj_W X G RX11 "isHere" cX11_isHere 3 5 (some .boolean) mj_P0 mj_S0 98 ad 0 0 0 [(0, .ref 71), (1, .ref 2002)] [] (mj_rows I [(71, r71), (77, r77)]) L := by
  unfold fnX11_isHere_71_2002 at hf
  refine mj_aload_n 0 dX11_isHere_0 rfl ?_
  obtain ⟨o8, ho8, hf⟩ := mj_bd hf
  refine mj_callVd (I2 := (mj_rows I [(71, o8.2), (77, r77)])) (L2 := L) (s1 := [.int o8.1]) (st := []) [] (cmX11_sign X.2.1 G F  _ _ r71 r77 rfl rfl o8 ho8) (mj_rr rfl) rfl cw_X11_40 s0_71 a0_71 (by decide) rfl rfl (Nat.le_of_ble_eq_true rfl) ⟨Nat.zero_le _, Nat.zero_le _⟩ dX11_isHere_1 rfl ?_
  refine mj_pop dX11_isHere_4 rfl ?_
  refine mj_iconst dX11_isHere_5 kc_iconst_0 ?_
  refine mj_istore_n [(2, .int (0 : Int32)), (0, .ref 71), (1, .ref 2002)] dX11_isHere_6 rfl (by decide) rfl ?_
  refine mj_sub [1, 2, 0] [(0, .ref 71), (1, .ref 2002), (2, .int (0 : Int32))] rfl ?_
  obtain ⟨e9, ho9, hf⟩ := mj_bd hf
  refine lpX11_isHere_71_2002_7 hR F I L o8.2 r77 F (0 : Int32) e9 ho9 ?_
  rcases e9 with e9 | e9
  · replace hf := mj_ele hf
    refine mj_elq (?_)
    refine mj_aload_n 0 dX11_isHere_55 rfl ?_
    refine mj_aload_n 0 dX11_isHere_56 rfl ?_
    refine mj_getIv (v := (o8.2 11)) rfl fl_X11_31 rfl s0_71 a0_71 dX11_isHere_57 ?_
    refine mj_aload_n 1 dX11_isHere_60 rfl ?_
    refine mj_callVs (i := 1) (I2 := (mj_rows I [(71, o8.2), (77, r77)])) (L2 := L) (s1 := [.int (4 : Int32), .int (o8.2 11), .ref 71]) (st := [.int (o8.2 11), .ref 71]) [] (cmJ0_length X.2.1 G 1 2002 rfl (by decide) _ _) rfl rfl cw_X11_44 rfl (by decide) (by decide) rfl rfl (Nat.le_of_ble_eq_true rfl) ⟨Nat.zero_le _, Nat.zero_le _⟩ dX11_isHere_61 rfl ?_
    refine mj_iadd dX11_isHere_64 ?_
    obtain ⟨o11, ho11, hf⟩ := mj_bd hf
    refine mj_callVd (I2 := (mj_rows I [(71, o8.2), (77, r77)])) (L2 := L) (s1 := [.int o11]) (st := []) [.int ((o8.2 11) + (4 : Int32))] (cmX11_isSmall X.2.1 G F ((o8.2 11) + (4 : Int32)) _ _ o8.2 r77 rfl rfl o11 ho11) (mj_rr rfl) rfl cw_X11_49 s0_71 a0_71 (by decide) rfl rfl (Nat.le_of_ble_eq_true rfl) ⟨Nat.zero_le _, Nat.zero_le _⟩ dX11_isHere_65 rfl ?_
    refine mj_if_ne 75 dX11_isHere_68 (by decide) (fun c12 => ?_) (fun c12 => ?_)
    · replace hf := mj_neg c12 hf
      refine mj_iconst dX11_isHere_75 kc_iconst_0 ?_
      obtain rfl := Option.some.inj hf
      have hZ := hq
      replace hZ := mj_u2p hZ
      exact mj_iret hR ⟨Nat.le_refl _, Nat.le_refl _⟩ rfl (by decide) dX11_isHere_76 hZ
    · replace hf := mj_pos c12 hf
      refine mj_iconst dX11_isHere_71 kc_iconst_1 ?_
      refine mj_goto 76 dX11_isHere_72 (by decide) ?_
      obtain rfl := Option.some.inj hf
      have hZ := hq
      replace hZ := mj_u2p hZ
      exact mj_iret hR ⟨Nat.le_refl _, Nat.le_refl _⟩ rfl (by decide) dX11_isHere_76 hZ
  · replace hf := mj_ere hf
    refine mj_erq (?_)
    refine mj_iconst dX11_isHere_47 kc_iconst_0 ?_
    obtain rfl := Option.some.inj hf
    have hZ := hq
    replace hZ := mj_u2p hZ
    exact mj_iret hR ⟨Nat.le_refl _, Nat.le_refl _⟩ rfl (by decide) dX11_isHere_48 hZ
set_option maxRecDepth 100000 in
set_option maxHeartbeats 4000000 in
theorem cmX11_isHere_71_2002 (l : Launch) (G : mj_GT) (F : Nat) (I : mj_IT) (L : mj_LT) (r71 : Nat → Int32) (r77 : Nat → Int32) (hr71 : I 71 = r71) (hr77 : I 77 = r77) (o : ((Int32) × (Nat → Int32))) (hf : fnX11_isHere_71_2002 F r71 r77 = some o) : mj_M l G yX11_isHere cX11_isHere 3 5 (some .boolean) 0 0 mj_P0 mj_S0 98 [.ref 71, .ref 2002] I L (mj_qd (some (.int o.1)) (mj_rows I [(71, o.2), (77, r77)]) L) := by
  refine mj_in RX11 "isHere" [(0, .ref 71), (1, .ref 2002)] rfl rfl rfl (by decide) (Nat.le_of_ble_eq_true rfl) (fun X ad hR => ?_)
  refine mj_toI [(71, r71), (77, r77)] (by intro q hq; simp only [List.mem_cons, List.not_mem_nil, or_false] at hq; rcases hq with rfl | rfl <;> assumption) ?_
  refine mtX11_isHere_71_2002 hR F I L r71 r77 o hf ?_
  obtain ⟨w0, w1⟩ := o
  refine mj_u2q ?_
  exact ⟨rfl, rfl, rfl⟩

-- X11_isHere_71_2003
def bdX11_isHere_71_2003_7 (F : Nat) (r71 : Nat → Int32) (r77 : Nat → Int32) (x2 : Int32) : Option (((Int32)) ⊕ (Unit ⊕ Unit)) := (if (2 : Int32) ≤ x2 then some (.inr (.inl ())) else (fnX11_isSmall F r71 r77 ((r71 11) + x2)).bind (fun o3 => (if o3 = 0 then some (.inr (.inr ())) else (if mj_ib ((r71 11) + x2) 400 = true then (if mj_ib x2 2 = true then (if (r77 (((r71 11) + x2).toNatClampNeg)) = (mj_ch 2 x2.toNatClampNeg) then some (.inl (x2 + (1))) else some (.inr (.inr ()))) else none) else none))))
def fnX11_isHere_71_2003 (F : Nat) (r71 : Nat → Int32) (r77 : Nat → Int32) : Option ((Int32) × (Nat → Int32)) := (fnX11_sign F r71 r77).bind (fun o8 => (mj_it (bdX11_isHere_71_2003_7 F o8.2 r77) F (0 : Int32)).bind (Sum.elim (fun _ => (fnX11_isSmall F o8.2 r77 ((o8.2 11) + (2 : Int32))).bind (fun o11 => (if o11 = 0 then some ((1 : Int32), o8.2) else some ((0 : Int32), o8.2)))) (fun _ => some ((0 : Int32), o8.2))))
set_option maxRecDepth 100000 in
set_option maxHeartbeats 4000000 in
theorem lpX11_isHere_71_2003_7 {X : mj_XT} {l : Launch} {G : mj_GT} {ad : Nat → Nat} {Qn : Option Value → mj_IT → mj_LT → Prop} (hR : mj_R X l G mj_P0 mj_S0 98 ad 0 0 Qn) (F : Nat) (I : mj_IT) (L : mj_LT) (r71 : Nat → Int32) (r77 : Nat → Int32) : ∀ (n : Nat) (s : ((Int32))) (e : (Unit ⊕ Unit)), mj_it (bdX11_isHere_71_2003_7 F r71 r77) n s = some e → (Sum.elim (fun _ => mj_W X G RX11 "isHere" cX11_isHere 3 5 (some .boolean) mj_P0 mj_S0 98 ad 0 0 55 [(0, .ref 71), (1, .ref 2003)] [] (mj_rows I [(71, r71), (77, r77)]) L) (fun _ => mj_W X G RX11 "isHere" cX11_isHere 3 5 (some .boolean) mj_P0 mj_S0 98 ad 0 0 47 [] [] (mj_rows I [(71, r71), (77, r77)]) L)) e → (fun x2 => mj_W X G RX11 "isHere" cX11_isHere 3 5 (some .boolean) mj_P0 mj_S0 98 ad 0 0 7 [(0, .ref 71), (1, .ref 2003), (2, .int x2)] [] (mj_rows I [(71, r71), (77, r77)]) L) s := by
  refine mj_loop (fun x2 o hf hc hx => ?_)
  unfold bdX11_isHere_71_2003_7 at hf
  refine mj_iload_n 2 dX11_isHere_7 rfl ?_
  refine mj_aload_n 1 dX11_isHere_8 rfl ?_
  refine mj_callVs (i := 2) (I2 := (mj_rows I [(71, r71), (77, r77)])) (L2 := L) (s1 := [.int (2 : Int32), .int x2]) (st := [.int x2]) [] (cmJ0_length X.2.1 G 2 2003 rfl (by decide) _ _) rfl rfl cw_X11_44 rfl (by decide) (by decide) rfl rfl (Nat.le_of_ble_eq_true rfl) ⟨Nat.zero_le _, Nat.zero_le _⟩ dX11_isHere_9 rfl ?_
  refine mj_icmp_ge 55 dX11_isHere_12 (by decide) (fun c2 => ?_) (fun c2 => ?_)
  · replace hf := mj_pos c2 hf
    refine mj_sub [0, 1] [(0, .ref 71), (1, .ref 2003)] rfl ?_
    obtain rfl := Option.some.inj hf
    have hZ := hx (.inl ()) rfl
    replace hZ := mj_el hZ
    exact hZ
  · replace hf := mj_neg c2 hf
    refine mj_aload_n 0 dX11_isHere_15 rfl ?_
    refine mj_aload_n 0 dX11_isHere_16 rfl ?_
    refine mj_getIv (v := (r71 11)) rfl fl_X11_31 rfl s0_71 a0_71 dX11_isHere_17 ?_
    refine mj_iload_n 2 dX11_isHere_20 rfl ?_
    refine mj_iadd dX11_isHere_21 ?_
    obtain ⟨o3, ho3, hf⟩ := mj_bd hf
    refine mj_callVd (I2 := (mj_rows I [(71, r71), (77, r77)])) (L2 := L) (s1 := [.int o3]) (st := []) [.int ((r71 11) + x2)] (cmX11_isSmall X.2.1 G F ((r71 11) + x2) _ _ r71 r77 rfl rfl o3 ho3) (mj_rr rfl) rfl cw_X11_49 s0_71 a0_71 (by decide) rfl rfl (Nat.le_of_ble_eq_true rfl) ⟨Nat.zero_le _, Nat.zero_le _⟩ dX11_isHere_22 rfl ?_
    refine mj_if_eq 47 dX11_isHere_25 (by decide) (fun c4 => ?_) (fun c4 => ?_)
    · replace hf := mj_pos c4 hf
      refine mj_sub [] [] rfl ?_
      obtain rfl := Option.some.inj hf
      have hZ := hx (.inr ()) rfl
      replace hZ := mj_er hZ
      exact hZ
    · replace hf := mj_neg c4 hf
      refine mj_aload_n 0 dX11_isHere_28 rfl ?_
      refine mj_getP p0_71_8 (by decide) fl_X11_37 rfl s0_71 a0_71 dX11_isHere_29 ?_
      refine mj_aload_n 0 dX11_isHere_32 rfl ?_
      refine mj_getIv (v := (r71 11)) rfl fl_X11_31 rfl s0_71 a0_71 dX11_isHere_33 ?_
      refine mj_iload_n 2 dX11_isHere_36 rfl ?_
      refine mj_iadd dX11_isHere_37 ?_
      obtain ⟨z5, hf⟩ := mj_ck hf
      refine mj_baldv (x := r77) rfl s0_77 a0_77 z5 dX11_isHere_38 ?_
      refine mj_aload_n 1 dX11_isHere_39 rfl ?_
      refine mj_iload_n 2 dX11_isHere_40 rfl ?_
      obtain ⟨z6, hf⟩ := mj_ck hf
      refine mj_callVs (i := 2) (I2 := (mj_rows I [(71, r71), (77, r77)])) (L2 := L) (s1 := [.int (mj_ch 2 x2.toNatClampNeg), .int (r77 (((r71 11) + x2).toNatClampNeg))]) (st := [.int (r77 (((r71 11) + x2).toNatClampNeg))]) [.int x2] (cmJ0_charAt X.2.1 G 2 2003 rfl (by decide) x2 _ _ z6) rfl rfl cw_X11_53 rfl (by decide) (by decide) rfl rfl (Nat.le_of_ble_eq_true rfl) ⟨Nat.zero_le _, Nat.zero_le _⟩ dX11_isHere_41 rfl ?_
      refine mj_icmp_eq 49 dX11_isHere_44 (by decide) (fun c7 => ?_) (fun c7 => ?_)
      · replace hf := mj_pos c7 hf
        refine mj_iinc 2 [(2, .int (x2 + (1))), (0, .ref 71), (1, .ref 2003)] dX11_isHere_49 rfl (kz_1 _) (by decide) rfl ?_
        refine mj_goto 7 dX11_isHere_52 (by decide) ?_
        refine mj_sub [1, 2, 0] [(0, .ref 71), (1, .ref 2003), (2, .int (x2 + (1)))] rfl ?_
        obtain rfl := Option.some.inj hf
        have hZ := hc (x2 + (1)) rfl
        exact hZ
      · replace hf := mj_neg c7 hf
        refine mj_sub [] [] rfl ?_
        obtain rfl := Option.some.inj hf
        have hZ := hx (.inr ()) rfl
        replace hZ := mj_er hZ
        exact hZ
set_option maxRecDepth 100000 in
set_option maxHeartbeats 4000000 in
theorem mtX11_isHere_71_2003 {X : mj_XT} {l : Launch} {G : mj_GT} {ad : Nat → Nat} {Qn : Option Value → mj_IT → mj_LT → Prop} (hR : mj_R X l G mj_P0 mj_S0 98 ad 0 0 Qn) (F : Nat) (I : mj_IT) (L : mj_LT) (r71 : Nat → Int32) (r77 : Nat → Int32) (o : ((Int32) × (Nat → Int32))) (hf : fnX11_isHere_71_2003 F r71 r77 = some o) (hq : (mj_u2 (fun ov r71 => Qn (some (.int ov)) (mj_rows I [(71, r71), (77, r77)]) L)) o) : mj_W X G RX11 "isHere" cX11_isHere 3 5 (some .boolean) mj_P0 mj_S0 98 ad 0 0 0 [(0, .ref 71), (1, .ref 2003)] [] (mj_rows I [(71, r71), (77, r77)]) L := by
  unfold fnX11_isHere_71_2003 at hf
  refine mj_aload_n 0 dX11_isHere_0 rfl ?_
  obtain ⟨o8, ho8, hf⟩ := mj_bd hf
  refine mj_callVd (I2 := (mj_rows I [(71, o8.2), (77, r77)])) (L2 := L) (s1 := [.int o8.1]) (st := []) [] (cmX11_sign X.2.1 G F  _ _ r71 r77 rfl rfl o8 ho8) (mj_rr rfl) rfl cw_X11_40 s0_71 a0_71 (by decide) rfl rfl (Nat.le_of_ble_eq_true rfl) ⟨Nat.zero_le _, Nat.zero_le _⟩ dX11_isHere_1 rfl ?_
  refine mj_pop dX11_isHere_4 rfl ?_
  refine mj_iconst dX11_isHere_5 kc_iconst_0 ?_
  refine mj_istore_n [(2, .int (0 : Int32)), (0, .ref 71), (1, .ref 2003)] dX11_isHere_6 rfl (by decide) rfl ?_
  refine mj_sub [1, 2, 0] [(0, .ref 71), (1, .ref 2003), (2, .int (0 : Int32))] rfl ?_
  obtain ⟨e9, ho9, hf⟩ := mj_bd hf
  refine lpX11_isHere_71_2003_7 hR F I L o8.2 r77 F (0 : Int32) e9 ho9 ?_
  rcases e9 with e9 | e9
  · replace hf := mj_ele hf
    refine mj_elq (?_)
    refine mj_aload_n 0 dX11_isHere_55 rfl ?_
    refine mj_aload_n 0 dX11_isHere_56 rfl ?_
    refine mj_getIv (v := (o8.2 11)) rfl fl_X11_31 rfl s0_71 a0_71 dX11_isHere_57 ?_
    refine mj_aload_n 1 dX11_isHere_60 rfl ?_
    refine mj_callVs (i := 2) (I2 := (mj_rows I [(71, o8.2), (77, r77)])) (L2 := L) (s1 := [.int (2 : Int32), .int (o8.2 11), .ref 71]) (st := [.int (o8.2 11), .ref 71]) [] (cmJ0_length X.2.1 G 2 2003 rfl (by decide) _ _) rfl rfl cw_X11_44 rfl (by decide) (by decide) rfl rfl (Nat.le_of_ble_eq_true rfl) ⟨Nat.zero_le _, Nat.zero_le _⟩ dX11_isHere_61 rfl ?_
    refine mj_iadd dX11_isHere_64 ?_
    obtain ⟨o11, ho11, hf⟩ := mj_bd hf
    refine mj_callVd (I2 := (mj_rows I [(71, o8.2), (77, r77)])) (L2 := L) (s1 := [.int o11]) (st := []) [.int ((o8.2 11) + (2 : Int32))] (cmX11_isSmall X.2.1 G F ((o8.2 11) + (2 : Int32)) _ _ o8.2 r77 rfl rfl o11 ho11) (mj_rr rfl) rfl cw_X11_49 s0_71 a0_71 (by decide) rfl rfl (Nat.le_of_ble_eq_true rfl) ⟨Nat.zero_le _, Nat.zero_le _⟩ dX11_isHere_65 rfl ?_
    refine mj_if_ne 75 dX11_isHere_68 (by decide) (fun c12 => ?_) (fun c12 => ?_)
    · replace hf := mj_neg c12 hf
      refine mj_iconst dX11_isHere_75 kc_iconst_0 ?_
      obtain rfl := Option.some.inj hf
      have hZ := hq
      replace hZ := mj_u2p hZ
      exact mj_iret hR ⟨Nat.le_refl _, Nat.le_refl _⟩ rfl (by decide) dX11_isHere_76 hZ
    · replace hf := mj_pos c12 hf
      refine mj_iconst dX11_isHere_71 kc_iconst_1 ?_
      refine mj_goto 76 dX11_isHere_72 (by decide) ?_
      obtain rfl := Option.some.inj hf
      have hZ := hq
      replace hZ := mj_u2p hZ
      exact mj_iret hR ⟨Nat.le_refl _, Nat.le_refl _⟩ rfl (by decide) dX11_isHere_76 hZ
  · replace hf := mj_ere hf
    refine mj_erq (?_)
    refine mj_iconst dX11_isHere_47 kc_iconst_0 ?_
    obtain rfl := Option.some.inj hf
    have hZ := hq
    replace hZ := mj_u2p hZ
    exact mj_iret hR ⟨Nat.le_refl _, Nat.le_refl _⟩ rfl (by decide) dX11_isHere_48 hZ
set_option maxRecDepth 100000 in
set_option maxHeartbeats 4000000 in
theorem cmX11_isHere_71_2003 (l : Launch) (G : mj_GT) (F : Nat) (I : mj_IT) (L : mj_LT) (r71 : Nat → Int32) (r77 : Nat → Int32) (hr71 : I 71 = r71) (hr77 : I 77 = r77) (o : ((Int32) × (Nat → Int32))) (hf : fnX11_isHere_71_2003 F r71 r77 = some o) : mj_M l G yX11_isHere cX11_isHere 3 5 (some .boolean) 0 0 mj_P0 mj_S0 98 [.ref 71, .ref 2003] I L (mj_qd (some (.int o.1)) (mj_rows I [(71, o.2), (77, r77)]) L) := by
  refine mj_in RX11 "isHere" [(0, .ref 71), (1, .ref 2003)] rfl rfl rfl (by decide) (Nat.le_of_ble_eq_true rfl) (fun X ad hR => ?_)
  refine mj_toI [(71, r71), (77, r77)] (by intro q hq; simp only [List.mem_cons, List.not_mem_nil, or_false] at hq; rcases hq with rfl | rfl <;> assumption) ?_
  refine mtX11_isHere_71_2003 hR F I L r71 r77 o hf ?_
  obtain ⟨w0, w1⟩ := o
  refine mj_u2q ?_
  exact ⟨rfl, rfl, rfl⟩

-- X11_isHere_71_2004
def bdX11_isHere_71_2004_7 (F : Nat) (r71 : Nat → Int32) (r77 : Nat → Int32) (x2 : Int32) : Option (((Int32)) ⊕ (Unit ⊕ Unit)) := (if (5 : Int32) ≤ x2 then some (.inr (.inl ())) else (fnX11_isSmall F r71 r77 ((r71 11) + x2)).bind (fun o3 => (if o3 = 0 then some (.inr (.inr ())) else (if mj_ib ((r71 11) + x2) 400 = true then (if mj_ib x2 5 = true then (if (r77 (((r71 11) + x2).toNatClampNeg)) = (mj_ch 3 x2.toNatClampNeg) then some (.inl (x2 + (1))) else some (.inr (.inr ()))) else none) else none))))
def fnX11_isHere_71_2004 (F : Nat) (r71 : Nat → Int32) (r77 : Nat → Int32) : Option ((Int32) × (Nat → Int32)) := (fnX11_sign F r71 r77).bind (fun o8 => (mj_it (bdX11_isHere_71_2004_7 F o8.2 r77) F (0 : Int32)).bind (Sum.elim (fun _ => (fnX11_isSmall F o8.2 r77 ((o8.2 11) + (5 : Int32))).bind (fun o11 => (if o11 = 0 then some ((1 : Int32), o8.2) else some ((0 : Int32), o8.2)))) (fun _ => some ((0 : Int32), o8.2))))
set_option maxRecDepth 100000 in
set_option maxHeartbeats 4000000 in
theorem lpX11_isHere_71_2004_7 {X : mj_XT} {l : Launch} {G : mj_GT} {ad : Nat → Nat} {Qn : Option Value → mj_IT → mj_LT → Prop} (hR : mj_R X l G mj_P0 mj_S0 98 ad 0 0 Qn) (F : Nat) (I : mj_IT) (L : mj_LT) (r71 : Nat → Int32) (r77 : Nat → Int32) : ∀ (n : Nat) (s : ((Int32))) (e : (Unit ⊕ Unit)), mj_it (bdX11_isHere_71_2004_7 F r71 r77) n s = some e → (Sum.elim (fun _ => mj_W X G RX11 "isHere" cX11_isHere 3 5 (some .boolean) mj_P0 mj_S0 98 ad 0 0 55 [(0, .ref 71), (1, .ref 2004)] [] (mj_rows I [(71, r71), (77, r77)]) L) (fun _ => mj_W X G RX11 "isHere" cX11_isHere 3 5 (some .boolean) mj_P0 mj_S0 98 ad 0 0 47 [] [] (mj_rows I [(71, r71), (77, r77)]) L)) e → (fun x2 => mj_W X G RX11 "isHere" cX11_isHere 3 5 (some .boolean) mj_P0 mj_S0 98 ad 0 0 7 [(0, .ref 71), (1, .ref 2004), (2, .int x2)] [] (mj_rows I [(71, r71), (77, r77)]) L) s := by
  refine mj_loop (fun x2 o hf hc hx => ?_)
  unfold bdX11_isHere_71_2004_7 at hf
  refine mj_iload_n 2 dX11_isHere_7 rfl ?_
  refine mj_aload_n 1 dX11_isHere_8 rfl ?_
  refine mj_callVs (i := 3) (I2 := (mj_rows I [(71, r71), (77, r77)])) (L2 := L) (s1 := [.int (5 : Int32), .int x2]) (st := [.int x2]) [] (cmJ0_length X.2.1 G 3 2004 rfl (by decide) _ _) rfl rfl cw_X11_44 rfl (by decide) (by decide) rfl rfl (Nat.le_of_ble_eq_true rfl) ⟨Nat.zero_le _, Nat.zero_le _⟩ dX11_isHere_9 rfl ?_
  refine mj_icmp_ge 55 dX11_isHere_12 (by decide) (fun c2 => ?_) (fun c2 => ?_)
  · replace hf := mj_pos c2 hf
    refine mj_sub [0, 1] [(0, .ref 71), (1, .ref 2004)] rfl ?_
    obtain rfl := Option.some.inj hf
    have hZ := hx (.inl ()) rfl
    replace hZ := mj_el hZ
    exact hZ
  · replace hf := mj_neg c2 hf
    refine mj_aload_n 0 dX11_isHere_15 rfl ?_
    refine mj_aload_n 0 dX11_isHere_16 rfl ?_
    refine mj_getIv (v := (r71 11)) rfl fl_X11_31 rfl s0_71 a0_71 dX11_isHere_17 ?_
    refine mj_iload_n 2 dX11_isHere_20 rfl ?_
    refine mj_iadd dX11_isHere_21 ?_
    obtain ⟨o3, ho3, hf⟩ := mj_bd hf
    refine mj_callVd (I2 := (mj_rows I [(71, r71), (77, r77)])) (L2 := L) (s1 := [.int o3]) (st := []) [.int ((r71 11) + x2)] (cmX11_isSmall X.2.1 G F ((r71 11) + x2) _ _ r71 r77 rfl rfl o3 ho3) (mj_rr rfl) rfl cw_X11_49 s0_71 a0_71 (by decide) rfl rfl (Nat.le_of_ble_eq_true rfl) ⟨Nat.zero_le _, Nat.zero_le _⟩ dX11_isHere_22 rfl ?_
    refine mj_if_eq 47 dX11_isHere_25 (by decide) (fun c4 => ?_) (fun c4 => ?_)
    · replace hf := mj_pos c4 hf
      refine mj_sub [] [] rfl ?_
      obtain rfl := Option.some.inj hf
      have hZ := hx (.inr ()) rfl
      replace hZ := mj_er hZ
      exact hZ
    · replace hf := mj_neg c4 hf
      refine mj_aload_n 0 dX11_isHere_28 rfl ?_
      refine mj_getP p0_71_8 (by decide) fl_X11_37 rfl s0_71 a0_71 dX11_isHere_29 ?_
      refine mj_aload_n 0 dX11_isHere_32 rfl ?_
      refine mj_getIv (v := (r71 11)) rfl fl_X11_31 rfl s0_71 a0_71 dX11_isHere_33 ?_
      refine mj_iload_n 2 dX11_isHere_36 rfl ?_
      refine mj_iadd dX11_isHere_37 ?_
      obtain ⟨z5, hf⟩ := mj_ck hf
      refine mj_baldv (x := r77) rfl s0_77 a0_77 z5 dX11_isHere_38 ?_
      refine mj_aload_n 1 dX11_isHere_39 rfl ?_
      refine mj_iload_n 2 dX11_isHere_40 rfl ?_
      obtain ⟨z6, hf⟩ := mj_ck hf
      refine mj_callVs (i := 3) (I2 := (mj_rows I [(71, r71), (77, r77)])) (L2 := L) (s1 := [.int (mj_ch 3 x2.toNatClampNeg), .int (r77 (((r71 11) + x2).toNatClampNeg))]) (st := [.int (r77 (((r71 11) + x2).toNatClampNeg))]) [.int x2] (cmJ0_charAt X.2.1 G 3 2004 rfl (by decide) x2 _ _ z6) rfl rfl cw_X11_53 rfl (by decide) (by decide) rfl rfl (Nat.le_of_ble_eq_true rfl) ⟨Nat.zero_le _, Nat.zero_le _⟩ dX11_isHere_41 rfl ?_
      refine mj_icmp_eq 49 dX11_isHere_44 (by decide) (fun c7 => ?_) (fun c7 => ?_)
      · replace hf := mj_pos c7 hf
        refine mj_iinc 2 [(2, .int (x2 + (1))), (0, .ref 71), (1, .ref 2004)] dX11_isHere_49 rfl (kz_1 _) (by decide) rfl ?_
        refine mj_goto 7 dX11_isHere_52 (by decide) ?_
        refine mj_sub [1, 2, 0] [(0, .ref 71), (1, .ref 2004), (2, .int (x2 + (1)))] rfl ?_
        obtain rfl := Option.some.inj hf
        have hZ := hc (x2 + (1)) rfl
        exact hZ
      · replace hf := mj_neg c7 hf
        refine mj_sub [] [] rfl ?_
        obtain rfl := Option.some.inj hf
        have hZ := hx (.inr ()) rfl
        replace hZ := mj_er hZ
        exact hZ
set_option maxRecDepth 100000 in
set_option maxHeartbeats 4000000 in
theorem mtX11_isHere_71_2004 {X : mj_XT} {l : Launch} {G : mj_GT} {ad : Nat → Nat} {Qn : Option Value → mj_IT → mj_LT → Prop} (hR : mj_R X l G mj_P0 mj_S0 98 ad 0 0 Qn) (F : Nat) (I : mj_IT) (L : mj_LT) (r71 : Nat → Int32) (r77 : Nat → Int32) (o : ((Int32) × (Nat → Int32))) (hf : fnX11_isHere_71_2004 F r71 r77 = some o) (hq : (mj_u2 (fun ov r71 => Qn (some (.int ov)) (mj_rows I [(71, r71), (77, r77)]) L)) o) : mj_W X G RX11 "isHere" cX11_isHere 3 5 (some .boolean) mj_P0 mj_S0 98 ad 0 0 0 [(0, .ref 71), (1, .ref 2004)] [] (mj_rows I [(71, r71), (77, r77)]) L := by
  unfold fnX11_isHere_71_2004 at hf
  refine mj_aload_n 0 dX11_isHere_0 rfl ?_
  obtain ⟨o8, ho8, hf⟩ := mj_bd hf
  refine mj_callVd (I2 := (mj_rows I [(71, o8.2), (77, r77)])) (L2 := L) (s1 := [.int o8.1]) (st := []) [] (cmX11_sign X.2.1 G F  _ _ r71 r77 rfl rfl o8 ho8) (mj_rr rfl) rfl cw_X11_40 s0_71 a0_71 (by decide) rfl rfl (Nat.le_of_ble_eq_true rfl) ⟨Nat.zero_le _, Nat.zero_le _⟩ dX11_isHere_1 rfl ?_
  refine mj_pop dX11_isHere_4 rfl ?_
  refine mj_iconst dX11_isHere_5 kc_iconst_0 ?_
  refine mj_istore_n [(2, .int (0 : Int32)), (0, .ref 71), (1, .ref 2004)] dX11_isHere_6 rfl (by decide) rfl ?_
  refine mj_sub [1, 2, 0] [(0, .ref 71), (1, .ref 2004), (2, .int (0 : Int32))] rfl ?_
  obtain ⟨e9, ho9, hf⟩ := mj_bd hf
  refine lpX11_isHere_71_2004_7 hR F I L o8.2 r77 F (0 : Int32) e9 ho9 ?_
  rcases e9 with e9 | e9
  · replace hf := mj_ele hf
    refine mj_elq (?_)
    refine mj_aload_n 0 dX11_isHere_55 rfl ?_
    refine mj_aload_n 0 dX11_isHere_56 rfl ?_
    refine mj_getIv (v := (o8.2 11)) rfl fl_X11_31 rfl s0_71 a0_71 dX11_isHere_57 ?_
    refine mj_aload_n 1 dX11_isHere_60 rfl ?_
    refine mj_callVs (i := 3) (I2 := (mj_rows I [(71, o8.2), (77, r77)])) (L2 := L) (s1 := [.int (5 : Int32), .int (o8.2 11), .ref 71]) (st := [.int (o8.2 11), .ref 71]) [] (cmJ0_length X.2.1 G 3 2004 rfl (by decide) _ _) rfl rfl cw_X11_44 rfl (by decide) (by decide) rfl rfl (Nat.le_of_ble_eq_true rfl) ⟨Nat.zero_le _, Nat.zero_le _⟩ dX11_isHere_61 rfl ?_
    refine mj_iadd dX11_isHere_64 ?_
    obtain ⟨o11, ho11, hf⟩ := mj_bd hf
    refine mj_callVd (I2 := (mj_rows I [(71, o8.2), (77, r77)])) (L2 := L) (s1 := [.int o11]) (st := []) [.int ((o8.2 11) + (5 : Int32))] (cmX11_isSmall X.2.1 G F ((o8.2 11) + (5 : Int32)) _ _ o8.2 r77 rfl rfl o11 ho11) (mj_rr rfl) rfl cw_X11_49 s0_71 a0_71 (by decide) rfl rfl (Nat.le_of_ble_eq_true rfl) ⟨Nat.zero_le _, Nat.zero_le _⟩ dX11_isHere_65 rfl ?_
    refine mj_if_ne 75 dX11_isHere_68 (by decide) (fun c12 => ?_) (fun c12 => ?_)
    · replace hf := mj_neg c12 hf
      refine mj_iconst dX11_isHere_75 kc_iconst_0 ?_
      obtain rfl := Option.some.inj hf
      have hZ := hq
      replace hZ := mj_u2p hZ
      exact mj_iret hR ⟨Nat.le_refl _, Nat.le_refl _⟩ rfl (by decide) dX11_isHere_76 hZ
    · replace hf := mj_pos c12 hf
      refine mj_iconst dX11_isHere_71 kc_iconst_1 ?_
      refine mj_goto 76 dX11_isHere_72 (by decide) ?_
      obtain rfl := Option.some.inj hf
      have hZ := hq
      replace hZ := mj_u2p hZ
      exact mj_iret hR ⟨Nat.le_refl _, Nat.le_refl _⟩ rfl (by decide) dX11_isHere_76 hZ
  · replace hf := mj_ere hf
    refine mj_erq (?_)
    refine mj_iconst dX11_isHere_47 kc_iconst_0 ?_
    obtain rfl := Option.some.inj hf
    have hZ := hq
    replace hZ := mj_u2p hZ
    exact mj_iret hR ⟨Nat.le_refl _, Nat.le_refl _⟩ rfl (by decide) dX11_isHere_48 hZ
set_option maxRecDepth 100000 in
set_option maxHeartbeats 4000000 in
theorem cmX11_isHere_71_2004 (l : Launch) (G : mj_GT) (F : Nat) (I : mj_IT) (L : mj_LT) (r71 : Nat → Int32) (r77 : Nat → Int32) (hr71 : I 71 = r71) (hr77 : I 77 = r77) (o : ((Int32) × (Nat → Int32))) (hf : fnX11_isHere_71_2004 F r71 r77 = some o) : mj_M l G yX11_isHere cX11_isHere 3 5 (some .boolean) 0 0 mj_P0 mj_S0 98 [.ref 71, .ref 2004] I L (mj_qd (some (.int o.1)) (mj_rows I [(71, o.2), (77, r77)]) L) := by
  refine mj_in RX11 "isHere" [(0, .ref 71), (1, .ref 2004)] rfl rfl rfl (by decide) (Nat.le_of_ble_eq_true rfl) (fun X ad hR => ?_)
  refine mj_toI [(71, r71), (77, r77)] (by intro q hq; simp only [List.mem_cons, List.not_mem_nil, or_false] at hq; rcases hq with rfl | rfl <;> assumption) ?_
  refine mtX11_isHere_71_2004 hR F I L r71 r77 o hf ?_
  obtain ⟨w0, w1⟩ := o
  refine mj_u2q ?_
  exact ⟨rfl, rfl, rfl⟩

-- X11_isHere_71_2005
def bdX11_isHere_71_2005_7 (F : Nat) (r71 : Nat → Int32) (r77 : Nat → Int32) (x2 : Int32) : Option (((Int32)) ⊕ (Unit ⊕ Unit)) := (if (7 : Int32) ≤ x2 then some (.inr (.inl ())) else (fnX11_isSmall F r71 r77 ((r71 11) + x2)).bind (fun o3 => (if o3 = 0 then some (.inr (.inr ())) else (if mj_ib ((r71 11) + x2) 400 = true then (if mj_ib x2 7 = true then (if (r77 (((r71 11) + x2).toNatClampNeg)) = (mj_ch 4 x2.toNatClampNeg) then some (.inl (x2 + (1))) else some (.inr (.inr ()))) else none) else none))))
def fnX11_isHere_71_2005 (F : Nat) (r71 : Nat → Int32) (r77 : Nat → Int32) : Option ((Int32) × (Nat → Int32)) := (fnX11_sign F r71 r77).bind (fun o8 => (mj_it (bdX11_isHere_71_2005_7 F o8.2 r77) F (0 : Int32)).bind (Sum.elim (fun _ => (fnX11_isSmall F o8.2 r77 ((o8.2 11) + (7 : Int32))).bind (fun o11 => (if o11 = 0 then some ((1 : Int32), o8.2) else some ((0 : Int32), o8.2)))) (fun _ => some ((0 : Int32), o8.2))))
set_option maxRecDepth 100000 in
set_option maxHeartbeats 4000000 in
theorem lpX11_isHere_71_2005_7 {X : mj_XT} {l : Launch} {G : mj_GT} {ad : Nat → Nat} {Qn : Option Value → mj_IT → mj_LT → Prop} (hR : mj_R X l G mj_P0 mj_S0 98 ad 0 0 Qn) (F : Nat) (I : mj_IT) (L : mj_LT) (r71 : Nat → Int32) (r77 : Nat → Int32) : ∀ (n : Nat) (s : ((Int32))) (e : (Unit ⊕ Unit)), mj_it (bdX11_isHere_71_2005_7 F r71 r77) n s = some e → (Sum.elim (fun _ => mj_W X G RX11 "isHere" cX11_isHere 3 5 (some .boolean) mj_P0 mj_S0 98 ad 0 0 55 [(0, .ref 71), (1, .ref 2005)] [] (mj_rows I [(71, r71), (77, r77)]) L) (fun _ => mj_W X G RX11 "isHere" cX11_isHere 3 5 (some .boolean) mj_P0 mj_S0 98 ad 0 0 47 [] [] (mj_rows I [(71, r71), (77, r77)]) L)) e → (fun x2 => mj_W X G RX11 "isHere" cX11_isHere 3 5 (some .boolean) mj_P0 mj_S0 98 ad 0 0 7 [(0, .ref 71), (1, .ref 2005), (2, .int x2)] [] (mj_rows I [(71, r71), (77, r77)]) L) s := by
  refine mj_loop (fun x2 o hf hc hx => ?_)
  unfold bdX11_isHere_71_2005_7 at hf
  refine mj_iload_n 2 dX11_isHere_7 rfl ?_
  refine mj_aload_n 1 dX11_isHere_8 rfl ?_
  refine mj_callVs (i := 4) (I2 := (mj_rows I [(71, r71), (77, r77)])) (L2 := L) (s1 := [.int (7 : Int32), .int x2]) (st := [.int x2]) [] (cmJ0_length X.2.1 G 4 2005 rfl (by decide) _ _) rfl rfl cw_X11_44 rfl (by decide) (by decide) rfl rfl (Nat.le_of_ble_eq_true rfl) ⟨Nat.zero_le _, Nat.zero_le _⟩ dX11_isHere_9 rfl ?_
  refine mj_icmp_ge 55 dX11_isHere_12 (by decide) (fun c2 => ?_) (fun c2 => ?_)
  · replace hf := mj_pos c2 hf
    refine mj_sub [0, 1] [(0, .ref 71), (1, .ref 2005)] rfl ?_
    obtain rfl := Option.some.inj hf
    have hZ := hx (.inl ()) rfl
    replace hZ := mj_el hZ
    exact hZ
  · replace hf := mj_neg c2 hf
    refine mj_aload_n 0 dX11_isHere_15 rfl ?_
    refine mj_aload_n 0 dX11_isHere_16 rfl ?_
    refine mj_getIv (v := (r71 11)) rfl fl_X11_31 rfl s0_71 a0_71 dX11_isHere_17 ?_
    refine mj_iload_n 2 dX11_isHere_20 rfl ?_
    refine mj_iadd dX11_isHere_21 ?_
    obtain ⟨o3, ho3, hf⟩ := mj_bd hf
    refine mj_callVd (I2 := (mj_rows I [(71, r71), (77, r77)])) (L2 := L) (s1 := [.int o3]) (st := []) [.int ((r71 11) + x2)] (cmX11_isSmall X.2.1 G F ((r71 11) + x2) _ _ r71 r77 rfl rfl o3 ho3) (mj_rr rfl) rfl cw_X11_49 s0_71 a0_71 (by decide) rfl rfl (Nat.le_of_ble_eq_true rfl) ⟨Nat.zero_le _, Nat.zero_le _⟩ dX11_isHere_22 rfl ?_
    refine mj_if_eq 47 dX11_isHere_25 (by decide) (fun c4 => ?_) (fun c4 => ?_)
    · replace hf := mj_pos c4 hf
      refine mj_sub [] [] rfl ?_
      obtain rfl := Option.some.inj hf
      have hZ := hx (.inr ()) rfl
      replace hZ := mj_er hZ
      exact hZ
    · replace hf := mj_neg c4 hf
      refine mj_aload_n 0 dX11_isHere_28 rfl ?_
      refine mj_getP p0_71_8 (by decide) fl_X11_37 rfl s0_71 a0_71 dX11_isHere_29 ?_
      refine mj_aload_n 0 dX11_isHere_32 rfl ?_
      refine mj_getIv (v := (r71 11)) rfl fl_X11_31 rfl s0_71 a0_71 dX11_isHere_33 ?_
      refine mj_iload_n 2 dX11_isHere_36 rfl ?_
      refine mj_iadd dX11_isHere_37 ?_
      obtain ⟨z5, hf⟩ := mj_ck hf
      refine mj_baldv (x := r77) rfl s0_77 a0_77 z5 dX11_isHere_38 ?_
      refine mj_aload_n 1 dX11_isHere_39 rfl ?_
      refine mj_iload_n 2 dX11_isHere_40 rfl ?_
      obtain ⟨z6, hf⟩ := mj_ck hf
      refine mj_callVs (i := 4) (I2 := (mj_rows I [(71, r71), (77, r77)])) (L2 := L) (s1 := [.int (mj_ch 4 x2.toNatClampNeg), .int (r77 (((r71 11) + x2).toNatClampNeg))]) (st := [.int (r77 (((r71 11) + x2).toNatClampNeg))]) [.int x2] (cmJ0_charAt X.2.1 G 4 2005 rfl (by decide) x2 _ _ z6) rfl rfl cw_X11_53 rfl (by decide) (by decide) rfl rfl (Nat.le_of_ble_eq_true rfl) ⟨Nat.zero_le _, Nat.zero_le _⟩ dX11_isHere_41 rfl ?_
      refine mj_icmp_eq 49 dX11_isHere_44 (by decide) (fun c7 => ?_) (fun c7 => ?_)
      · replace hf := mj_pos c7 hf
        refine mj_iinc 2 [(2, .int (x2 + (1))), (0, .ref 71), (1, .ref 2005)] dX11_isHere_49 rfl (kz_1 _) (by decide) rfl ?_
        refine mj_goto 7 dX11_isHere_52 (by decide) ?_
        refine mj_sub [1, 2, 0] [(0, .ref 71), (1, .ref 2005), (2, .int (x2 + (1)))] rfl ?_
        obtain rfl := Option.some.inj hf
        have hZ := hc (x2 + (1)) rfl
        exact hZ
      · replace hf := mj_neg c7 hf
        refine mj_sub [] [] rfl ?_
        obtain rfl := Option.some.inj hf
        have hZ := hx (.inr ()) rfl
        replace hZ := mj_er hZ
        exact hZ
set_option maxRecDepth 100000 in
set_option maxHeartbeats 4000000 in
theorem mtX11_isHere_71_2005 {X : mj_XT} {l : Launch} {G : mj_GT} {ad : Nat → Nat} {Qn : Option Value → mj_IT → mj_LT → Prop} (hR : mj_R X l G mj_P0 mj_S0 98 ad 0 0 Qn) (F : Nat) (I : mj_IT) (L : mj_LT) (r71 : Nat → Int32) (r77 : Nat → Int32) (o : ((Int32) × (Nat → Int32))) (hf : fnX11_isHere_71_2005 F r71 r77 = some o) (hq : (mj_u2 (fun ov r71 => Qn (some (.int ov)) (mj_rows I [(71, r71), (77, r77)]) L)) o) : mj_W X G RX11 "isHere" cX11_isHere 3 5 (some .boolean) mj_P0 mj_S0 98 ad 0 0 0 [(0, .ref 71), (1, .ref 2005)] [] (mj_rows I [(71, r71), (77, r77)]) L := by
  unfold fnX11_isHere_71_2005 at hf
  refine mj_aload_n 0 dX11_isHere_0 rfl ?_
  obtain ⟨o8, ho8, hf⟩ := mj_bd hf
  refine mj_callVd (I2 := (mj_rows I [(71, o8.2), (77, r77)])) (L2 := L) (s1 := [.int o8.1]) (st := []) [] (cmX11_sign X.2.1 G F  _ _ r71 r77 rfl rfl o8 ho8) (mj_rr rfl) rfl cw_X11_40 s0_71 a0_71 (by decide) rfl rfl (Nat.le_of_ble_eq_true rfl) ⟨Nat.zero_le _, Nat.zero_le _⟩ dX11_isHere_1 rfl ?_
  refine mj_pop dX11_isHere_4 rfl ?_
  refine mj_iconst dX11_isHere_5 kc_iconst_0 ?_
  refine mj_istore_n [(2, .int (0 : Int32)), (0, .ref 71), (1, .ref 2005)] dX11_isHere_6 rfl (by decide) rfl ?_
  refine mj_sub [1, 2, 0] [(0, .ref 71), (1, .ref 2005), (2, .int (0 : Int32))] rfl ?_
  obtain ⟨e9, ho9, hf⟩ := mj_bd hf
  refine lpX11_isHere_71_2005_7 hR F I L o8.2 r77 F (0 : Int32) e9 ho9 ?_
  rcases e9 with e9 | e9
  · replace hf := mj_ele hf
    refine mj_elq (?_)
    refine mj_aload_n 0 dX11_isHere_55 rfl ?_
    refine mj_aload_n 0 dX11_isHere_56 rfl ?_
    refine mj_getIv (v := (o8.2 11)) rfl fl_X11_31 rfl s0_71 a0_71 dX11_isHere_57 ?_
    refine mj_aload_n 1 dX11_isHere_60 rfl ?_
    refine mj_callVs (i := 4) (I2 := (mj_rows I [(71, o8.2), (77, r77)])) (L2 := L) (s1 := [.int (7 : Int32), .int (o8.2 11), .ref 71]) (st := [.int (o8.2 11), .ref 71]) [] (cmJ0_length X.2.1 G 4 2005 rfl (by decide) _ _) rfl rfl cw_X11_44 rfl (by decide) (by decide) rfl rfl (Nat.le_of_ble_eq_true rfl) ⟨Nat.zero_le _, Nat.zero_le _⟩ dX11_isHere_61 rfl ?_
    refine mj_iadd dX11_isHere_64 ?_
    obtain ⟨o11, ho11, hf⟩ := mj_bd hf
    refine mj_callVd (I2 := (mj_rows I [(71, o8.2), (77, r77)])) (L2 := L) (s1 := [.int o11]) (st := []) [.int ((o8.2 11) + (7 : Int32))] (cmX11_isSmall X.2.1 G F ((o8.2 11) + (7 : Int32)) _ _ o8.2 r77 rfl rfl o11 ho11) (mj_rr rfl) rfl cw_X11_49 s0_71 a0_71 (by decide) rfl rfl (Nat.le_of_ble_eq_true rfl) ⟨Nat.zero_le _, Nat.zero_le _⟩ dX11_isHere_65 rfl ?_
    refine mj_if_ne 75 dX11_isHere_68 (by decide) (fun c12 => ?_) (fun c12 => ?_)
    · replace hf := mj_neg c12 hf
      refine mj_iconst dX11_isHere_75 kc_iconst_0 ?_
      obtain rfl := Option.some.inj hf
      have hZ := hq
      replace hZ := mj_u2p hZ
      exact mj_iret hR ⟨Nat.le_refl _, Nat.le_refl _⟩ rfl (by decide) dX11_isHere_76 hZ
    · replace hf := mj_pos c12 hf
      refine mj_iconst dX11_isHere_71 kc_iconst_1 ?_
      refine mj_goto 76 dX11_isHere_72 (by decide) ?_
      obtain rfl := Option.some.inj hf
      have hZ := hq
      replace hZ := mj_u2p hZ
      exact mj_iret hR ⟨Nat.le_refl _, Nat.le_refl _⟩ rfl (by decide) dX11_isHere_76 hZ
  · replace hf := mj_ere hf
    refine mj_erq (?_)
    refine mj_iconst dX11_isHere_47 kc_iconst_0 ?_
    obtain rfl := Option.some.inj hf
    have hZ := hq
    replace hZ := mj_u2p hZ
    exact mj_iret hR ⟨Nat.le_refl _, Nat.le_refl _⟩ rfl (by decide) dX11_isHere_48 hZ
set_option maxRecDepth 100000 in
set_option maxHeartbeats 4000000 in
theorem cmX11_isHere_71_2005 (l : Launch) (G : mj_GT) (F : Nat) (I : mj_IT) (L : mj_LT) (r71 : Nat → Int32) (r77 : Nat → Int32) (hr71 : I 71 = r71) (hr77 : I 77 = r77) (o : ((Int32) × (Nat → Int32))) (hf : fnX11_isHere_71_2005 F r71 r77 = some o) : mj_M l G yX11_isHere cX11_isHere 3 5 (some .boolean) 0 0 mj_P0 mj_S0 98 [.ref 71, .ref 2005] I L (mj_qd (some (.int o.1)) (mj_rows I [(71, o.2), (77, r77)]) L) := by
  refine mj_in RX11 "isHere" [(0, .ref 71), (1, .ref 2005)] rfl rfl rfl (by decide) (Nat.le_of_ble_eq_true rfl) (fun X ad hR => ?_)
  refine mj_toI [(71, r71), (77, r77)] (by intro q hq; simp only [List.mem_cons, List.not_mem_nil, or_false] at hq; rcases hq with rfl | rfl <;> assumption) ?_
  refine mtX11_isHere_71_2005 hR F I L r71 r77 o hf ?_
  obtain ⟨w0, w1⟩ := o
  refine mj_u2q ?_
  exact ⟨rfl, rfl, rfl⟩

-- X11_isHere_71_2006
def bdX11_isHere_71_2006_7 (F : Nat) (r71 : Nat → Int32) (r77 : Nat → Int32) (x2 : Int32) : Option (((Int32)) ⊕ (Unit ⊕ Unit)) := (if (4 : Int32) ≤ x2 then some (.inr (.inl ())) else (fnX11_isSmall F r71 r77 ((r71 11) + x2)).bind (fun o3 => (if o3 = 0 then some (.inr (.inr ())) else (if mj_ib ((r71 11) + x2) 400 = true then (if mj_ib x2 4 = true then (if (r77 (((r71 11) + x2).toNatClampNeg)) = (mj_ch 5 x2.toNatClampNeg) then some (.inl (x2 + (1))) else some (.inr (.inr ()))) else none) else none))))
def fnX11_isHere_71_2006 (F : Nat) (r71 : Nat → Int32) (r77 : Nat → Int32) : Option ((Int32) × (Nat → Int32)) := (fnX11_sign F r71 r77).bind (fun o8 => (mj_it (bdX11_isHere_71_2006_7 F o8.2 r77) F (0 : Int32)).bind (Sum.elim (fun _ => (fnX11_isSmall F o8.2 r77 ((o8.2 11) + (4 : Int32))).bind (fun o11 => (if o11 = 0 then some ((1 : Int32), o8.2) else some ((0 : Int32), o8.2)))) (fun _ => some ((0 : Int32), o8.2))))
set_option maxRecDepth 100000 in
set_option maxHeartbeats 4000000 in
theorem lpX11_isHere_71_2006_7 {X : mj_XT} {l : Launch} {G : mj_GT} {ad : Nat → Nat} {Qn : Option Value → mj_IT → mj_LT → Prop} (hR : mj_R X l G mj_P0 mj_S0 98 ad 0 0 Qn) (F : Nat) (I : mj_IT) (L : mj_LT) (r71 : Nat → Int32) (r77 : Nat → Int32) : ∀ (n : Nat) (s : ((Int32))) (e : (Unit ⊕ Unit)), mj_it (bdX11_isHere_71_2006_7 F r71 r77) n s = some e → (Sum.elim (fun _ => mj_W X G RX11 "isHere" cX11_isHere 3 5 (some .boolean) mj_P0 mj_S0 98 ad 0 0 55 [(0, .ref 71), (1, .ref 2006)] [] (mj_rows I [(71, r71), (77, r77)]) L) (fun _ => mj_W X G RX11 "isHere" cX11_isHere 3 5 (some .boolean) mj_P0 mj_S0 98 ad 0 0 47 [] [] (mj_rows I [(71, r71), (77, r77)]) L)) e → (fun x2 => mj_W X G RX11 "isHere" cX11_isHere 3 5 (some .boolean) mj_P0 mj_S0 98 ad 0 0 7 [(0, .ref 71), (1, .ref 2006), (2, .int x2)] [] (mj_rows I [(71, r71), (77, r77)]) L) s := by
  refine mj_loop (fun x2 o hf hc hx => ?_)
  unfold bdX11_isHere_71_2006_7 at hf
  refine mj_iload_n 2 dX11_isHere_7 rfl ?_
  refine mj_aload_n 1 dX11_isHere_8 rfl ?_
  refine mj_callVs (i := 5) (I2 := (mj_rows I [(71, r71), (77, r77)])) (L2 := L) (s1 := [.int (4 : Int32), .int x2]) (st := [.int x2]) [] (cmJ0_length X.2.1 G 5 2006 rfl (by decide) _ _) rfl rfl cw_X11_44 rfl (by decide) (by decide) rfl rfl (Nat.le_of_ble_eq_true rfl) ⟨Nat.zero_le _, Nat.zero_le _⟩ dX11_isHere_9 rfl ?_
  refine mj_icmp_ge 55 dX11_isHere_12 (by decide) (fun c2 => ?_) (fun c2 => ?_)
  · replace hf := mj_pos c2 hf
    refine mj_sub [0, 1] [(0, .ref 71), (1, .ref 2006)] rfl ?_
    obtain rfl := Option.some.inj hf
    have hZ := hx (.inl ()) rfl
    replace hZ := mj_el hZ
    exact hZ
  · replace hf := mj_neg c2 hf
    refine mj_aload_n 0 dX11_isHere_15 rfl ?_
    refine mj_aload_n 0 dX11_isHere_16 rfl ?_
    refine mj_getIv (v := (r71 11)) rfl fl_X11_31 rfl s0_71 a0_71 dX11_isHere_17 ?_
    refine mj_iload_n 2 dX11_isHere_20 rfl ?_
    refine mj_iadd dX11_isHere_21 ?_
    obtain ⟨o3, ho3, hf⟩ := mj_bd hf
    refine mj_callVd (I2 := (mj_rows I [(71, r71), (77, r77)])) (L2 := L) (s1 := [.int o3]) (st := []) [.int ((r71 11) + x2)] (cmX11_isSmall X.2.1 G F ((r71 11) + x2) _ _ r71 r77 rfl rfl o3 ho3) (mj_rr rfl) rfl cw_X11_49 s0_71 a0_71 (by decide) rfl rfl (Nat.le_of_ble_eq_true rfl) ⟨Nat.zero_le _, Nat.zero_le _⟩ dX11_isHere_22 rfl ?_
    refine mj_if_eq 47 dX11_isHere_25 (by decide) (fun c4 => ?_) (fun c4 => ?_)
    · replace hf := mj_pos c4 hf
      refine mj_sub [] [] rfl ?_
      obtain rfl := Option.some.inj hf
      have hZ := hx (.inr ()) rfl
      replace hZ := mj_er hZ
      exact hZ
    · replace hf := mj_neg c4 hf
      refine mj_aload_n 0 dX11_isHere_28 rfl ?_
      refine mj_getP p0_71_8 (by decide) fl_X11_37 rfl s0_71 a0_71 dX11_isHere_29 ?_
      refine mj_aload_n 0 dX11_isHere_32 rfl ?_
      refine mj_getIv (v := (r71 11)) rfl fl_X11_31 rfl s0_71 a0_71 dX11_isHere_33 ?_
      refine mj_iload_n 2 dX11_isHere_36 rfl ?_
      refine mj_iadd dX11_isHere_37 ?_
      obtain ⟨z5, hf⟩ := mj_ck hf
      refine mj_baldv (x := r77) rfl s0_77 a0_77 z5 dX11_isHere_38 ?_
      refine mj_aload_n 1 dX11_isHere_39 rfl ?_
      refine mj_iload_n 2 dX11_isHere_40 rfl ?_
      obtain ⟨z6, hf⟩ := mj_ck hf
      refine mj_callVs (i := 5) (I2 := (mj_rows I [(71, r71), (77, r77)])) (L2 := L) (s1 := [.int (mj_ch 5 x2.toNatClampNeg), .int (r77 (((r71 11) + x2).toNatClampNeg))]) (st := [.int (r77 (((r71 11) + x2).toNatClampNeg))]) [.int x2] (cmJ0_charAt X.2.1 G 5 2006 rfl (by decide) x2 _ _ z6) rfl rfl cw_X11_53 rfl (by decide) (by decide) rfl rfl (Nat.le_of_ble_eq_true rfl) ⟨Nat.zero_le _, Nat.zero_le _⟩ dX11_isHere_41 rfl ?_
      refine mj_icmp_eq 49 dX11_isHere_44 (by decide) (fun c7 => ?_) (fun c7 => ?_)
      · replace hf := mj_pos c7 hf
        refine mj_iinc 2 [(2, .int (x2 + (1))), (0, .ref 71), (1, .ref 2006)] dX11_isHere_49 rfl (kz_1 _) (by decide) rfl ?_
        refine mj_goto 7 dX11_isHere_52 (by decide) ?_
        refine mj_sub [1, 2, 0] [(0, .ref 71), (1, .ref 2006), (2, .int (x2 + (1)))] rfl ?_
        obtain rfl := Option.some.inj hf
        have hZ := hc (x2 + (1)) rfl
        exact hZ
      · replace hf := mj_neg c7 hf
        refine mj_sub [] [] rfl ?_
        obtain rfl := Option.some.inj hf
        have hZ := hx (.inr ()) rfl
        replace hZ := mj_er hZ
        exact hZ
set_option maxRecDepth 100000 in
set_option maxHeartbeats 4000000 in
theorem mtX11_isHere_71_2006 {X : mj_XT} {l : Launch} {G : mj_GT} {ad : Nat → Nat} {Qn : Option Value → mj_IT → mj_LT → Prop} (hR : mj_R X l G mj_P0 mj_S0 98 ad 0 0 Qn) (F : Nat) (I : mj_IT) (L : mj_LT) (r71 : Nat → Int32) (r77 : Nat → Int32) (o : ((Int32) × (Nat → Int32))) (hf : fnX11_isHere_71_2006 F r71 r77 = some o) (hq : (mj_u2 (fun ov r71 => Qn (some (.int ov)) (mj_rows I [(71, r71), (77, r77)]) L)) o) : mj_W X G RX11 "isHere" cX11_isHere 3 5 (some .boolean) mj_P0 mj_S0 98 ad 0 0 0 [(0, .ref 71), (1, .ref 2006)] [] (mj_rows I [(71, r71), (77, r77)]) L := by
  unfold fnX11_isHere_71_2006 at hf
  refine mj_aload_n 0 dX11_isHere_0 rfl ?_
  obtain ⟨o8, ho8, hf⟩ := mj_bd hf
  refine mj_callVd (I2 := (mj_rows I [(71, o8.2), (77, r77)])) (L2 := L) (s1 := [.int o8.1]) (st := []) [] (cmX11_sign X.2.1 G F  _ _ r71 r77 rfl rfl o8 ho8) (mj_rr rfl) rfl cw_X11_40 s0_71 a0_71 (by decide) rfl rfl (Nat.le_of_ble_eq_true rfl) ⟨Nat.zero_le _, Nat.zero_le _⟩ dX11_isHere_1 rfl ?_
  refine mj_pop dX11_isHere_4 rfl ?_
  refine mj_iconst dX11_isHere_5 kc_iconst_0 ?_
  refine mj_istore_n [(2, .int (0 : Int32)), (0, .ref 71), (1, .ref 2006)] dX11_isHere_6 rfl (by decide) rfl ?_
  refine mj_sub [1, 2, 0] [(0, .ref 71), (1, .ref 2006), (2, .int (0 : Int32))] rfl ?_
  obtain ⟨e9, ho9, hf⟩ := mj_bd hf
  refine lpX11_isHere_71_2006_7 hR F I L o8.2 r77 F (0 : Int32) e9 ho9 ?_
  rcases e9 with e9 | e9
  · replace hf := mj_ele hf
    refine mj_elq (?_)
    refine mj_aload_n 0 dX11_isHere_55 rfl ?_
    refine mj_aload_n 0 dX11_isHere_56 rfl ?_
    refine mj_getIv (v := (o8.2 11)) rfl fl_X11_31 rfl s0_71 a0_71 dX11_isHere_57 ?_
    refine mj_aload_n 1 dX11_isHere_60 rfl ?_
    refine mj_callVs (i := 5) (I2 := (mj_rows I [(71, o8.2), (77, r77)])) (L2 := L) (s1 := [.int (4 : Int32), .int (o8.2 11), .ref 71]) (st := [.int (o8.2 11), .ref 71]) [] (cmJ0_length X.2.1 G 5 2006 rfl (by decide) _ _) rfl rfl cw_X11_44 rfl (by decide) (by decide) rfl rfl (Nat.le_of_ble_eq_true rfl) ⟨Nat.zero_le _, Nat.zero_le _⟩ dX11_isHere_61 rfl ?_
    refine mj_iadd dX11_isHere_64 ?_
    obtain ⟨o11, ho11, hf⟩ := mj_bd hf
    refine mj_callVd (I2 := (mj_rows I [(71, o8.2), (77, r77)])) (L2 := L) (s1 := [.int o11]) (st := []) [.int ((o8.2 11) + (4 : Int32))] (cmX11_isSmall X.2.1 G F ((o8.2 11) + (4 : Int32)) _ _ o8.2 r77 rfl rfl o11 ho11) (mj_rr rfl) rfl cw_X11_49 s0_71 a0_71 (by decide) rfl rfl (Nat.le_of_ble_eq_true rfl) ⟨Nat.zero_le _, Nat.zero_le _⟩ dX11_isHere_65 rfl ?_
    refine mj_if_ne 75 dX11_isHere_68 (by decide) (fun c12 => ?_) (fun c12 => ?_)
    · replace hf := mj_neg c12 hf
      refine mj_iconst dX11_isHere_75 kc_iconst_0 ?_
      obtain rfl := Option.some.inj hf
      have hZ := hq
      replace hZ := mj_u2p hZ
      exact mj_iret hR ⟨Nat.le_refl _, Nat.le_refl _⟩ rfl (by decide) dX11_isHere_76 hZ
    · replace hf := mj_pos c12 hf
      refine mj_iconst dX11_isHere_71 kc_iconst_1 ?_
      refine mj_goto 76 dX11_isHere_72 (by decide) ?_
      obtain rfl := Option.some.inj hf
      have hZ := hq
      replace hZ := mj_u2p hZ
      exact mj_iret hR ⟨Nat.le_refl _, Nat.le_refl _⟩ rfl (by decide) dX11_isHere_76 hZ
  · replace hf := mj_ere hf
    refine mj_erq (?_)
    refine mj_iconst dX11_isHere_47 kc_iconst_0 ?_
    obtain rfl := Option.some.inj hf
    have hZ := hq
    replace hZ := mj_u2p hZ
    exact mj_iret hR ⟨Nat.le_refl _, Nat.le_refl _⟩ rfl (by decide) dX11_isHere_48 hZ
set_option maxRecDepth 100000 in
set_option maxHeartbeats 4000000 in
theorem cmX11_isHere_71_2006 (l : Launch) (G : mj_GT) (F : Nat) (I : mj_IT) (L : mj_LT) (r71 : Nat → Int32) (r77 : Nat → Int32) (hr71 : I 71 = r71) (hr77 : I 77 = r77) (o : ((Int32) × (Nat → Int32))) (hf : fnX11_isHere_71_2006 F r71 r77 = some o) : mj_M l G yX11_isHere cX11_isHere 3 5 (some .boolean) 0 0 mj_P0 mj_S0 98 [.ref 71, .ref 2006] I L (mj_qd (some (.int o.1)) (mj_rows I [(71, o.2), (77, r77)]) L) := by
  refine mj_in RX11 "isHere" [(0, .ref 71), (1, .ref 2006)] rfl rfl rfl (by decide) (Nat.le_of_ble_eq_true rfl) (fun X ad hR => ?_)
  refine mj_toI [(71, r71), (77, r77)] (by intro q hq; simp only [List.mem_cons, List.not_mem_nil, or_false] at hq; rcases hq with rfl | rfl <;> assumption) ?_
  refine mtX11_isHere_71_2006 hR F I L r71 r77 o hf ?_
  obtain ⟨w0, w1⟩ := o
  refine mj_u2q ?_
  exact ⟨rfl, rfl, rfl⟩

-- X11_begins
def fnX11_begins (F : Nat) (r71 : Nat → Int32) (r77 : Nat → Int32) : Option ((Int32) × (Nat → Int32)) := (fnX11_isNameHere F r71 r77).bind (fun o1 => (if o1.1 = 0 then (fnX11_isHere_71_2001 F o1.2 r77).bind (fun o3 => (if o3.1 = 0 then (fnX11_isHere_71_2002 F o3.2 r77).bind (fun o5 => (if o5.1 = 0 then (fnX11_isHere_71_2003 F o5.2 r77).bind (fun o7 => (if o7.1 = 0 then (fnX11_isHere_71_2004 F o7.2 r77).bind (fun o9 => (if o9.1 = 0 then (fnX11_isHere_71_2005 F o9.2 r77).bind (fun o11 => (if o11.1 = 0 then (fnX11_isHere_71_2006 F o11.2 r77).bind (fun o13 => (if o13.1 = 0 then some ((0 : Int32), o13.2) else some ((1 : Int32), o13.2))) else some ((1 : Int32), o11.2))) else some ((1 : Int32), o9.2))) else some ((1 : Int32), o7.2))) else some ((1 : Int32), o5.2))) else some ((1 : Int32), o3.2))) else some ((1 : Int32), o1.2)))
set_option maxRecDepth 100000 in
set_option maxHeartbeats 4000000 in
theorem mtX11_begins {X : mj_XT} {l : Launch} {G : mj_GT} {ad : Nat → Nat} {Qn : Option Value → mj_IT → mj_LT → Prop} (hR : mj_R X l G mj_P0 mj_S0 98 ad 0 0 Qn) (F : Nat) (I : mj_IT) (L : mj_LT) (r71 : Nat → Int32) (r77 : Nat → Int32) (o : ((Int32) × (Nat → Int32))) (hf : fnX11_begins F r71 r77 = some o) (hq : (mj_u2 (fun ov r71 => Qn (some (.int ov)) (mj_rows I [(71, r71), (77, r77)]) L)) o) : mj_W X G RX11 "begins" cX11_begins 1 6 (some .boolean) mj_P0 mj_S0 98 ad 0 0 0 [(0, .ref 71)] [] (mj_rows I [(71, r71), (77, r77)]) L := by
  unfold fnX11_begins at hf
  refine mj_aload_n 0 dX11_begins_0 rfl ?_
  obtain ⟨o1, ho1, hf⟩ := mj_bd hf
  refine mj_callVd (I2 := (mj_rows I [(71, o1.2), (77, r77)])) (L2 := L) (s1 := [.int o1.1]) (st := []) [] (cmX11_isNameHere X.2.1 G F  _ _ r71 r77 rfl rfl o1 ho1) (mj_rr rfl) rfl cw_X11_68 s0_71 a0_71 (by decide) rfl rfl (Nat.le_of_ble_eq_true rfl) ⟨Nat.zero_le _, Nat.zero_le _⟩ dX11_begins_1 rfl ?_
  refine mj_if_ne 61 dX11_begins_4 (by decide) (fun c2 => ?_) (fun c2 => ?_)
  · replace hf := mj_neg c2 hf
    refine mj_iconst dX11_begins_61 kc_iconst_1 ?_
    refine mj_goto 66 dX11_begins_62 (by decide) ?_
    obtain rfl := Option.some.inj hf
    have hZ := hq
    replace hZ := mj_u2p hZ
    exact mj_iret hR ⟨Nat.le_refl _, Nat.le_refl _⟩ rfl (by decide) dX11_begins_66 hZ
  · replace hf := mj_pos c2 hf
    refine mj_aload_n 0 dX11_begins_7 rfl ?_
    refine mj_ldcS (b := 2001) (List.mem_of_getElem? (i := 7) rfl) rfl dX11_begins_8 ?_
    obtain ⟨o3, ho3, hf⟩ := mj_bd hf
    refine mj_callVd (I2 := (mj_rows I [(71, o3.2), (77, r77)])) (L2 := L) (s1 := [.int o3.1]) (st := []) [.ref 2001] (cmX11_isHere_71_2001 X.2.1 G F  _ _ o1.2 r77 rfl rfl o3 ho3) (mj_rr rfl) rfl cw_X11_57 s0_71 a0_71 (by decide) rfl rfl (Nat.le_of_ble_eq_true rfl) ⟨Nat.zero_le _, Nat.zero_le _⟩ dX11_begins_10 rfl ?_
    refine mj_if_ne 61 dX11_begins_13 (by decide) (fun c4 => ?_) (fun c4 => ?_)
    · replace hf := mj_neg c4 hf
      refine mj_iconst dX11_begins_61 kc_iconst_1 ?_
      refine mj_goto 66 dX11_begins_62 (by decide) ?_
      obtain rfl := Option.some.inj hf
      have hZ := hq
      replace hZ := mj_u2p hZ
      exact mj_iret hR ⟨Nat.le_refl _, Nat.le_refl _⟩ rfl (by decide) dX11_begins_66 hZ
    · replace hf := mj_pos c4 hf
      refine mj_aload_n 0 dX11_begins_16 rfl ?_
      refine mj_ldcS (b := 2002) (List.mem_of_getElem? (i := 8) rfl) rfl dX11_begins_17 ?_
      obtain ⟨o5, ho5, hf⟩ := mj_bd hf
      refine mj_callVd (I2 := (mj_rows I [(71, o5.2), (77, r77)])) (L2 := L) (s1 := [.int o5.1]) (st := []) [.ref 2002] (cmX11_isHere_71_2002 X.2.1 G F  _ _ o3.2 r77 rfl rfl o5 ho5) (mj_rr rfl) rfl cw_X11_57 s0_71 a0_71 (by decide) rfl rfl (Nat.le_of_ble_eq_true rfl) ⟨Nat.zero_le _, Nat.zero_le _⟩ dX11_begins_19 rfl ?_
      refine mj_if_ne 61 dX11_begins_22 (by decide) (fun c6 => ?_) (fun c6 => ?_)
      · replace hf := mj_neg c6 hf
        refine mj_iconst dX11_begins_61 kc_iconst_1 ?_
        refine mj_goto 66 dX11_begins_62 (by decide) ?_
        obtain rfl := Option.some.inj hf
        have hZ := hq
        replace hZ := mj_u2p hZ
        exact mj_iret hR ⟨Nat.le_refl _, Nat.le_refl _⟩ rfl (by decide) dX11_begins_66 hZ
      · replace hf := mj_pos c6 hf
        refine mj_aload_n 0 dX11_begins_25 rfl ?_
        refine mj_ldcS (b := 2003) (List.mem_of_getElem? (i := 9) rfl) rfl dX11_begins_26 ?_
        obtain ⟨o7, ho7, hf⟩ := mj_bd hf
        refine mj_callVd (I2 := (mj_rows I [(71, o7.2), (77, r77)])) (L2 := L) (s1 := [.int o7.1]) (st := []) [.ref 2003] (cmX11_isHere_71_2003 X.2.1 G F  _ _ o5.2 r77 rfl rfl o7 ho7) (mj_rr rfl) rfl cw_X11_57 s0_71 a0_71 (by decide) rfl rfl (Nat.le_of_ble_eq_true rfl) ⟨Nat.zero_le _, Nat.zero_le _⟩ dX11_begins_28 rfl ?_
        refine mj_if_ne 61 dX11_begins_31 (by decide) (fun c8 => ?_) (fun c8 => ?_)
        · replace hf := mj_neg c8 hf
          refine mj_iconst dX11_begins_61 kc_iconst_1 ?_
          refine mj_goto 66 dX11_begins_62 (by decide) ?_
          obtain rfl := Option.some.inj hf
          have hZ := hq
          replace hZ := mj_u2p hZ
          exact mj_iret hR ⟨Nat.le_refl _, Nat.le_refl _⟩ rfl (by decide) dX11_begins_66 hZ
        · replace hf := mj_pos c8 hf
          refine mj_aload_n 0 dX11_begins_34 rfl ?_
          refine mj_ldcS (b := 2004) (List.mem_of_getElem? (i := 10) rfl) rfl dX11_begins_35 ?_
          obtain ⟨o9, ho9, hf⟩ := mj_bd hf
          refine mj_callVd (I2 := (mj_rows I [(71, o9.2), (77, r77)])) (L2 := L) (s1 := [.int o9.1]) (st := []) [.ref 2004] (cmX11_isHere_71_2004 X.2.1 G F  _ _ o7.2 r77 rfl rfl o9 ho9) (mj_rr rfl) rfl cw_X11_57 s0_71 a0_71 (by decide) rfl rfl (Nat.le_of_ble_eq_true rfl) ⟨Nat.zero_le _, Nat.zero_le _⟩ dX11_begins_37 rfl ?_
          refine mj_if_ne 61 dX11_begins_40 (by decide) (fun c10 => ?_) (fun c10 => ?_)
          · replace hf := mj_neg c10 hf
            refine mj_iconst dX11_begins_61 kc_iconst_1 ?_
            refine mj_goto 66 dX11_begins_62 (by decide) ?_
            obtain rfl := Option.some.inj hf
            have hZ := hq
            replace hZ := mj_u2p hZ
            exact mj_iret hR ⟨Nat.le_refl _, Nat.le_refl _⟩ rfl (by decide) dX11_begins_66 hZ
          · replace hf := mj_pos c10 hf
            refine mj_aload_n 0 dX11_begins_43 rfl ?_
            refine mj_ldcS (b := 2005) (List.mem_of_getElem? (i := 11) rfl) rfl dX11_begins_44 ?_
            obtain ⟨o11, ho11, hf⟩ := mj_bd hf
            refine mj_callVd (I2 := (mj_rows I [(71, o11.2), (77, r77)])) (L2 := L) (s1 := [.int o11.1]) (st := []) [.ref 2005] (cmX11_isHere_71_2005 X.2.1 G F  _ _ o9.2 r77 rfl rfl o11 ho11) (mj_rr rfl) rfl cw_X11_57 s0_71 a0_71 (by decide) rfl rfl (Nat.le_of_ble_eq_true rfl) ⟨Nat.zero_le _, Nat.zero_le _⟩ dX11_begins_46 rfl ?_
            refine mj_if_ne 61 dX11_begins_49 (by decide) (fun c12 => ?_) (fun c12 => ?_)
            · replace hf := mj_neg c12 hf
              refine mj_iconst dX11_begins_61 kc_iconst_1 ?_
              refine mj_goto 66 dX11_begins_62 (by decide) ?_
              obtain rfl := Option.some.inj hf
              have hZ := hq
              replace hZ := mj_u2p hZ
              exact mj_iret hR ⟨Nat.le_refl _, Nat.le_refl _⟩ rfl (by decide) dX11_begins_66 hZ
            · replace hf := mj_pos c12 hf
              refine mj_aload_n 0 dX11_begins_52 rfl ?_
              refine mj_ldcS (b := 2006) (List.mem_of_getElem? (i := 12) rfl) rfl dX11_begins_53 ?_
              obtain ⟨o13, ho13, hf⟩ := mj_bd hf
              refine mj_callVd (I2 := (mj_rows I [(71, o13.2), (77, r77)])) (L2 := L) (s1 := [.int o13.1]) (st := []) [.ref 2006] (cmX11_isHere_71_2006 X.2.1 G F  _ _ o11.2 r77 rfl rfl o13 ho13) (mj_rr rfl) rfl cw_X11_57 s0_71 a0_71 (by decide) rfl rfl (Nat.le_of_ble_eq_true rfl) ⟨Nat.zero_le _, Nat.zero_le _⟩ dX11_begins_55 rfl ?_
              refine mj_if_eq 65 dX11_begins_58 (by decide) (fun c14 => ?_) (fun c14 => ?_)
              · replace hf := mj_pos c14 hf
                refine mj_iconst dX11_begins_65 kc_iconst_0 ?_
                obtain rfl := Option.some.inj hf
                have hZ := hq
                replace hZ := mj_u2p hZ
                exact mj_iret hR ⟨Nat.le_refl _, Nat.le_refl _⟩ rfl (by decide) dX11_begins_66 hZ
              · replace hf := mj_neg c14 hf
                refine mj_iconst dX11_begins_61 kc_iconst_1 ?_
                refine mj_goto 66 dX11_begins_62 (by decide) ?_
                obtain rfl := Option.some.inj hf
                have hZ := hq
                replace hZ := mj_u2p hZ
                exact mj_iret hR ⟨Nat.le_refl _, Nat.le_refl _⟩ rfl (by decide) dX11_begins_66 hZ
set_option maxRecDepth 100000 in
set_option maxHeartbeats 4000000 in
theorem cmX11_begins (l : Launch) (G : mj_GT) (F : Nat) (I : mj_IT) (L : mj_LT) (r71 : Nat → Int32) (r77 : Nat → Int32) (hr71 : I 71 = r71) (hr77 : I 77 = r77) (o : ((Int32) × (Nat → Int32))) (hf : fnX11_begins F r71 r77 = some o) : mj_M l G yX11_begins cX11_begins 1 6 (some .boolean) 0 0 mj_P0 mj_S0 98 [.ref 71] I L (mj_qd (some (.int o.1)) (mj_rows I [(71, o.2), (77, r77)]) L) := by
  refine mj_in RX11 "begins" [(0, .ref 71)] rfl rfl rfl (by decide) (Nat.le_of_ble_eq_true rfl) (fun X ad hR => ?_)
  refine mj_toI [(71, r71), (77, r77)] (by intro q hq; simp only [List.mem_cons, List.not_mem_nil, or_false] at hq; rcases hq with rfl | rfl <;> assumption) ?_
  refine mtX11_begins hR F I L r71 r77 o hf ?_
  obtain ⟨w0, w1⟩ := o
  refine mj_u2q ?_
  exact ⟨rfl, rfl, rfl⟩

-- X11_behind
def fnX11_behind (F : Nat) (x1 : Int32) : Option ((Int32)) := some ((-100 : Int32) - x1)
set_option maxRecDepth 100000 in
set_option maxHeartbeats 4000000 in
theorem mtX11_behind {X : mj_XT} {l : Launch} {G : mj_GT} {ad : Nat → Nat} {Qn : Option Value → mj_IT → mj_LT → Prop} (hR : mj_R X l G mj_P0 mj_S0 98 ad 0 0 Qn) (F : Nat) (I : mj_IT) (L : mj_LT) (x1 : Int32) (o : ((Int32))) (hf : fnX11_behind F x1 = some o) (hq : (fun ov => Qn (some (.int ov)) I L) o) : mj_W X G RX11 "behind" cX11_behind 2 1 (some .int) mj_P0 mj_S0 98 ad 0 0 0 [(0, .ref 71), (1, .int x1)] [] I L := by
  unfold fnX11_behind at hf
  refine mj_bipush dX11_behind_0 kc_bipush_m100 ?_
  refine mj_iload_n 1 dX11_behind_2 rfl ?_
  refine mj_isub dX11_behind_3 ?_
  obtain rfl := Option.some.inj hf
  have hZ := hq
  exact mj_iret hR ⟨Nat.le_refl _, Nat.le_refl _⟩ rfl rfl dX11_behind_4 hZ
set_option maxRecDepth 100000 in
set_option maxHeartbeats 4000000 in
theorem cmX11_behind (l : Launch) (G : mj_GT) (F : Nat) (x1 : Int32) (I : mj_IT) (L : mj_LT) (o : ((Int32))) (hf : fnX11_behind F x1 = some o) : mj_M l G yX11_behind cX11_behind 2 1 (some .int) 0 0 mj_P0 mj_S0 98 [.ref 71, .int x1] I L (mj_qd (some (.int o)) I L) := by
  refine mj_in RX11 "behind" [(0, .ref 71), (1, .int x1)] rfl rfl rfl (by decide) (Nat.le_of_ble_eq_true rfl) (fun X ad hR => ?_)
  refine mtX11_behind hR F I L x1 o hf ?_
  exact ⟨rfl, rfl, rfl⟩

-- X11_joins
def jnX11_joins_41 (F : Nat) (r71 : Nat → Int32) (x1 : Int32) (x2 : Int32) (x3 : Int32) (r74 : Nat → Int32) : Option (((Int32) × (Nat → Int32)) ⊕ ((Nat → Int32))) := (if mj_ib (((12 : Int32) * x3) + (4 : Int32)) 480 = true then (fnX11_behind F x1).bind (fun o2 => (if (r74 ((((12 : Int32) * x3) + (4 : Int32)).toNatClampNeg)) = o2 then (if mj_ib (((12 : Int32) * x3) + (4 : Int32)) 480 = true then some (.inl ((x3 + (1)), (upd r74 ((((12 : Int32) * x3) + (4 : Int32)).toNatClampNeg) x2))) else none) else some (.inl ((x3 + (1)), r74)))) else none)
def bdX11_joins_2 (F : Nat) (r71 : Nat → Int32) (x1 : Int32) (x2 : Int32) (x3 : Int32) (r74 : Nat → Int32) : Option (((Int32) × (Nat → Int32)) ⊕ ((Nat → Int32))) := (if (r71 5) ≤ x3 then some (.inr r74) else (if mj_ib (((12 : Int32) * x3) + (3 : Int32)) 480 = true then (fnX11_behind F x1).bind (fun o7 => (if (r74 ((((12 : Int32) * x3) + (3 : Int32)).toNatClampNeg)) = o7 then (if mj_ib (((12 : Int32) * x3) + (3 : Int32)) 480 = true then jnX11_joins_41 F r71 x1 x2 x3 (upd r74 ((((12 : Int32) * x3) + (3 : Int32)).toNatClampNeg) x2) else none) else jnX11_joins_41 F r71 x1 x2 x3 r74)) else none))
def fnX11_joins (F : Nat) (r71 : Nat → Int32) (r74 : Nat → Int32) (x1 : Int32) (x2 : Int32) : Option ((Nat → Int32)) := (mj_it (mj_u2 (fun z0 z1 => bdX11_joins_2 F r71 x1 x2 z0 z1)) F ((0 : Int32), r74)).bind (fun r74_10 => some r74_10)
set_option maxRecDepth 100000 in
set_option maxHeartbeats 4000000 in
theorem jtX11_joins_41 {X : mj_XT} {l : Launch} {G : mj_GT} {ad : Nat → Nat} {Qn : Option Value → mj_IT → mj_LT → Prop} (hR : mj_R X l G mj_P0 mj_S0 98 ad 0 0 Qn) (F : Nat) (I : mj_IT) (L : mj_LT) (r71 : Nat → Int32) (r74 : Nat → Int32) (x1 : Int32) (x2 : Int32) (x3 : Int32) (o : (((Int32) × (Nat → Int32)) ⊕ ((Nat → Int32)))) (hf : jnX11_joins_41 F r71 x1 x2 x3 r74 = some o) (hc : ∀ s2 : ((Int32) × (Nat → Int32)), o = .inl s2 → (mj_u2 (fun x3 r74 => mj_W X G RX11 "joins" cX11_joins 4 2 none mj_P0 mj_S0 98 ad 0 0 2 [(0, .ref 71), (1, .int x1), (2, .int x2), (3, .int x3)] [] (mj_rows I [(71, r71), (74, r74)]) L)) s2) (hx : ∀ e2 : ((Nat → Int32)), o = .inr e2 → (fun r74 => mj_W X G RX11 "joins" cX11_joins 4 2 none mj_P0 mj_S0 98 ad 0 0 78 [] [] (mj_rows I [(71, r71), (74, r74)]) L) e2) : mj_W X G RX11 "joins" cX11_joins 4 2 none mj_P0 mj_S0 98 ad 0 0 41 [(0, .ref 71), (1, .int x1), (2, .int x2), (3, .int x3)] [] (mj_rows I [(71, r71), (74, r74)]) L := by
  unfold jnX11_joins_41 at hf
  refine mj_aload_n 0 dX11_joins_41 rfl ?_
  refine mj_getP p0_71_3 (by decide) fl_X11_95 rfl s0_71 a0_71 dX11_joins_42 ?_
  refine mj_bipush dX11_joins_45 kc_bipush_12 ?_
  refine mj_iload_n 3 dX11_joins_47 rfl ?_
  refine mj_imul dX11_joins_48 ?_
  refine mj_iconst dX11_joins_49 kc_iconst_4 ?_
  refine mj_iadd dX11_joins_50 ?_
  obtain ⟨z1, hf⟩ := mj_ck hf
  refine mj_ialdv (x := r74) rfl s0_74 a0_74 z1 dX11_joins_51 ?_
  refine mj_aload_n 0 dX11_joins_52 rfl ?_
  refine mj_iload_n 1 dX11_joins_53 rfl ?_
  obtain ⟨o2, ho2, hf⟩ := mj_bd hf
  refine mj_callVd (I2 := (mj_rows I [(71, r71), (74, r74)])) (L2 := L) (s1 := [.int o2, .int (r74 ((((12 : Int32) * x3) + (4 : Int32)).toNatClampNeg))]) (st := [.int (r74 ((((12 : Int32) * x3) + (4 : Int32)).toNatClampNeg))]) [.int x1] (cmX11_behind X.2.1 G F x1 _ _   o2 ho2) rfl rfl cw_X11_128 s0_71 a0_71 (by decide) rfl rfl (Nat.le_of_ble_eq_true rfl) ⟨Nat.zero_le _, Nat.zero_le _⟩ dX11_joins_54 rfl ?_
  refine mj_icmp_ne 72 dX11_joins_57 (by decide) (fun c3 => ?_) (fun c3 => ?_)
  · replace hf := mj_neg c3 hf
    refine mj_iinc 3 [(3, .int (x3 + (1))), (0, .ref 71), (1, .int x1), (2, .int x2)] dX11_joins_72 rfl (kz_1 _) (by decide) rfl ?_
    refine mj_goto 2 dX11_joins_75 (by decide) ?_
    refine mj_sub [1, 2, 3, 0] [(0, .ref 71), (1, .int x1), (2, .int x2), (3, .int (x3 + (1)))] rfl ?_
    obtain rfl := Option.some.inj hf
    have hZ := hc ((x3 + (1)), r74) rfl
    replace hZ := mj_u2p hZ
    exact hZ
  · replace hf := mj_pos c3 hf
    refine mj_aload_n 0 dX11_joins_60 rfl ?_
    refine mj_getP p0_71_3 (by decide) fl_X11_95 rfl s0_71 a0_71 dX11_joins_61 ?_
    refine mj_bipush dX11_joins_64 kc_bipush_12 ?_
    refine mj_iload_n 3 dX11_joins_66 rfl ?_
    refine mj_imul dX11_joins_67 ?_
    refine mj_iconst dX11_joins_68 kc_iconst_4 ?_
    refine mj_iadd dX11_joins_69 ?_
    refine mj_iload_n 2 dX11_joins_70 rfl ?_
    obtain ⟨z4, hf⟩ := mj_ck hf
    refine mj_iastr [(71, r71), (74, (upd r74 ((((12 : Int32) * x3) + (4 : Int32)).toNatClampNeg) x2))] rfl s0_74 a0_74 z4 dX11_joins_71 ?_
    refine mj_iinc 3 [(3, .int (x3 + (1))), (0, .ref 71), (1, .int x1), (2, .int x2)] dX11_joins_72 rfl (kz_1 _) (by decide) rfl ?_
    refine mj_goto 2 dX11_joins_75 (by decide) ?_
    refine mj_sub [1, 2, 3, 0] [(0, .ref 71), (1, .int x1), (2, .int x2), (3, .int (x3 + (1)))] rfl ?_
    obtain rfl := Option.some.inj hf
    have hZ := hc ((x3 + (1)), (upd r74 ((((12 : Int32) * x3) + (4 : Int32)).toNatClampNeg) x2)) rfl
    replace hZ := mj_u2p hZ
    exact hZ
set_option maxRecDepth 100000 in
set_option maxHeartbeats 4000000 in
theorem lpX11_joins_2 {X : mj_XT} {l : Launch} {G : mj_GT} {ad : Nat → Nat} {Qn : Option Value → mj_IT → mj_LT → Prop} (hR : mj_R X l G mj_P0 mj_S0 98 ad 0 0 Qn) (F : Nat) (I : mj_IT) (L : mj_LT) (r71 : Nat → Int32) (r74 : Nat → Int32) (x1 : Int32) (x2 : Int32) : ∀ (n : Nat) (s : ((Int32) × (Nat → Int32))) (e : ((Nat → Int32))), mj_it (mj_u2 (fun z0 z1 => bdX11_joins_2 F r71 x1 x2 z0 z1)) n s = some e → (fun r74 => mj_W X G RX11 "joins" cX11_joins 4 2 none mj_P0 mj_S0 98 ad 0 0 78 [] [] (mj_rows I [(71, r71), (74, r74)]) L) e → (mj_u2 (fun x3 r74 => mj_W X G RX11 "joins" cX11_joins 4 2 none mj_P0 mj_S0 98 ad 0 0 2 [(0, .ref 71), (1, .int x1), (2, .int x2), (3, .int x3)] [] (mj_rows I [(71, r71), (74, r74)]) L)) s := by
  refine mj_loop (fun s o hf hc hx => ?_)
  obtain ⟨x3, r74⟩ := s
  replace hf := mj_u2e hf
  refine mj_u2q ?_
  unfold bdX11_joins_2 at hf
  refine mj_iload_n 3 dX11_joins_2 rfl ?_
  refine mj_aload_n 0 dX11_joins_3 rfl ?_
  refine mj_getIv (v := (r71 5)) rfl fl_X11_119 rfl s0_71 a0_71 dX11_joins_4 ?_
  refine mj_icmp_ge 78 dX11_joins_7 (by decide) (fun c5 => ?_) (fun c5 => ?_)
  · replace hf := mj_pos c5 hf
    refine mj_sub [] [] rfl ?_
    obtain rfl := Option.some.inj hf
    have hZ := hx r74 rfl
    exact hZ
  · replace hf := mj_neg c5 hf
    refine mj_aload_n 0 dX11_joins_10 rfl ?_
    refine mj_getP p0_71_3 (by decide) fl_X11_95 rfl s0_71 a0_71 dX11_joins_11 ?_
    refine mj_bipush dX11_joins_14 kc_bipush_12 ?_
    refine mj_iload_n 3 dX11_joins_16 rfl ?_
    refine mj_imul dX11_joins_17 ?_
    refine mj_iconst dX11_joins_18 kc_iconst_3 ?_
    refine mj_iadd dX11_joins_19 ?_
    obtain ⟨z6, hf⟩ := mj_ck hf
    refine mj_ialdv (x := r74) rfl s0_74 a0_74 z6 dX11_joins_20 ?_
    refine mj_aload_n 0 dX11_joins_21 rfl ?_
    refine mj_iload_n 1 dX11_joins_22 rfl ?_
    obtain ⟨o7, ho7, hf⟩ := mj_bd hf
    refine mj_callVd (I2 := (mj_rows I [(71, r71), (74, r74)])) (L2 := L) (s1 := [.int o7, .int (r74 ((((12 : Int32) * x3) + (3 : Int32)).toNatClampNeg))]) (st := [.int (r74 ((((12 : Int32) * x3) + (3 : Int32)).toNatClampNeg))]) [.int x1] (cmX11_behind X.2.1 G F x1 _ _   o7 ho7) rfl rfl cw_X11_128 s0_71 a0_71 (by decide) rfl rfl (Nat.le_of_ble_eq_true rfl) ⟨Nat.zero_le _, Nat.zero_le _⟩ dX11_joins_23 rfl ?_
    refine mj_icmp_ne 41 dX11_joins_26 (by decide) (fun c8 => ?_) (fun c8 => ?_)
    · replace hf := mj_neg c8 hf
      exact jtX11_joins_41 hR F I L r71 r74 x1 x2 x3 o hf hc hx
    · replace hf := mj_pos c8 hf
      refine mj_aload_n 0 dX11_joins_29 rfl ?_
      refine mj_getP p0_71_3 (by decide) fl_X11_95 rfl s0_71 a0_71 dX11_joins_30 ?_
      refine mj_bipush dX11_joins_33 kc_bipush_12 ?_
      refine mj_iload_n 3 dX11_joins_35 rfl ?_
      refine mj_imul dX11_joins_36 ?_
      refine mj_iconst dX11_joins_37 kc_iconst_3 ?_
      refine mj_iadd dX11_joins_38 ?_
      refine mj_iload_n 2 dX11_joins_39 rfl ?_
      obtain ⟨z9, hf⟩ := mj_ck hf
      refine mj_iastr [(71, r71), (74, (upd r74 ((((12 : Int32) * x3) + (3 : Int32)).toNatClampNeg) x2))] rfl s0_74 a0_74 z9 dX11_joins_40 ?_
      exact jtX11_joins_41 hR F I L r71 (upd r74 ((((12 : Int32) * x3) + (3 : Int32)).toNatClampNeg) x2) x1 x2 x3 o hf hc hx
set_option maxRecDepth 100000 in
set_option maxHeartbeats 4000000 in
theorem mtX11_joins {X : mj_XT} {l : Launch} {G : mj_GT} {ad : Nat → Nat} {Qn : Option Value → mj_IT → mj_LT → Prop} (hR : mj_R X l G mj_P0 mj_S0 98 ad 0 0 Qn) (F : Nat) (I : mj_IT) (L : mj_LT) (r71 : Nat → Int32) (r74 : Nat → Int32) (x1 : Int32) (x2 : Int32) (o : ((Nat → Int32))) (hf : fnX11_joins F r71 r74 x1 x2 = some o) (hq : (fun r74 => Qn none (mj_rows I [(71, r71), (74, r74)]) L) o) : mj_W X G RX11 "joins" cX11_joins 4 2 none mj_P0 mj_S0 98 ad 0 0 0 [(0, .ref 71), (1, .int x1), (2, .int x2)] [] (mj_rows I [(71, r71), (74, r74)]) L := by
  unfold fnX11_joins at hf
  refine mj_iconst dX11_joins_0 kc_iconst_0 ?_
  refine mj_istore_n [(3, .int (0 : Int32)), (0, .ref 71), (1, .int x1), (2, .int x2)] dX11_joins_1 rfl (by decide) rfl ?_
  refine mj_sub [1, 2, 3, 0] [(0, .ref 71), (1, .int x1), (2, .int x2), (3, .int (0 : Int32))] rfl ?_
  obtain ⟨r74_10, ho10, hf⟩ := mj_bd hf
  refine lpX11_joins_2 hR F I L r71 r74 x1 x2 F ((0 : Int32), r74) r74_10 ho10 ?_
  refine ?_
  obtain rfl := Option.some.inj hf
  have hZ := hq
  exact mj_vret hR ⟨Nat.le_refl _, Nat.le_refl _⟩ rfl dX11_joins_78 hZ
set_option maxRecDepth 100000 in
set_option maxHeartbeats 4000000 in
theorem cmX11_joins (l : Launch) (G : mj_GT) (F : Nat) (x1 : Int32) (x2 : Int32) (I : mj_IT) (L : mj_LT) (r71 : Nat → Int32) (r74 : Nat → Int32) (hr71 : I 71 = r71) (hr74 : I 74 = r74) (o : ((Nat → Int32))) (hf : fnX11_joins F r71 r74 x1 x2 = some o) : mj_M l G yX11_joins cX11_joins 4 2 none 0 0 mj_P0 mj_S0 98 [.ref 71, .int x1, .int x2] I L (mj_qd none (mj_rows I [(71, r71), (74, o)]) L) := by
  refine mj_in RX11 "joins" [(0, .ref 71), (1, .int x1), (2, .int x2)] rfl rfl rfl (by decide) (Nat.le_of_ble_eq_true rfl) (fun X ad hR => ?_)
  refine mj_toI [(71, r71), (74, r74)] (by intro q hq; simp only [List.mem_cons, List.not_mem_nil, or_false] at hq; rcases hq with rfl | rfl <;> assumption) ?_
  refine mtX11_joins hR F I L r71 r74 x1 x2 o hf ?_
  exact ⟨rfl, rfl, rfl⟩

-- X11_passes_71_2001
def fnX11_passes_71_2001 (F : Nat) (r71 : Nat → Int32) (r77 : Nat → Int32) : Option ((Int32) × (Nat → Int32)) := (if 0 < (r71 14) then some ((0 : Int32), r71) else (fnX11_isHere_71_2001 F r71 r77).bind (fun o2 => (if o2.1 = 0 then some ((0 : Int32), o2.2) else some ((1 : Int32), (upd o2.2 11 ((o2.2 11) + (4 : Int32)))))))
set_option maxRecDepth 100000 in
set_option maxHeartbeats 4000000 in
theorem mtX11_passes_71_2001 {X : mj_XT} {l : Launch} {G : mj_GT} {ad : Nat → Nat} {Qn : Option Value → mj_IT → mj_LT → Prop} (hR : mj_R X l G mj_P0 mj_S0 98 ad 0 0 Qn) (F : Nat) (I : mj_IT) (L : mj_LT) (r71 : Nat → Int32) (r77 : Nat → Int32) (o : ((Int32) × (Nat → Int32))) (hf : fnX11_passes_71_2001 F r71 r77 = some o) (hq : (mj_u2 (fun ov r71 => Qn (some (.int ov)) (mj_rows I [(71, r71), (77, r77)]) L)) o) : mj_W X G RX11 "passes" cX11_passes 2 6 (some .boolean) mj_P0 mj_S0 98 ad 0 0 0 [(0, .ref 71), (1, .ref 2001)] [] (mj_rows I [(71, r71), (77, r77)]) L := by
  unfold fnX11_passes_71_2001 at hf
  refine mj_aload_n 0 dX11_passes_0 rfl ?_
  refine mj_getIv (v := (r71 14)) rfl fl_X11_25 rfl s0_71 a0_71 dX11_passes_1 ?_
  refine mj_if_gt 15 dX11_passes_4 (by decide) (fun c1 => ?_) (fun c1 => ?_)
  · replace hf := mj_pos c1 hf
    refine mj_iconst dX11_passes_15 kc_iconst_0 ?_
    obtain rfl := Option.some.inj hf
    have hZ := hq
    replace hZ := mj_u2p hZ
    exact mj_iret hR ⟨Nat.le_refl _, Nat.le_refl _⟩ rfl (by decide) dX11_passes_16 hZ
  · replace hf := mj_neg c1 hf
    refine mj_aload_n 0 dX11_passes_7 rfl ?_
    refine mj_aload_n 1 dX11_passes_8 rfl ?_
    obtain ⟨o2, ho2, hf⟩ := mj_bd hf
    refine mj_callVd (I2 := (mj_rows I [(71, o2.2), (77, r77)])) (L2 := L) (s1 := [.int o2.1]) (st := []) [.ref 2001] (cmX11_isHere_71_2001 X.2.1 G F  _ _ r71 r77 rfl rfl o2 ho2) (mj_rr rfl) rfl cw_X11_57 s0_71 a0_71 (by decide) rfl rfl (Nat.le_of_ble_eq_true rfl) ⟨Nat.zero_le _, Nat.zero_le _⟩ dX11_passes_9 rfl ?_
    refine mj_if_ne 17 dX11_passes_12 (by decide) (fun c3 => ?_) (fun c3 => ?_)
    · replace hf := mj_neg c3 hf
      refine mj_aload_n 0 dX11_passes_17 rfl ?_
      refine mj_dup dX11_passes_18 rfl ?_
      refine mj_getIv (v := (o2.2 11)) rfl fl_X11_31 rfl s0_71 a0_71 dX11_passes_19 ?_
      refine mj_aload_n 1 dX11_passes_22 rfl ?_
      refine mj_callVs (i := 0) (I2 := (mj_rows I [(71, o2.2), (77, r77)])) (L2 := L) (s1 := [.int (4 : Int32), .int (o2.2 11), .ref 71]) (st := [.int (o2.2 11), .ref 71]) [] (cmJ0_length X.2.1 G 0 2001 rfl (by decide) _ _) rfl rfl cw_X11_44 rfl (by decide) (by decide) rfl rfl (Nat.le_of_ble_eq_true rfl) ⟨Nat.zero_le _, Nat.zero_le _⟩ dX11_passes_23 rfl ?_
      refine mj_iadd dX11_passes_26 ?_
      refine mj_putIr (ci := 9) (j := 11) [(71, (upd o2.2 11 ((o2.2 11) + (4 : Int32)))), (77, r77)] rfl ⟨rfl, rfl⟩ fl_X11_31 rfl rfl s0_71 a0_71 dX11_passes_27 ?_
      refine mj_iconst dX11_passes_30 kc_iconst_1 ?_
      obtain rfl := Option.some.inj hf
      have hZ := hq
      replace hZ := mj_u2p hZ
      exact mj_iret hR ⟨Nat.le_refl _, Nat.le_refl _⟩ rfl (by decide) dX11_passes_31 hZ
    · replace hf := mj_pos c3 hf
      refine mj_iconst dX11_passes_15 kc_iconst_0 ?_
      obtain rfl := Option.some.inj hf
      have hZ := hq
      replace hZ := mj_u2p hZ
      exact mj_iret hR ⟨Nat.le_refl _, Nat.le_refl _⟩ rfl (by decide) dX11_passes_16 hZ
set_option maxRecDepth 100000 in
set_option maxHeartbeats 4000000 in
theorem cmX11_passes_71_2001 (l : Launch) (G : mj_GT) (F : Nat) (I : mj_IT) (L : mj_LT) (r71 : Nat → Int32) (r77 : Nat → Int32) (hr71 : I 71 = r71) (hr77 : I 77 = r77) (o : ((Int32) × (Nat → Int32))) (hf : fnX11_passes_71_2001 F r71 r77 = some o) : mj_M l G yX11_passes cX11_passes 2 6 (some .boolean) 0 0 mj_P0 mj_S0 98 [.ref 71, .ref 2001] I L (mj_qd (some (.int o.1)) (mj_rows I [(71, o.2), (77, r77)]) L) := by
  refine mj_in RX11 "passes" [(0, .ref 71), (1, .ref 2001)] rfl rfl rfl (by decide) (Nat.le_of_ble_eq_true rfl) (fun X ad hR => ?_)
  refine mj_toI [(71, r71), (77, r77)] (by intro q hq; simp only [List.mem_cons, List.not_mem_nil, or_false] at hq; rcases hq with rfl | rfl <;> assumption) ?_
  refine mtX11_passes_71_2001 hR F I L r71 r77 o hf ?_
  obtain ⟨w0, w1⟩ := o
  refine mj_u2q ?_
  exact ⟨rfl, rfl, rfl⟩

-- X11_passes_71_2002
def fnX11_passes_71_2002 (F : Nat) (r71 : Nat → Int32) (r77 : Nat → Int32) : Option ((Int32) × (Nat → Int32)) := (if 0 < (r71 14) then some ((0 : Int32), r71) else (fnX11_isHere_71_2002 F r71 r77).bind (fun o2 => (if o2.1 = 0 then some ((0 : Int32), o2.2) else some ((1 : Int32), (upd o2.2 11 ((o2.2 11) + (4 : Int32)))))))
set_option maxRecDepth 100000 in
set_option maxHeartbeats 4000000 in
theorem mtX11_passes_71_2002 {X : mj_XT} {l : Launch} {G : mj_GT} {ad : Nat → Nat} {Qn : Option Value → mj_IT → mj_LT → Prop} (hR : mj_R X l G mj_P0 mj_S0 98 ad 0 0 Qn) (F : Nat) (I : mj_IT) (L : mj_LT) (r71 : Nat → Int32) (r77 : Nat → Int32) (o : ((Int32) × (Nat → Int32))) (hf : fnX11_passes_71_2002 F r71 r77 = some o) (hq : (mj_u2 (fun ov r71 => Qn (some (.int ov)) (mj_rows I [(71, r71), (77, r77)]) L)) o) : mj_W X G RX11 "passes" cX11_passes 2 6 (some .boolean) mj_P0 mj_S0 98 ad 0 0 0 [(0, .ref 71), (1, .ref 2002)] [] (mj_rows I [(71, r71), (77, r77)]) L := by
  unfold fnX11_passes_71_2002 at hf
  refine mj_aload_n 0 dX11_passes_0 rfl ?_
  refine mj_getIv (v := (r71 14)) rfl fl_X11_25 rfl s0_71 a0_71 dX11_passes_1 ?_
  refine mj_if_gt 15 dX11_passes_4 (by decide) (fun c1 => ?_) (fun c1 => ?_)
  · replace hf := mj_pos c1 hf
    refine mj_iconst dX11_passes_15 kc_iconst_0 ?_
    obtain rfl := Option.some.inj hf
    have hZ := hq
    replace hZ := mj_u2p hZ
    exact mj_iret hR ⟨Nat.le_refl _, Nat.le_refl _⟩ rfl (by decide) dX11_passes_16 hZ
  · replace hf := mj_neg c1 hf
    refine mj_aload_n 0 dX11_passes_7 rfl ?_
    refine mj_aload_n 1 dX11_passes_8 rfl ?_
    obtain ⟨o2, ho2, hf⟩ := mj_bd hf
    refine mj_callVd (I2 := (mj_rows I [(71, o2.2), (77, r77)])) (L2 := L) (s1 := [.int o2.1]) (st := []) [.ref 2002] (cmX11_isHere_71_2002 X.2.1 G F  _ _ r71 r77 rfl rfl o2 ho2) (mj_rr rfl) rfl cw_X11_57 s0_71 a0_71 (by decide) rfl rfl (Nat.le_of_ble_eq_true rfl) ⟨Nat.zero_le _, Nat.zero_le _⟩ dX11_passes_9 rfl ?_
    refine mj_if_ne 17 dX11_passes_12 (by decide) (fun c3 => ?_) (fun c3 => ?_)
    · replace hf := mj_neg c3 hf
      refine mj_aload_n 0 dX11_passes_17 rfl ?_
      refine mj_dup dX11_passes_18 rfl ?_
      refine mj_getIv (v := (o2.2 11)) rfl fl_X11_31 rfl s0_71 a0_71 dX11_passes_19 ?_
      refine mj_aload_n 1 dX11_passes_22 rfl ?_
      refine mj_callVs (i := 1) (I2 := (mj_rows I [(71, o2.2), (77, r77)])) (L2 := L) (s1 := [.int (4 : Int32), .int (o2.2 11), .ref 71]) (st := [.int (o2.2 11), .ref 71]) [] (cmJ0_length X.2.1 G 1 2002 rfl (by decide) _ _) rfl rfl cw_X11_44 rfl (by decide) (by decide) rfl rfl (Nat.le_of_ble_eq_true rfl) ⟨Nat.zero_le _, Nat.zero_le _⟩ dX11_passes_23 rfl ?_
      refine mj_iadd dX11_passes_26 ?_
      refine mj_putIr (ci := 9) (j := 11) [(71, (upd o2.2 11 ((o2.2 11) + (4 : Int32)))), (77, r77)] rfl ⟨rfl, rfl⟩ fl_X11_31 rfl rfl s0_71 a0_71 dX11_passes_27 ?_
      refine mj_iconst dX11_passes_30 kc_iconst_1 ?_
      obtain rfl := Option.some.inj hf
      have hZ := hq
      replace hZ := mj_u2p hZ
      exact mj_iret hR ⟨Nat.le_refl _, Nat.le_refl _⟩ rfl (by decide) dX11_passes_31 hZ
    · replace hf := mj_pos c3 hf
      refine mj_iconst dX11_passes_15 kc_iconst_0 ?_
      obtain rfl := Option.some.inj hf
      have hZ := hq
      replace hZ := mj_u2p hZ
      exact mj_iret hR ⟨Nat.le_refl _, Nat.le_refl _⟩ rfl (by decide) dX11_passes_16 hZ
set_option maxRecDepth 100000 in
set_option maxHeartbeats 4000000 in
theorem cmX11_passes_71_2002 (l : Launch) (G : mj_GT) (F : Nat) (I : mj_IT) (L : mj_LT) (r71 : Nat → Int32) (r77 : Nat → Int32) (hr71 : I 71 = r71) (hr77 : I 77 = r77) (o : ((Int32) × (Nat → Int32))) (hf : fnX11_passes_71_2002 F r71 r77 = some o) : mj_M l G yX11_passes cX11_passes 2 6 (some .boolean) 0 0 mj_P0 mj_S0 98 [.ref 71, .ref 2002] I L (mj_qd (some (.int o.1)) (mj_rows I [(71, o.2), (77, r77)]) L) := by
  refine mj_in RX11 "passes" [(0, .ref 71), (1, .ref 2002)] rfl rfl rfl (by decide) (Nat.le_of_ble_eq_true rfl) (fun X ad hR => ?_)
  refine mj_toI [(71, r71), (77, r77)] (by intro q hq; simp only [List.mem_cons, List.not_mem_nil, or_false] at hq; rcases hq with rfl | rfl <;> assumption) ?_
  refine mtX11_passes_71_2002 hR F I L r71 r77 o hf ?_
  obtain ⟨w0, w1⟩ := o
  refine mj_u2q ?_
  exact ⟨rfl, rfl, rfl⟩

