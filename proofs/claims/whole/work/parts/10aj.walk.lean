-- X11_lies
def fnX11_lies (F : Nat) (x0 : Int64) (x2 : Int64) (x4 : Int64) : Option ((Int32)) := (if x0 < x2 then some (0 : Int32) else (if x4 < x0 then some (0 : Int32) else some (1 : Int32)))
set_option maxRecDepth 100000 in
set_option maxHeartbeats 4000000 in
theorem mtX11_lies {X : mj_XT} {l : Launch} {G : mj_GT} {ad : Nat → Nat} {Qn : Option Value → mj_IT → mj_LT → Prop} (hR : mj_R X l G mj_P0 mj_S0 98 ad 0 0 Qn) (F : Nat) (I : mj_IT) (L : mj_LT) (x0 : Int64) (x2 : Int64) (x4 : Int64) (o : ((Int32))) (hf : fnX11_lies F x0 x2 x4 = some o) (hq : (fun ov => Qn (some (.int ov)) I L) o) : mj_W X G RX11 "lies" cX11_lies 6 1 (some .boolean) mj_P0 mj_S0 98 ad 0 0 0 [(0, .long x0), (2, .long x2), (4, .long x4)] [] I L := by
  unfold fnX11_lies at hf
  refine mj_lload_n 0 dX11_lies_0 rfl ?_
  refine mj_lload_n 1 dX11_lies_1 rfl ?_
  refine mj_lc_lt 17 dX11_lies_2 dX11_lies_3 (by decide) (fun c1 => ?_) (fun c1 => ?_)
  · replace hf := mj_pos c1 hf
    refine mj_iconst dX11_lies_17 kc_iconst_0 ?_
    obtain rfl := Option.some.inj hf
    have hZ := hq
    exact mj_iret hR ⟨Nat.le_refl _, Nat.le_refl _⟩ rfl (by decide) dX11_lies_18 hZ
  · replace hf := mj_neg c1 hf
    refine mj_lload_n 0 dX11_lies_6 rfl ?_
    refine mj_lload 2 dX11_lies_7 rfl ?_
    refine mj_lc_gt 17 dX11_lies_9 dX11_lies_10 (by decide) (fun c2 => ?_) (fun c2 => ?_)
    · replace hf := mj_pos c2 hf
      refine mj_iconst dX11_lies_17 kc_iconst_0 ?_
      obtain rfl := Option.some.inj hf
      have hZ := hq
      exact mj_iret hR ⟨Nat.le_refl _, Nat.le_refl _⟩ rfl (by decide) dX11_lies_18 hZ
    · replace hf := mj_neg c2 hf
      refine mj_iconst dX11_lies_13 kc_iconst_1 ?_
      refine mj_goto 18 dX11_lies_14 (by decide) ?_
      obtain rfl := Option.some.inj hf
      have hZ := hq
      exact mj_iret hR ⟨Nat.le_refl _, Nat.le_refl _⟩ rfl (by decide) dX11_lies_18 hZ
set_option maxRecDepth 100000 in
set_option maxHeartbeats 4000000 in
theorem cmX11_lies (l : Launch) (G : mj_GT) (F : Nat) (x0 : Int64) (x2 : Int64) (x4 : Int64) (I : mj_IT) (L : mj_LT) (o : ((Int32))) (hf : fnX11_lies F x0 x2 x4 = some o) : mj_M l G yX11_lies cX11_lies 6 1 (some .boolean) 0 0 mj_P0 mj_S0 98 [.long x0, .long x2, .long x4] I L (mj_qd (some (.int o)) I L) := by
  refine mj_in RX11 "lies" [(0, .long x0), (2, .long x2), (4, .long x4)] rfl rfl rfl (by decide) (Nat.le_of_ble_eq_true rfl) (fun X ad hR => ?_)
  refine mtX11_lies hR F I L x0 x2 x4 o hf ?_
  exact ⟨rfl, rfl, rfl⟩

-- X11_of
def fnX11_of (F : Nat) (r73 : Nat → Int32) (x1 : Int32) (x2 : Int32) : Option ((Int32)) := (if mj_ib (((12 : Int32) * x1) + x2) 480 = true then some (r73 ((((12 : Int32) * x1) + x2).toNatClampNeg)) else none)
set_option maxRecDepth 100000 in
set_option maxHeartbeats 4000000 in
theorem mtX11_of {X : mj_XT} {l : Launch} {G : mj_GT} {ad : Nat → Nat} {Qn : Option Value → mj_IT → mj_LT → Prop} (hR : mj_R X l G mj_P0 mj_S0 98 ad 0 0 Qn) (F : Nat) (I : mj_IT) (L : mj_LT) (r73 : Nat → Int32) (x1 : Int32) (x2 : Int32) (o : ((Int32))) (hf : fnX11_of F r73 x1 x2 = some o) (hq : (fun ov => Qn (some (.int ov)) (mj_rows I [(73, r73)]) L) o) : mj_W X G RX11 "of" cX11_of 3 1 (some .int) mj_P0 mj_S0 98 ad 0 0 0 [(0, .ref 71), (1, .int x1), (2, .int x2)] [] (mj_rows I [(73, r73)]) L := by
  unfold fnX11_of at hf
  refine mj_aload_n 0 dX11_of_0 rfl ?_
  refine mj_getP p0_71_2 (by decide) fl_X11_11 rfl s0_71 a0_71 dX11_of_1 ?_
  refine mj_bipush dX11_of_4 kc_bipush_12 ?_
  refine mj_iload_n 1 dX11_of_6 rfl ?_
  refine mj_imul dX11_of_7 ?_
  refine mj_iload_n 2 dX11_of_8 rfl ?_
  refine mj_iadd dX11_of_9 ?_
  obtain ⟨z1, hf⟩ := mj_ck hf
  refine mj_ialdv (x := r73) rfl s0_73 a0_73 z1 dX11_of_10 ?_
  obtain rfl := Option.some.inj hf
  have hZ := hq
  exact mj_iret hR ⟨Nat.le_refl _, Nat.le_refl _⟩ rfl rfl dX11_of_11 hZ
set_option maxRecDepth 100000 in
set_option maxHeartbeats 4000000 in
theorem cmX11_of (l : Launch) (G : mj_GT) (F : Nat) (x1 : Int32) (x2 : Int32) (I : mj_IT) (L : mj_LT) (r73 : Nat → Int32) (hr73 : I 73 = r73) (o : ((Int32))) (hf : fnX11_of F r73 x1 x2 = some o) : mj_M l G yX11_of cX11_of 3 1 (some .int) 0 0 mj_P0 mj_S0 98 [.ref 71, .int x1, .int x2] I L (mj_qd (some (.int o)) (mj_rows I [(73, r73)]) L) := by
  refine mj_in RX11 "of" [(0, .ref 71), (1, .int x1), (2, .int x2)] rfl rfl rfl (by decide) (Nat.le_of_ble_eq_true rfl) (fun X ad hR => ?_)
  refine mj_toI [(73, r73)] (by intro q hq; simp only [List.mem_cons, List.not_mem_nil, or_false] at hq; rcases hq with rfl <;> assumption) ?_
  refine mtX11_of hR F I L r73 x1 x2 o hf ?_
  exact ⟨rfl, rfl, rfl⟩

-- X11_puts
def bdX11_puts_3 (F : Nat) (x1 : Int32) (x2 : Int32) (r71 : Nat → Int32) (r76 : Nat → Int32) : Option (((Int32) × (Nat → Int32) × (Nat → Int32)) ⊕ ((Nat → Int32) × (Nat → Int32))) := (if x2 < 0 then some (.inr (r71, r76)) else (if mj_ib (r71 9) 400 = true then some (.inl ((x2 + (-8)), (upd r71 9 ((r71 9) + (1 : Int32))), (upd r76 ((r71 9).toNatClampNeg) (vp_nar .byte ((x1 >>> (x2 &&& 31)).toInt8.toInt32))))) else none))
def fnX11_puts (F : Nat) (r71 : Nat → Int32) (r76 : Nat → Int32) (x1 : Int32) : Option ((Nat → Int32) × (Nat → Int32)) := (mj_it (mj_u2 (fun z0 => (mj_u2 (fun z1 z2 => bdX11_puts_3 F x1 z0 z1 z2)))) F ((24 : Int32), r71, r76)).bind (mj_u2 (fun r71_3 r76_3 => some (r71_3, r76_3)))
set_option maxRecDepth 100000 in
set_option maxHeartbeats 4000000 in
theorem lpX11_puts_3 {X : mj_XT} {l : Launch} {G : mj_GT} {ad : Nat → Nat} {Qn : Option Value → mj_IT → mj_LT → Prop} (hR : mj_R X l G mj_P0 mj_S0 98 ad 0 0 Qn) (F : Nat) (I : mj_IT) (L : mj_LT) (r71 : Nat → Int32) (r76 : Nat → Int32) (x1 : Int32) : ∀ (n : Nat) (s : ((Int32) × (Nat → Int32) × (Nat → Int32))) (e : ((Nat → Int32) × (Nat → Int32))), mj_it (mj_u2 (fun z0 => (mj_u2 (fun z1 z2 => bdX11_puts_3 F x1 z0 z1 z2)))) n s = some e → (mj_u2 (fun r71 r76 => mj_W X G RX11 "puts" cX11_puts 3 1 none mj_P0 mj_S0 98 ad 0 0 36 [] [] (mj_rows I [(71, r71), (76, r76)]) L)) e → (mj_u2 (fun x2 => (mj_u2 (fun r71 r76 => mj_W X G RX11 "puts" cX11_puts 3 1 none mj_P0 mj_S0 98 ad 0 0 3 [(0, .ref 71), (1, .int x1), (2, .int x2)] [] (mj_rows I [(71, r71), (76, r76)]) L)))) s := by
  refine mj_loop (fun s o hf hc hx => ?_)
  obtain ⟨x2, r71, r76⟩ := s
  replace hf := mj_u2e hf
  refine mj_u2q ?_
  replace hf := mj_u2e hf
  refine mj_u2q ?_
  unfold bdX11_puts_3 at hf
  refine mj_iload_n 2 dX11_puts_3 rfl ?_
  refine mj_if_lt 36 dX11_puts_4 (by decide) (fun c1 => ?_) (fun c1 => ?_)
  · replace hf := mj_pos c1 hf
    refine mj_sub [] [] rfl ?_
    obtain rfl := Option.some.inj hf
    have hZ := hx (r71, r76) rfl
    replace hZ := mj_u2p hZ
    exact hZ
  · replace hf := mj_neg c1 hf
    refine mj_aload_n 0 dX11_puts_7 rfl ?_
    refine mj_getP p0_71_7 (by decide) fl_X11_21 rfl s0_71 a0_71 dX11_puts_8 ?_
    refine mj_aload_n 0 dX11_puts_11 rfl ?_
    refine mj_getIv (v := (r71 9)) rfl fl_X11_14 rfl s0_71 a0_71 dX11_puts_12 ?_
    refine mj_iload_n 1 dX11_puts_15 rfl ?_
    refine mj_iload_n 2 dX11_puts_16 rfl ?_
    refine mj_ishr dX11_puts_17 ?_
    refine mj_i2b dX11_puts_18 ?_
    obtain ⟨z2, hf⟩ := mj_ck hf
    refine mj_bastr [(71, r71), (76, (upd r76 ((r71 9).toNatClampNeg) (vp_nar .byte ((x1 >>> (x2 &&& 31)).toInt8.toInt32))))] rfl s0_76 a0_76 z2 dX11_puts_19 ?_
    refine mj_aload_n 0 dX11_puts_20 rfl ?_
    refine mj_dup dX11_puts_21 rfl ?_
    refine mj_getIv (v := (r71 9)) rfl fl_X11_14 rfl s0_71 a0_71 dX11_puts_22 ?_
    refine mj_iconst dX11_puts_25 kc_iconst_1 ?_
    refine mj_iadd dX11_puts_26 ?_
    refine mj_putIr (ci := 9) (j := 9) [(71, (upd r71 9 ((r71 9) + (1 : Int32)))), (76, (upd r76 ((r71 9).toNatClampNeg) (vp_nar .byte ((x1 >>> (x2 &&& 31)).toInt8.toInt32))))] rfl ⟨rfl, rfl⟩ fl_X11_14 rfl rfl s0_71 a0_71 dX11_puts_27 ?_
    refine mj_iinc 2 [(2, .int (x2 + (-8))), (0, .ref 71), (1, .int x1)] dX11_puts_30 rfl (kz_m8 _) (by decide) rfl ?_
    refine mj_goto 3 dX11_puts_33 (by decide) ?_
    refine mj_sub [1, 2, 0] [(0, .ref 71), (1, .int x1), (2, .int (x2 + (-8)))] rfl ?_
    obtain rfl := Option.some.inj hf
    have hZ := hc ((x2 + (-8)), (upd r71 9 ((r71 9) + (1 : Int32))), (upd r76 ((r71 9).toNatClampNeg) (vp_nar .byte ((x1 >>> (x2 &&& 31)).toInt8.toInt32)))) rfl
    replace hZ := mj_u2p hZ
    replace hZ := mj_u2p hZ
    exact hZ
set_option maxRecDepth 100000 in
set_option maxHeartbeats 4000000 in
theorem mtX11_puts {X : mj_XT} {l : Launch} {G : mj_GT} {ad : Nat → Nat} {Qn : Option Value → mj_IT → mj_LT → Prop} (hR : mj_R X l G mj_P0 mj_S0 98 ad 0 0 Qn) (F : Nat) (I : mj_IT) (L : mj_LT) (r71 : Nat → Int32) (r76 : Nat → Int32) (x1 : Int32) (o : ((Nat → Int32) × (Nat → Int32))) (hf : fnX11_puts F r71 r76 x1 = some o) (hq : (mj_u2 (fun r71 r76 => Qn none (mj_rows I [(71, r71), (76, r76)]) L)) o) : mj_W X G RX11 "puts" cX11_puts 3 1 none mj_P0 mj_S0 98 ad 0 0 0 [(0, .ref 71), (1, .int x1)] [] (mj_rows I [(71, r71), (76, r76)]) L := by
  unfold fnX11_puts at hf
  refine mj_bipush dX11_puts_0 kc_bipush_24 ?_
  refine mj_istore_n [(2, .int (24 : Int32)), (0, .ref 71), (1, .int x1)] dX11_puts_2 rfl (by decide) rfl ?_
  refine mj_sub [1, 2, 0] [(0, .ref 71), (1, .int x1), (2, .int (24 : Int32))] rfl ?_
  obtain ⟨e3, ho3, hf⟩ := mj_bd hf
  refine lpX11_puts_3 hR F I L r71 r76 x1 F ((24 : Int32), r71, r76) e3 ho3 ?_
  obtain ⟨r71_3, r76_3⟩ := e3
  replace hf := mj_u2e hf
  refine ?_
  refine mj_u2q ?_
  obtain rfl := Option.some.inj hf
  have hZ := hq
  replace hZ := mj_u2p hZ
  exact mj_vret hR ⟨Nat.le_refl _, Nat.le_refl _⟩ rfl dX11_puts_36 hZ
set_option maxRecDepth 100000 in
set_option maxHeartbeats 4000000 in
theorem cmX11_puts (l : Launch) (G : mj_GT) (F : Nat) (x1 : Int32) (I : mj_IT) (L : mj_LT) (r71 : Nat → Int32) (r76 : Nat → Int32) (hr71 : I 71 = r71) (hr76 : I 76 = r76) (o : ((Nat → Int32) × (Nat → Int32))) (hf : fnX11_puts F r71 r76 x1 = some o) : mj_M l G yX11_puts cX11_puts 3 1 none 0 0 mj_P0 mj_S0 98 [.ref 71, .int x1] I L (mj_qd none (mj_rows I [(71, o.1), (76, o.2)]) L) := by
  refine mj_in RX11 "puts" [(0, .ref 71), (1, .int x1)] rfl rfl rfl (by decide) (Nat.le_of_ble_eq_true rfl) (fun X ad hR => ?_)
  refine mj_toI [(71, r71), (76, r76)] (by intro q hq; simp only [List.mem_cons, List.not_mem_nil, or_false] at hq; rcases hq with rfl | rfl <;> assumption) ?_
  refine mtX11_puts hR F I L r71 r76 x1 o hf ?_
  obtain ⟨w0, w1⟩ := o
  refine mj_u2q ?_
  exact ⟨rfl, rfl, rfl⟩

-- X11_feed
def fnX11_feed (F : Nat) (r71 : Nat → Int32) (r76 : Nat → Int32) (x1 : Int32) (x2 : Int32) (x3 : Int32) (x4 : Int32) (x5 : Int32) : Option ((Int32) × (Nat → Int32) × (Nat → Int32)) := (if ((r71 9) + (20 : Int32)) ≤ (400 : Int32) then (fnX11_puts F (upd r71 0 (0 : Int32)) r76 x1).bind (fun o2 => (fnX11_puts F o2.1 o2.2 x2).bind (fun o3 => (fnX11_puts F o3.1 o3.2 x3).bind (fun o4 => (fnX11_puts F o4.1 o4.2 x4).bind (fun o5 => (fnX11_puts F o5.1 o5.2 x5).bind (fun o6 => some ((o6.1 9), o6.1, o6.2)))))) else some ((-1 : Int32), (upd r71 0 (0 : Int32)), r76))
set_option maxRecDepth 100000 in
set_option maxHeartbeats 4000000 in
theorem mtX11_feed {X : mj_XT} {l : Launch} {G : mj_GT} {ad : Nat → Nat} {Qn : Option Value → mj_IT → mj_LT → Prop} (hR : mj_R X l G mj_P0 mj_S0 98 ad 0 0 Qn) (F : Nat) (I : mj_IT) (L : mj_LT) (r71 : Nat → Int32) (r76 : Nat → Int32) (x1 : Int32) (x2 : Int32) (x3 : Int32) (x4 : Int32) (x5 : Int32) (o : ((Int32) × (Nat → Int32) × (Nat → Int32))) (hf : fnX11_feed F r71 r76 x1 x2 x3 x4 x5 = some o) (hq : (mj_u2 (fun ov => (mj_u2 (fun r71 r76 => Qn (some (.int ov)) (mj_rows I [(71, r71), (76, r76)]) L)))) o) : mj_W X G RX11 "feed" cX11_feed 6 2 (some .int) mj_P0 mj_S0 98 ad 0 0 0 [(0, .ref 71), (1, .int x1), (2, .int x2), (3, .int x3), (4, .int x4), (5, .int x5)] [] (mj_rows I [(71, r71), (76, r76)]) L := by
  unfold fnX11_feed at hf
  refine mj_aload_n 0 dX11_feed_0 rfl ?_
  refine mj_iconst dX11_feed_1 kc_iconst_0 ?_
  refine mj_putIr (ci := 9) (j := 0) [(71, (upd r71 0 (0 : Int32))), (76, r76)] rfl ⟨rfl, rfl⟩ fl_X11_1 rfl rfl s0_71 a0_71 dX11_feed_2 ?_
  refine mj_aload_n 0 dX11_feed_5 rfl ?_
  refine mj_getIv (v := (r71 9)) rfl fl_X11_14 rfl s0_71 a0_71 dX11_feed_6 ?_
  refine mj_bipush dX11_feed_9 kc_bipush_20 ?_
  refine mj_iadd dX11_feed_11 ?_
  refine mj_sipush dX11_feed_12 kc_sipush_400 ?_
  refine mj_icmp_le 20 dX11_feed_15 (by decide) (fun c1 => ?_) (fun c1 => ?_)
  · replace hf := mj_pos c1 hf
    refine mj_aload_n 0 dX11_feed_20 rfl ?_
    refine mj_iload_n 1 dX11_feed_21 rfl ?_
    obtain ⟨o2, ho2, hf⟩ := mj_bd hf
    refine mj_callVd (I2 := (mj_rows I [(71, o2.1), (76, o2.2)])) (L2 := L) (s1 := []) (st := []) [.int x1] (cmX11_puts X.2.1 G F x1 _ _ (upd r71 0 (0 : Int32)) r76 rfl rfl o2 ho2) (mj_rr rfl) rfl cw_X11_17 s0_71 a0_71 (by decide) rfl rfl (Nat.le_of_ble_eq_true rfl) ⟨Nat.zero_le _, Nat.zero_le _⟩ dX11_feed_22 rfl ?_
    refine mj_aload_n 0 dX11_feed_25 rfl ?_
    refine mj_iload_n 2 dX11_feed_26 rfl ?_
    obtain ⟨o3, ho3, hf⟩ := mj_bd hf
    refine mj_callVd (I2 := (mj_rows I [(71, o3.1), (76, o3.2)])) (L2 := L) (s1 := []) (st := []) [.int x2] (cmX11_puts X.2.1 G F x2 _ _ o2.1 o2.2 rfl rfl o3 ho3) (mj_rr rfl) rfl cw_X11_17 s0_71 a0_71 (by decide) rfl rfl (Nat.le_of_ble_eq_true rfl) ⟨Nat.zero_le _, Nat.zero_le _⟩ dX11_feed_27 rfl ?_
    refine mj_aload_n 0 dX11_feed_30 rfl ?_
    refine mj_iload_n 3 dX11_feed_31 rfl ?_
    obtain ⟨o4, ho4, hf⟩ := mj_bd hf
    refine mj_callVd (I2 := (mj_rows I [(71, o4.1), (76, o4.2)])) (L2 := L) (s1 := []) (st := []) [.int x3] (cmX11_puts X.2.1 G F x3 _ _ o3.1 o3.2 rfl rfl o4 ho4) (mj_rr rfl) rfl cw_X11_17 s0_71 a0_71 (by decide) rfl rfl (Nat.le_of_ble_eq_true rfl) ⟨Nat.zero_le _, Nat.zero_le _⟩ dX11_feed_32 rfl ?_
    refine mj_aload_n 0 dX11_feed_35 rfl ?_
    refine mj_iload 4 dX11_feed_36 rfl ?_
    obtain ⟨o5, ho5, hf⟩ := mj_bd hf
    refine mj_callVd (I2 := (mj_rows I [(71, o5.1), (76, o5.2)])) (L2 := L) (s1 := []) (st := []) [.int x4] (cmX11_puts X.2.1 G F x4 _ _ o4.1 o4.2 rfl rfl o5 ho5) (mj_rr rfl) rfl cw_X11_17 s0_71 a0_71 (by decide) rfl rfl (Nat.le_of_ble_eq_true rfl) ⟨Nat.zero_le _, Nat.zero_le _⟩ dX11_feed_38 rfl ?_
    refine mj_aload_n 0 dX11_feed_41 rfl ?_
    refine mj_iload 5 dX11_feed_42 rfl ?_
    obtain ⟨o6, ho6, hf⟩ := mj_bd hf
    refine mj_callVd (I2 := (mj_rows I [(71, o6.1), (76, o6.2)])) (L2 := L) (s1 := []) (st := []) [.int x5] (cmX11_puts X.2.1 G F x5 _ _ o5.1 o5.2 rfl rfl o6 ho6) (mj_rr rfl) rfl cw_X11_17 s0_71 a0_71 (by decide) rfl rfl (Nat.le_of_ble_eq_true rfl) ⟨Nat.zero_le _, Nat.zero_le _⟩ dX11_feed_44 rfl ?_
    refine mj_aload_n 0 dX11_feed_47 rfl ?_
    refine mj_getIv (v := (o6.1 9)) rfl fl_X11_14 rfl s0_71 a0_71 dX11_feed_48 ?_
    obtain rfl := Option.some.inj hf
    have hZ := hq
    replace hZ := mj_u2p hZ
    replace hZ := mj_u2p hZ
    exact mj_iret hR ⟨Nat.le_refl _, Nat.le_refl _⟩ rfl rfl dX11_feed_51 hZ
  · replace hf := mj_neg c1 hf
    refine mj_iconst dX11_feed_18 kc_iconst_m1 ?_
    obtain rfl := Option.some.inj hf
    have hZ := hq
    replace hZ := mj_u2p hZ
    replace hZ := mj_u2p hZ
    exact mj_iret hR ⟨Nat.le_refl _, Nat.le_refl _⟩ rfl rfl dX11_feed_19 hZ
set_option maxRecDepth 100000 in
set_option maxHeartbeats 4000000 in
theorem cmX11_feed (l : Launch) (G : mj_GT) (F : Nat) (x1 : Int32) (x2 : Int32) (x3 : Int32) (x4 : Int32) (x5 : Int32) (I : mj_IT) (L : mj_LT) (r71 : Nat → Int32) (r76 : Nat → Int32) (hr71 : I 71 = r71) (hr76 : I 76 = r76) (o : ((Int32) × (Nat → Int32) × (Nat → Int32))) (hf : fnX11_feed F r71 r76 x1 x2 x3 x4 x5 = some o) : mj_M l G yX11_feed cX11_feed 6 2 (some .int) 0 0 mj_P0 mj_S0 98 [.ref 71, .int x1, .int x2, .int x3, .int x4, .int x5] I L (mj_qd (some (.int o.1)) (mj_rows I [(71, o.2.1), (76, o.2.2)]) L) := by
  refine mj_in RX11 "feed" [(0, .ref 71), (1, .int x1), (2, .int x2), (3, .int x3), (4, .int x4), (5, .int x5)] rfl rfl rfl (by decide) (Nat.le_of_ble_eq_true rfl) (fun X ad hR => ?_)
  refine mj_toI [(71, r71), (76, r76)] (by intro q hq; simp only [List.mem_cons, List.not_mem_nil, or_false] at hq; rcases hq with rfl | rfl <;> assumption) ?_
  refine mtX11_feed hR F I L r71 r76 x1 x2 x3 x4 x5 o hf ?_
  obtain ⟨w0, w1, w2⟩ := o
  refine mj_u2q ?_
  refine mj_u2q ?_
  exact ⟨rfl, rfl, rfl⟩

-- X11_wrong
def fnX11_wrong (F : Nat) (r71 : Nat → Int32) (x1 : Int32) (x2 : Int32) : Option ((Nat → Int32)) := (if (r71 14) ≤ 0 then some (upd (upd r71 14 x1) 15 x2) else some r71)
set_option maxRecDepth 100000 in
set_option maxHeartbeats 4000000 in
theorem mtX11_wrong {X : mj_XT} {l : Launch} {G : mj_GT} {ad : Nat → Nat} {Qn : Option Value → mj_IT → mj_LT → Prop} (hR : mj_R X l G mj_P0 mj_S0 98 ad 0 0 Qn) (F : Nat) (I : mj_IT) (L : mj_LT) (r71 : Nat → Int32) (x1 : Int32) (x2 : Int32) (o : ((Nat → Int32))) (hf : fnX11_wrong F r71 x1 x2 = some o) (hq : (fun r71 => Qn none (mj_rows I [(71, r71)]) L) o) : mj_W X G RX11 "wrong" cX11_wrong 3 1 none mj_P0 mj_S0 98 ad 0 0 0 [(0, .ref 71), (1, .int x1), (2, .int x2)] [] (mj_rows I [(71, r71)]) L := by
  unfold fnX11_wrong at hf
  refine mj_aload_n 0 dX11_wrong_0 rfl ?_
  refine mj_getIv (v := (r71 14)) rfl fl_X11_25 rfl s0_71 a0_71 dX11_wrong_1 ?_
  refine mj_if_le 8 dX11_wrong_4 (by decide) (fun c1 => ?_) (fun c1 => ?_)
  · replace hf := mj_pos c1 hf
    refine mj_aload_n 0 dX11_wrong_8 rfl ?_
    refine mj_iload_n 1 dX11_wrong_9 rfl ?_
    refine mj_putIr (ci := 9) (j := 14) [(71, (upd r71 14 x1))] rfl ⟨rfl, rfl⟩ fl_X11_25 rfl rfl s0_71 a0_71 dX11_wrong_10 ?_
    refine mj_aload_n 0 dX11_wrong_13 rfl ?_
    refine mj_iload_n 2 dX11_wrong_14 rfl ?_
    refine mj_putIr (ci := 9) (j := 15) [(71, (upd (upd r71 14 x1) 15 x2))] rfl ⟨rfl, rfl⟩ fl_X11_28 rfl rfl s0_71 a0_71 dX11_wrong_15 ?_
    obtain rfl := Option.some.inj hf
    have hZ := hq
    exact mj_vret hR ⟨Nat.le_refl _, Nat.le_refl _⟩ rfl dX11_wrong_18 hZ
  · replace hf := mj_neg c1 hf
    obtain rfl := Option.some.inj hf
    have hZ := hq
    exact mj_vret hR ⟨Nat.le_refl _, Nat.le_refl _⟩ rfl dX11_wrong_7 hZ
set_option maxRecDepth 100000 in
set_option maxHeartbeats 4000000 in
theorem cmX11_wrong (l : Launch) (G : mj_GT) (F : Nat) (x1 : Int32) (x2 : Int32) (I : mj_IT) (L : mj_LT) (r71 : Nat → Int32) (hr71 : I 71 = r71) (o : ((Nat → Int32))) (hf : fnX11_wrong F r71 x1 x2 = some o) : mj_M l G yX11_wrong cX11_wrong 3 1 none 0 0 mj_P0 mj_S0 98 [.ref 71, .int x1, .int x2] I L (mj_qd none (mj_rows I [(71, o)]) L) := by
  refine mj_in RX11 "wrong" [(0, .ref 71), (1, .int x1), (2, .int x2)] rfl rfl rfl (by decide) (Nat.le_of_ble_eq_true rfl) (fun X ad hR => ?_)
  refine mj_toI [(71, r71)] (by intro q hq; simp only [List.mem_cons, List.not_mem_nil, or_false] at hq; rcases hq with rfl <;> assumption) ?_
  refine mtX11_wrong hR F I L r71 x1 x2 o hf ?_
  exact ⟨rfl, rfl, rfl⟩

-- X11_sign
def bdX11_sign_0 (F : Nat) (r77 : Nat → Int32) (r71 : Nat → Int32) : Option (((Nat → Int32)) ⊕ ((Nat → Int32))) := (if (r71 10) ≤ (r71 11) then some (.inr r71) else (if mj_ib (r71 11) 400 = true then (if (r77 ((r71 11).toNatClampNeg)) = (32 : Int32) then some (.inl (upd r71 11 ((r71 11) + (1 : Int32)))) else some (.inr r71)) else none))
def fnX11_sign (F : Nat) (r71 : Nat → Int32) (r77 : Nat → Int32) : Option ((Int32) × (Nat → Int32)) := (mj_it (bdX11_sign_0 F r77) F r71).bind (fun r71_4 => (if (r71_4 10) ≤ (r71_4 11) then some ((0 : Int32), r71_4) else (if mj_ib (r71_4 11) 400 = true then some ((r77 ((r71_4 11).toNatClampNeg)), r71_4) else none)))
set_option maxRecDepth 100000 in
set_option maxHeartbeats 4000000 in
theorem lpX11_sign_0 {X : mj_XT} {l : Launch} {G : mj_GT} {ad : Nat → Nat} {Qn : Option Value → mj_IT → mj_LT → Prop} (hR : mj_R X l G mj_P0 mj_S0 98 ad 0 0 Qn) (F : Nat) (I : mj_IT) (L : mj_LT) (r71 : Nat → Int32) (r77 : Nat → Int32) : ∀ (n : Nat) (s : ((Nat → Int32))) (e : ((Nat → Int32))), mj_it (bdX11_sign_0 F r77) n s = some e → (fun r71 => mj_W X G RX11 "sign" cX11_sign 1 1 (some .int) mj_P0 mj_S0 98 ad 0 0 38 [(0, .ref 71)] [] (mj_rows I [(71, r71), (77, r77)]) L) e → (fun r71 => mj_W X G RX11 "sign" cX11_sign 1 1 (some .int) mj_P0 mj_S0 98 ad 0 0 0 [(0, .ref 71)] [] (mj_rows I [(71, r71), (77, r77)]) L) s := by
  refine mj_loop (fun r71 o hf hc hx => ?_)
  unfold bdX11_sign_0 at hf
  refine mj_aload_n 0 dX11_sign_0 rfl ?_
  refine mj_getIv (v := (r71 11)) rfl fl_X11_31 rfl s0_71 a0_71 dX11_sign_1 ?_
  refine mj_aload_n 0 dX11_sign_4 rfl ?_
  refine mj_getIv (v := (r71 10)) rfl fl_X11_34 rfl s0_71 a0_71 dX11_sign_5 ?_
  refine mj_icmp_ge 38 dX11_sign_8 (by decide) (fun c1 => ?_) (fun c1 => ?_)
  · replace hf := mj_pos c1 hf
    obtain rfl := Option.some.inj hf
    have hZ := hx r71 rfl
    exact hZ
  · replace hf := mj_neg c1 hf
    refine mj_aload_n 0 dX11_sign_11 rfl ?_
    refine mj_getP p0_71_8 (by decide) fl_X11_37 rfl s0_71 a0_71 dX11_sign_12 ?_
    refine mj_aload_n 0 dX11_sign_15 rfl ?_
    refine mj_getIv (v := (r71 11)) rfl fl_X11_31 rfl s0_71 a0_71 dX11_sign_16 ?_
    obtain ⟨z2, hf⟩ := mj_ck hf
    refine mj_baldv (x := r77) rfl s0_77 a0_77 z2 dX11_sign_19 ?_
    refine mj_bipush dX11_sign_20 kc_bipush_32 ?_
    refine mj_icmp_ne 38 dX11_sign_22 (by decide) (fun c3 => ?_) (fun c3 => ?_)
    · replace hf := mj_neg c3 hf
      obtain rfl := Option.some.inj hf
      have hZ := hx r71 rfl
      exact hZ
    · replace hf := mj_pos c3 hf
      refine mj_aload_n 0 dX11_sign_25 rfl ?_
      refine mj_dup dX11_sign_26 rfl ?_
      refine mj_getIv (v := (r71 11)) rfl fl_X11_31 rfl s0_71 a0_71 dX11_sign_27 ?_
      refine mj_iconst dX11_sign_30 kc_iconst_1 ?_
      refine mj_iadd dX11_sign_31 ?_
      refine mj_putIr (ci := 9) (j := 11) [(71, (upd r71 11 ((r71 11) + (1 : Int32)))), (77, r77)] rfl ⟨rfl, rfl⟩ fl_X11_31 rfl rfl s0_71 a0_71 dX11_sign_32 ?_
      refine mj_goto 0 dX11_sign_35 (by decide) ?_
      obtain rfl := Option.some.inj hf
      have hZ := hc (upd r71 11 ((r71 11) + (1 : Int32))) rfl
      exact hZ
set_option maxRecDepth 100000 in
set_option maxHeartbeats 4000000 in
theorem mtX11_sign {X : mj_XT} {l : Launch} {G : mj_GT} {ad : Nat → Nat} {Qn : Option Value → mj_IT → mj_LT → Prop} (hR : mj_R X l G mj_P0 mj_S0 98 ad 0 0 Qn) (F : Nat) (I : mj_IT) (L : mj_LT) (r71 : Nat → Int32) (r77 : Nat → Int32) (o : ((Int32) × (Nat → Int32))) (hf : fnX11_sign F r71 r77 = some o) (hq : (mj_u2 (fun ov r71 => Qn (some (.int ov)) (mj_rows I [(71, r71), (77, r77)]) L)) o) : mj_W X G RX11 "sign" cX11_sign 1 1 (some .int) mj_P0 mj_S0 98 ad 0 0 0 [(0, .ref 71)] [] (mj_rows I [(71, r71), (77, r77)]) L := by
  unfold fnX11_sign at hf
  obtain ⟨r71_4, ho4, hf⟩ := mj_bd hf
  refine lpX11_sign_0 hR F I L r71 r77 F r71 r71_4 ho4 ?_
  refine ?_
  refine mj_aload_n 0 dX11_sign_38 rfl ?_
  refine mj_getIv (v := (r71_4 11)) rfl fl_X11_31 rfl s0_71 a0_71 dX11_sign_39 ?_
  refine mj_aload_n 0 dX11_sign_42 rfl ?_
  refine mj_getIv (v := (r71_4 10)) rfl fl_X11_34 rfl s0_71 a0_71 dX11_sign_43 ?_
  refine mj_icmp_ge 61 dX11_sign_46 (by decide) (fun c5 => ?_) (fun c5 => ?_)
  · replace hf := mj_pos c5 hf
    refine mj_iconst dX11_sign_61 kc_iconst_0 ?_
    obtain rfl := Option.some.inj hf
    have hZ := hq
    replace hZ := mj_u2p hZ
    exact mj_iret hR ⟨Nat.le_refl _, Nat.le_refl _⟩ rfl rfl dX11_sign_62 hZ
  · replace hf := mj_neg c5 hf
    refine mj_aload_n 0 dX11_sign_49 rfl ?_
    refine mj_getP p0_71_8 (by decide) fl_X11_37 rfl s0_71 a0_71 dX11_sign_50 ?_
    refine mj_aload_n 0 dX11_sign_53 rfl ?_
    refine mj_getIv (v := (r71_4 11)) rfl fl_X11_31 rfl s0_71 a0_71 dX11_sign_54 ?_
    obtain ⟨z6, hf⟩ := mj_ck hf
    refine mj_baldv (x := r77) rfl s0_77 a0_77 z6 dX11_sign_57 ?_
    refine mj_goto 62 dX11_sign_58 (by decide) ?_
    obtain rfl := Option.some.inj hf
    have hZ := hq
    replace hZ := mj_u2p hZ
    exact mj_iret hR ⟨Nat.le_refl _, Nat.le_refl _⟩ rfl rfl dX11_sign_62 hZ
set_option maxRecDepth 100000 in
set_option maxHeartbeats 4000000 in
theorem cmX11_sign (l : Launch) (G : mj_GT) (F : Nat) (I : mj_IT) (L : mj_LT) (r71 : Nat → Int32) (r77 : Nat → Int32) (hr71 : I 71 = r71) (hr77 : I 77 = r77) (o : ((Int32) × (Nat → Int32))) (hf : fnX11_sign F r71 r77 = some o) : mj_M l G yX11_sign cX11_sign 1 1 (some .int) 0 0 mj_P0 mj_S0 98 [.ref 71] I L (mj_qd (some (.int o.1)) (mj_rows I [(71, o.2), (77, r77)]) L) := by
  refine mj_in RX11 "sign" [(0, .ref 71)] rfl rfl rfl (by decide) (Nat.le_of_ble_eq_true rfl) (fun X ad hR => ?_)
  refine mj_toI [(71, r71), (77, r77)] (by intro q hq; simp only [List.mem_cons, List.not_mem_nil, or_false] at hq; rcases hq with rfl | rfl <;> assumption) ?_
  refine mtX11_sign hR F I L r71 r77 o hf ?_
  obtain ⟨w0, w1⟩ := o
  refine mj_u2q ?_
  exact ⟨rfl, rfl, rfl⟩

-- X11_isSmall
def fnX11_isSmall (F : Nat) (r71 : Nat → Int32) (r77 : Nat → Int32) (x1 : Int32) : Option ((Int32)) := (if (r71 10) ≤ x1 then some (0 : Int32) else (if mj_ib x1 400 = true then (if (r77 x1.toNatClampNeg) < (97 : Int32) then some (0 : Int32) else (if mj_ib x1 400 = true then (if (122 : Int32) < (r77 x1.toNatClampNeg) then some (0 : Int32) else some (1 : Int32)) else none)) else none))
set_option maxRecDepth 100000 in
set_option maxHeartbeats 4000000 in
theorem mtX11_isSmall {X : mj_XT} {l : Launch} {G : mj_GT} {ad : Nat → Nat} {Qn : Option Value → mj_IT → mj_LT → Prop} (hR : mj_R X l G mj_P0 mj_S0 98 ad 0 0 Qn) (F : Nat) (I : mj_IT) (L : mj_LT) (r71 : Nat → Int32) (r77 : Nat → Int32) (x1 : Int32) (o : ((Int32))) (hf : fnX11_isSmall F r71 r77 x1 = some o) (hq : (fun ov => Qn (some (.int ov)) (mj_rows I [(71, r71), (77, r77)]) L) o) : mj_W X G RX11 "isSmall" cX11_isSmall 2 1 (some .boolean) mj_P0 mj_S0 98 ad 0 0 0 [(0, .ref 71), (1, .int x1)] [] (mj_rows I [(71, r71), (77, r77)]) L := by
  unfold fnX11_isSmall at hf
  refine mj_iload_n 1 dX11_isSmall_0 rfl ?_
  refine mj_aload_n 0 dX11_isSmall_1 rfl ?_
  refine mj_getIv (v := (r71 10)) rfl fl_X11_34 rfl s0_71 a0_71 dX11_isSmall_2 ?_
  refine mj_icmp_ge 34 dX11_isSmall_5 (by decide) (fun c1 => ?_) (fun c1 => ?_)
  · replace hf := mj_pos c1 hf
    refine mj_iconst dX11_isSmall_34 kc_iconst_0 ?_
    obtain rfl := Option.some.inj hf
    have hZ := hq
    exact mj_iret hR ⟨Nat.le_refl _, Nat.le_refl _⟩ rfl (by decide) dX11_isSmall_35 hZ
  · replace hf := mj_neg c1 hf
    refine mj_aload_n 0 dX11_isSmall_8 rfl ?_
    refine mj_getP p0_71_8 (by decide) fl_X11_37 rfl s0_71 a0_71 dX11_isSmall_9 ?_
    refine mj_iload_n 1 dX11_isSmall_12 rfl ?_
    obtain ⟨z2, hf⟩ := mj_ck hf
    refine mj_baldv (x := r77) rfl s0_77 a0_77 z2 dX11_isSmall_13 ?_
    refine mj_bipush dX11_isSmall_14 kc_bipush_97 ?_
    refine mj_icmp_lt 34 dX11_isSmall_16 (by decide) (fun c3 => ?_) (fun c3 => ?_)
    · replace hf := mj_pos c3 hf
      refine mj_iconst dX11_isSmall_34 kc_iconst_0 ?_
      obtain rfl := Option.some.inj hf
      have hZ := hq
      exact mj_iret hR ⟨Nat.le_refl _, Nat.le_refl _⟩ rfl (by decide) dX11_isSmall_35 hZ
    · replace hf := mj_neg c3 hf
      refine mj_aload_n 0 dX11_isSmall_19 rfl ?_
      refine mj_getP p0_71_8 (by decide) fl_X11_37 rfl s0_71 a0_71 dX11_isSmall_20 ?_
      refine mj_iload_n 1 dX11_isSmall_23 rfl ?_
      obtain ⟨z4, hf⟩ := mj_ck hf
      refine mj_baldv (x := r77) rfl s0_77 a0_77 z4 dX11_isSmall_24 ?_
      refine mj_bipush dX11_isSmall_25 kc_bipush_122 ?_
      refine mj_icmp_gt 34 dX11_isSmall_27 (by decide) (fun c5 => ?_) (fun c5 => ?_)
      · replace hf := mj_pos c5 hf
        refine mj_iconst dX11_isSmall_34 kc_iconst_0 ?_
        obtain rfl := Option.some.inj hf
        have hZ := hq
        exact mj_iret hR ⟨Nat.le_refl _, Nat.le_refl _⟩ rfl (by decide) dX11_isSmall_35 hZ
      · replace hf := mj_neg c5 hf
        refine mj_iconst dX11_isSmall_30 kc_iconst_1 ?_
        refine mj_goto 35 dX11_isSmall_31 (by decide) ?_
        obtain rfl := Option.some.inj hf
        have hZ := hq
        exact mj_iret hR ⟨Nat.le_refl _, Nat.le_refl _⟩ rfl (by decide) dX11_isSmall_35 hZ
set_option maxRecDepth 100000 in
set_option maxHeartbeats 4000000 in
theorem cmX11_isSmall (l : Launch) (G : mj_GT) (F : Nat) (x1 : Int32) (I : mj_IT) (L : mj_LT) (r71 : Nat → Int32) (r77 : Nat → Int32) (hr71 : I 71 = r71) (hr77 : I 77 = r77) (o : ((Int32))) (hf : fnX11_isSmall F r71 r77 x1 = some o) : mj_M l G yX11_isSmall cX11_isSmall 2 1 (some .boolean) 0 0 mj_P0 mj_S0 98 [.ref 71, .int x1] I L (mj_qd (some (.int o)) (mj_rows I [(71, r71), (77, r77)]) L) := by
  refine mj_in RX11 "isSmall" [(0, .ref 71), (1, .int x1)] rfl rfl rfl (by decide) (Nat.le_of_ble_eq_true rfl) (fun X ad hR => ?_)
  refine mj_toI [(71, r71), (77, r77)] (by intro q hq; simp only [List.mem_cons, List.not_mem_nil, or_false] at hq; rcases hq with rfl | rfl <;> assumption) ?_
  refine mtX11_isSmall hR F I L r71 r77 x1 o hf ?_
  exact ⟨rfl, rfl, rfl⟩

-- X11_takes
def fnX11_takes (F : Nat) (r71 : Nat → Int32) (r77 : Nat → Int32) (x1 : Int32) : Option ((Int32) × (Nat → Int32)) := (if 0 < (r71 14) then some ((0 : Int32), r71) else (fnX11_sign F r71 r77).bind (fun o2 => (if o2.1 = x1 then (if (o2.2 11) < (o2.2 10) then some ((1 : Int32), (upd o2.2 11 ((o2.2 11) + (1 : Int32)))) else some ((0 : Int32), o2.2)) else some ((0 : Int32), o2.2))))
set_option maxRecDepth 100000 in
set_option maxHeartbeats 4000000 in
theorem mtX11_takes {X : mj_XT} {l : Launch} {G : mj_GT} {ad : Nat → Nat} {Qn : Option Value → mj_IT → mj_LT → Prop} (hR : mj_R X l G mj_P0 mj_S0 98 ad 0 0 Qn) (F : Nat) (I : mj_IT) (L : mj_LT) (r71 : Nat → Int32) (r77 : Nat → Int32) (x1 : Int32) (o : ((Int32) × (Nat → Int32))) (hf : fnX11_takes F r71 r77 x1 = some o) (hq : (mj_u2 (fun ov r71 => Qn (some (.int ov)) (mj_rows I [(71, r71), (77, r77)]) L)) o) : mj_W X G RX11 "takes" cX11_takes 2 2 (some .boolean) mj_P0 mj_S0 98 ad 0 0 0 [(0, .ref 71), (1, .int x1)] [] (mj_rows I [(71, r71), (77, r77)]) L := by
  unfold fnX11_takes at hf
  refine mj_aload_n 0 dX11_takes_0 rfl ?_
  refine mj_getIv (v := (r71 14)) rfl fl_X11_25 rfl s0_71 a0_71 dX11_takes_1 ?_
  refine mj_if_gt 26 dX11_takes_4 (by decide) (fun c1 => ?_) (fun c1 => ?_)
  · replace hf := mj_pos c1 hf
    refine mj_iconst dX11_takes_26 kc_iconst_0 ?_
    obtain rfl := Option.some.inj hf
    have hZ := hq
    replace hZ := mj_u2p hZ
    exact mj_iret hR ⟨Nat.le_refl _, Nat.le_refl _⟩ rfl (by decide) dX11_takes_27 hZ
  · replace hf := mj_neg c1 hf
    refine mj_aload_n 0 dX11_takes_7 rfl ?_
    obtain ⟨o2, ho2, hf⟩ := mj_bd hf
    refine mj_callVd (I2 := (mj_rows I [(71, o2.2), (77, r77)])) (L2 := L) (s1 := [.int o2.1]) (st := []) [] (cmX11_sign X.2.1 G F  _ _ r71 r77 rfl rfl o2 ho2) (mj_rr rfl) rfl cw_X11_40 s0_71 a0_71 (by decide) rfl rfl (Nat.le_of_ble_eq_true rfl) ⟨Nat.zero_le _, Nat.zero_le _⟩ dX11_takes_8 rfl ?_
    refine mj_iload_n 1 dX11_takes_11 rfl ?_
    refine mj_icmp_ne 26 dX11_takes_12 (by decide) (fun c3 => ?_) (fun c3 => ?_)
    · replace hf := mj_neg c3 hf
      refine mj_iconst dX11_takes_26 kc_iconst_0 ?_
      obtain rfl := Option.some.inj hf
      have hZ := hq
      replace hZ := mj_u2p hZ
      exact mj_iret hR ⟨Nat.le_refl _, Nat.le_refl _⟩ rfl (by decide) dX11_takes_27 hZ
    · replace hf := mj_pos c3 hf
      refine mj_aload_n 0 dX11_takes_15 rfl ?_
      refine mj_getIv (v := (o2.2 11)) rfl fl_X11_31 rfl s0_71 a0_71 dX11_takes_16 ?_
      refine mj_aload_n 0 dX11_takes_19 rfl ?_
      refine mj_getIv (v := (o2.2 10)) rfl fl_X11_34 rfl s0_71 a0_71 dX11_takes_20 ?_
      refine mj_icmp_lt 28 dX11_takes_23 (by decide) (fun c4 => ?_) (fun c4 => ?_)
      · replace hf := mj_pos c4 hf
        refine mj_aload_n 0 dX11_takes_28 rfl ?_
        refine mj_dup dX11_takes_29 rfl ?_
        refine mj_getIv (v := (o2.2 11)) rfl fl_X11_31 rfl s0_71 a0_71 dX11_takes_30 ?_
        refine mj_iconst dX11_takes_33 kc_iconst_1 ?_
        refine mj_iadd dX11_takes_34 ?_
        refine mj_putIr (ci := 9) (j := 11) [(71, (upd o2.2 11 ((o2.2 11) + (1 : Int32)))), (77, r77)] rfl ⟨rfl, rfl⟩ fl_X11_31 rfl rfl s0_71 a0_71 dX11_takes_35 ?_
        refine mj_iconst dX11_takes_38 kc_iconst_1 ?_
        obtain rfl := Option.some.inj hf
        have hZ := hq
        replace hZ := mj_u2p hZ
        exact mj_iret hR ⟨Nat.le_refl _, Nat.le_refl _⟩ rfl (by decide) dX11_takes_39 hZ
      · replace hf := mj_neg c4 hf
        refine mj_iconst dX11_takes_26 kc_iconst_0 ?_
        obtain rfl := Option.some.inj hf
        have hZ := hq
        replace hZ := mj_u2p hZ
        exact mj_iret hR ⟨Nat.le_refl _, Nat.le_refl _⟩ rfl (by decide) dX11_takes_27 hZ
set_option maxRecDepth 100000 in
set_option maxHeartbeats 4000000 in
theorem cmX11_takes (l : Launch) (G : mj_GT) (F : Nat) (x1 : Int32) (I : mj_IT) (L : mj_LT) (r71 : Nat → Int32) (r77 : Nat → Int32) (hr71 : I 71 = r71) (hr77 : I 77 = r77) (o : ((Int32) × (Nat → Int32))) (hf : fnX11_takes F r71 r77 x1 = some o) : mj_M l G yX11_takes cX11_takes 2 2 (some .boolean) 0 0 mj_P0 mj_S0 98 [.ref 71, .int x1] I L (mj_qd (some (.int o.1)) (mj_rows I [(71, o.2), (77, r77)]) L) := by
  refine mj_in RX11 "takes" [(0, .ref 71), (1, .int x1)] rfl rfl rfl (by decide) (Nat.le_of_ble_eq_true rfl) (fun X ad hR => ?_)
  refine mj_toI [(71, r71), (77, r77)] (by intro q hq; simp only [List.mem_cons, List.not_mem_nil, or_false] at hq; rcases hq with rfl | rfl <;> assumption) ?_
  refine mtX11_takes hR F I L r71 r77 x1 o hf ?_
  obtain ⟨w0, w1⟩ := o
  refine mj_u2q ?_
  exact ⟨rfl, rfl, rfl⟩

-- X11_needs
def fnX11_needs (F : Nat) (r71 : Nat → Int32) (r77 : Nat → Int32) (x1 : Int32) : Option ((Nat → Int32)) := (if (r71 14) = 0 then (fnX11_takes F r71 r77 x1).bind (fun o2 => (if o2.1 = 0 then (fnX11_wrong F o2.2 (1 : Int32) (o2.2 11)).bind (fun o4 => some o4) else some o2.2)) else some r71)
set_option maxRecDepth 100000 in
set_option maxHeartbeats 4000000 in
theorem mtX11_needs {X : mj_XT} {l : Launch} {G : mj_GT} {ad : Nat → Nat} {Qn : Option Value → mj_IT → mj_LT → Prop} (hR : mj_R X l G mj_P0 mj_S0 98 ad 0 0 Qn) (F : Nat) (I : mj_IT) (L : mj_LT) (r71 : Nat → Int32) (r77 : Nat → Int32) (x1 : Int32) (o : ((Nat → Int32))) (hf : fnX11_needs F r71 r77 x1 = some o) (hq : (fun r71 => Qn none (mj_rows I [(71, r71), (77, r77)]) L) o) : mj_W X G RX11 "needs" cX11_needs 2 3 none mj_P0 mj_S0 98 ad 0 0 0 [(0, .ref 71), (1, .int x1)] [] (mj_rows I [(71, r71), (77, r77)]) L := by
  unfold fnX11_needs at hf
  refine mj_aload_n 0 dX11_needs_0 rfl ?_
  refine mj_getIv (v := (r71 14)) rfl fl_X11_25 rfl s0_71 a0_71 dX11_needs_1 ?_
  refine mj_if_ne 24 dX11_needs_4 (by decide) (fun c1 => ?_) (fun c1 => ?_)
  · replace hf := mj_neg c1 hf
    obtain rfl := Option.some.inj hf
    have hZ := hq
    exact mj_vret hR ⟨Nat.le_refl _, Nat.le_refl _⟩ rfl dX11_needs_24 hZ
  · replace hf := mj_pos c1 hf
    refine mj_aload_n 0 dX11_needs_7 rfl ?_
    refine mj_iload_n 1 dX11_needs_8 rfl ?_
    obtain ⟨o2, ho2, hf⟩ := mj_bd hf
    refine mj_callVd (I2 := (mj_rows I [(71, o2.2), (77, r77)])) (L2 := L) (s1 := [.int o2.1]) (st := []) [.int x1] (cmX11_takes X.2.1 G F x1 _ _ r71 r77 rfl rfl o2 ho2) (mj_rr rfl) rfl cw_X11_61 s0_71 a0_71 (by decide) rfl rfl (Nat.le_of_ble_eq_true rfl) ⟨Nat.zero_le _, Nat.zero_le _⟩ dX11_needs_9 rfl ?_
    refine mj_if_ne 24 dX11_needs_12 (by decide) (fun c3 => ?_) (fun c3 => ?_)
    · replace hf := mj_neg c3 hf
      obtain rfl := Option.some.inj hf
      have hZ := hq
      exact mj_vret hR ⟨Nat.le_refl _, Nat.le_refl _⟩ rfl dX11_needs_24 hZ
    · replace hf := mj_pos c3 hf
      refine mj_aload_n 0 dX11_needs_15 rfl ?_
      refine mj_iconst dX11_needs_16 kc_iconst_1 ?_
      refine mj_aload_n 0 dX11_needs_17 rfl ?_
      refine mj_getIv (v := (o2.2 11)) rfl fl_X11_31 rfl s0_71 a0_71 dX11_needs_18 ?_
      obtain ⟨o4, ho4, hf⟩ := mj_bd hf
      refine mj_callVd (I2 := (mj_rows I [(71, o4), (77, r77)])) (L2 := L) (s1 := []) (st := []) [.int (1 : Int32), .int (o2.2 11)] (cmX11_wrong X.2.1 G F (1 : Int32) (o2.2 11) _ _ o2.2 rfl o4 ho4) (mj_rr rfl) rfl cw_X11_64 s0_71 a0_71 (by decide) rfl rfl (Nat.le_of_ble_eq_true rfl) ⟨Nat.zero_le _, Nat.zero_le _⟩ dX11_needs_21 rfl ?_
      obtain rfl := Option.some.inj hf
      have hZ := hq
      exact mj_vret hR ⟨Nat.le_refl _, Nat.le_refl _⟩ rfl dX11_needs_24 hZ
set_option maxRecDepth 100000 in
set_option maxHeartbeats 4000000 in
theorem cmX11_needs (l : Launch) (G : mj_GT) (F : Nat) (x1 : Int32) (I : mj_IT) (L : mj_LT) (r71 : Nat → Int32) (r77 : Nat → Int32) (hr71 : I 71 = r71) (hr77 : I 77 = r77) (o : ((Nat → Int32))) (hf : fnX11_needs F r71 r77 x1 = some o) : mj_M l G yX11_needs cX11_needs 2 3 none 0 0 mj_P0 mj_S0 98 [.ref 71, .int x1] I L (mj_qd none (mj_rows I [(71, o), (77, r77)]) L) := by
  refine mj_in RX11 "needs" [(0, .ref 71), (1, .int x1)] rfl rfl rfl (by decide) (Nat.le_of_ble_eq_true rfl) (fun X ad hR => ?_)
  refine mj_toI [(71, r71), (77, r77)] (by intro q hq; simp only [List.mem_cons, List.not_mem_nil, or_false] at hq; rcases hq with rfl | rfl <;> assumption) ?_
  refine mtX11_needs hR F I L r71 r77 x1 o hf ?_
  exact ⟨rfl, rfl, rfl⟩

-- X11_isNameHere
def fnX11_isNameHere (F : Nat) (r71 : Nat → Int32) (r77 : Nat → Int32) : Option ((Int32) × (Nat → Int32)) := (fnX11_sign F r71 r77).bind (fun o1 => (if o1.1 < (97 : Int32) then some ((0 : Int32), o1.2) else (fnX11_sign F o1.2 r77).bind (fun o3 => (if (102 : Int32) < o3.1 then some ((0 : Int32), o3.2) else (if (o3.2 10) ≤ (o3.2 11) then some ((0 : Int32), o3.2) else (fnX11_isSmall F o3.2 r77 ((o3.2 11) + (1 : Int32))).bind (fun o6 => (if o6 = 0 then some ((1 : Int32), o3.2) else some ((0 : Int32), o3.2))))))))
set_option maxRecDepth 100000 in
set_option maxHeartbeats 4000000 in
theorem mtX11_isNameHere {X : mj_XT} {l : Launch} {G : mj_GT} {ad : Nat → Nat} {Qn : Option Value → mj_IT → mj_LT → Prop} (hR : mj_R X l G mj_P0 mj_S0 98 ad 0 0 Qn) (F : Nat) (I : mj_IT) (L : mj_LT) (r71 : Nat → Int32) (r77 : Nat → Int32) (o : ((Int32) × (Nat → Int32))) (hf : fnX11_isNameHere F r71 r77 = some o) (hq : (mj_u2 (fun ov r71 => Qn (some (.int ov)) (mj_rows I [(71, r71), (77, r77)]) L)) o) : mj_W X G RX11 "isNameHere" cX11_isNameHere 1 2 (some .boolean) mj_P0 mj_S0 98 ad 0 0 0 [(0, .ref 71)] [] (mj_rows I [(71, r71), (77, r77)]) L := by
  unfold fnX11_isNameHere at hf
  refine mj_aload_n 0 dX11_isNameHere_0 rfl ?_
  obtain ⟨o1, ho1, hf⟩ := mj_bd hf
  refine mj_callVd (I2 := (mj_rows I [(71, o1.2), (77, r77)])) (L2 := L) (s1 := [.int o1.1]) (st := []) [] (cmX11_sign X.2.1 G F  _ _ r71 r77 rfl rfl o1 ho1) (mj_rr rfl) rfl cw_X11_40 s0_71 a0_71 (by decide) rfl rfl (Nat.le_of_ble_eq_true rfl) ⟨Nat.zero_le _, Nat.zero_le _⟩ dX11_isNameHere_1 rfl ?_
  refine mj_bipush dX11_isNameHere_4 kc_bipush_97 ?_
  refine mj_icmp_lt 46 dX11_isNameHere_6 (by decide) (fun c2 => ?_) (fun c2 => ?_)
  · replace hf := mj_pos c2 hf
    refine mj_iconst dX11_isNameHere_46 kc_iconst_0 ?_
    obtain rfl := Option.some.inj hf
    have hZ := hq
    replace hZ := mj_u2p hZ
    exact mj_iret hR ⟨Nat.le_refl _, Nat.le_refl _⟩ rfl (by decide) dX11_isNameHere_47 hZ
  · replace hf := mj_neg c2 hf
    refine mj_aload_n 0 dX11_isNameHere_9 rfl ?_
    obtain ⟨o3, ho3, hf⟩ := mj_bd hf
    refine mj_callVd (I2 := (mj_rows I [(71, o3.2), (77, r77)])) (L2 := L) (s1 := [.int o3.1]) (st := []) [] (cmX11_sign X.2.1 G F  _ _ o1.2 r77 rfl rfl o3 ho3) (mj_rr rfl) rfl cw_X11_40 s0_71 a0_71 (by decide) rfl rfl (Nat.le_of_ble_eq_true rfl) ⟨Nat.zero_le _, Nat.zero_le _⟩ dX11_isNameHere_10 rfl ?_
    refine mj_bipush dX11_isNameHere_13 kc_bipush_102 ?_
    refine mj_icmp_gt 46 dX11_isNameHere_15 (by decide) (fun c4 => ?_) (fun c4 => ?_)
    · replace hf := mj_pos c4 hf
      refine mj_iconst dX11_isNameHere_46 kc_iconst_0 ?_
      obtain rfl := Option.some.inj hf
      have hZ := hq
      replace hZ := mj_u2p hZ
      exact mj_iret hR ⟨Nat.le_refl _, Nat.le_refl _⟩ rfl (by decide) dX11_isNameHere_47 hZ
    · replace hf := mj_neg c4 hf
      refine mj_aload_n 0 dX11_isNameHere_18 rfl ?_
      refine mj_getIv (v := (o3.2 11)) rfl fl_X11_31 rfl s0_71 a0_71 dX11_isNameHere_19 ?_
      refine mj_aload_n 0 dX11_isNameHere_22 rfl ?_
      refine mj_getIv (v := (o3.2 10)) rfl fl_X11_34 rfl s0_71 a0_71 dX11_isNameHere_23 ?_
      refine mj_icmp_ge 46 dX11_isNameHere_26 (by decide) (fun c5 => ?_) (fun c5 => ?_)
      · replace hf := mj_pos c5 hf
        refine mj_iconst dX11_isNameHere_46 kc_iconst_0 ?_
        obtain rfl := Option.some.inj hf
        have hZ := hq
        replace hZ := mj_u2p hZ
        exact mj_iret hR ⟨Nat.le_refl _, Nat.le_refl _⟩ rfl (by decide) dX11_isNameHere_47 hZ
      · replace hf := mj_neg c5 hf
        refine mj_aload_n 0 dX11_isNameHere_29 rfl ?_
        refine mj_aload_n 0 dX11_isNameHere_30 rfl ?_
        refine mj_getIv (v := (o3.2 11)) rfl fl_X11_31 rfl s0_71 a0_71 dX11_isNameHere_31 ?_
        refine mj_iconst dX11_isNameHere_34 kc_iconst_1 ?_
        refine mj_iadd dX11_isNameHere_35 ?_
        obtain ⟨o6, ho6, hf⟩ := mj_bd hf
        refine mj_callVd (I2 := (mj_rows I [(71, o3.2), (77, r77)])) (L2 := L) (s1 := [.int o6]) (st := []) [.int ((o3.2 11) + (1 : Int32))] (cmX11_isSmall X.2.1 G F ((o3.2 11) + (1 : Int32)) _ _ o3.2 r77 rfl rfl o6 ho6) (mj_rr rfl) rfl cw_X11_49 s0_71 a0_71 (by decide) rfl rfl (Nat.le_of_ble_eq_true rfl) ⟨Nat.zero_le _, Nat.zero_le _⟩ dX11_isNameHere_36 rfl ?_
        refine mj_if_ne 46 dX11_isNameHere_39 (by decide) (fun c7 => ?_) (fun c7 => ?_)
        · replace hf := mj_neg c7 hf
          refine mj_iconst dX11_isNameHere_46 kc_iconst_0 ?_
          obtain rfl := Option.some.inj hf
          have hZ := hq
          replace hZ := mj_u2p hZ
          exact mj_iret hR ⟨Nat.le_refl _, Nat.le_refl _⟩ rfl (by decide) dX11_isNameHere_47 hZ
        · replace hf := mj_pos c7 hf
          refine mj_iconst dX11_isNameHere_42 kc_iconst_1 ?_
          refine mj_goto 47 dX11_isNameHere_43 (by decide) ?_
          obtain rfl := Option.some.inj hf
          have hZ := hq
          replace hZ := mj_u2p hZ
          exact mj_iret hR ⟨Nat.le_refl _, Nat.le_refl _⟩ rfl (by decide) dX11_isNameHere_47 hZ
set_option maxRecDepth 100000 in
set_option maxHeartbeats 4000000 in
theorem cmX11_isNameHere (l : Launch) (G : mj_GT) (F : Nat) (I : mj_IT) (L : mj_LT) (r71 : Nat → Int32) (r77 : Nat → Int32) (hr71 : I 71 = r71) (hr77 : I 77 = r77) (o : ((Int32) × (Nat → Int32))) (hf : fnX11_isNameHere F r71 r77 = some o) : mj_M l G yX11_isNameHere cX11_isNameHere 1 2 (some .boolean) 0 0 mj_P0 mj_S0 98 [.ref 71] I L (mj_qd (some (.int o.1)) (mj_rows I [(71, o.2), (77, r77)]) L) := by
  refine mj_in RX11 "isNameHere" [(0, .ref 71)] rfl rfl rfl (by decide) (Nat.le_of_ble_eq_true rfl) (fun X ad hR => ?_)
  refine mj_toI [(71, r71), (77, r77)] (by intro q hq; simp only [List.mem_cons, List.not_mem_nil, or_false] at hq; rcases hq with rfl | rfl <;> assumption) ?_
  refine mtX11_isNameHere hR F I L r71 r77 o hf ?_
  obtain ⟨w0, w1⟩ := o
  refine mj_u2q ?_
  exact ⟨rfl, rfl, rfl⟩

-- X11_name
def jnX11_name_23 (F : Nat) (r77 : Nat → Int32) (r71 : Nat → Int32) : Option ((Int32) × (Nat → Int32)) := (if (r71 14) ≤ 0 then (if mj_ib (((r71 11) + (1 : Int32)) - (1 : Int32)) 400 = true then some (((r77 ((((r71 11) + (1 : Int32)) - (1 : Int32)).toNatClampNeg)) - (97 : Int32)), (upd r71 11 ((r71 11) + (1 : Int32)))) else none) else some ((0 : Int32), r71))
def fnX11_name (F : Nat) (r71 : Nat → Int32) (r77 : Nat → Int32) : Option ((Int32) × (Nat → Int32)) := (if (r71 14) = 0 then (fnX11_isNameHere F r71 r77).bind (fun o4 => (if o4.1 = 0 then (fnX11_wrong F o4.2 (1 : Int32) (o4.2 11)).bind (fun o6 => jnX11_name_23 F r77 o6) else jnX11_name_23 F r77 o4.2)) else jnX11_name_23 F r77 r71)
set_option maxRecDepth 100000 in
set_option maxHeartbeats 4000000 in
theorem jtX11_name_23 {X : mj_XT} {l : Launch} {G : mj_GT} {ad : Nat → Nat} {Qn : Option Value → mj_IT → mj_LT → Prop} (hR : mj_R X l G mj_P0 mj_S0 98 ad 0 0 Qn) (F : Nat) (I : mj_IT) (L : mj_LT) (r71 : Nat → Int32) (r77 : Nat → Int32) (o : ((Int32) × (Nat → Int32))) (hf : jnX11_name_23 F r77 r71 = some o) (hq : (mj_u2 (fun ov r71 => Qn (some (.int ov)) (mj_rows I [(71, r71), (77, r77)]) L)) o) : mj_W X G RX11 "name" cX11_name 1 3 (some .int) mj_P0 mj_S0 98 ad 0 0 23 [(0, .ref 71)] [] (mj_rows I [(71, r71), (77, r77)]) L := by
  unfold jnX11_name_23 at hf
  refine mj_aload_n 0 dX11_name_23 rfl ?_
  refine mj_getIv (v := (r71 14)) rfl fl_X11_25 rfl s0_71 a0_71 dX11_name_24 ?_
  refine mj_if_le 32 dX11_name_27 (by decide) (fun c1 => ?_) (fun c1 => ?_)
  · replace hf := mj_pos c1 hf
    refine mj_aload_n 0 dX11_name_32 rfl ?_
    refine mj_dup dX11_name_33 rfl ?_
    refine mj_getIv (v := (r71 11)) rfl fl_X11_31 rfl s0_71 a0_71 dX11_name_34 ?_
    refine mj_iconst dX11_name_37 kc_iconst_1 ?_
    refine mj_iadd dX11_name_38 ?_
    refine mj_putIr (ci := 9) (j := 11) [(71, (upd r71 11 ((r71 11) + (1 : Int32)))), (77, r77)] rfl ⟨rfl, rfl⟩ fl_X11_31 rfl rfl s0_71 a0_71 dX11_name_39 ?_
    refine mj_aload_n 0 dX11_name_42 rfl ?_
    refine mj_getP p0_71_8 (by decide) fl_X11_37 rfl s0_71 a0_71 dX11_name_43 ?_
    refine mj_aload_n 0 dX11_name_46 rfl ?_
    refine mj_getIv (v := ((r71 11) + (1 : Int32))) rfl fl_X11_31 rfl s0_71 a0_71 dX11_name_47 ?_
    refine mj_iconst dX11_name_50 kc_iconst_1 ?_
    refine mj_isub dX11_name_51 ?_
    obtain ⟨z2, hf⟩ := mj_ck hf
    refine mj_baldv (x := r77) rfl s0_77 a0_77 z2 dX11_name_52 ?_
    refine mj_bipush dX11_name_53 kc_bipush_97 ?_
    refine mj_isub dX11_name_55 ?_
    obtain rfl := Option.some.inj hf
    have hZ := hq
    replace hZ := mj_u2p hZ
    exact mj_iret hR ⟨Nat.le_refl _, Nat.le_refl _⟩ rfl rfl dX11_name_56 hZ
  · replace hf := mj_neg c1 hf
    refine mj_iconst dX11_name_30 kc_iconst_0 ?_
    obtain rfl := Option.some.inj hf
    have hZ := hq
    replace hZ := mj_u2p hZ
    exact mj_iret hR ⟨Nat.le_refl _, Nat.le_refl _⟩ rfl rfl dX11_name_31 hZ
set_option maxRecDepth 100000 in
set_option maxHeartbeats 4000000 in
theorem mtX11_name {X : mj_XT} {l : Launch} {G : mj_GT} {ad : Nat → Nat} {Qn : Option Value → mj_IT → mj_LT → Prop} (hR : mj_R X l G mj_P0 mj_S0 98 ad 0 0 Qn) (F : Nat) (I : mj_IT) (L : mj_LT) (r71 : Nat → Int32) (r77 : Nat → Int32) (o : ((Int32) × (Nat → Int32))) (hf : fnX11_name F r71 r77 = some o) (hq : (mj_u2 (fun ov r71 => Qn (some (.int ov)) (mj_rows I [(71, r71), (77, r77)]) L)) o) : mj_W X G RX11 "name" cX11_name 1 3 (some .int) mj_P0 mj_S0 98 ad 0 0 0 [(0, .ref 71)] [] (mj_rows I [(71, r71), (77, r77)]) L := by
  unfold fnX11_name at hf
  refine mj_aload_n 0 dX11_name_0 rfl ?_
  refine mj_getIv (v := (r71 14)) rfl fl_X11_25 rfl s0_71 a0_71 dX11_name_1 ?_
  refine mj_if_ne 23 dX11_name_4 (by decide) (fun c3 => ?_) (fun c3 => ?_)
  · replace hf := mj_neg c3 hf
    exact jtX11_name_23 hR F I L r71 r77 o hf hq
  · replace hf := mj_pos c3 hf
    refine mj_aload_n 0 dX11_name_7 rfl ?_
    obtain ⟨o4, ho4, hf⟩ := mj_bd hf
    refine mj_callVd (I2 := (mj_rows I [(71, o4.2), (77, r77)])) (L2 := L) (s1 := [.int o4.1]) (st := []) [] (cmX11_isNameHere X.2.1 G F  _ _ r71 r77 rfl rfl o4 ho4) (mj_rr rfl) rfl cw_X11_68 s0_71 a0_71 (by decide) rfl rfl (Nat.le_of_ble_eq_true rfl) ⟨Nat.zero_le _, Nat.zero_le _⟩ dX11_name_8 rfl ?_
    refine mj_if_ne 23 dX11_name_11 (by decide) (fun c5 => ?_) (fun c5 => ?_)
    · replace hf := mj_neg c5 hf
      exact jtX11_name_23 hR F I L o4.2 r77 o hf hq
    · replace hf := mj_pos c5 hf
      refine mj_aload_n 0 dX11_name_14 rfl ?_
      refine mj_iconst dX11_name_15 kc_iconst_1 ?_
      refine mj_aload_n 0 dX11_name_16 rfl ?_
      refine mj_getIv (v := (o4.2 11)) rfl fl_X11_31 rfl s0_71 a0_71 dX11_name_17 ?_
      obtain ⟨o6, ho6, hf⟩ := mj_bd hf
      refine mj_callVd (I2 := (mj_rows I [(71, o6), (77, r77)])) (L2 := L) (s1 := []) (st := []) [.int (1 : Int32), .int (o4.2 11)] (cmX11_wrong X.2.1 G F (1 : Int32) (o4.2 11) _ _ o4.2 rfl o6 ho6) (mj_rr rfl) rfl cw_X11_64 s0_71 a0_71 (by decide) rfl rfl (Nat.le_of_ble_eq_true rfl) ⟨Nat.zero_le _, Nat.zero_le _⟩ dX11_name_20 rfl ?_
      exact jtX11_name_23 hR F I L o6 r77 o hf hq
set_option maxRecDepth 100000 in
set_option maxHeartbeats 4000000 in
theorem cmX11_name (l : Launch) (G : mj_GT) (F : Nat) (I : mj_IT) (L : mj_LT) (r71 : Nat → Int32) (r77 : Nat → Int32) (hr71 : I 71 = r71) (hr77 : I 77 = r77) (o : ((Int32) × (Nat → Int32))) (hf : fnX11_name F r71 r77 = some o) : mj_M l G yX11_name cX11_name 1 3 (some .int) 0 0 mj_P0 mj_S0 98 [.ref 71] I L (mj_qd (some (.int o.1)) (mj_rows I [(71, o.2), (77, r77)]) L) := by
  refine mj_in RX11 "name" [(0, .ref 71)] rfl rfl rfl (by decide) (Nat.le_of_ble_eq_true rfl) (fun X ad hR => ?_)
  refine mj_toI [(71, r71), (77, r77)] (by intro q hq; simp only [List.mem_cons, List.not_mem_nil, or_false] at hq; rcases hq with rfl | rfl <;> assumption) ?_
  refine mtX11_name hR F I L r71 r77 o hf ?_
  obtain ⟨w0, w1⟩ := o
  refine mj_u2q ?_
  exact ⟨rfl, rfl, rfl⟩

-- X11_isDigit
def fnX11_isDigit (F : Nat) (r71 : Nat → Int32) (r77 : Nat → Int32) : Option ((Int32) × (Nat → Int32)) := (fnX11_sign F r71 r77).bind (fun o1 => (if o1.1 < (48 : Int32) then some ((0 : Int32), o1.2) else (fnX11_sign F o1.2 r77).bind (fun o3 => (if (57 : Int32) < o3.1 then some ((0 : Int32), o3.2) else (if (o3.2 10) ≤ (o3.2 11) then some ((0 : Int32), o3.2) else some ((1 : Int32), o3.2))))))
set_option maxRecDepth 100000 in
set_option maxHeartbeats 4000000 in
theorem mtX11_isDigit {X : mj_XT} {l : Launch} {G : mj_GT} {ad : Nat → Nat} {Qn : Option Value → mj_IT → mj_LT → Prop} (hR : mj_R X l G mj_P0 mj_S0 98 ad 0 0 Qn) (F : Nat) (I : mj_IT) (L : mj_LT) (r71 : Nat → Int32) (r77 : Nat → Int32) (o : ((Int32) × (Nat → Int32))) (hf : fnX11_isDigit F r71 r77 = some o) (hq : (mj_u2 (fun ov r71 => Qn (some (.int ov)) (mj_rows I [(71, r71), (77, r77)]) L)) o) : mj_W X G RX11 "isDigit" cX11_isDigit 1 2 (some .boolean) mj_P0 mj_S0 98 ad 0 0 0 [(0, .ref 71)] [] (mj_rows I [(71, r71), (77, r77)]) L := by
  unfold fnX11_isDigit at hf
  refine mj_aload_n 0 dX11_isDigit_0 rfl ?_
  obtain ⟨o1, ho1, hf⟩ := mj_bd hf
  refine mj_callVd (I2 := (mj_rows I [(71, o1.2), (77, r77)])) (L2 := L) (s1 := [.int o1.1]) (st := []) [] (cmX11_sign X.2.1 G F  _ _ r71 r77 rfl rfl o1 ho1) (mj_rr rfl) rfl cw_X11_40 s0_71 a0_71 (by decide) rfl rfl (Nat.le_of_ble_eq_true rfl) ⟨Nat.zero_le _, Nat.zero_le _⟩ dX11_isDigit_1 rfl ?_
  refine mj_bipush dX11_isDigit_4 kc_bipush_48 ?_
  refine mj_icmp_lt 33 dX11_isDigit_6 (by decide) (fun c2 => ?_) (fun c2 => ?_)
  · replace hf := mj_pos c2 hf
    refine mj_iconst dX11_isDigit_33 kc_iconst_0 ?_
    obtain rfl := Option.some.inj hf
    have hZ := hq
    replace hZ := mj_u2p hZ
    exact mj_iret hR ⟨Nat.le_refl _, Nat.le_refl _⟩ rfl (by decide) dX11_isDigit_34 hZ
  · replace hf := mj_neg c2 hf
    refine mj_aload_n 0 dX11_isDigit_9 rfl ?_
    obtain ⟨o3, ho3, hf⟩ := mj_bd hf
    refine mj_callVd (I2 := (mj_rows I [(71, o3.2), (77, r77)])) (L2 := L) (s1 := [.int o3.1]) (st := []) [] (cmX11_sign X.2.1 G F  _ _ o1.2 r77 rfl rfl o3 ho3) (mj_rr rfl) rfl cw_X11_40 s0_71 a0_71 (by decide) rfl rfl (Nat.le_of_ble_eq_true rfl) ⟨Nat.zero_le _, Nat.zero_le _⟩ dX11_isDigit_10 rfl ?_
    refine mj_bipush dX11_isDigit_13 kc_bipush_57 ?_
    refine mj_icmp_gt 33 dX11_isDigit_15 (by decide) (fun c4 => ?_) (fun c4 => ?_)
    · replace hf := mj_pos c4 hf
      refine mj_iconst dX11_isDigit_33 kc_iconst_0 ?_
      obtain rfl := Option.some.inj hf
      have hZ := hq
      replace hZ := mj_u2p hZ
      exact mj_iret hR ⟨Nat.le_refl _, Nat.le_refl _⟩ rfl (by decide) dX11_isDigit_34 hZ
    · replace hf := mj_neg c4 hf
      refine mj_aload_n 0 dX11_isDigit_18 rfl ?_
      refine mj_getIv (v := (o3.2 11)) rfl fl_X11_31 rfl s0_71 a0_71 dX11_isDigit_19 ?_
      refine mj_aload_n 0 dX11_isDigit_22 rfl ?_
      refine mj_getIv (v := (o3.2 10)) rfl fl_X11_34 rfl s0_71 a0_71 dX11_isDigit_23 ?_
      refine mj_icmp_ge 33 dX11_isDigit_26 (by decide) (fun c5 => ?_) (fun c5 => ?_)
      · replace hf := mj_pos c5 hf
        refine mj_iconst dX11_isDigit_33 kc_iconst_0 ?_
        obtain rfl := Option.some.inj hf
        have hZ := hq
        replace hZ := mj_u2p hZ
        exact mj_iret hR ⟨Nat.le_refl _, Nat.le_refl _⟩ rfl (by decide) dX11_isDigit_34 hZ
      · replace hf := mj_neg c5 hf
        refine mj_iconst dX11_isDigit_29 kc_iconst_1 ?_
        refine mj_goto 34 dX11_isDigit_30 (by decide) ?_
        obtain rfl := Option.some.inj hf
        have hZ := hq
        replace hZ := mj_u2p hZ
        exact mj_iret hR ⟨Nat.le_refl _, Nat.le_refl _⟩ rfl (by decide) dX11_isDigit_34 hZ
set_option maxRecDepth 100000 in
set_option maxHeartbeats 4000000 in
theorem cmX11_isDigit (l : Launch) (G : mj_GT) (F : Nat) (I : mj_IT) (L : mj_LT) (r71 : Nat → Int32) (r77 : Nat → Int32) (hr71 : I 71 = r71) (hr77 : I 77 = r77) (o : ((Int32) × (Nat → Int32))) (hf : fnX11_isDigit F r71 r77 = some o) : mj_M l G yX11_isDigit cX11_isDigit 1 2 (some .boolean) 0 0 mj_P0 mj_S0 98 [.ref 71] I L (mj_qd (some (.int o.1)) (mj_rows I [(71, o.2), (77, r77)]) L) := by
  refine mj_in RX11 "isDigit" [(0, .ref 71)] rfl rfl rfl (by decide) (Nat.le_of_ble_eq_true rfl) (fun X ad hR => ?_)
  refine mj_toI [(71, r71), (77, r77)] (by intro q hq; simp only [List.mem_cons, List.not_mem_nil, or_false] at hq; rcases hq with rfl | rfl <;> assumption) ?_
  refine mtX11_isDigit hR F I L r71 r77 o hf ?_
  obtain ⟨w0, w1⟩ := o
  refine mj_u2q ?_
  exact ⟨rfl, rfl, rfl⟩

-- X11_number
def bdX11_number_42 (F : Nat) (r77 : Nat → Int32) (x1 : Int32) (r71 : Nat → Int32) : Option (((Int32) × (Nat → Int32)) ⊕ ((Int32) × (Nat → Int32))) := (if (r71 10) ≤ (r71 11) then some (.inr (x1, r71)) else (if mj_ib (r71 11) 400 = true then (if (r77 ((r71 11).toNatClampNeg)) < (48 : Int32) then some (.inr (x1, r71)) else (if mj_ib (r71 11) 400 = true then (if (57 : Int32) < (r77 ((r71 11).toNatClampNeg)) then some (.inr (x1, r71)) else (if mj_ib (r71 11) 400 = true then some (.inl ((if (100000 : Int32) < ((((10 : Int32) * x1) + (r77 ((r71 11).toNatClampNeg))) - (48 : Int32)) then (100000 : Int32) else ((((10 : Int32) * x1) + (r77 ((r71 11).toNatClampNeg))) - (48 : Int32))), (upd r71 11 ((r71 11) + (1 : Int32))))) else none)) else none)) else none))
def jnX11_number_23 (F : Nat) (r77 : Nat → Int32) (r71 : Nat → Int32) : Option ((Int32) × (Nat → Int32)) := (if (r71 14) ≤ 0 then (mj_it (mj_u2 (fun z0 z1 => bdX11_number_42 F r77 z0 z1)) F ((0 : Int32), (upd r71 12 (r71 11)))).bind (mj_u2 (fun x1_8 r71_8 => some (x1_8, r71_8))) else some ((0 : Int32), r71))
def fnX11_number (F : Nat) (r71 : Nat → Int32) (r77 : Nat → Int32) : Option ((Int32) × (Nat → Int32)) := (if (r71 14) = 0 then (fnX11_isDigit F r71 r77).bind (fun o10 => (if o10.1 = 0 then (fnX11_wrong F o10.2 (1 : Int32) (o10.2 11)).bind (fun o12 => jnX11_number_23 F r77 o12) else jnX11_number_23 F r77 o10.2)) else jnX11_number_23 F r77 r71)
set_option maxRecDepth 100000 in
set_option maxHeartbeats 4000000 in
theorem lpX11_number_42 {X : mj_XT} {l : Launch} {G : mj_GT} {ad : Nat → Nat} {Qn : Option Value → mj_IT → mj_LT → Prop} (hR : mj_R X l G mj_P0 mj_S0 98 ad 0 0 Qn) (F : Nat) (I : mj_IT) (L : mj_LT) (r71 : Nat → Int32) (r77 : Nat → Int32) : ∀ (n : Nat) (s : ((Int32) × (Nat → Int32))) (e : ((Int32) × (Nat → Int32))), mj_it (mj_u2 (fun z0 z1 => bdX11_number_42 F r77 z0 z1)) n s = some e → (mj_u2 (fun x1 r71 => mj_W X G RX11 "number" cX11_number 2 3 (some .int) mj_P0 mj_S0 98 ad 0 0 117 [(1, .int x1)] [] (mj_rows I [(71, r71), (77, r77)]) L)) e → (mj_u2 (fun x1 r71 => mj_W X G RX11 "number" cX11_number 2 3 (some .int) mj_P0 mj_S0 98 ad 0 0 42 [(0, .ref 71), (1, .int x1)] [] (mj_rows I [(71, r71), (77, r77)]) L)) s := by
  refine mj_loop (fun s o hf hc hx => ?_)
  obtain ⟨x1, r71⟩ := s
  replace hf := mj_u2e hf
  refine mj_u2q ?_
  unfold bdX11_number_42 at hf
  refine mj_aload_n 0 dX11_number_42 rfl ?_
  refine mj_getIv (v := (r71 11)) rfl fl_X11_31 rfl s0_71 a0_71 dX11_number_43 ?_
  refine mj_aload_n 0 dX11_number_46 rfl ?_
  refine mj_getIv (v := (r71 10)) rfl fl_X11_34 rfl s0_71 a0_71 dX11_number_47 ?_
  refine mj_icmp_ge 117 dX11_number_50 (by decide) (fun c1 => ?_) (fun c1 => ?_)
  · replace hf := mj_pos c1 hf
    refine mj_sub [1] [(1, .int x1)] rfl ?_
    obtain rfl := Option.some.inj hf
    have hZ := hx (x1, r71) rfl
    replace hZ := mj_u2p hZ
    exact hZ
  · replace hf := mj_neg c1 hf
    refine mj_aload_n 0 dX11_number_53 rfl ?_
    refine mj_getP p0_71_8 (by decide) fl_X11_37 rfl s0_71 a0_71 dX11_number_54 ?_
    refine mj_aload_n 0 dX11_number_57 rfl ?_
    refine mj_getIv (v := (r71 11)) rfl fl_X11_31 rfl s0_71 a0_71 dX11_number_58 ?_
    obtain ⟨z2, hf⟩ := mj_ck hf
    refine mj_baldv (x := r77) rfl s0_77 a0_77 z2 dX11_number_61 ?_
    refine mj_bipush dX11_number_62 kc_bipush_48 ?_
    refine mj_icmp_lt 117 dX11_number_64 (by decide) (fun c3 => ?_) (fun c3 => ?_)
    · replace hf := mj_pos c3 hf
      refine mj_sub [1] [(1, .int x1)] rfl ?_
      obtain rfl := Option.some.inj hf
      have hZ := hx (x1, r71) rfl
      replace hZ := mj_u2p hZ
      exact hZ
    · replace hf := mj_neg c3 hf
      refine mj_aload_n 0 dX11_number_67 rfl ?_
      refine mj_getP p0_71_8 (by decide) fl_X11_37 rfl s0_71 a0_71 dX11_number_68 ?_
      refine mj_aload_n 0 dX11_number_71 rfl ?_
      refine mj_getIv (v := (r71 11)) rfl fl_X11_31 rfl s0_71 a0_71 dX11_number_72 ?_
      obtain ⟨z4, hf⟩ := mj_ck hf
      refine mj_baldv (x := r77) rfl s0_77 a0_77 z4 dX11_number_75 ?_
      refine mj_bipush dX11_number_76 kc_bipush_57 ?_
      refine mj_icmp_gt 117 dX11_number_78 (by decide) (fun c5 => ?_) (fun c5 => ?_)
      · replace hf := mj_pos c5 hf
        refine mj_sub [1] [(1, .int x1)] rfl ?_
        obtain rfl := Option.some.inj hf
        have hZ := hx (x1, r71) rfl
        replace hZ := mj_u2p hZ
        exact hZ
      · replace hf := mj_neg c5 hf
        refine mj_bipush dX11_number_81 kc_bipush_10 ?_
        refine mj_iload_n 1 dX11_number_83 rfl ?_
        refine mj_imul dX11_number_84 ?_
        refine mj_aload_n 0 dX11_number_85 rfl ?_
        refine mj_getP p0_71_8 (by decide) fl_X11_37 rfl s0_71 a0_71 dX11_number_86 ?_
        refine mj_aload_n 0 dX11_number_89 rfl ?_
        refine mj_getIv (v := (r71 11)) rfl fl_X11_31 rfl s0_71 a0_71 dX11_number_90 ?_
        obtain ⟨z6, hf⟩ := mj_ck hf
        refine mj_baldv (x := r77) rfl s0_77 a0_77 z6 dX11_number_93 ?_
        refine mj_iadd dX11_number_94 ?_
        refine mj_bipush dX11_number_95 kc_bipush_48 ?_
        refine mj_isub dX11_number_97 ?_
        refine mj_ldc kk_X11_78 dX11_number_98 ?_
        refine mj_mmin mn_X11_79 (by decide) (Nat.le_of_ble_eq_true rfl) ⟨Nat.zero_le _, Nat.zero_le _⟩ dX11_number_100 ?_
        refine mj_istore_n [(1, .int (if (100000 : Int32) < ((((10 : Int32) * x1) + (r77 ((r71 11).toNatClampNeg))) - (48 : Int32)) then (100000 : Int32) else ((((10 : Int32) * x1) + (r77 ((r71 11).toNatClampNeg))) - (48 : Int32)))), (0, .ref 71)] dX11_number_103 rfl (by decide) rfl ?_
        refine mj_aload_n 1 dX11_number_104 rfl ?_
        refine mj_dup dX11_number_105 rfl ?_
        refine mj_getIv (v := (r71 11)) rfl fl_X11_31 rfl s0_71 a0_71 dX11_number_106 ?_
        refine mj_iconst dX11_number_109 kc_iconst_1 ?_
        refine mj_iadd dX11_number_110 ?_
        refine mj_putIr (ci := 9) (j := 11) [(71, (upd r71 11 ((r71 11) + (1 : Int32)))), (77, r77)] rfl ⟨rfl, rfl⟩ fl_X11_31 rfl rfl s0_71 a0_71 dX11_number_111 ?_
        refine mj_goto 42 dX11_number_114 (by decide) ?_
        refine mj_sub [1, 0] [(0, .ref 71), (1, .int (if (100000 : Int32) < ((((10 : Int32) * x1) + (r77 ((r71 11).toNatClampNeg))) - (48 : Int32)) then (100000 : Int32) else ((((10 : Int32) * x1) + (r77 ((r71 11).toNatClampNeg))) - (48 : Int32))))] rfl ?_
        obtain rfl := Option.some.inj hf
        have hZ := hc ((if (100000 : Int32) < ((((10 : Int32) * x1) + (r77 ((r71 11).toNatClampNeg))) - (48 : Int32)) then (100000 : Int32) else ((((10 : Int32) * x1) + (r77 ((r71 11).toNatClampNeg))) - (48 : Int32))), (upd r71 11 ((r71 11) + (1 : Int32)))) rfl
        replace hZ := mj_u2p hZ
        exact hZ
set_option maxRecDepth 100000 in
set_option maxHeartbeats 4000000 in
theorem jtX11_number_23 {X : mj_XT} {l : Launch} {G : mj_GT} {ad : Nat → Nat} {Qn : Option Value → mj_IT → mj_LT → Prop} (hR : mj_R X l G mj_P0 mj_S0 98 ad 0 0 Qn) (F : Nat) (I : mj_IT) (L : mj_LT) (r71 : Nat → Int32) (r77 : Nat → Int32) (o : ((Int32) × (Nat → Int32))) (hf : jnX11_number_23 F r77 r71 = some o) (hq : (mj_u2 (fun ov r71 => Qn (some (.int ov)) (mj_rows I [(71, r71), (77, r77)]) L)) o) : mj_W X G RX11 "number" cX11_number 2 3 (some .int) mj_P0 mj_S0 98 ad 0 0 23 [(0, .ref 71)] [] (mj_rows I [(71, r71), (77, r77)]) L := by
  unfold jnX11_number_23 at hf
  refine mj_aload_n 0 dX11_number_23 rfl ?_
  refine mj_getIv (v := (r71 14)) rfl fl_X11_25 rfl s0_71 a0_71 dX11_number_24 ?_
  refine mj_if_le 32 dX11_number_27 (by decide) (fun c7 => ?_) (fun c7 => ?_)
  · replace hf := mj_pos c7 hf
    refine mj_aload_n 0 dX11_number_32 rfl ?_
    refine mj_aload_n 0 dX11_number_33 rfl ?_
    refine mj_getIv (v := (r71 11)) rfl fl_X11_31 rfl s0_71 a0_71 dX11_number_34 ?_
    refine mj_putIr (ci := 9) (j := 12) [(71, (upd r71 12 (r71 11))), (77, r77)] rfl ⟨rfl, rfl⟩ fl_X11_75 rfl rfl s0_71 a0_71 dX11_number_37 ?_
    refine mj_iconst dX11_number_40 kc_iconst_0 ?_
    refine mj_istore_n [(1, .int (0 : Int32)), (0, .ref 71)] dX11_number_41 rfl (by decide) rfl ?_
    refine mj_sub [1, 0] [(0, .ref 71), (1, .int (0 : Int32))] rfl ?_
    obtain ⟨e8, ho8, hf⟩ := mj_bd hf
    refine lpX11_number_42 hR F I L (upd r71 12 (r71 11)) r77 F ((0 : Int32), (upd r71 12 (r71 11))) e8 ho8 ?_
    obtain ⟨x1_8, r71_8⟩ := e8
    replace hf := mj_u2e hf
    refine ?_
    refine mj_u2q ?_
    refine mj_iload_n 0 dX11_number_117 rfl ?_
    obtain rfl := Option.some.inj hf
    have hZ := hq
    replace hZ := mj_u2p hZ
    exact mj_iret hR ⟨Nat.le_refl _, Nat.le_refl _⟩ rfl rfl dX11_number_118 hZ
  · replace hf := mj_neg c7 hf
    refine mj_iconst dX11_number_30 kc_iconst_0 ?_
    obtain rfl := Option.some.inj hf
    have hZ := hq
    replace hZ := mj_u2p hZ
    exact mj_iret hR ⟨Nat.le_refl _, Nat.le_refl _⟩ rfl rfl dX11_number_31 hZ
set_option maxRecDepth 100000 in
set_option maxHeartbeats 4000000 in
theorem mtX11_number {X : mj_XT} {l : Launch} {G : mj_GT} {ad : Nat → Nat} {Qn : Option Value → mj_IT → mj_LT → Prop} (hR : mj_R X l G mj_P0 mj_S0 98 ad 0 0 Qn) (F : Nat) (I : mj_IT) (L : mj_LT) (r71 : Nat → Int32) (r77 : Nat → Int32) (o : ((Int32) × (Nat → Int32))) (hf : fnX11_number F r71 r77 = some o) (hq : (mj_u2 (fun ov r71 => Qn (some (.int ov)) (mj_rows I [(71, r71), (77, r77)]) L)) o) : mj_W X G RX11 "number" cX11_number 2 3 (some .int) mj_P0 mj_S0 98 ad 0 0 0 [(0, .ref 71)] [] (mj_rows I [(71, r71), (77, r77)]) L := by
  unfold fnX11_number at hf
  refine mj_aload_n 0 dX11_number_0 rfl ?_
  refine mj_getIv (v := (r71 14)) rfl fl_X11_25 rfl s0_71 a0_71 dX11_number_1 ?_
  refine mj_if_ne 23 dX11_number_4 (by decide) (fun c9 => ?_) (fun c9 => ?_)
  · replace hf := mj_neg c9 hf
    exact jtX11_number_23 hR F I L r71 r77 o hf hq
  · replace hf := mj_pos c9 hf
    refine mj_aload_n 0 dX11_number_7 rfl ?_
    obtain ⟨o10, ho10, hf⟩ := mj_bd hf
    refine mj_callVd (I2 := (mj_rows I [(71, o10.2), (77, r77)])) (L2 := L) (s1 := [.int o10.1]) (st := []) [] (cmX11_isDigit X.2.1 G F  _ _ r71 r77 rfl rfl o10 ho10) (mj_rr rfl) rfl cw_X11_72 s0_71 a0_71 (by decide) rfl rfl (Nat.le_of_ble_eq_true rfl) ⟨Nat.zero_le _, Nat.zero_le _⟩ dX11_number_8 rfl ?_
    refine mj_if_ne 23 dX11_number_11 (by decide) (fun c11 => ?_) (fun c11 => ?_)
    · replace hf := mj_neg c11 hf
      exact jtX11_number_23 hR F I L o10.2 r77 o hf hq
    · replace hf := mj_pos c11 hf
      refine mj_aload_n 0 dX11_number_14 rfl ?_
      refine mj_iconst dX11_number_15 kc_iconst_1 ?_
      refine mj_aload_n 0 dX11_number_16 rfl ?_
      refine mj_getIv (v := (o10.2 11)) rfl fl_X11_31 rfl s0_71 a0_71 dX11_number_17 ?_
      obtain ⟨o12, ho12, hf⟩ := mj_bd hf
      refine mj_callVd (I2 := (mj_rows I [(71, o12), (77, r77)])) (L2 := L) (s1 := []) (st := []) [.int (1 : Int32), .int (o10.2 11)] (cmX11_wrong X.2.1 G F (1 : Int32) (o10.2 11) _ _ o10.2 rfl o12 ho12) (mj_rr rfl) rfl cw_X11_64 s0_71 a0_71 (by decide) rfl rfl (Nat.le_of_ble_eq_true rfl) ⟨Nat.zero_le _, Nat.zero_le _⟩ dX11_number_20 rfl ?_
      exact jtX11_number_23 hR F I L o12 r77 o hf hq
set_option maxRecDepth 100000 in
set_option maxHeartbeats 4000000 in
theorem cmX11_number (l : Launch) (G : mj_GT) (F : Nat) (I : mj_IT) (L : mj_LT) (r71 : Nat → Int32) (r77 : Nat → Int32) (hr71 : I 71 = r71) (hr77 : I 77 = r77) (o : ((Int32) × (Nat → Int32))) (hf : fnX11_number F r71 r77 = some o) : mj_M l G yX11_number cX11_number 2 3 (some .int) 0 0 mj_P0 mj_S0 98 [.ref 71] I L (mj_qd (some (.int o.1)) (mj_rows I [(71, o.2), (77, r77)]) L) := by
  refine mj_in RX11 "number" [(0, .ref 71)] rfl rfl rfl (by decide) (Nat.le_of_ble_eq_true rfl) (fun X ad hR => ?_)
  refine mj_toI [(71, r71), (77, r77)] (by intro q hq; simp only [List.mem_cons, List.not_mem_nil, or_false] at hq; rcases hq with rfl | rfl <;> assumption) ?_
  refine mtX11_number hR F I L r71 r77 o hf ?_
  obtain ⟨w0, w1⟩ := o
  refine mj_u2q ?_
  exact ⟨rfl, rfl, rfl⟩

-- X11_numberTo
def fnX11_numberTo (F : Nat) (r71 : Nat → Int32) (r77 : Nat → Int32) (x1 : Int32) : Option ((Int32) × (Nat → Int32)) := (fnX11_number F r71 r77).bind (fun o1 => (if (o1.2 14) = 0 then (if o1.1 ≤ x1 then some (o1.1, o1.2) else (fnX11_wrong F o1.2 (2 : Int32) (o1.2 12)).bind (fun o4 => some (o1.1, o4))) else some (o1.1, o1.2)))
set_option maxRecDepth 100000 in
set_option maxHeartbeats 4000000 in
theorem mtX11_numberTo {X : mj_XT} {l : Launch} {G : mj_GT} {ad : Nat → Nat} {Qn : Option Value → mj_IT → mj_LT → Prop} (hR : mj_R X l G mj_P0 mj_S0 98 ad 0 0 Qn) (F : Nat) (I : mj_IT) (L : mj_LT) (r71 : Nat → Int32) (r77 : Nat → Int32) (x1 : Int32) (o : ((Int32) × (Nat → Int32))) (hf : fnX11_numberTo F r71 r77 x1 = some o) (hq : (mj_u2 (fun ov r71 => Qn (some (.int ov)) (mj_rows I [(71, r71), (77, r77)]) L)) o) : mj_W X G RX11 "numberTo" cX11_numberTo 3 4 (some .int) mj_P0 mj_S0 98 ad 0 0 0 [(0, .ref 71), (1, .int x1)] [] (mj_rows I [(71, r71), (77, r77)]) L := by
  unfold fnX11_numberTo at hf
  refine mj_aload_n 0 dX11_numberTo_0 rfl ?_
  obtain ⟨o1, ho1, hf⟩ := mj_bd hf
  refine mj_callVd (I2 := (mj_rows I [(71, o1.2), (77, r77)])) (L2 := L) (s1 := [.int o1.1]) (st := []) [] (cmX11_number X.2.1 G F  _ _ r71 r77 rfl rfl o1 ho1) (mj_rr rfl) rfl cw_X11_85 s0_71 a0_71 (by decide) rfl rfl (Nat.le_of_ble_eq_true rfl) ⟨Nat.zero_le _, Nat.zero_le _⟩ dX11_numberTo_1 rfl ?_
  refine mj_istore_n [(2, .int o1.1), (0, .ref 71), (1, .int x1)] dX11_numberTo_4 rfl (by decide) rfl ?_
  refine mj_aload_n 1 dX11_numberTo_5 rfl ?_
  refine mj_getIv (v := (o1.2 14)) rfl fl_X11_25 rfl s0_71 a0_71 dX11_numberTo_6 ?_
  refine mj_if_ne 26 dX11_numberTo_9 (by decide) (fun c2 => ?_) (fun c2 => ?_)
  · replace hf := mj_neg c2 hf
    refine mj_iload_n 0 dX11_numberTo_26 rfl ?_
    obtain rfl := Option.some.inj hf
    have hZ := hq
    replace hZ := mj_u2p hZ
    exact mj_iret hR ⟨Nat.le_refl _, Nat.le_refl _⟩ rfl rfl dX11_numberTo_27 hZ
  · replace hf := mj_pos c2 hf
    refine mj_iload_n 0 dX11_numberTo_12 rfl ?_
    refine mj_iload_n 2 dX11_numberTo_13 rfl ?_
    refine mj_icmp_le 26 dX11_numberTo_14 (by decide) (fun c3 => ?_) (fun c3 => ?_)
    · replace hf := mj_pos c3 hf
      refine mj_iload_n 0 dX11_numberTo_26 rfl ?_
      obtain rfl := Option.some.inj hf
      have hZ := hq
      replace hZ := mj_u2p hZ
      exact mj_iret hR ⟨Nat.le_refl _, Nat.le_refl _⟩ rfl rfl dX11_numberTo_27 hZ
    · replace hf := mj_neg c3 hf
      refine mj_aload_n 1 dX11_numberTo_17 rfl ?_
      refine mj_iconst dX11_numberTo_18 kc_iconst_2 ?_
      refine mj_aload_n 1 dX11_numberTo_19 rfl ?_
      refine mj_getIv (v := (o1.2 12)) rfl fl_X11_75 rfl s0_71 a0_71 dX11_numberTo_20 ?_
      obtain ⟨o4, ho4, hf⟩ := mj_bd hf
      refine mj_callVd (I2 := (mj_rows I [(71, o4), (77, r77)])) (L2 := L) (s1 := []) (st := []) [.int (2 : Int32), .int (o1.2 12)] (cmX11_wrong X.2.1 G F (2 : Int32) (o1.2 12) _ _ o1.2 rfl o4 ho4) (mj_rr rfl) rfl cw_X11_64 s0_71 a0_71 (by decide) rfl rfl (Nat.le_of_ble_eq_true rfl) ⟨Nat.zero_le _, Nat.zero_le _⟩ dX11_numberTo_23 rfl ?_
      refine mj_iload_n 0 dX11_numberTo_26 rfl ?_
      obtain rfl := Option.some.inj hf
      have hZ := hq
      replace hZ := mj_u2p hZ
      exact mj_iret hR ⟨Nat.le_refl _, Nat.le_refl _⟩ rfl rfl dX11_numberTo_27 hZ
set_option maxRecDepth 100000 in
set_option maxHeartbeats 4000000 in
theorem cmX11_numberTo (l : Launch) (G : mj_GT) (F : Nat) (x1 : Int32) (I : mj_IT) (L : mj_LT) (r71 : Nat → Int32) (r77 : Nat → Int32) (hr71 : I 71 = r71) (hr77 : I 77 = r77) (o : ((Int32) × (Nat → Int32))) (hf : fnX11_numberTo F r71 r77 x1 = some o) : mj_M l G yX11_numberTo cX11_numberTo 3 4 (some .int) 0 0 mj_P0 mj_S0 98 [.ref 71, .int x1] I L (mj_qd (some (.int o.1)) (mj_rows I [(71, o.2), (77, r77)]) L) := by
  refine mj_in RX11 "numberTo" [(0, .ref 71), (1, .int x1)] rfl rfl rfl (by decide) (Nat.le_of_ble_eq_true rfl) (fun X ad hR => ?_)
  refine mj_toI [(71, r71), (77, r77)] (by intro q hq; simp only [List.mem_cons, List.not_mem_nil, or_false] at hq; rcases hq with rfl | rfl <;> assumption) ?_
  refine mtX11_numberTo hR F I L r71 r77 x1 o hf ?_
  obtain ⟨w0, w1⟩ := o
  refine mj_u2q ?_
  exact ⟨rfl, rfl, rfl⟩

-- X11_term
def fnX11_term (F : Nat) (r71 : Nat → Int32) (r77 : Nat → Int32) : Option ((Int32) × (Nat → Int32)) := (fnX11_isDigit F r71 r77).bind (fun o1 => (if o1.1 = 0 then (fnX11_name F o1.2 r77).bind (fun o3 => some (o3.1, o3.2)) else (fnX11_numberTo F o1.2 r77 (9 : Int32)).bind (fun o4 => some ((o4.1 - (10 : Int32)), o4.2))))
set_option maxRecDepth 100000 in
set_option maxHeartbeats 4000000 in
theorem mtX11_term {X : mj_XT} {l : Launch} {G : mj_GT} {ad : Nat → Nat} {Qn : Option Value → mj_IT → mj_LT → Prop} (hR : mj_R X l G mj_P0 mj_S0 98 ad 0 0 Qn) (F : Nat) (I : mj_IT) (L : mj_LT) (r71 : Nat → Int32) (r77 : Nat → Int32) (o : ((Int32) × (Nat → Int32))) (hf : fnX11_term F r71 r77 = some o) (hq : (mj_u2 (fun ov r71 => Qn (some (.int ov)) (mj_rows I [(71, r71), (77, r77)]) L)) o) : mj_W X G RX11 "term" cX11_term 1 5 (some .int) mj_P0 mj_S0 98 ad 0 0 0 [(0, .ref 71)] [] (mj_rows I [(71, r71), (77, r77)]) L := by
  unfold fnX11_term at hf
  refine mj_aload_n 0 dX11_term_0 rfl ?_
  obtain ⟨o1, ho1, hf⟩ := mj_bd hf
  refine mj_callVd (I2 := (mj_rows I [(71, o1.2), (77, r77)])) (L2 := L) (s1 := [.int o1.1]) (st := []) [] (cmX11_isDigit X.2.1 G F  _ _ r71 r77 rfl rfl o1 ho1) (mj_rr rfl) rfl cw_X11_72 s0_71 a0_71 (by decide) rfl rfl (Nat.le_of_ble_eq_true rfl) ⟨Nat.zero_le _, Nat.zero_le _⟩ dX11_term_1 rfl ?_
  refine mj_if_eq 19 dX11_term_4 (by decide) (fun c2 => ?_) (fun c2 => ?_)
  · replace hf := mj_pos c2 hf
    refine mj_aload_n 0 dX11_term_19 rfl ?_
    obtain ⟨o3, ho3, hf⟩ := mj_bd hf
    refine mj_callVd (I2 := (mj_rows I [(71, o3.2), (77, r77)])) (L2 := L) (s1 := [.int o3.1]) (st := []) [] (cmX11_name X.2.1 G F  _ _ o1.2 r77 rfl rfl o3 ho3) (mj_rr rfl) rfl cw_X11_92 s0_71 a0_71 (by decide) rfl rfl (Nat.le_of_ble_eq_true rfl) ⟨Nat.zero_le _, Nat.zero_le _⟩ dX11_term_20 rfl ?_
    obtain rfl := Option.some.inj hf
    have hZ := hq
    replace hZ := mj_u2p hZ
    exact mj_iret hR ⟨Nat.le_refl _, Nat.le_refl _⟩ rfl rfl dX11_term_23 hZ
  · replace hf := mj_neg c2 hf
    refine mj_aload_n 0 dX11_term_7 rfl ?_
    refine mj_bipush dX11_term_8 kc_bipush_9 ?_
    obtain ⟨o4, ho4, hf⟩ := mj_bd hf
    refine mj_callVd (I2 := (mj_rows I [(71, o4.2), (77, r77)])) (L2 := L) (s1 := [.int o4.1]) (st := []) [.int (9 : Int32)] (cmX11_numberTo X.2.1 G F (9 : Int32) _ _ o1.2 r77 rfl rfl o4 ho4) (mj_rr rfl) rfl cw_X11_88 s0_71 a0_71 (by decide) rfl rfl (Nat.le_of_ble_eq_true rfl) ⟨Nat.zero_le _, Nat.zero_le _⟩ dX11_term_10 rfl ?_
    refine mj_bipush dX11_term_13 kc_bipush_10 ?_
    refine mj_isub dX11_term_15 ?_
    refine mj_goto 23 dX11_term_16 (by decide) ?_
    obtain rfl := Option.some.inj hf
    have hZ := hq
    replace hZ := mj_u2p hZ
    exact mj_iret hR ⟨Nat.le_refl _, Nat.le_refl _⟩ rfl rfl dX11_term_23 hZ
set_option maxRecDepth 100000 in
set_option maxHeartbeats 4000000 in
theorem cmX11_term (l : Launch) (G : mj_GT) (F : Nat) (I : mj_IT) (L : mj_LT) (r71 : Nat → Int32) (r77 : Nat → Int32) (hr71 : I 71 = r71) (hr77 : I 77 = r77) (o : ((Int32) × (Nat → Int32))) (hf : fnX11_term F r71 r77 = some o) : mj_M l G yX11_term cX11_term 1 5 (some .int) 0 0 mj_P0 mj_S0 98 [.ref 71] I L (mj_qd (some (.int o.1)) (mj_rows I [(71, o.2), (77, r77)]) L) := by
  refine mj_in RX11 "term" [(0, .ref 71)] rfl rfl rfl (by decide) (Nat.le_of_ble_eq_true rfl) (fun X ad hR => ?_)
  refine mj_toI [(71, r71), (77, r77)] (by intro q hq; simp only [List.mem_cons, List.not_mem_nil, or_false] at hq; rcases hq with rfl | rfl <;> assumption) ?_
  refine mtX11_term hR F I L r71 r77 o hf ?_
  obtain ⟨w0, w1⟩ := o
  refine mj_u2q ?_
  exact ⟨rfl, rfl, rfl⟩

-- X11_sum
def jnX11_sum_60 (F : Nat) (r77 : Nat → Int32) (x1 : Int32) (x2 : Int32) (x3 : Int32) (t1 : Int32) (t2 : Int32) (r71 : Nat → Int32) (r74 : Nat → Int32) : Option ((Nat → Int32) × (Nat → Int32)) := (if mj_ib t1 480 = true then (if x2 = 0 then (if x3 = 0 then (if mj_ib (x1 + (1 : Int32)) 480 = true then some (r71, (upd (upd r74 t1.toNatClampNeg t2) ((x1 + (1 : Int32)).toNatClampNeg) (-10 : Int32))) else none) else (fnX11_term F r71 r77).bind (fun o7 => (if mj_ib (x1 + (1 : Int32)) 480 = true then some (o7.2, (upd (upd r74 t1.toNatClampNeg t2) ((x1 + (1 : Int32)).toNatClampNeg) o7.1)) else none))) else (fnX11_term F r71 r77).bind (fun o3 => (if mj_ib (x1 + (1 : Int32)) 480 = true then some (o3.2, (upd (upd r74 t1.toNatClampNeg t2) ((x1 + (1 : Int32)).toNatClampNeg) o3.1)) else none))) else none)
def jnX11_sum_35 (F : Nat) (r77 : Nat → Int32) (x1 : Int32) (x2 : Int32) (t0 : Int32) (r71 : Nat → Int32) (r74 : Nat → Int32) : Option ((Nat → Int32) × (Nat → Int32)) := (if x2 = 0 then (if t0 = 0 then jnX11_sum_60 F r77 x1 x2 t0 (x1 + (2 : Int32)) (0 : Int32) r71 r74 else jnX11_sum_60 F r77 x1 x2 t0 (x1 + (2 : Int32)) (-1 : Int32) r71 r74) else jnX11_sum_60 F r77 x1 x2 t0 (x1 + (2 : Int32)) (1 : Int32) r71 r74)
def jnX11_sum_34 (F : Nat) (r77 : Nat → Int32) (x1 : Int32) (x2 : Int32) (r71 : Nat → Int32) (r74 : Nat → Int32) : Option ((Nat → Int32) × (Nat → Int32)) := jnX11_sum_35 F r77 x1 x2 (0 : Int32) r71 r74
def fnX11_sum (F : Nat) (r71 : Nat → Int32) (r74 : Nat → Int32) (r77 : Nat → Int32) (x1 : Int32) : Option ((Nat → Int32) × (Nat → Int32)) := (fnX11_term F r71 r77).bind (fun o11 => (if mj_ib x1 480 = true then (fnX11_takes F o11.2 r77 (43 : Int32)).bind (fun o13 => (if o13.1 = 0 then (fnX11_takes F o13.2 r77 (45 : Int32)).bind (fun o15 => (if o15.1 = 0 then jnX11_sum_34 F r77 x1 o13.1 o15.2 (upd r74 x1.toNatClampNeg o11.1) else jnX11_sum_35 F r77 x1 o13.1 (1 : Int32) o15.2 (upd r74 x1.toNatClampNeg o11.1))) else jnX11_sum_34 F r77 x1 o13.1 o13.2 (upd r74 x1.toNatClampNeg o11.1))) else none))
set_option maxRecDepth 100000 in
set_option maxHeartbeats 4000000 in
theorem jtX11_sum_60 {X : mj_XT} {l : Launch} {G : mj_GT} {ad : Nat → Nat} {Qn : Option Value → mj_IT → mj_LT → Prop} (hR : mj_R X l G mj_P0 mj_S0 98 ad 0 0 Qn) (F : Nat) (I : mj_IT) (L : mj_LT) (r71 : Nat → Int32) (r74 : Nat → Int32) (r77 : Nat → Int32) (x1 : Int32) (x2 : Int32) (x3 : Int32) (t1 : Int32) (t2 : Int32) (o : ((Nat → Int32) × (Nat → Int32))) (hf : jnX11_sum_60 F r77 x1 x2 x3 t1 t2 r71 r74 = some o) (hq : (mj_u2 (fun r71 r74 => Qn none (mj_rows I [(71, r71), (74, r74), (77, r77)]) L)) o) : mj_W X G RX11 "sum" cX11_sum 4 6 none mj_P0 mj_S0 98 ad 0 0 60 [(0, .ref 71), (1, .int x1), (2, .int x2), (3, .int x3)] [.int t2, .int t1, .ref 74] (mj_rows I [(71, r71), (74, r74), (77, r77)]) L := by
  unfold jnX11_sum_60 at hf
  obtain ⟨z1, hf⟩ := mj_ck hf
  refine mj_iastr [(71, r71), (74, (upd r74 t1.toNatClampNeg t2)), (77, r77)] rfl s0_74 a0_74 z1 dX11_sum_60 ?_
  refine mj_aload_n 0 dX11_sum_61 rfl ?_
  refine mj_getP p0_71_3 (by decide) fl_X11_95 rfl s0_71 a0_71 dX11_sum_62 ?_
  refine mj_iload_n 1 dX11_sum_65 rfl ?_
  refine mj_iconst dX11_sum_66 kc_iconst_1 ?_
  refine mj_iadd dX11_sum_67 ?_
  refine mj_iload_n 2 dX11_sum_68 rfl ?_
  refine mj_if_ne 76 dX11_sum_69 (by decide) (fun c2 => ?_) (fun c2 => ?_)
  · replace hf := mj_neg c2 hf
    refine mj_aload_n 0 dX11_sum_76 rfl ?_
    obtain ⟨o3, ho3, hf⟩ := mj_bd hf
    refine mj_callVd (I2 := (mj_rows I [(71, o3.2), (74, (upd r74 t1.toNatClampNeg t2)), (77, r77)])) (L2 := L) (s1 := [.int o3.1, .int (x1 + (1 : Int32)), .ref 74]) (st := [.int (x1 + (1 : Int32)), .ref 74]) [] (cmX11_term X.2.1 G F  _ _ r71 r77 rfl rfl o3 ho3) (mj_rr rfl) rfl cw_X11_98 s0_71 a0_71 (by decide) rfl rfl (Nat.le_of_ble_eq_true rfl) ⟨Nat.zero_le _, Nat.zero_le _⟩ dX11_sum_77 rfl ?_
    refine mj_goto 85 dX11_sum_80 (by decide) ?_
    obtain ⟨z4, hf⟩ := mj_ck hf
    refine mj_iastr [(71, o3.2), (74, (upd (upd r74 t1.toNatClampNeg t2) ((x1 + (1 : Int32)).toNatClampNeg) o3.1)), (77, r77)] rfl s0_74 a0_74 z4 dX11_sum_85 ?_
    obtain rfl := Option.some.inj hf
    have hZ := hq
    replace hZ := mj_u2p hZ
    exact mj_vret hR ⟨Nat.le_refl _, Nat.le_refl _⟩ rfl dX11_sum_86 hZ
  · replace hf := mj_pos c2 hf
    refine mj_iload_n 3 dX11_sum_72 rfl ?_
    refine mj_if_eq 83 dX11_sum_73 (by decide) (fun c5 => ?_) (fun c5 => ?_)
    · replace hf := mj_pos c5 hf
      refine mj_bipush dX11_sum_83 kc_bipush_m10 ?_
      obtain ⟨z6, hf⟩ := mj_ck hf
      refine mj_iastr [(71, r71), (74, (upd (upd r74 t1.toNatClampNeg t2) ((x1 + (1 : Int32)).toNatClampNeg) (-10 : Int32))), (77, r77)] rfl s0_74 a0_74 z6 dX11_sum_85 ?_
      obtain rfl := Option.some.inj hf
      have hZ := hq
      replace hZ := mj_u2p hZ
      exact mj_vret hR ⟨Nat.le_refl _, Nat.le_refl _⟩ rfl dX11_sum_86 hZ
    · replace hf := mj_neg c5 hf
      refine mj_aload_n 0 dX11_sum_76 rfl ?_
      obtain ⟨o7, ho7, hf⟩ := mj_bd hf
      refine mj_callVd (I2 := (mj_rows I [(71, o7.2), (74, (upd r74 t1.toNatClampNeg t2)), (77, r77)])) (L2 := L) (s1 := [.int o7.1, .int (x1 + (1 : Int32)), .ref 74]) (st := [.int (x1 + (1 : Int32)), .ref 74]) [] (cmX11_term X.2.1 G F  _ _ r71 r77 rfl rfl o7 ho7) (mj_rr rfl) rfl cw_X11_98 s0_71 a0_71 (by decide) rfl rfl (Nat.le_of_ble_eq_true rfl) ⟨Nat.zero_le _, Nat.zero_le _⟩ dX11_sum_77 rfl ?_
      refine mj_goto 85 dX11_sum_80 (by decide) ?_
      obtain ⟨z8, hf⟩ := mj_ck hf
      refine mj_iastr [(71, o7.2), (74, (upd (upd r74 t1.toNatClampNeg t2) ((x1 + (1 : Int32)).toNatClampNeg) o7.1)), (77, r77)] rfl s0_74 a0_74 z8 dX11_sum_85 ?_
      obtain rfl := Option.some.inj hf
      have hZ := hq
      replace hZ := mj_u2p hZ
      exact mj_vret hR ⟨Nat.le_refl _, Nat.le_refl _⟩ rfl dX11_sum_86 hZ
set_option maxRecDepth 100000 in
set_option maxHeartbeats 4000000 in
theorem jtX11_sum_35 {X : mj_XT} {l : Launch} {G : mj_GT} {ad : Nat → Nat} {Qn : Option Value → mj_IT → mj_LT → Prop} (hR : mj_R X l G mj_P0 mj_S0 98 ad 0 0 Qn) (F : Nat) (I : mj_IT) (L : mj_LT) (r71 : Nat → Int32) (r74 : Nat → Int32) (r77 : Nat → Int32) (x1 : Int32) (x2 : Int32) (t0 : Int32) (o : ((Nat → Int32) × (Nat → Int32))) (hf : jnX11_sum_35 F r77 x1 x2 t0 r71 r74 = some o) (hq : (mj_u2 (fun r71 r74 => Qn none (mj_rows I [(71, r71), (74, r74), (77, r77)]) L)) o) : mj_W X G RX11 "sum" cX11_sum 4 6 none mj_P0 mj_S0 98 ad 0 0 35 [(0, .ref 71), (1, .int x1), (2, .int x2)] [.int t0] (mj_rows I [(71, r71), (74, r74), (77, r77)]) L := by
  unfold jnX11_sum_35 at hf
  refine mj_istore_n [(3, .int t0), (0, .ref 71), (1, .int x1), (2, .int x2)] dX11_sum_35 rfl (by decide) rfl ?_
  refine mj_aload_n 1 dX11_sum_36 rfl ?_
  refine mj_getP p0_71_3 (by decide) fl_X11_95 rfl s0_71 a0_71 dX11_sum_37 ?_
  refine mj_iload_n 2 dX11_sum_40 rfl ?_
  refine mj_iconst dX11_sum_41 kc_iconst_2 ?_
  refine mj_iadd dX11_sum_42 ?_
  refine mj_iload_n 3 dX11_sum_43 rfl ?_
  refine mj_if_eq 51 dX11_sum_44 (by decide) (fun c9 => ?_) (fun c9 => ?_)
  · replace hf := mj_pos c9 hf
    refine mj_iload_n 0 dX11_sum_51 rfl ?_
    refine mj_if_eq 59 dX11_sum_52 (by decide) (fun c10 => ?_) (fun c10 => ?_)
    · replace hf := mj_pos c10 hf
      refine mj_iconst dX11_sum_59 kc_iconst_0 ?_
      refine mj_sub [1, 2, 3, 0] [(0, .ref 71), (1, .int x1), (2, .int x2), (3, .int t0)] rfl ?_
      exact jtX11_sum_60 hR F I L r71 r74 r77 x1 x2 t0 (x1 + (2 : Int32)) (0 : Int32) o hf hq
    · replace hf := mj_neg c10 hf
      refine mj_iconst dX11_sum_55 kc_iconst_m1 ?_
      refine mj_goto 60 dX11_sum_56 (by decide) ?_
      refine mj_sub [1, 2, 3, 0] [(0, .ref 71), (1, .int x1), (2, .int x2), (3, .int t0)] rfl ?_
      exact jtX11_sum_60 hR F I L r71 r74 r77 x1 x2 t0 (x1 + (2 : Int32)) (-1 : Int32) o hf hq
  · replace hf := mj_neg c9 hf
    refine mj_iconst dX11_sum_47 kc_iconst_1 ?_
    refine mj_goto 60 dX11_sum_48 (by decide) ?_
    refine mj_sub [1, 2, 3, 0] [(0, .ref 71), (1, .int x1), (2, .int x2), (3, .int t0)] rfl ?_
    exact jtX11_sum_60 hR F I L r71 r74 r77 x1 x2 t0 (x1 + (2 : Int32)) (1 : Int32) o hf hq
set_option maxRecDepth 100000 in
set_option maxHeartbeats 4000000 in
theorem jtX11_sum_34 {X : mj_XT} {l : Launch} {G : mj_GT} {ad : Nat → Nat} {Qn : Option Value → mj_IT → mj_LT → Prop} (hR : mj_R X l G mj_P0 mj_S0 98 ad 0 0 Qn) (F : Nat) (I : mj_IT) (L : mj_LT) (r71 : Nat → Int32) (r74 : Nat → Int32) (r77 : Nat → Int32) (x1 : Int32) (x2 : Int32) (o : ((Nat → Int32) × (Nat → Int32))) (hf : jnX11_sum_34 F r77 x1 x2 r71 r74 = some o) (hq : (mj_u2 (fun r71 r74 => Qn none (mj_rows I [(71, r71), (74, r74), (77, r77)]) L)) o) : mj_W X G RX11 "sum" cX11_sum 4 6 none mj_P0 mj_S0 98 ad 0 0 34 [(0, .ref 71), (1, .int x1), (2, .int x2)] [] (mj_rows I [(71, r71), (74, r74), (77, r77)]) L := by
  unfold jnX11_sum_34 at hf
  refine mj_iconst dX11_sum_34 kc_iconst_0 ?_
  exact jtX11_sum_35 hR F I L r71 r74 r77 x1 x2 (0 : Int32) o hf hq
set_option maxRecDepth 100000 in
set_option maxHeartbeats 4000000 in
theorem mtX11_sum {X : mj_XT} {l : Launch} {G : mj_GT} {ad : Nat → Nat} {Qn : Option Value → mj_IT → mj_LT → Prop} (hR : mj_R X l G mj_P0 mj_S0 98 ad 0 0 Qn) (F : Nat) (I : mj_IT) (L : mj_LT) (r71 : Nat → Int32) (r74 : Nat → Int32) (r77 : Nat → Int32) (x1 : Int32) (o : ((Nat → Int32) × (Nat → Int32))) (hf : fnX11_sum F r71 r74 r77 x1 = some o) (hq : (mj_u2 (fun r71 r74 => Qn none (mj_rows I [(71, r71), (74, r74), (77, r77)]) L)) o) : mj_W X G RX11 "sum" cX11_sum 4 6 none mj_P0 mj_S0 98 ad 0 0 0 [(0, .ref 71), (1, .int x1)] [] (mj_rows I [(71, r71), (74, r74), (77, r77)]) L := by
  unfold fnX11_sum at hf
  refine mj_aload_n 0 dX11_sum_0 rfl ?_
  refine mj_getP p0_71_3 (by decide) fl_X11_95 rfl s0_71 a0_71 dX11_sum_1 ?_
  refine mj_iload_n 1 dX11_sum_4 rfl ?_
  refine mj_aload_n 0 dX11_sum_5 rfl ?_
  obtain ⟨o11, ho11, hf⟩ := mj_bd hf
  refine mj_callVd (I2 := (mj_rows I [(71, o11.2), (74, r74), (77, r77)])) (L2 := L) (s1 := [.int o11.1, .int x1, .ref 74]) (st := [.int x1, .ref 74]) [] (cmX11_term X.2.1 G F  _ _ r71 r77 rfl rfl o11 ho11) (mj_rr rfl) rfl cw_X11_98 s0_71 a0_71 (by decide) rfl rfl (Nat.le_of_ble_eq_true rfl) ⟨Nat.zero_le _, Nat.zero_le _⟩ dX11_sum_6 rfl ?_
  obtain ⟨z12, hf⟩ := mj_ck hf
  refine mj_iastr [(71, o11.2), (74, (upd r74 x1.toNatClampNeg o11.1)), (77, r77)] rfl s0_74 a0_74 z12 dX11_sum_9 ?_
  refine mj_aload_n 0 dX11_sum_10 rfl ?_
  refine mj_bipush dX11_sum_11 kc_bipush_43 ?_
  obtain ⟨o13, ho13, hf⟩ := mj_bd hf
  refine mj_callVd (I2 := (mj_rows I [(71, o13.2), (74, (upd r74 x1.toNatClampNeg o11.1)), (77, r77)])) (L2 := L) (s1 := [.int o13.1]) (st := []) [.int (43 : Int32)] (cmX11_takes X.2.1 G F (43 : Int32) _ _ o11.2 r77 rfl rfl o13 ho13) (mj_rr rfl) rfl cw_X11_61 s0_71 a0_71 (by decide) rfl rfl (Nat.le_of_ble_eq_true rfl) ⟨Nat.zero_le _, Nat.zero_le _⟩ dX11_sum_13 rfl ?_
  refine mj_istore_n [(2, .int o13.1), (0, .ref 71), (1, .int x1)] dX11_sum_16 rfl (by decide) rfl ?_
  refine mj_iload_n 0 dX11_sum_17 rfl ?_
  refine mj_if_ne 34 dX11_sum_18 (by decide) (fun c14 => ?_) (fun c14 => ?_)
  · replace hf := mj_neg c14 hf
    refine mj_sub [1, 2, 0] [(0, .ref 71), (1, .int x1), (2, .int o13.1)] rfl ?_
    exact jtX11_sum_34 hR F I L o13.2 (upd r74 x1.toNatClampNeg o11.1) r77 x1 o13.1 o hf hq
  · replace hf := mj_pos c14 hf
    refine mj_aload_n 1 dX11_sum_21 rfl ?_
    refine mj_bipush dX11_sum_22 kc_bipush_45 ?_
    obtain ⟨o15, ho15, hf⟩ := mj_bd hf
    refine mj_callVd (I2 := (mj_rows I [(71, o15.2), (74, (upd r74 x1.toNatClampNeg o11.1)), (77, r77)])) (L2 := L) (s1 := [.int o15.1]) (st := []) [.int (45 : Int32)] (cmX11_takes X.2.1 G F (45 : Int32) _ _ o13.2 r77 rfl rfl o15 ho15) (mj_rr rfl) rfl cw_X11_61 s0_71 a0_71 (by decide) rfl rfl (Nat.le_of_ble_eq_true rfl) ⟨Nat.zero_le _, Nat.zero_le _⟩ dX11_sum_24 rfl ?_
    refine mj_if_eq 34 dX11_sum_27 (by decide) (fun c16 => ?_) (fun c16 => ?_)
    · replace hf := mj_pos c16 hf
      refine mj_sub [1, 2, 0] [(0, .ref 71), (1, .int x1), (2, .int o13.1)] rfl ?_
      exact jtX11_sum_34 hR F I L o15.2 (upd r74 x1.toNatClampNeg o11.1) r77 x1 o13.1 o hf hq
    · replace hf := mj_neg c16 hf
      refine mj_iconst dX11_sum_30 kc_iconst_1 ?_
      refine mj_goto 35 dX11_sum_31 (by decide) ?_
      refine mj_sub [1, 2, 0] [(0, .ref 71), (1, .int x1), (2, .int o13.1)] rfl ?_
      exact jtX11_sum_35 hR F I L o15.2 (upd r74 x1.toNatClampNeg o11.1) r77 x1 o13.1 (1 : Int32) o hf hq
set_option maxRecDepth 100000 in
set_option maxHeartbeats 4000000 in
theorem cmX11_sum (l : Launch) (G : mj_GT) (F : Nat) (x1 : Int32) (I : mj_IT) (L : mj_LT) (r71 : Nat → Int32) (r74 : Nat → Int32) (r77 : Nat → Int32) (hr71 : I 71 = r71) (hr74 : I 74 = r74) (hr77 : I 77 = r77) (o : ((Nat → Int32) × (Nat → Int32))) (hf : fnX11_sum F r71 r74 r77 x1 = some o) : mj_M l G yX11_sum cX11_sum 4 6 none 0 0 mj_P0 mj_S0 98 [.ref 71, .int x1] I L (mj_qd none (mj_rows I [(71, o.1), (74, o.2), (77, r77)]) L) := by
  refine mj_in RX11 "sum" [(0, .ref 71), (1, .int x1)] rfl rfl rfl (by decide) (Nat.le_of_ble_eq_true rfl) (fun X ad hR => ?_)
  refine mj_toI [(71, r71), (74, r74), (77, r77)] (by intro q hq; simp only [List.mem_cons, List.not_mem_nil, or_false] at hq; rcases hq with rfl | rfl | rfl <;> assumption) ?_
  refine mtX11_sum hR F I L r71 r74 r77 x1 o hf ?_
  obtain ⟨w0, w1⟩ := o
  refine mj_u2q ?_
  exact ⟨rfl, rfl, rfl⟩

-- X11_test
def jnX11_test_64 (F : Nat) (r77 : Nat → Int32) (x1 : Int32) (x2 : Int32) (r71 : Nat → Int32) (r74 : Nat → Int32) : Option ((Nat → Int32) × (Nat → Int32)) := (if mj_ib (((12 : Int32) * x1) + (11 : Int32)) 480 = true then (fnX11_sum F (upd r71 11 ((r71 11) + (1 : Int32))) (upd r74 ((((12 : Int32) * x1) + (11 : Int32)).toNatClampNeg) x2) r77 (((12 : Int32) * x1) + (8 : Int32))).bind (fun o2 => some (o2.1, o2.2)) else none)
def jnX11_test_55 (F : Nat) (r77 : Nat → Int32) (x1 : Int32) (x2 : Int32) (r71 : Nat → Int32) (r74 : Nat → Int32) : Option ((Nat → Int32) × (Nat → Int32)) := (fnX11_wrong F r71 (1 : Int32) (r71 11)).bind (fun o3 => jnX11_test_64 F r77 x1 x2 o3 r74)
def jnX11_test_44 (F : Nat) (r77 : Nat → Int32) (x1 : Int32) (x2 : Int32) (r71 : Nat → Int32) (r74 : Nat → Int32) : Option ((Nat → Int32) × (Nat → Int32)) := (if (r71 11) < (r71 10) then jnX11_test_64 F r77 x1 x2 r71 r74 else jnX11_test_55 F r77 x1 x2 r71 r74)
def jnX11_test_25 (F : Nat) (r77 : Nat → Int32) (x1 : Int32) (t0 : Int32) (r71 : Nat → Int32) (r74 : Nat → Int32) : Option ((Nat → Int32) × (Nat → Int32)) := (if t0 = (61 : Int32) then jnX11_test_44 F r77 x1 t0 r71 r74 else (if t0 = (60 : Int32) then jnX11_test_44 F r77 x1 t0 r71 r74 else (if t0 = (35 : Int32) then jnX11_test_44 F r77 x1 t0 r71 r74 else jnX11_test_55 F r77 x1 t0 r71 r74)))
def fnX11_test (F : Nat) (r71 : Nat → Int32) (r74 : Nat → Int32) (r77 : Nat → Int32) (x1 : Int32) : Option ((Nat → Int32) × (Nat → Int32)) := (fnX11_sum F r71 r74 r77 (((12 : Int32) * x1) + (5 : Int32))).bind (fun o8 => (if (o8.1 14) = 0 then (fnX11_sign F o8.1 r77).bind (fun o10 => jnX11_test_25 F r77 x1 o10.1 o10.2 o8.2) else jnX11_test_25 F r77 x1 (0 : Int32) o8.1 o8.2))
set_option maxRecDepth 100000 in
set_option maxHeartbeats 4000000 in
theorem jtX11_test_64 {X : mj_XT} {l : Launch} {G : mj_GT} {ad : Nat → Nat} {Qn : Option Value → mj_IT → mj_LT → Prop} (hR : mj_R X l G mj_P0 mj_S0 98 ad 0 0 Qn) (F : Nat) (I : mj_IT) (L : mj_LT) (r71 : Nat → Int32) (r74 : Nat → Int32) (r77 : Nat → Int32) (x1 : Int32) (x2 : Int32) (o : ((Nat → Int32) × (Nat → Int32))) (hf : jnX11_test_64 F r77 x1 x2 r71 r74 = some o) (hq : (mj_u2 (fun r71 r74 => Qn none (mj_rows I [(71, r71), (74, r74), (77, r77)]) L)) o) : mj_W X G RX11 "test" cX11_test 3 7 none mj_P0 mj_S0 98 ad 0 0 64 [(0, .ref 71), (1, .int x1), (2, .int x2)] [] (mj_rows I [(71, r71), (74, r74), (77, r77)]) L := by
  unfold jnX11_test_64 at hf
  refine mj_aload_n 0 dX11_test_64 rfl ?_
  refine mj_getP p0_71_3 (by decide) fl_X11_95 rfl s0_71 a0_71 dX11_test_65 ?_
  refine mj_bipush dX11_test_68 kc_bipush_12 ?_
  refine mj_iload_n 1 dX11_test_70 rfl ?_
  refine mj_imul dX11_test_71 ?_
  refine mj_bipush dX11_test_72 kc_bipush_11 ?_
  refine mj_iadd dX11_test_74 ?_
  refine mj_iload_n 2 dX11_test_75 rfl ?_
  obtain ⟨z1, hf⟩ := mj_ck hf
  refine mj_iastr [(71, r71), (74, (upd r74 ((((12 : Int32) * x1) + (11 : Int32)).toNatClampNeg) x2)), (77, r77)] rfl s0_74 a0_74 z1 dX11_test_76 ?_
  refine mj_aload_n 0 dX11_test_77 rfl ?_
  refine mj_dup dX11_test_78 rfl ?_
  refine mj_getIv (v := (r71 11)) rfl fl_X11_31 rfl s0_71 a0_71 dX11_test_79 ?_
  refine mj_iconst dX11_test_82 kc_iconst_1 ?_
  refine mj_iadd dX11_test_83 ?_
  refine mj_putIr (ci := 9) (j := 11) [(71, (upd r71 11 ((r71 11) + (1 : Int32)))), (74, (upd r74 ((((12 : Int32) * x1) + (11 : Int32)).toNatClampNeg) x2)), (77, r77)] rfl ⟨rfl, rfl⟩ fl_X11_31 rfl rfl s0_71 a0_71 dX11_test_84 ?_
  refine mj_aload_n 0 dX11_test_87 rfl ?_
  refine mj_bipush dX11_test_88 kc_bipush_12 ?_
  refine mj_iload_n 1 dX11_test_90 rfl ?_
  refine mj_imul dX11_test_91 ?_
  refine mj_bipush dX11_test_92 kc_bipush_8 ?_
  refine mj_iadd dX11_test_94 ?_
  obtain ⟨o2, ho2, hf⟩ := mj_bd hf
  refine mj_callVd (I2 := (mj_rows I [(71, o2.1), (74, o2.2), (77, r77)])) (L2 := L) (s1 := []) (st := []) [.int (((12 : Int32) * x1) + (8 : Int32))] (cmX11_sum X.2.1 G F (((12 : Int32) * x1) + (8 : Int32)) _ _ (upd r71 11 ((r71 11) + (1 : Int32))) (upd r74 ((((12 : Int32) * x1) + (11 : Int32)).toNatClampNeg) x2) r77 rfl rfl rfl o2 ho2) (mj_rr rfl) rfl cw_X11_101 s0_71 a0_71 (by decide) rfl rfl (Nat.le_of_ble_eq_true rfl) ⟨Nat.zero_le _, Nat.zero_le _⟩ dX11_test_95 rfl ?_
  obtain rfl := Option.some.inj hf
  have hZ := hq
  replace hZ := mj_u2p hZ
  exact mj_vret hR ⟨Nat.le_refl _, Nat.le_refl _⟩ rfl dX11_test_98 hZ
set_option maxRecDepth 100000 in
set_option maxHeartbeats 4000000 in
theorem jtX11_test_55 {X : mj_XT} {l : Launch} {G : mj_GT} {ad : Nat → Nat} {Qn : Option Value → mj_IT → mj_LT → Prop} (hR : mj_R X l G mj_P0 mj_S0 98 ad 0 0 Qn) (F : Nat) (I : mj_IT) (L : mj_LT) (r71 : Nat → Int32) (r74 : Nat → Int32) (r77 : Nat → Int32) (x1 : Int32) (x2 : Int32) (o : ((Nat → Int32) × (Nat → Int32))) (hf : jnX11_test_55 F r77 x1 x2 r71 r74 = some o) (hq : (mj_u2 (fun r71 r74 => Qn none (mj_rows I [(71, r71), (74, r74), (77, r77)]) L)) o) : mj_W X G RX11 "test" cX11_test 3 7 none mj_P0 mj_S0 98 ad 0 0 55 [(0, .ref 71), (1, .int x1), (2, .int x2)] [] (mj_rows I [(71, r71), (74, r74), (77, r77)]) L := by
  unfold jnX11_test_55 at hf
  refine mj_aload_n 0 dX11_test_55 rfl ?_
  refine mj_iconst dX11_test_56 kc_iconst_1 ?_
  refine mj_aload_n 0 dX11_test_57 rfl ?_
  refine mj_getIv (v := (r71 11)) rfl fl_X11_31 rfl s0_71 a0_71 dX11_test_58 ?_
  obtain ⟨o3, ho3, hf⟩ := mj_bd hf
  refine mj_callVd (I2 := (mj_rows I [(71, o3), (74, r74), (77, r77)])) (L2 := L) (s1 := []) (st := []) [.int (1 : Int32), .int (r71 11)] (cmX11_wrong X.2.1 G F (1 : Int32) (r71 11) _ _ r71 rfl o3 ho3) (mj_rr rfl) rfl cw_X11_64 s0_71 a0_71 (by decide) rfl rfl (Nat.le_of_ble_eq_true rfl) ⟨Nat.zero_le _, Nat.zero_le _⟩ dX11_test_61 rfl ?_
  exact jtX11_test_64 hR F I L o3 r74 r77 x1 x2 o hf hq
set_option maxRecDepth 100000 in
set_option maxHeartbeats 4000000 in
theorem jtX11_test_44 {X : mj_XT} {l : Launch} {G : mj_GT} {ad : Nat → Nat} {Qn : Option Value → mj_IT → mj_LT → Prop} (hR : mj_R X l G mj_P0 mj_S0 98 ad 0 0 Qn) (F : Nat) (I : mj_IT) (L : mj_LT) (r71 : Nat → Int32) (r74 : Nat → Int32) (r77 : Nat → Int32) (x1 : Int32) (x2 : Int32) (o : ((Nat → Int32) × (Nat → Int32))) (hf : jnX11_test_44 F r77 x1 x2 r71 r74 = some o) (hq : (mj_u2 (fun r71 r74 => Qn none (mj_rows I [(71, r71), (74, r74), (77, r77)]) L)) o) : mj_W X G RX11 "test" cX11_test 3 7 none mj_P0 mj_S0 98 ad 0 0 44 [(0, .ref 71), (1, .int x1), (2, .int x2)] [] (mj_rows I [(71, r71), (74, r74), (77, r77)]) L := by
  unfold jnX11_test_44 at hf
  refine mj_aload_n 0 dX11_test_44 rfl ?_
  refine mj_getIv (v := (r71 11)) rfl fl_X11_31 rfl s0_71 a0_71 dX11_test_45 ?_
  refine mj_aload_n 0 dX11_test_48 rfl ?_
  refine mj_getIv (v := (r71 10)) rfl fl_X11_34 rfl s0_71 a0_71 dX11_test_49 ?_
  refine mj_icmp_lt 64 dX11_test_52 (by decide) (fun c4 => ?_) (fun c4 => ?_)
  · replace hf := mj_pos c4 hf
    exact jtX11_test_64 hR F I L r71 r74 r77 x1 x2 o hf hq
  · replace hf := mj_neg c4 hf
    exact jtX11_test_55 hR F I L r71 r74 r77 x1 x2 o hf hq
set_option maxRecDepth 100000 in
set_option maxHeartbeats 4000000 in
theorem jtX11_test_25 {X : mj_XT} {l : Launch} {G : mj_GT} {ad : Nat → Nat} {Qn : Option Value → mj_IT → mj_LT → Prop} (hR : mj_R X l G mj_P0 mj_S0 98 ad 0 0 Qn) (F : Nat) (I : mj_IT) (L : mj_LT) (r71 : Nat → Int32) (r74 : Nat → Int32) (r77 : Nat → Int32) (x1 : Int32) (t0 : Int32) (o : ((Nat → Int32) × (Nat → Int32))) (hf : jnX11_test_25 F r77 x1 t0 r71 r74 = some o) (hq : (mj_u2 (fun r71 r74 => Qn none (mj_rows I [(71, r71), (74, r74), (77, r77)]) L)) o) : mj_W X G RX11 "test" cX11_test 3 7 none mj_P0 mj_S0 98 ad 0 0 25 [(0, .ref 71), (1, .int x1)] [.int t0] (mj_rows I [(71, r71), (74, r74), (77, r77)]) L := by
  unfold jnX11_test_25 at hf
  refine mj_istore_n [(2, .int t0), (0, .ref 71), (1, .int x1)] dX11_test_25 rfl (by decide) rfl ?_
  refine mj_iload_n 0 dX11_test_26 rfl ?_
  refine mj_bipush dX11_test_27 kc_bipush_61 ?_
  refine mj_icmp_eq 44 dX11_test_29 (by decide) (fun c5 => ?_) (fun c5 => ?_)
  · replace hf := mj_pos c5 hf
    refine mj_sub [1, 2, 0] [(0, .ref 71), (1, .int x1), (2, .int t0)] rfl ?_
    exact jtX11_test_44 hR F I L r71 r74 r77 x1 t0 o hf hq
  · replace hf := mj_neg c5 hf
    refine mj_iload_n 0 dX11_test_32 rfl ?_
    refine mj_bipush dX11_test_33 kc_bipush_60 ?_
    refine mj_icmp_eq 44 dX11_test_35 (by decide) (fun c6 => ?_) (fun c6 => ?_)
    · replace hf := mj_pos c6 hf
      refine mj_sub [1, 2, 0] [(0, .ref 71), (1, .int x1), (2, .int t0)] rfl ?_
      exact jtX11_test_44 hR F I L r71 r74 r77 x1 t0 o hf hq
    · replace hf := mj_neg c6 hf
      refine mj_iload_n 0 dX11_test_38 rfl ?_
      refine mj_bipush dX11_test_39 kc_bipush_35 ?_
      refine mj_icmp_ne 55 dX11_test_41 (by decide) (fun c7 => ?_) (fun c7 => ?_)
      · replace hf := mj_neg c7 hf
        refine mj_sub [1, 2, 0] [(0, .ref 71), (1, .int x1), (2, .int t0)] rfl ?_
        exact jtX11_test_55 hR F I L r71 r74 r77 x1 t0 o hf hq
      · replace hf := mj_pos c7 hf
        refine mj_sub [1, 2, 0] [(0, .ref 71), (1, .int x1), (2, .int t0)] rfl ?_
        exact jtX11_test_44 hR F I L r71 r74 r77 x1 t0 o hf hq
set_option maxRecDepth 100000 in
set_option maxHeartbeats 4000000 in
theorem mtX11_test {X : mj_XT} {l : Launch} {G : mj_GT} {ad : Nat → Nat} {Qn : Option Value → mj_IT → mj_LT → Prop} (hR : mj_R X l G mj_P0 mj_S0 98 ad 0 0 Qn) (F : Nat) (I : mj_IT) (L : mj_LT) (r71 : Nat → Int32) (r74 : Nat → Int32) (r77 : Nat → Int32) (x1 : Int32) (o : ((Nat → Int32) × (Nat → Int32))) (hf : fnX11_test F r71 r74 r77 x1 = some o) (hq : (mj_u2 (fun r71 r74 => Qn none (mj_rows I [(71, r71), (74, r74), (77, r77)]) L)) o) : mj_W X G RX11 "test" cX11_test 3 7 none mj_P0 mj_S0 98 ad 0 0 0 [(0, .ref 71), (1, .int x1)] [] (mj_rows I [(71, r71), (74, r74), (77, r77)]) L := by
  unfold fnX11_test at hf
  refine mj_aload_n 0 dX11_test_0 rfl ?_
  refine mj_bipush dX11_test_1 kc_bipush_12 ?_
  refine mj_iload_n 1 dX11_test_3 rfl ?_
  refine mj_imul dX11_test_4 ?_
  refine mj_iconst dX11_test_5 kc_iconst_5 ?_
  refine mj_iadd dX11_test_6 ?_
  obtain ⟨o8, ho8, hf⟩ := mj_bd hf
  refine mj_callVd (I2 := (mj_rows I [(71, o8.1), (74, o8.2), (77, r77)])) (L2 := L) (s1 := []) (st := []) [.int (((12 : Int32) * x1) + (5 : Int32))] (cmX11_sum X.2.1 G F (((12 : Int32) * x1) + (5 : Int32)) _ _ r71 r74 r77 rfl rfl rfl o8 ho8) (mj_rr rfl) rfl cw_X11_101 s0_71 a0_71 (by decide) rfl rfl (Nat.le_of_ble_eq_true rfl) ⟨Nat.zero_le _, Nat.zero_le _⟩ dX11_test_7 rfl ?_
  refine mj_aload_n 0 dX11_test_10 rfl ?_
  refine mj_getIv (v := (o8.1 14)) rfl fl_X11_25 rfl s0_71 a0_71 dX11_test_11 ?_
  refine mj_if_ne 24 dX11_test_14 (by decide) (fun c9 => ?_) (fun c9 => ?_)
  · replace hf := mj_neg c9 hf
    refine mj_iconst dX11_test_24 kc_iconst_0 ?_
    exact jtX11_test_25 hR F I L o8.1 o8.2 r77 x1 (0 : Int32) o hf hq
  · replace hf := mj_pos c9 hf
    refine mj_aload_n 0 dX11_test_17 rfl ?_
    obtain ⟨o10, ho10, hf⟩ := mj_bd hf
    refine mj_callVd (I2 := (mj_rows I [(71, o10.2), (74, o8.2), (77, r77)])) (L2 := L) (s1 := [.int o10.1]) (st := []) [] (cmX11_sign X.2.1 G F  _ _ o8.1 r77 rfl rfl o10 ho10) (mj_rr rfl) rfl cw_X11_40 s0_71 a0_71 (by decide) rfl rfl (Nat.le_of_ble_eq_true rfl) ⟨Nat.zero_le _, Nat.zero_le _⟩ dX11_test_18 rfl ?_
    refine mj_goto 25 dX11_test_21 (by decide) ?_
    exact jtX11_test_25 hR F I L o10.2 o8.2 r77 x1 o10.1 o hf hq
set_option maxRecDepth 100000 in
set_option maxHeartbeats 4000000 in
theorem cmX11_test (l : Launch) (G : mj_GT) (F : Nat) (x1 : Int32) (I : mj_IT) (L : mj_LT) (r71 : Nat → Int32) (r74 : Nat → Int32) (r77 : Nat → Int32) (hr71 : I 71 = r71) (hr74 : I 74 = r74) (hr77 : I 77 = r77) (o : ((Nat → Int32) × (Nat → Int32))) (hf : fnX11_test F r71 r74 r77 x1 = some o) : mj_M l G yX11_test cX11_test 3 7 none 0 0 mj_P0 mj_S0 98 [.ref 71, .int x1] I L (mj_qd none (mj_rows I [(71, o.1), (74, o.2), (77, r77)]) L) := by
  refine mj_in RX11 "test" [(0, .ref 71), (1, .int x1)] rfl rfl rfl (by decide) (Nat.le_of_ble_eq_true rfl) (fun X ad hR => ?_)
  refine mj_toI [(71, r71), (74, r74), (77, r77)] (by intro q hq; simp only [List.mem_cons, List.not_mem_nil, or_false] at hq; rcases hq with rfl | rfl | rfl <;> assumption) ?_
  refine mtX11_test hR F I L r71 r74 r77 x1 o hf ?_
  obtain ⟨w0, w1⟩ := o
  refine mj_u2q ?_
  exact ⟨rfl, rfl, rfl⟩

-- X11_isChance
def fnX11_isChance (F : Nat) (x0 : Int32) : Option ((Int32)) := (if x0 < (2 : Int32) then (if x0 = (10 : Int32) then some (1 : Int32) else some (0 : Int32)) else (if x0 ≤ (6 : Int32) then some (1 : Int32) else (if x0 = (10 : Int32) then some (1 : Int32) else some (0 : Int32))))
set_option maxRecDepth 100000 in
set_option maxHeartbeats 4000000 in
theorem mtX11_isChance {X : mj_XT} {l : Launch} {G : mj_GT} {ad : Nat → Nat} {Qn : Option Value → mj_IT → mj_LT → Prop} (hR : mj_R X l G mj_P0 mj_S0 98 ad 0 0 Qn) (F : Nat) (I : mj_IT) (L : mj_LT) (x0 : Int32) (o : ((Int32))) (hf : fnX11_isChance F x0 = some o) (hq : (fun ov => Qn (some (.int ov)) I L) o) : mj_W X G RX11 "isChance" cX11_isChance 1 1 (some .boolean) mj_P0 mj_S0 98 ad 0 0 0 [(0, .int x0)] [] I L := by
  unfold fnX11_isChance at hf
  refine mj_iload_n 0 dX11_isChance_0 rfl ?_
  refine mj_iconst dX11_isChance_1 kc_iconst_2 ?_
  refine mj_icmp_lt 11 dX11_isChance_2 (by decide) (fun c1 => ?_) (fun c1 => ?_)
  · replace hf := mj_pos c1 hf
    refine mj_iload_n 0 dX11_isChance_11 rfl ?_
    refine mj_bipush dX11_isChance_12 kc_bipush_10 ?_
    refine mj_icmp_ne 21 dX11_isChance_14 (by decide) (fun c2 => ?_) (fun c2 => ?_)
    · replace hf := mj_neg c2 hf
      refine mj_iconst dX11_isChance_21 kc_iconst_0 ?_
      obtain rfl := Option.some.inj hf
      have hZ := hq
      exact mj_iret hR ⟨Nat.le_refl _, Nat.le_refl _⟩ rfl (by decide) dX11_isChance_22 hZ
    · replace hf := mj_pos c2 hf
      refine mj_iconst dX11_isChance_17 kc_iconst_1 ?_
      refine mj_goto 22 dX11_isChance_18 (by decide) ?_
      obtain rfl := Option.some.inj hf
      have hZ := hq
      exact mj_iret hR ⟨Nat.le_refl _, Nat.le_refl _⟩ rfl (by decide) dX11_isChance_22 hZ
  · replace hf := mj_neg c1 hf
    refine mj_iload_n 0 dX11_isChance_5 rfl ?_
    refine mj_bipush dX11_isChance_6 kc_bipush_6 ?_
    refine mj_icmp_le 17 dX11_isChance_8 (by decide) (fun c3 => ?_) (fun c3 => ?_)
    · replace hf := mj_pos c3 hf
      refine mj_iconst dX11_isChance_17 kc_iconst_1 ?_
      refine mj_goto 22 dX11_isChance_18 (by decide) ?_
      obtain rfl := Option.some.inj hf
      have hZ := hq
      exact mj_iret hR ⟨Nat.le_refl _, Nat.le_refl _⟩ rfl (by decide) dX11_isChance_22 hZ
    · replace hf := mj_neg c3 hf
      refine mj_iload_n 0 dX11_isChance_11 rfl ?_
      refine mj_bipush dX11_isChance_12 kc_bipush_10 ?_
      refine mj_icmp_ne 21 dX11_isChance_14 (by decide) (fun c4 => ?_) (fun c4 => ?_)
      · replace hf := mj_neg c4 hf
        refine mj_iconst dX11_isChance_21 kc_iconst_0 ?_
        obtain rfl := Option.some.inj hf
        have hZ := hq
        exact mj_iret hR ⟨Nat.le_refl _, Nat.le_refl _⟩ rfl (by decide) dX11_isChance_22 hZ
      · replace hf := mj_pos c4 hf
        refine mj_iconst dX11_isChance_17 kc_iconst_1 ?_
        refine mj_goto 22 dX11_isChance_18 (by decide) ?_
        obtain rfl := Option.some.inj hf
        have hZ := hq
        exact mj_iret hR ⟨Nat.le_refl _, Nat.le_refl _⟩ rfl (by decide) dX11_isChance_22 hZ
set_option maxRecDepth 100000 in
set_option maxHeartbeats 4000000 in
theorem cmX11_isChance (l : Launch) (G : mj_GT) (F : Nat) (x0 : Int32) (I : mj_IT) (L : mj_LT) (o : ((Int32))) (hf : fnX11_isChance F x0 = some o) : mj_M l G yX11_isChance cX11_isChance 1 1 (some .boolean) 0 0 mj_P0 mj_S0 98 [.int x0] I L (mj_qd (some (.int o)) I L) := by
  refine mj_in RX11 "isChance" [(0, .int x0)] rfl rfl rfl (by decide) (Nat.le_of_ble_eq_true rfl) (fun X ad hR => ?_)
  refine mtX11_isChance hR F I L x0 o hf ?_
  exact ⟨rfl, rfl, rfl⟩

-- X11_isHere_71_2001
def bdX11_isHere_71_2001_7 (F : Nat) (r71 : Nat → Int32) (r77 : Nat → Int32) (x2 : Int32) : Option (((Int32)) ⊕ (Unit ⊕ Unit)) := (if (4 : Int32) ≤ x2 then some (.inr (.inl ())) else (fnX11_isSmall F r71 r77 ((r71 11) + x2)).bind (fun o3 => (if o3 = 0 then some (.inr (.inr ())) else (if mj_ib ((r71 11) + x2) 400 = true then (if mj_ib x2 4 = true then (if (r77 (((r71 11) + x2).toNatClampNeg)) = (mj_ch 0 x2.toNatClampNeg) then some (.inl (x2 + (1))) else some (.inr (.inr ()))) else none) else none))))
def fnX11_isHere_71_2001 (F : Nat) (r71 : Nat → Int32) (r77 : Nat → Int32) : Option ((Int32) × (Nat → Int32)) := (fnX11_sign F r71 r77).bind (fun o8 => (mj_it (bdX11_isHere_71_2001_7 F o8.2 r77) F (0 : Int32)).bind (Sum.elim (fun _ => (fnX11_isSmall F o8.2 r77 ((o8.2 11) + (4 : Int32))).bind (fun o11 => (if o11 = 0 then some ((1 : Int32), o8.2) else some ((0 : Int32), o8.2)))) (fun _ => some ((0 : Int32), o8.2))))
set_option maxRecDepth 100000 in
set_option maxHeartbeats 4000000 in
theorem lpX11_isHere_71_2001_7 {X : mj_XT} {l : Launch} {G : mj_GT} {ad : Nat → Nat} {Qn : Option Value → mj_IT → mj_LT → Prop} (hR : mj_R X l G mj_P0 mj_S0 98 ad 0 0 Qn) (F : Nat) (I : mj_IT) (L : mj_LT) (r71 : Nat → Int32) (r77 : Nat → Int32) : ∀ (n : Nat) (s : ((Int32))) (e : (Unit ⊕ Unit)), mj_it (bdX11_isHere_71_2001_7 F r71 r77) n s = some e → (Sum.elim (fun _ => mj_W X G RX11 "isHere" cX11_isHere 3 5 (some .boolean) mj_P0 mj_S0 98 ad 0 0 55 [(0, .ref 71), (1, .ref 2001)] [] (mj_rows I [(71, r71), (77, r77)]) L) (fun _ => mj_W X G RX11 "isHere" cX11_isHere 3 5 (some .boolean) mj_P0 mj_S0 98 ad 0 0 47 [] [] (mj_rows I [(71, r71), (77, r77)]) L)) e → (fun x2 => mj_W X G RX11 "isHere" cX11_isHere 3 5 (some .boolean) mj_P0 mj_S0 98 ad 0 0 7 [(0, .ref 71), (1, .ref 2001), (2, .int x2)] [] (mj_rows I [(71, r71), (77, r77)]) L) s := by
  refine mj_loop (fun x2 o hf hc hx => ?_)
  unfold bdX11_isHere_71_2001_7 at hf
  refine mj_iload_n 2 dX11_isHere_7 rfl ?_
  refine mj_aload_n 1 dX11_isHere_8 rfl ?_
  refine mj_callVs (i := 0) (I2 := (mj_rows I [(71, r71), (77, r77)])) (L2 := L) (s1 := [.int (4 : Int32), .int x2]) (st := [.int x2]) [] (cmJ0_length X.2.1 G 0 2001 rfl (by decide) _ _) rfl rfl cw_X11_44 rfl (by decide) (by decide) rfl rfl (Nat.le_of_ble_eq_true rfl) ⟨Nat.zero_le _, Nat.zero_le _⟩ dX11_isHere_9 rfl ?_
  refine mj_icmp_ge 55 dX11_isHere_12 (by decide) (fun c2 => ?_) (fun c2 => ?_)
  · replace hf := mj_pos c2 hf
    refine mj_sub [0, 1] [(0, .ref 71), (1, .ref 2001)] rfl ?_
    obtain rfl := Option.some.inj hf
    have hZ := hx (.inl ()) rfl
    replace hZ := mj_el hZ
    exact hZ
  · replace hf := mj_neg c2 hf
    refine mj_aload_n 0 dX11_isHere_15 rfl ?_
    refine mj_aload_n 0 dX11_isHere_16 rfl ?_
    refine mj_getIv (v := (r71 11)) rfl fl_X11_31 rfl s0_71 a0_71 dX11_isHere_17 ?_
    refine mj_iload_n 2 dX11_isHere_20 rfl ?_
    refine mj_iadd dX11_isHere_21 ?_
    obtain ⟨o3, ho3, hf⟩ := mj_bd hf
    refine mj_callVd (I2 := (mj_rows I [(71, r71), (77, r77)])) (L2 := L) (s1 := [.int o3]) (st := []) [.int ((r71 11) + x2)] (cmX11_isSmall X.2.1 G F ((r71 11) + x2) _ _ r71 r77 rfl rfl o3 ho3) (mj_rr rfl) rfl cw_X11_49 s0_71 a0_71 (by decide) rfl rfl (Nat.le_of_ble_eq_true rfl) ⟨Nat.zero_le _, Nat.zero_le _⟩ dX11_isHere_22 rfl ?_
    refine mj_if_eq 47 dX11_isHere_25 (by decide) (fun c4 => ?_) (fun c4 => ?_)
    · replace hf := mj_pos c4 hf
      refine mj_sub [] [] rfl ?_
      obtain rfl := Option.some.inj hf
      have hZ := hx (.inr ()) rfl
      replace hZ := mj_er hZ
      exact hZ
    · replace hf := mj_neg c4 hf
      refine mj_aload_n 0 dX11_isHere_28 rfl ?_
      refine mj_getP p0_71_8 (by decide) fl_X11_37 rfl s0_71 a0_71 dX11_isHere_29 ?_
      refine mj_aload_n 0 dX11_isHere_32 rfl ?_
      refine mj_getIv (v := (r71 11)) rfl fl_X11_31 rfl s0_71 a0_71 dX11_isHere_33 ?_
      refine mj_iload_n 2 dX11_isHere_36 rfl ?_
      refine mj_iadd dX11_isHere_37 ?_
      obtain ⟨z5, hf⟩ := mj_ck hf
      refine mj_baldv (x := r77) rfl s0_77 a0_77 z5 dX11_isHere_38 ?_
      refine mj_aload_n 1 dX11_isHere_39 rfl ?_
      refine mj_iload_n 2 dX11_isHere_40 rfl ?_
      obtain ⟨z6, hf⟩ := mj_ck hf
      refine mj_callVs (i := 0) (I2 := (mj_rows I [(71, r71), (77, r77)])) (L2 := L) (s1 := [.int (mj_ch 0 x2.toNatClampNeg), .int (r77 (((r71 11) + x2).toNatClampNeg))]) (st := [.int (r77 (((r71 11) + x2).toNatClampNeg))]) [.int x2] (cmJ0_charAt X.2.1 G 0 2001 rfl (by decide) x2 _ _ z6) rfl rfl cw_X11_53 rfl (by decide) (by decide) rfl rfl (Nat.le_of_ble_eq_true rfl) ⟨Nat.zero_le _, Nat.zero_le _⟩ dX11_isHere_41 rfl ?_
      refine mj_icmp_eq 49 dX11_isHere_44 (by decide) (fun c7 => ?_) (fun c7 => ?_)
      · replace hf := mj_pos c7 hf
        refine mj_iinc 2 [(2, .int (x2 + (1))), (0, .ref 71), (1, .ref 2001)] dX11_isHere_49 rfl (kz_1 _) (by decide) rfl ?_
        refine mj_goto 7 dX11_isHere_52 (by decide) ?_
        refine mj_sub [1, 2, 0] [(0, .ref 71), (1, .ref 2001), (2, .int (x2 + (1)))] rfl ?_
        obtain rfl := Option.some.inj hf
        have hZ := hc (x2 + (1)) rfl
        exact hZ
      · replace hf := mj_neg c7 hf
        refine mj_sub [] [] rfl ?_
        obtain rfl := Option.some.inj hf
        have hZ := hx (.inr ()) rfl
        replace hZ := mj_er hZ
        exact hZ
set_option maxRecDepth 100000 in
set_option maxHeartbeats 4000000 in
theorem mtX11_isHere_71_2001 {X : mj_XT} {l : Launch} {G : mj_GT} {ad : Nat → Nat} {Qn : Option Value → mj_IT → mj_LT → Prop} (hR : mj_R X l G mj_P0 mj_S0 98 ad 0 0 Qn) (F : Nat) (I : mj_IT) (L : mj_LT) (r71 : Nat → Int32) (r77 : Nat → Int32) (o : ((Int32) × (Nat → Int32))) (hf : fnX11_isHere_71_2001 F r71 r77 = some o) (hq : (mj_u2 (fun ov r71 => Qn (some (.int ov)) (mj_rows I [(71, r71), (77, r77)]) L)) o) : mj_W X G RX11 "isHere" cX11_isHere 3 5 (some .boolean) mj_P0 mj_S0 98 ad 0 0 0 [(0, .ref 71), (1, .ref 2001)] [] (mj_rows I [(71, r71), (77, r77)]) L := by
  unfold fnX11_isHere_71_2001 at hf
  refine mj_aload_n 0 dX11_isHere_0 rfl ?_
  obtain ⟨o8, ho8, hf⟩ := mj_bd hf
  refine mj_callVd (I2 := (mj_rows I [(71, o8.2), (77, r77)])) (L2 := L) (s1 := [.int o8.1]) (st := []) [] (cmX11_sign X.2.1 G F  _ _ r71 r77 rfl rfl o8 ho8) (mj_rr rfl) rfl cw_X11_40 s0_71 a0_71 (by decide) rfl rfl (Nat.le_of_ble_eq_true rfl) ⟨Nat.zero_le _, Nat.zero_le _⟩ dX11_isHere_1 rfl ?_
  refine mj_pop dX11_isHere_4 rfl ?_
  refine mj_iconst dX11_isHere_5 kc_iconst_0 ?_
  refine mj_istore_n [(2, .int (0 : Int32)), (0, .ref 71), (1, .ref 2001)] dX11_isHere_6 rfl (by decide) rfl ?_
  refine mj_sub [1, 2, 0] [(0, .ref 71), (1, .ref 2001), (2, .int (0 : Int32))] rfl ?_
  obtain ⟨e9, ho9, hf⟩ := mj_bd hf
  refine lpX11_isHere_71_2001_7 hR F I L o8.2 r77 F (0 : Int32) e9 ho9 ?_
  rcases e9 with e9 | e9
  · replace hf := mj_ele hf
    refine mj_elq (?_)
    refine mj_aload_n 0 dX11_isHere_55 rfl ?_
    refine mj_aload_n 0 dX11_isHere_56 rfl ?_
    refine mj_getIv (v := (o8.2 11)) rfl fl_X11_31 rfl s0_71 a0_71 dX11_isHere_57 ?_
    refine mj_aload_n 1 dX11_isHere_60 rfl ?_
    refine mj_callVs (i := 0) (I2 := (mj_rows I [(71, o8.2), (77, r77)])) (L2 := L) (s1 := [.int (4 : Int32), .int (o8.2 11), .ref 71]) (st := [.int (o8.2 11), .ref 71]) [] (cmJ0_length X.2.1 G 0 2001 rfl (by decide) _ _) rfl rfl cw_X11_44 rfl (by decide) (by decide) rfl rfl (Nat.le_of_ble_eq_true rfl) ⟨Nat.zero_le _, Nat.zero_le _⟩ dX11_isHere_61 rfl ?_
    refine mj_iadd dX11_isHere_64 ?_
    obtain ⟨o11, ho11, hf⟩ := mj_bd hf
    refine mj_callVd (I2 := (mj_rows I [(71, o8.2), (77, r77)])) (L2 := L) (s1 := [.int o11]) (st := []) [.int ((o8.2 11) + (4 : Int32))] (cmX11_isSmall X.2.1 G F ((o8.2 11) + (4 : Int32)) _ _ o8.2 r77 rfl rfl o11 ho11) (mj_rr rfl) rfl cw_X11_49 s0_71 a0_71 (by decide) rfl rfl (Nat.le_of_ble_eq_true rfl) ⟨Nat.zero_le _, Nat.zero_le _⟩ dX11_isHere_65 rfl ?_
    refine mj_if_ne 75 dX11_isHere_68 (by decide) (fun c12 => ?_) (fun c12 => ?_)
    · replace hf := mj_neg c12 hf
      refine mj_iconst dX11_isHere_75 kc_iconst_0 ?_
      obtain rfl := Option.some.inj hf
      have hZ := hq
      replace hZ := mj_u2p hZ
      exact mj_iret hR ⟨Nat.le_refl _, Nat.le_refl _⟩ rfl (by decide) dX11_isHere_76 hZ
    · replace hf := mj_pos c12 hf
      refine mj_iconst dX11_isHere_71 kc_iconst_1 ?_
      refine mj_goto 76 dX11_isHere_72 (by decide) ?_
      obtain rfl := Option.some.inj hf
      have hZ := hq
      replace hZ := mj_u2p hZ
      exact mj_iret hR ⟨Nat.le_refl _, Nat.le_refl _⟩ rfl (by decide) dX11_isHere_76 hZ
  · replace hf := mj_ere hf
    refine mj_erq (?_)
    refine mj_iconst dX11_isHere_47 kc_iconst_0 ?_
    obtain rfl := Option.some.inj hf
    have hZ := hq
    replace hZ := mj_u2p hZ
    exact mj_iret hR ⟨Nat.le_refl _, Nat.le_refl _⟩ rfl (by decide) dX11_isHere_48 hZ
set_option maxRecDepth 100000 in
set_option maxHeartbeats 4000000 in
theorem cmX11_isHere_71_2001 (l : Launch) (G : mj_GT) (F : Nat) (I : mj_IT) (L : mj_LT) (r71 : Nat → Int32) (r77 : Nat → Int32) (hr71 : I 71 = r71) (hr77 : I 77 = r77) (o : ((Int32) × (Nat → Int32))) (hf : fnX11_isHere_71_2001 F r71 r77 = some o) : mj_M l G yX11_isHere cX11_isHere 3 5 (some .boolean) 0 0 mj_P0 mj_S0 98 [.ref 71, .ref 2001] I L (mj_qd (some (.int o.1)) (mj_rows I [(71, o.2), (77, r77)]) L) := by
  refine mj_in RX11 "isHere" [(0, .ref 71), (1, .ref 2001)] rfl rfl rfl (by decide) (Nat.le_of_ble_eq_true rfl) (fun X ad hR => ?_)
  refine mj_toI [(71, r71), (77, r77)] (by intro q hq; simp only [List.mem_cons, List.not_mem_nil, or_false] at hq; rcases hq with rfl | rfl <;> assumption) ?_
  refine mtX11_isHere_71_2001 hR F I L r71 r77 o hf ?_
  obtain ⟨w0, w1⟩ := o
  refine mj_u2q ?_
  exact ⟨rfl, rfl, rfl⟩

