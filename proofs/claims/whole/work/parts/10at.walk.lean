-- X11_rank
def bdX11_rank_4 (F : Nat) (r93 : Nat → Int32) (x1 : Int32) (x2 : Int32) (x3 : Int32) : Option (((Int32) × (Int32)) ⊕ ((Int32))) := (if x1 ≤ x3 then some (.inr x2) else (if mj_ib x3 200 = true then (if (r93 x3.toNatClampNeg) = x3 then some (.inl ((x2 + (1 : Int32)), (x3 + (1)))) else some (.inl ((x2 + (0 : Int32)), (x3 + (1))))) else none))
def fnX11_rank (F : Nat) (r93 : Nat → Int32) (x1 : Int32) : Option ((Int32)) := (mj_it (mj_u2 (fun z0 z1 => bdX11_rank_4 F r93 x1 z0 z1)) F ((0 : Int32), (0 : Int32))).bind (fun x2_4 => some x2_4)
set_option maxRecDepth 100000 in
set_option maxHeartbeats 4000000 in
theorem lpX11_rank_4 {X : mj_XT} {l : Launch} {G : mj_GT} {ad : Nat → Nat} {Qn : Option Value → mj_IT → mj_LT → Prop} (hR : mj_R X l G mj_P0 mj_S0 98 ad 0 0 Qn) (F : Nat) (I : mj_IT) (L : mj_LT) (r93 : Nat → Int32) (x1 : Int32) : ∀ (n : Nat) (s : ((Int32) × (Int32))) (e : ((Int32))), mj_it (mj_u2 (fun z0 z1 => bdX11_rank_4 F r93 x1 z0 z1)) n s = some e → (fun x2 => mj_W X G RX11 "rank" cX11_rank 4 1 (some .int) mj_P0 mj_S0 98 ad 0 0 33 [(2, .int x2)] [] (mj_rows I [(93, r93)]) L) e → (mj_u2 (fun x2 x3 => mj_W X G RX11 "rank" cX11_rank 4 1 (some .int) mj_P0 mj_S0 98 ad 0 0 4 [(0, .ref 71), (1, .int x1), (2, .int x2), (3, .int x3)] [] (mj_rows I [(93, r93)]) L)) s := by
  refine mj_loop (fun s o hf hc hx => ?_)
  obtain ⟨x2, x3⟩ := s
  replace hf := mj_u2e hf
  refine mj_u2q ?_
  unfold bdX11_rank_4 at hf
  refine mj_iload_n 3 dX11_rank_4 rfl ?_
  refine mj_iload_n 1 dX11_rank_5 rfl ?_
  refine mj_icmp_ge 33 dX11_rank_6 (by decide) (fun c1 => ?_) (fun c1 => ?_)
  · replace hf := mj_pos c1 hf
    refine mj_sub [2] [(2, .int x2)] rfl ?_
    obtain rfl := Option.some.inj hf
    have hZ := hx x2 rfl
    exact hZ
  · replace hf := mj_neg c1 hf
    refine mj_iload_n 2 dX11_rank_9 rfl ?_
    refine mj_aload_n 0 dX11_rank_10 rfl ?_
    refine mj_getP p0_71_41 (by decide) fl_X11_379 rfl s0_71 a0_71 dX11_rank_11 ?_
    refine mj_iload_n 3 dX11_rank_14 rfl ?_
    obtain ⟨z2, hf⟩ := mj_ck hf
    refine mj_ialdv (x := r93) rfl s0_93 a0_93 z2 dX11_rank_15 ?_
    refine mj_iload_n 3 dX11_rank_16 rfl ?_
    refine mj_icmp_ne 24 dX11_rank_17 (by decide) (fun c3 => ?_) (fun c3 => ?_)
    · replace hf := mj_neg c3 hf
      refine mj_iconst dX11_rank_24 kc_iconst_0 ?_
      refine mj_iadd dX11_rank_25 ?_
      refine mj_istore_n [(2, .int (x2 + (0 : Int32))), (0, .ref 71), (1, .int x1), (3, .int x3)] dX11_rank_26 rfl (by decide) rfl ?_
      refine mj_iinc 3 [(3, .int (x3 + (1))), (2, .int (x2 + (0 : Int32))), (0, .ref 71), (1, .int x1)] dX11_rank_27 rfl (kz_1 _) (by decide) rfl ?_
      refine mj_goto 4 dX11_rank_30 (by decide) ?_
      refine mj_sub [2, 3, 1, 0] [(0, .ref 71), (1, .int x1), (2, .int (x2 + (0 : Int32))), (3, .int (x3 + (1)))] rfl ?_
      obtain rfl := Option.some.inj hf
      have hZ := hc ((x2 + (0 : Int32)), (x3 + (1))) rfl
      replace hZ := mj_u2p hZ
      exact hZ
    · replace hf := mj_pos c3 hf
      refine mj_iconst dX11_rank_20 kc_iconst_1 ?_
      refine mj_goto 25 dX11_rank_21 (by decide) ?_
      refine mj_iadd dX11_rank_25 ?_
      refine mj_istore_n [(2, .int (x2 + (1 : Int32))), (0, .ref 71), (1, .int x1), (3, .int x3)] dX11_rank_26 rfl (by decide) rfl ?_
      refine mj_iinc 3 [(3, .int (x3 + (1))), (2, .int (x2 + (1 : Int32))), (0, .ref 71), (1, .int x1)] dX11_rank_27 rfl (kz_1 _) (by decide) rfl ?_
      refine mj_goto 4 dX11_rank_30 (by decide) ?_
      refine mj_sub [2, 3, 1, 0] [(0, .ref 71), (1, .int x1), (2, .int (x2 + (1 : Int32))), (3, .int (x3 + (1)))] rfl ?_
      obtain rfl := Option.some.inj hf
      have hZ := hc ((x2 + (1 : Int32)), (x3 + (1))) rfl
      replace hZ := mj_u2p hZ
      exact hZ
set_option maxRecDepth 100000 in
set_option maxHeartbeats 4000000 in
theorem mtX11_rank {X : mj_XT} {l : Launch} {G : mj_GT} {ad : Nat → Nat} {Qn : Option Value → mj_IT → mj_LT → Prop} (hR : mj_R X l G mj_P0 mj_S0 98 ad 0 0 Qn) (F : Nat) (I : mj_IT) (L : mj_LT) (r93 : Nat → Int32) (x1 : Int32) (o : ((Int32))) (hf : fnX11_rank F r93 x1 = some o) (hq : (fun ov => Qn (some (.int ov)) (mj_rows I [(93, r93)]) L) o) : mj_W X G RX11 "rank" cX11_rank 4 1 (some .int) mj_P0 mj_S0 98 ad 0 0 0 [(0, .ref 71), (1, .int x1)] [] (mj_rows I [(93, r93)]) L := by
  unfold fnX11_rank at hf
  refine mj_iconst dX11_rank_0 kc_iconst_0 ?_
  refine mj_istore_n [(2, .int (0 : Int32)), (0, .ref 71), (1, .int x1)] dX11_rank_1 rfl (by decide) rfl ?_
  refine mj_iconst dX11_rank_2 kc_iconst_0 ?_
  refine mj_istore_n [(3, .int (0 : Int32)), (2, .int (0 : Int32)), (0, .ref 71), (1, .int x1)] dX11_rank_3 rfl (by decide) rfl ?_
  refine mj_sub [2, 3, 1, 0] [(0, .ref 71), (1, .int x1), (2, .int (0 : Int32)), (3, .int (0 : Int32))] rfl ?_
  obtain ⟨x2_4, ho4, hf⟩ := mj_bd hf
  refine lpX11_rank_4 hR F I L r93 x1 F ((0 : Int32), (0 : Int32)) x2_4 ho4 ?_
  refine ?_
  refine mj_iload_n 0 dX11_rank_33 rfl ?_
  obtain rfl := Option.some.inj hf
  have hZ := hq
  exact mj_iret hR ⟨Nat.le_refl _, Nat.le_refl _⟩ rfl rfl dX11_rank_34 hZ
set_option maxRecDepth 100000 in
set_option maxHeartbeats 4000000 in
theorem cmX11_rank (l : Launch) (G : mj_GT) (F : Nat) (x1 : Int32) (I : mj_IT) (L : mj_LT) (r93 : Nat → Int32) (hr93 : I 93 = r93) (o : ((Int32))) (hf : fnX11_rank F r93 x1 = some o) : mj_M l G yX11_rank cX11_rank 4 1 (some .int) 0 0 mj_P0 mj_S0 98 [.ref 71, .int x1] I L (mj_qd (some (.int o)) (mj_rows I [(93, r93)]) L) := by
  refine mj_in RX11 "rank" [(0, .ref 71), (1, .int x1)] rfl rfl rfl (by decide) (Nat.le_of_ble_eq_true rfl) (fun X ad hR => ?_)
  refine mj_toI [(93, r93)] (by intro q hq; simp only [List.mem_cons, List.not_mem_nil, or_false] at hq; rcases hq with rfl <;> assumption) ?_
  refine mtX11_rank hR F I L r93 x1 o hf ?_
  exact ⟨rfl, rfl, rfl⟩

-- X11_classes
def fnX11_classes (F : Nat) (r71 : Nat → Int32) (r72 : Nat → Int32) (r73 : Nat → Int32) (r75 : Nat → Int32) (r80 : Nat → Int32) (r81 : Nat → Int32) (r82 : Nat → Int32) (r83 : Nat → Int32) (r84 : Nat → Int32) (r85 : Nat → Int32) (r86 : Nat → Int32) (r87 : Nat → Int32) (r93 : Nat → Int32) (r94 : Nat → Int32) (r95 : Nat → Int32) (x1 : Int32) : Option ((Int32) × (Nat → Int32) × (Nat → Int32) × (Nat → Int32) × (Nat → Int32) × (Nat → Int32) × (Nat → Int32) × (Nat → Int32) × (Nat → Int32) × (Nat → Int32) × (Nat → Int32) × (Nat → Int32) × (Nat → Int32)) := (fnX11_isFew F (upd r71 0 (0 : Int32)) r72 r73 r75 r80 r81 r82 r83 r84 r85 r86 r87).bind (fun o1 => (if o1.1 = 0 then some ((0 : Int32), o1.2.1, o1.2.2.1, o1.2.2.2.1, o1.2.2.2.2.1, o1.2.2.2.2.2.1, o1.2.2.2.2.2.2.1, o1.2.2.2.2.2.2.2.1, o1.2.2.2.2.2.2.2.2.1, o1.2.2.2.2.2.2.2.2.2, r93, r94, r95) else (fnX11_isName F x1).bind (fun o3 => (fnX11_isFine F o1.2.1 o1.2.2.1 o3 (2 : Int32) (0 : Int32)).bind (fun o4 => (if o4.1 = 0 then some ((0 : Int32), o4.2.1, o4.2.2, o1.2.2.2.1, o1.2.2.2.2.1, o1.2.2.2.2.2.1, o1.2.2.2.2.2.2.1, o1.2.2.2.2.2.2.2.1, o1.2.2.2.2.2.2.2.2.1, o1.2.2.2.2.2.2.2.2.2, r93, r94, r95) else (fnX11_parts F o4.2.1 o1.2.2.2.1 o1.2.2.2.2.1 o1.2.2.2.2.2.2.1 o1.2.2.2.2.2.2.2.1 o1.2.2.2.2.2.2.2.2.1 r87 r93 r94 r95 x1).bind (fun o6 => (fnX11_rank F o6.1 (o4.2.1 24)).bind (fun o7 => some (o7, o4.2.1, o4.2.2, o1.2.2.2.1, o1.2.2.2.2.1, o1.2.2.2.2.2.1, o1.2.2.2.2.2.2.1, o1.2.2.2.2.2.2.2.1, o1.2.2.2.2.2.2.2.2.1, o1.2.2.2.2.2.2.2.2.2, o6.1, o6.2.1, o6.2.2))))))))
set_option maxRecDepth 100000 in
set_option maxHeartbeats 4000000 in
theorem mtX11_classes {X : mj_XT} {l : Launch} {G : mj_GT} {ad : Nat → Nat} {Qn : Option Value → mj_IT → mj_LT → Prop} (hR : mj_R X l G mj_P0 mj_S0 98 ad 0 0 Qn) (F : Nat) (I : mj_IT) (L : mj_LT) (r71 : Nat → Int32) (r72 : Nat → Int32) (r73 : Nat → Int32) (r75 : Nat → Int32) (r80 : Nat → Int32) (r81 : Nat → Int32) (r82 : Nat → Int32) (r83 : Nat → Int32) (r84 : Nat → Int32) (r85 : Nat → Int32) (r86 : Nat → Int32) (r87 : Nat → Int32) (r93 : Nat → Int32) (r94 : Nat → Int32) (r95 : Nat → Int32) (x1 : Int32) (o : ((Int32) × (Nat → Int32) × (Nat → Int32) × (Nat → Int32) × (Nat → Int32) × (Nat → Int32) × (Nat → Int32) × (Nat → Int32) × (Nat → Int32) × (Nat → Int32) × (Nat → Int32) × (Nat → Int32) × (Nat → Int32))) (hf : fnX11_classes F r71 r72 r73 r75 r80 r81 r82 r83 r84 r85 r86 r87 r93 r94 r95 x1 = some o) (hq : (mj_u2 (fun ov => (mj_u2 (fun r71 => (mj_u2 (fun r72 => (mj_u2 (fun r80 => (mj_u2 (fun r81 => (mj_u2 (fun r82 => (mj_u2 (fun r83 => (mj_u2 (fun r84 => (mj_u2 (fun r85 => (mj_u2 (fun r86 => (mj_u2 (fun r93 => (mj_u2 (fun r94 r95 => Qn (some (.int ov)) (mj_rows I [(71, r71), (72, r72), (73, r73), (75, r75), (80, r80), (81, r81), (82, r82), (83, r83), (84, r84), (85, r85), (86, r86), (87, r87), (93, r93), (94, r94), (95, r95)]) L)))))))))))))))))))))))) o) : mj_W X G RX11 "classes" cX11_classes 2 8 (some .int) mj_P0 mj_S0 98 ad 0 0 0 [(0, .ref 71), (1, .int x1)] [] (mj_rows I [(71, r71), (72, r72), (73, r73), (75, r75), (80, r80), (81, r81), (82, r82), (83, r83), (84, r84), (85, r85), (86, r86), (87, r87), (93, r93), (94, r94), (95, r95)]) L := by
  unfold fnX11_classes at hf
  refine mj_aload_n 0 dX11_classes_0 rfl ?_
  refine mj_iconst dX11_classes_1 kc_iconst_0 ?_
  refine mj_putIr (ci := 9) (j := 0) [(71, (upd r71 0 (0 : Int32))), (72, r72), (73, r73), (75, r75), (80, r80), (81, r81), (82, r82), (83, r83), (84, r84), (85, r85), (86, r86), (87, r87), (93, r93), (94, r94), (95, r95)] rfl ⟨rfl, rfl⟩ fl_X11_1 rfl rfl s0_71 a0_71 dX11_classes_2 ?_
  refine mj_aload_n 0 dX11_classes_5 rfl ?_
  obtain ⟨o1, ho1, hf⟩ := mj_bd hf
  refine mj_callVd (I2 := (mj_rows I [(71, o1.2.1), (72, o1.2.2.1), (73, r73), (75, r75), (80, o1.2.2.2.1), (81, o1.2.2.2.2.1), (82, o1.2.2.2.2.2.1), (83, o1.2.2.2.2.2.2.1), (84, o1.2.2.2.2.2.2.2.1), (85, o1.2.2.2.2.2.2.2.2.1), (86, o1.2.2.2.2.2.2.2.2.2), (87, r87), (93, r93), (94, r94), (95, r95)])) (L2 := L) (s1 := [.int o1.1]) (st := []) [] (cmX11_isFew X.2.1 G F  _ _ (upd r71 0 (0 : Int32)) r72 r73 r75 r80 r81 r82 r83 r84 r85 r86 r87 rfl rfl rfl rfl rfl rfl rfl rfl rfl rfl rfl rfl o1 ho1) (mj_rr rfl) rfl cw_X11_335 s0_71 a0_71 (by decide) rfl rfl (Nat.le_of_ble_eq_true rfl) ⟨Nat.zero_le _, Nat.zero_le _⟩ dX11_classes_6 rfl ?_
  refine mj_if_eq 26 dX11_classes_9 (by decide) (fun c2 => ?_) (fun c2 => ?_)
  · replace hf := mj_pos c2 hf
    refine mj_iconst dX11_classes_26 kc_iconst_0 ?_
    obtain rfl := Option.some.inj hf
    have hZ := hq
    replace hZ := mj_u2p hZ
    replace hZ := mj_u2p hZ
    replace hZ := mj_u2p hZ
    replace hZ := mj_u2p hZ
    replace hZ := mj_u2p hZ
    replace hZ := mj_u2p hZ
    replace hZ := mj_u2p hZ
    replace hZ := mj_u2p hZ
    replace hZ := mj_u2p hZ
    replace hZ := mj_u2p hZ
    replace hZ := mj_u2p hZ
    replace hZ := mj_u2p hZ
    exact mj_iret hR ⟨Nat.le_refl _, Nat.le_refl _⟩ rfl rfl dX11_classes_27 hZ
  · replace hf := mj_neg c2 hf
    refine mj_aload_n 0 dX11_classes_12 rfl ?_
    refine mj_aload_n 0 dX11_classes_13 rfl ?_
    refine mj_iload_n 1 dX11_classes_14 rfl ?_
    obtain ⟨o3, ho3, hf⟩ := mj_bd hf
    refine mj_callVd (I2 := (mj_rows I [(71, o1.2.1), (72, o1.2.2.1), (73, r73), (75, r75), (80, o1.2.2.2.1), (81, o1.2.2.2.2.1), (82, o1.2.2.2.2.2.1), (83, o1.2.2.2.2.2.2.1), (84, o1.2.2.2.2.2.2.2.1), (85, o1.2.2.2.2.2.2.2.2.1), (86, o1.2.2.2.2.2.2.2.2.2), (87, r87), (93, r93), (94, r94), (95, r95)])) (L2 := L) (s1 := [.int o3, .ref 71]) (st := [.ref 71]) [.int x1] (cmX11_isName X.2.1 G F x1 _ _   o3 ho3) rfl rfl cw_X11_195 s0_71 a0_71 (by decide) rfl rfl (Nat.le_of_ble_eq_true rfl) ⟨Nat.zero_le _, Nat.zero_le _⟩ dX11_classes_15 rfl ?_
    refine mj_iconst dX11_classes_18 kc_iconst_2 ?_
    refine mj_iconst dX11_classes_19 kc_iconst_0 ?_
    obtain ⟨o4, ho4, hf⟩ := mj_bd hf
    refine mj_callVd (I2 := (mj_rows I [(71, o4.2.1), (72, o4.2.2), (73, r73), (75, r75), (80, o1.2.2.2.1), (81, o1.2.2.2.2.1), (82, o1.2.2.2.2.2.1), (83, o1.2.2.2.2.2.2.1), (84, o1.2.2.2.2.2.2.2.1), (85, o1.2.2.2.2.2.2.2.2.1), (86, o1.2.2.2.2.2.2.2.2.2), (87, r87), (93, r93), (94, r94), (95, r95)])) (L2 := L) (s1 := [.int o4.1]) (st := []) [.int o3, .int (2 : Int32), .int (0 : Int32)] (cmX11_isFine X.2.1 G F o3 (2 : Int32) (0 : Int32) _ _ o1.2.1 o1.2.2.1 rfl rfl o4 ho4) (mj_rr rfl) rfl cw_X11_161 s0_71 a0_71 (by decide) rfl rfl (Nat.le_of_ble_eq_true rfl) ⟨Nat.zero_le _, Nat.zero_le _⟩ dX11_classes_20 rfl ?_
    refine mj_if_ne 28 dX11_classes_23 (by decide) (fun c5 => ?_) (fun c5 => ?_)
    · replace hf := mj_neg c5 hf
      refine mj_aload_n 0 dX11_classes_28 rfl ?_
      refine mj_iload_n 1 dX11_classes_29 rfl ?_
      obtain ⟨o6, ho6, hf⟩ := mj_bd hf
      refine mj_callVd (I2 := (mj_rows I [(71, o4.2.1), (72, o4.2.2), (73, r73), (75, r75), (80, o1.2.2.2.1), (81, o1.2.2.2.2.1), (82, o1.2.2.2.2.2.1), (83, o1.2.2.2.2.2.2.1), (84, o1.2.2.2.2.2.2.2.1), (85, o1.2.2.2.2.2.2.2.2.1), (86, o1.2.2.2.2.2.2.2.2.2), (87, r87), (93, o6.1), (94, o6.2.1), (95, o6.2.2)])) (L2 := L) (s1 := []) (st := []) [.int x1] (cmX11_parts X.2.1 G F x1 _ _ o4.2.1 o1.2.2.2.1 o1.2.2.2.2.1 o1.2.2.2.2.2.2.1 o1.2.2.2.2.2.2.2.1 o1.2.2.2.2.2.2.2.2.1 r87 r93 r94 r95 rfl rfl rfl rfl rfl rfl rfl rfl rfl rfl o6 ho6) (mj_rr rfl) rfl cw_X11_395 s0_71 a0_71 (by decide) rfl rfl (Nat.le_of_ble_eq_true rfl) ⟨Nat.zero_le _, Nat.zero_le _⟩ dX11_classes_30 rfl ?_
      refine mj_aload_n 0 dX11_classes_33 rfl ?_
      refine mj_aload_n 0 dX11_classes_34 rfl ?_
      refine mj_getIv (v := (o4.2.1 24)) rfl fl_X11_227 rfl s0_71 a0_71 dX11_classes_35 ?_
      obtain ⟨o7, ho7, hf⟩ := mj_bd hf
      refine mj_callVd (I2 := (mj_rows I [(71, o4.2.1), (72, o4.2.2), (73, r73), (75, r75), (80, o1.2.2.2.1), (81, o1.2.2.2.2.1), (82, o1.2.2.2.2.2.1), (83, o1.2.2.2.2.2.2.1), (84, o1.2.2.2.2.2.2.2.1), (85, o1.2.2.2.2.2.2.2.2.1), (86, o1.2.2.2.2.2.2.2.2.2), (87, r87), (93, o6.1), (94, o6.2.1), (95, o6.2.2)])) (L2 := L) (s1 := [.int o7]) (st := []) [.int (o4.2.1 24)] (cmX11_rank X.2.1 G F (o4.2.1 24) _ _ o6.1 rfl o7 ho7) (mj_rr rfl) rfl cw_X11_398 s0_71 a0_71 (by decide) rfl rfl (Nat.le_of_ble_eq_true rfl) ⟨Nat.zero_le _, Nat.zero_le _⟩ dX11_classes_38 rfl ?_
      obtain rfl := Option.some.inj hf
      have hZ := hq
      replace hZ := mj_u2p hZ
      replace hZ := mj_u2p hZ
      replace hZ := mj_u2p hZ
      replace hZ := mj_u2p hZ
      replace hZ := mj_u2p hZ
      replace hZ := mj_u2p hZ
      replace hZ := mj_u2p hZ
      replace hZ := mj_u2p hZ
      replace hZ := mj_u2p hZ
      replace hZ := mj_u2p hZ
      replace hZ := mj_u2p hZ
      replace hZ := mj_u2p hZ
      exact mj_iret hR ⟨Nat.le_refl _, Nat.le_refl _⟩ rfl rfl dX11_classes_41 hZ
    · replace hf := mj_pos c5 hf
      refine mj_iconst dX11_classes_26 kc_iconst_0 ?_
      obtain rfl := Option.some.inj hf
      have hZ := hq
      replace hZ := mj_u2p hZ
      replace hZ := mj_u2p hZ
      replace hZ := mj_u2p hZ
      replace hZ := mj_u2p hZ
      replace hZ := mj_u2p hZ
      replace hZ := mj_u2p hZ
      replace hZ := mj_u2p hZ
      replace hZ := mj_u2p hZ
      replace hZ := mj_u2p hZ
      replace hZ := mj_u2p hZ
      replace hZ := mj_u2p hZ
      replace hZ := mj_u2p hZ
      exact mj_iret hR ⟨Nat.le_refl _, Nat.le_refl _⟩ rfl rfl dX11_classes_27 hZ
set_option maxRecDepth 100000 in
set_option maxHeartbeats 4000000 in
theorem cmX11_classes (l : Launch) (G : mj_GT) (F : Nat) (x1 : Int32) (I : mj_IT) (L : mj_LT) (r71 : Nat → Int32) (r72 : Nat → Int32) (r73 : Nat → Int32) (r75 : Nat → Int32) (r80 : Nat → Int32) (r81 : Nat → Int32) (r82 : Nat → Int32) (r83 : Nat → Int32) (r84 : Nat → Int32) (r85 : Nat → Int32) (r86 : Nat → Int32) (r87 : Nat → Int32) (r93 : Nat → Int32) (r94 : Nat → Int32) (r95 : Nat → Int32) (hr71 : I 71 = r71) (hr72 : I 72 = r72) (hr73 : I 73 = r73) (hr75 : I 75 = r75) (hr80 : I 80 = r80) (hr81 : I 81 = r81) (hr82 : I 82 = r82) (hr83 : I 83 = r83) (hr84 : I 84 = r84) (hr85 : I 85 = r85) (hr86 : I 86 = r86) (hr87 : I 87 = r87) (hr93 : I 93 = r93) (hr94 : I 94 = r94) (hr95 : I 95 = r95) (o : ((Int32) × (Nat → Int32) × (Nat → Int32) × (Nat → Int32) × (Nat → Int32) × (Nat → Int32) × (Nat → Int32) × (Nat → Int32) × (Nat → Int32) × (Nat → Int32) × (Nat → Int32) × (Nat → Int32) × (Nat → Int32))) (hf : fnX11_classes F r71 r72 r73 r75 r80 r81 r82 r83 r84 r85 r86 r87 r93 r94 r95 x1 = some o) : mj_M l G yX11_classes cX11_classes 2 8 (some .int) 0 0 mj_P0 mj_S0 98 [.ref 71, .int x1] I L (mj_qd (some (.int o.1)) (mj_rows I [(71, o.2.1), (72, o.2.2.1), (73, r73), (75, r75), (80, o.2.2.2.1), (81, o.2.2.2.2.1), (82, o.2.2.2.2.2.1), (83, o.2.2.2.2.2.2.1), (84, o.2.2.2.2.2.2.2.1), (85, o.2.2.2.2.2.2.2.2.1), (86, o.2.2.2.2.2.2.2.2.2.1), (87, r87), (93, o.2.2.2.2.2.2.2.2.2.2.1), (94, o.2.2.2.2.2.2.2.2.2.2.2.1), (95, o.2.2.2.2.2.2.2.2.2.2.2.2)]) L) := by
  refine mj_in RX11 "classes" [(0, .ref 71), (1, .int x1)] rfl rfl rfl (by decide) (Nat.le_of_ble_eq_true rfl) (fun X ad hR => ?_)
  refine mj_toI [(71, r71), (72, r72), (73, r73), (75, r75), (80, r80), (81, r81), (82, r82), (83, r83), (84, r84), (85, r85), (86, r86), (87, r87), (93, r93), (94, r94), (95, r95)] (by intro q hq; simp only [List.mem_cons, List.not_mem_nil, or_false] at hq; rcases hq with rfl | rfl | rfl | rfl | rfl | rfl | rfl | rfl | rfl | rfl | rfl | rfl | rfl | rfl | rfl <;> assumption) ?_
  refine mtX11_classes hR F I L r71 r72 r73 r75 r80 r81 r82 r83 r84 r85 r86 r87 r93 r94 r95 x1 o hf ?_
  obtain ⟨w0, w1, w2, w3, w4, w5, w6, w7, w8, w9, w10, w11, w12⟩ := o
  refine mj_u2q ?_
  refine mj_u2q ?_
  refine mj_u2q ?_
  refine mj_u2q ?_
  refine mj_u2q ?_
  refine mj_u2q ?_
  refine mj_u2q ?_
  refine mj_u2q ?_
  refine mj_u2q ?_
  refine mj_u2q ?_
  refine mj_u2q ?_
  refine mj_u2q ?_
  exact ⟨rfl, rfl, rfl⟩

-- X11_classOf
def jnX11_classOf_34 (F : Nat) (r73 : Nat → Int32) (r75 : Nat → Int32) (r87 : Nat → Int32) (x1 : Int32) (x2 : Int32) (t1 : Int32) (r71 : Nat → Int32) (r72 : Nat → Int32) (r80 : Nat → Int32) (r81 : Nat → Int32) (r82 : Nat → Int32) (r83 : Nat → Int32) (r84 : Nat → Int32) (r85 : Nat → Int32) (r86 : Nat → Int32) (r93 : Nat → Int32) (r94 : Nat → Int32) (r95 : Nat → Int32) : Option ((Int32) × (Nat → Int32) × (Nat → Int32) × (Nat → Int32) × (Nat → Int32) × (Nat → Int32) × (Nat → Int32) × (Nat → Int32) × (Nat → Int32) × (Nat → Int32) × (Nat → Int32) × (Nat → Int32) × (Nat → Int32)) := (fnX11_isFine F r71 r72 t1 (2 : Int32) (0 : Int32)).bind (fun o1 => (if o1.1 = 0 then some ((0 : Int32), o1.2.1, o1.2.2, r80, r81, r82, r83, r84, r85, r86, r93, r94, r95) else (fnX11_parts F o1.2.1 r80 r81 r83 r84 r85 r87 r93 r94 r95 x1).bind (fun o3 => (if mj_ib x2 200 = true then (fnX11_rank F o3.1 (o3.1 x2.toNatClampNeg)).bind (fun o5 => some (o5, o1.2.1, o1.2.2, r80, r81, r82, r83, r84, r85, r86, o3.1, o3.2.1, o3.2.2)) else none))))
def jnX11_classOf_33 (F : Nat) (r73 : Nat → Int32) (r75 : Nat → Int32) (r87 : Nat → Int32) (x1 : Int32) (x2 : Int32) (r71 : Nat → Int32) (r72 : Nat → Int32) (r80 : Nat → Int32) (r81 : Nat → Int32) (r82 : Nat → Int32) (r83 : Nat → Int32) (r84 : Nat → Int32) (r85 : Nat → Int32) (r86 : Nat → Int32) (r93 : Nat → Int32) (r94 : Nat → Int32) (r95 : Nat → Int32) : Option ((Int32) × (Nat → Int32) × (Nat → Int32) × (Nat → Int32) × (Nat → Int32) × (Nat → Int32) × (Nat → Int32) × (Nat → Int32) × (Nat → Int32) × (Nat → Int32) × (Nat → Int32) × (Nat → Int32) × (Nat → Int32)) := jnX11_classOf_34 F r73 r75 r87 x1 x2 (0 : Int32) r71 r72 r80 r81 r82 r83 r84 r85 r86 r93 r94 r95
def fnX11_classOf (F : Nat) (r71 : Nat → Int32) (r72 : Nat → Int32) (r73 : Nat → Int32) (r75 : Nat → Int32) (r80 : Nat → Int32) (r81 : Nat → Int32) (r82 : Nat → Int32) (r83 : Nat → Int32) (r84 : Nat → Int32) (r85 : Nat → Int32) (r86 : Nat → Int32) (r87 : Nat → Int32) (r93 : Nat → Int32) (r94 : Nat → Int32) (r95 : Nat → Int32) (x1 : Int32) (x2 : Int32) : Option ((Int32) × (Nat → Int32) × (Nat → Int32) × (Nat → Int32) × (Nat → Int32) × (Nat → Int32) × (Nat → Int32) × (Nat → Int32) × (Nat → Int32) × (Nat → Int32) × (Nat → Int32) × (Nat → Int32) × (Nat → Int32)) := (fnX11_isFew F (upd r71 0 (0 : Int32)) r72 r73 r75 r80 r81 r82 r83 r84 r85 r86 r87).bind (fun o6 => (if o6.1 = 0 then some ((0 : Int32), o6.2.1, o6.2.2.1, o6.2.2.2.1, o6.2.2.2.2.1, o6.2.2.2.2.2.1, o6.2.2.2.2.2.2.1, o6.2.2.2.2.2.2.2.1, o6.2.2.2.2.2.2.2.2.1, o6.2.2.2.2.2.2.2.2.2, r93, r94, r95) else (fnX11_isName F x1).bind (fun o8 => (if o8 = 0 then jnX11_classOf_33 F r73 r75 r87 x1 x2 o6.2.1 o6.2.2.1 o6.2.2.2.1 o6.2.2.2.2.1 o6.2.2.2.2.2.1 o6.2.2.2.2.2.2.1 o6.2.2.2.2.2.2.2.1 o6.2.2.2.2.2.2.2.2.1 o6.2.2.2.2.2.2.2.2.2 r93 r94 r95 else (fnX11_isState F o6.2.1 x2).bind (fun o10 => (if o10 = 0 then jnX11_classOf_33 F r73 r75 r87 x1 x2 o6.2.1 o6.2.2.1 o6.2.2.2.1 o6.2.2.2.2.1 o6.2.2.2.2.2.1 o6.2.2.2.2.2.2.1 o6.2.2.2.2.2.2.2.1 o6.2.2.2.2.2.2.2.2.1 o6.2.2.2.2.2.2.2.2.2 r93 r94 r95 else jnX11_classOf_34 F r73 r75 r87 x1 x2 (1 : Int32) o6.2.1 o6.2.2.1 o6.2.2.2.1 o6.2.2.2.2.1 o6.2.2.2.2.2.1 o6.2.2.2.2.2.2.1 o6.2.2.2.2.2.2.2.1 o6.2.2.2.2.2.2.2.2.1 o6.2.2.2.2.2.2.2.2.2 r93 r94 r95))))))
set_option maxRecDepth 100000 in
set_option maxHeartbeats 4000000 in
theorem jtX11_classOf_34 {X : mj_XT} {l : Launch} {G : mj_GT} {ad : Nat → Nat} {Qn : Option Value → mj_IT → mj_LT → Prop} (hR : mj_R X l G mj_P0 mj_S0 98 ad 0 0 Qn) (F : Nat) (I : mj_IT) (L : mj_LT) (r71 : Nat → Int32) (r72 : Nat → Int32) (r73 : Nat → Int32) (r75 : Nat → Int32) (r80 : Nat → Int32) (r81 : Nat → Int32) (r82 : Nat → Int32) (r83 : Nat → Int32) (r84 : Nat → Int32) (r85 : Nat → Int32) (r86 : Nat → Int32) (r87 : Nat → Int32) (r93 : Nat → Int32) (r94 : Nat → Int32) (r95 : Nat → Int32) (x1 : Int32) (x2 : Int32) (t1 : Int32) (o : ((Int32) × (Nat → Int32) × (Nat → Int32) × (Nat → Int32) × (Nat → Int32) × (Nat → Int32) × (Nat → Int32) × (Nat → Int32) × (Nat → Int32) × (Nat → Int32) × (Nat → Int32) × (Nat → Int32) × (Nat → Int32))) (hf : jnX11_classOf_34 F r73 r75 r87 x1 x2 t1 r71 r72 r80 r81 r82 r83 r84 r85 r86 r93 r94 r95 = some o) (hq : (mj_u2 (fun ov => (mj_u2 (fun r71 => (mj_u2 (fun r72 => (mj_u2 (fun r80 => (mj_u2 (fun r81 => (mj_u2 (fun r82 => (mj_u2 (fun r83 => (mj_u2 (fun r84 => (mj_u2 (fun r85 => (mj_u2 (fun r86 => (mj_u2 (fun r93 => (mj_u2 (fun r94 r95 => Qn (some (.int ov)) (mj_rows I [(71, r71), (72, r72), (73, r73), (75, r75), (80, r80), (81, r81), (82, r82), (83, r83), (84, r84), (85, r85), (86, r86), (87, r87), (93, r93), (94, r94), (95, r95)]) L)))))))))))))))))))))))) o) : mj_W X G RX11 "classOf" cX11_classOf 3 8 (some .int) mj_P0 mj_S0 98 ad 0 0 34 [(0, .ref 71), (1, .int x1), (2, .int x2)] [.int t1, .ref 71] (mj_rows I [(71, r71), (72, r72), (73, r73), (75, r75), (80, r80), (81, r81), (82, r82), (83, r83), (84, r84), (85, r85), (86, r86), (87, r87), (93, r93), (94, r94), (95, r95)]) L := by
  unfold jnX11_classOf_34 at hf
  refine mj_iconst dX11_classOf_34 kc_iconst_2 ?_
  refine mj_iconst dX11_classOf_35 kc_iconst_0 ?_
  obtain ⟨o1, ho1, hf⟩ := mj_bd hf
  refine mj_callVd (I2 := (mj_rows I [(71, o1.2.1), (72, o1.2.2), (73, r73), (75, r75), (80, r80), (81, r81), (82, r82), (83, r83), (84, r84), (85, r85), (86, r86), (87, r87), (93, r93), (94, r94), (95, r95)])) (L2 := L) (s1 := [.int o1.1]) (st := []) [.int t1, .int (2 : Int32), .int (0 : Int32)] (cmX11_isFine X.2.1 G F t1 (2 : Int32) (0 : Int32) _ _ r71 r72 rfl rfl o1 ho1) (mj_rr rfl) rfl cw_X11_161 s0_71 a0_71 (by decide) rfl rfl (Nat.le_of_ble_eq_true rfl) ⟨Nat.zero_le _, Nat.zero_le _⟩ dX11_classOf_36 rfl ?_
  refine mj_if_ne 44 dX11_classOf_39 (by decide) (fun c2 => ?_) (fun c2 => ?_)
  · replace hf := mj_neg c2 hf
    refine mj_aload_n 0 dX11_classOf_44 rfl ?_
    refine mj_iload_n 1 dX11_classOf_45 rfl ?_
    obtain ⟨o3, ho3, hf⟩ := mj_bd hf
    refine mj_callVd (I2 := (mj_rows I [(71, o1.2.1), (72, o1.2.2), (73, r73), (75, r75), (80, r80), (81, r81), (82, r82), (83, r83), (84, r84), (85, r85), (86, r86), (87, r87), (93, o3.1), (94, o3.2.1), (95, o3.2.2)])) (L2 := L) (s1 := []) (st := []) [.int x1] (cmX11_parts X.2.1 G F x1 _ _ o1.2.1 r80 r81 r83 r84 r85 r87 r93 r94 r95 rfl rfl rfl rfl rfl rfl rfl rfl rfl rfl o3 ho3) (mj_rr rfl) rfl cw_X11_395 s0_71 a0_71 (by decide) rfl rfl (Nat.le_of_ble_eq_true rfl) ⟨Nat.zero_le _, Nat.zero_le _⟩ dX11_classOf_46 rfl ?_
    refine mj_aload_n 0 dX11_classOf_49 rfl ?_
    refine mj_aload_n 0 dX11_classOf_50 rfl ?_
    refine mj_getP p0_71_41 (by decide) fl_X11_379 rfl s0_71 a0_71 dX11_classOf_51 ?_
    refine mj_iload_n 2 dX11_classOf_54 rfl ?_
    obtain ⟨z4, hf⟩ := mj_ck hf
    refine mj_ialdv (x := o3.1) rfl s0_93 a0_93 z4 dX11_classOf_55 ?_
    obtain ⟨o5, ho5, hf⟩ := mj_bd hf
    refine mj_callVd (I2 := (mj_rows I [(71, o1.2.1), (72, o1.2.2), (73, r73), (75, r75), (80, r80), (81, r81), (82, r82), (83, r83), (84, r84), (85, r85), (86, r86), (87, r87), (93, o3.1), (94, o3.2.1), (95, o3.2.2)])) (L2 := L) (s1 := [.int o5]) (st := []) [.int (o3.1 x2.toNatClampNeg)] (cmX11_rank X.2.1 G F (o3.1 x2.toNatClampNeg) _ _ o3.1 rfl o5 ho5) (mj_rr rfl) rfl cw_X11_398 s0_71 a0_71 (by decide) rfl rfl (Nat.le_of_ble_eq_true rfl) ⟨Nat.zero_le _, Nat.zero_le _⟩ dX11_classOf_56 rfl ?_
    obtain rfl := Option.some.inj hf
    have hZ := hq
    replace hZ := mj_u2p hZ
    replace hZ := mj_u2p hZ
    replace hZ := mj_u2p hZ
    replace hZ := mj_u2p hZ
    replace hZ := mj_u2p hZ
    replace hZ := mj_u2p hZ
    replace hZ := mj_u2p hZ
    replace hZ := mj_u2p hZ
    replace hZ := mj_u2p hZ
    replace hZ := mj_u2p hZ
    replace hZ := mj_u2p hZ
    replace hZ := mj_u2p hZ
    exact mj_iret hR ⟨Nat.le_refl _, Nat.le_refl _⟩ rfl rfl dX11_classOf_59 hZ
  · replace hf := mj_pos c2 hf
    refine mj_iconst dX11_classOf_42 kc_iconst_0 ?_
    obtain rfl := Option.some.inj hf
    have hZ := hq
    replace hZ := mj_u2p hZ
    replace hZ := mj_u2p hZ
    replace hZ := mj_u2p hZ
    replace hZ := mj_u2p hZ
    replace hZ := mj_u2p hZ
    replace hZ := mj_u2p hZ
    replace hZ := mj_u2p hZ
    replace hZ := mj_u2p hZ
    replace hZ := mj_u2p hZ
    replace hZ := mj_u2p hZ
    replace hZ := mj_u2p hZ
    replace hZ := mj_u2p hZ
    exact mj_iret hR ⟨Nat.le_refl _, Nat.le_refl _⟩ rfl rfl dX11_classOf_43 hZ
set_option maxRecDepth 100000 in
set_option maxHeartbeats 4000000 in
theorem jtX11_classOf_33 {X : mj_XT} {l : Launch} {G : mj_GT} {ad : Nat → Nat} {Qn : Option Value → mj_IT → mj_LT → Prop} (hR : mj_R X l G mj_P0 mj_S0 98 ad 0 0 Qn) (F : Nat) (I : mj_IT) (L : mj_LT) (r71 : Nat → Int32) (r72 : Nat → Int32) (r73 : Nat → Int32) (r75 : Nat → Int32) (r80 : Nat → Int32) (r81 : Nat → Int32) (r82 : Nat → Int32) (r83 : Nat → Int32) (r84 : Nat → Int32) (r85 : Nat → Int32) (r86 : Nat → Int32) (r87 : Nat → Int32) (r93 : Nat → Int32) (r94 : Nat → Int32) (r95 : Nat → Int32) (x1 : Int32) (x2 : Int32) (o : ((Int32) × (Nat → Int32) × (Nat → Int32) × (Nat → Int32) × (Nat → Int32) × (Nat → Int32) × (Nat → Int32) × (Nat → Int32) × (Nat → Int32) × (Nat → Int32) × (Nat → Int32) × (Nat → Int32) × (Nat → Int32))) (hf : jnX11_classOf_33 F r73 r75 r87 x1 x2 r71 r72 r80 r81 r82 r83 r84 r85 r86 r93 r94 r95 = some o) (hq : (mj_u2 (fun ov => (mj_u2 (fun r71 => (mj_u2 (fun r72 => (mj_u2 (fun r80 => (mj_u2 (fun r81 => (mj_u2 (fun r82 => (mj_u2 (fun r83 => (mj_u2 (fun r84 => (mj_u2 (fun r85 => (mj_u2 (fun r86 => (mj_u2 (fun r93 => (mj_u2 (fun r94 r95 => Qn (some (.int ov)) (mj_rows I [(71, r71), (72, r72), (73, r73), (75, r75), (80, r80), (81, r81), (82, r82), (83, r83), (84, r84), (85, r85), (86, r86), (87, r87), (93, r93), (94, r94), (95, r95)]) L)))))))))))))))))))))))) o) : mj_W X G RX11 "classOf" cX11_classOf 3 8 (some .int) mj_P0 mj_S0 98 ad 0 0 33 [(0, .ref 71), (1, .int x1), (2, .int x2)] [.ref 71] (mj_rows I [(71, r71), (72, r72), (73, r73), (75, r75), (80, r80), (81, r81), (82, r82), (83, r83), (84, r84), (85, r85), (86, r86), (87, r87), (93, r93), (94, r94), (95, r95)]) L := by
  unfold jnX11_classOf_33 at hf
  refine mj_iconst dX11_classOf_33 kc_iconst_0 ?_
  exact jtX11_classOf_34 hR F I L r71 r72 r73 r75 r80 r81 r82 r83 r84 r85 r86 r87 r93 r94 r95 x1 x2 (0 : Int32) o hf hq
set_option maxRecDepth 100000 in
set_option maxHeartbeats 4000000 in
theorem mtX11_classOf {X : mj_XT} {l : Launch} {G : mj_GT} {ad : Nat → Nat} {Qn : Option Value → mj_IT → mj_LT → Prop} (hR : mj_R X l G mj_P0 mj_S0 98 ad 0 0 Qn) (F : Nat) (I : mj_IT) (L : mj_LT) (r71 : Nat → Int32) (r72 : Nat → Int32) (r73 : Nat → Int32) (r75 : Nat → Int32) (r80 : Nat → Int32) (r81 : Nat → Int32) (r82 : Nat → Int32) (r83 : Nat → Int32) (r84 : Nat → Int32) (r85 : Nat → Int32) (r86 : Nat → Int32) (r87 : Nat → Int32) (r93 : Nat → Int32) (r94 : Nat → Int32) (r95 : Nat → Int32) (x1 : Int32) (x2 : Int32) (o : ((Int32) × (Nat → Int32) × (Nat → Int32) × (Nat → Int32) × (Nat → Int32) × (Nat → Int32) × (Nat → Int32) × (Nat → Int32) × (Nat → Int32) × (Nat → Int32) × (Nat → Int32) × (Nat → Int32) × (Nat → Int32))) (hf : fnX11_classOf F r71 r72 r73 r75 r80 r81 r82 r83 r84 r85 r86 r87 r93 r94 r95 x1 x2 = some o) (hq : (mj_u2 (fun ov => (mj_u2 (fun r71 => (mj_u2 (fun r72 => (mj_u2 (fun r80 => (mj_u2 (fun r81 => (mj_u2 (fun r82 => (mj_u2 (fun r83 => (mj_u2 (fun r84 => (mj_u2 (fun r85 => (mj_u2 (fun r86 => (mj_u2 (fun r93 => (mj_u2 (fun r94 r95 => Qn (some (.int ov)) (mj_rows I [(71, r71), (72, r72), (73, r73), (75, r75), (80, r80), (81, r81), (82, r82), (83, r83), (84, r84), (85, r85), (86, r86), (87, r87), (93, r93), (94, r94), (95, r95)]) L)))))))))))))))))))))))) o) : mj_W X G RX11 "classOf" cX11_classOf 3 8 (some .int) mj_P0 mj_S0 98 ad 0 0 0 [(0, .ref 71), (1, .int x1), (2, .int x2)] [] (mj_rows I [(71, r71), (72, r72), (73, r73), (75, r75), (80, r80), (81, r81), (82, r82), (83, r83), (84, r84), (85, r85), (86, r86), (87, r87), (93, r93), (94, r94), (95, r95)]) L := by
  unfold fnX11_classOf at hf
  refine mj_aload_n 0 dX11_classOf_0 rfl ?_
  refine mj_iconst dX11_classOf_1 kc_iconst_0 ?_
  refine mj_putIr (ci := 9) (j := 0) [(71, (upd r71 0 (0 : Int32))), (72, r72), (73, r73), (75, r75), (80, r80), (81, r81), (82, r82), (83, r83), (84, r84), (85, r85), (86, r86), (87, r87), (93, r93), (94, r94), (95, r95)] rfl ⟨rfl, rfl⟩ fl_X11_1 rfl rfl s0_71 a0_71 dX11_classOf_2 ?_
  refine mj_aload_n 0 dX11_classOf_5 rfl ?_
  obtain ⟨o6, ho6, hf⟩ := mj_bd hf
  refine mj_callVd (I2 := (mj_rows I [(71, o6.2.1), (72, o6.2.2.1), (73, r73), (75, r75), (80, o6.2.2.2.1), (81, o6.2.2.2.2.1), (82, o6.2.2.2.2.2.1), (83, o6.2.2.2.2.2.2.1), (84, o6.2.2.2.2.2.2.2.1), (85, o6.2.2.2.2.2.2.2.2.1), (86, o6.2.2.2.2.2.2.2.2.2), (87, r87), (93, r93), (94, r94), (95, r95)])) (L2 := L) (s1 := [.int o6.1]) (st := []) [] (cmX11_isFew X.2.1 G F  _ _ (upd r71 0 (0 : Int32)) r72 r73 r75 r80 r81 r82 r83 r84 r85 r86 r87 rfl rfl rfl rfl rfl rfl rfl rfl rfl rfl rfl rfl o6 ho6) (mj_rr rfl) rfl cw_X11_335 s0_71 a0_71 (by decide) rfl rfl (Nat.le_of_ble_eq_true rfl) ⟨Nat.zero_le _, Nat.zero_le _⟩ dX11_classOf_6 rfl ?_
  refine mj_if_eq 42 dX11_classOf_9 (by decide) (fun c7 => ?_) (fun c7 => ?_)
  · replace hf := mj_pos c7 hf
    refine mj_iconst dX11_classOf_42 kc_iconst_0 ?_
    obtain rfl := Option.some.inj hf
    have hZ := hq
    replace hZ := mj_u2p hZ
    replace hZ := mj_u2p hZ
    replace hZ := mj_u2p hZ
    replace hZ := mj_u2p hZ
    replace hZ := mj_u2p hZ
    replace hZ := mj_u2p hZ
    replace hZ := mj_u2p hZ
    replace hZ := mj_u2p hZ
    replace hZ := mj_u2p hZ
    replace hZ := mj_u2p hZ
    replace hZ := mj_u2p hZ
    replace hZ := mj_u2p hZ
    exact mj_iret hR ⟨Nat.le_refl _, Nat.le_refl _⟩ rfl rfl dX11_classOf_43 hZ
  · replace hf := mj_neg c7 hf
    refine mj_aload_n 0 dX11_classOf_12 rfl ?_
    refine mj_aload_n 0 dX11_classOf_13 rfl ?_
    refine mj_iload_n 1 dX11_classOf_14 rfl ?_
    obtain ⟨o8, ho8, hf⟩ := mj_bd hf
    refine mj_callVd (I2 := (mj_rows I [(71, o6.2.1), (72, o6.2.2.1), (73, r73), (75, r75), (80, o6.2.2.2.1), (81, o6.2.2.2.2.1), (82, o6.2.2.2.2.2.1), (83, o6.2.2.2.2.2.2.1), (84, o6.2.2.2.2.2.2.2.1), (85, o6.2.2.2.2.2.2.2.2.1), (86, o6.2.2.2.2.2.2.2.2.2), (87, r87), (93, r93), (94, r94), (95, r95)])) (L2 := L) (s1 := [.int o8, .ref 71]) (st := [.ref 71]) [.int x1] (cmX11_isName X.2.1 G F x1 _ _   o8 ho8) rfl rfl cw_X11_195 s0_71 a0_71 (by decide) rfl rfl (Nat.le_of_ble_eq_true rfl) ⟨Nat.zero_le _, Nat.zero_le _⟩ dX11_classOf_15 rfl ?_
    refine mj_if_eq 33 dX11_classOf_18 (by decide) (fun c9 => ?_) (fun c9 => ?_)
    · replace hf := mj_pos c9 hf
      exact jtX11_classOf_33 hR F I L o6.2.1 o6.2.2.1 r73 r75 o6.2.2.2.1 o6.2.2.2.2.1 o6.2.2.2.2.2.1 o6.2.2.2.2.2.2.1 o6.2.2.2.2.2.2.2.1 o6.2.2.2.2.2.2.2.2.1 o6.2.2.2.2.2.2.2.2.2 r87 r93 r94 r95 x1 x2 o hf hq
    · replace hf := mj_neg c9 hf
      refine mj_aload_n 0 dX11_classOf_21 rfl ?_
      refine mj_iload_n 2 dX11_classOf_22 rfl ?_
      obtain ⟨o10, ho10, hf⟩ := mj_bd hf
      refine mj_callVd (I2 := (mj_rows I [(71, o6.2.1), (72, o6.2.2.1), (73, r73), (75, r75), (80, o6.2.2.2.1), (81, o6.2.2.2.2.1), (82, o6.2.2.2.2.2.1), (83, o6.2.2.2.2.2.2.1), (84, o6.2.2.2.2.2.2.2.1), (85, o6.2.2.2.2.2.2.2.2.1), (86, o6.2.2.2.2.2.2.2.2.2), (87, r87), (93, r93), (94, r94), (95, r95)])) (L2 := L) (s1 := [.int o10, .ref 71]) (st := [.ref 71]) [.int x2] (cmX11_isState X.2.1 G F x2 _ _ o6.2.1 rfl o10 ho10) (mj_rr rfl) rfl cw_X11_338 s0_71 a0_71 (by decide) rfl rfl (Nat.le_of_ble_eq_true rfl) ⟨Nat.zero_le _, Nat.zero_le _⟩ dX11_classOf_23 rfl ?_
      refine mj_if_eq 33 dX11_classOf_26 (by decide) (fun c11 => ?_) (fun c11 => ?_)
      · replace hf := mj_pos c11 hf
        exact jtX11_classOf_33 hR F I L o6.2.1 o6.2.2.1 r73 r75 o6.2.2.2.1 o6.2.2.2.2.1 o6.2.2.2.2.2.1 o6.2.2.2.2.2.2.1 o6.2.2.2.2.2.2.2.1 o6.2.2.2.2.2.2.2.2.1 o6.2.2.2.2.2.2.2.2.2 r87 r93 r94 r95 x1 x2 o hf hq
      · replace hf := mj_neg c11 hf
        refine mj_iconst dX11_classOf_29 kc_iconst_1 ?_
        refine mj_goto 34 dX11_classOf_30 (by decide) ?_
        exact jtX11_classOf_34 hR F I L o6.2.1 o6.2.2.1 r73 r75 o6.2.2.2.1 o6.2.2.2.2.1 o6.2.2.2.2.2.1 o6.2.2.2.2.2.2.1 o6.2.2.2.2.2.2.2.1 o6.2.2.2.2.2.2.2.2.1 o6.2.2.2.2.2.2.2.2.2 r87 r93 r94 r95 x1 x2 (1 : Int32) o hf hq
set_option maxRecDepth 100000 in
set_option maxHeartbeats 4000000 in
theorem cmX11_classOf (l : Launch) (G : mj_GT) (F : Nat) (x1 : Int32) (x2 : Int32) (I : mj_IT) (L : mj_LT) (r71 : Nat → Int32) (r72 : Nat → Int32) (r73 : Nat → Int32) (r75 : Nat → Int32) (r80 : Nat → Int32) (r81 : Nat → Int32) (r82 : Nat → Int32) (r83 : Nat → Int32) (r84 : Nat → Int32) (r85 : Nat → Int32) (r86 : Nat → Int32) (r87 : Nat → Int32) (r93 : Nat → Int32) (r94 : Nat → Int32) (r95 : Nat → Int32) (hr71 : I 71 = r71) (hr72 : I 72 = r72) (hr73 : I 73 = r73) (hr75 : I 75 = r75) (hr80 : I 80 = r80) (hr81 : I 81 = r81) (hr82 : I 82 = r82) (hr83 : I 83 = r83) (hr84 : I 84 = r84) (hr85 : I 85 = r85) (hr86 : I 86 = r86) (hr87 : I 87 = r87) (hr93 : I 93 = r93) (hr94 : I 94 = r94) (hr95 : I 95 = r95) (o : ((Int32) × (Nat → Int32) × (Nat → Int32) × (Nat → Int32) × (Nat → Int32) × (Nat → Int32) × (Nat → Int32) × (Nat → Int32) × (Nat → Int32) × (Nat → Int32) × (Nat → Int32) × (Nat → Int32) × (Nat → Int32))) (hf : fnX11_classOf F r71 r72 r73 r75 r80 r81 r82 r83 r84 r85 r86 r87 r93 r94 r95 x1 x2 = some o) : mj_M l G yX11_classOf cX11_classOf 3 8 (some .int) 0 0 mj_P0 mj_S0 98 [.ref 71, .int x1, .int x2] I L (mj_qd (some (.int o.1)) (mj_rows I [(71, o.2.1), (72, o.2.2.1), (73, r73), (75, r75), (80, o.2.2.2.1), (81, o.2.2.2.2.1), (82, o.2.2.2.2.2.1), (83, o.2.2.2.2.2.2.1), (84, o.2.2.2.2.2.2.2.1), (85, o.2.2.2.2.2.2.2.2.1), (86, o.2.2.2.2.2.2.2.2.2.1), (87, r87), (93, o.2.2.2.2.2.2.2.2.2.2.1), (94, o.2.2.2.2.2.2.2.2.2.2.2.1), (95, o.2.2.2.2.2.2.2.2.2.2.2.2)]) L) := by
  refine mj_in RX11 "classOf" [(0, .ref 71), (1, .int x1), (2, .int x2)] rfl rfl rfl (by decide) (Nat.le_of_ble_eq_true rfl) (fun X ad hR => ?_)
  refine mj_toI [(71, r71), (72, r72), (73, r73), (75, r75), (80, r80), (81, r81), (82, r82), (83, r83), (84, r84), (85, r85), (86, r86), (87, r87), (93, r93), (94, r94), (95, r95)] (by intro q hq; simp only [List.mem_cons, List.not_mem_nil, or_false] at hq; rcases hq with rfl | rfl | rfl | rfl | rfl | rfl | rfl | rfl | rfl | rfl | rfl | rfl | rfl | rfl | rfl <;> assumption) ?_
  refine mtX11_classOf hR F I L r71 r72 r73 r75 r80 r81 r82 r83 r84 r85 r86 r87 r93 r94 r95 x1 x2 o hf ?_
  obtain ⟨w0, w1, w2, w3, w4, w5, w6, w7, w8, w9, w10, w11, w12⟩ := o
  refine mj_u2q ?_
  refine mj_u2q ?_
  refine mj_u2q ?_
  refine mj_u2q ?_
  refine mj_u2q ?_
  refine mj_u2q ?_
  refine mj_u2q ?_
  refine mj_u2q ?_
  refine mj_u2q ?_
  refine mj_u2q ?_
  refine mj_u2q ?_
  refine mj_u2q ?_
  exact ⟨rfl, rfl, rfl⟩

-- X11_isDrawn
def fnX11_isDrawn (F : Nat) (r71 : Nat → Int32) (r73 : Nat → Int32) (r80 : Nat → Int32) (x1 : Int32) : Option ((Int32)) := (if mj_ib x1 200 = true then (if (r71 4) ≤ (r80 x1.toNatClampNeg) then some (0 : Int32) else (if mj_ib x1 200 = true then (fnX11_of F r73 (r80 x1.toNatClampNeg) (0 : Int32)).bind (fun o4 => (if o4 = (1 : Int32) then some (1 : Int32) else (if mj_ib x1 200 = true then (fnX11_of F r73 (r80 x1.toNatClampNeg) (0 : Int32)).bind (fun o7 => (if o7 = (2 : Int32) then some (1 : Int32) else some (0 : Int32))) else none))) else none)) else none)
set_option maxRecDepth 100000 in
set_option maxHeartbeats 4000000 in
theorem mtX11_isDrawn {X : mj_XT} {l : Launch} {G : mj_GT} {ad : Nat → Nat} {Qn : Option Value → mj_IT → mj_LT → Prop} (hR : mj_R X l G mj_P0 mj_S0 98 ad 0 0 Qn) (F : Nat) (I : mj_IT) (L : mj_LT) (r71 : Nat → Int32) (r73 : Nat → Int32) (r80 : Nat → Int32) (x1 : Int32) (o : ((Int32))) (hf : fnX11_isDrawn F r71 r73 r80 x1 = some o) (hq : (fun ov => Qn (some (.int ov)) (mj_rows I [(71, r71), (73, r73), (80, r80)]) L) o) : mj_W X G RX11 "isDrawn" cX11_isDrawn 2 2 (some .boolean) mj_P0 mj_S0 98 ad 0 0 0 [(0, .ref 71), (1, .int x1)] [] (mj_rows I [(71, r71), (73, r73), (80, r80)]) L := by
  unfold fnX11_isDrawn at hf
  refine mj_aload_n 0 dX11_isDrawn_0 rfl ?_
  refine mj_getP p0_71_27 (by decide) fl_X11_230 rfl s0_71 a0_71 dX11_isDrawn_1 ?_
  refine mj_iload_n 1 dX11_isDrawn_4 rfl ?_
  obtain ⟨z1, hf⟩ := mj_ck hf
  refine mj_ialdv (x := r80) rfl s0_80 a0_80 z1 dX11_isDrawn_5 ?_
  refine mj_aload_n 0 dX11_isDrawn_6 rfl ?_
  refine mj_getIv (v := (r71 4)) rfl fl_X11_172 rfl s0_71 a0_71 dX11_isDrawn_7 ?_
  refine mj_icmp_ge 47 dX11_isDrawn_10 (by decide) (fun c2 => ?_) (fun c2 => ?_)
  · replace hf := mj_pos c2 hf
    refine mj_iconst dX11_isDrawn_47 kc_iconst_0 ?_
    obtain rfl := Option.some.inj hf
    have hZ := hq
    exact mj_iret hR ⟨Nat.le_refl _, Nat.le_refl _⟩ rfl (by decide) dX11_isDrawn_48 hZ
  · replace hf := mj_neg c2 hf
    refine mj_aload_n 0 dX11_isDrawn_13 rfl ?_
    refine mj_aload_n 0 dX11_isDrawn_14 rfl ?_
    refine mj_getP p0_71_27 (by decide) fl_X11_230 rfl s0_71 a0_71 dX11_isDrawn_15 ?_
    refine mj_iload_n 1 dX11_isDrawn_18 rfl ?_
    obtain ⟨z3, hf⟩ := mj_ck hf
    refine mj_ialdv (x := r80) rfl s0_80 a0_80 z3 dX11_isDrawn_19 ?_
    refine mj_iconst dX11_isDrawn_20 kc_iconst_0 ?_
    obtain ⟨o4, ho4, hf⟩ := mj_bd hf
    refine mj_callVd (I2 := (mj_rows I [(71, r71), (73, r73), (80, r80)])) (L2 := L) (s1 := [.int o4]) (st := []) [.int (r80 x1.toNatClampNeg), .int (0 : Int32)] (cmX11_of X.2.1 G F (r80 x1.toNatClampNeg) (0 : Int32) _ _ r73 rfl o4 ho4) (mj_rr rfl) rfl cw_X11_175 s0_71 a0_71 (by decide) rfl rfl (Nat.le_of_ble_eq_true rfl) ⟨Nat.zero_le _, Nat.zero_le _⟩ dX11_isDrawn_21 rfl ?_
    refine mj_iconst dX11_isDrawn_24 kc_iconst_1 ?_
    refine mj_icmp_eq 43 dX11_isDrawn_25 (by decide) (fun c5 => ?_) (fun c5 => ?_)
    · replace hf := mj_pos c5 hf
      refine mj_iconst dX11_isDrawn_43 kc_iconst_1 ?_
      refine mj_goto 48 dX11_isDrawn_44 (by decide) ?_
      obtain rfl := Option.some.inj hf
      have hZ := hq
      exact mj_iret hR ⟨Nat.le_refl _, Nat.le_refl _⟩ rfl (by decide) dX11_isDrawn_48 hZ
    · replace hf := mj_neg c5 hf
      refine mj_aload_n 0 dX11_isDrawn_28 rfl ?_
      refine mj_aload_n 0 dX11_isDrawn_29 rfl ?_
      refine mj_getP p0_71_27 (by decide) fl_X11_230 rfl s0_71 a0_71 dX11_isDrawn_30 ?_
      refine mj_iload_n 1 dX11_isDrawn_33 rfl ?_
      obtain ⟨z6, hf⟩ := mj_ck hf
      refine mj_ialdv (x := r80) rfl s0_80 a0_80 z6 dX11_isDrawn_34 ?_
      refine mj_iconst dX11_isDrawn_35 kc_iconst_0 ?_
      obtain ⟨o7, ho7, hf⟩ := mj_bd hf
      refine mj_callVd (I2 := (mj_rows I [(71, r71), (73, r73), (80, r80)])) (L2 := L) (s1 := [.int o7]) (st := []) [.int (r80 x1.toNatClampNeg), .int (0 : Int32)] (cmX11_of X.2.1 G F (r80 x1.toNatClampNeg) (0 : Int32) _ _ r73 rfl o7 ho7) (mj_rr rfl) rfl cw_X11_175 s0_71 a0_71 (by decide) rfl rfl (Nat.le_of_ble_eq_true rfl) ⟨Nat.zero_le _, Nat.zero_le _⟩ dX11_isDrawn_36 rfl ?_
      refine mj_iconst dX11_isDrawn_39 kc_iconst_2 ?_
      refine mj_icmp_ne 47 dX11_isDrawn_40 (by decide) (fun c8 => ?_) (fun c8 => ?_)
      · replace hf := mj_neg c8 hf
        refine mj_iconst dX11_isDrawn_47 kc_iconst_0 ?_
        obtain rfl := Option.some.inj hf
        have hZ := hq
        exact mj_iret hR ⟨Nat.le_refl _, Nat.le_refl _⟩ rfl (by decide) dX11_isDrawn_48 hZ
      · replace hf := mj_pos c8 hf
        refine mj_iconst dX11_isDrawn_43 kc_iconst_1 ?_
        refine mj_goto 48 dX11_isDrawn_44 (by decide) ?_
        obtain rfl := Option.some.inj hf
        have hZ := hq
        exact mj_iret hR ⟨Nat.le_refl _, Nat.le_refl _⟩ rfl (by decide) dX11_isDrawn_48 hZ
set_option maxRecDepth 100000 in
set_option maxHeartbeats 4000000 in
theorem cmX11_isDrawn (l : Launch) (G : mj_GT) (F : Nat) (x1 : Int32) (I : mj_IT) (L : mj_LT) (r71 : Nat → Int32) (r73 : Nat → Int32) (r80 : Nat → Int32) (hr71 : I 71 = r71) (hr73 : I 73 = r73) (hr80 : I 80 = r80) (o : ((Int32))) (hf : fnX11_isDrawn F r71 r73 r80 x1 = some o) : mj_M l G yX11_isDrawn cX11_isDrawn 2 2 (some .boolean) 0 0 mj_P0 mj_S0 98 [.ref 71, .int x1] I L (mj_qd (some (.int o)) (mj_rows I [(71, r71), (73, r73), (80, r80)]) L) := by
  refine mj_in RX11 "isDrawn" [(0, .ref 71), (1, .int x1)] rfl rfl rfl (by decide) (Nat.le_of_ble_eq_true rfl) (fun X ad hR => ?_)
  refine mj_toI [(71, r71), (73, r73), (80, r80)] (by intro q hq; simp only [List.mem_cons, List.not_mem_nil, or_false] at hq; rcases hq with rfl | rfl | rfl <;> assumption) ?_
  refine mtX11_isDrawn hR F I L r71 r73 r80 x1 o hf ?_
  exact ⟨rfl, rfl, rfl⟩

-- X11_ahead
def bdX11_ahead_4 (F : Nat) (r71 : Nat → Int32) (r73 : Nat → Int32) (r80 : Nat → Int32) (r83 : Nat → Int32) (r84 : Nat → Int32) (x2 : Int32) (x3 : Int32) : Option (((Int32) × (Int32)) ⊕ (Unit ⊕ (((Int32)) ⊕ Unit))) := (if (r71 24) < x3 then some (.inr (.inl ())) else (fnX11_isDrawn F r71 r73 r80 x2).bind (fun o2 => (if o2 = 0 then (fnX11_isEnd F r71 r80 x2).bind (fun o4 => (if o4 = 0 then (if mj_ib x2 200 = true then (if (r83 x2.toNatClampNeg) = 0 then some (.inr (.inr (.inr ()))) else (if mj_ib ((10 : Int32) * x2) 2000 = true then some (.inl ((r84 (((10 : Int32) * x2).toNatClampNeg)), (x3 + (1)))) else none)) else none) else some (.inr (.inr (.inl x2))))) else some (.inr (.inr (.inl x2))))))
def fnX11_ahead (F : Nat) (r71 : Nat → Int32) (r73 : Nat → Int32) (r80 : Nat → Int32) (r83 : Nat → Int32) (r84 : Nat → Int32) (x1 : Int32) : Option ((Int32)) := (mj_it (mj_u2 (fun z0 z1 => bdX11_ahead_4 F r71 r73 r80 r83 r84 z0 z1)) F (x1, (0 : Int32))).bind (Sum.elim (fun _ => some (-1 : Int32)) (Sum.elim (fun x2_9 => some x2_9) (fun _ => some (-1 : Int32))))
set_option maxRecDepth 100000 in
set_option maxHeartbeats 4000000 in
theorem lpX11_ahead_4 {X : mj_XT} {l : Launch} {G : mj_GT} {ad : Nat → Nat} {Qn : Option Value → mj_IT → mj_LT → Prop} (hR : mj_R X l G mj_P0 mj_S0 98 ad 0 0 Qn) (F : Nat) (I : mj_IT) (L : mj_LT) (r71 : Nat → Int32) (r73 : Nat → Int32) (r80 : Nat → Int32) (r83 : Nat → Int32) (r84 : Nat → Int32) : ∀ (n : Nat) (s : ((Int32) × (Int32))) (e : (Unit ⊕ (((Int32)) ⊕ Unit))), mj_it (mj_u2 (fun z0 z1 => bdX11_ahead_4 F r71 r73 r80 r83 r84 z0 z1)) n s = some e → (Sum.elim (fun _ => mj_W X G RX11 "ahead" cX11_ahead 4 3 (some .int) mj_P0 mj_S0 98 ad 0 0 57 [] [] (mj_rows I [(71, r71), (73, r73), (80, r80), (83, r83), (84, r84)]) L) (Sum.elim (fun x2 => mj_W X G RX11 "ahead" cX11_ahead 4 3 (some .int) mj_P0 mj_S0 98 ad 0 0 28 [(2, .int x2)] [] (mj_rows I [(71, r71), (73, r73), (80, r80), (83, r83), (84, r84)]) L) (fun _ => mj_W X G RX11 "ahead" cX11_ahead 4 3 (some .int) mj_P0 mj_S0 98 ad 0 0 39 [] [] (mj_rows I [(71, r71), (73, r73), (80, r80), (83, r83), (84, r84)]) L))) e → (mj_u2 (fun x2 x3 => mj_W X G RX11 "ahead" cX11_ahead 4 3 (some .int) mj_P0 mj_S0 98 ad 0 0 4 [(0, .ref 71), (2, .int x2), (3, .int x3)] [] (mj_rows I [(71, r71), (73, r73), (80, r80), (83, r83), (84, r84)]) L)) s := by
  refine mj_loop (fun s o hf hc hx => ?_)
  obtain ⟨x2, x3⟩ := s
  replace hf := mj_u2e hf
  refine mj_u2q ?_
  unfold bdX11_ahead_4 at hf
  refine mj_iload_n 2 dX11_ahead_4 rfl ?_
  refine mj_aload_n 0 dX11_ahead_5 rfl ?_
  refine mj_getIv (v := (r71 24)) rfl fl_X11_227 rfl s0_71 a0_71 dX11_ahead_6 ?_
  refine mj_icmp_gt 57 dX11_ahead_9 (by decide) (fun c1 => ?_) (fun c1 => ?_)
  · replace hf := mj_pos c1 hf
    refine mj_sub [] [] rfl ?_
    obtain rfl := Option.some.inj hf
    have hZ := hx (.inl ()) rfl
    replace hZ := mj_el hZ
    exact hZ
  · replace hf := mj_neg c1 hf
    refine mj_aload_n 0 dX11_ahead_12 rfl ?_
    refine mj_iload_n 1 dX11_ahead_13 rfl ?_
    obtain ⟨o2, ho2, hf⟩ := mj_bd hf
    refine mj_callVd (I2 := (mj_rows I [(71, r71), (73, r73), (80, r80), (83, r83), (84, r84)])) (L2 := L) (s1 := [.int o2]) (st := []) [.int x2] (cmX11_isDrawn X.2.1 G F x2 _ _ r71 r73 r80 rfl rfl rfl o2 ho2) (mj_rr rfl) rfl cw_X11_401 s0_71 a0_71 (by decide) rfl rfl (Nat.le_of_ble_eq_true rfl) ⟨Nat.zero_le _, Nat.zero_le _⟩ dX11_ahead_14 rfl ?_
    refine mj_if_ne 28 dX11_ahead_17 (by decide) (fun c3 => ?_) (fun c3 => ?_)
    · replace hf := mj_neg c3 hf
      refine mj_sub [1] [(2, .int x2)] rfl ?_
      obtain rfl := Option.some.inj hf
      have hZ := hx (.inr (.inl x2)) rfl
      replace hZ := mj_er hZ
      replace hZ := mj_el hZ
      exact hZ
    · replace hf := mj_pos c3 hf
      refine mj_aload_n 0 dX11_ahead_20 rfl ?_
      refine mj_iload_n 1 dX11_ahead_21 rfl ?_
      obtain ⟨o4, ho4, hf⟩ := mj_bd hf
      refine mj_callVd (I2 := (mj_rows I [(71, r71), (73, r73), (80, r80), (83, r83), (84, r84)])) (L2 := L) (s1 := [.int o4]) (st := []) [.int x2] (cmX11_isEnd X.2.1 G F x2 _ _ r71 r80 rfl rfl o4 ho4) (mj_rr rfl) rfl cw_X11_330 s0_71 a0_71 (by decide) rfl rfl (Nat.le_of_ble_eq_true rfl) ⟨Nat.zero_le _, Nat.zero_le _⟩ dX11_ahead_22 rfl ?_
      refine mj_if_eq 30 dX11_ahead_25 (by decide) (fun c5 => ?_) (fun c5 => ?_)
      · replace hf := mj_pos c5 hf
        refine mj_aload_n 0 dX11_ahead_30 rfl ?_
        refine mj_getP p0_71_30 (by decide) fl_X11_251 rfl s0_71 a0_71 dX11_ahead_31 ?_
        refine mj_iload_n 1 dX11_ahead_34 rfl ?_
        obtain ⟨z6, hf⟩ := mj_ck hf
        refine mj_ialdv (x := r83) rfl s0_83 a0_83 z6 dX11_ahead_35 ?_
        refine mj_if_ne 41 dX11_ahead_36 (by decide) (fun c7 => ?_) (fun c7 => ?_)
        · replace hf := mj_neg c7 hf
          refine mj_aload_n 0 dX11_ahead_41 rfl ?_
          refine mj_getP p0_71_31 (by decide) fl_X11_248 rfl s0_71 a0_71 dX11_ahead_42 ?_
          refine mj_bipush dX11_ahead_45 kc_bipush_10 ?_
          refine mj_iload_n 1 dX11_ahead_47 rfl ?_
          refine mj_imul dX11_ahead_48 ?_
          obtain ⟨z8, hf⟩ := mj_ck hf
          refine mj_ialdv (x := r84) rfl s0_84 a0_84 z8 dX11_ahead_49 ?_
          refine mj_istore_n [(2, .int (r84 (((10 : Int32) * x2).toNatClampNeg))), (0, .ref 71), (3, .int x3)] dX11_ahead_50 rfl (by decide) rfl ?_
          refine mj_iinc 2 [(3, .int (x3 + (1))), (2, .int (r84 (((10 : Int32) * x2).toNatClampNeg))), (0, .ref 71)] dX11_ahead_51 rfl (kz_1 _) (by decide) rfl ?_
          refine mj_goto 4 dX11_ahead_54 (by decide) ?_
          refine mj_sub [2, 1, 0] [(0, .ref 71), (2, .int (r84 (((10 : Int32) * x2).toNatClampNeg))), (3, .int (x3 + (1)))] rfl ?_
          obtain rfl := Option.some.inj hf
          have hZ := hc ((r84 (((10 : Int32) * x2).toNatClampNeg)), (x3 + (1))) rfl
          replace hZ := mj_u2p hZ
          exact hZ
        · replace hf := mj_pos c7 hf
          refine mj_sub [] [] rfl ?_
          obtain rfl := Option.some.inj hf
          have hZ := hx (.inr (.inr ())) rfl
          replace hZ := mj_er hZ
          replace hZ := mj_er hZ
          exact hZ
      · replace hf := mj_neg c5 hf
        refine mj_sub [1] [(2, .int x2)] rfl ?_
        obtain rfl := Option.some.inj hf
        have hZ := hx (.inr (.inl x2)) rfl
        replace hZ := mj_er hZ
        replace hZ := mj_el hZ
        exact hZ
set_option maxRecDepth 100000 in
set_option maxHeartbeats 4000000 in
theorem mtX11_ahead {X : mj_XT} {l : Launch} {G : mj_GT} {ad : Nat → Nat} {Qn : Option Value → mj_IT → mj_LT → Prop} (hR : mj_R X l G mj_P0 mj_S0 98 ad 0 0 Qn) (F : Nat) (I : mj_IT) (L : mj_LT) (r71 : Nat → Int32) (r73 : Nat → Int32) (r80 : Nat → Int32) (r83 : Nat → Int32) (r84 : Nat → Int32) (x1 : Int32) (o : ((Int32))) (hf : fnX11_ahead F r71 r73 r80 r83 r84 x1 = some o) (hq : (fun ov => Qn (some (.int ov)) (mj_rows I [(71, r71), (73, r73), (80, r80), (83, r83), (84, r84)]) L) o) : mj_W X G RX11 "ahead" cX11_ahead 4 3 (some .int) mj_P0 mj_S0 98 ad 0 0 0 [(0, .ref 71), (1, .int x1)] [] (mj_rows I [(71, r71), (73, r73), (80, r80), (83, r83), (84, r84)]) L := by
  unfold fnX11_ahead at hf
  refine mj_iload_n 1 dX11_ahead_0 rfl ?_
  refine mj_istore_n [(2, .int x1), (0, .ref 71), (1, .int x1)] dX11_ahead_1 rfl (by decide) rfl ?_
  refine mj_iconst dX11_ahead_2 kc_iconst_0 ?_
  refine mj_istore_n [(3, .int (0 : Int32)), (2, .int x1), (0, .ref 71), (1, .int x1)] dX11_ahead_3 rfl (by decide) rfl ?_
  refine mj_sub [2, 1, 0] [(0, .ref 71), (2, .int x1), (3, .int (0 : Int32))] rfl ?_
  obtain ⟨e9, ho9, hf⟩ := mj_bd hf
  refine lpX11_ahead_4 hR F I L r71 r73 r80 r83 r84 F (x1, (0 : Int32)) e9 ho9 ?_
  rcases e9 with e9 | e9
  · replace hf := mj_ele hf
    refine mj_elq (?_)
    refine mj_iconst dX11_ahead_57 kc_iconst_m1 ?_
    obtain rfl := Option.some.inj hf
    have hZ := hq
    exact mj_iret hR ⟨Nat.le_refl _, Nat.le_refl _⟩ rfl rfl dX11_ahead_58 hZ
  · replace hf := mj_ere hf
    rcases e9 with x2_9 | e9
    · replace hf := mj_ele hf
      refine mj_erq (mj_elq (?_))
      refine mj_iload_n 0 dX11_ahead_28 rfl ?_
      obtain rfl := Option.some.inj hf
      have hZ := hq
      exact mj_iret hR ⟨Nat.le_refl _, Nat.le_refl _⟩ rfl rfl dX11_ahead_29 hZ
    · replace hf := mj_ere hf
      refine mj_erq (mj_erq (?_))
      refine mj_iconst dX11_ahead_39 kc_iconst_m1 ?_
      obtain rfl := Option.some.inj hf
      have hZ := hq
      exact mj_iret hR ⟨Nat.le_refl _, Nat.le_refl _⟩ rfl rfl dX11_ahead_40 hZ
set_option maxRecDepth 100000 in
set_option maxHeartbeats 4000000 in
theorem cmX11_ahead (l : Launch) (G : mj_GT) (F : Nat) (x1 : Int32) (I : mj_IT) (L : mj_LT) (r71 : Nat → Int32) (r73 : Nat → Int32) (r80 : Nat → Int32) (r83 : Nat → Int32) (r84 : Nat → Int32) (hr71 : I 71 = r71) (hr73 : I 73 = r73) (hr80 : I 80 = r80) (hr83 : I 83 = r83) (hr84 : I 84 = r84) (o : ((Int32))) (hf : fnX11_ahead F r71 r73 r80 r83 r84 x1 = some o) : mj_M l G yX11_ahead cX11_ahead 4 3 (some .int) 0 0 mj_P0 mj_S0 98 [.ref 71, .int x1] I L (mj_qd (some (.int o)) (mj_rows I [(71, r71), (73, r73), (80, r80), (83, r83), (84, r84)]) L) := by
  refine mj_in RX11 "ahead" [(0, .ref 71), (1, .int x1)] rfl rfl rfl (by decide) (Nat.le_of_ble_eq_true rfl) (fun X ad hR => ?_)
  refine mj_toI [(71, r71), (73, r73), (80, r80), (83, r83), (84, r84)] (by intro q hq; simp only [List.mem_cons, List.not_mem_nil, or_false] at hq; rcases hq with rfl | rfl | rfl | rfl | rfl <;> assumption) ?_
  refine mtX11_ahead hR F I L r71 r73 r80 r83 r84 x1 o hf ?_
  exact ⟨rfl, rfl, rfl⟩

-- X11_mostOf
def fnX11_mostOf (F : Nat) (r71 : Nat → Int32) (r73 : Nat → Int32) (r80 : Nat → Int32) (r83 : Nat → Int32) (r84 : Nat → Int32) (q96 : Nat → Int64) (x1 : Int32) (x2 : Int32) : Option ((Int64)) := (fnX11_ahead F r71 r73 r80 r83 r84 x2).bind (fun o1 => (if o1 = (-1 : Int32) then some (0 : Int64) else (fnX11_isEnd F r71 r80 o1).bind (fun o3 => (if o3 = 0 then (if mj_ib (((200 : Int32) * x1) + o1) 2200 = true then some (q96 ((((200 : Int32) * x1) + o1).toNatClampNeg)) else none) else (if x1 = 0 then some (1 : Int64) else some (0 : Int64))))))
set_option maxRecDepth 100000 in
set_option maxHeartbeats 4000000 in
theorem mtX11_mostOf {X : mj_XT} {l : Launch} {G : mj_GT} {ad : Nat → Nat} {Qn : Option Value → mj_IT → mj_LT → Prop} (hR : mj_R X l G mj_P0 mj_S0 98 ad 0 0 Qn) (F : Nat) (I : mj_IT) (L : mj_LT) (r71 : Nat → Int32) (r73 : Nat → Int32) (r80 : Nat → Int32) (r83 : Nat → Int32) (r84 : Nat → Int32) (q96 : Nat → Int64) (x1 : Int32) (x2 : Int32) (o : ((Int64))) (hf : fnX11_mostOf F r71 r73 r80 r83 r84 q96 x1 x2 = some o) (hq : (fun ov => Qn (some (.long ov)) (mj_rows I [(71, r71), (73, r73), (80, r80), (83, r83), (84, r84)]) (mj_rows L [(96, q96)])) o) : mj_W X G RX11 "mostOf" cX11_mostOf 4 4 (some .long) mj_P0 mj_S0 98 ad 0 0 0 [(0, .ref 71), (1, .int x1), (2, .int x2)] [] (mj_rows I [(71, r71), (73, r73), (80, r80), (83, r83), (84, r84)]) (mj_rows L [(96, q96)]) := by
  unfold fnX11_mostOf at hf
  refine mj_aload_n 0 dX11_mostOf_0 rfl ?_
  refine mj_iload_n 2 dX11_mostOf_1 rfl ?_
  obtain ⟨o1, ho1, hf⟩ := mj_bd hf
  refine mj_callVd (I2 := (mj_rows I [(71, r71), (73, r73), (80, r80), (83, r83), (84, r84)])) (L2 := (mj_rows L [(96, q96)])) (s1 := [.int o1]) (st := []) [.int x2] (cmX11_ahead X.2.1 G F x2 _ _ r71 r73 r80 r83 r84 rfl rfl rfl rfl rfl o1 ho1) (mj_rr rfl) rfl cw_X11_404 s0_71 a0_71 (by decide) rfl rfl (Nat.le_of_ble_eq_true rfl) ⟨Nat.zero_le _, Nat.zero_le _⟩ dX11_mostOf_2 rfl ?_
  refine mj_istore_n [(3, .int o1), (0, .ref 71), (1, .int x1), (2, .int x2)] dX11_mostOf_5 rfl (by decide) rfl ?_
  refine mj_iload_n 0 dX11_mostOf_6 rfl ?_
  refine mj_iconst dX11_mostOf_7 kc_iconst_m1 ?_
  refine mj_icmp_ne 15 dX11_mostOf_8 (by decide) (fun c2 => ?_) (fun c2 => ?_)
  · replace hf := mj_neg c2 hf
    refine mj_aload_n 1 dX11_mostOf_15 rfl ?_
    refine mj_iload_n 0 dX11_mostOf_16 rfl ?_
    obtain ⟨o3, ho3, hf⟩ := mj_bd hf
    refine mj_callVd (I2 := (mj_rows I [(71, r71), (73, r73), (80, r80), (83, r83), (84, r84)])) (L2 := (mj_rows L [(96, q96)])) (s1 := [.int o3]) (st := []) [.int o1] (cmX11_isEnd X.2.1 G F o1 _ _ r71 r80 rfl rfl o3 ho3) (mj_rr rfl) rfl cw_X11_330 s0_71 a0_71 (by decide) rfl rfl (Nat.le_of_ble_eq_true rfl) ⟨Nat.zero_le _, Nat.zero_le _⟩ dX11_mostOf_17 rfl ?_
    refine mj_if_eq 35 dX11_mostOf_20 (by decide) (fun c4 => ?_) (fun c4 => ?_)
    · replace hf := mj_pos c4 hf
      refine mj_aload_n 1 dX11_mostOf_35 rfl ?_
      refine mj_getP p0_71_44 (by decide) fl_X11_407 rfl s0_71 a0_71 dX11_mostOf_36 ?_
      refine mj_sipush dX11_mostOf_39 kc_sipush_200 ?_
      refine mj_iload_n 2 dX11_mostOf_42 rfl ?_
      refine mj_imul dX11_mostOf_43 ?_
      refine mj_iload_n 0 dX11_mostOf_44 rfl ?_
      refine mj_iadd dX11_mostOf_45 ?_
      obtain ⟨z5, hf⟩ := mj_ck hf
      refine mj_laldv (x := q96) rfl s0_96 a0_96 z5 dX11_mostOf_46 ?_
      obtain rfl := Option.some.inj hf
      have hZ := hq
      exact mj_lret hR ⟨Nat.le_refl _, Nat.le_refl _⟩ rfl dX11_mostOf_47 hZ
    · replace hf := mj_neg c4 hf
      refine mj_iload_n 2 dX11_mostOf_23 rfl ?_
      refine mj_if_ne 31 dX11_mostOf_24 (by decide) (fun c6 => ?_) (fun c6 => ?_)
      · replace hf := mj_neg c6 hf
        refine mj_lconst (v := 0) dX11_mostOf_31 (by decide) ?_
        refine mj_goto 47 dX11_mostOf_32 (by decide) ?_
        obtain rfl := Option.some.inj hf
        have hZ := hq
        exact mj_lret hR ⟨Nat.le_refl _, Nat.le_refl _⟩ rfl dX11_mostOf_47 hZ
      · replace hf := mj_pos c6 hf
        refine mj_lconst (v := 1) dX11_mostOf_27 (by decide) ?_
        refine mj_goto 47 dX11_mostOf_28 (by decide) ?_
        obtain rfl := Option.some.inj hf
        have hZ := hq
        exact mj_lret hR ⟨Nat.le_refl _, Nat.le_refl _⟩ rfl dX11_mostOf_47 hZ
  · replace hf := mj_pos c2 hf
    refine mj_lconst (v := 0) dX11_mostOf_11 (by decide) ?_
    refine mj_goto 47 dX11_mostOf_12 (by decide) ?_
    obtain rfl := Option.some.inj hf
    have hZ := hq
    exact mj_lret hR ⟨Nat.le_refl _, Nat.le_refl _⟩ rfl dX11_mostOf_47 hZ
set_option maxRecDepth 100000 in
set_option maxHeartbeats 4000000 in
theorem cmX11_mostOf (l : Launch) (G : mj_GT) (F : Nat) (x1 : Int32) (x2 : Int32) (I : mj_IT) (L : mj_LT) (r71 : Nat → Int32) (r73 : Nat → Int32) (r80 : Nat → Int32) (r83 : Nat → Int32) (r84 : Nat → Int32) (q96 : Nat → Int64) (hr71 : I 71 = r71) (hr73 : I 73 = r73) (hr80 : I 80 = r80) (hr83 : I 83 = r83) (hr84 : I 84 = r84) (hq96 : L 96 = q96) (o : ((Int64))) (hf : fnX11_mostOf F r71 r73 r80 r83 r84 q96 x1 x2 = some o) : mj_M l G yX11_mostOf cX11_mostOf 4 4 (some .long) 0 0 mj_P0 mj_S0 98 [.ref 71, .int x1, .int x2] I L (mj_qd (some (.long o)) (mj_rows I [(71, r71), (73, r73), (80, r80), (83, r83), (84, r84)]) (mj_rows L [(96, q96)])) := by
  refine mj_in RX11 "mostOf" [(0, .ref 71), (1, .int x1), (2, .int x2)] rfl rfl rfl (by decide) (Nat.le_of_ble_eq_true rfl) (fun X ad hR => ?_)
  refine mj_toI [(71, r71), (73, r73), (80, r80), (83, r83), (84, r84)] (by intro q hq; simp only [List.mem_cons, List.not_mem_nil, or_false] at hq; rcases hq with rfl | rfl | rfl | rfl | rfl <;> assumption) ?_
  refine mj_toL [(96, q96)] (by intro q hq; simp only [List.mem_cons, List.not_mem_nil, or_false] at hq; rcases hq with rfl <;> assumption) ?_
  refine mtX11_mostOf hR F I L r71 r73 r80 r83 r84 q96 x1 x2 o hf ?_
  exact ⟨rfl, rfl, rfl⟩

-- X11_weighs
def bdX11_weighs_23 (F : Nat) (r71 : Nat → Int32) (r73 : Nat → Int32) (r80 : Nat → Int32) (r83 : Nat → Int32) (r84 : Nat → Int32) (r85 : Nat → Int32) (q96 : Nat → Int64) (x1 : Int32) (x2 : Int32) (x3 : Int64) (x5 : Int32) : Option (((Int64) × (Int32)) ⊕ ((Int64))) := (if mj_ib x2 200 = true then (if (r83 x2.toNatClampNeg) ≤ x5 then some (.inr x3) else (if x1 ≤ 0 then some (.inr x3) else (fnX11_isDrawn F r71 r73 r80 x2).bind (fun o4 => (if o4 = 0 then some (.inr x3) else (if mj_ib (((10 : Int32) * x2) + x5) 2000 = true then (if mj_ib (((10 : Int32) * x2) + x5) 2000 = true then (fnX11_mostOf F r71 r73 r80 r83 r84 q96 (x1 - (1 : Int32)) (r84 ((((10 : Int32) * x2) + x5).toNatClampNeg))).bind (fun o8 => some (.inl ((if (((r85 ((((10 : Int32) * x2) + x5).toNatClampNeg)).toInt64) * o8) < x3 then x3 else (((r85 ((((10 : Int32) * x2) + x5).toNatClampNeg)).toInt64) * o8)), (x5 + (1))))) else none) else none))))) else none)
def bdX11_weighs_10 (F : Nat) (r71 : Nat → Int32) (r73 : Nat → Int32) (r80 : Nat → Int32) (r83 : Nat → Int32) (r84 : Nat → Int32) (r85 : Nat → Int32) (x1 : Int32) (x2 : Int32) (q96 : Nat → Int64) : Option (((Int32) × (Nat → Int64)) ⊕ ((Nat → Int64))) := (if (r71 24) ≤ x2 then some (.inr q96) else (mj_it (mj_u2 (fun z0 z1 => bdX11_weighs_23 F r71 r73 r80 r83 r84 r85 q96 x1 x2 z0 z1)) F ((0 : Int64), (0 : Int32))).bind (fun x3_10 => (if mj_ib (((200 : Int32) * x1) + x2) 2200 = true then some (.inl ((x2 + (1)), (vp_updL q96 ((((200 : Int32) * x1) + x2).toNatClampNeg) x3_10))) else none)))
def bdX11_weighs_2 (F : Nat) (r71 : Nat → Int32) (r73 : Nat → Int32) (r80 : Nat → Int32) (r83 : Nat → Int32) (r84 : Nat → Int32) (r85 : Nat → Int32) (x1 : Int32) (q96 : Nat → Int64) : Option (((Int32) × (Nat → Int64)) ⊕ ((Nat → Int64))) := (if (10 : Int32) < x1 then some (.inr q96) else (mj_it (mj_u2 (fun z0 z1 => bdX11_weighs_10 F r71 r73 r80 r83 r84 r85 x1 z0 z1)) F ((0 : Int32), q96)).bind (fun q96_13 => some (.inl ((x1 + (1)), q96_13))))
def fnX11_weighs (F : Nat) (r71 : Nat → Int32) (r73 : Nat → Int32) (r80 : Nat → Int32) (r83 : Nat → Int32) (r84 : Nat → Int32) (r85 : Nat → Int32) (q96 : Nat → Int64) : Option ((Nat → Int64)) := (mj_it (mj_u2 (fun z0 z1 => bdX11_weighs_2 F r71 r73 r80 r83 r84 r85 z0 z1)) F ((0 : Int32), q96)).bind (fun q96_14 => some q96_14)
set_option maxRecDepth 100000 in
set_option maxHeartbeats 4000000 in
theorem lpX11_weighs_23 {X : mj_XT} {l : Launch} {G : mj_GT} {ad : Nat → Nat} {Qn : Option Value → mj_IT → mj_LT → Prop} (hR : mj_R X l G mj_P0 mj_S0 98 ad 0 0 Qn) (F : Nat) (I : mj_IT) (L : mj_LT) (r71 : Nat → Int32) (r73 : Nat → Int32) (r80 : Nat → Int32) (r83 : Nat → Int32) (r84 : Nat → Int32) (r85 : Nat → Int32) (q96 : Nat → Int64) (x1 : Int32) (x2 : Int32) : ∀ (n : Nat) (s : ((Int64) × (Int32))) (e : ((Int64))), mj_it (mj_u2 (fun z0 z1 => bdX11_weighs_23 F r71 r73 r80 r83 r84 r85 q96 x1 x2 z0 z1)) n s = some e → (fun x3 => mj_W X G RX11 "weighs" cX11_weighs 6 5 none mj_P0 mj_S0 98 ad 0 0 90 [(0, .ref 71), (1, .int x1), (2, .int x2), (3, .long x3)] [] (mj_rows I [(71, r71), (73, r73), (80, r80), (83, r83), (84, r84), (85, r85)]) (mj_rows L [(96, q96)])) e → (mj_u2 (fun x3 x5 => mj_W X G RX11 "weighs" cX11_weighs 6 5 none mj_P0 mj_S0 98 ad 0 0 23 [(0, .ref 71), (1, .int x1), (2, .int x2), (3, .long x3), (5, .int x5)] [] (mj_rows I [(71, r71), (73, r73), (80, r80), (83, r83), (84, r84), (85, r85)]) (mj_rows L [(96, q96)]))) s := by
  refine mj_loop (fun s o hf hc hx => ?_)
  obtain ⟨x3, x5⟩ := s
  replace hf := mj_u2e hf
  refine mj_u2q ?_
  unfold bdX11_weighs_23 at hf
  refine mj_iload 4 dX11_weighs_23 rfl ?_
  refine mj_aload_n 0 dX11_weighs_25 rfl ?_
  refine mj_getP p0_71_30 (by decide) fl_X11_251 rfl s0_71 a0_71 dX11_weighs_26 ?_
  refine mj_iload_n 2 dX11_weighs_29 rfl ?_
  obtain ⟨z1, hf⟩ := mj_ck hf
  refine mj_ialdv (x := r83) rfl s0_83 a0_83 z1 dX11_weighs_30 ?_
  refine mj_icmp_ge 90 dX11_weighs_31 (by decide) (fun c2 => ?_) (fun c2 => ?_)
  · replace hf := mj_pos c2 hf
    refine mj_sub [0, 1, 2, 3] [(0, .ref 71), (1, .int x1), (2, .int x2), (3, .long x3)] rfl ?_
    obtain rfl := Option.some.inj hf
    have hZ := hx x3 rfl
    exact hZ
  · replace hf := mj_neg c2 hf
    refine mj_iload_n 1 dX11_weighs_34 rfl ?_
    refine mj_if_le 90 dX11_weighs_35 (by decide) (fun c3 => ?_) (fun c3 => ?_)
    · replace hf := mj_pos c3 hf
      refine mj_sub [0, 1, 2, 3] [(0, .ref 71), (1, .int x1), (2, .int x2), (3, .long x3)] rfl ?_
      obtain rfl := Option.some.inj hf
      have hZ := hx x3 rfl
      exact hZ
    · replace hf := mj_neg c3 hf
      refine mj_aload_n 0 dX11_weighs_38 rfl ?_
      refine mj_iload_n 2 dX11_weighs_39 rfl ?_
      obtain ⟨o4, ho4, hf⟩ := mj_bd hf
      refine mj_callVd (I2 := (mj_rows I [(71, r71), (73, r73), (80, r80), (83, r83), (84, r84), (85, r85)])) (L2 := (mj_rows L [(96, q96)])) (s1 := [.int o4]) (st := []) [.int x2] (cmX11_isDrawn X.2.1 G F x2 _ _ r71 r73 r80 rfl rfl rfl o4 ho4) (mj_rr rfl) rfl cw_X11_401 s0_71 a0_71 (by decide) rfl rfl (Nat.le_of_ble_eq_true rfl) ⟨Nat.zero_le _, Nat.zero_le _⟩ dX11_weighs_40 rfl ?_
      refine mj_if_eq 90 dX11_weighs_43 (by decide) (fun c5 => ?_) (fun c5 => ?_)
      · replace hf := mj_pos c5 hf
        refine mj_sub [0, 1, 2, 3] [(0, .ref 71), (1, .int x1), (2, .int x2), (3, .long x3)] rfl ?_
        obtain rfl := Option.some.inj hf
        have hZ := hx x3 rfl
        exact hZ
      · replace hf := mj_neg c5 hf
        refine mj_lload_n 3 dX11_weighs_46 rfl ?_
        refine mj_aload_n 0 dX11_weighs_47 rfl ?_
        refine mj_getP p0_71_32 (by decide) fl_X11_254 rfl s0_71 a0_71 dX11_weighs_48 ?_
        refine mj_bipush dX11_weighs_51 kc_bipush_10 ?_
        refine mj_iload_n 2 dX11_weighs_53 rfl ?_
        refine mj_imul dX11_weighs_54 ?_
        refine mj_iload 4 dX11_weighs_55 rfl ?_
        refine mj_iadd dX11_weighs_57 ?_
        obtain ⟨z6, hf⟩ := mj_ck hf
        refine mj_ialdv (x := r85) rfl s0_85 a0_85 z6 dX11_weighs_58 ?_
        refine mj_i2l dX11_weighs_59 ?_
        refine mj_aload_n 0 dX11_weighs_60 rfl ?_
        refine mj_iload_n 1 dX11_weighs_61 rfl ?_
        refine mj_iconst dX11_weighs_62 kc_iconst_1 ?_
        refine mj_isub dX11_weighs_63 ?_
        refine mj_aload_n 0 dX11_weighs_64 rfl ?_
        refine mj_getP p0_71_31 (by decide) fl_X11_248 rfl s0_71 a0_71 dX11_weighs_65 ?_
        refine mj_bipush dX11_weighs_68 kc_bipush_10 ?_
        refine mj_iload_n 2 dX11_weighs_70 rfl ?_
        refine mj_imul dX11_weighs_71 ?_
        refine mj_iload 4 dX11_weighs_72 rfl ?_
        refine mj_iadd dX11_weighs_74 ?_
        obtain ⟨z7, hf⟩ := mj_ck hf
        refine mj_ialdv (x := r84) rfl s0_84 a0_84 z7 dX11_weighs_75 ?_
        obtain ⟨o8, ho8, hf⟩ := mj_bd hf
        refine mj_callVd (I2 := (mj_rows I [(71, r71), (73, r73), (80, r80), (83, r83), (84, r84), (85, r85)])) (L2 := (mj_rows L [(96, q96)])) (s1 := [.long o8, .long ((r85 ((((10 : Int32) * x2) + x5).toNatClampNeg)).toInt64), .long x3]) (st := [.long ((r85 ((((10 : Int32) * x2) + x5).toNatClampNeg)).toInt64), .long x3]) [.int (x1 - (1 : Int32)), .int (r84 ((((10 : Int32) * x2) + x5).toNatClampNeg))] (cmX11_mostOf X.2.1 G F (x1 - (1 : Int32)) (r84 ((((10 : Int32) * x2) + x5).toNatClampNeg)) _ _ r71 r73 r80 r83 r84 q96 rfl rfl rfl rfl rfl rfl o8 ho8) (mj_rr rfl) (mj_rr rfl) cw_X11_410 s0_71 a0_71 (by decide) rfl rfl (Nat.le_of_ble_eq_true rfl) ⟨Nat.zero_le _, Nat.zero_le _⟩ dX11_weighs_76 rfl ?_
        refine mj_lmul dX11_weighs_79 ?_
        refine mj_mmaxl mx_X11_413 (by decide) (Nat.le_of_ble_eq_true rfl) ⟨Nat.zero_le _, Nat.zero_le _⟩ dX11_weighs_80 ?_
        refine mj_lstore_n [(3, .long (if (((r85 ((((10 : Int32) * x2) + x5).toNatClampNeg)).toInt64) * o8) < x3 then x3 else (((r85 ((((10 : Int32) * x2) + x5).toNatClampNeg)).toInt64) * o8))), (0, .ref 71), (1, .int x1), (2, .int x2), (5, .int x5)] dX11_weighs_83 rfl (by decide) rfl ?_
        refine mj_iinc 4 [(5, .int (x5 + (1))), (3, .long (if (((r85 ((((10 : Int32) * x2) + x5).toNatClampNeg)).toInt64) * o8) < x3 then x3 else (((r85 ((((10 : Int32) * x2) + x5).toNatClampNeg)).toInt64) * o8))), (0, .ref 71), (1, .int x1), (2, .int x2)] dX11_weighs_84 rfl (kz_1 _) (by decide) rfl ?_
        refine mj_goto 23 dX11_weighs_87 (by decide) ?_
        refine mj_sub [2, 3, 4, 1, 0] [(0, .ref 71), (1, .int x1), (2, .int x2), (3, .long (if (((r85 ((((10 : Int32) * x2) + x5).toNatClampNeg)).toInt64) * o8) < x3 then x3 else (((r85 ((((10 : Int32) * x2) + x5).toNatClampNeg)).toInt64) * o8))), (5, .int (x5 + (1)))] rfl ?_
        obtain rfl := Option.some.inj hf
        have hZ := hc ((if (((r85 ((((10 : Int32) * x2) + x5).toNatClampNeg)).toInt64) * o8) < x3 then x3 else (((r85 ((((10 : Int32) * x2) + x5).toNatClampNeg)).toInt64) * o8)), (x5 + (1))) rfl
        replace hZ := mj_u2p hZ
        exact hZ
set_option maxRecDepth 100000 in
set_option maxHeartbeats 4000000 in
theorem lpX11_weighs_10 {X : mj_XT} {l : Launch} {G : mj_GT} {ad : Nat → Nat} {Qn : Option Value → mj_IT → mj_LT → Prop} (hR : mj_R X l G mj_P0 mj_S0 98 ad 0 0 Qn) (F : Nat) (I : mj_IT) (L : mj_LT) (r71 : Nat → Int32) (r73 : Nat → Int32) (r80 : Nat → Int32) (r83 : Nat → Int32) (r84 : Nat → Int32) (r85 : Nat → Int32) (q96 : Nat → Int64) (x1 : Int32) : ∀ (n : Nat) (s : ((Int32) × (Nat → Int64))) (e : ((Nat → Int64))), mj_it (mj_u2 (fun z0 z1 => bdX11_weighs_10 F r71 r73 r80 r83 r84 r85 x1 z0 z1)) n s = some e → (fun q96 => mj_W X G RX11 "weighs" cX11_weighs 6 5 none mj_P0 mj_S0 98 ad 0 0 109 [(0, .ref 71), (1, .int x1)] [] (mj_rows I [(71, r71), (73, r73), (80, r80), (83, r83), (84, r84), (85, r85)]) (mj_rows L [(96, q96)])) e → (mj_u2 (fun x2 q96 => mj_W X G RX11 "weighs" cX11_weighs 6 5 none mj_P0 mj_S0 98 ad 0 0 10 [(0, .ref 71), (1, .int x1), (2, .int x2)] [] (mj_rows I [(71, r71), (73, r73), (80, r80), (83, r83), (84, r84), (85, r85)]) (mj_rows L [(96, q96)]))) s := by
  refine mj_loop (fun s o hf hc hx => ?_)
  obtain ⟨x2, q96⟩ := s
  replace hf := mj_u2e hf
  refine mj_u2q ?_
  unfold bdX11_weighs_10 at hf
  refine mj_iload_n 2 dX11_weighs_10 rfl ?_
  refine mj_aload_n 0 dX11_weighs_11 rfl ?_
  refine mj_getIv (v := (r71 24)) rfl fl_X11_227 rfl s0_71 a0_71 dX11_weighs_12 ?_
  refine mj_icmp_ge 109 dX11_weighs_15 (by decide) (fun c9 => ?_) (fun c9 => ?_)
  · replace hf := mj_pos c9 hf
    refine mj_sub [0, 1] [(0, .ref 71), (1, .int x1)] rfl ?_
    obtain rfl := Option.some.inj hf
    have hZ := hx q96 rfl
    exact hZ
  · replace hf := mj_neg c9 hf
    refine mj_lconst (v := 0) dX11_weighs_18 (by decide) ?_
    refine mj_lstore_n [(3, .long (0 : Int64)), (0, .ref 71), (1, .int x1), (2, .int x2)] dX11_weighs_19 rfl (by decide) rfl ?_
    refine mj_iconst dX11_weighs_20 kc_iconst_0 ?_
    refine mj_istore [(5, .int (0 : Int32)), (3, .long (0 : Int64)), (0, .ref 71), (1, .int x1), (2, .int x2)] dX11_weighs_21 (by decide) rfl ?_
    refine mj_sub [2, 3, 4, 1, 0] [(0, .ref 71), (1, .int x1), (2, .int x2), (3, .long (0 : Int64)), (5, .int (0 : Int32))] rfl ?_
    obtain ⟨x3_10, ho10, hf⟩ := mj_bd hf
    refine lpX11_weighs_23 hR F I L r71 r73 r80 r83 r84 r85 q96 x1 x2 F ((0 : Int64), (0 : Int32)) x3_10 ho10 ?_
    refine ?_
    refine mj_aload_n 0 dX11_weighs_90 rfl ?_
    refine mj_getP p0_71_44 (by decide) fl_X11_407 rfl s0_71 a0_71 dX11_weighs_91 ?_
    refine mj_sipush dX11_weighs_94 kc_sipush_200 ?_
    refine mj_iload_n 1 dX11_weighs_97 rfl ?_
    refine mj_imul dX11_weighs_98 ?_
    refine mj_iload_n 2 dX11_weighs_99 rfl ?_
    refine mj_iadd dX11_weighs_100 ?_
    refine mj_lload_n 3 dX11_weighs_101 rfl ?_
    obtain ⟨z11, hf⟩ := mj_ck hf
    refine mj_lastr [(96, (vp_updL q96 ((((200 : Int32) * x1) + x2).toNatClampNeg) x3_10))] rfl s0_96 a0_96 z11 dX11_weighs_102 ?_
    refine mj_iinc 2 [(2, .int (x2 + (1))), (0, .ref 71), (1, .int x1), (3, .long x3_10)] dX11_weighs_103 rfl (kz_1 _) (by decide) rfl ?_
    refine mj_goto 10 dX11_weighs_106 (by decide) ?_
    refine mj_sub [1, 2, 0] [(0, .ref 71), (1, .int x1), (2, .int (x2 + (1)))] rfl ?_
    obtain rfl := Option.some.inj hf
    have hZ := hc ((x2 + (1)), (vp_updL q96 ((((200 : Int32) * x1) + x2).toNatClampNeg) x3_10)) rfl
    replace hZ := mj_u2p hZ
    exact hZ
set_option maxRecDepth 100000 in
set_option maxHeartbeats 4000000 in
theorem lpX11_weighs_2 {X : mj_XT} {l : Launch} {G : mj_GT} {ad : Nat → Nat} {Qn : Option Value → mj_IT → mj_LT → Prop} (hR : mj_R X l G mj_P0 mj_S0 98 ad 0 0 Qn) (F : Nat) (I : mj_IT) (L : mj_LT) (r71 : Nat → Int32) (r73 : Nat → Int32) (r80 : Nat → Int32) (r83 : Nat → Int32) (r84 : Nat → Int32) (r85 : Nat → Int32) (q96 : Nat → Int64) : ∀ (n : Nat) (s : ((Int32) × (Nat → Int64))) (e : ((Nat → Int64))), mj_it (mj_u2 (fun z0 z1 => bdX11_weighs_2 F r71 r73 r80 r83 r84 r85 z0 z1)) n s = some e → (fun q96 => mj_W X G RX11 "weighs" cX11_weighs 6 5 none mj_P0 mj_S0 98 ad 0 0 115 [] [] (mj_rows I [(71, r71), (73, r73), (80, r80), (83, r83), (84, r84), (85, r85)]) (mj_rows L [(96, q96)])) e → (mj_u2 (fun x1 q96 => mj_W X G RX11 "weighs" cX11_weighs 6 5 none mj_P0 mj_S0 98 ad 0 0 2 [(0, .ref 71), (1, .int x1)] [] (mj_rows I [(71, r71), (73, r73), (80, r80), (83, r83), (84, r84), (85, r85)]) (mj_rows L [(96, q96)]))) s := by
  refine mj_loop (fun s o hf hc hx => ?_)
  obtain ⟨x1, q96⟩ := s
  replace hf := mj_u2e hf
  refine mj_u2q ?_
  unfold bdX11_weighs_2 at hf
  refine mj_iload_n 1 dX11_weighs_2 rfl ?_
  refine mj_bipush dX11_weighs_3 kc_bipush_10 ?_
  refine mj_icmp_gt 115 dX11_weighs_5 (by decide) (fun c12 => ?_) (fun c12 => ?_)
  · replace hf := mj_pos c12 hf
    refine mj_sub [] [] rfl ?_
    obtain rfl := Option.some.inj hf
    have hZ := hx q96 rfl
    exact hZ
  · replace hf := mj_neg c12 hf
    refine mj_iconst dX11_weighs_8 kc_iconst_0 ?_
    refine mj_istore_n [(2, .int (0 : Int32)), (0, .ref 71), (1, .int x1)] dX11_weighs_9 rfl (by decide) rfl ?_
    refine mj_sub [1, 2, 0] [(0, .ref 71), (1, .int x1), (2, .int (0 : Int32))] rfl ?_
    obtain ⟨q96_13, ho13, hf⟩ := mj_bd hf
    refine lpX11_weighs_10 hR F I L r71 r73 r80 r83 r84 r85 q96 x1 F ((0 : Int32), q96) q96_13 ho13 ?_
    refine ?_
    refine mj_iinc 1 [(1, .int (x1 + (1))), (0, .ref 71)] dX11_weighs_109 rfl (kz_1 _) (by decide) rfl ?_
    refine mj_goto 2 dX11_weighs_112 (by decide) ?_
    refine mj_sub [1, 0] [(0, .ref 71), (1, .int (x1 + (1)))] rfl ?_
    obtain rfl := Option.some.inj hf
    have hZ := hc ((x1 + (1)), q96_13) rfl
    replace hZ := mj_u2p hZ
    exact hZ
set_option maxRecDepth 100000 in
set_option maxHeartbeats 4000000 in
theorem mtX11_weighs {X : mj_XT} {l : Launch} {G : mj_GT} {ad : Nat → Nat} {Qn : Option Value → mj_IT → mj_LT → Prop} (hR : mj_R X l G mj_P0 mj_S0 98 ad 0 0 Qn) (F : Nat) (I : mj_IT) (L : mj_LT) (r71 : Nat → Int32) (r73 : Nat → Int32) (r80 : Nat → Int32) (r83 : Nat → Int32) (r84 : Nat → Int32) (r85 : Nat → Int32) (q96 : Nat → Int64) (o : ((Nat → Int64))) (hf : fnX11_weighs F r71 r73 r80 r83 r84 r85 q96 = some o) (hq : (fun q96 => Qn none (mj_rows I [(71, r71), (73, r73), (80, r80), (83, r83), (84, r84), (85, r85)]) (mj_rows L [(96, q96)])) o) : mj_W X G RX11 "weighs" cX11_weighs 6 5 none mj_P0 mj_S0 98 ad 0 0 0 [(0, .ref 71)] [] (mj_rows I [(71, r71), (73, r73), (80, r80), (83, r83), (84, r84), (85, r85)]) (mj_rows L [(96, q96)]) := by
  unfold fnX11_weighs at hf
  refine mj_iconst dX11_weighs_0 kc_iconst_0 ?_
  refine mj_istore_n [(1, .int (0 : Int32)), (0, .ref 71)] dX11_weighs_1 rfl (by decide) rfl ?_
  refine mj_sub [1, 0] [(0, .ref 71), (1, .int (0 : Int32))] rfl ?_
  obtain ⟨q96_14, ho14, hf⟩ := mj_bd hf
  refine lpX11_weighs_2 hR F I L r71 r73 r80 r83 r84 r85 q96 F ((0 : Int32), q96) q96_14 ho14 ?_
  refine ?_
  obtain rfl := Option.some.inj hf
  have hZ := hq
  exact mj_vret hR ⟨Nat.le_refl _, Nat.le_refl _⟩ rfl dX11_weighs_115 hZ
set_option maxRecDepth 100000 in
set_option maxHeartbeats 4000000 in
theorem cmX11_weighs (l : Launch) (G : mj_GT) (F : Nat) (I : mj_IT) (L : mj_LT) (r71 : Nat → Int32) (r73 : Nat → Int32) (r80 : Nat → Int32) (r83 : Nat → Int32) (r84 : Nat → Int32) (r85 : Nat → Int32) (q96 : Nat → Int64) (hr71 : I 71 = r71) (hr73 : I 73 = r73) (hr80 : I 80 = r80) (hr83 : I 83 = r83) (hr84 : I 84 = r84) (hr85 : I 85 = r85) (hq96 : L 96 = q96) (o : ((Nat → Int64))) (hf : fnX11_weighs F r71 r73 r80 r83 r84 r85 q96 = some o) : mj_M l G yX11_weighs cX11_weighs 6 5 none 0 0 mj_P0 mj_S0 98 [.ref 71] I L (mj_qd none (mj_rows I [(71, r71), (73, r73), (80, r80), (83, r83), (84, r84), (85, r85)]) (mj_rows L [(96, o)])) := by
  refine mj_in RX11 "weighs" [(0, .ref 71)] rfl rfl rfl (by decide) (Nat.le_of_ble_eq_true rfl) (fun X ad hR => ?_)
  refine mj_toI [(71, r71), (73, r73), (80, r80), (83, r83), (84, r84), (85, r85)] (by intro q hq; simp only [List.mem_cons, List.not_mem_nil, or_false] at hq; rcases hq with rfl | rfl | rfl | rfl | rfl | rfl <;> assumption) ?_
  refine mj_toL [(96, q96)] (by intro q hq; simp only [List.mem_cons, List.not_mem_nil, or_false] at hq; rcases hq with rfl <;> assumption) ?_
  refine mtX11_weighs hR F I L r71 r73 r80 r83 r84 r85 q96 o hf ?_
  exact ⟨rfl, rfl, rfl⟩

-- X11_sixties
def bdX11_sixties_4 (F : Nat) (x0 : Int32) (x1 : Int64) (x3 : Int32) : Option (((Int64) × (Int32)) ⊕ ((Int64))) := (if x0 ≤ x3 then some (.inr x1) else some (.inl ((x1 * (60 : Int64)), (x3 + (1)))))
def fnX11_sixties (F : Nat) (x0 : Int32) : Option ((Int64)) := (mj_it (mj_u2 (fun z0 z1 => bdX11_sixties_4 F x0 z0 z1)) F ((1 : Int64), (0 : Int32))).bind (fun x1_2 => some x1_2)
set_option maxRecDepth 100000 in
set_option maxHeartbeats 4000000 in
theorem lpX11_sixties_4 {X : mj_XT} {l : Launch} {G : mj_GT} {ad : Nat → Nat} {Qn : Option Value → mj_IT → mj_LT → Prop} (hR : mj_R X l G mj_P0 mj_S0 98 ad 0 0 Qn) (F : Nat) (I : mj_IT) (L : mj_LT) (x0 : Int32) : ∀ (n : Nat) (s : ((Int64) × (Int32))) (e : ((Int64))), mj_it (mj_u2 (fun z0 z1 => bdX11_sixties_4 F x0 z0 z1)) n s = some e → (fun x1 => mj_W X G RX11 "sixties" cX11_sixties 4 1 (some .long) mj_P0 mj_S0 98 ad 0 0 21 [(1, .long x1)] [] I L) e → (mj_u2 (fun x1 x3 => mj_W X G RX11 "sixties" cX11_sixties 4 1 (some .long) mj_P0 mj_S0 98 ad 0 0 4 [(0, .int x0), (1, .long x1), (3, .int x3)] [] I L)) s := by
  refine mj_loop (fun s o hf hc hx => ?_)
  obtain ⟨x1, x3⟩ := s
  replace hf := mj_u2e hf
  refine mj_u2q ?_
  unfold bdX11_sixties_4 at hf
  refine mj_iload_n 2 dX11_sixties_4 rfl ?_
  refine mj_iload_n 0 dX11_sixties_5 rfl ?_
  refine mj_icmp_ge 21 dX11_sixties_6 (by decide) (fun c1 => ?_) (fun c1 => ?_)
  · replace hf := mj_pos c1 hf
    refine mj_sub [1] [(1, .long x1)] rfl ?_
    obtain rfl := Option.some.inj hf
    have hZ := hx x1 rfl
    exact hZ
  · replace hf := mj_neg c1 hf
    refine mj_lload_n 1 dX11_sixties_9 rfl ?_
    refine mj_ldc2 kk_X11_206 dX11_sixties_10 ?_
    refine mj_lmul dX11_sixties_13 ?_
    refine mj_lstore_n [(1, .long (x1 * (60 : Int64))), (0, .int x0), (3, .int x3)] dX11_sixties_14 rfl (by decide) rfl ?_
    refine mj_iinc 2 [(3, .int (x3 + (1))), (1, .long (x1 * (60 : Int64))), (0, .int x0)] dX11_sixties_15 rfl (kz_1 _) (by decide) rfl ?_
    refine mj_goto 4 dX11_sixties_18 (by decide) ?_
    refine mj_sub [2, 1, 0] [(0, .int x0), (1, .long (x1 * (60 : Int64))), (3, .int (x3 + (1)))] rfl ?_
    obtain rfl := Option.some.inj hf
    have hZ := hc ((x1 * (60 : Int64)), (x3 + (1))) rfl
    replace hZ := mj_u2p hZ
    exact hZ
set_option maxRecDepth 100000 in
set_option maxHeartbeats 4000000 in
theorem mtX11_sixties {X : mj_XT} {l : Launch} {G : mj_GT} {ad : Nat → Nat} {Qn : Option Value → mj_IT → mj_LT → Prop} (hR : mj_R X l G mj_P0 mj_S0 98 ad 0 0 Qn) (F : Nat) (I : mj_IT) (L : mj_LT) (x0 : Int32) (o : ((Int64))) (hf : fnX11_sixties F x0 = some o) (hq : (fun ov => Qn (some (.long ov)) I L) o) : mj_W X G RX11 "sixties" cX11_sixties 4 1 (some .long) mj_P0 mj_S0 98 ad 0 0 0 [(0, .int x0)] [] I L := by
  unfold fnX11_sixties at hf
  refine mj_lconst (v := 1) dX11_sixties_0 (by decide) ?_
  refine mj_lstore_n [(1, .long (1 : Int64)), (0, .int x0)] dX11_sixties_1 rfl (by decide) rfl ?_
  refine mj_iconst dX11_sixties_2 kc_iconst_0 ?_
  refine mj_istore_n [(3, .int (0 : Int32)), (1, .long (1 : Int64)), (0, .int x0)] dX11_sixties_3 rfl (by decide) rfl ?_
  refine mj_sub [2, 1, 0] [(0, .int x0), (1, .long (1 : Int64)), (3, .int (0 : Int32))] rfl ?_
  obtain ⟨x1_2, ho2, hf⟩ := mj_bd hf
  refine lpX11_sixties_4 hR F I L x0 F ((1 : Int64), (0 : Int32)) x1_2 ho2 ?_
  refine ?_
  refine mj_lload_n 0 dX11_sixties_21 rfl ?_
  obtain rfl := Option.some.inj hf
  have hZ := hq
  exact mj_lret hR ⟨Nat.le_refl _, Nat.le_refl _⟩ rfl dX11_sixties_22 hZ
set_option maxRecDepth 100000 in
set_option maxHeartbeats 4000000 in
theorem cmX11_sixties (l : Launch) (G : mj_GT) (F : Nat) (x0 : Int32) (I : mj_IT) (L : mj_LT) (o : ((Int64))) (hf : fnX11_sixties F x0 = some o) : mj_M l G yX11_sixties cX11_sixties 4 1 (some .long) 0 0 mj_P0 mj_S0 98 [.int x0] I L (mj_qd (some (.long o)) I L) := by
  refine mj_in RX11 "sixties" [(0, .int x0)] rfl rfl rfl (by decide) (Nat.le_of_ble_eq_true rfl) (fun X ad hR => ?_)
  refine mtX11_sixties hR F I L x0 o hf ?_
  exact ⟨rfl, rfl, rfl⟩

-- X11_length
def bdX11_length_8 (F : Nat) (r71 : Nat → Int32) (r73 : Nat → Int32) (r80 : Nat → Int32) (r83 : Nat → Int32) (r84 : Nat → Int32) (q96 : Nat → Int64) (x1 : Int32) (x2 : Int32) : Option (((Int32) × (Int32)) ⊕ ((Int32))) := (if (10 : Int32) < x2 then some (.inr x1) else (fnX11_mostOf F r71 r73 r80 r83 r84 q96 x2 (0 : Int32)).bind (fun o2 => (fnX11_sixties F ((10 : Int32) - x2)).bind (fun o3 => (if x1 = (-1 : Int32) then (if (o2 * o3) ≤ (0 : Int64) then some (.inl (x1, (x2 + (1)))) else some (.inl (x2, (x2 + (1))))) else (fnX11_mostOf F r71 r73 r80 r83 r84 q96 x1 (0 : Int32)).bind (fun o5 => (fnX11_sixties F ((10 : Int32) - x1)).bind (fun o6 => (if (o2 * o3) ≤ (o5 * o6) then some (.inl (x1, (x2 + (1)))) else some (.inl (x2, (x2 + (1)))))))))))
def fnX11_length (F : Nat) (r71 : Nat → Int32) (r73 : Nat → Int32) (r80 : Nat → Int32) (r83 : Nat → Int32) (r84 : Nat → Int32) (r85 : Nat → Int32) (q96 : Nat → Int64) : Option ((Int32) × (Nat → Int64)) := (fnX11_weighs F r71 r73 r80 r83 r84 r85 q96).bind (fun o9 => (mj_it (mj_u2 (fun z0 z1 => bdX11_length_8 F r71 r73 r80 r83 r84 o9 z0 z1)) F ((-1 : Int32), (0 : Int32))).bind (fun x1_10 => some (x1_10, o9)))
set_option maxRecDepth 100000 in
set_option maxHeartbeats 4000000 in
theorem lpX11_length_8 {X : mj_XT} {l : Launch} {G : mj_GT} {ad : Nat → Nat} {Qn : Option Value → mj_IT → mj_LT → Prop} (hR : mj_R X l G mj_P0 mj_S0 98 ad 0 0 Qn) (F : Nat) (I : mj_IT) (L : mj_LT) (r71 : Nat → Int32) (r73 : Nat → Int32) (r80 : Nat → Int32) (r83 : Nat → Int32) (r84 : Nat → Int32) (r85 : Nat → Int32) (q96 : Nat → Int64) : ∀ (n : Nat) (s : ((Int32) × (Int32))) (e : ((Int32))), mj_it (mj_u2 (fun z0 z1 => bdX11_length_8 F r71 r73 r80 r83 r84 q96 z0 z1)) n s = some e → (fun x1 => mj_W X G RX11 "length" cX11_length 3 6 (some .int) mj_P0 mj_S0 98 ad 0 0 63 [(1, .int x1)] [] (mj_rows I [(71, r71), (73, r73), (80, r80), (83, r83), (84, r84), (85, r85)]) (mj_rows L [(96, q96)])) e → (mj_u2 (fun x1 x2 => mj_W X G RX11 "length" cX11_length 3 6 (some .int) mj_P0 mj_S0 98 ad 0 0 8 [(0, .ref 71), (1, .int x1), (2, .int x2)] [] (mj_rows I [(71, r71), (73, r73), (80, r80), (83, r83), (84, r84), (85, r85)]) (mj_rows L [(96, q96)]))) s := by
  refine mj_loop (fun s o hf hc hx => ?_)
  obtain ⟨x1, x2⟩ := s
  replace hf := mj_u2e hf
  refine mj_u2q ?_
  unfold bdX11_length_8 at hf
  refine mj_iload_n 2 dX11_length_8 rfl ?_
  refine mj_bipush dX11_length_9 kc_bipush_10 ?_
  refine mj_icmp_gt 63 dX11_length_11 (by decide) (fun c1 => ?_) (fun c1 => ?_)
  · replace hf := mj_pos c1 hf
    refine mj_sub [1] [(1, .int x1)] rfl ?_
    obtain rfl := Option.some.inj hf
    have hZ := hx x1 rfl
    exact hZ
  · replace hf := mj_neg c1 hf
    refine mj_aload_n 0 dX11_length_14 rfl ?_
    refine mj_iload_n 2 dX11_length_15 rfl ?_
    refine mj_iconst dX11_length_16 kc_iconst_0 ?_
    obtain ⟨o2, ho2, hf⟩ := mj_bd hf
    refine mj_callVd (I2 := (mj_rows I [(71, r71), (73, r73), (80, r80), (83, r83), (84, r84), (85, r85)])) (L2 := (mj_rows L [(96, q96)])) (s1 := [.long o2]) (st := []) [.int x2, .int (0 : Int32)] (cmX11_mostOf X.2.1 G F x2 (0 : Int32) _ _ r71 r73 r80 r83 r84 q96 rfl rfl rfl rfl rfl rfl o2 ho2) (mj_rr rfl) (mj_rr rfl) cw_X11_410 s0_71 a0_71 (by decide) rfl rfl (Nat.le_of_ble_eq_true rfl) ⟨Nat.zero_le _, Nat.zero_le _⟩ dX11_length_17 rfl ?_
    refine mj_bipush dX11_length_20 kc_bipush_10 ?_
    refine mj_iload_n 2 dX11_length_22 rfl ?_
    refine mj_isub dX11_length_23 ?_
    obtain ⟨o3, ho3, hf⟩ := mj_bd hf
    refine mj_callSd (I2 := (mj_rows I [(71, r71), (73, r73), (80, r80), (83, r83), (84, r84), (85, r85)])) (L2 := (mj_rows L [(96, q96)])) (s1 := [.long o3, .long o2]) (st := [.long o2]) [.int ((10 : Int32) - x2)] (cmX11_sixties X.2.1 G F ((10 : Int32) - x2) _ _   o3 ho3) rfl rfl cw_X11_419 (by decide) rfl rfl (Nat.le_of_ble_eq_true rfl) ⟨Nat.zero_le _, Nat.zero_le _⟩ dX11_length_24 rfl ?_
    refine mj_lmul dX11_length_27 ?_
    refine mj_iload_n 1 dX11_length_28 rfl ?_
    refine mj_iconst dX11_length_29 kc_iconst_m1 ?_
    refine mj_icmp_ne 37 dX11_length_30 (by decide) (fun c4 => ?_) (fun c4 => ?_)
    · replace hf := mj_neg c4 hf
      refine mj_aload_n 0 dX11_length_37 rfl ?_
      refine mj_iload_n 1 dX11_length_38 rfl ?_
      refine mj_iconst dX11_length_39 kc_iconst_0 ?_
      obtain ⟨o5, ho5, hf⟩ := mj_bd hf
      refine mj_callVd (I2 := (mj_rows I [(71, r71), (73, r73), (80, r80), (83, r83), (84, r84), (85, r85)])) (L2 := (mj_rows L [(96, q96)])) (s1 := [.long o5, .long (o2 * o3)]) (st := [.long (o2 * o3)]) [.int x1, .int (0 : Int32)] (cmX11_mostOf X.2.1 G F x1 (0 : Int32) _ _ r71 r73 r80 r83 r84 q96 rfl rfl rfl rfl rfl rfl o5 ho5) (mj_rr rfl) (mj_rr rfl) cw_X11_410 s0_71 a0_71 (by decide) rfl rfl (Nat.le_of_ble_eq_true rfl) ⟨Nat.zero_le _, Nat.zero_le _⟩ dX11_length_40 rfl ?_
      refine mj_bipush dX11_length_43 kc_bipush_10 ?_
      refine mj_iload_n 1 dX11_length_45 rfl ?_
      refine mj_isub dX11_length_46 ?_
      obtain ⟨o6, ho6, hf⟩ := mj_bd hf
      refine mj_callSd (I2 := (mj_rows I [(71, r71), (73, r73), (80, r80), (83, r83), (84, r84), (85, r85)])) (L2 := (mj_rows L [(96, q96)])) (s1 := [.long o6, .long o5, .long (o2 * o3)]) (st := [.long o5, .long (o2 * o3)]) [.int ((10 : Int32) - x1)] (cmX11_sixties X.2.1 G F ((10 : Int32) - x1) _ _   o6 ho6) rfl rfl cw_X11_419 (by decide) rfl rfl (Nat.le_of_ble_eq_true rfl) ⟨Nat.zero_le _, Nat.zero_le _⟩ dX11_length_47 rfl ?_
      refine mj_lmul dX11_length_50 ?_
      refine mj_lc_le 57 dX11_length_51 dX11_length_52 (by decide) (fun c7 => ?_) (fun c7 => ?_)
      · replace hf := mj_pos c7 hf
        refine mj_iinc 2 [(2, .int (x2 + (1))), (0, .ref 71), (1, .int x1)] dX11_length_57 rfl (kz_1 _) (by decide) rfl ?_
        refine mj_goto 8 dX11_length_60 (by decide) ?_
        refine mj_sub [1, 2, 0] [(0, .ref 71), (1, .int x1), (2, .int (x2 + (1)))] rfl ?_
        obtain rfl := Option.some.inj hf
        have hZ := hc (x1, (x2 + (1))) rfl
        replace hZ := mj_u2p hZ
        exact hZ
      · replace hf := mj_neg c7 hf
        refine mj_iload_n 2 dX11_length_55 rfl ?_
        refine mj_istore_n [(1, .int x2), (0, .ref 71), (2, .int x2)] dX11_length_56 rfl (by decide) rfl ?_
        refine mj_iinc 2 [(2, .int (x2 + (1))), (1, .int x2), (0, .ref 71)] dX11_length_57 rfl (kz_1 _) (by decide) rfl ?_
        refine mj_goto 8 dX11_length_60 (by decide) ?_
        refine mj_sub [2, 1, 0] [(0, .ref 71), (1, .int x2), (2, .int (x2 + (1)))] rfl ?_
        obtain rfl := Option.some.inj hf
        have hZ := hc (x2, (x2 + (1))) rfl
        replace hZ := mj_u2p hZ
        exact hZ
    · replace hf := mj_pos c4 hf
      refine mj_lconst (v := 0) dX11_length_33 (by decide) ?_
      refine mj_goto 51 dX11_length_34 (by decide) ?_
      refine mj_lc_le 57 dX11_length_51 dX11_length_52 (by decide) (fun c8 => ?_) (fun c8 => ?_)
      · replace hf := mj_pos c8 hf
        refine mj_iinc 2 [(2, .int (x2 + (1))), (0, .ref 71), (1, .int x1)] dX11_length_57 rfl (kz_1 _) (by decide) rfl ?_
        refine mj_goto 8 dX11_length_60 (by decide) ?_
        refine mj_sub [1, 2, 0] [(0, .ref 71), (1, .int x1), (2, .int (x2 + (1)))] rfl ?_
        obtain rfl := Option.some.inj hf
        have hZ := hc (x1, (x2 + (1))) rfl
        replace hZ := mj_u2p hZ
        exact hZ
      · replace hf := mj_neg c8 hf
        refine mj_iload_n 2 dX11_length_55 rfl ?_
        refine mj_istore_n [(1, .int x2), (0, .ref 71), (2, .int x2)] dX11_length_56 rfl (by decide) rfl ?_
        refine mj_iinc 2 [(2, .int (x2 + (1))), (1, .int x2), (0, .ref 71)] dX11_length_57 rfl (kz_1 _) (by decide) rfl ?_
        refine mj_goto 8 dX11_length_60 (by decide) ?_
        refine mj_sub [2, 1, 0] [(0, .ref 71), (1, .int x2), (2, .int (x2 + (1)))] rfl ?_
        obtain rfl := Option.some.inj hf
        have hZ := hc (x2, (x2 + (1))) rfl
        replace hZ := mj_u2p hZ
        exact hZ
set_option maxRecDepth 100000 in
set_option maxHeartbeats 4000000 in
theorem mtX11_length {X : mj_XT} {l : Launch} {G : mj_GT} {ad : Nat → Nat} {Qn : Option Value → mj_IT → mj_LT → Prop} (hR : mj_R X l G mj_P0 mj_S0 98 ad 0 0 Qn) (F : Nat) (I : mj_IT) (L : mj_LT) (r71 : Nat → Int32) (r73 : Nat → Int32) (r80 : Nat → Int32) (r83 : Nat → Int32) (r84 : Nat → Int32) (r85 : Nat → Int32) (q96 : Nat → Int64) (o : ((Int32) × (Nat → Int64))) (hf : fnX11_length F r71 r73 r80 r83 r84 r85 q96 = some o) (hq : (mj_u2 (fun ov q96 => Qn (some (.int ov)) (mj_rows I [(71, r71), (73, r73), (80, r80), (83, r83), (84, r84), (85, r85)]) (mj_rows L [(96, q96)]))) o) : mj_W X G RX11 "length" cX11_length 3 6 (some .int) mj_P0 mj_S0 98 ad 0 0 0 [(0, .ref 71)] [] (mj_rows I [(71, r71), (73, r73), (80, r80), (83, r83), (84, r84), (85, r85)]) (mj_rows L [(96, q96)]) := by
  unfold fnX11_length at hf
  refine mj_aload_n 0 dX11_length_0 rfl ?_
  obtain ⟨o9, ho9, hf⟩ := mj_bd hf
  refine mj_callVd (I2 := (mj_rows I [(71, r71), (73, r73), (80, r80), (83, r83), (84, r84), (85, r85)])) (L2 := (mj_rows L [(96, o9)])) (s1 := []) (st := []) [] (cmX11_weighs X.2.1 G F  _ _ r71 r73 r80 r83 r84 r85 q96 rfl rfl rfl rfl rfl rfl rfl o9 ho9) (mj_rr rfl) (mj_rr rfl) cw_X11_416 s0_71 a0_71 (by decide) rfl rfl (Nat.le_of_ble_eq_true rfl) ⟨Nat.zero_le _, Nat.zero_le _⟩ dX11_length_1 rfl ?_
  refine mj_iconst dX11_length_4 kc_iconst_m1 ?_
  refine mj_istore_n [(1, .int (-1 : Int32)), (0, .ref 71)] dX11_length_5 rfl (by decide) rfl ?_
  refine mj_iconst dX11_length_6 kc_iconst_0 ?_
  refine mj_istore_n [(2, .int (0 : Int32)), (1, .int (-1 : Int32)), (0, .ref 71)] dX11_length_7 rfl (by decide) rfl ?_
  refine mj_sub [2, 1, 0] [(0, .ref 71), (1, .int (-1 : Int32)), (2, .int (0 : Int32))] rfl ?_
  obtain ⟨x1_10, ho10, hf⟩ := mj_bd hf
  refine lpX11_length_8 hR F I L r71 r73 r80 r83 r84 r85 o9 F ((-1 : Int32), (0 : Int32)) x1_10 ho10 ?_
  refine ?_
  refine mj_iload_n 0 dX11_length_63 rfl ?_
  obtain rfl := Option.some.inj hf
  have hZ := hq
  replace hZ := mj_u2p hZ
  exact mj_iret hR ⟨Nat.le_refl _, Nat.le_refl _⟩ rfl rfl dX11_length_64 hZ
set_option maxRecDepth 100000 in
set_option maxHeartbeats 4000000 in
theorem cmX11_length (l : Launch) (G : mj_GT) (F : Nat) (I : mj_IT) (L : mj_LT) (r71 : Nat → Int32) (r73 : Nat → Int32) (r80 : Nat → Int32) (r83 : Nat → Int32) (r84 : Nat → Int32) (r85 : Nat → Int32) (q96 : Nat → Int64) (hr71 : I 71 = r71) (hr73 : I 73 = r73) (hr80 : I 80 = r80) (hr83 : I 83 = r83) (hr84 : I 84 = r84) (hr85 : I 85 = r85) (hq96 : L 96 = q96) (o : ((Int32) × (Nat → Int64))) (hf : fnX11_length F r71 r73 r80 r83 r84 r85 q96 = some o) : mj_M l G yX11_length cX11_length 3 6 (some .int) 0 0 mj_P0 mj_S0 98 [.ref 71] I L (mj_qd (some (.int o.1)) (mj_rows I [(71, r71), (73, r73), (80, r80), (83, r83), (84, r84), (85, r85)]) (mj_rows L [(96, o.2)])) := by
  refine mj_in RX11 "length" [(0, .ref 71)] rfl rfl rfl (by decide) (Nat.le_of_ble_eq_true rfl) (fun X ad hR => ?_)
  refine mj_toI [(71, r71), (73, r73), (80, r80), (83, r83), (84, r84), (85, r85)] (by intro q hq; simp only [List.mem_cons, List.not_mem_nil, or_false] at hq; rcases hq with rfl | rfl | rfl | rfl | rfl | rfl <;> assumption) ?_
  refine mj_toL [(96, q96)] (by intro q hq; simp only [List.mem_cons, List.not_mem_nil, or_false] at hq; rcases hq with rfl <;> assumption) ?_
  refine mtX11_length hR F I L r71 r73 r80 r83 r84 r85 q96 o hf ?_
  obtain ⟨w0, w1⟩ := o
  refine mj_u2q ?_
  exact ⟨rfl, rfl, rfl⟩

-- X11_arcTo
def fnX11_arcTo (F : Nat) (r73 : Nat → Int32) (r80 : Nat → Int32) (x1 : Int32) (x2 : Int32) : Option ((Int32)) := (if mj_ib x1 200 = true then (fnX11_of F r73 (r80 x1.toNatClampNeg) (2 : Int32)).bind (fun o2 => (if o2 = 0 then some (0 : Int32) else (if x2 = 0 then some (1 : Int32) else some (0 : Int32)))) else none)
set_option maxRecDepth 100000 in
set_option maxHeartbeats 4000000 in
theorem mtX11_arcTo {X : mj_XT} {l : Launch} {G : mj_GT} {ad : Nat → Nat} {Qn : Option Value → mj_IT → mj_LT → Prop} (hR : mj_R X l G mj_P0 mj_S0 98 ad 0 0 Qn) (F : Nat) (I : mj_IT) (L : mj_LT) (r73 : Nat → Int32) (r80 : Nat → Int32) (x1 : Int32) (x2 : Int32) (o : ((Int32))) (hf : fnX11_arcTo F r73 r80 x1 x2 = some o) (hq : (fun ov => Qn (some (.int ov)) (mj_rows I [(73, r73), (80, r80)]) L) o) : mj_W X G RX11 "arcTo" cX11_arcTo 3 2 (some .int) mj_P0 mj_S0 98 ad 0 0 0 [(0, .ref 71), (1, .int x1), (2, .int x2)] [] (mj_rows I [(73, r73), (80, r80)]) L := by
  unfold fnX11_arcTo at hf
  refine mj_aload_n 0 dX11_arcTo_0 rfl ?_
  refine mj_aload_n 0 dX11_arcTo_1 rfl ?_
  refine mj_getP p0_71_27 (by decide) fl_X11_230 rfl s0_71 a0_71 dX11_arcTo_2 ?_
  refine mj_iload_n 1 dX11_arcTo_5 rfl ?_
  obtain ⟨z1, hf⟩ := mj_ck hf
  refine mj_ialdv (x := r80) rfl s0_80 a0_80 z1 dX11_arcTo_6 ?_
  refine mj_iconst dX11_arcTo_7 kc_iconst_2 ?_
  obtain ⟨o2, ho2, hf⟩ := mj_bd hf
  refine mj_callVd (I2 := (mj_rows I [(73, r73), (80, r80)])) (L2 := L) (s1 := [.int o2]) (st := []) [.int (r80 x1.toNatClampNeg), .int (2 : Int32)] (cmX11_of X.2.1 G F (r80 x1.toNatClampNeg) (2 : Int32) _ _ r73 rfl o2 ho2) (mj_rr rfl) rfl cw_X11_175 s0_71 a0_71 (by decide) rfl rfl (Nat.le_of_ble_eq_true rfl) ⟨Nat.zero_le _, Nat.zero_le _⟩ dX11_arcTo_8 rfl ?_
  refine mj_if_ne 18 dX11_arcTo_11 (by decide) (fun c3 => ?_) (fun c3 => ?_)
  · replace hf := mj_neg c3 hf
    refine mj_iload_n 2 dX11_arcTo_18 rfl ?_
    refine mj_if_ne 26 dX11_arcTo_19 (by decide) (fun c4 => ?_) (fun c4 => ?_)
    · replace hf := mj_neg c4 hf
      refine mj_iconst dX11_arcTo_26 kc_iconst_0 ?_
      obtain rfl := Option.some.inj hf
      have hZ := hq
      exact mj_iret hR ⟨Nat.le_refl _, Nat.le_refl _⟩ rfl rfl dX11_arcTo_27 hZ
    · replace hf := mj_pos c4 hf
      refine mj_iconst dX11_arcTo_22 kc_iconst_1 ?_
      refine mj_goto 27 dX11_arcTo_23 (by decide) ?_
      obtain rfl := Option.some.inj hf
      have hZ := hq
      exact mj_iret hR ⟨Nat.le_refl _, Nat.le_refl _⟩ rfl rfl dX11_arcTo_27 hZ
  · replace hf := mj_pos c3 hf
    refine mj_iconst dX11_arcTo_14 kc_iconst_0 ?_
    refine mj_goto 27 dX11_arcTo_15 (by decide) ?_
    obtain rfl := Option.some.inj hf
    have hZ := hq
    exact mj_iret hR ⟨Nat.le_refl _, Nat.le_refl _⟩ rfl rfl dX11_arcTo_27 hZ
set_option maxRecDepth 100000 in
set_option maxHeartbeats 4000000 in
theorem cmX11_arcTo (l : Launch) (G : mj_GT) (F : Nat) (x1 : Int32) (x2 : Int32) (I : mj_IT) (L : mj_LT) (r73 : Nat → Int32) (r80 : Nat → Int32) (hr73 : I 73 = r73) (hr80 : I 80 = r80) (o : ((Int32))) (hf : fnX11_arcTo F r73 r80 x1 x2 = some o) : mj_M l G yX11_arcTo cX11_arcTo 3 2 (some .int) 0 0 mj_P0 mj_S0 98 [.ref 71, .int x1, .int x2] I L (mj_qd (some (.int o)) (mj_rows I [(73, r73), (80, r80)]) L) := by
  refine mj_in RX11 "arcTo" [(0, .ref 71), (1, .int x1), (2, .int x2)] rfl rfl rfl (by decide) (Nat.le_of_ble_eq_true rfl) (fun X ad hR => ?_)
  refine mj_toI [(73, r73), (80, r80)] (by intro q hq; simp only [List.mem_cons, List.not_mem_nil, or_false] at hq; rcases hq with rfl | rfl <;> assumption) ?_
  refine mtX11_arcTo hR F I L r73 r80 x1 x2 o hf ?_
  exact ⟨rfl, rfl, rfl⟩

-- X11_drawnAt
def bdX11_drawnAt_12 (F : Nat) (r71 : Nat → Int32) (r73 : Nat → Int32) (r80 : Nat → Int32) (r83 : Nat → Int32) (r84 : Nat → Int32) (r85 : Nat → Int32) (q96 : Nat → Int64) (x1 : Int32) (x2 : Int32) (x3 : Int32) (x4 : Int32) (x5 : Int32) : Option (((Int32)) ⊕ ((Int32))) := (if mj_ib (((10 : Int32) * x3) + x5) 2000 = true then (if mj_ib (((10 : Int32) * x3) + x5) 2000 = true then (fnX11_mostOf F r71 r73 r80 r83 r84 q96 (x4 - (1 : Int32)) (r84 ((((10 : Int32) * x3) + x5).toNatClampNeg))).bind (fun o3 => (if mj_ib (((200 : Int32) * x4) + x3) 2200 = true then (if (((r85 ((((10 : Int32) * x3) + x5).toNatClampNeg)).toInt64) * o3) = (q96 ((((200 : Int32) * x4) + x3).toNatClampNeg)) then some (.inr x5) else some (.inl (x5 + (1)))) else none)) else none) else none)
def bdX11_drawnAt_9 (F : Nat) (r71 : Nat → Int32) (r73 : Nat → Int32) (r80 : Nat → Int32) (r83 : Nat → Int32) (r84 : Nat → Int32) (r85 : Nat → Int32) (q96 : Nat → Int64) (x1 : Int32) (x2 : Int32) (x3 : Int32) (x4 : Int32) : Option (((Int32) × (Int32)) ⊕ ((Int32) × (Int32))) := (mj_it (bdX11_drawnAt_12 F r71 r73 r80 r83 r84 r85 q96 x1 x2 x3 x4) F (0 : Int32)).bind (fun x5_6 => (if (x1 - x4) = x2 then some (.inr (x3, x5_6)) else (if mj_ib (((10 : Int32) * x3) + x5_6) 2000 = true then (fnX11_ahead F r71 r73 r80 r83 r84 (r84 ((((10 : Int32) * x3) + x5_6).toNatClampNeg))).bind (fun o9 => some (.inl (o9, (x4 + (-1))))) else none)))
def fnX11_drawnAt (F : Nat) (r71 : Nat → Int32) (r73 : Nat → Int32) (r80 : Nat → Int32) (r83 : Nat → Int32) (r84 : Nat → Int32) (r85 : Nat → Int32) (q96 : Nat → Int64) (x1 : Int32) (x2 : Int32) : Option ((Int32)) := (fnX11_ahead F r71 r73 r80 r83 r84 (0 : Int32)).bind (fun o10 => (mj_it (mj_u2 (fun z0 z1 => bdX11_drawnAt_9 F r71 r73 r80 r83 r84 r85 q96 x1 x2 z0 z1)) F (o10, x1)).bind (mj_u2 (fun x3_11 x5_11 => (if mj_ib x3_11 200 = true then (fnX11_of F r73 (r80 x3_11.toNatClampNeg) (0 : Int32)).bind (fun o13 => (if o13 = (1 : Int32) then some x5_11 else (fnX11_arcTo F r73 r80 x3_11 x5_11).bind (fun o15 => some o15))) else none))))
set_option maxRecDepth 100000 in
set_option maxHeartbeats 4000000 in
theorem lpX11_drawnAt_12 {X : mj_XT} {l : Launch} {G : mj_GT} {ad : Nat → Nat} {Qn : Option Value → mj_IT → mj_LT → Prop} (hR : mj_R X l G mj_P0 mj_S0 98 ad 0 0 Qn) (F : Nat) (I : mj_IT) (L : mj_LT) (r71 : Nat → Int32) (r73 : Nat → Int32) (r80 : Nat → Int32) (r83 : Nat → Int32) (r84 : Nat → Int32) (r85 : Nat → Int32) (q96 : Nat → Int64) (x1 : Int32) (x2 : Int32) (x3 : Int32) (x4 : Int32) : ∀ (n : Nat) (s : ((Int32))) (e : ((Int32))), mj_it (bdX11_drawnAt_12 F r71 r73 r80 r83 r84 r85 q96 x1 x2 x3 x4) n s = some e → (fun x5 => mj_W X G RX11 "drawnAt" cX11_drawnAt 6 5 (some .int) mj_P0 mj_S0 98 ad 0 0 69 [(0, .ref 71), (1, .int x1), (2, .int x2), (3, .int x3), (4, .int x4), (5, .int x5)] [] (mj_rows I [(71, r71), (73, r73), (80, r80), (83, r83), (84, r84), (85, r85)]) (mj_rows L [(96, q96)])) e → (fun x5 => mj_W X G RX11 "drawnAt" cX11_drawnAt 6 5 (some .int) mj_P0 mj_S0 98 ad 0 0 12 [(0, .ref 71), (1, .int x1), (2, .int x2), (3, .int x3), (4, .int x4), (5, .int x5)] [] (mj_rows I [(71, r71), (73, r73), (80, r80), (83, r83), (84, r84), (85, r85)]) (mj_rows L [(96, q96)])) s := by
  refine mj_loop (fun x5 o hf hc hx => ?_)
  unfold bdX11_drawnAt_12 at hf
  refine mj_aload_n 0 dX11_drawnAt_12 rfl ?_
  refine mj_getP p0_71_32 (by decide) fl_X11_254 rfl s0_71 a0_71 dX11_drawnAt_13 ?_
  refine mj_bipush dX11_drawnAt_16 kc_bipush_10 ?_
  refine mj_iload_n 3 dX11_drawnAt_18 rfl ?_
  refine mj_imul dX11_drawnAt_19 ?_
  refine mj_iload 5 dX11_drawnAt_20 rfl ?_
  refine mj_iadd dX11_drawnAt_22 ?_
  obtain ⟨z1, hf⟩ := mj_ck hf
  refine mj_ialdv (x := r85) rfl s0_85 a0_85 z1 dX11_drawnAt_23 ?_
  refine mj_i2l dX11_drawnAt_24 ?_
  refine mj_aload_n 0 dX11_drawnAt_25 rfl ?_
  refine mj_iload 4 dX11_drawnAt_26 rfl ?_
  refine mj_iconst dX11_drawnAt_28 kc_iconst_1 ?_
  refine mj_isub dX11_drawnAt_29 ?_
  refine mj_aload_n 0 dX11_drawnAt_30 rfl ?_
  refine mj_getP p0_71_31 (by decide) fl_X11_248 rfl s0_71 a0_71 dX11_drawnAt_31 ?_
  refine mj_bipush dX11_drawnAt_34 kc_bipush_10 ?_
  refine mj_iload_n 3 dX11_drawnAt_36 rfl ?_
  refine mj_imul dX11_drawnAt_37 ?_
  refine mj_iload 5 dX11_drawnAt_38 rfl ?_
  refine mj_iadd dX11_drawnAt_40 ?_
  obtain ⟨z2, hf⟩ := mj_ck hf
  refine mj_ialdv (x := r84) rfl s0_84 a0_84 z2 dX11_drawnAt_41 ?_
  obtain ⟨o3, ho3, hf⟩ := mj_bd hf
  refine mj_callVd (I2 := (mj_rows I [(71, r71), (73, r73), (80, r80), (83, r83), (84, r84), (85, r85)])) (L2 := (mj_rows L [(96, q96)])) (s1 := [.long o3, .long ((r85 ((((10 : Int32) * x3) + x5).toNatClampNeg)).toInt64)]) (st := [.long ((r85 ((((10 : Int32) * x3) + x5).toNatClampNeg)).toInt64)]) [.int (x4 - (1 : Int32)), .int (r84 ((((10 : Int32) * x3) + x5).toNatClampNeg))] (cmX11_mostOf X.2.1 G F (x4 - (1 : Int32)) (r84 ((((10 : Int32) * x3) + x5).toNatClampNeg)) _ _ r71 r73 r80 r83 r84 q96 rfl rfl rfl rfl rfl rfl o3 ho3) (mj_rr rfl) (mj_rr rfl) cw_X11_410 s0_71 a0_71 (by decide) rfl rfl (Nat.le_of_ble_eq_true rfl) ⟨Nat.zero_le _, Nat.zero_le _⟩ dX11_drawnAt_42 rfl ?_
  refine mj_lmul dX11_drawnAt_45 ?_
  refine mj_aload_n 0 dX11_drawnAt_46 rfl ?_
  refine mj_getP p0_71_44 (by decide) fl_X11_407 rfl s0_71 a0_71 dX11_drawnAt_47 ?_
  refine mj_sipush dX11_drawnAt_50 kc_sipush_200 ?_
  refine mj_iload 4 dX11_drawnAt_53 rfl ?_
  refine mj_imul dX11_drawnAt_55 ?_
  refine mj_iload_n 3 dX11_drawnAt_56 rfl ?_
  refine mj_iadd dX11_drawnAt_57 ?_
  obtain ⟨z4, hf⟩ := mj_ck hf
  refine mj_laldv (x := q96) rfl s0_96 a0_96 z4 dX11_drawnAt_58 ?_
  refine mj_lc_eq 69 dX11_drawnAt_59 dX11_drawnAt_60 (by decide) (fun c5 => ?_) (fun c5 => ?_)
  · replace hf := mj_pos c5 hf
    obtain rfl := Option.some.inj hf
    have hZ := hx x5 rfl
    exact hZ
  · replace hf := mj_neg c5 hf
    refine mj_iinc 5 [(5, .int (x5 + (1))), (0, .ref 71), (1, .int x1), (2, .int x2), (3, .int x3), (4, .int x4)] dX11_drawnAt_63 rfl (kz_1 _) (by decide) rfl ?_
    refine mj_goto 12 dX11_drawnAt_66 (by decide) ?_
    refine mj_sub [1, 2, 3, 4, 5, 0] [(0, .ref 71), (1, .int x1), (2, .int x2), (3, .int x3), (4, .int x4), (5, .int (x5 + (1)))] rfl ?_
    obtain rfl := Option.some.inj hf
    have hZ := hc (x5 + (1)) rfl
    exact hZ
set_option maxRecDepth 100000 in
set_option maxHeartbeats 4000000 in
theorem lpX11_drawnAt_9 {X : mj_XT} {l : Launch} {G : mj_GT} {ad : Nat → Nat} {Qn : Option Value → mj_IT → mj_LT → Prop} (hR : mj_R X l G mj_P0 mj_S0 98 ad 0 0 Qn) (F : Nat) (I : mj_IT) (L : mj_LT) (r71 : Nat → Int32) (r73 : Nat → Int32) (r80 : Nat → Int32) (r83 : Nat → Int32) (r84 : Nat → Int32) (r85 : Nat → Int32) (q96 : Nat → Int64) (x1 : Int32) (x2 : Int32) : ∀ (n : Nat) (s : ((Int32) × (Int32))) (e : ((Int32) × (Int32))), mj_it (mj_u2 (fun z0 z1 => bdX11_drawnAt_9 F r71 r73 r80 r83 r84 r85 q96 x1 x2 z0 z1)) n s = some e → (mj_u2 (fun x3 x5 => mj_W X G RX11 "drawnAt" cX11_drawnAt 6 5 (some .int) mj_P0 mj_S0 98 ad 0 0 77 [(0, .ref 71), (3, .int x3), (5, .int x5)] [] (mj_rows I [(71, r71), (73, r73), (80, r80), (83, r83), (84, r84), (85, r85)]) (mj_rows L [(96, q96)]))) e → (mj_u2 (fun x3 x4 => mj_W X G RX11 "drawnAt" cX11_drawnAt 6 5 (some .int) mj_P0 mj_S0 98 ad 0 0 9 [(0, .ref 71), (1, .int x1), (2, .int x2), (3, .int x3), (4, .int x4)] [] (mj_rows I [(71, r71), (73, r73), (80, r80), (83, r83), (84, r84), (85, r85)]) (mj_rows L [(96, q96)]))) s := by
  refine mj_loop (fun s o hf hc hx => ?_)
  obtain ⟨x3, x4⟩ := s
  replace hf := mj_u2e hf
  refine mj_u2q ?_
  unfold bdX11_drawnAt_9 at hf
  refine mj_iconst dX11_drawnAt_9 kc_iconst_0 ?_
  refine mj_istore [(5, .int (0 : Int32)), (0, .ref 71), (1, .int x1), (2, .int x2), (3, .int x3), (4, .int x4)] dX11_drawnAt_10 (by decide) rfl ?_
  refine mj_sub [1, 2, 3, 4, 5, 0] [(0, .ref 71), (1, .int x1), (2, .int x2), (3, .int x3), (4, .int x4), (5, .int (0 : Int32))] rfl ?_
  obtain ⟨x5_6, ho6, hf⟩ := mj_bd hf
  refine lpX11_drawnAt_12 hR F I L r71 r73 r80 r83 r84 r85 q96 x1 x2 x3 x4 F (0 : Int32) x5_6 ho6 ?_
  refine ?_
  refine mj_iload_n 1 dX11_drawnAt_69 rfl ?_
  refine mj_iload 4 dX11_drawnAt_70 rfl ?_
  refine mj_isub dX11_drawnAt_72 ?_
  refine mj_iload_n 2 dX11_drawnAt_73 rfl ?_
  refine mj_icmp_ne 105 dX11_drawnAt_74 (by decide) (fun c7 => ?_) (fun c7 => ?_)
  · replace hf := mj_neg c7 hf
    refine mj_aload_n 0 dX11_drawnAt_105 rfl ?_
    refine mj_aload_n 0 dX11_drawnAt_106 rfl ?_
    refine mj_getP p0_71_31 (by decide) fl_X11_248 rfl s0_71 a0_71 dX11_drawnAt_107 ?_
    refine mj_bipush dX11_drawnAt_110 kc_bipush_10 ?_
    refine mj_iload_n 3 dX11_drawnAt_112 rfl ?_
    refine mj_imul dX11_drawnAt_113 ?_
    refine mj_iload 5 dX11_drawnAt_114 rfl ?_
    refine mj_iadd dX11_drawnAt_116 ?_
    obtain ⟨z8, hf⟩ := mj_ck hf
    refine mj_ialdv (x := r84) rfl s0_84 a0_84 z8 dX11_drawnAt_117 ?_
    obtain ⟨o9, ho9, hf⟩ := mj_bd hf
    refine mj_callVd (I2 := (mj_rows I [(71, r71), (73, r73), (80, r80), (83, r83), (84, r84), (85, r85)])) (L2 := (mj_rows L [(96, q96)])) (s1 := [.int o9]) (st := []) [.int (r84 ((((10 : Int32) * x3) + x5_6).toNatClampNeg))] (cmX11_ahead X.2.1 G F (r84 ((((10 : Int32) * x3) + x5_6).toNatClampNeg)) _ _ r71 r73 r80 r83 r84 rfl rfl rfl rfl rfl o9 ho9) (mj_rr rfl) rfl cw_X11_404 s0_71 a0_71 (by decide) rfl rfl (Nat.le_of_ble_eq_true rfl) ⟨Nat.zero_le _, Nat.zero_le _⟩ dX11_drawnAt_118 rfl ?_
    refine mj_istore_n [(3, .int o9), (0, .ref 71), (1, .int x1), (2, .int x2), (4, .int x4), (5, .int x5_6)] dX11_drawnAt_121 rfl (by decide) rfl ?_
    refine mj_iinc 4 [(4, .int (x4 + (-1))), (3, .int o9), (0, .ref 71), (1, .int x1), (2, .int x2), (5, .int x5_6)] dX11_drawnAt_122 rfl (kz_m1 _) (by decide) rfl ?_
    refine mj_goto 9 dX11_drawnAt_125 (by decide) ?_
    refine mj_sub [2, 3, 4, 1, 0] [(0, .ref 71), (1, .int x1), (2, .int x2), (3, .int o9), (4, .int (x4 + (-1)))] rfl ?_
    obtain rfl := Option.some.inj hf
    have hZ := hc (o9, (x4 + (-1))) rfl
    replace hZ := mj_u2p hZ
    exact hZ
  · replace hf := mj_pos c7 hf
    refine mj_sub [0, 3, 5] [(0, .ref 71), (3, .int x3), (5, .int x5_6)] rfl ?_
    obtain rfl := Option.some.inj hf
    have hZ := hx (x3, x5_6) rfl
    replace hZ := mj_u2p hZ
    exact hZ
set_option maxRecDepth 100000 in
set_option maxHeartbeats 4000000 in
theorem mtX11_drawnAt {X : mj_XT} {l : Launch} {G : mj_GT} {ad : Nat → Nat} {Qn : Option Value → mj_IT → mj_LT → Prop} (hR : mj_R X l G mj_P0 mj_S0 98 ad 0 0 Qn) (F : Nat) (I : mj_IT) (L : mj_LT) (r71 : Nat → Int32) (r73 : Nat → Int32) (r80 : Nat → Int32) (r83 : Nat → Int32) (r84 : Nat → Int32) (r85 : Nat → Int32) (q96 : Nat → Int64) (x1 : Int32) (x2 : Int32) (o : ((Int32))) (hf : fnX11_drawnAt F r71 r73 r80 r83 r84 r85 q96 x1 x2 = some o) (hq : (fun ov => Qn (some (.int ov)) (mj_rows I [(71, r71), (73, r73), (80, r80), (83, r83), (84, r84), (85, r85)]) (mj_rows L [(96, q96)])) o) : mj_W X G RX11 "drawnAt" cX11_drawnAt 6 5 (some .int) mj_P0 mj_S0 98 ad 0 0 0 [(0, .ref 71), (1, .int x1), (2, .int x2)] [] (mj_rows I [(71, r71), (73, r73), (80, r80), (83, r83), (84, r84), (85, r85)]) (mj_rows L [(96, q96)]) := by
  unfold fnX11_drawnAt at hf
  refine mj_aload_n 0 dX11_drawnAt_0 rfl ?_
  refine mj_iconst dX11_drawnAt_1 kc_iconst_0 ?_
  obtain ⟨o10, ho10, hf⟩ := mj_bd hf
  refine mj_callVd (I2 := (mj_rows I [(71, r71), (73, r73), (80, r80), (83, r83), (84, r84), (85, r85)])) (L2 := (mj_rows L [(96, q96)])) (s1 := [.int o10]) (st := []) [.int (0 : Int32)] (cmX11_ahead X.2.1 G F (0 : Int32) _ _ r71 r73 r80 r83 r84 rfl rfl rfl rfl rfl o10 ho10) (mj_rr rfl) rfl cw_X11_404 s0_71 a0_71 (by decide) rfl rfl (Nat.le_of_ble_eq_true rfl) ⟨Nat.zero_le _, Nat.zero_le _⟩ dX11_drawnAt_2 rfl ?_
  refine mj_istore_n [(3, .int o10), (0, .ref 71), (1, .int x1), (2, .int x2)] dX11_drawnAt_5 rfl (by decide) rfl ?_
  refine mj_iload_n 2 dX11_drawnAt_6 rfl ?_
  refine mj_istore [(4, .int x1), (3, .int o10), (0, .ref 71), (1, .int x1), (2, .int x2)] dX11_drawnAt_7 (by decide) rfl ?_
  refine mj_sub [2, 3, 4, 1, 0] [(0, .ref 71), (1, .int x1), (2, .int x2), (3, .int o10), (4, .int x1)] rfl ?_
  obtain ⟨e11, ho11, hf⟩ := mj_bd hf
  refine lpX11_drawnAt_9 hR F I L r71 r73 r80 r83 r84 r85 q96 x1 x2 F (o10, x1) e11 ho11 ?_
  obtain ⟨x3_11, x5_11⟩ := e11
  replace hf := mj_u2e hf
  refine ?_
  refine mj_u2q ?_
  refine mj_aload_n 0 dX11_drawnAt_77 rfl ?_
  refine mj_aload_n 0 dX11_drawnAt_78 rfl ?_
  refine mj_getP p0_71_27 (by decide) fl_X11_230 rfl s0_71 a0_71 dX11_drawnAt_79 ?_
  refine mj_iload_n 1 dX11_drawnAt_82 rfl ?_
  obtain ⟨z12, hf⟩ := mj_ck hf
  refine mj_ialdv (x := r80) rfl s0_80 a0_80 z12 dX11_drawnAt_83 ?_
  refine mj_iconst dX11_drawnAt_84 kc_iconst_0 ?_
  obtain ⟨o13, ho13, hf⟩ := mj_bd hf
  refine mj_callVd (I2 := (mj_rows I [(71, r71), (73, r73), (80, r80), (83, r83), (84, r84), (85, r85)])) (L2 := (mj_rows L [(96, q96)])) (s1 := [.int o13]) (st := []) [.int (r80 x3_11.toNatClampNeg), .int (0 : Int32)] (cmX11_of X.2.1 G F (r80 x3_11.toNatClampNeg) (0 : Int32) _ _ r73 rfl o13 ho13) (mj_rr rfl) rfl cw_X11_175 s0_71 a0_71 (by decide) rfl rfl (Nat.le_of_ble_eq_true rfl) ⟨Nat.zero_le _, Nat.zero_le _⟩ dX11_drawnAt_85 rfl ?_
  refine mj_iconst dX11_drawnAt_88 kc_iconst_1 ?_
  refine mj_icmp_ne 97 dX11_drawnAt_89 (by decide) (fun c14 => ?_) (fun c14 => ?_)
  · replace hf := mj_neg c14 hf
    refine mj_aload_n 0 dX11_drawnAt_97 rfl ?_
    refine mj_iload_n 1 dX11_drawnAt_98 rfl ?_
    refine mj_iload 2 dX11_drawnAt_99 rfl ?_
    obtain ⟨o15, ho15, hf⟩ := mj_bd hf
    refine mj_callVd (I2 := (mj_rows I [(71, r71), (73, r73), (80, r80), (83, r83), (84, r84), (85, r85)])) (L2 := (mj_rows L [(96, q96)])) (s1 := [.int o15]) (st := []) [.int x3_11, .int x5_11] (cmX11_arcTo X.2.1 G F x3_11 x5_11 _ _ r73 r80 rfl rfl o15 ho15) (mj_rr rfl) rfl cw_X11_422 s0_71 a0_71 (by decide) rfl rfl (Nat.le_of_ble_eq_true rfl) ⟨Nat.zero_le _, Nat.zero_le _⟩ dX11_drawnAt_101 rfl ?_
    obtain rfl := Option.some.inj hf
    have hZ := hq
    exact mj_iret hR ⟨Nat.le_refl _, Nat.le_refl _⟩ rfl rfl dX11_drawnAt_104 hZ
  · replace hf := mj_pos c14 hf
    refine mj_iload 2 dX11_drawnAt_92 rfl ?_
    refine mj_goto 104 dX11_drawnAt_94 (by decide) ?_
    obtain rfl := Option.some.inj hf
    have hZ := hq
    exact mj_iret hR ⟨Nat.le_refl _, Nat.le_refl _⟩ rfl rfl dX11_drawnAt_104 hZ
set_option maxRecDepth 100000 in
set_option maxHeartbeats 4000000 in
theorem cmX11_drawnAt (l : Launch) (G : mj_GT) (F : Nat) (x1 : Int32) (x2 : Int32) (I : mj_IT) (L : mj_LT) (r71 : Nat → Int32) (r73 : Nat → Int32) (r80 : Nat → Int32) (r83 : Nat → Int32) (r84 : Nat → Int32) (r85 : Nat → Int32) (q96 : Nat → Int64) (hr71 : I 71 = r71) (hr73 : I 73 = r73) (hr80 : I 80 = r80) (hr83 : I 83 = r83) (hr84 : I 84 = r84) (hr85 : I 85 = r85) (hq96 : L 96 = q96) (o : ((Int32))) (hf : fnX11_drawnAt F r71 r73 r80 r83 r84 r85 q96 x1 x2 = some o) : mj_M l G yX11_drawnAt cX11_drawnAt 6 5 (some .int) 0 0 mj_P0 mj_S0 98 [.ref 71, .int x1, .int x2] I L (mj_qd (some (.int o)) (mj_rows I [(71, r71), (73, r73), (80, r80), (83, r83), (84, r84), (85, r85)]) (mj_rows L [(96, q96)])) := by
  refine mj_in RX11 "drawnAt" [(0, .ref 71), (1, .int x1), (2, .int x2)] rfl rfl rfl (by decide) (Nat.le_of_ble_eq_true rfl) (fun X ad hR => ?_)
  refine mj_toI [(71, r71), (73, r73), (80, r80), (83, r83), (84, r84), (85, r85)] (by intro q hq; simp only [List.mem_cons, List.not_mem_nil, or_false] at hq; rcases hq with rfl | rfl | rfl | rfl | rfl | rfl <;> assumption) ?_
  refine mj_toL [(96, q96)] (by intro q hq; simp only [List.mem_cons, List.not_mem_nil, or_false] at hq; rcases hq with rfl <;> assumption) ?_
  refine mtX11_drawnAt hR F I L r71 r73 r80 r83 r84 r85 q96 x1 x2 o hf ?_
  exact ⟨rfl, rfl, rfl⟩

