-- X11_isSure
def fnX11_isSure (F : Nat) (r71 : Nat → Int32) (r80 : Nat → Int32) (r83 : Nat → Int32) (r84 : Nat → Int32) (r85 : Nat → Int32) (r86 : Nat → Int32) (r88 : Nat → Int32) (q89 : Nat → Int64) (q90 : Nat → Int64) (q97 : Nat → Int64) : Option ((Int32) × (Nat → Int32) × (Nat → Int32) × (Nat → Int64) × (Nat → Int64)) := (fnX11_solves F r71 r83 r84 r85 r86 r88 q89 q90 q97).bind (fun o1 => (if o1.1 = 0 then some ((0 : Int32), o1.2.1, o1.2.2.1, o1.2.2.2.1, o1.2.2.2.2) else (fnX11_ended F o1.2.1 r80 o1.2.2.2.2).bind (fun o3 => (if o3 = (0 : Int64) then some ((0 : Int32), o1.2.1, o1.2.2.1, o1.2.2.2.1, o1.2.2.2.2) else some ((1 : Int32), o1.2.1, o1.2.2.1, o1.2.2.2.1, o1.2.2.2.2)))))
set_option maxRecDepth 100000 in
set_option maxHeartbeats 4000000 in
theorem mtX11_isSure {X : mj_XT} {l : Launch} {G : mj_GT} {ad : Nat → Nat} {Qn : Option Value → mj_IT → mj_LT → Prop} (hR : mj_R X l G mj_P0 mj_S0 98 ad 0 0 Qn) (F : Nat) (I : mj_IT) (L : mj_LT) (r71 : Nat → Int32) (r80 : Nat → Int32) (r83 : Nat → Int32) (r84 : Nat → Int32) (r85 : Nat → Int32) (r86 : Nat → Int32) (r88 : Nat → Int32) (q89 : Nat → Int64) (q90 : Nat → Int64) (q97 : Nat → Int64) (o : ((Int32) × (Nat → Int32) × (Nat → Int32) × (Nat → Int64) × (Nat → Int64))) (hf : fnX11_isSure F r71 r80 r83 r84 r85 r86 r88 q89 q90 q97 = some o) (hq : (mj_u2 (fun ov => (mj_u2 (fun r71 => (mj_u2 (fun r88 => (mj_u2 (fun q89 q90 => Qn (some (.int ov)) (mj_rows I [(71, r71), (80, r80), (83, r83), (84, r84), (85, r85), (86, r86), (88, r88)]) (mj_rows L [(89, q89), (90, q90), (97, q97)]))))))))) o) : mj_W X G RX11 "isSure" cX11_isSure 1 5 (some .boolean) mj_P0 mj_S0 98 ad 0 0 0 [(0, .ref 71)] [] (mj_rows I [(71, r71), (80, r80), (83, r83), (84, r84), (85, r85), (86, r86), (88, r88)]) (mj_rows L [(89, q89), (90, q90), (97, q97)]) := by
  unfold fnX11_isSure at hf
  refine mj_aload_n 0 dX11_isSure_0 rfl ?_
  obtain ⟨o1, ho1, hf⟩ := mj_bd hf
  refine mj_callVd (I2 := (mj_rows I [(71, o1.2.1), (80, r80), (83, r83), (84, r84), (85, r85), (86, r86), (88, o1.2.2.1)])) (L2 := (mj_rows L [(89, o1.2.2.2.1), (90, o1.2.2.2.2), (97, q97)])) (s1 := [.int o1.1]) (st := []) [] (cmX11_solves X.2.1 G F  _ _ r71 r83 r84 r85 r86 r88 q89 q90 q97 rfl rfl rfl rfl rfl rfl rfl rfl rfl o1 ho1) (mj_rr rfl) (mj_rr rfl) cw_X11_344 s0_71 a0_71 (by decide) rfl rfl (Nat.le_of_ble_eq_true rfl) ⟨Nat.zero_le _, Nat.zero_le _⟩ dX11_isSure_1 rfl ?_
  refine mj_if_eq 20 dX11_isSure_4 (by decide) (fun c2 => ?_) (fun c2 => ?_)
  · replace hf := mj_pos c2 hf
    refine mj_iconst dX11_isSure_20 kc_iconst_0 ?_
    obtain rfl := Option.some.inj hf
    have hZ := hq
    replace hZ := mj_u2p hZ
    replace hZ := mj_u2p hZ
    replace hZ := mj_u2p hZ
    replace hZ := mj_u2p hZ
    exact mj_iret hR ⟨Nat.le_refl _, Nat.le_refl _⟩ rfl (by decide) dX11_isSure_21 hZ
  · replace hf := mj_neg c2 hf
    refine mj_aload_n 0 dX11_isSure_7 rfl ?_
    obtain ⟨o3, ho3, hf⟩ := mj_bd hf
    refine mj_callVd (I2 := (mj_rows I [(71, o1.2.1), (80, r80), (83, r83), (84, r84), (85, r85), (86, r86), (88, o1.2.2.1)])) (L2 := (mj_rows L [(89, o1.2.2.2.1), (90, o1.2.2.2.2), (97, q97)])) (s1 := [.long o3]) (st := []) [] (cmX11_ended X.2.1 G F  _ _ o1.2.1 r80 o1.2.2.2.2 rfl rfl rfl o3 ho3) (mj_rr rfl) (mj_rr rfl) cw_X11_347 s0_71 a0_71 (by decide) rfl rfl (Nat.le_of_ble_eq_true rfl) ⟨Nat.zero_le _, Nat.zero_le _⟩ dX11_isSure_8 rfl ?_
    refine mj_lconst (v := 0) dX11_isSure_11 (by decide) ?_
    refine mj_lc_eq 20 dX11_isSure_12 dX11_isSure_13 (by decide) (fun c4 => ?_) (fun c4 => ?_)
    · replace hf := mj_pos c4 hf
      refine mj_iconst dX11_isSure_20 kc_iconst_0 ?_
      obtain rfl := Option.some.inj hf
      have hZ := hq
      replace hZ := mj_u2p hZ
      replace hZ := mj_u2p hZ
      replace hZ := mj_u2p hZ
      replace hZ := mj_u2p hZ
      exact mj_iret hR ⟨Nat.le_refl _, Nat.le_refl _⟩ rfl (by decide) dX11_isSure_21 hZ
    · replace hf := mj_neg c4 hf
      refine mj_iconst dX11_isSure_16 kc_iconst_1 ?_
      refine mj_goto 21 dX11_isSure_17 (by decide) ?_
      obtain rfl := Option.some.inj hf
      have hZ := hq
      replace hZ := mj_u2p hZ
      replace hZ := mj_u2p hZ
      replace hZ := mj_u2p hZ
      replace hZ := mj_u2p hZ
      exact mj_iret hR ⟨Nat.le_refl _, Nat.le_refl _⟩ rfl (by decide) dX11_isSure_21 hZ
set_option maxRecDepth 100000 in
set_option maxHeartbeats 4000000 in
theorem cmX11_isSure (l : Launch) (G : mj_GT) (F : Nat) (I : mj_IT) (L : mj_LT) (r71 : Nat → Int32) (r80 : Nat → Int32) (r83 : Nat → Int32) (r84 : Nat → Int32) (r85 : Nat → Int32) (r86 : Nat → Int32) (r88 : Nat → Int32) (q89 : Nat → Int64) (q90 : Nat → Int64) (q97 : Nat → Int64) (hr71 : I 71 = r71) (hr80 : I 80 = r80) (hr83 : I 83 = r83) (hr84 : I 84 = r84) (hr85 : I 85 = r85) (hr86 : I 86 = r86) (hr88 : I 88 = r88) (hq89 : L 89 = q89) (hq90 : L 90 = q90) (hq97 : L 97 = q97) (o : ((Int32) × (Nat → Int32) × (Nat → Int32) × (Nat → Int64) × (Nat → Int64))) (hf : fnX11_isSure F r71 r80 r83 r84 r85 r86 r88 q89 q90 q97 = some o) : mj_M l G yX11_isSure cX11_isSure 1 5 (some .boolean) 0 0 mj_P0 mj_S0 98 [.ref 71] I L (mj_qd (some (.int o.1)) (mj_rows I [(71, o.2.1), (80, r80), (83, r83), (84, r84), (85, r85), (86, r86), (88, o.2.2.1)]) (mj_rows L [(89, o.2.2.2.1), (90, o.2.2.2.2), (97, q97)])) := by
  refine mj_in RX11 "isSure" [(0, .ref 71)] rfl rfl rfl (by decide) (Nat.le_of_ble_eq_true rfl) (fun X ad hR => ?_)
  refine mj_toI [(71, r71), (80, r80), (83, r83), (84, r84), (85, r85), (86, r86), (88, r88)] (by intro q hq; simp only [List.mem_cons, List.not_mem_nil, or_false] at hq; rcases hq with rfl | rfl | rfl | rfl | rfl | rfl | rfl <;> assumption) ?_
  refine mj_toL [(89, q89), (90, q90), (97, q97)] (by intro q hq; simp only [List.mem_cons, List.not_mem_nil, or_false] at hq; rcases hq with rfl | rfl | rfl <;> assumption) ?_
  refine mtX11_isSure hR F I L r71 r80 r83 r84 r85 r86 r88 q89 q90 q97 o hf ?_
  obtain ⟨w0, w1, w2, w3, w4⟩ := o
  refine mj_u2q ?_
  refine mj_u2q ?_
  refine mj_u2q ?_
  refine mj_u2q ?_
  exact ⟨rfl, rfl, rfl⟩

-- X11_oddsOf
def bdX11_oddsOf_6 (F : Nat) (r71 : Nat → Int32) (r80 : Nat → Int32) (r81 : Nat → Int32) (r87 : Nat → Int32) (q90 : Nat → Int64) (x1 : Int32) (x2 : Int32) (x3 : Int32) (x4 : Int32) (x5 : Int64) (x7 : Int32) : Option (((Int64) × (Int32)) ⊕ ((Int64))) := (if (r71 24) ≤ x7 then some (.inr x5) else (fnX11_isEnd F r71 r80 x7).bind (fun o2 => (if o2 = 0 then some (.inl ((x5 + (0 : Int64)), (x7 + (1)))) else (if mj_ib x7 200 = true then (fnX11_valueIn F r87 (r81 x7.toNatClampNeg) x1).bind (fun o5 => (if o5 = x2 then (if mj_ib x7 200 = true then (fnX11_valueIn F r87 (r81 x7.toNatClampNeg) x3).bind (fun o8 => (if o8 = x4 then (if mj_ib x7 200 = true then some (.inl ((x5 + (q90 x7.toNatClampNeg)), (x7 + (1)))) else none) else some (.inl ((x5 + (0 : Int64)), (x7 + (1)))))) else none) else some (.inl ((x5 + (0 : Int64)), (x7 + (1)))))) else none))))
def fnX11_oddsOf (F : Nat) (r71 : Nat → Int32) (r80 : Nat → Int32) (r81 : Nat → Int32) (r87 : Nat → Int32) (q90 : Nat → Int64) (x1 : Int32) (x2 : Int32) (x3 : Int32) (x4 : Int32) : Option ((Int64)) := (mj_it (mj_u2 (fun z0 z1 => bdX11_oddsOf_6 F r71 r80 r81 r87 q90 x1 x2 x3 x4 z0 z1)) F ((0 : Int64), (0 : Int32))).bind (fun x5_11 => (fnX11_ended F r71 r80 q90).bind (fun o12 => (fnX11_inverse F o12).bind (fun o13 => some (((x5_11 - x5_11 / (998244353 : Int64) * (998244353 : Int64)) * o13) - ((x5_11 - x5_11 / (998244353 : Int64) * (998244353 : Int64)) * o13) / (998244353 : Int64) * (998244353 : Int64)))))
set_option maxRecDepth 100000 in
set_option maxHeartbeats 4000000 in
theorem lpX11_oddsOf_6 {X : mj_XT} {l : Launch} {G : mj_GT} {ad : Nat → Nat} {Qn : Option Value → mj_IT → mj_LT → Prop} (hR : mj_R X l G mj_P0 mj_S0 98 ad 0 0 Qn) (F : Nat) (I : mj_IT) (L : mj_LT) (r71 : Nat → Int32) (r80 : Nat → Int32) (r81 : Nat → Int32) (r87 : Nat → Int32) (q90 : Nat → Int64) (x1 : Int32) (x2 : Int32) (x3 : Int32) (x4 : Int32) : ∀ (n : Nat) (s : ((Int64) × (Int32))) (e : ((Int64))), mj_it (mj_u2 (fun z0 z1 => bdX11_oddsOf_6 F r71 r80 r81 r87 q90 x1 x2 x3 x4 z0 z1)) n s = some e → (fun x5 => mj_W X G RX11 "oddsOf" cX11_oddsOf 8 3 (some .long) mj_P0 mj_S0 98 ad 0 0 79 [(0, .ref 71), (5, .long x5)] [] (mj_rows I [(71, r71), (80, r80), (81, r81), (87, r87)]) (mj_rows L [(90, q90)])) e → (mj_u2 (fun x5 x7 => mj_W X G RX11 "oddsOf" cX11_oddsOf 8 3 (some .long) mj_P0 mj_S0 98 ad 0 0 6 [(0, .ref 71), (1, .int x1), (2, .int x2), (3, .int x3), (4, .int x4), (5, .long x5), (7, .int x7)] [] (mj_rows I [(71, r71), (80, r80), (81, r81), (87, r87)]) (mj_rows L [(90, q90)]))) s := by
  refine mj_loop (fun s o hf hc hx => ?_)
  obtain ⟨x5, x7⟩ := s
  replace hf := mj_u2e hf
  refine mj_u2q ?_
  unfold bdX11_oddsOf_6 at hf
  refine mj_iload 6 dX11_oddsOf_6 rfl ?_
  refine mj_aload_n 0 dX11_oddsOf_8 rfl ?_
  refine mj_getIv (v := (r71 24)) rfl fl_X11_227 rfl s0_71 a0_71 dX11_oddsOf_9 ?_
  refine mj_icmp_ge 79 dX11_oddsOf_12 (by decide) (fun c1 => ?_) (fun c1 => ?_)
  · replace hf := mj_pos c1 hf
    refine mj_sub [0, 5] [(0, .ref 71), (5, .long x5)] rfl ?_
    obtain rfl := Option.some.inj hf
    have hZ := hx x5 rfl
    exact hZ
  · replace hf := mj_neg c1 hf
    refine mj_lload 5 dX11_oddsOf_15 rfl ?_
    refine mj_aload_n 0 dX11_oddsOf_17 rfl ?_
    refine mj_iload 6 dX11_oddsOf_18 rfl ?_
    obtain ⟨o2, ho2, hf⟩ := mj_bd hf
    refine mj_callVd (I2 := (mj_rows I [(71, r71), (80, r80), (81, r81), (87, r87)])) (L2 := (mj_rows L [(90, q90)])) (s1 := [.int o2, .long x5]) (st := [.long x5]) [.int x7] (cmX11_isEnd X.2.1 G F x7 _ _ r71 r80 rfl rfl o2 ho2) (mj_rr rfl) rfl cw_X11_330 s0_71 a0_71 (by decide) rfl rfl (Nat.le_of_ble_eq_true rfl) ⟨Nat.zero_le _, Nat.zero_le _⟩ dX11_oddsOf_20 rfl ?_
    refine mj_if_eq 69 dX11_oddsOf_23 (by decide) (fun c3 => ?_) (fun c3 => ?_)
    · replace hf := mj_pos c3 hf
      refine mj_lconst (v := 0) dX11_oddsOf_69 (by decide) ?_
      refine mj_ladd dX11_oddsOf_70 ?_
      refine mj_lstore [(5, .long (x5 + (0 : Int64))), (0, .ref 71), (1, .int x1), (2, .int x2), (3, .int x3), (4, .int x4), (7, .int x7)] dX11_oddsOf_71 (by decide) rfl ?_
      refine mj_iinc 6 [(7, .int (x7 + (1))), (5, .long (x5 + (0 : Int64))), (0, .ref 71), (1, .int x1), (2, .int x2), (3, .int x3), (4, .int x4)] dX11_oddsOf_73 rfl (kz_1 _) (by decide) rfl ?_
      refine mj_goto 6 dX11_oddsOf_76 (by decide) ?_
      refine mj_sub [2, 3, 4, 5, 6, 1, 0] [(0, .ref 71), (1, .int x1), (2, .int x2), (3, .int x3), (4, .int x4), (5, .long (x5 + (0 : Int64))), (7, .int (x7 + (1)))] rfl ?_
      obtain rfl := Option.some.inj hf
      have hZ := hc ((x5 + (0 : Int64)), (x7 + (1))) rfl
      replace hZ := mj_u2p hZ
      exact hZ
    · replace hf := mj_neg c3 hf
      refine mj_aload_n 0 dX11_oddsOf_26 rfl ?_
      refine mj_aload_n 0 dX11_oddsOf_27 rfl ?_
      refine mj_getP p0_71_28 (by decide) fl_X11_233 rfl s0_71 a0_71 dX11_oddsOf_28 ?_
      refine mj_iload 6 dX11_oddsOf_31 rfl ?_
      obtain ⟨z4, hf⟩ := mj_ck hf
      refine mj_ialdv (x := r81) rfl s0_81 a0_81 z4 dX11_oddsOf_33 ?_
      refine mj_iload_n 1 dX11_oddsOf_34 rfl ?_
      obtain ⟨o5, ho5, hf⟩ := mj_bd hf
      refine mj_callVd (I2 := (mj_rows I [(71, r71), (80, r80), (81, r81), (87, r87)])) (L2 := (mj_rows L [(90, q90)])) (s1 := [.int o5, .long x5]) (st := [.long x5]) [.int (r81 x7.toNatClampNeg), .int x1] (cmX11_valueIn X.2.1 G F (r81 x7.toNatClampNeg) x1 _ _ r87 rfl o5 ho5) (mj_rr rfl) rfl cw_X11_218 s0_71 a0_71 (by decide) rfl rfl (Nat.le_of_ble_eq_true rfl) ⟨Nat.zero_le _, Nat.zero_le _⟩ dX11_oddsOf_35 rfl ?_
      refine mj_iload_n 2 dX11_oddsOf_38 rfl ?_
      refine mj_icmp_ne 69 dX11_oddsOf_39 (by decide) (fun c6 => ?_) (fun c6 => ?_)
      · replace hf := mj_neg c6 hf
        refine mj_lconst (v := 0) dX11_oddsOf_69 (by decide) ?_
        refine mj_ladd dX11_oddsOf_70 ?_
        refine mj_lstore [(5, .long (x5 + (0 : Int64))), (0, .ref 71), (1, .int x1), (2, .int x2), (3, .int x3), (4, .int x4), (7, .int x7)] dX11_oddsOf_71 (by decide) rfl ?_
        refine mj_iinc 6 [(7, .int (x7 + (1))), (5, .long (x5 + (0 : Int64))), (0, .ref 71), (1, .int x1), (2, .int x2), (3, .int x3), (4, .int x4)] dX11_oddsOf_73 rfl (kz_1 _) (by decide) rfl ?_
        refine mj_goto 6 dX11_oddsOf_76 (by decide) ?_
        refine mj_sub [2, 3, 4, 5, 6, 1, 0] [(0, .ref 71), (1, .int x1), (2, .int x2), (3, .int x3), (4, .int x4), (5, .long (x5 + (0 : Int64))), (7, .int (x7 + (1)))] rfl ?_
        obtain rfl := Option.some.inj hf
        have hZ := hc ((x5 + (0 : Int64)), (x7 + (1))) rfl
        replace hZ := mj_u2p hZ
        exact hZ
      · replace hf := mj_pos c6 hf
        refine mj_aload_n 0 dX11_oddsOf_42 rfl ?_
        refine mj_aload_n 0 dX11_oddsOf_43 rfl ?_
        refine mj_getP p0_71_28 (by decide) fl_X11_233 rfl s0_71 a0_71 dX11_oddsOf_44 ?_
        refine mj_iload 6 dX11_oddsOf_47 rfl ?_
        obtain ⟨z7, hf⟩ := mj_ck hf
        refine mj_ialdv (x := r81) rfl s0_81 a0_81 z7 dX11_oddsOf_49 ?_
        refine mj_iload_n 3 dX11_oddsOf_50 rfl ?_
        obtain ⟨o8, ho8, hf⟩ := mj_bd hf
        refine mj_callVd (I2 := (mj_rows I [(71, r71), (80, r80), (81, r81), (87, r87)])) (L2 := (mj_rows L [(90, q90)])) (s1 := [.int o8, .long x5]) (st := [.long x5]) [.int (r81 x7.toNatClampNeg), .int x3] (cmX11_valueIn X.2.1 G F (r81 x7.toNatClampNeg) x3 _ _ r87 rfl o8 ho8) (mj_rr rfl) rfl cw_X11_218 s0_71 a0_71 (by decide) rfl rfl (Nat.le_of_ble_eq_true rfl) ⟨Nat.zero_le _, Nat.zero_le _⟩ dX11_oddsOf_51 rfl ?_
        refine mj_iload 4 dX11_oddsOf_54 rfl ?_
        refine mj_icmp_ne 69 dX11_oddsOf_56 (by decide) (fun c9 => ?_) (fun c9 => ?_)
        · replace hf := mj_neg c9 hf
          refine mj_lconst (v := 0) dX11_oddsOf_69 (by decide) ?_
          refine mj_ladd dX11_oddsOf_70 ?_
          refine mj_lstore [(5, .long (x5 + (0 : Int64))), (0, .ref 71), (1, .int x1), (2, .int x2), (3, .int x3), (4, .int x4), (7, .int x7)] dX11_oddsOf_71 (by decide) rfl ?_
          refine mj_iinc 6 [(7, .int (x7 + (1))), (5, .long (x5 + (0 : Int64))), (0, .ref 71), (1, .int x1), (2, .int x2), (3, .int x3), (4, .int x4)] dX11_oddsOf_73 rfl (kz_1 _) (by decide) rfl ?_
          refine mj_goto 6 dX11_oddsOf_76 (by decide) ?_
          refine mj_sub [2, 3, 4, 5, 6, 1, 0] [(0, .ref 71), (1, .int x1), (2, .int x2), (3, .int x3), (4, .int x4), (5, .long (x5 + (0 : Int64))), (7, .int (x7 + (1)))] rfl ?_
          obtain rfl := Option.some.inj hf
          have hZ := hc ((x5 + (0 : Int64)), (x7 + (1))) rfl
          replace hZ := mj_u2p hZ
          exact hZ
        · replace hf := mj_pos c9 hf
          refine mj_aload_n 0 dX11_oddsOf_59 rfl ?_
          refine mj_getP p0_71_37 (by decide) fl_X11_316 rfl s0_71 a0_71 dX11_oddsOf_60 ?_
          refine mj_iload 6 dX11_oddsOf_63 rfl ?_
          obtain ⟨z10, hf⟩ := mj_ck hf
          refine mj_laldv (x := q90) rfl s0_90 a0_90 z10 dX11_oddsOf_65 ?_
          refine mj_goto 70 dX11_oddsOf_66 (by decide) ?_
          refine mj_ladd dX11_oddsOf_70 ?_
          refine mj_lstore [(5, .long (x5 + (q90 x7.toNatClampNeg))), (0, .ref 71), (1, .int x1), (2, .int x2), (3, .int x3), (4, .int x4), (7, .int x7)] dX11_oddsOf_71 (by decide) rfl ?_
          refine mj_iinc 6 [(7, .int (x7 + (1))), (5, .long (x5 + (q90 x7.toNatClampNeg))), (0, .ref 71), (1, .int x1), (2, .int x2), (3, .int x3), (4, .int x4)] dX11_oddsOf_73 rfl (kz_1 _) (by decide) rfl ?_
          refine mj_goto 6 dX11_oddsOf_76 (by decide) ?_
          refine mj_sub [2, 3, 4, 5, 6, 1, 0] [(0, .ref 71), (1, .int x1), (2, .int x2), (3, .int x3), (4, .int x4), (5, .long (x5 + (q90 x7.toNatClampNeg))), (7, .int (x7 + (1)))] rfl ?_
          obtain rfl := Option.some.inj hf
          have hZ := hc ((x5 + (q90 x7.toNatClampNeg)), (x7 + (1))) rfl
          replace hZ := mj_u2p hZ
          exact hZ
set_option maxRecDepth 100000 in
set_option maxHeartbeats 4000000 in
theorem mtX11_oddsOf {X : mj_XT} {l : Launch} {G : mj_GT} {ad : Nat → Nat} {Qn : Option Value → mj_IT → mj_LT → Prop} (hR : mj_R X l G mj_P0 mj_S0 98 ad 0 0 Qn) (F : Nat) (I : mj_IT) (L : mj_LT) (r71 : Nat → Int32) (r80 : Nat → Int32) (r81 : Nat → Int32) (r87 : Nat → Int32) (q90 : Nat → Int64) (x1 : Int32) (x2 : Int32) (x3 : Int32) (x4 : Int32) (o : ((Int64))) (hf : fnX11_oddsOf F r71 r80 r81 r87 q90 x1 x2 x3 x4 = some o) (hq : (fun ov => Qn (some (.long ov)) (mj_rows I [(71, r71), (80, r80), (81, r81), (87, r87)]) (mj_rows L [(90, q90)])) o) : mj_W X G RX11 "oddsOf" cX11_oddsOf 8 3 (some .long) mj_P0 mj_S0 98 ad 0 0 0 [(0, .ref 71), (1, .int x1), (2, .int x2), (3, .int x3), (4, .int x4)] [] (mj_rows I [(71, r71), (80, r80), (81, r81), (87, r87)]) (mj_rows L [(90, q90)]) := by
  unfold fnX11_oddsOf at hf
  refine mj_lconst (v := 0) dX11_oddsOf_0 (by decide) ?_
  refine mj_lstore [(5, .long (0 : Int64)), (0, .ref 71), (1, .int x1), (2, .int x2), (3, .int x3), (4, .int x4)] dX11_oddsOf_1 (by decide) rfl ?_
  refine mj_iconst dX11_oddsOf_3 kc_iconst_0 ?_
  refine mj_istore [(7, .int (0 : Int32)), (5, .long (0 : Int64)), (0, .ref 71), (1, .int x1), (2, .int x2), (3, .int x3), (4, .int x4)] dX11_oddsOf_4 (by decide) rfl ?_
  refine mj_sub [2, 3, 4, 5, 6, 1, 0] [(0, .ref 71), (1, .int x1), (2, .int x2), (3, .int x3), (4, .int x4), (5, .long (0 : Int64)), (7, .int (0 : Int32))] rfl ?_
  obtain ⟨x5_11, ho11, hf⟩ := mj_bd hf
  refine lpX11_oddsOf_6 hR F I L r71 r80 r81 r87 q90 x1 x2 x3 x4 F ((0 : Int64), (0 : Int32)) x5_11 ho11 ?_
  refine ?_
  refine mj_lload 1 dX11_oddsOf_79 rfl ?_
  refine mj_ldc2 kk_X11_279 dX11_oddsOf_81 ?_
  refine mj_lrem dX11_oddsOf_84 (by decide) ?_
  refine mj_aload_n 0 dX11_oddsOf_85 rfl ?_
  obtain ⟨o12, ho12, hf⟩ := mj_bd hf
  refine mj_callVd (I2 := (mj_rows I [(71, r71), (80, r80), (81, r81), (87, r87)])) (L2 := (mj_rows L [(90, q90)])) (s1 := [.long o12, .long (x5_11 - x5_11 / (998244353 : Int64) * (998244353 : Int64))]) (st := [.long (x5_11 - x5_11 / (998244353 : Int64) * (998244353 : Int64))]) [] (cmX11_ended X.2.1 G F  _ _ r71 r80 q90 rfl rfl rfl o12 ho12) (mj_rr rfl) (mj_rr rfl) cw_X11_347 s0_71 a0_71 (by decide) rfl rfl (Nat.le_of_ble_eq_true rfl) ⟨Nat.zero_le _, Nat.zero_le _⟩ dX11_oddsOf_86 rfl ?_
  obtain ⟨o13, ho13, hf⟩ := mj_bd hf
  refine mj_callSd (I2 := (mj_rows I [(71, r71), (80, r80), (81, r81), (87, r87)])) (L2 := (mj_rows L [(90, q90)])) (s1 := [.long o13, .long (x5_11 - x5_11 / (998244353 : Int64) * (998244353 : Int64))]) (st := [.long (x5_11 - x5_11 / (998244353 : Int64) * (998244353 : Int64))]) [.long o12] (cmX11_inverse X.2.1 G F o12 _ _   o13 ho13) rfl rfl cw_X11_289 (by decide) rfl rfl (Nat.le_of_ble_eq_true rfl) ⟨Nat.zero_le _, Nat.zero_le _⟩ dX11_oddsOf_89 rfl ?_
  refine mj_lmul dX11_oddsOf_92 ?_
  refine mj_ldc2 kk_X11_279 dX11_oddsOf_93 ?_
  refine mj_lrem dX11_oddsOf_96 (by decide) ?_
  obtain rfl := Option.some.inj hf
  have hZ := hq
  exact mj_lret hR ⟨Nat.le_refl _, Nat.le_refl _⟩ rfl dX11_oddsOf_97 hZ
set_option maxRecDepth 100000 in
set_option maxHeartbeats 4000000 in
theorem cmX11_oddsOf (l : Launch) (G : mj_GT) (F : Nat) (x1 : Int32) (x2 : Int32) (x3 : Int32) (x4 : Int32) (I : mj_IT) (L : mj_LT) (r71 : Nat → Int32) (r80 : Nat → Int32) (r81 : Nat → Int32) (r87 : Nat → Int32) (q90 : Nat → Int64) (hr71 : I 71 = r71) (hr80 : I 80 = r80) (hr81 : I 81 = r81) (hr87 : I 87 = r87) (hq90 : L 90 = q90) (o : ((Int64))) (hf : fnX11_oddsOf F r71 r80 r81 r87 q90 x1 x2 x3 x4 = some o) : mj_M l G yX11_oddsOf cX11_oddsOf 8 3 (some .long) 0 0 mj_P0 mj_S0 98 [.ref 71, .int x1, .int x2, .int x3, .int x4] I L (mj_qd (some (.long o)) (mj_rows I [(71, r71), (80, r80), (81, r81), (87, r87)]) (mj_rows L [(90, q90)])) := by
  refine mj_in RX11 "oddsOf" [(0, .ref 71), (1, .int x1), (2, .int x2), (3, .int x3), (4, .int x4)] rfl rfl rfl (by decide) (Nat.le_of_ble_eq_true rfl) (fun X ad hR => ?_)
  refine mj_toI [(71, r71), (80, r80), (81, r81), (87, r87)] (by intro q hq; simp only [List.mem_cons, List.not_mem_nil, or_false] at hq; rcases hq with rfl | rfl | rfl | rfl <;> assumption) ?_
  refine mj_toL [(90, q90)] (by intro q hq; simp only [List.mem_cons, List.not_mem_nil, or_false] at hq; rcases hq with rfl <;> assumption) ?_
  refine mtX11_oddsOf hR F I L r71 r80 r81 r87 q90 x1 x2 x3 x4 o hf ?_
  exact ⟨rfl, rfl, rfl⟩

-- X11_oddsAlone
def fnX11_oddsAlone (F : Nat) (r71 : Nat → Int32) (r80 : Nat → Int32) (r81 : Nat → Int32) (r87 : Nat → Int32) (q90 : Nat → Int64) (x1 : Int32) (x2 : Int32) : Option ((Int64)) := (fnX11_oddsOf F r71 r80 r81 r87 q90 x1 x2 x1 x2).bind (fun o1 => some o1)
set_option maxRecDepth 100000 in
set_option maxHeartbeats 4000000 in
theorem mtX11_oddsAlone {X : mj_XT} {l : Launch} {G : mj_GT} {ad : Nat → Nat} {Qn : Option Value → mj_IT → mj_LT → Prop} (hR : mj_R X l G mj_P0 mj_S0 98 ad 0 0 Qn) (F : Nat) (I : mj_IT) (L : mj_LT) (r71 : Nat → Int32) (r80 : Nat → Int32) (r81 : Nat → Int32) (r87 : Nat → Int32) (q90 : Nat → Int64) (x1 : Int32) (x2 : Int32) (o : ((Int64))) (hf : fnX11_oddsAlone F r71 r80 r81 r87 q90 x1 x2 = some o) (hq : (fun ov => Qn (some (.long ov)) (mj_rows I [(71, r71), (80, r80), (81, r81), (87, r87)]) (mj_rows L [(90, q90)])) o) : mj_W X G RX11 "oddsAlone" cX11_oddsAlone 3 4 (some .long) mj_P0 mj_S0 98 ad 0 0 0 [(0, .ref 71), (1, .int x1), (2, .int x2)] [] (mj_rows I [(71, r71), (80, r80), (81, r81), (87, r87)]) (mj_rows L [(90, q90)]) := by
  unfold fnX11_oddsAlone at hf
  refine mj_aload_n 0 dX11_oddsAlone_0 rfl ?_
  refine mj_iload_n 1 dX11_oddsAlone_1 rfl ?_
  refine mj_iload_n 2 dX11_oddsAlone_2 rfl ?_
  refine mj_iload_n 1 dX11_oddsAlone_3 rfl ?_
  refine mj_iload_n 2 dX11_oddsAlone_4 rfl ?_
  obtain ⟨o1, ho1, hf⟩ := mj_bd hf
  refine mj_callVd (I2 := (mj_rows I [(71, r71), (80, r80), (81, r81), (87, r87)])) (L2 := (mj_rows L [(90, q90)])) (s1 := [.long o1]) (st := []) [.int x1, .int x2, .int x1, .int x2] (cmX11_oddsOf X.2.1 G F x1 x2 x1 x2 _ _ r71 r80 r81 r87 q90 rfl rfl rfl rfl rfl o1 ho1) (mj_rr rfl) (mj_rr rfl) cw_X11_357 s0_71 a0_71 (by decide) rfl rfl (Nat.le_of_ble_eq_true rfl) ⟨Nat.zero_le _, Nat.zero_le _⟩ dX11_oddsAlone_5 rfl ?_
  obtain rfl := Option.some.inj hf
  have hZ := hq
  exact mj_lret hR ⟨Nat.le_refl _, Nat.le_refl _⟩ rfl dX11_oddsAlone_8 hZ
set_option maxRecDepth 100000 in
set_option maxHeartbeats 4000000 in
theorem cmX11_oddsAlone (l : Launch) (G : mj_GT) (F : Nat) (x1 : Int32) (x2 : Int32) (I : mj_IT) (L : mj_LT) (r71 : Nat → Int32) (r80 : Nat → Int32) (r81 : Nat → Int32) (r87 : Nat → Int32) (q90 : Nat → Int64) (hr71 : I 71 = r71) (hr80 : I 80 = r80) (hr81 : I 81 = r81) (hr87 : I 87 = r87) (hq90 : L 90 = q90) (o : ((Int64))) (hf : fnX11_oddsAlone F r71 r80 r81 r87 q90 x1 x2 = some o) : mj_M l G yX11_oddsAlone cX11_oddsAlone 3 4 (some .long) 0 0 mj_P0 mj_S0 98 [.ref 71, .int x1, .int x2] I L (mj_qd (some (.long o)) (mj_rows I [(71, r71), (80, r80), (81, r81), (87, r87)]) (mj_rows L [(90, q90)])) := by
  refine mj_in RX11 "oddsAlone" [(0, .ref 71), (1, .int x1), (2, .int x2)] rfl rfl rfl (by decide) (Nat.le_of_ble_eq_true rfl) (fun X ad hR => ?_)
  refine mj_toI [(71, r71), (80, r80), (81, r81), (87, r87)] (by intro q hq; simp only [List.mem_cons, List.not_mem_nil, or_false] at hq; rcases hq with rfl | rfl | rfl | rfl <;> assumption) ?_
  refine mj_toL [(90, q90)] (by intro q hq; simp only [List.mem_cons, List.not_mem_nil, or_false] at hq; rcases hq with rfl <;> assumption) ?_
  refine mtX11_oddsAlone hR F I L r71 r80 r81 r87 q90 x1 x2 o hf ?_
  exact ⟨rfl, rfl, rfl⟩

-- X11_value
def jnX11_value_52 (F : Nat) (r73 : Nat → Int32) (r75 : Nat → Int32) (r87 : Nat → Int32) (q97 : Nat → Int64) (x1 : Int32) (x2 : Int32) (x3 : Int32) (t1 : Int32) (r71 : Nat → Int32) (r72 : Nat → Int32) (r80 : Nat → Int32) (r81 : Nat → Int32) (r82 : Nat → Int32) (r83 : Nat → Int32) (r84 : Nat → Int32) (r85 : Nat → Int32) (r86 : Nat → Int32) (r88 : Nat → Int32) (q89 : Nat → Int64) (q90 : Nat → Int64) : Option ((Int32) × (Nat → Int32) × (Nat → Int32) × (Nat → Int32) × (Nat → Int32) × (Nat → Int32) × (Nat → Int32) × (Nat → Int32) × (Nat → Int32) × (Nat → Int32) × (Nat → Int32) × (Nat → Int64) × (Nat → Int64)) := (fnX11_isFine F r71 r72 t1 (3 : Int32) (1 : Int32)).bind (fun o1 => (if o1.1 = 0 then some ((0 : Int32), o1.2.1, o1.2.2, r80, r81, r82, r83, r84, r85, r86, r88, q89, q90) else (fnX11_hasEnd F o1.2.1 o1.2.2 r80).bind (fun o3 => (if o3.1 = 0 then some ((0 : Int32), o3.2.1, o3.2.2, r80, r81, r82, r83, r84, r85, r86, r88, q89, q90) else (fnX11_isSure F o3.2.1 r80 r83 r84 r85 r86 r88 q89 q90 q97).bind (fun o5 => (if o5.1 = 0 then some ((-3 : Int32), o5.2.1, o3.2.2, r80, r81, r82, r83, r84, r85, r86, o5.2.2.1, o5.2.2.2.1, o5.2.2.2.2) else (fnX11_oddsAlone F o5.2.1 r80 r81 r87 o5.2.2.2.2 x1 x2).bind (fun o7 => (fnX11_formed F o7 x3).bind (fun o8 => some (o8, o5.2.1, o3.2.2, r80, r81, r82, r83, r84, r85, r86, o5.2.2.1, o5.2.2.2.1, o5.2.2.2.2)))))))))
def jnX11_value_51 (F : Nat) (r73 : Nat → Int32) (r75 : Nat → Int32) (r87 : Nat → Int32) (q97 : Nat → Int64) (x1 : Int32) (x2 : Int32) (x3 : Int32) (r71 : Nat → Int32) (r72 : Nat → Int32) (r80 : Nat → Int32) (r81 : Nat → Int32) (r82 : Nat → Int32) (r83 : Nat → Int32) (r84 : Nat → Int32) (r85 : Nat → Int32) (r86 : Nat → Int32) (r88 : Nat → Int32) (q89 : Nat → Int64) (q90 : Nat → Int64) : Option ((Int32) × (Nat → Int32) × (Nat → Int32) × (Nat → Int32) × (Nat → Int32) × (Nat → Int32) × (Nat → Int32) × (Nat → Int32) × (Nat → Int32) × (Nat → Int32) × (Nat → Int32) × (Nat → Int64) × (Nat → Int64)) := jnX11_value_52 F r73 r75 r87 q97 x1 x2 x3 (0 : Int32) r71 r72 r80 r81 r82 r83 r84 r85 r86 r88 q89 q90
def fnX11_value (F : Nat) (r71 : Nat → Int32) (r72 : Nat → Int32) (r73 : Nat → Int32) (r75 : Nat → Int32) (r80 : Nat → Int32) (r81 : Nat → Int32) (r82 : Nat → Int32) (r83 : Nat → Int32) (r84 : Nat → Int32) (r85 : Nat → Int32) (r86 : Nat → Int32) (r87 : Nat → Int32) (r88 : Nat → Int32) (q89 : Nat → Int64) (q90 : Nat → Int64) (q97 : Nat → Int64) (x1 : Int32) (x2 : Int32) (x3 : Int32) : Option ((Int32) × (Nat → Int32) × (Nat → Int32) × (Nat → Int32) × (Nat → Int32) × (Nat → Int32) × (Nat → Int32) × (Nat → Int32) × (Nat → Int32) × (Nat → Int32) × (Nat → Int32) × (Nat → Int64) × (Nat → Int64)) := (fnX11_isFew F (upd r71 0 (0 : Int32)) r72 r73 r75 r80 r81 r82 r83 r84 r85 r86 r87).bind (fun o9 => (if o9.1 = 0 then some ((0 : Int32), o9.2.1, o9.2.2.1, o9.2.2.2.1, o9.2.2.2.2.1, o9.2.2.2.2.2.1, o9.2.2.2.2.2.2.1, o9.2.2.2.2.2.2.2.1, o9.2.2.2.2.2.2.2.2.1, o9.2.2.2.2.2.2.2.2.2, r88, q89, q90) else (fnX11_isName F x1).bind (fun o11 => (fnX11_isFine F o9.2.1 o9.2.2.1 o11 (2 : Int32) (0 : Int32)).bind (fun o12 => (if o12.1 = 0 then some ((0 : Int32), o12.2.1, o12.2.2, o9.2.2.2.1, o9.2.2.2.2.1, o9.2.2.2.2.2.1, o9.2.2.2.2.2.2.1, o9.2.2.2.2.2.2.2.1, o9.2.2.2.2.2.2.2.2.1, o9.2.2.2.2.2.2.2.2.2, r88, q89, q90) else (fnX11_lies F x2.toInt64 (0 : Int64) (9 : Int64)).bind (fun o14 => (if o14 = 0 then jnX11_value_51 F r73 r75 r87 q97 x1 x2 x3 o12.2.1 o12.2.2 o9.2.2.2.1 o9.2.2.2.2.1 o9.2.2.2.2.2.1 o9.2.2.2.2.2.2.1 o9.2.2.2.2.2.2.2.1 o9.2.2.2.2.2.2.2.2.1 o9.2.2.2.2.2.2.2.2.2 r88 q89 q90 else (fnX11_isForm F x3).bind (fun o16 => (if o16 = 0 then jnX11_value_51 F r73 r75 r87 q97 x1 x2 x3 o12.2.1 o12.2.2 o9.2.2.2.1 o9.2.2.2.2.1 o9.2.2.2.2.2.1 o9.2.2.2.2.2.2.1 o9.2.2.2.2.2.2.2.1 o9.2.2.2.2.2.2.2.2.1 o9.2.2.2.2.2.2.2.2.2 r88 q89 q90 else jnX11_value_52 F r73 r75 r87 q97 x1 x2 x3 (1 : Int32) o12.2.1 o12.2.2 o9.2.2.2.1 o9.2.2.2.2.1 o9.2.2.2.2.2.1 o9.2.2.2.2.2.2.1 o9.2.2.2.2.2.2.2.1 o9.2.2.2.2.2.2.2.2.1 o9.2.2.2.2.2.2.2.2.2 r88 q89 q90)))))))))
set_option maxRecDepth 100000 in
set_option maxHeartbeats 4000000 in
theorem jtX11_value_52 {X : mj_XT} {l : Launch} {G : mj_GT} {ad : Nat → Nat} {Qn : Option Value → mj_IT → mj_LT → Prop} (hR : mj_R X l G mj_P0 mj_S0 98 ad 0 0 Qn) (F : Nat) (I : mj_IT) (L : mj_LT) (r71 : Nat → Int32) (r72 : Nat → Int32) (r73 : Nat → Int32) (r75 : Nat → Int32) (r80 : Nat → Int32) (r81 : Nat → Int32) (r82 : Nat → Int32) (r83 : Nat → Int32) (r84 : Nat → Int32) (r85 : Nat → Int32) (r86 : Nat → Int32) (r87 : Nat → Int32) (r88 : Nat → Int32) (q89 : Nat → Int64) (q90 : Nat → Int64) (q97 : Nat → Int64) (x1 : Int32) (x2 : Int32) (x3 : Int32) (t1 : Int32) (o : ((Int32) × (Nat → Int32) × (Nat → Int32) × (Nat → Int32) × (Nat → Int32) × (Nat → Int32) × (Nat → Int32) × (Nat → Int32) × (Nat → Int32) × (Nat → Int32) × (Nat → Int32) × (Nat → Int64) × (Nat → Int64))) (hf : jnX11_value_52 F r73 r75 r87 q97 x1 x2 x3 t1 r71 r72 r80 r81 r82 r83 r84 r85 r86 r88 q89 q90 = some o) (hq : (mj_u2 (fun ov => (mj_u2 (fun r71 => (mj_u2 (fun r72 => (mj_u2 (fun r80 => (mj_u2 (fun r81 => (mj_u2 (fun r82 => (mj_u2 (fun r83 => (mj_u2 (fun r84 => (mj_u2 (fun r85 => (mj_u2 (fun r86 => (mj_u2 (fun r88 => (mj_u2 (fun q89 q90 => Qn (some (.int ov)) (mj_rows I [(71, r71), (72, r72), (73, r73), (75, r75), (80, r80), (81, r81), (82, r82), (83, r83), (84, r84), (85, r85), (86, r86), (87, r87), (88, r88)]) (mj_rows L [(89, q89), (90, q90), (97, q97)]))))))))))))))))))))))))) o) : mj_W X G RX11 "value" cX11_value 4 8 (some .int) mj_P0 mj_S0 98 ad 0 0 52 [(0, .ref 71), (1, .int x1), (2, .int x2), (3, .int x3)] [.int t1, .ref 71] (mj_rows I [(71, r71), (72, r72), (73, r73), (75, r75), (80, r80), (81, r81), (82, r82), (83, r83), (84, r84), (85, r85), (86, r86), (87, r87), (88, r88)]) (mj_rows L [(89, q89), (90, q90), (97, q97)]) := by
  unfold jnX11_value_52 at hf
  refine mj_iconst dX11_value_52 kc_iconst_3 ?_
  refine mj_iconst dX11_value_53 kc_iconst_1 ?_
  obtain ⟨o1, ho1, hf⟩ := mj_bd hf
  refine mj_callVd (I2 := (mj_rows I [(71, o1.2.1), (72, o1.2.2), (73, r73), (75, r75), (80, r80), (81, r81), (82, r82), (83, r83), (84, r84), (85, r85), (86, r86), (87, r87), (88, r88)])) (L2 := (mj_rows L [(89, q89), (90, q90), (97, q97)])) (s1 := [.int o1.1]) (st := []) [.int t1, .int (3 : Int32), .int (1 : Int32)] (cmX11_isFine X.2.1 G F t1 (3 : Int32) (1 : Int32) _ _ r71 r72 rfl rfl o1 ho1) (mj_rr rfl) rfl cw_X11_161 s0_71 a0_71 (by decide) rfl rfl (Nat.le_of_ble_eq_true rfl) ⟨Nat.zero_le _, Nat.zero_le _⟩ dX11_value_54 rfl ?_
  refine mj_if_eq 67 dX11_value_57 (by decide) (fun c2 => ?_) (fun c2 => ?_)
  · replace hf := mj_pos c2 hf
    refine mj_iconst dX11_value_67 kc_iconst_0 ?_
    obtain rfl := Option.some.inj hf
    have hZ := hq
    replace hZ := mj_u2p hZ
    replace hZ := mj_u2p hZ
    replace hZ := mj_u2p hZ
    replace hZ := mj_u2p hZ
    replace hZ := mj_u2p hZ
    replace hZ := mj_u2p hZ
    replace hZ := mj_u2p hZ
    replace hZ := mj_u2p hZ
    replace hZ := mj_u2p hZ
    replace hZ := mj_u2p hZ
    replace hZ := mj_u2p hZ
    replace hZ := mj_u2p hZ
    exact mj_iret hR ⟨Nat.le_refl _, Nat.le_refl _⟩ rfl rfl dX11_value_68 hZ
  · replace hf := mj_neg c2 hf
    refine mj_aload_n 0 dX11_value_60 rfl ?_
    obtain ⟨o3, ho3, hf⟩ := mj_bd hf
    refine mj_callVd (I2 := (mj_rows I [(71, o3.2.1), (72, o3.2.2), (73, r73), (75, r75), (80, r80), (81, r81), (82, r82), (83, r83), (84, r84), (85, r85), (86, r86), (87, r87), (88, r88)])) (L2 := (mj_rows L [(89, q89), (90, q90), (97, q97)])) (s1 := [.int o3.1]) (st := []) [] (cmX11_hasEnd X.2.1 G F  _ _ o1.2.1 o1.2.2 r80 rfl rfl rfl o3 ho3) (mj_rr rfl) rfl cw_X11_361 s0_71 a0_71 (by decide) rfl rfl (Nat.le_of_ble_eq_true rfl) ⟨Nat.zero_le _, Nat.zero_le _⟩ dX11_value_61 rfl ?_
    refine mj_if_ne 69 dX11_value_64 (by decide) (fun c4 => ?_) (fun c4 => ?_)
    · replace hf := mj_neg c4 hf
      refine mj_aload_n 0 dX11_value_69 rfl ?_
      obtain ⟨o5, ho5, hf⟩ := mj_bd hf
      refine mj_callVd (I2 := (mj_rows I [(71, o5.2.1), (72, o3.2.2), (73, r73), (75, r75), (80, r80), (81, r81), (82, r82), (83, r83), (84, r84), (85, r85), (86, r86), (87, r87), (88, o5.2.2.1)])) (L2 := (mj_rows L [(89, o5.2.2.2.1), (90, o5.2.2.2.2), (97, q97)])) (s1 := [.int o5.1]) (st := []) [] (cmX11_isSure X.2.1 G F  _ _ o3.2.1 r80 r83 r84 r85 r86 r88 q89 q90 q97 rfl rfl rfl rfl rfl rfl rfl rfl rfl rfl o5 ho5) (mj_rr rfl) (mj_rr rfl) cw_X11_364 s0_71 a0_71 (by decide) rfl rfl (Nat.le_of_ble_eq_true rfl) ⟨Nat.zero_le _, Nat.zero_le _⟩ dX11_value_70 rfl ?_
      refine mj_if_eq 89 dX11_value_73 (by decide) (fun c6 => ?_) (fun c6 => ?_)
      · replace hf := mj_pos c6 hf
        refine mj_bipush dX11_value_89 kc_bipush_m3 ?_
        obtain rfl := Option.some.inj hf
        have hZ := hq
        replace hZ := mj_u2p hZ
        replace hZ := mj_u2p hZ
        replace hZ := mj_u2p hZ
        replace hZ := mj_u2p hZ
        replace hZ := mj_u2p hZ
        replace hZ := mj_u2p hZ
        replace hZ := mj_u2p hZ
        replace hZ := mj_u2p hZ
        replace hZ := mj_u2p hZ
        replace hZ := mj_u2p hZ
        replace hZ := mj_u2p hZ
        replace hZ := mj_u2p hZ
        exact mj_iret hR ⟨Nat.le_refl _, Nat.le_refl _⟩ rfl rfl dX11_value_91 hZ
      · replace hf := mj_neg c6 hf
        refine mj_aload_n 0 dX11_value_76 rfl ?_
        refine mj_iload_n 1 dX11_value_77 rfl ?_
        refine mj_iload_n 2 dX11_value_78 rfl ?_
        obtain ⟨o7, ho7, hf⟩ := mj_bd hf
        refine mj_callVd (I2 := (mj_rows I [(71, o5.2.1), (72, o3.2.2), (73, r73), (75, r75), (80, r80), (81, r81), (82, r82), (83, r83), (84, r84), (85, r85), (86, r86), (87, r87), (88, o5.2.2.1)])) (L2 := (mj_rows L [(89, o5.2.2.2.1), (90, o5.2.2.2.2), (97, q97)])) (s1 := [.long o7]) (st := []) [.int x1, .int x2] (cmX11_oddsAlone X.2.1 G F x1 x2 _ _ o5.2.1 r80 r81 r87 o5.2.2.2.2 rfl rfl rfl rfl rfl o7 ho7) (mj_rr rfl) (mj_rr rfl) cw_X11_367 s0_71 a0_71 (by decide) rfl rfl (Nat.le_of_ble_eq_true rfl) ⟨Nat.zero_le _, Nat.zero_le _⟩ dX11_value_79 rfl ?_
        refine mj_iload_n 3 dX11_value_82 rfl ?_
        obtain ⟨o8, ho8, hf⟩ := mj_bd hf
        refine mj_callSd (I2 := (mj_rows I [(71, o5.2.1), (72, o3.2.2), (73, r73), (75, r75), (80, r80), (81, r81), (82, r82), (83, r83), (84, r84), (85, r85), (86, r86), (87, r87), (88, o5.2.2.1)])) (L2 := (mj_rows L [(89, o5.2.2.2.1), (90, o5.2.2.2.2), (97, q97)])) (s1 := [.int o8]) (st := []) [.long o7, .int x3] (cmX11_formed X.2.1 G F o7 x3 _ _   o8 ho8) rfl rfl cw_X11_353 (by decide) rfl rfl (Nat.le_of_ble_eq_true rfl) ⟨Nat.zero_le _, Nat.zero_le _⟩ dX11_value_83 rfl ?_
        refine mj_goto 91 dX11_value_86 (by decide) ?_
        obtain rfl := Option.some.inj hf
        have hZ := hq
        replace hZ := mj_u2p hZ
        replace hZ := mj_u2p hZ
        replace hZ := mj_u2p hZ
        replace hZ := mj_u2p hZ
        replace hZ := mj_u2p hZ
        replace hZ := mj_u2p hZ
        replace hZ := mj_u2p hZ
        replace hZ := mj_u2p hZ
        replace hZ := mj_u2p hZ
        replace hZ := mj_u2p hZ
        replace hZ := mj_u2p hZ
        replace hZ := mj_u2p hZ
        exact mj_iret hR ⟨Nat.le_refl _, Nat.le_refl _⟩ rfl rfl dX11_value_91 hZ
    · replace hf := mj_pos c4 hf
      refine mj_iconst dX11_value_67 kc_iconst_0 ?_
      obtain rfl := Option.some.inj hf
      have hZ := hq
      replace hZ := mj_u2p hZ
      replace hZ := mj_u2p hZ
      replace hZ := mj_u2p hZ
      replace hZ := mj_u2p hZ
      replace hZ := mj_u2p hZ
      replace hZ := mj_u2p hZ
      replace hZ := mj_u2p hZ
      replace hZ := mj_u2p hZ
      replace hZ := mj_u2p hZ
      replace hZ := mj_u2p hZ
      replace hZ := mj_u2p hZ
      replace hZ := mj_u2p hZ
      exact mj_iret hR ⟨Nat.le_refl _, Nat.le_refl _⟩ rfl rfl dX11_value_68 hZ
set_option maxRecDepth 100000 in
set_option maxHeartbeats 4000000 in
theorem jtX11_value_51 {X : mj_XT} {l : Launch} {G : mj_GT} {ad : Nat → Nat} {Qn : Option Value → mj_IT → mj_LT → Prop} (hR : mj_R X l G mj_P0 mj_S0 98 ad 0 0 Qn) (F : Nat) (I : mj_IT) (L : mj_LT) (r71 : Nat → Int32) (r72 : Nat → Int32) (r73 : Nat → Int32) (r75 : Nat → Int32) (r80 : Nat → Int32) (r81 : Nat → Int32) (r82 : Nat → Int32) (r83 : Nat → Int32) (r84 : Nat → Int32) (r85 : Nat → Int32) (r86 : Nat → Int32) (r87 : Nat → Int32) (r88 : Nat → Int32) (q89 : Nat → Int64) (q90 : Nat → Int64) (q97 : Nat → Int64) (x1 : Int32) (x2 : Int32) (x3 : Int32) (o : ((Int32) × (Nat → Int32) × (Nat → Int32) × (Nat → Int32) × (Nat → Int32) × (Nat → Int32) × (Nat → Int32) × (Nat → Int32) × (Nat → Int32) × (Nat → Int32) × (Nat → Int32) × (Nat → Int64) × (Nat → Int64))) (hf : jnX11_value_51 F r73 r75 r87 q97 x1 x2 x3 r71 r72 r80 r81 r82 r83 r84 r85 r86 r88 q89 q90 = some o) (hq : (mj_u2 (fun ov => (mj_u2 (fun r71 => (mj_u2 (fun r72 => (mj_u2 (fun r80 => (mj_u2 (fun r81 => (mj_u2 (fun r82 => (mj_u2 (fun r83 => (mj_u2 (fun r84 => (mj_u2 (fun r85 => (mj_u2 (fun r86 => (mj_u2 (fun r88 => (mj_u2 (fun q89 q90 => Qn (some (.int ov)) (mj_rows I [(71, r71), (72, r72), (73, r73), (75, r75), (80, r80), (81, r81), (82, r82), (83, r83), (84, r84), (85, r85), (86, r86), (87, r87), (88, r88)]) (mj_rows L [(89, q89), (90, q90), (97, q97)]))))))))))))))))))))))))) o) : mj_W X G RX11 "value" cX11_value 4 8 (some .int) mj_P0 mj_S0 98 ad 0 0 51 [(0, .ref 71), (1, .int x1), (2, .int x2), (3, .int x3)] [.ref 71] (mj_rows I [(71, r71), (72, r72), (73, r73), (75, r75), (80, r80), (81, r81), (82, r82), (83, r83), (84, r84), (85, r85), (86, r86), (87, r87), (88, r88)]) (mj_rows L [(89, q89), (90, q90), (97, q97)]) := by
  unfold jnX11_value_51 at hf
  refine mj_iconst dX11_value_51 kc_iconst_0 ?_
  exact jtX11_value_52 hR F I L r71 r72 r73 r75 r80 r81 r82 r83 r84 r85 r86 r87 r88 q89 q90 q97 x1 x2 x3 (0 : Int32) o hf hq
set_option maxRecDepth 100000 in
set_option maxHeartbeats 4000000 in
theorem mtX11_value {X : mj_XT} {l : Launch} {G : mj_GT} {ad : Nat → Nat} {Qn : Option Value → mj_IT → mj_LT → Prop} (hR : mj_R X l G mj_P0 mj_S0 98 ad 0 0 Qn) (F : Nat) (I : mj_IT) (L : mj_LT) (r71 : Nat → Int32) (r72 : Nat → Int32) (r73 : Nat → Int32) (r75 : Nat → Int32) (r80 : Nat → Int32) (r81 : Nat → Int32) (r82 : Nat → Int32) (r83 : Nat → Int32) (r84 : Nat → Int32) (r85 : Nat → Int32) (r86 : Nat → Int32) (r87 : Nat → Int32) (r88 : Nat → Int32) (q89 : Nat → Int64) (q90 : Nat → Int64) (q97 : Nat → Int64) (x1 : Int32) (x2 : Int32) (x3 : Int32) (o : ((Int32) × (Nat → Int32) × (Nat → Int32) × (Nat → Int32) × (Nat → Int32) × (Nat → Int32) × (Nat → Int32) × (Nat → Int32) × (Nat → Int32) × (Nat → Int32) × (Nat → Int32) × (Nat → Int64) × (Nat → Int64))) (hf : fnX11_value F r71 r72 r73 r75 r80 r81 r82 r83 r84 r85 r86 r87 r88 q89 q90 q97 x1 x2 x3 = some o) (hq : (mj_u2 (fun ov => (mj_u2 (fun r71 => (mj_u2 (fun r72 => (mj_u2 (fun r80 => (mj_u2 (fun r81 => (mj_u2 (fun r82 => (mj_u2 (fun r83 => (mj_u2 (fun r84 => (mj_u2 (fun r85 => (mj_u2 (fun r86 => (mj_u2 (fun r88 => (mj_u2 (fun q89 q90 => Qn (some (.int ov)) (mj_rows I [(71, r71), (72, r72), (73, r73), (75, r75), (80, r80), (81, r81), (82, r82), (83, r83), (84, r84), (85, r85), (86, r86), (87, r87), (88, r88)]) (mj_rows L [(89, q89), (90, q90), (97, q97)]))))))))))))))))))))))))) o) : mj_W X G RX11 "value" cX11_value 4 8 (some .int) mj_P0 mj_S0 98 ad 0 0 0 [(0, .ref 71), (1, .int x1), (2, .int x2), (3, .int x3)] [] (mj_rows I [(71, r71), (72, r72), (73, r73), (75, r75), (80, r80), (81, r81), (82, r82), (83, r83), (84, r84), (85, r85), (86, r86), (87, r87), (88, r88)]) (mj_rows L [(89, q89), (90, q90), (97, q97)]) := by
  unfold fnX11_value at hf
  refine mj_aload_n 0 dX11_value_0 rfl ?_
  refine mj_iconst dX11_value_1 kc_iconst_0 ?_
  refine mj_putIr (ci := 9) (j := 0) [(71, (upd r71 0 (0 : Int32))), (72, r72), (73, r73), (75, r75), (80, r80), (81, r81), (82, r82), (83, r83), (84, r84), (85, r85), (86, r86), (87, r87), (88, r88)] rfl ⟨rfl, rfl⟩ fl_X11_1 rfl rfl s0_71 a0_71 dX11_value_2 ?_
  refine mj_aload_n 0 dX11_value_5 rfl ?_
  obtain ⟨o9, ho9, hf⟩ := mj_bd hf
  refine mj_callVd (I2 := (mj_rows I [(71, o9.2.1), (72, o9.2.2.1), (73, r73), (75, r75), (80, o9.2.2.2.1), (81, o9.2.2.2.2.1), (82, o9.2.2.2.2.2.1), (83, o9.2.2.2.2.2.2.1), (84, o9.2.2.2.2.2.2.2.1), (85, o9.2.2.2.2.2.2.2.2.1), (86, o9.2.2.2.2.2.2.2.2.2), (87, r87), (88, r88)])) (L2 := (mj_rows L [(89, q89), (90, q90), (97, q97)])) (s1 := [.int o9.1]) (st := []) [] (cmX11_isFew X.2.1 G F  _ _ (upd r71 0 (0 : Int32)) r72 r73 r75 r80 r81 r82 r83 r84 r85 r86 r87 rfl rfl rfl rfl rfl rfl rfl rfl rfl rfl rfl rfl o9 ho9) (mj_rr rfl) rfl cw_X11_335 s0_71 a0_71 (by decide) rfl rfl (Nat.le_of_ble_eq_true rfl) ⟨Nat.zero_le _, Nat.zero_le _⟩ dX11_value_6 rfl ?_
  refine mj_if_eq 67 dX11_value_9 (by decide) (fun c10 => ?_) (fun c10 => ?_)
  · replace hf := mj_pos c10 hf
    refine mj_iconst dX11_value_67 kc_iconst_0 ?_
    obtain rfl := Option.some.inj hf
    have hZ := hq
    replace hZ := mj_u2p hZ
    replace hZ := mj_u2p hZ
    replace hZ := mj_u2p hZ
    replace hZ := mj_u2p hZ
    replace hZ := mj_u2p hZ
    replace hZ := mj_u2p hZ
    replace hZ := mj_u2p hZ
    replace hZ := mj_u2p hZ
    replace hZ := mj_u2p hZ
    replace hZ := mj_u2p hZ
    replace hZ := mj_u2p hZ
    replace hZ := mj_u2p hZ
    exact mj_iret hR ⟨Nat.le_refl _, Nat.le_refl _⟩ rfl rfl dX11_value_68 hZ
  · replace hf := mj_neg c10 hf
    refine mj_aload_n 0 dX11_value_12 rfl ?_
    refine mj_aload_n 0 dX11_value_13 rfl ?_
    refine mj_iload_n 1 dX11_value_14 rfl ?_
    obtain ⟨o11, ho11, hf⟩ := mj_bd hf
    refine mj_callVd (I2 := (mj_rows I [(71, o9.2.1), (72, o9.2.2.1), (73, r73), (75, r75), (80, o9.2.2.2.1), (81, o9.2.2.2.2.1), (82, o9.2.2.2.2.2.1), (83, o9.2.2.2.2.2.2.1), (84, o9.2.2.2.2.2.2.2.1), (85, o9.2.2.2.2.2.2.2.2.1), (86, o9.2.2.2.2.2.2.2.2.2), (87, r87), (88, r88)])) (L2 := (mj_rows L [(89, q89), (90, q90), (97, q97)])) (s1 := [.int o11, .ref 71]) (st := [.ref 71]) [.int x1] (cmX11_isName X.2.1 G F x1 _ _   o11 ho11) rfl rfl cw_X11_195 s0_71 a0_71 (by decide) rfl rfl (Nat.le_of_ble_eq_true rfl) ⟨Nat.zero_le _, Nat.zero_le _⟩ dX11_value_15 rfl ?_
    refine mj_iconst dX11_value_18 kc_iconst_2 ?_
    refine mj_iconst dX11_value_19 kc_iconst_0 ?_
    obtain ⟨o12, ho12, hf⟩ := mj_bd hf
    refine mj_callVd (I2 := (mj_rows I [(71, o12.2.1), (72, o12.2.2), (73, r73), (75, r75), (80, o9.2.2.2.1), (81, o9.2.2.2.2.1), (82, o9.2.2.2.2.2.1), (83, o9.2.2.2.2.2.2.1), (84, o9.2.2.2.2.2.2.2.1), (85, o9.2.2.2.2.2.2.2.2.1), (86, o9.2.2.2.2.2.2.2.2.2), (87, r87), (88, r88)])) (L2 := (mj_rows L [(89, q89), (90, q90), (97, q97)])) (s1 := [.int o12.1]) (st := []) [.int o11, .int (2 : Int32), .int (0 : Int32)] (cmX11_isFine X.2.1 G F o11 (2 : Int32) (0 : Int32) _ _ o9.2.1 o9.2.2.1 rfl rfl o12 ho12) (mj_rr rfl) rfl cw_X11_161 s0_71 a0_71 (by decide) rfl rfl (Nat.le_of_ble_eq_true rfl) ⟨Nat.zero_le _, Nat.zero_le _⟩ dX11_value_20 rfl ?_
    refine mj_if_eq 67 dX11_value_23 (by decide) (fun c13 => ?_) (fun c13 => ?_)
    · replace hf := mj_pos c13 hf
      refine mj_iconst dX11_value_67 kc_iconst_0 ?_
      obtain rfl := Option.some.inj hf
      have hZ := hq
      replace hZ := mj_u2p hZ
      replace hZ := mj_u2p hZ
      replace hZ := mj_u2p hZ
      replace hZ := mj_u2p hZ
      replace hZ := mj_u2p hZ
      replace hZ := mj_u2p hZ
      replace hZ := mj_u2p hZ
      replace hZ := mj_u2p hZ
      replace hZ := mj_u2p hZ
      replace hZ := mj_u2p hZ
      replace hZ := mj_u2p hZ
      replace hZ := mj_u2p hZ
      exact mj_iret hR ⟨Nat.le_refl _, Nat.le_refl _⟩ rfl rfl dX11_value_68 hZ
    · replace hf := mj_neg c13 hf
      refine mj_aload_n 0 dX11_value_26 rfl ?_
      refine mj_iload_n 2 dX11_value_27 rfl ?_
      refine mj_i2l dX11_value_28 ?_
      refine mj_lconst (v := 0) dX11_value_29 (by decide) ?_
      refine mj_ldc2 kk_X11_198 dX11_value_30 ?_
      obtain ⟨o14, ho14, hf⟩ := mj_bd hf
      refine mj_callSd (I2 := (mj_rows I [(71, o12.2.1), (72, o12.2.2), (73, r73), (75, r75), (80, o9.2.2.2.1), (81, o9.2.2.2.2.1), (82, o9.2.2.2.2.2.1), (83, o9.2.2.2.2.2.2.1), (84, o9.2.2.2.2.2.2.2.1), (85, o9.2.2.2.2.2.2.2.2.1), (86, o9.2.2.2.2.2.2.2.2.2), (87, r87), (88, r88)])) (L2 := (mj_rows L [(89, q89), (90, q90), (97, q97)])) (s1 := [.int o14, .ref 71]) (st := [.ref 71]) [.long x2.toInt64, .long (0 : Int64), .long (9 : Int64)] (cmX11_lies X.2.1 G F x2.toInt64 (0 : Int64) (9 : Int64) _ _   o14 ho14) rfl rfl cw_X11_157 (by decide) rfl rfl (Nat.le_of_ble_eq_true rfl) ⟨Nat.zero_le _, Nat.zero_le _⟩ dX11_value_33 rfl ?_
      refine mj_if_eq 51 dX11_value_36 (by decide) (fun c15 => ?_) (fun c15 => ?_)
      · replace hf := mj_pos c15 hf
        exact jtX11_value_51 hR F I L o12.2.1 o12.2.2 r73 r75 o9.2.2.2.1 o9.2.2.2.2.1 o9.2.2.2.2.2.1 o9.2.2.2.2.2.2.1 o9.2.2.2.2.2.2.2.1 o9.2.2.2.2.2.2.2.2.1 o9.2.2.2.2.2.2.2.2.2 r87 r88 q89 q90 q97 x1 x2 x3 o hf hq
      · replace hf := mj_neg c15 hf
        refine mj_aload_n 0 dX11_value_39 rfl ?_
        refine mj_iload_n 3 dX11_value_40 rfl ?_
        obtain ⟨o16, ho16, hf⟩ := mj_bd hf
        refine mj_callVd (I2 := (mj_rows I [(71, o12.2.1), (72, o12.2.2), (73, r73), (75, r75), (80, o9.2.2.2.1), (81, o9.2.2.2.2.1), (82, o9.2.2.2.2.2.1), (83, o9.2.2.2.2.2.2.1), (84, o9.2.2.2.2.2.2.2.1), (85, o9.2.2.2.2.2.2.2.2.1), (86, o9.2.2.2.2.2.2.2.2.2), (87, r87), (88, r88)])) (L2 := (mj_rows L [(89, q89), (90, q90), (97, q97)])) (s1 := [.int o16, .ref 71]) (st := [.ref 71]) [.int x3] (cmX11_isForm X.2.1 G F x3 _ _   o16 ho16) rfl rfl cw_X11_341 s0_71 a0_71 (by decide) rfl rfl (Nat.le_of_ble_eq_true rfl) ⟨Nat.zero_le _, Nat.zero_le _⟩ dX11_value_41 rfl ?_
        refine mj_if_eq 51 dX11_value_44 (by decide) (fun c17 => ?_) (fun c17 => ?_)
        · replace hf := mj_pos c17 hf
          exact jtX11_value_51 hR F I L o12.2.1 o12.2.2 r73 r75 o9.2.2.2.1 o9.2.2.2.2.1 o9.2.2.2.2.2.1 o9.2.2.2.2.2.2.1 o9.2.2.2.2.2.2.2.1 o9.2.2.2.2.2.2.2.2.1 o9.2.2.2.2.2.2.2.2.2 r87 r88 q89 q90 q97 x1 x2 x3 o hf hq
        · replace hf := mj_neg c17 hf
          refine mj_iconst dX11_value_47 kc_iconst_1 ?_
          refine mj_goto 52 dX11_value_48 (by decide) ?_
          exact jtX11_value_52 hR F I L o12.2.1 o12.2.2 r73 r75 o9.2.2.2.1 o9.2.2.2.2.1 o9.2.2.2.2.2.1 o9.2.2.2.2.2.2.1 o9.2.2.2.2.2.2.2.1 o9.2.2.2.2.2.2.2.2.1 o9.2.2.2.2.2.2.2.2.2 r87 r88 q89 q90 q97 x1 x2 x3 (1 : Int32) o hf hq
set_option maxRecDepth 100000 in
set_option maxHeartbeats 4000000 in
theorem cmX11_value (l : Launch) (G : mj_GT) (F : Nat) (x1 : Int32) (x2 : Int32) (x3 : Int32) (I : mj_IT) (L : mj_LT) (r71 : Nat → Int32) (r72 : Nat → Int32) (r73 : Nat → Int32) (r75 : Nat → Int32) (r80 : Nat → Int32) (r81 : Nat → Int32) (r82 : Nat → Int32) (r83 : Nat → Int32) (r84 : Nat → Int32) (r85 : Nat → Int32) (r86 : Nat → Int32) (r87 : Nat → Int32) (r88 : Nat → Int32) (q89 : Nat → Int64) (q90 : Nat → Int64) (q97 : Nat → Int64) (hr71 : I 71 = r71) (hr72 : I 72 = r72) (hr73 : I 73 = r73) (hr75 : I 75 = r75) (hr80 : I 80 = r80) (hr81 : I 81 = r81) (hr82 : I 82 = r82) (hr83 : I 83 = r83) (hr84 : I 84 = r84) (hr85 : I 85 = r85) (hr86 : I 86 = r86) (hr87 : I 87 = r87) (hr88 : I 88 = r88) (hq89 : L 89 = q89) (hq90 : L 90 = q90) (hq97 : L 97 = q97) (o : ((Int32) × (Nat → Int32) × (Nat → Int32) × (Nat → Int32) × (Nat → Int32) × (Nat → Int32) × (Nat → Int32) × (Nat → Int32) × (Nat → Int32) × (Nat → Int32) × (Nat → Int32) × (Nat → Int64) × (Nat → Int64))) (hf : fnX11_value F r71 r72 r73 r75 r80 r81 r82 r83 r84 r85 r86 r87 r88 q89 q90 q97 x1 x2 x3 = some o) : mj_M l G yX11_value cX11_value 4 8 (some .int) 0 0 mj_P0 mj_S0 98 [.ref 71, .int x1, .int x2, .int x3] I L (mj_qd (some (.int o.1)) (mj_rows I [(71, o.2.1), (72, o.2.2.1), (73, r73), (75, r75), (80, o.2.2.2.1), (81, o.2.2.2.2.1), (82, o.2.2.2.2.2.1), (83, o.2.2.2.2.2.2.1), (84, o.2.2.2.2.2.2.2.1), (85, o.2.2.2.2.2.2.2.2.1), (86, o.2.2.2.2.2.2.2.2.2.1), (87, r87), (88, o.2.2.2.2.2.2.2.2.2.2.1)]) (mj_rows L [(89, o.2.2.2.2.2.2.2.2.2.2.2.1), (90, o.2.2.2.2.2.2.2.2.2.2.2.2), (97, q97)])) := by
  refine mj_in RX11 "value" [(0, .ref 71), (1, .int x1), (2, .int x2), (3, .int x3)] rfl rfl rfl (by decide) (Nat.le_of_ble_eq_true rfl) (fun X ad hR => ?_)
  refine mj_toI [(71, r71), (72, r72), (73, r73), (75, r75), (80, r80), (81, r81), (82, r82), (83, r83), (84, r84), (85, r85), (86, r86), (87, r87), (88, r88)] (by intro q hq; simp only [List.mem_cons, List.not_mem_nil, or_false] at hq; rcases hq with rfl | rfl | rfl | rfl | rfl | rfl | rfl | rfl | rfl | rfl | rfl | rfl | rfl <;> assumption) ?_
  refine mj_toL [(89, q89), (90, q90), (97, q97)] (by intro q hq; simp only [List.mem_cons, List.not_mem_nil, or_false] at hq; rcases hq with rfl | rfl | rfl <;> assumption) ?_
  refine mtX11_value hR F I L r71 r72 r73 r75 r80 r81 r82 r83 r84 r85 r86 r87 r88 q89 q90 q97 x1 x2 x3 o hf ?_
  obtain ⟨w0, w1, w2, w3, w4, w5, w6, w7, w8, w9, w10, w11, w12⟩ := o
  refine mj_u2q ?_
  refine mj_u2q ?_
  refine mj_u2q ?_
  refine mj_u2q ?_
  refine mj_u2q ?_
  refine mj_u2q ?_
  refine mj_u2q ?_
  refine mj_u2q ?_
  refine mj_u2q ?_
  refine mj_u2q ?_
  refine mj_u2q ?_
  refine mj_u2q ?_
  exact ⟨rfl, rfl, rfl⟩

-- X11_both
def jnX11_both_82 (F : Nat) (r73 : Nat → Int32) (r75 : Nat → Int32) (r87 : Nat → Int32) (q97 : Nat → Int64) (x1 : Int32) (x2 : Int32) (x3 : Int32) (x4 : Int32) (x5 : Int32) (t1 : Int32) (r71 : Nat → Int32) (r72 : Nat → Int32) (r80 : Nat → Int32) (r81 : Nat → Int32) (r82 : Nat → Int32) (r83 : Nat → Int32) (r84 : Nat → Int32) (r85 : Nat → Int32) (r86 : Nat → Int32) (r88 : Nat → Int32) (q89 : Nat → Int64) (q90 : Nat → Int64) : Option ((Int32) × (Nat → Int32) × (Nat → Int32) × (Nat → Int32) × (Nat → Int32) × (Nat → Int32) × (Nat → Int32) × (Nat → Int32) × (Nat → Int32) × (Nat → Int32) × (Nat → Int32) × (Nat → Int64) × (Nat → Int64)) := (fnX11_isFine F r71 r72 t1 (3 : Int32) (1 : Int32)).bind (fun o1 => (if o1.1 = 0 then some ((0 : Int32), o1.2.1, o1.2.2, r80, r81, r82, r83, r84, r85, r86, r88, q89, q90) else (fnX11_hasEnd F o1.2.1 o1.2.2 r80).bind (fun o3 => (if o3.1 = 0 then some ((0 : Int32), o3.2.1, o3.2.2, r80, r81, r82, r83, r84, r85, r86, r88, q89, q90) else (fnX11_isSure F o3.2.1 r80 r83 r84 r85 r86 r88 q89 q90 q97).bind (fun o5 => (if o5.1 = 0 then some ((-3 : Int32), o5.2.1, o3.2.2, r80, r81, r82, r83, r84, r85, r86, o5.2.2.1, o5.2.2.2.1, o5.2.2.2.2) else (fnX11_oddsOf F o5.2.1 r80 r81 r87 o5.2.2.2.2 x1 x2 x3 x4).bind (fun o7 => (fnX11_formed F o7 x5).bind (fun o8 => some (o8, o5.2.1, o3.2.2, r80, r81, r82, r83, r84, r85, r86, o5.2.2.1, o5.2.2.2.1, o5.2.2.2.2)))))))))
def jnX11_both_81 (F : Nat) (r73 : Nat → Int32) (r75 : Nat → Int32) (r87 : Nat → Int32) (q97 : Nat → Int64) (x1 : Int32) (x2 : Int32) (x3 : Int32) (x4 : Int32) (x5 : Int32) (r71 : Nat → Int32) (r72 : Nat → Int32) (r80 : Nat → Int32) (r81 : Nat → Int32) (r82 : Nat → Int32) (r83 : Nat → Int32) (r84 : Nat → Int32) (r85 : Nat → Int32) (r86 : Nat → Int32) (r88 : Nat → Int32) (q89 : Nat → Int64) (q90 : Nat → Int64) : Option ((Int32) × (Nat → Int32) × (Nat → Int32) × (Nat → Int32) × (Nat → Int32) × (Nat → Int32) × (Nat → Int32) × (Nat → Int32) × (Nat → Int32) × (Nat → Int32) × (Nat → Int32) × (Nat → Int64) × (Nat → Int64)) := jnX11_both_82 F r73 r75 r87 q97 x1 x2 x3 x4 x5 (0 : Int32) r71 r72 r80 r81 r82 r83 r84 r85 r86 r88 q89 q90
def jnX11_both_34 (F : Nat) (r73 : Nat → Int32) (r75 : Nat → Int32) (r87 : Nat → Int32) (q97 : Nat → Int64) (x1 : Int32) (x2 : Int32) (x3 : Int32) (x4 : Int32) (x5 : Int32) (t1 : Int32) (r71 : Nat → Int32) (r72 : Nat → Int32) (r80 : Nat → Int32) (r81 : Nat → Int32) (r82 : Nat → Int32) (r83 : Nat → Int32) (r84 : Nat → Int32) (r85 : Nat → Int32) (r86 : Nat → Int32) (r88 : Nat → Int32) (q89 : Nat → Int64) (q90 : Nat → Int64) : Option ((Int32) × (Nat → Int32) × (Nat → Int32) × (Nat → Int32) × (Nat → Int32) × (Nat → Int32) × (Nat → Int32) × (Nat → Int32) × (Nat → Int32) × (Nat → Int32) × (Nat → Int32) × (Nat → Int64) × (Nat → Int64)) := (fnX11_isFine F r71 r72 t1 (2 : Int32) (0 : Int32)).bind (fun o9 => (if o9.1 = 0 then some ((0 : Int32), o9.2.1, o9.2.2, r80, r81, r82, r83, r84, r85, r86, r88, q89, q90) else (fnX11_lies F x2.toInt64 (0 : Int64) (9 : Int64)).bind (fun o11 => (if o11 = 0 then jnX11_both_81 F r73 r75 r87 q97 x1 x2 x3 x4 x5 o9.2.1 o9.2.2 r80 r81 r82 r83 r84 r85 r86 r88 q89 q90 else (fnX11_lies F x4.toInt64 (0 : Int64) (9 : Int64)).bind (fun o13 => (if o13 = 0 then jnX11_both_81 F r73 r75 r87 q97 x1 x2 x3 x4 x5 o9.2.1 o9.2.2 r80 r81 r82 r83 r84 r85 r86 r88 q89 q90 else (fnX11_isForm F x5).bind (fun o15 => (if o15 = 0 then jnX11_both_81 F r73 r75 r87 q97 x1 x2 x3 x4 x5 o9.2.1 o9.2.2 r80 r81 r82 r83 r84 r85 r86 r88 q89 q90 else jnX11_both_82 F r73 r75 r87 q97 x1 x2 x3 x4 x5 (1 : Int32) o9.2.1 o9.2.2 r80 r81 r82 r83 r84 r85 r86 r88 q89 q90))))))))
def jnX11_both_33 (F : Nat) (r73 : Nat → Int32) (r75 : Nat → Int32) (r87 : Nat → Int32) (q97 : Nat → Int64) (x1 : Int32) (x2 : Int32) (x3 : Int32) (x4 : Int32) (x5 : Int32) (r71 : Nat → Int32) (r72 : Nat → Int32) (r80 : Nat → Int32) (r81 : Nat → Int32) (r82 : Nat → Int32) (r83 : Nat → Int32) (r84 : Nat → Int32) (r85 : Nat → Int32) (r86 : Nat → Int32) (r88 : Nat → Int32) (q89 : Nat → Int64) (q90 : Nat → Int64) : Option ((Int32) × (Nat → Int32) × (Nat → Int32) × (Nat → Int32) × (Nat → Int32) × (Nat → Int32) × (Nat → Int32) × (Nat → Int32) × (Nat → Int32) × (Nat → Int32) × (Nat → Int32) × (Nat → Int64) × (Nat → Int64)) := jnX11_both_34 F r73 r75 r87 q97 x1 x2 x3 x4 x5 (0 : Int32) r71 r72 r80 r81 r82 r83 r84 r85 r86 r88 q89 q90
def fnX11_both (F : Nat) (r71 : Nat → Int32) (r72 : Nat → Int32) (r73 : Nat → Int32) (r75 : Nat → Int32) (r80 : Nat → Int32) (r81 : Nat → Int32) (r82 : Nat → Int32) (r83 : Nat → Int32) (r84 : Nat → Int32) (r85 : Nat → Int32) (r86 : Nat → Int32) (r87 : Nat → Int32) (r88 : Nat → Int32) (q89 : Nat → Int64) (q90 : Nat → Int64) (q97 : Nat → Int64) (x1 : Int32) (x2 : Int32) (x3 : Int32) (x4 : Int32) (x5 : Int32) : Option ((Int32) × (Nat → Int32) × (Nat → Int32) × (Nat → Int32) × (Nat → Int32) × (Nat → Int32) × (Nat → Int32) × (Nat → Int32) × (Nat → Int32) × (Nat → Int32) × (Nat → Int32) × (Nat → Int64) × (Nat → Int64)) := (fnX11_isFew F (upd r71 0 (0 : Int32)) r72 r73 r75 r80 r81 r82 r83 r84 r85 r86 r87).bind (fun o17 => (if o17.1 = 0 then some ((0 : Int32), o17.2.1, o17.2.2.1, o17.2.2.2.1, o17.2.2.2.2.1, o17.2.2.2.2.2.1, o17.2.2.2.2.2.2.1, o17.2.2.2.2.2.2.2.1, o17.2.2.2.2.2.2.2.2.1, o17.2.2.2.2.2.2.2.2.2, r88, q89, q90) else (fnX11_isName F x1).bind (fun o19 => (if o19 = 0 then jnX11_both_33 F r73 r75 r87 q97 x1 x2 x3 x4 x5 o17.2.1 o17.2.2.1 o17.2.2.2.1 o17.2.2.2.2.1 o17.2.2.2.2.2.1 o17.2.2.2.2.2.2.1 o17.2.2.2.2.2.2.2.1 o17.2.2.2.2.2.2.2.2.1 o17.2.2.2.2.2.2.2.2.2 r88 q89 q90 else (fnX11_isName F x3).bind (fun o21 => (if o21 = 0 then jnX11_both_33 F r73 r75 r87 q97 x1 x2 x3 x4 x5 o17.2.1 o17.2.2.1 o17.2.2.2.1 o17.2.2.2.2.1 o17.2.2.2.2.2.1 o17.2.2.2.2.2.2.1 o17.2.2.2.2.2.2.2.1 o17.2.2.2.2.2.2.2.2.1 o17.2.2.2.2.2.2.2.2.2 r88 q89 q90 else jnX11_both_34 F r73 r75 r87 q97 x1 x2 x3 x4 x5 (1 : Int32) o17.2.1 o17.2.2.1 o17.2.2.2.1 o17.2.2.2.2.1 o17.2.2.2.2.2.1 o17.2.2.2.2.2.2.1 o17.2.2.2.2.2.2.2.1 o17.2.2.2.2.2.2.2.2.1 o17.2.2.2.2.2.2.2.2.2 r88 q89 q90))))))
set_option maxRecDepth 100000 in
set_option maxHeartbeats 4000000 in
theorem jtX11_both_82 {X : mj_XT} {l : Launch} {G : mj_GT} {ad : Nat → Nat} {Qn : Option Value → mj_IT → mj_LT → Prop} (hR : mj_R X l G mj_P0 mj_S0 98 ad 0 0 Qn) (F : Nat) (I : mj_IT) (L : mj_LT) (r71 : Nat → Int32) (r72 : Nat → Int32) (r73 : Nat → Int32) (r75 : Nat → Int32) (r80 : Nat → Int32) (r81 : Nat → Int32) (r82 : Nat → Int32) (r83 : Nat → Int32) (r84 : Nat → Int32) (r85 : Nat → Int32) (r86 : Nat → Int32) (r87 : Nat → Int32) (r88 : Nat → Int32) (q89 : Nat → Int64) (q90 : Nat → Int64) (q97 : Nat → Int64) (x1 : Int32) (x2 : Int32) (x3 : Int32) (x4 : Int32) (x5 : Int32) (t1 : Int32) (o : ((Int32) × (Nat → Int32) × (Nat → Int32) × (Nat → Int32) × (Nat → Int32) × (Nat → Int32) × (Nat → Int32) × (Nat → Int32) × (Nat → Int32) × (Nat → Int32) × (Nat → Int32) × (Nat → Int64) × (Nat → Int64))) (hf : jnX11_both_82 F r73 r75 r87 q97 x1 x2 x3 x4 x5 t1 r71 r72 r80 r81 r82 r83 r84 r85 r86 r88 q89 q90 = some o) (hq : (mj_u2 (fun ov => (mj_u2 (fun r71 => (mj_u2 (fun r72 => (mj_u2 (fun r80 => (mj_u2 (fun r81 => (mj_u2 (fun r82 => (mj_u2 (fun r83 => (mj_u2 (fun r84 => (mj_u2 (fun r85 => (mj_u2 (fun r86 => (mj_u2 (fun r88 => (mj_u2 (fun q89 q90 => Qn (some (.int ov)) (mj_rows I [(71, r71), (72, r72), (73, r73), (75, r75), (80, r80), (81, r81), (82, r82), (83, r83), (84, r84), (85, r85), (86, r86), (87, r87), (88, r88)]) (mj_rows L [(89, q89), (90, q90), (97, q97)]))))))))))))))))))))))))) o) : mj_W X G RX11 "both" cX11_both 6 8 (some .int) mj_P0 mj_S0 98 ad 0 0 82 [(0, .ref 71), (1, .int x1), (2, .int x2), (3, .int x3), (4, .int x4), (5, .int x5)] [.int t1, .ref 71] (mj_rows I [(71, r71), (72, r72), (73, r73), (75, r75), (80, r80), (81, r81), (82, r82), (83, r83), (84, r84), (85, r85), (86, r86), (87, r87), (88, r88)]) (mj_rows L [(89, q89), (90, q90), (97, q97)]) := by
  unfold jnX11_both_82 at hf
  refine mj_iconst dX11_both_82 kc_iconst_3 ?_
  refine mj_iconst dX11_both_83 kc_iconst_1 ?_
  obtain ⟨o1, ho1, hf⟩ := mj_bd hf
  refine mj_callVd (I2 := (mj_rows I [(71, o1.2.1), (72, o1.2.2), (73, r73), (75, r75), (80, r80), (81, r81), (82, r82), (83, r83), (84, r84), (85, r85), (86, r86), (87, r87), (88, r88)])) (L2 := (mj_rows L [(89, q89), (90, q90), (97, q97)])) (s1 := [.int o1.1]) (st := []) [.int t1, .int (3 : Int32), .int (1 : Int32)] (cmX11_isFine X.2.1 G F t1 (3 : Int32) (1 : Int32) _ _ r71 r72 rfl rfl o1 ho1) (mj_rr rfl) rfl cw_X11_161 s0_71 a0_71 (by decide) rfl rfl (Nat.le_of_ble_eq_true rfl) ⟨Nat.zero_le _, Nat.zero_le _⟩ dX11_both_84 rfl ?_
  refine mj_if_eq 97 dX11_both_87 (by decide) (fun c2 => ?_) (fun c2 => ?_)
  · replace hf := mj_pos c2 hf
    refine mj_iconst dX11_both_97 kc_iconst_0 ?_
    obtain rfl := Option.some.inj hf
    have hZ := hq
    replace hZ := mj_u2p hZ
    replace hZ := mj_u2p hZ
    replace hZ := mj_u2p hZ
    replace hZ := mj_u2p hZ
    replace hZ := mj_u2p hZ
    replace hZ := mj_u2p hZ
    replace hZ := mj_u2p hZ
    replace hZ := mj_u2p hZ
    replace hZ := mj_u2p hZ
    replace hZ := mj_u2p hZ
    replace hZ := mj_u2p hZ
    replace hZ := mj_u2p hZ
    exact mj_iret hR ⟨Nat.le_refl _, Nat.le_refl _⟩ rfl rfl dX11_both_98 hZ
  · replace hf := mj_neg c2 hf
    refine mj_aload_n 0 dX11_both_90 rfl ?_
    obtain ⟨o3, ho3, hf⟩ := mj_bd hf
    refine mj_callVd (I2 := (mj_rows I [(71, o3.2.1), (72, o3.2.2), (73, r73), (75, r75), (80, r80), (81, r81), (82, r82), (83, r83), (84, r84), (85, r85), (86, r86), (87, r87), (88, r88)])) (L2 := (mj_rows L [(89, q89), (90, q90), (97, q97)])) (s1 := [.int o3.1]) (st := []) [] (cmX11_hasEnd X.2.1 G F  _ _ o1.2.1 o1.2.2 r80 rfl rfl rfl o3 ho3) (mj_rr rfl) rfl cw_X11_361 s0_71 a0_71 (by decide) rfl rfl (Nat.le_of_ble_eq_true rfl) ⟨Nat.zero_le _, Nat.zero_le _⟩ dX11_both_91 rfl ?_
    refine mj_if_ne 99 dX11_both_94 (by decide) (fun c4 => ?_) (fun c4 => ?_)
    · replace hf := mj_neg c4 hf
      refine mj_aload_n 0 dX11_both_99 rfl ?_
      obtain ⟨o5, ho5, hf⟩ := mj_bd hf
      refine mj_callVd (I2 := (mj_rows I [(71, o5.2.1), (72, o3.2.2), (73, r73), (75, r75), (80, r80), (81, r81), (82, r82), (83, r83), (84, r84), (85, r85), (86, r86), (87, r87), (88, o5.2.2.1)])) (L2 := (mj_rows L [(89, o5.2.2.2.1), (90, o5.2.2.2.2), (97, q97)])) (s1 := [.int o5.1]) (st := []) [] (cmX11_isSure X.2.1 G F  _ _ o3.2.1 r80 r83 r84 r85 r86 r88 q89 q90 q97 rfl rfl rfl rfl rfl rfl rfl rfl rfl rfl o5 ho5) (mj_rr rfl) (mj_rr rfl) cw_X11_364 s0_71 a0_71 (by decide) rfl rfl (Nat.le_of_ble_eq_true rfl) ⟨Nat.zero_le _, Nat.zero_le _⟩ dX11_both_100 rfl ?_
      refine mj_if_eq 123 dX11_both_103 (by decide) (fun c6 => ?_) (fun c6 => ?_)
      · replace hf := mj_pos c6 hf
        refine mj_bipush dX11_both_123 kc_bipush_m3 ?_
        obtain rfl := Option.some.inj hf
        have hZ := hq
        replace hZ := mj_u2p hZ
        replace hZ := mj_u2p hZ
        replace hZ := mj_u2p hZ
        replace hZ := mj_u2p hZ
        replace hZ := mj_u2p hZ
        replace hZ := mj_u2p hZ
        replace hZ := mj_u2p hZ
        replace hZ := mj_u2p hZ
        replace hZ := mj_u2p hZ
        replace hZ := mj_u2p hZ
        replace hZ := mj_u2p hZ
        replace hZ := mj_u2p hZ
        exact mj_iret hR ⟨Nat.le_refl _, Nat.le_refl _⟩ rfl rfl dX11_both_125 hZ
      · replace hf := mj_neg c6 hf
        refine mj_aload_n 0 dX11_both_106 rfl ?_
        refine mj_iload_n 1 dX11_both_107 rfl ?_
        refine mj_iload_n 2 dX11_both_108 rfl ?_
        refine mj_iload_n 3 dX11_both_109 rfl ?_
        refine mj_iload 4 dX11_both_110 rfl ?_
        obtain ⟨o7, ho7, hf⟩ := mj_bd hf
        refine mj_callVd (I2 := (mj_rows I [(71, o5.2.1), (72, o3.2.2), (73, r73), (75, r75), (80, r80), (81, r81), (82, r82), (83, r83), (84, r84), (85, r85), (86, r86), (87, r87), (88, o5.2.2.1)])) (L2 := (mj_rows L [(89, o5.2.2.2.1), (90, o5.2.2.2.2), (97, q97)])) (s1 := [.long o7]) (st := []) [.int x1, .int x2, .int x3, .int x4] (cmX11_oddsOf X.2.1 G F x1 x2 x3 x4 _ _ o5.2.1 r80 r81 r87 o5.2.2.2.2 rfl rfl rfl rfl rfl o7 ho7) (mj_rr rfl) (mj_rr rfl) cw_X11_357 s0_71 a0_71 (by decide) rfl rfl (Nat.le_of_ble_eq_true rfl) ⟨Nat.zero_le _, Nat.zero_le _⟩ dX11_both_112 rfl ?_
        refine mj_iload 5 dX11_both_115 rfl ?_
        obtain ⟨o8, ho8, hf⟩ := mj_bd hf
        refine mj_callSd (I2 := (mj_rows I [(71, o5.2.1), (72, o3.2.2), (73, r73), (75, r75), (80, r80), (81, r81), (82, r82), (83, r83), (84, r84), (85, r85), (86, r86), (87, r87), (88, o5.2.2.1)])) (L2 := (mj_rows L [(89, o5.2.2.2.1), (90, o5.2.2.2.2), (97, q97)])) (s1 := [.int o8]) (st := []) [.long o7, .int x5] (cmX11_formed X.2.1 G F o7 x5 _ _   o8 ho8) rfl rfl cw_X11_353 (by decide) rfl rfl (Nat.le_of_ble_eq_true rfl) ⟨Nat.zero_le _, Nat.zero_le _⟩ dX11_both_117 rfl ?_
        refine mj_goto 125 dX11_both_120 (by decide) ?_
        obtain rfl := Option.some.inj hf
        have hZ := hq
        replace hZ := mj_u2p hZ
        replace hZ := mj_u2p hZ
        replace hZ := mj_u2p hZ
        replace hZ := mj_u2p hZ
        replace hZ := mj_u2p hZ
        replace hZ := mj_u2p hZ
        replace hZ := mj_u2p hZ
        replace hZ := mj_u2p hZ
        replace hZ := mj_u2p hZ
        replace hZ := mj_u2p hZ
        replace hZ := mj_u2p hZ
        replace hZ := mj_u2p hZ
        exact mj_iret hR ⟨Nat.le_refl _, Nat.le_refl _⟩ rfl rfl dX11_both_125 hZ
    · replace hf := mj_pos c4 hf
      refine mj_iconst dX11_both_97 kc_iconst_0 ?_
      obtain rfl := Option.some.inj hf
      have hZ := hq
      replace hZ := mj_u2p hZ
      replace hZ := mj_u2p hZ
      replace hZ := mj_u2p hZ
      replace hZ := mj_u2p hZ
      replace hZ := mj_u2p hZ
      replace hZ := mj_u2p hZ
      replace hZ := mj_u2p hZ
      replace hZ := mj_u2p hZ
      replace hZ := mj_u2p hZ
      replace hZ := mj_u2p hZ
      replace hZ := mj_u2p hZ
      replace hZ := mj_u2p hZ
      exact mj_iret hR ⟨Nat.le_refl _, Nat.le_refl _⟩ rfl rfl dX11_both_98 hZ
set_option maxRecDepth 100000 in
set_option maxHeartbeats 4000000 in
theorem jtX11_both_81 {X : mj_XT} {l : Launch} {G : mj_GT} {ad : Nat → Nat} {Qn : Option Value → mj_IT → mj_LT → Prop} (hR : mj_R X l G mj_P0 mj_S0 98 ad 0 0 Qn) (F : Nat) (I : mj_IT) (L : mj_LT) (r71 : Nat → Int32) (r72 : Nat → Int32) (r73 : Nat → Int32) (r75 : Nat → Int32) (r80 : Nat → Int32) (r81 : Nat → Int32) (r82 : Nat → Int32) (r83 : Nat → Int32) (r84 : Nat → Int32) (r85 : Nat → Int32) (r86 : Nat → Int32) (r87 : Nat → Int32) (r88 : Nat → Int32) (q89 : Nat → Int64) (q90 : Nat → Int64) (q97 : Nat → Int64) (x1 : Int32) (x2 : Int32) (x3 : Int32) (x4 : Int32) (x5 : Int32) (o : ((Int32) × (Nat → Int32) × (Nat → Int32) × (Nat → Int32) × (Nat → Int32) × (Nat → Int32) × (Nat → Int32) × (Nat → Int32) × (Nat → Int32) × (Nat → Int32) × (Nat → Int32) × (Nat → Int64) × (Nat → Int64))) (hf : jnX11_both_81 F r73 r75 r87 q97 x1 x2 x3 x4 x5 r71 r72 r80 r81 r82 r83 r84 r85 r86 r88 q89 q90 = some o) (hq : (mj_u2 (fun ov => (mj_u2 (fun r71 => (mj_u2 (fun r72 => (mj_u2 (fun r80 => (mj_u2 (fun r81 => (mj_u2 (fun r82 => (mj_u2 (fun r83 => (mj_u2 (fun r84 => (mj_u2 (fun r85 => (mj_u2 (fun r86 => (mj_u2 (fun r88 => (mj_u2 (fun q89 q90 => Qn (some (.int ov)) (mj_rows I [(71, r71), (72, r72), (73, r73), (75, r75), (80, r80), (81, r81), (82, r82), (83, r83), (84, r84), (85, r85), (86, r86), (87, r87), (88, r88)]) (mj_rows L [(89, q89), (90, q90), (97, q97)]))))))))))))))))))))))))) o) : mj_W X G RX11 "both" cX11_both 6 8 (some .int) mj_P0 mj_S0 98 ad 0 0 81 [(0, .ref 71), (1, .int x1), (2, .int x2), (3, .int x3), (4, .int x4), (5, .int x5)] [.ref 71] (mj_rows I [(71, r71), (72, r72), (73, r73), (75, r75), (80, r80), (81, r81), (82, r82), (83, r83), (84, r84), (85, r85), (86, r86), (87, r87), (88, r88)]) (mj_rows L [(89, q89), (90, q90), (97, q97)]) := by
  unfold jnX11_both_81 at hf
  refine mj_iconst dX11_both_81 kc_iconst_0 ?_
  exact jtX11_both_82 hR F I L r71 r72 r73 r75 r80 r81 r82 r83 r84 r85 r86 r87 r88 q89 q90 q97 x1 x2 x3 x4 x5 (0 : Int32) o hf hq
set_option maxRecDepth 100000 in
set_option maxHeartbeats 4000000 in
theorem jtX11_both_34 {X : mj_XT} {l : Launch} {G : mj_GT} {ad : Nat → Nat} {Qn : Option Value → mj_IT → mj_LT → Prop} (hR : mj_R X l G mj_P0 mj_S0 98 ad 0 0 Qn) (F : Nat) (I : mj_IT) (L : mj_LT) (r71 : Nat → Int32) (r72 : Nat → Int32) (r73 : Nat → Int32) (r75 : Nat → Int32) (r80 : Nat → Int32) (r81 : Nat → Int32) (r82 : Nat → Int32) (r83 : Nat → Int32) (r84 : Nat → Int32) (r85 : Nat → Int32) (r86 : Nat → Int32) (r87 : Nat → Int32) (r88 : Nat → Int32) (q89 : Nat → Int64) (q90 : Nat → Int64) (q97 : Nat → Int64) (x1 : Int32) (x2 : Int32) (x3 : Int32) (x4 : Int32) (x5 : Int32) (t1 : Int32) (o : ((Int32) × (Nat → Int32) × (Nat → Int32) × (Nat → Int32) × (Nat → Int32) × (Nat → Int32) × (Nat → Int32) × (Nat → Int32) × (Nat → Int32) × (Nat → Int32) × (Nat → Int32) × (Nat → Int64) × (Nat → Int64))) (hf : jnX11_both_34 F r73 r75 r87 q97 x1 x2 x3 x4 x5 t1 r71 r72 r80 r81 r82 r83 r84 r85 r86 r88 q89 q90 = some o) (hq : (mj_u2 (fun ov => (mj_u2 (fun r71 => (mj_u2 (fun r72 => (mj_u2 (fun r80 => (mj_u2 (fun r81 => (mj_u2 (fun r82 => (mj_u2 (fun r83 => (mj_u2 (fun r84 => (mj_u2 (fun r85 => (mj_u2 (fun r86 => (mj_u2 (fun r88 => (mj_u2 (fun q89 q90 => Qn (some (.int ov)) (mj_rows I [(71, r71), (72, r72), (73, r73), (75, r75), (80, r80), (81, r81), (82, r82), (83, r83), (84, r84), (85, r85), (86, r86), (87, r87), (88, r88)]) (mj_rows L [(89, q89), (90, q90), (97, q97)]))))))))))))))))))))))))) o) : mj_W X G RX11 "both" cX11_both 6 8 (some .int) mj_P0 mj_S0 98 ad 0 0 34 [(0, .ref 71), (1, .int x1), (2, .int x2), (3, .int x3), (4, .int x4), (5, .int x5)] [.int t1, .ref 71] (mj_rows I [(71, r71), (72, r72), (73, r73), (75, r75), (80, r80), (81, r81), (82, r82), (83, r83), (84, r84), (85, r85), (86, r86), (87, r87), (88, r88)]) (mj_rows L [(89, q89), (90, q90), (97, q97)]) := by
  unfold jnX11_both_34 at hf
  refine mj_iconst dX11_both_34 kc_iconst_2 ?_
  refine mj_iconst dX11_both_35 kc_iconst_0 ?_
  obtain ⟨o9, ho9, hf⟩ := mj_bd hf
  refine mj_callVd (I2 := (mj_rows I [(71, o9.2.1), (72, o9.2.2), (73, r73), (75, r75), (80, r80), (81, r81), (82, r82), (83, r83), (84, r84), (85, r85), (86, r86), (87, r87), (88, r88)])) (L2 := (mj_rows L [(89, q89), (90, q90), (97, q97)])) (s1 := [.int o9.1]) (st := []) [.int t1, .int (2 : Int32), .int (0 : Int32)] (cmX11_isFine X.2.1 G F t1 (2 : Int32) (0 : Int32) _ _ r71 r72 rfl rfl o9 ho9) (mj_rr rfl) rfl cw_X11_161 s0_71 a0_71 (by decide) rfl rfl (Nat.le_of_ble_eq_true rfl) ⟨Nat.zero_le _, Nat.zero_le _⟩ dX11_both_36 rfl ?_
  refine mj_if_eq 97 dX11_both_39 (by decide) (fun c10 => ?_) (fun c10 => ?_)
  · replace hf := mj_pos c10 hf
    refine mj_iconst dX11_both_97 kc_iconst_0 ?_
    obtain rfl := Option.some.inj hf
    have hZ := hq
    replace hZ := mj_u2p hZ
    replace hZ := mj_u2p hZ
    replace hZ := mj_u2p hZ
    replace hZ := mj_u2p hZ
    replace hZ := mj_u2p hZ
    replace hZ := mj_u2p hZ
    replace hZ := mj_u2p hZ
    replace hZ := mj_u2p hZ
    replace hZ := mj_u2p hZ
    replace hZ := mj_u2p hZ
    replace hZ := mj_u2p hZ
    replace hZ := mj_u2p hZ
    exact mj_iret hR ⟨Nat.le_refl _, Nat.le_refl _⟩ rfl rfl dX11_both_98 hZ
  · replace hf := mj_neg c10 hf
    refine mj_aload_n 0 dX11_both_42 rfl ?_
    refine mj_iload_n 2 dX11_both_43 rfl ?_
    refine mj_i2l dX11_both_44 ?_
    refine mj_lconst (v := 0) dX11_both_45 (by decide) ?_
    refine mj_ldc2 kk_X11_198 dX11_both_46 ?_
    obtain ⟨o11, ho11, hf⟩ := mj_bd hf
    refine mj_callSd (I2 := (mj_rows I [(71, o9.2.1), (72, o9.2.2), (73, r73), (75, r75), (80, r80), (81, r81), (82, r82), (83, r83), (84, r84), (85, r85), (86, r86), (87, r87), (88, r88)])) (L2 := (mj_rows L [(89, q89), (90, q90), (97, q97)])) (s1 := [.int o11, .ref 71]) (st := [.ref 71]) [.long x2.toInt64, .long (0 : Int64), .long (9 : Int64)] (cmX11_lies X.2.1 G F x2.toInt64 (0 : Int64) (9 : Int64) _ _   o11 ho11) rfl rfl cw_X11_157 (by decide) rfl rfl (Nat.le_of_ble_eq_true rfl) ⟨Nat.zero_le _, Nat.zero_le _⟩ dX11_both_49 rfl ?_
    refine mj_if_eq 81 dX11_both_52 (by decide) (fun c12 => ?_) (fun c12 => ?_)
    · replace hf := mj_pos c12 hf
      exact jtX11_both_81 hR F I L o9.2.1 o9.2.2 r73 r75 r80 r81 r82 r83 r84 r85 r86 r87 r88 q89 q90 q97 x1 x2 x3 x4 x5 o hf hq
    · replace hf := mj_neg c12 hf
      refine mj_iload 4 dX11_both_55 rfl ?_
      refine mj_i2l dX11_both_57 ?_
      refine mj_lconst (v := 0) dX11_both_58 (by decide) ?_
      refine mj_ldc2 kk_X11_198 dX11_both_59 ?_
      obtain ⟨o13, ho13, hf⟩ := mj_bd hf
      refine mj_callSd (I2 := (mj_rows I [(71, o9.2.1), (72, o9.2.2), (73, r73), (75, r75), (80, r80), (81, r81), (82, r82), (83, r83), (84, r84), (85, r85), (86, r86), (87, r87), (88, r88)])) (L2 := (mj_rows L [(89, q89), (90, q90), (97, q97)])) (s1 := [.int o13, .ref 71]) (st := [.ref 71]) [.long x4.toInt64, .long (0 : Int64), .long (9 : Int64)] (cmX11_lies X.2.1 G F x4.toInt64 (0 : Int64) (9 : Int64) _ _   o13 ho13) rfl rfl cw_X11_157 (by decide) rfl rfl (Nat.le_of_ble_eq_true rfl) ⟨Nat.zero_le _, Nat.zero_le _⟩ dX11_both_62 rfl ?_
      refine mj_if_eq 81 dX11_both_65 (by decide) (fun c14 => ?_) (fun c14 => ?_)
      · replace hf := mj_pos c14 hf
        exact jtX11_both_81 hR F I L o9.2.1 o9.2.2 r73 r75 r80 r81 r82 r83 r84 r85 r86 r87 r88 q89 q90 q97 x1 x2 x3 x4 x5 o hf hq
      · replace hf := mj_neg c14 hf
        refine mj_aload_n 0 dX11_both_68 rfl ?_
        refine mj_iload 5 dX11_both_69 rfl ?_
        obtain ⟨o15, ho15, hf⟩ := mj_bd hf
        refine mj_callVd (I2 := (mj_rows I [(71, o9.2.1), (72, o9.2.2), (73, r73), (75, r75), (80, r80), (81, r81), (82, r82), (83, r83), (84, r84), (85, r85), (86, r86), (87, r87), (88, r88)])) (L2 := (mj_rows L [(89, q89), (90, q90), (97, q97)])) (s1 := [.int o15, .ref 71]) (st := [.ref 71]) [.int x5] (cmX11_isForm X.2.1 G F x5 _ _   o15 ho15) rfl rfl cw_X11_341 s0_71 a0_71 (by decide) rfl rfl (Nat.le_of_ble_eq_true rfl) ⟨Nat.zero_le _, Nat.zero_le _⟩ dX11_both_71 rfl ?_
        refine mj_if_eq 81 dX11_both_74 (by decide) (fun c16 => ?_) (fun c16 => ?_)
        · replace hf := mj_pos c16 hf
          exact jtX11_both_81 hR F I L o9.2.1 o9.2.2 r73 r75 r80 r81 r82 r83 r84 r85 r86 r87 r88 q89 q90 q97 x1 x2 x3 x4 x5 o hf hq
        · replace hf := mj_neg c16 hf
          refine mj_iconst dX11_both_77 kc_iconst_1 ?_
          refine mj_goto 82 dX11_both_78 (by decide) ?_
          exact jtX11_both_82 hR F I L o9.2.1 o9.2.2 r73 r75 r80 r81 r82 r83 r84 r85 r86 r87 r88 q89 q90 q97 x1 x2 x3 x4 x5 (1 : Int32) o hf hq
set_option maxRecDepth 100000 in
set_option maxHeartbeats 4000000 in
theorem jtX11_both_33 {X : mj_XT} {l : Launch} {G : mj_GT} {ad : Nat → Nat} {Qn : Option Value → mj_IT → mj_LT → Prop} (hR : mj_R X l G mj_P0 mj_S0 98 ad 0 0 Qn) (F : Nat) (I : mj_IT) (L : mj_LT) (r71 : Nat → Int32) (r72 : Nat → Int32) (r73 : Nat → Int32) (r75 : Nat → Int32) (r80 : Nat → Int32) (r81 : Nat → Int32) (r82 : Nat → Int32) (r83 : Nat → Int32) (r84 : Nat → Int32) (r85 : Nat → Int32) (r86 : Nat → Int32) (r87 : Nat → Int32) (r88 : Nat → Int32) (q89 : Nat → Int64) (q90 : Nat → Int64) (q97 : Nat → Int64) (x1 : Int32) (x2 : Int32) (x3 : Int32) (x4 : Int32) (x5 : Int32) (o : ((Int32) × (Nat → Int32) × (Nat → Int32) × (Nat → Int32) × (Nat → Int32) × (Nat → Int32) × (Nat → Int32) × (Nat → Int32) × (Nat → Int32) × (Nat → Int32) × (Nat → Int32) × (Nat → Int64) × (Nat → Int64))) (hf : jnX11_both_33 F r73 r75 r87 q97 x1 x2 x3 x4 x5 r71 r72 r80 r81 r82 r83 r84 r85 r86 r88 q89 q90 = some o) (hq : (mj_u2 (fun ov => (mj_u2 (fun r71 => (mj_u2 (fun r72 => (mj_u2 (fun r80 => (mj_u2 (fun r81 => (mj_u2 (fun r82 => (mj_u2 (fun r83 => (mj_u2 (fun r84 => (mj_u2 (fun r85 => (mj_u2 (fun r86 => (mj_u2 (fun r88 => (mj_u2 (fun q89 q90 => Qn (some (.int ov)) (mj_rows I [(71, r71), (72, r72), (73, r73), (75, r75), (80, r80), (81, r81), (82, r82), (83, r83), (84, r84), (85, r85), (86, r86), (87, r87), (88, r88)]) (mj_rows L [(89, q89), (90, q90), (97, q97)]))))))))))))))))))))))))) o) : mj_W X G RX11 "both" cX11_both 6 8 (some .int) mj_P0 mj_S0 98 ad 0 0 33 [(0, .ref 71), (1, .int x1), (2, .int x2), (3, .int x3), (4, .int x4), (5, .int x5)] [.ref 71] (mj_rows I [(71, r71), (72, r72), (73, r73), (75, r75), (80, r80), (81, r81), (82, r82), (83, r83), (84, r84), (85, r85), (86, r86), (87, r87), (88, r88)]) (mj_rows L [(89, q89), (90, q90), (97, q97)]) := by
  unfold jnX11_both_33 at hf
  refine mj_iconst dX11_both_33 kc_iconst_0 ?_
  exact jtX11_both_34 hR F I L r71 r72 r73 r75 r80 r81 r82 r83 r84 r85 r86 r87 r88 q89 q90 q97 x1 x2 x3 x4 x5 (0 : Int32) o hf hq
set_option maxRecDepth 100000 in
set_option maxHeartbeats 4000000 in
theorem mtX11_both {X : mj_XT} {l : Launch} {G : mj_GT} {ad : Nat → Nat} {Qn : Option Value → mj_IT → mj_LT → Prop} (hR : mj_R X l G mj_P0 mj_S0 98 ad 0 0 Qn) (F : Nat) (I : mj_IT) (L : mj_LT) (r71 : Nat → Int32) (r72 : Nat → Int32) (r73 : Nat → Int32) (r75 : Nat → Int32) (r80 : Nat → Int32) (r81 : Nat → Int32) (r82 : Nat → Int32) (r83 : Nat → Int32) (r84 : Nat → Int32) (r85 : Nat → Int32) (r86 : Nat → Int32) (r87 : Nat → Int32) (r88 : Nat → Int32) (q89 : Nat → Int64) (q90 : Nat → Int64) (q97 : Nat → Int64) (x1 : Int32) (x2 : Int32) (x3 : Int32) (x4 : Int32) (x5 : Int32) (o : ((Int32) × (Nat → Int32) × (Nat → Int32) × (Nat → Int32) × (Nat → Int32) × (Nat → Int32) × (Nat → Int32) × (Nat → Int32) × (Nat → Int32) × (Nat → Int32) × (Nat → Int32) × (Nat → Int64) × (Nat → Int64))) (hf : fnX11_both F r71 r72 r73 r75 r80 r81 r82 r83 r84 r85 r86 r87 r88 q89 q90 q97 x1 x2 x3 x4 x5 = some o) (hq : (mj_u2 (fun ov => (mj_u2 (fun r71 => (mj_u2 (fun r72 => (mj_u2 (fun r80 => (mj_u2 (fun r81 => (mj_u2 (fun r82 => (mj_u2 (fun r83 => (mj_u2 (fun r84 => (mj_u2 (fun r85 => (mj_u2 (fun r86 => (mj_u2 (fun r88 => (mj_u2 (fun q89 q90 => Qn (some (.int ov)) (mj_rows I [(71, r71), (72, r72), (73, r73), (75, r75), (80, r80), (81, r81), (82, r82), (83, r83), (84, r84), (85, r85), (86, r86), (87, r87), (88, r88)]) (mj_rows L [(89, q89), (90, q90), (97, q97)]))))))))))))))))))))))))) o) : mj_W X G RX11 "both" cX11_both 6 8 (some .int) mj_P0 mj_S0 98 ad 0 0 0 [(0, .ref 71), (1, .int x1), (2, .int x2), (3, .int x3), (4, .int x4), (5, .int x5)] [] (mj_rows I [(71, r71), (72, r72), (73, r73), (75, r75), (80, r80), (81, r81), (82, r82), (83, r83), (84, r84), (85, r85), (86, r86), (87, r87), (88, r88)]) (mj_rows L [(89, q89), (90, q90), (97, q97)]) := by
  unfold fnX11_both at hf
  refine mj_aload_n 0 dX11_both_0 rfl ?_
  refine mj_iconst dX11_both_1 kc_iconst_0 ?_
  refine mj_putIr (ci := 9) (j := 0) [(71, (upd r71 0 (0 : Int32))), (72, r72), (73, r73), (75, r75), (80, r80), (81, r81), (82, r82), (83, r83), (84, r84), (85, r85), (86, r86), (87, r87), (88, r88)] rfl ⟨rfl, rfl⟩ fl_X11_1 rfl rfl s0_71 a0_71 dX11_both_2 ?_
  refine mj_aload_n 0 dX11_both_5 rfl ?_
  obtain ⟨o17, ho17, hf⟩ := mj_bd hf
  refine mj_callVd (I2 := (mj_rows I [(71, o17.2.1), (72, o17.2.2.1), (73, r73), (75, r75), (80, o17.2.2.2.1), (81, o17.2.2.2.2.1), (82, o17.2.2.2.2.2.1), (83, o17.2.2.2.2.2.2.1), (84, o17.2.2.2.2.2.2.2.1), (85, o17.2.2.2.2.2.2.2.2.1), (86, o17.2.2.2.2.2.2.2.2.2), (87, r87), (88, r88)])) (L2 := (mj_rows L [(89, q89), (90, q90), (97, q97)])) (s1 := [.int o17.1]) (st := []) [] (cmX11_isFew X.2.1 G F  _ _ (upd r71 0 (0 : Int32)) r72 r73 r75 r80 r81 r82 r83 r84 r85 r86 r87 rfl rfl rfl rfl rfl rfl rfl rfl rfl rfl rfl rfl o17 ho17) (mj_rr rfl) rfl cw_X11_335 s0_71 a0_71 (by decide) rfl rfl (Nat.le_of_ble_eq_true rfl) ⟨Nat.zero_le _, Nat.zero_le _⟩ dX11_both_6 rfl ?_
  refine mj_if_eq 97 dX11_both_9 (by decide) (fun c18 => ?_) (fun c18 => ?_)
  · replace hf := mj_pos c18 hf
    refine mj_iconst dX11_both_97 kc_iconst_0 ?_
    obtain rfl := Option.some.inj hf
    have hZ := hq
    replace hZ := mj_u2p hZ
    replace hZ := mj_u2p hZ
    replace hZ := mj_u2p hZ
    replace hZ := mj_u2p hZ
    replace hZ := mj_u2p hZ
    replace hZ := mj_u2p hZ
    replace hZ := mj_u2p hZ
    replace hZ := mj_u2p hZ
    replace hZ := mj_u2p hZ
    replace hZ := mj_u2p hZ
    replace hZ := mj_u2p hZ
    replace hZ := mj_u2p hZ
    exact mj_iret hR ⟨Nat.le_refl _, Nat.le_refl _⟩ rfl rfl dX11_both_98 hZ
  · replace hf := mj_neg c18 hf
    refine mj_aload_n 0 dX11_both_12 rfl ?_
    refine mj_aload_n 0 dX11_both_13 rfl ?_
    refine mj_iload_n 1 dX11_both_14 rfl ?_
    obtain ⟨o19, ho19, hf⟩ := mj_bd hf
    refine mj_callVd (I2 := (mj_rows I [(71, o17.2.1), (72, o17.2.2.1), (73, r73), (75, r75), (80, o17.2.2.2.1), (81, o17.2.2.2.2.1), (82, o17.2.2.2.2.2.1), (83, o17.2.2.2.2.2.2.1), (84, o17.2.2.2.2.2.2.2.1), (85, o17.2.2.2.2.2.2.2.2.1), (86, o17.2.2.2.2.2.2.2.2.2), (87, r87), (88, r88)])) (L2 := (mj_rows L [(89, q89), (90, q90), (97, q97)])) (s1 := [.int o19, .ref 71]) (st := [.ref 71]) [.int x1] (cmX11_isName X.2.1 G F x1 _ _   o19 ho19) rfl rfl cw_X11_195 s0_71 a0_71 (by decide) rfl rfl (Nat.le_of_ble_eq_true rfl) ⟨Nat.zero_le _, Nat.zero_le _⟩ dX11_both_15 rfl ?_
    refine mj_if_eq 33 dX11_both_18 (by decide) (fun c20 => ?_) (fun c20 => ?_)
    · replace hf := mj_pos c20 hf
      exact jtX11_both_33 hR F I L o17.2.1 o17.2.2.1 r73 r75 o17.2.2.2.1 o17.2.2.2.2.1 o17.2.2.2.2.2.1 o17.2.2.2.2.2.2.1 o17.2.2.2.2.2.2.2.1 o17.2.2.2.2.2.2.2.2.1 o17.2.2.2.2.2.2.2.2.2 r87 r88 q89 q90 q97 x1 x2 x3 x4 x5 o hf hq
    · replace hf := mj_neg c20 hf
      refine mj_aload_n 0 dX11_both_21 rfl ?_
      refine mj_iload_n 3 dX11_both_22 rfl ?_
      obtain ⟨o21, ho21, hf⟩ := mj_bd hf
      refine mj_callVd (I2 := (mj_rows I [(71, o17.2.1), (72, o17.2.2.1), (73, r73), (75, r75), (80, o17.2.2.2.1), (81, o17.2.2.2.2.1), (82, o17.2.2.2.2.2.1), (83, o17.2.2.2.2.2.2.1), (84, o17.2.2.2.2.2.2.2.1), (85, o17.2.2.2.2.2.2.2.2.1), (86, o17.2.2.2.2.2.2.2.2.2), (87, r87), (88, r88)])) (L2 := (mj_rows L [(89, q89), (90, q90), (97, q97)])) (s1 := [.int o21, .ref 71]) (st := [.ref 71]) [.int x3] (cmX11_isName X.2.1 G F x3 _ _   o21 ho21) rfl rfl cw_X11_195 s0_71 a0_71 (by decide) rfl rfl (Nat.le_of_ble_eq_true rfl) ⟨Nat.zero_le _, Nat.zero_le _⟩ dX11_both_23 rfl ?_
      refine mj_if_eq 33 dX11_both_26 (by decide) (fun c22 => ?_) (fun c22 => ?_)
      · replace hf := mj_pos c22 hf
        exact jtX11_both_33 hR F I L o17.2.1 o17.2.2.1 r73 r75 o17.2.2.2.1 o17.2.2.2.2.1 o17.2.2.2.2.2.1 o17.2.2.2.2.2.2.1 o17.2.2.2.2.2.2.2.1 o17.2.2.2.2.2.2.2.2.1 o17.2.2.2.2.2.2.2.2.2 r87 r88 q89 q90 q97 x1 x2 x3 x4 x5 o hf hq
      · replace hf := mj_neg c22 hf
        refine mj_iconst dX11_both_29 kc_iconst_1 ?_
        refine mj_goto 34 dX11_both_30 (by decide) ?_
        exact jtX11_both_34 hR F I L o17.2.1 o17.2.2.1 r73 r75 o17.2.2.2.1 o17.2.2.2.2.1 o17.2.2.2.2.2.1 o17.2.2.2.2.2.2.1 o17.2.2.2.2.2.2.2.1 o17.2.2.2.2.2.2.2.2.1 o17.2.2.2.2.2.2.2.2.2 r87 r88 q89 q90 q97 x1 x2 x3 x4 x5 (1 : Int32) o hf hq
set_option maxRecDepth 100000 in
set_option maxHeartbeats 4000000 in
theorem cmX11_both (l : Launch) (G : mj_GT) (F : Nat) (x1 : Int32) (x2 : Int32) (x3 : Int32) (x4 : Int32) (x5 : Int32) (I : mj_IT) (L : mj_LT) (r71 : Nat → Int32) (r72 : Nat → Int32) (r73 : Nat → Int32) (r75 : Nat → Int32) (r80 : Nat → Int32) (r81 : Nat → Int32) (r82 : Nat → Int32) (r83 : Nat → Int32) (r84 : Nat → Int32) (r85 : Nat → Int32) (r86 : Nat → Int32) (r87 : Nat → Int32) (r88 : Nat → Int32) (q89 : Nat → Int64) (q90 : Nat → Int64) (q97 : Nat → Int64) (hr71 : I 71 = r71) (hr72 : I 72 = r72) (hr73 : I 73 = r73) (hr75 : I 75 = r75) (hr80 : I 80 = r80) (hr81 : I 81 = r81) (hr82 : I 82 = r82) (hr83 : I 83 = r83) (hr84 : I 84 = r84) (hr85 : I 85 = r85) (hr86 : I 86 = r86) (hr87 : I 87 = r87) (hr88 : I 88 = r88) (hq89 : L 89 = q89) (hq90 : L 90 = q90) (hq97 : L 97 = q97) (o : ((Int32) × (Nat → Int32) × (Nat → Int32) × (Nat → Int32) × (Nat → Int32) × (Nat → Int32) × (Nat → Int32) × (Nat → Int32) × (Nat → Int32) × (Nat → Int32) × (Nat → Int32) × (Nat → Int64) × (Nat → Int64))) (hf : fnX11_both F r71 r72 r73 r75 r80 r81 r82 r83 r84 r85 r86 r87 r88 q89 q90 q97 x1 x2 x3 x4 x5 = some o) : mj_M l G yX11_both cX11_both 6 8 (some .int) 0 0 mj_P0 mj_S0 98 [.ref 71, .int x1, .int x2, .int x3, .int x4, .int x5] I L (mj_qd (some (.int o.1)) (mj_rows I [(71, o.2.1), (72, o.2.2.1), (73, r73), (75, r75), (80, o.2.2.2.1), (81, o.2.2.2.2.1), (82, o.2.2.2.2.2.1), (83, o.2.2.2.2.2.2.1), (84, o.2.2.2.2.2.2.2.1), (85, o.2.2.2.2.2.2.2.2.1), (86, o.2.2.2.2.2.2.2.2.2.1), (87, r87), (88, o.2.2.2.2.2.2.2.2.2.2.1)]) (mj_rows L [(89, o.2.2.2.2.2.2.2.2.2.2.2.1), (90, o.2.2.2.2.2.2.2.2.2.2.2.2), (97, q97)])) := by
  refine mj_in RX11 "both" [(0, .ref 71), (1, .int x1), (2, .int x2), (3, .int x3), (4, .int x4), (5, .int x5)] rfl rfl rfl (by decide) (Nat.le_of_ble_eq_true rfl) (fun X ad hR => ?_)
  refine mj_toI [(71, r71), (72, r72), (73, r73), (75, r75), (80, r80), (81, r81), (82, r82), (83, r83), (84, r84), (85, r85), (86, r86), (87, r87), (88, r88)] (by intro q hq; simp only [List.mem_cons, List.not_mem_nil, or_false] at hq; rcases hq with rfl | rfl | rfl | rfl | rfl | rfl | rfl | rfl | rfl | rfl | rfl | rfl | rfl <;> assumption) ?_
  refine mj_toL [(89, q89), (90, q90), (97, q97)] (by intro q hq; simp only [List.mem_cons, List.not_mem_nil, or_false] at hq; rcases hq with rfl | rfl | rfl <;> assumption) ?_
  refine mtX11_both hR F I L r71 r72 r73 r75 r80 r81 r82 r83 r84 r85 r86 r87 r88 q89 q90 q97 x1 x2 x3 x4 x5 o hf ?_
  obtain ⟨w0, w1, w2, w3, w4, w5, w6, w7, w8, w9, w10, w11, w12⟩ := o
  refine mj_u2q ?_
  refine mj_u2q ?_
  refine mj_u2q ?_
  refine mj_u2q ?_
  refine mj_u2q ?_
  refine mj_u2q ?_
  refine mj_u2q ?_
  refine mj_u2q ?_
  refine mj_u2q ?_
  refine mj_u2q ?_
  refine mj_u2q ?_
  refine mj_u2q ?_
  exact ⟨rfl, rfl, rfl⟩

-- X11_mean
def bdX11_mean_64 (F : Nat) (r71 : Nat → Int32) (r80 : Nat → Int32) (r81 : Nat → Int32) (r87 : Nat → Int32) (q90 : Nat → Int64) (x1 : Int32) (x2 : Int32) (x3 : Int64) (x5 : Int32) : Option (((Int64) × (Int32)) ⊕ ((Int64))) := (if (10 : Int32) ≤ x5 then some (.inr x3) else (fnX11_oddsAlone F r71 r80 r81 r87 q90 x1 x5).bind (fun o2 => some (.inl ((x3 + (x5.toInt64 * o2)), (x5 + (1))))))
def fnX11_mean (F : Nat) (r71 : Nat → Int32) (r72 : Nat → Int32) (r73 : Nat → Int32) (r75 : Nat → Int32) (r80 : Nat → Int32) (r81 : Nat → Int32) (r82 : Nat → Int32) (r83 : Nat → Int32) (r84 : Nat → Int32) (r85 : Nat → Int32) (r86 : Nat → Int32) (r87 : Nat → Int32) (r88 : Nat → Int32) (q89 : Nat → Int64) (q90 : Nat → Int64) (q97 : Nat → Int64) (x1 : Int32) (x2 : Int32) : Option ((Int32) × (Nat → Int32) × (Nat → Int32) × (Nat → Int32) × (Nat → Int32) × (Nat → Int32) × (Nat → Int32) × (Nat → Int32) × (Nat → Int32) × (Nat → Int32) × (Nat → Int32) × (Nat → Int64) × (Nat → Int64)) := (fnX11_isFew F (upd r71 0 (0 : Int32)) r72 r73 r75 r80 r81 r82 r83 r84 r85 r86 r87).bind (fun o3 => (if o3.1 = 0 then some ((0 : Int32), o3.2.1, o3.2.2.1, o3.2.2.2.1, o3.2.2.2.2.1, o3.2.2.2.2.2.1, o3.2.2.2.2.2.2.1, o3.2.2.2.2.2.2.2.1, o3.2.2.2.2.2.2.2.2.1, o3.2.2.2.2.2.2.2.2.2, r88, q89, q90) else (fnX11_isName F x1).bind (fun o5 => (fnX11_isFine F o3.2.1 o3.2.2.1 o5 (2 : Int32) (0 : Int32)).bind (fun o6 => (if o6.1 = 0 then some ((0 : Int32), o6.2.1, o6.2.2, o3.2.2.2.1, o3.2.2.2.2.1, o3.2.2.2.2.2.1, o3.2.2.2.2.2.2.1, o3.2.2.2.2.2.2.2.1, o3.2.2.2.2.2.2.2.2.1, o3.2.2.2.2.2.2.2.2.2, r88, q89, q90) else (fnX11_isForm F x2).bind (fun o8 => (fnX11_isFine F o6.2.1 o6.2.2 o8 (3 : Int32) (1 : Int32)).bind (fun o9 => (if o9.1 = 0 then some ((0 : Int32), o9.2.1, o9.2.2, o3.2.2.2.1, o3.2.2.2.2.1, o3.2.2.2.2.2.1, o3.2.2.2.2.2.2.1, o3.2.2.2.2.2.2.2.1, o3.2.2.2.2.2.2.2.2.1, o3.2.2.2.2.2.2.2.2.2, r88, q89, q90) else (fnX11_hasEnd F o9.2.1 o9.2.2 o3.2.2.2.1).bind (fun o11 => (if o11.1 = 0 then some ((0 : Int32), o11.2.1, o11.2.2, o3.2.2.2.1, o3.2.2.2.2.1, o3.2.2.2.2.2.1, o3.2.2.2.2.2.2.1, o3.2.2.2.2.2.2.2.1, o3.2.2.2.2.2.2.2.2.1, o3.2.2.2.2.2.2.2.2.2, r88, q89, q90) else (fnX11_isSure F o11.2.1 o3.2.2.2.1 o3.2.2.2.2.2.2.1 o3.2.2.2.2.2.2.2.1 o3.2.2.2.2.2.2.2.2.1 o3.2.2.2.2.2.2.2.2.2 r88 q89 q90 q97).bind (fun o13 => (if o13.1 = 0 then some ((-3 : Int32), o13.2.1, o11.2.2, o3.2.2.2.1, o3.2.2.2.2.1, o3.2.2.2.2.2.1, o3.2.2.2.2.2.2.1, o3.2.2.2.2.2.2.2.1, o3.2.2.2.2.2.2.2.2.1, o3.2.2.2.2.2.2.2.2.2, o13.2.2.1, o13.2.2.2.1, o13.2.2.2.2) else (mj_it (mj_u2 (fun z0 z1 => bdX11_mean_64 F o13.2.1 o3.2.2.2.1 o3.2.2.2.2.1 r87 o13.2.2.2.2 x1 x2 z0 z1)) F ((0 : Int64), (1 : Int32))).bind (fun x3_15 => (fnX11_formed F (x3_15 - x3_15 / (998244353 : Int64) * (998244353 : Int64)) x2).bind (fun o16 => some (o16, o13.2.1, o11.2.2, o3.2.2.2.1, o3.2.2.2.2.1, o3.2.2.2.2.2.1, o3.2.2.2.2.2.2.1, o3.2.2.2.2.2.2.2.1, o3.2.2.2.2.2.2.2.2.1, o3.2.2.2.2.2.2.2.2.2, o13.2.2.1, o13.2.2.2.1, o13.2.2.2.2)))))))))))))))
set_option maxRecDepth 100000 in
set_option maxHeartbeats 4000000 in
theorem lpX11_mean_64 {X : mj_XT} {l : Launch} {G : mj_GT} {ad : Nat → Nat} {Qn : Option Value → mj_IT → mj_LT → Prop} (hR : mj_R X l G mj_P0 mj_S0 98 ad 0 0 Qn) (F : Nat) (I : mj_IT) (L : mj_LT) (r71 : Nat → Int32) (r72 : Nat → Int32) (r73 : Nat → Int32) (r75 : Nat → Int32) (r80 : Nat → Int32) (r81 : Nat → Int32) (r82 : Nat → Int32) (r83 : Nat → Int32) (r84 : Nat → Int32) (r85 : Nat → Int32) (r86 : Nat → Int32) (r87 : Nat → Int32) (r88 : Nat → Int32) (q89 : Nat → Int64) (q90 : Nat → Int64) (q97 : Nat → Int64) (x1 : Int32) (x2 : Int32) : ∀ (n : Nat) (s : ((Int64) × (Int32))) (e : ((Int64))), mj_it (mj_u2 (fun z0 z1 => bdX11_mean_64 F r71 r80 r81 r87 q90 x1 x2 z0 z1)) n s = some e → (fun x3 => mj_W X G RX11 "mean" cX11_mean 6 8 (some .int) mj_P0 mj_S0 98 ad 0 0 91 [(2, .int x2), (3, .long x3)] [] (mj_rows I [(71, r71), (72, r72), (73, r73), (75, r75), (80, r80), (81, r81), (82, r82), (83, r83), (84, r84), (85, r85), (86, r86), (87, r87), (88, r88)]) (mj_rows L [(89, q89), (90, q90), (97, q97)])) e → (mj_u2 (fun x3 x5 => mj_W X G RX11 "mean" cX11_mean 6 8 (some .int) mj_P0 mj_S0 98 ad 0 0 64 [(0, .ref 71), (1, .int x1), (2, .int x2), (3, .long x3), (5, .int x5)] [] (mj_rows I [(71, r71), (72, r72), (73, r73), (75, r75), (80, r80), (81, r81), (82, r82), (83, r83), (84, r84), (85, r85), (86, r86), (87, r87), (88, r88)]) (mj_rows L [(89, q89), (90, q90), (97, q97)]))) s := by
  refine mj_loop (fun s o hf hc hx => ?_)
  obtain ⟨x3, x5⟩ := s
  replace hf := mj_u2e hf
  refine mj_u2q ?_
  unfold bdX11_mean_64 at hf
  refine mj_iload 4 dX11_mean_64 rfl ?_
  refine mj_bipush dX11_mean_66 kc_bipush_10 ?_
  refine mj_icmp_ge 91 dX11_mean_68 (by decide) (fun c1 => ?_) (fun c1 => ?_)
  · replace hf := mj_pos c1 hf
    refine mj_sub [2, 3] [(2, .int x2), (3, .long x3)] rfl ?_
    obtain rfl := Option.some.inj hf
    have hZ := hx x3 rfl
    exact hZ
  · replace hf := mj_neg c1 hf
    refine mj_lload_n 3 dX11_mean_71 rfl ?_
    refine mj_iload 4 dX11_mean_72 rfl ?_
    refine mj_i2l dX11_mean_74 ?_
    refine mj_aload_n 0 dX11_mean_75 rfl ?_
    refine mj_iload_n 1 dX11_mean_76 rfl ?_
    refine mj_iload 4 dX11_mean_77 rfl ?_
    obtain ⟨o2, ho2, hf⟩ := mj_bd hf
    refine mj_callVd (I2 := (mj_rows I [(71, r71), (72, r72), (73, r73), (75, r75), (80, r80), (81, r81), (82, r82), (83, r83), (84, r84), (85, r85), (86, r86), (87, r87), (88, r88)])) (L2 := (mj_rows L [(89, q89), (90, q90), (97, q97)])) (s1 := [.long o2, .long x5.toInt64, .long x3]) (st := [.long x5.toInt64, .long x3]) [.int x1, .int x5] (cmX11_oddsAlone X.2.1 G F x1 x5 _ _ r71 r80 r81 r87 q90 rfl rfl rfl rfl rfl o2 ho2) (mj_rr rfl) (mj_rr rfl) cw_X11_367 s0_71 a0_71 (by decide) rfl rfl (Nat.le_of_ble_eq_true rfl) ⟨Nat.zero_le _, Nat.zero_le _⟩ dX11_mean_79 rfl ?_
    refine mj_lmul dX11_mean_82 ?_
    refine mj_ladd dX11_mean_83 ?_
    refine mj_lstore_n [(3, .long (x3 + (x5.toInt64 * o2))), (0, .ref 71), (1, .int x1), (2, .int x2), (5, .int x5)] dX11_mean_84 rfl (by decide) rfl ?_
    refine mj_iinc 4 [(5, .int (x5 + (1))), (3, .long (x3 + (x5.toInt64 * o2))), (0, .ref 71), (1, .int x1), (2, .int x2)] dX11_mean_85 rfl (kz_1 _) (by decide) rfl ?_
    refine mj_goto 64 dX11_mean_88 (by decide) ?_
    refine mj_sub [2, 3, 4, 1, 0] [(0, .ref 71), (1, .int x1), (2, .int x2), (3, .long (x3 + (x5.toInt64 * o2))), (5, .int (x5 + (1)))] rfl ?_
    obtain rfl := Option.some.inj hf
    have hZ := hc ((x3 + (x5.toInt64 * o2)), (x5 + (1))) rfl
    replace hZ := mj_u2p hZ
    exact hZ
set_option maxRecDepth 100000 in
set_option maxHeartbeats 4000000 in
theorem mtX11_mean {X : mj_XT} {l : Launch} {G : mj_GT} {ad : Nat → Nat} {Qn : Option Value → mj_IT → mj_LT → Prop} (hR : mj_R X l G mj_P0 mj_S0 98 ad 0 0 Qn) (F : Nat) (I : mj_IT) (L : mj_LT) (r71 : Nat → Int32) (r72 : Nat → Int32) (r73 : Nat → Int32) (r75 : Nat → Int32) (r80 : Nat → Int32) (r81 : Nat → Int32) (r82 : Nat → Int32) (r83 : Nat → Int32) (r84 : Nat → Int32) (r85 : Nat → Int32) (r86 : Nat → Int32) (r87 : Nat → Int32) (r88 : Nat → Int32) (q89 : Nat → Int64) (q90 : Nat → Int64) (q97 : Nat → Int64) (x1 : Int32) (x2 : Int32) (o : ((Int32) × (Nat → Int32) × (Nat → Int32) × (Nat → Int32) × (Nat → Int32) × (Nat → Int32) × (Nat → Int32) × (Nat → Int32) × (Nat → Int32) × (Nat → Int32) × (Nat → Int32) × (Nat → Int64) × (Nat → Int64))) (hf : fnX11_mean F r71 r72 r73 r75 r80 r81 r82 r83 r84 r85 r86 r87 r88 q89 q90 q97 x1 x2 = some o) (hq : (mj_u2 (fun ov => (mj_u2 (fun r71 => (mj_u2 (fun r72 => (mj_u2 (fun r80 => (mj_u2 (fun r81 => (mj_u2 (fun r82 => (mj_u2 (fun r83 => (mj_u2 (fun r84 => (mj_u2 (fun r85 => (mj_u2 (fun r86 => (mj_u2 (fun r88 => (mj_u2 (fun q89 q90 => Qn (some (.int ov)) (mj_rows I [(71, r71), (72, r72), (73, r73), (75, r75), (80, r80), (81, r81), (82, r82), (83, r83), (84, r84), (85, r85), (86, r86), (87, r87), (88, r88)]) (mj_rows L [(89, q89), (90, q90), (97, q97)]))))))))))))))))))))))))) o) : mj_W X G RX11 "mean" cX11_mean 6 8 (some .int) mj_P0 mj_S0 98 ad 0 0 0 [(0, .ref 71), (1, .int x1), (2, .int x2)] [] (mj_rows I [(71, r71), (72, r72), (73, r73), (75, r75), (80, r80), (81, r81), (82, r82), (83, r83), (84, r84), (85, r85), (86, r86), (87, r87), (88, r88)]) (mj_rows L [(89, q89), (90, q90), (97, q97)]) := by
  unfold fnX11_mean at hf
  refine mj_aload_n 0 dX11_mean_0 rfl ?_
  refine mj_iconst dX11_mean_1 kc_iconst_0 ?_
  refine mj_putIr (ci := 9) (j := 0) [(71, (upd r71 0 (0 : Int32))), (72, r72), (73, r73), (75, r75), (80, r80), (81, r81), (82, r82), (83, r83), (84, r84), (85, r85), (86, r86), (87, r87), (88, r88)] rfl ⟨rfl, rfl⟩ fl_X11_1 rfl rfl s0_71 a0_71 dX11_mean_2 ?_
  refine mj_aload_n 0 dX11_mean_5 rfl ?_
  obtain ⟨o3, ho3, hf⟩ := mj_bd hf
  refine mj_callVd (I2 := (mj_rows I [(71, o3.2.1), (72, o3.2.2.1), (73, r73), (75, r75), (80, o3.2.2.2.1), (81, o3.2.2.2.2.1), (82, o3.2.2.2.2.2.1), (83, o3.2.2.2.2.2.2.1), (84, o3.2.2.2.2.2.2.2.1), (85, o3.2.2.2.2.2.2.2.2.1), (86, o3.2.2.2.2.2.2.2.2.2), (87, r87), (88, r88)])) (L2 := (mj_rows L [(89, q89), (90, q90), (97, q97)])) (s1 := [.int o3.1]) (st := []) [] (cmX11_isFew X.2.1 G F  _ _ (upd r71 0 (0 : Int32)) r72 r73 r75 r80 r81 r82 r83 r84 r85 r86 r87 rfl rfl rfl rfl rfl rfl rfl rfl rfl rfl rfl rfl o3 ho3) (mj_rr rfl) rfl cw_X11_335 s0_71 a0_71 (by decide) rfl rfl (Nat.le_of_ble_eq_true rfl) ⟨Nat.zero_le _, Nat.zero_le _⟩ dX11_mean_6 rfl ?_
  refine mj_if_eq 47 dX11_mean_9 (by decide) (fun c4 => ?_) (fun c4 => ?_)
  · replace hf := mj_pos c4 hf
    refine mj_iconst dX11_mean_47 kc_iconst_0 ?_
    obtain rfl := Option.some.inj hf
    have hZ := hq
    replace hZ := mj_u2p hZ
    replace hZ := mj_u2p hZ
    replace hZ := mj_u2p hZ
    replace hZ := mj_u2p hZ
    replace hZ := mj_u2p hZ
    replace hZ := mj_u2p hZ
    replace hZ := mj_u2p hZ
    replace hZ := mj_u2p hZ
    replace hZ := mj_u2p hZ
    replace hZ := mj_u2p hZ
    replace hZ := mj_u2p hZ
    replace hZ := mj_u2p hZ
    exact mj_iret hR ⟨Nat.le_refl _, Nat.le_refl _⟩ rfl rfl dX11_mean_48 hZ
  · replace hf := mj_neg c4 hf
    refine mj_aload_n 0 dX11_mean_12 rfl ?_
    refine mj_aload_n 0 dX11_mean_13 rfl ?_
    refine mj_iload_n 1 dX11_mean_14 rfl ?_
    obtain ⟨o5, ho5, hf⟩ := mj_bd hf
    refine mj_callVd (I2 := (mj_rows I [(71, o3.2.1), (72, o3.2.2.1), (73, r73), (75, r75), (80, o3.2.2.2.1), (81, o3.2.2.2.2.1), (82, o3.2.2.2.2.2.1), (83, o3.2.2.2.2.2.2.1), (84, o3.2.2.2.2.2.2.2.1), (85, o3.2.2.2.2.2.2.2.2.1), (86, o3.2.2.2.2.2.2.2.2.2), (87, r87), (88, r88)])) (L2 := (mj_rows L [(89, q89), (90, q90), (97, q97)])) (s1 := [.int o5, .ref 71]) (st := [.ref 71]) [.int x1] (cmX11_isName X.2.1 G F x1 _ _   o5 ho5) rfl rfl cw_X11_195 s0_71 a0_71 (by decide) rfl rfl (Nat.le_of_ble_eq_true rfl) ⟨Nat.zero_le _, Nat.zero_le _⟩ dX11_mean_15 rfl ?_
    refine mj_iconst dX11_mean_18 kc_iconst_2 ?_
    refine mj_iconst dX11_mean_19 kc_iconst_0 ?_
    obtain ⟨o6, ho6, hf⟩ := mj_bd hf
    refine mj_callVd (I2 := (mj_rows I [(71, o6.2.1), (72, o6.2.2), (73, r73), (75, r75), (80, o3.2.2.2.1), (81, o3.2.2.2.2.1), (82, o3.2.2.2.2.2.1), (83, o3.2.2.2.2.2.2.1), (84, o3.2.2.2.2.2.2.2.1), (85, o3.2.2.2.2.2.2.2.2.1), (86, o3.2.2.2.2.2.2.2.2.2), (87, r87), (88, r88)])) (L2 := (mj_rows L [(89, q89), (90, q90), (97, q97)])) (s1 := [.int o6.1]) (st := []) [.int o5, .int (2 : Int32), .int (0 : Int32)] (cmX11_isFine X.2.1 G F o5 (2 : Int32) (0 : Int32) _ _ o3.2.1 o3.2.2.1 rfl rfl o6 ho6) (mj_rr rfl) rfl cw_X11_161 s0_71 a0_71 (by decide) rfl rfl (Nat.le_of_ble_eq_true rfl) ⟨Nat.zero_le _, Nat.zero_le _⟩ dX11_mean_20 rfl ?_
    refine mj_if_eq 47 dX11_mean_23 (by decide) (fun c7 => ?_) (fun c7 => ?_)
    · replace hf := mj_pos c7 hf
      refine mj_iconst dX11_mean_47 kc_iconst_0 ?_
      obtain rfl := Option.some.inj hf
      have hZ := hq
      replace hZ := mj_u2p hZ
      replace hZ := mj_u2p hZ
      replace hZ := mj_u2p hZ
      replace hZ := mj_u2p hZ
      replace hZ := mj_u2p hZ
      replace hZ := mj_u2p hZ
      replace hZ := mj_u2p hZ
      replace hZ := mj_u2p hZ
      replace hZ := mj_u2p hZ
      replace hZ := mj_u2p hZ
      replace hZ := mj_u2p hZ
      replace hZ := mj_u2p hZ
      exact mj_iret hR ⟨Nat.le_refl _, Nat.le_refl _⟩ rfl rfl dX11_mean_48 hZ
    · replace hf := mj_neg c7 hf
      refine mj_aload_n 0 dX11_mean_26 rfl ?_
      refine mj_aload_n 0 dX11_mean_27 rfl ?_
      refine mj_iload_n 2 dX11_mean_28 rfl ?_
      obtain ⟨o8, ho8, hf⟩ := mj_bd hf
      refine mj_callVd (I2 := (mj_rows I [(71, o6.2.1), (72, o6.2.2), (73, r73), (75, r75), (80, o3.2.2.2.1), (81, o3.2.2.2.2.1), (82, o3.2.2.2.2.2.1), (83, o3.2.2.2.2.2.2.1), (84, o3.2.2.2.2.2.2.2.1), (85, o3.2.2.2.2.2.2.2.2.1), (86, o3.2.2.2.2.2.2.2.2.2), (87, r87), (88, r88)])) (L2 := (mj_rows L [(89, q89), (90, q90), (97, q97)])) (s1 := [.int o8, .ref 71]) (st := [.ref 71]) [.int x2] (cmX11_isForm X.2.1 G F x2 _ _   o8 ho8) rfl rfl cw_X11_341 s0_71 a0_71 (by decide) rfl rfl (Nat.le_of_ble_eq_true rfl) ⟨Nat.zero_le _, Nat.zero_le _⟩ dX11_mean_29 rfl ?_
      refine mj_iconst dX11_mean_32 kc_iconst_3 ?_
      refine mj_iconst dX11_mean_33 kc_iconst_1 ?_
      obtain ⟨o9, ho9, hf⟩ := mj_bd hf
      refine mj_callVd (I2 := (mj_rows I [(71, o9.2.1), (72, o9.2.2), (73, r73), (75, r75), (80, o3.2.2.2.1), (81, o3.2.2.2.2.1), (82, o3.2.2.2.2.2.1), (83, o3.2.2.2.2.2.2.1), (84, o3.2.2.2.2.2.2.2.1), (85, o3.2.2.2.2.2.2.2.2.1), (86, o3.2.2.2.2.2.2.2.2.2), (87, r87), (88, r88)])) (L2 := (mj_rows L [(89, q89), (90, q90), (97, q97)])) (s1 := [.int o9.1]) (st := []) [.int o8, .int (3 : Int32), .int (1 : Int32)] (cmX11_isFine X.2.1 G F o8 (3 : Int32) (1 : Int32) _ _ o6.2.1 o6.2.2 rfl rfl o9 ho9) (mj_rr rfl) rfl cw_X11_161 s0_71 a0_71 (by decide) rfl rfl (Nat.le_of_ble_eq_true rfl) ⟨Nat.zero_le _, Nat.zero_le _⟩ dX11_mean_34 rfl ?_
      refine mj_if_eq 47 dX11_mean_37 (by decide) (fun c10 => ?_) (fun c10 => ?_)
      · replace hf := mj_pos c10 hf
        refine mj_iconst dX11_mean_47 kc_iconst_0 ?_
        obtain rfl := Option.some.inj hf
        have hZ := hq
        replace hZ := mj_u2p hZ
        replace hZ := mj_u2p hZ
        replace hZ := mj_u2p hZ
        replace hZ := mj_u2p hZ
        replace hZ := mj_u2p hZ
        replace hZ := mj_u2p hZ
        replace hZ := mj_u2p hZ
        replace hZ := mj_u2p hZ
        replace hZ := mj_u2p hZ
        replace hZ := mj_u2p hZ
        replace hZ := mj_u2p hZ
        replace hZ := mj_u2p hZ
        exact mj_iret hR ⟨Nat.le_refl _, Nat.le_refl _⟩ rfl rfl dX11_mean_48 hZ
      · replace hf := mj_neg c10 hf
        refine mj_aload_n 0 dX11_mean_40 rfl ?_
        obtain ⟨o11, ho11, hf⟩ := mj_bd hf
        refine mj_callVd (I2 := (mj_rows I [(71, o11.2.1), (72, o11.2.2), (73, r73), (75, r75), (80, o3.2.2.2.1), (81, o3.2.2.2.2.1), (82, o3.2.2.2.2.2.1), (83, o3.2.2.2.2.2.2.1), (84, o3.2.2.2.2.2.2.2.1), (85, o3.2.2.2.2.2.2.2.2.1), (86, o3.2.2.2.2.2.2.2.2.2), (87, r87), (88, r88)])) (L2 := (mj_rows L [(89, q89), (90, q90), (97, q97)])) (s1 := [.int o11.1]) (st := []) [] (cmX11_hasEnd X.2.1 G F  _ _ o9.2.1 o9.2.2 o3.2.2.2.1 rfl rfl rfl o11 ho11) (mj_rr rfl) rfl cw_X11_361 s0_71 a0_71 (by decide) rfl rfl (Nat.le_of_ble_eq_true rfl) ⟨Nat.zero_le _, Nat.zero_le _⟩ dX11_mean_41 rfl ?_
        refine mj_if_ne 49 dX11_mean_44 (by decide) (fun c12 => ?_) (fun c12 => ?_)
        · replace hf := mj_neg c12 hf
          refine mj_aload_n 0 dX11_mean_49 rfl ?_
          obtain ⟨o13, ho13, hf⟩ := mj_bd hf
          refine mj_callVd (I2 := (mj_rows I [(71, o13.2.1), (72, o11.2.2), (73, r73), (75, r75), (80, o3.2.2.2.1), (81, o3.2.2.2.2.1), (82, o3.2.2.2.2.2.1), (83, o3.2.2.2.2.2.2.1), (84, o3.2.2.2.2.2.2.2.1), (85, o3.2.2.2.2.2.2.2.2.1), (86, o3.2.2.2.2.2.2.2.2.2), (87, r87), (88, o13.2.2.1)])) (L2 := (mj_rows L [(89, o13.2.2.2.1), (90, o13.2.2.2.2), (97, q97)])) (s1 := [.int o13.1]) (st := []) [] (cmX11_isSure X.2.1 G F  _ _ o11.2.1 o3.2.2.2.1 o3.2.2.2.2.2.2.1 o3.2.2.2.2.2.2.2.1 o3.2.2.2.2.2.2.2.2.1 o3.2.2.2.2.2.2.2.2.2 r88 q89 q90 q97 rfl rfl rfl rfl rfl rfl rfl rfl rfl rfl o13 ho13) (mj_rr rfl) (mj_rr rfl) cw_X11_364 s0_71 a0_71 (by decide) rfl rfl (Nat.le_of_ble_eq_true rfl) ⟨Nat.zero_le _, Nat.zero_le _⟩ dX11_mean_50 rfl ?_
          refine mj_if_ne 59 dX11_mean_53 (by decide) (fun c14 => ?_) (fun c14 => ?_)
          · replace hf := mj_neg c14 hf
            refine mj_lconst (v := 0) dX11_mean_59 (by decide) ?_
            refine mj_lstore_n [(3, .long (0 : Int64)), (0, .ref 71), (1, .int x1), (2, .int x2)] dX11_mean_60 rfl (by decide) rfl ?_
            refine mj_iconst dX11_mean_61 kc_iconst_1 ?_
            refine mj_istore [(5, .int (1 : Int32)), (3, .long (0 : Int64)), (0, .ref 71), (1, .int x1), (2, .int x2)] dX11_mean_62 (by decide) rfl ?_
            refine mj_sub [2, 3, 4, 1, 0] [(0, .ref 71), (1, .int x1), (2, .int x2), (3, .long (0 : Int64)), (5, .int (1 : Int32))] rfl ?_
            obtain ⟨x3_15, ho15, hf⟩ := mj_bd hf
            refine lpX11_mean_64 hR F I L o13.2.1 o11.2.2 r73 r75 o3.2.2.2.1 o3.2.2.2.2.1 o3.2.2.2.2.2.1 o3.2.2.2.2.2.2.1 o3.2.2.2.2.2.2.2.1 o3.2.2.2.2.2.2.2.2.1 o3.2.2.2.2.2.2.2.2.2 r87 o13.2.2.1 o13.2.2.2.1 o13.2.2.2.2 q97 x1 x2 F ((0 : Int64), (1 : Int32)) x3_15 ho15 ?_
            refine ?_
            refine mj_lload_n 1 dX11_mean_91 rfl ?_
            refine mj_ldc2 kk_X11_279 dX11_mean_92 ?_
            refine mj_lrem dX11_mean_95 (by decide) ?_
            refine mj_iload_n 0 dX11_mean_96 rfl ?_
            obtain ⟨o16, ho16, hf⟩ := mj_bd hf
            refine mj_callSd (I2 := (mj_rows I [(71, o13.2.1), (72, o11.2.2), (73, r73), (75, r75), (80, o3.2.2.2.1), (81, o3.2.2.2.2.1), (82, o3.2.2.2.2.2.1), (83, o3.2.2.2.2.2.2.1), (84, o3.2.2.2.2.2.2.2.1), (85, o3.2.2.2.2.2.2.2.2.1), (86, o3.2.2.2.2.2.2.2.2.2), (87, r87), (88, o13.2.2.1)])) (L2 := (mj_rows L [(89, o13.2.2.2.1), (90, o13.2.2.2.2), (97, q97)])) (s1 := [.int o16]) (st := []) [.long (x3_15 - x3_15 / (998244353 : Int64) * (998244353 : Int64)), .int x2] (cmX11_formed X.2.1 G F (x3_15 - x3_15 / (998244353 : Int64) * (998244353 : Int64)) x2 _ _   o16 ho16) rfl rfl cw_X11_353 (by decide) rfl rfl (Nat.le_of_ble_eq_true rfl) ⟨Nat.zero_le _, Nat.zero_le _⟩ dX11_mean_97 rfl ?_
            obtain rfl := Option.some.inj hf
            have hZ := hq
            replace hZ := mj_u2p hZ
            replace hZ := mj_u2p hZ
            replace hZ := mj_u2p hZ
            replace hZ := mj_u2p hZ
            replace hZ := mj_u2p hZ
            replace hZ := mj_u2p hZ
            replace hZ := mj_u2p hZ
            replace hZ := mj_u2p hZ
            replace hZ := mj_u2p hZ
            replace hZ := mj_u2p hZ
            replace hZ := mj_u2p hZ
            replace hZ := mj_u2p hZ
            exact mj_iret hR ⟨Nat.le_refl _, Nat.le_refl _⟩ rfl rfl dX11_mean_100 hZ
          · replace hf := mj_pos c14 hf
            refine mj_bipush dX11_mean_56 kc_bipush_m3 ?_
            obtain rfl := Option.some.inj hf
            have hZ := hq
            replace hZ := mj_u2p hZ
            replace hZ := mj_u2p hZ
            replace hZ := mj_u2p hZ
            replace hZ := mj_u2p hZ
            replace hZ := mj_u2p hZ
            replace hZ := mj_u2p hZ
            replace hZ := mj_u2p hZ
            replace hZ := mj_u2p hZ
            replace hZ := mj_u2p hZ
            replace hZ := mj_u2p hZ
            replace hZ := mj_u2p hZ
            replace hZ := mj_u2p hZ
            exact mj_iret hR ⟨Nat.le_refl _, Nat.le_refl _⟩ rfl rfl dX11_mean_58 hZ
        · replace hf := mj_pos c12 hf
          refine mj_iconst dX11_mean_47 kc_iconst_0 ?_
          obtain rfl := Option.some.inj hf
          have hZ := hq
          replace hZ := mj_u2p hZ
          replace hZ := mj_u2p hZ
          replace hZ := mj_u2p hZ
          replace hZ := mj_u2p hZ
          replace hZ := mj_u2p hZ
          replace hZ := mj_u2p hZ
          replace hZ := mj_u2p hZ
          replace hZ := mj_u2p hZ
          replace hZ := mj_u2p hZ
          replace hZ := mj_u2p hZ
          replace hZ := mj_u2p hZ
          replace hZ := mj_u2p hZ
          exact mj_iret hR ⟨Nat.le_refl _, Nat.le_refl _⟩ rfl rfl dX11_mean_48 hZ
set_option maxRecDepth 100000 in
set_option maxHeartbeats 4000000 in
theorem cmX11_mean (l : Launch) (G : mj_GT) (F : Nat) (x1 : Int32) (x2 : Int32) (I : mj_IT) (L : mj_LT) (r71 : Nat → Int32) (r72 : Nat → Int32) (r73 : Nat → Int32) (r75 : Nat → Int32) (r80 : Nat → Int32) (r81 : Nat → Int32) (r82 : Nat → Int32) (r83 : Nat → Int32) (r84 : Nat → Int32) (r85 : Nat → Int32) (r86 : Nat → Int32) (r87 : Nat → Int32) (r88 : Nat → Int32) (q89 : Nat → Int64) (q90 : Nat → Int64) (q97 : Nat → Int64) (hr71 : I 71 = r71) (hr72 : I 72 = r72) (hr73 : I 73 = r73) (hr75 : I 75 = r75) (hr80 : I 80 = r80) (hr81 : I 81 = r81) (hr82 : I 82 = r82) (hr83 : I 83 = r83) (hr84 : I 84 = r84) (hr85 : I 85 = r85) (hr86 : I 86 = r86) (hr87 : I 87 = r87) (hr88 : I 88 = r88) (hq89 : L 89 = q89) (hq90 : L 90 = q90) (hq97 : L 97 = q97) (o : ((Int32) × (Nat → Int32) × (Nat → Int32) × (Nat → Int32) × (Nat → Int32) × (Nat → Int32) × (Nat → Int32) × (Nat → Int32) × (Nat → Int32) × (Nat → Int32) × (Nat → Int32) × (Nat → Int64) × (Nat → Int64))) (hf : fnX11_mean F r71 r72 r73 r75 r80 r81 r82 r83 r84 r85 r86 r87 r88 q89 q90 q97 x1 x2 = some o) : mj_M l G yX11_mean cX11_mean 6 8 (some .int) 0 0 mj_P0 mj_S0 98 [.ref 71, .int x1, .int x2] I L (mj_qd (some (.int o.1)) (mj_rows I [(71, o.2.1), (72, o.2.2.1), (73, r73), (75, r75), (80, o.2.2.2.1), (81, o.2.2.2.2.1), (82, o.2.2.2.2.2.1), (83, o.2.2.2.2.2.2.1), (84, o.2.2.2.2.2.2.2.1), (85, o.2.2.2.2.2.2.2.2.1), (86, o.2.2.2.2.2.2.2.2.2.1), (87, r87), (88, o.2.2.2.2.2.2.2.2.2.2.1)]) (mj_rows L [(89, o.2.2.2.2.2.2.2.2.2.2.2.1), (90, o.2.2.2.2.2.2.2.2.2.2.2.2), (97, q97)])) := by
  refine mj_in RX11 "mean" [(0, .ref 71), (1, .int x1), (2, .int x2)] rfl rfl rfl (by decide) (Nat.le_of_ble_eq_true rfl) (fun X ad hR => ?_)
  refine mj_toI [(71, r71), (72, r72), (73, r73), (75, r75), (80, r80), (81, r81), (82, r82), (83, r83), (84, r84), (85, r85), (86, r86), (87, r87), (88, r88)] (by intro q hq; simp only [List.mem_cons, List.not_mem_nil, or_false] at hq; rcases hq with rfl | rfl | rfl | rfl | rfl | rfl | rfl | rfl | rfl | rfl | rfl | rfl | rfl <;> assumption) ?_
  refine mj_toL [(89, q89), (90, q90), (97, q97)] (by intro q hq; simp only [List.mem_cons, List.not_mem_nil, or_false] at hq; rcases hq with rfl | rfl | rfl <;> assumption) ?_
  refine mtX11_mean hR F I L r71 r72 r73 r75 r80 r81 r82 r83 r84 r85 r86 r87 r88 q89 q90 q97 x1 x2 o hf ?_
  obtain ⟨w0, w1, w2, w3, w4, w5, w6, w7, w8, w9, w10, w11, w12⟩ := o
  refine mj_u2q ?_
  refine mj_u2q ?_
  refine mj_u2q ?_
  refine mj_u2q ?_
  refine mj_u2q ?_
  refine mj_u2q ?_
  refine mj_u2q ?_
  refine mj_u2q ?_
  refine mj_u2q ?_
  refine mj_u2q ?_
  refine mj_u2q ?_
  refine mj_u2q ?_
  exact ⟨rfl, rfl, rfl⟩

