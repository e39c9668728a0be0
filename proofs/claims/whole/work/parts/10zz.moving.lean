-- X9_moveOn
def bdX9_moveOn_45 (F : Nat) (r37 : Nat → Int32) (r38 : Nat → Int32) (r39 : Nat → Int32) (x2 : Int32) (x3 : Int32) (x4 : Int32) (r53 : Nat → Int32) : Option (((Int32) × (Nat → Int32)) ⊕ ((Nat → Int32))) := (if mj_ib (x2 + (1 : Int32)) 201 = true then (if (r37 ((x2 + (1 : Int32)).toNatClampNeg)) ≤ x4 then some (.inr r53) else (if mj_ib x4 2000 = true then (if mj_ib (r38 x4.toNatClampNeg) 200 = true then (if mj_ib x4 2000 = true then (fnX3_times F x3 (r39 x4.toNatClampNeg)).bind (fun o6 => (fnX3_plus F (r53 ((r38 x4.toNatClampNeg).toNatClampNeg)) o6).bind (fun o7 => (if mj_ib (r38 x4.toNatClampNeg) 200 = true then some (.inl ((x4 + (1)), (upd r53 ((r38 x4.toNatClampNeg).toNatClampNeg) o7))) else none))) else none) else none) else none)) else none)
def bdX9_moveOn_10 (F : Nat) (r32 : Nat → Int32) (r37 : Nat → Int32) (r38 : Nat → Int32) (r39 : Nat → Int32) (r52 : Nat → Int32) (x2 : Int32) (r53 : Nat → Int32) : Option (((Int32) × (Nat → Int32)) ⊕ ((Nat → Int32))) := (if (r32 2) ≤ x2 then some (.inr r53) else (if mj_ib x2 200 = true then (if (r52 x2.toNatClampNeg) = 0 then some (.inl ((x2 + (1)), r53)) else (if mj_ib x2 200 = true then (fnX3_sixtieth F (r52 x2.toNatClampNeg)).bind (fun o13 => (if mj_ib x2 201 = true then (mj_it (mj_u2 (fun z0 z1 => bdX9_moveOn_45 F r37 r38 r39 x2 o13 z0 z1)) F ((r37 x2.toNatClampNeg), r53)).bind (fun r53_15 => some (.inl ((x2 + (1)), r53_15))) else none)) else none)) else none))
def fnX9_moveOn (F : Nat) (r32 : Nat → Int32) (r37 : Nat → Int32) (r38 : Nat → Int32) (r39 : Nat → Int32) (r52 : Nat → Int32) (r53 : Nat → Int32) : Option ((Nat → Int32) × (Nat → Int32)) := (fnJ7_fill_53178_53 F r53 (0 : Int32)).bind (fun o16 => (mj_it (mj_u2 (fun z0 z1 => bdX9_moveOn_10 F r32 r37 r38 r39 r52 z0 z1)) F ((0 : Int32), o16)).bind (fun r53_17 => some (r53_17, r52)))
set_option maxRecDepth 100000 in
set_option maxHeartbeats 4000000 in
theorem lpX9_moveOn_45 {X : mj_XT} {l : Launch} {G : mj_GT} {ad0 : Nat → Nat} {Qn : Option Value → mj_PT → mj_IT → mj_LT → Prop} (hR : mj_Rv X l G mj_S0 98 ad0 0 0 Qn) (F : Nat) (I : mj_IT) (L : mj_LT) (r32 : Nat → Int32) (r37 : Nat → Int32) (r38 : Nat → Int32) (r39 : Nat → Int32) (r52 : Nat → Int32) (r53 : Nat → Int32) (x2 : Int32) (x3 : Int32) : ∀ (n : Nat) (s : ((Int32) × (Nat → Int32))) (e : ((Nat → Int32))), mj_it (mj_u2 (fun z0 z1 => bdX9_moveOn_45 F r37 r38 r39 x2 x3 z0 z1)) n s = some e → (fun r53 => (∀ ad : Nat → Nat, mj_ag ad0 ad → mj_W X G RX9 "moveOn" cX9_moveOn 6 3 none mj_P0 mj_S0 98 ad 0 0 101 [(0, .ref 51), (1, .ref 32), (2, .int x2)] [] (mj_rows I [(32, r32), (37, r37), (38, r38), (39, r39), (52, r52), (53, r53)]) L)) e → (mj_u2 (fun x4 r53 => (∀ ad : Nat → Nat, mj_ag ad0 ad → mj_W X G RX9 "moveOn" cX9_moveOn 6 3 none mj_P0 mj_S0 98 ad 0 0 45 [(0, .ref 51), (1, .ref 32), (2, .int x2), (3, .int x3), (4, .int x4)] [] (mj_rows I [(32, r32), (37, r37), (38, r38), (39, r39), (52, r52), (53, r53)]) L))) s := by
  refine mj_loop (fun s o hf hc hx => ?_)
  obtain ⟨x4, r53⟩ := s
  replace hf := mj_u2e hf
  refine mj_u2q ?_
  intro ad hag
  unfold bdX9_moveOn_45 at hf
  refine mj_iload 4 dX9_moveOn_45 rfl ?_
  refine mj_aload_n 1 dX9_moveOn_47 rfl ?_
  refine mj_getP p0_32_12 (by decide) fl_X9_62 rfl s0_32 a0_32 dX9_moveOn_48 ?_
  refine mj_iload_n 2 dX9_moveOn_51 rfl ?_
  refine mj_iconst dX9_moveOn_52 kc_iconst_1 ?_
  refine mj_iadd dX9_moveOn_53 ?_
  obtain ⟨z1, hf⟩ := mj_ck hf
  refine mj_ialdv (x := r37) rfl s0_37 a0_37 z1 dX9_moveOn_54 ?_
  refine mj_icmp_ge 101 dX9_moveOn_55 (by decide) (fun c2 => ?_) (fun c2 => ?_)
  · replace hf := mj_pos c2 hf
    refine mj_sub [0, 1, 2] [(0, .ref 51), (1, .ref 32), (2, .int x2)] rfl ?_
    obtain rfl := Option.some.inj hf
    have hZ := hx r53 rfl
    exact hZ _ hag
  · replace hf := mj_neg c2 hf
    refine mj_aload_n 1 dX9_moveOn_58 rfl ?_
    refine mj_getP p0_32_13 (by decide) fl_X9_65 rfl s0_32 a0_32 dX9_moveOn_59 ?_
    refine mj_iload 4 dX9_moveOn_62 rfl ?_
    obtain ⟨z3, hf⟩ := mj_ck hf
    refine mj_ialdv (x := r38) rfl s0_38 a0_38 z3 dX9_moveOn_64 ?_
    refine mj_istore [(5, .int (r38 x4.toNatClampNeg)), (0, .ref 51), (1, .ref 32), (2, .int x2), (3, .int x3), (4, .int x4)] dX9_moveOn_65 (by decide) rfl ?_
    refine mj_aload_n 1 dX9_moveOn_67 rfl ?_
    refine mj_getP p0_51_3 (by decide) fl_X9_15 rfl s0_51 a0_51 dX9_moveOn_68 ?_
    refine mj_iload 0 dX9_moveOn_71 rfl ?_
    refine mj_aload_n 1 dX9_moveOn_73 rfl ?_
    refine mj_getP p0_51_3 (by decide) fl_X9_15 rfl s0_51 a0_51 dX9_moveOn_74 ?_
    refine mj_iload 0 dX9_moveOn_77 rfl ?_
    obtain ⟨z4, hf⟩ := mj_ck hf
    refine mj_ialdv (x := r53) rfl s0_53 a0_53 z4 dX9_moveOn_79 ?_
    refine mj_iload_n 4 dX9_moveOn_80 rfl ?_
    refine mj_aload_n 2 dX9_moveOn_81 rfl ?_
    refine mj_getP p0_32_14 (by decide) fl_X9_68 rfl s0_32 a0_32 dX9_moveOn_82 ?_
    refine mj_iload 5 dX9_moveOn_85 rfl ?_
    obtain ⟨z5, hf⟩ := mj_ck hf
    refine mj_ialdv (x := r39) rfl s0_39 a0_39 z5 dX9_moveOn_87 ?_
    obtain ⟨o6, ho6, hf⟩ := mj_bd hf
    refine mj_callSd (I2 := (mj_rows I [(32, r32), (37, r37), (38, r38), (39, r39), (52, r52), (53, r53)])) (L2 := L) (s1 := [.int o6, .int (r53 ((r38 x4.toNatClampNeg).toNatClampNeg)), .int (r38 x4.toNatClampNeg), .ref 53]) (st := [.int (r53 ((r38 x4.toNatClampNeg).toNatClampNeg)), .int (r38 x4.toNatClampNeg), .ref 53]) [.int x3, .int (r39 x4.toNatClampNeg)] (cmX3_times X.2.1 G F x3 (r39 x4.toNatClampNeg) _ _   o6 ho6) rfl rfl cw_X9_71 (by decide) rfl rfl (Nat.le_of_ble_eq_true rfl) ⟨Nat.zero_le _, Nat.zero_le _⟩ dX9_moveOn_88 rfl ?_
    obtain ⟨o7, ho7, hf⟩ := mj_bd hf
    refine mj_callSd (I2 := (mj_rows I [(32, r32), (37, r37), (38, r38), (39, r39), (52, r52), (53, r53)])) (L2 := L) (s1 := [.int o7, .int (r38 x4.toNatClampNeg), .ref 53]) (st := [.int (r38 x4.toNatClampNeg), .ref 53]) [.int (r53 ((r38 x4.toNatClampNeg).toNatClampNeg)), .int o6] (cmX3_plus X.2.1 G F (r53 ((r38 x4.toNatClampNeg).toNatClampNeg)) o6 _ _   o7 ho7) rfl rfl cw_X9_45 (by decide) rfl rfl (Nat.le_of_ble_eq_true rfl) ⟨Nat.zero_le _, Nat.zero_le _⟩ dX9_moveOn_91 rfl ?_
    obtain ⟨z8, hf⟩ := mj_ck hf
    refine mj_iastr [(32, r32), (37, r37), (38, r38), (39, r39), (52, r52), (53, (upd r53 ((r38 x4.toNatClampNeg).toNatClampNeg) o7))] rfl s0_53 a0_53 z8 dX9_moveOn_94 ?_
    refine mj_iinc 5 [(4, .int (x4 + (1))), (5, .int (r38 x4.toNatClampNeg)), (0, .ref 51), (1, .ref 32), (2, .int x2), (3, .int x3)] dX9_moveOn_95 rfl (kz_1 _) (by decide) rfl ?_
    refine mj_goto 45 dX9_moveOn_98 (by decide) ?_
    refine mj_sub [2, 3, 4, 5, 0] [(0, .ref 51), (1, .ref 32), (2, .int x2), (3, .int x3), (4, .int (x4 + (1)))] rfl ?_
    obtain rfl := Option.some.inj hf
    have hZ := hc ((x4 + (1)), (upd r53 ((r38 x4.toNatClampNeg).toNatClampNeg) o7)) rfl
    replace hZ := mj_u2p hZ
    exact hZ _ hag
set_option maxRecDepth 100000 in
set_option maxHeartbeats 4000000 in
theorem lpX9_moveOn_10 {X : mj_XT} {l : Launch} {G : mj_GT} {ad0 : Nat → Nat} {Qn : Option Value → mj_PT → mj_IT → mj_LT → Prop} (hR : mj_Rv X l G mj_S0 98 ad0 0 0 Qn) (F : Nat) (I : mj_IT) (L : mj_LT) (r32 : Nat → Int32) (r37 : Nat → Int32) (r38 : Nat → Int32) (r39 : Nat → Int32) (r52 : Nat → Int32) (r53 : Nat → Int32) : ∀ (n : Nat) (s : ((Int32) × (Nat → Int32))) (e : ((Nat → Int32))), mj_it (mj_u2 (fun z0 z1 => bdX9_moveOn_10 F r32 r37 r38 r39 r52 z0 z1)) n s = some e → (fun r53 => (∀ ad : Nat → Nat, mj_ag ad0 ad → mj_W X G RX9 "moveOn" cX9_moveOn 6 3 none mj_P0 mj_S0 98 ad 0 0 107 [(0, .ref 51)] [] (mj_rows I [(32, r32), (37, r37), (38, r38), (39, r39), (52, r52), (53, r53)]) L)) e → (mj_u2 (fun x2 r53 => (∀ ad : Nat → Nat, mj_ag ad0 ad → mj_W X G RX9 "moveOn" cX9_moveOn 6 3 none mj_P0 mj_S0 98 ad 0 0 10 [(0, .ref 51), (1, .ref 32), (2, .int x2)] [] (mj_rows I [(32, r32), (37, r37), (38, r38), (39, r39), (52, r52), (53, r53)]) L))) s := by
  refine mj_loop (fun s o hf hc hx => ?_)
  obtain ⟨x2, r53⟩ := s
  replace hf := mj_u2e hf
  refine mj_u2q ?_
  intro ad hag
  unfold bdX9_moveOn_10 at hf
  refine mj_iload_n 2 dX9_moveOn_10 rfl ?_
  refine mj_aload_n 1 dX9_moveOn_11 rfl ?_
  refine mj_getIv (v := (r32 2)) rfl fl_X9_51 rfl s0_32 a0_32 dX9_moveOn_12 ?_
  refine mj_icmp_ge 107 dX9_moveOn_15 (by decide) (fun c9 => ?_) (fun c9 => ?_)
  · replace hf := mj_pos c9 hf
    refine mj_sub [0] [(0, .ref 51)] rfl ?_
    obtain rfl := Option.some.inj hf
    have hZ := hx r53 rfl
    exact hZ _ hag
  · replace hf := mj_neg c9 hf
    refine mj_aload_n 0 dX9_moveOn_18 rfl ?_
    refine mj_getP p0_51_2 (by decide) fl_X9_9 rfl s0_51 a0_51 dX9_moveOn_19 ?_
    refine mj_iload_n 2 dX9_moveOn_22 rfl ?_
    obtain ⟨z10, hf⟩ := mj_ck hf
    refine mj_ialdv (x := r52) rfl s0_52 a0_52 z10 dX9_moveOn_23 ?_
    refine mj_if_eq 101 dX9_moveOn_24 (by decide) (fun c11 => ?_) (fun c11 => ?_)
    · replace hf := mj_pos c11 hf
      refine mj_iinc 2 [(2, .int (x2 + (1))), (0, .ref 51), (1, .ref 32)] dX9_moveOn_101 rfl (kz_1 _) (by decide) rfl ?_
      refine mj_goto 10 dX9_moveOn_104 (by decide) ?_
      refine mj_sub [1, 2, 0] [(0, .ref 51), (1, .ref 32), (2, .int (x2 + (1)))] rfl ?_
      obtain rfl := Option.some.inj hf
      have hZ := hc ((x2 + (1)), r53) rfl
      replace hZ := mj_u2p hZ
      exact hZ _ hag
    · replace hf := mj_neg c11 hf
      refine mj_aload_n 0 dX9_moveOn_27 rfl ?_
      refine mj_getP p0_51_2 (by decide) fl_X9_9 rfl s0_51 a0_51 dX9_moveOn_28 ?_
      refine mj_iload_n 2 dX9_moveOn_31 rfl ?_
      obtain ⟨z12, hf⟩ := mj_ck hf
      refine mj_ialdv (x := r52) rfl s0_52 a0_52 z12 dX9_moveOn_32 ?_
      obtain ⟨o13, ho13, hf⟩ := mj_bd hf
      refine mj_callSd (I2 := (mj_rows I [(32, r32), (37, r37), (38, r38), (39, r39), (52, r52), (53, r53)])) (L2 := L) (s1 := [.int o13]) (st := []) [.int (r52 x2.toNatClampNeg)] (cmX3_sixtieth X.2.1 G F (r52 x2.toNatClampNeg) _ _   o13 ho13) rfl rfl cw_X9_58 (by decide) rfl rfl (Nat.le_of_ble_eq_true rfl) ⟨Nat.zero_le _, Nat.zero_le _⟩ dX9_moveOn_33 rfl ?_
      refine mj_istore_n [(3, .int o13), (0, .ref 51), (1, .ref 32), (2, .int x2)] dX9_moveOn_36 rfl (by decide) rfl ?_
      refine mj_aload_n 2 dX9_moveOn_37 rfl ?_
      refine mj_getP p0_32_12 (by decide) fl_X9_62 rfl s0_32 a0_32 dX9_moveOn_38 ?_
      refine mj_iload_n 3 dX9_moveOn_41 rfl ?_
      obtain ⟨z14, hf⟩ := mj_ck hf
      refine mj_ialdv (x := r37) rfl s0_37 a0_37 z14 dX9_moveOn_42 ?_
      refine mj_istore [(4, .int (r37 x2.toNatClampNeg)), (3, .int o13), (0, .ref 51), (1, .ref 32), (2, .int x2)] dX9_moveOn_43 (by decide) rfl ?_
      refine mj_sub [2, 3, 4, 1, 0] [(0, .ref 51), (1, .ref 32), (2, .int x2), (3, .int o13), (4, .int (r37 x2.toNatClampNeg))] rfl ?_
      obtain ⟨r53_15, ho15, hf⟩ := mj_bd hf
      refine lpX9_moveOn_45 hR F I L r32 r37 r38 r39 r52 r53 x2 o13 F ((r37 x2.toNatClampNeg), r53) r53_15 ho15 ?_ _ hag
      refine ?_
      intro ad hag
      refine mj_iinc 2 [(2, .int (x2 + (1))), (0, .ref 51), (1, .ref 32)] dX9_moveOn_101 rfl (kz_1 _) (by decide) rfl ?_
      refine mj_goto 10 dX9_moveOn_104 (by decide) ?_
      refine mj_sub [1, 2, 0] [(0, .ref 51), (1, .ref 32), (2, .int (x2 + (1)))] rfl ?_
      obtain rfl := Option.some.inj hf
      have hZ := hc ((x2 + (1)), r53_15) rfl
      replace hZ := mj_u2p hZ
      exact hZ _ hag
set_option maxRecDepth 100000 in
set_option maxHeartbeats 4000000 in
theorem mtX9_moveOn {X : mj_XT} {l : Launch} {G : mj_GT} {ad0 : Nat → Nat} {Qn : Option Value → mj_PT → mj_IT → mj_LT → Prop} (hR : mj_Rv X l G mj_S0 98 ad0 0 0 Qn) (F : Nat) (I : mj_IT) (L : mj_LT) (r32 : Nat → Int32) (r37 : Nat → Int32) (r38 : Nat → Int32) (r39 : Nat → Int32) (r52 : Nat → Int32) (r53 : Nat → Int32) (o : ((Nat → Int32) × (Nat → Int32))) (hf : fnX9_moveOn F r32 r37 r38 r39 r52 r53 = some o) (hq : (mj_u2 (fun r52 r53 => Qn none mj_P0 (mj_rows I [(32, r32), (37, r37), (38, r38), (39, r39), (52, r52), (53, r53)]) L)) o) : mj_W X G RX9 "moveOn" cX9_moveOn 6 3 none mj_P0 mj_S0 98 ad0 0 0 0 [(0, .ref 51), (1, .ref 32)] [] (mj_rows I [(32, r32), (37, r37), (38, r38), (39, r39), (52, r52), (53, r53)]) L := by
  have hag : mj_ag ad0 ad0 := mj_ag.rf
  unfold fnX9_moveOn at hf
  refine mj_aload_n 0 dX9_moveOn_0 rfl ?_
  refine mj_getP p0_51_3 (by decide) fl_X9_15 rfl s0_51 a0_51 dX9_moveOn_1 ?_
  refine mj_iconst dX9_moveOn_4 kc_iconst_0 ?_
  obtain ⟨o16, ho16, hf⟩ := mj_bd hf
  refine mj_callSd (I2 := (mj_rows I [(32, r32), (37, r37), (38, r38), (39, r39), (52, r52), (53, o16)])) (L2 := L) (s1 := []) (st := []) [.ref 53, .int (0 : Int32)] (cmJ7_fill_53178_53 X.2.1 G F (0 : Int32) _ _ r53 rfl o16 ho16) (mj_rq rfl rfl) rfl cw_X9_28 (by decide) rfl rfl (Nat.le_of_ble_eq_true rfl) ⟨Nat.zero_le _, Nat.zero_le _⟩ dX9_moveOn_5 rfl ?_
  refine mj_iconst dX9_moveOn_8 kc_iconst_0 ?_
  refine mj_istore_n [(2, .int (0 : Int32)), (0, .ref 51), (1, .ref 32)] dX9_moveOn_9 rfl (by decide) rfl ?_
  refine mj_sub [1, 2, 0] [(0, .ref 51), (1, .ref 32), (2, .int (0 : Int32))] rfl ?_
  obtain ⟨r53_17, ho17, hf⟩ := mj_bd hf
  refine lpX9_moveOn_10 hR F I L r32 r37 r38 r39 r52 o16 F ((0 : Int32), o16) r53_17 ho17 ?_ _ hag
  refine ?_
  intro ad hag
  refine mj_aload_n 0 dX9_moveOn_107 rfl ?_
  refine mj_getP p0_51_2 (by decide) fl_X9_9 rfl s0_51 a0_51 dX9_moveOn_108 ?_
  refine mj_astore_n [(2, .ref 52), (0, .ref 51)] dX9_moveOn_111 rfl (by decide) rfl ?_
  refine mj_aload_n 1 dX9_moveOn_112 rfl ?_
  refine mj_aload_n 1 dX9_moveOn_113 rfl ?_
  refine mj_getP p0_51_3 (by decide) fl_X9_15 rfl s0_51 a0_51 dX9_moveOn_114 ?_
  refine mj_putP (b := 53) (by decide) fl_X9_9 rfl rfl s0_51 a0_51 dX9_moveOn_117 ?_
  refine mj_aload_n 1 dX9_moveOn_120 rfl ?_
  refine mj_aload_n 0 dX9_moveOn_121 rfl ?_
  refine mj_putP (b := 52) (by decide) fl_X9_15 rfl rfl s0_51 a0_51 dX9_moveOn_122 ?_
  refine mj_sub [] [] rfl ?_
  have hI18 : ∀ a, mj_rows I [(32, r32), (37, r37), (38, r38), (39, r39), (52, r53_17), (53, r52)] a = mj_rows I [(32, r32), (37, r37), (38, r38), (39, r39), (52, r52), (53, r53_17)] (mj_pis a) := by
    intro a
    by_cases h52 : a = 52
    · subst h52; rfl
    · skip
      by_cases h53 : a = 53
      · subst h53; rfl
      · skip
        have hp : mj_pis a = a := by unfold mj_pis; split <;> (try split) <;> omega
        rw [hp]
        simp only [mj_rows, if_neg h52, if_neg h53]
  refine mj_ren mj_pis mj_P0 (mj_rows I [(32, r32), (37, r37), (38, r38), (39, r39), (52, r53_17), (53, r52)]) hI18 mj_pis_2 mj_pis_b mj_pis_S mj_Ps_P mj_pis_z mj_pis_f mj_pis_k rfl rfl ?_
  replace hag := mj_ag.tr hag (mj_pis_ag _)
  obtain rfl := Option.some.inj hf
  have hZ := hq
  replace hZ := mj_u2p hZ
  exact mj_vretv hR hag ⟨by decide, by decide⟩ rfl dX9_moveOn_125 hZ
set_option maxRecDepth 100000 in
set_option maxHeartbeats 4000000 in
theorem cmX9_moveOn (l : Launch) (G : mj_GT) (F : Nat) (I : mj_IT) (L : mj_LT) (r32 : Nat → Int32) (r37 : Nat → Int32) (r38 : Nat → Int32) (r39 : Nat → Int32) (r52 : Nat → Int32) (r53 : Nat → Int32) (hr32 : I 32 = r32) (hr37 : I 37 = r37) (hr38 : I 38 = r38) (hr39 : I 39 = r39) (hr52 : I 52 = r52) (hr53 : I 53 = r53) (o : ((Nat → Int32) × (Nat → Int32))) (hf : fnX9_moveOn F r32 r37 r38 r39 r52 r53 = some o) : mj_Mv l G yX9_moveOn cX9_moveOn 6 3 none 0 0 mj_P0 mj_S0 98 [.ref 51, .ref 32] I L (fun rv P2 I2 L2 => rv = none ∧ P2 = mj_P0 ∧ I2 = (mj_rows I [(32, r32), (37, r37), (38, r38), (39, r39), (52, o.1), (53, o.2)]) ∧ L2 = L) := by
  refine mj_inv RX9 "moveOn" [(0, .ref 51), (1, .ref 32)] rfl rfl rfl (by decide) (Nat.le_of_ble_eq_true rfl) (fun X ad hR => ?_)
  refine mj_toI [(32, r32), (37, r37), (38, r38), (39, r39), (52, r52), (53, r53)] (by intro q hq; simp only [List.mem_cons, List.not_mem_nil, or_false] at hq; rcases hq with rfl | rfl | rfl | rfl | rfl | rfl <;> assumption) ?_
  refine mtX9_moveOn hR F I L r32 r37 r38 r39 r52 r53 o hf ?_
  obtain ⟨w0, w1⟩ := o
  refine mj_u2q ?_
  exact ⟨rfl, rfl, rfl, rfl⟩

-- X9_endedBy
def bdX9_endedBy_57 (F : Nat) (r32 : Nat → Int32) (r33 : Nat → Int32) (r37 : Nat → Int32) (r38 : Nat → Int32) (r39 : Nat → Int32) (x2 : Int32) (x3 : Int32) (r51 : Nat → Int32) (r52 : Nat → Int32) (r53 : Nat → Int32) (r54 : Nat → Int32) : Option (((Int32) × (Nat → Int32) × (Nat → Int32) × (Nat → Int32) × (Nat → Int32)) ⊕ ((Nat → Int32) × (Nat → Int32) × (Nat → Int32) × (Nat → Int32))) := (if x2 < x3 then some (.inr (r51, r52, r53, r54)) else (if (200 : Int32) < x3 then some (.inr (r51, r52, r53, r54)) else (fnX9_moveOn F r32 r37 r38 r39 r52 r53).bind (fun o3 => (if mj_ib (x3 - (1 : Int32)) 201 = true then (fnX9_atEnd F r32 r33 o3.1).bind (fun o5 => (fnX3_plus F (r54 ((x3 - (1 : Int32)).toNatClampNeg)) o5).bind (fun o6 => (if mj_ib x3 201 = true then some (.inl ((x3 + (1)), (upd r51 1 x3), o3.1, o3.2, (upd r54 x3.toNatClampNeg o6))) else none))) else none))))
def jnX9_endedBy_50 (F : Nat) (r32 : Nat → Int32) (r33 : Nat → Int32) (r37 : Nat → Int32) (r38 : Nat → Int32) (r39 : Nat → Int32) (x2 : Int32) (r51 : Nat → Int32) (r52 : Nat → Int32) (r53 : Nat → Int32) (r54 : Nat → Int32) : Option ((Int32) × (Nat → Int32) × (Nat → Int32) × (Nat → Int32) × (Nat → Int32)) := (mj_it (mj_u2 (fun z0 => (mj_u2 (fun z1 => (mj_u2 (fun z2 => (mj_u2 (fun z3 z4 => bdX9_endedBy_57 F r32 r33 r37 r38 r39 x2 z0 z1 z2 z3 z4)))))))) F (((r51 1) + (1 : Int32)), r51, r52, r53, r54)).bind (mj_u2 (fun r51_8 => (mj_u2 (fun r52_8 => (mj_u2 (fun r53_8 r54_8 => (if x2 < 0 then some ((0 : Int32), r51_8, r52_8, r53_8, r54_8) else (if (r51_8 1) < x2 then some ((0 : Int32), r51_8, r52_8, r53_8, r54_8) else (if mj_ib x2 201 = true then some ((r54_8 x2.toNatClampNeg), r51_8, r52_8, r53_8, r54_8) else none)))))))))
def fnX9_endedBy (F : Nat) (r32 : Nat → Int32) (r33 : Nat → Int32) (r37 : Nat → Int32) (r38 : Nat → Int32) (r39 : Nat → Int32) (r51 : Nat → Int32) (r52 : Nat → Int32) (r53 : Nat → Int32) (r54 : Nat → Int32) (x2 : Int32) : Option ((Int32) × (Nat → Int32) × (Nat → Int32) × (Nat → Int32) × (Nat → Int32)) := (if (r51 0) = (r32 0) then jnX9_endedBy_50 F r32 r33 r37 r38 r39 x2 r51 r52 r53 r54 else (fnJ7_fill_53178_52 F r52 (0 : Int32)).bind (fun o13 => (if mj_ib (0 : Int32) 200 = true then (fnX9_atEnd F r32 r33 (upd o13 ((0 : Int32).toNatClampNeg) (1 : Int32))).bind (fun o15 => (if mj_ib (0 : Int32) 201 = true then jnX9_endedBy_50 F r32 r33 r37 r38 r39 x2 (upd (upd r51 0 (r32 0)) 1 (0 : Int32)) (upd o13 ((0 : Int32).toNatClampNeg) (1 : Int32)) r53 (upd r54 ((0 : Int32).toNatClampNeg) o15) else none)) else none)))
set_option maxRecDepth 100000 in
set_option maxHeartbeats 4000000 in
theorem lpX9_endedBy_57 {X : mj_XT} {l : Launch} {G : mj_GT} {ad0 : Nat → Nat} {Qn : Option Value → mj_PT → mj_IT → mj_LT → Prop} (hR : mj_Rv X l G mj_S0 98 ad0 0 0 Qn) (F : Nat) (I : mj_IT) (L : mj_LT) (r32 : Nat → Int32) (r33 : Nat → Int32) (r37 : Nat → Int32) (r38 : Nat → Int32) (r39 : Nat → Int32) (r51 : Nat → Int32) (r52 : Nat → Int32) (r53 : Nat → Int32) (r54 : Nat → Int32) (x2 : Int32) : ∀ (n : Nat) (s : ((Int32) × (Nat → Int32) × (Nat → Int32) × (Nat → Int32) × (Nat → Int32))) (e : ((Nat → Int32) × (Nat → Int32) × (Nat → Int32) × (Nat → Int32))), mj_it (mj_u2 (fun z0 => (mj_u2 (fun z1 => (mj_u2 (fun z2 => (mj_u2 (fun z3 z4 => bdX9_endedBy_57 F r32 r33 r37 r38 r39 x2 z0 z1 z2 z3 z4)))))))) n s = some e → (mj_u2 (fun r51 => (mj_u2 (fun r52 => (mj_u2 (fun r53 r54 => (∀ ad : Nat → Nat, mj_ag ad0 ad → mj_W X G RX9 "endedBy" cX9_endedBy 4 4 (some .int) mj_P0 mj_S0 98 ad 0 0 107 [(0, .ref 51), (2, .int x2)] [] (mj_rows I [(32, r32), (33, r33), (37, r37), (38, r38), (39, r39), (51, r51), (52, r52), (53, r53), (54, r54)]) L))))))) e → (mj_u2 (fun x3 => (mj_u2 (fun r51 => (mj_u2 (fun r52 => (mj_u2 (fun r53 r54 => (∀ ad : Nat → Nat, mj_ag ad0 ad → mj_W X G RX9 "endedBy" cX9_endedBy 4 4 (some .int) mj_P0 mj_S0 98 ad 0 0 57 [(0, .ref 51), (1, .ref 32), (2, .int x2), (3, .int x3)] [] (mj_rows I [(32, r32), (33, r33), (37, r37), (38, r38), (39, r39), (51, r51), (52, r52), (53, r53), (54, r54)]) L))))))))) s := by
  refine mj_loop (fun s o hf hc hx => ?_)
  obtain ⟨x3, r51, r52, r53, r54⟩ := s
  replace hf := mj_u2e hf
  refine mj_u2q ?_
  replace hf := mj_u2e hf
  refine mj_u2q ?_
  replace hf := mj_u2e hf
  refine mj_u2q ?_
  replace hf := mj_u2e hf
  refine mj_u2q ?_
  intro ad hag
  unfold bdX9_endedBy_57 at hf
  refine mj_iload_n 3 dX9_endedBy_57 rfl ?_
  refine mj_iload_n 2 dX9_endedBy_58 rfl ?_
  refine mj_icmp_gt 107 dX9_endedBy_59 (by decide) (fun c1 => ?_) (fun c1 => ?_)
  · replace hf := mj_pos c1 hf
    refine mj_sub [0, 2] [(0, .ref 51), (2, .int x2)] rfl ?_
    obtain rfl := Option.some.inj hf
    have hZ := hx (r51, r52, r53, r54) rfl
    replace hZ := mj_u2p hZ
    replace hZ := mj_u2p hZ
    replace hZ := mj_u2p hZ
    exact hZ _ hag
  · replace hf := mj_neg c1 hf
    refine mj_iload_n 3 dX9_endedBy_62 rfl ?_
    refine mj_sipush dX9_endedBy_63 kc_sipush_200 ?_
    refine mj_icmp_gt 107 dX9_endedBy_66 (by decide) (fun c2 => ?_) (fun c2 => ?_)
    · replace hf := mj_pos c2 hf
      refine mj_sub [0, 2] [(0, .ref 51), (2, .int x2)] rfl ?_
      obtain rfl := Option.some.inj hf
      have hZ := hx (r51, r52, r53, r54) rfl
      replace hZ := mj_u2p hZ
      replace hZ := mj_u2p hZ
      replace hZ := mj_u2p hZ
      exact hZ _ hag
    · replace hf := mj_neg c2 hf
      refine mj_aload_n 0 dX9_endedBy_69 rfl ?_
      refine mj_aload_n 1 dX9_endedBy_70 rfl ?_
      obtain ⟨o3, ho3, hf⟩ := mj_bd hf
      refine mj_callVv (st := []) [.ref 32] (cmX9_moveOn X.2.1 G F  _ _ r32 r37 r38 r39 r52 r53 rfl rfl rfl rfl rfl rfl o3 ho3) cw_X9_41 s0_51 a0_51 (by decide) rfl rfl (Nat.le_of_ble_eq_true rfl) ⟨Nat.zero_le _, Nat.zero_le _⟩ dX9_endedBy_71 rfl rfl (fun rv P2 I2 L2 ad hag2 hx => ?_)
      obtain ⟨hr9, hP9, hI9, hL9⟩ := hx
      replace hag := mj_ag.tr hag hag2
      rw [hP9]
      refine mj_cnv (s1 := []) (I2 := (mj_rows I [(32, r32), (33, r33), (37, r37), (38, r38), (39, r39), (51, r51), (52, o3.1), (53, o3.2), (54, r54)])) (L2 := L) (by rw [hr9]; rfl) (hI9.trans (mj_rq rfl rfl)) hL9 ?_
      refine mj_aload_n 0 dX9_endedBy_74 rfl ?_
      refine mj_getP p0_51_4 (by decide) fl_X9_18 rfl s0_51 a0_51 dX9_endedBy_75 ?_
      refine mj_iload_n 3 dX9_endedBy_78 rfl ?_
      refine mj_aload_n 0 dX9_endedBy_79 rfl ?_
      refine mj_getP p0_51_4 (by decide) fl_X9_18 rfl s0_51 a0_51 dX9_endedBy_80 ?_
      refine mj_iload_n 3 dX9_endedBy_83 rfl ?_
      refine mj_iconst dX9_endedBy_84 kc_iconst_1 ?_
      refine mj_isub dX9_endedBy_85 ?_
      obtain ⟨z4, hf⟩ := mj_ck hf
      refine mj_ialdv (x := r54) rfl s0_54 a0_54 z4 dX9_endedBy_86 ?_
      refine mj_aload_n 0 dX9_endedBy_87 rfl ?_
      refine mj_aload_n 1 dX9_endedBy_88 rfl ?_
      obtain ⟨o5, ho5, hf⟩ := mj_bd hf
      refine mj_callVd (I2 := (mj_rows I [(32, r32), (33, r33), (37, r37), (38, r38), (39, r39), (51, r51), (52, o3.1), (53, o3.2), (54, r54)])) (L2 := L) (s1 := [.int o5, .int (r54 ((x3 - (1 : Int32)).toNatClampNeg)), .int x3, .ref 54]) (st := [.int (r54 ((x3 - (1 : Int32)).toNatClampNeg)), .int x3, .ref 54]) [.ref 32] (cmX9_atEnd X.2.1 G F  _ _ r32 r33 o3.1 rfl rfl rfl o5 ho5) (mj_rq rfl rfl) rfl cw_X9_34 s0_51 a0_51 (by decide) rfl rfl (Nat.le_of_ble_eq_true rfl) ⟨Nat.zero_le _, Nat.zero_le _⟩ dX9_endedBy_89 rfl ?_
      obtain ⟨o6, ho6, hf⟩ := mj_bd hf
      refine mj_callSd (I2 := (mj_rows I [(32, r32), (33, r33), (37, r37), (38, r38), (39, r39), (51, r51), (52, o3.1), (53, o3.2), (54, r54)])) (L2 := L) (s1 := [.int o6, .int x3, .ref 54]) (st := [.int x3, .ref 54]) [.int (r54 ((x3 - (1 : Int32)).toNatClampNeg)), .int o5] (cmX3_plus X.2.1 G F (r54 ((x3 - (1 : Int32)).toNatClampNeg)) o5 _ _   o6 ho6) rfl rfl cw_X9_45 (by decide) rfl rfl (Nat.le_of_ble_eq_true rfl) ⟨Nat.zero_le _, Nat.zero_le _⟩ dX9_endedBy_92 rfl ?_
      obtain ⟨z7, hf⟩ := mj_ck hf
      refine mj_iastr [(32, r32), (33, r33), (37, r37), (38, r38), (39, r39), (51, r51), (52, o3.1), (53, o3.2), (54, (upd r54 x3.toNatClampNeg o6))] rfl s0_54 a0_54 z7 dX9_endedBy_95 ?_
      refine mj_aload_n 0 dX9_endedBy_96 rfl ?_
      refine mj_iload_n 3 dX9_endedBy_97 rfl ?_
      refine mj_putIr (ci := 7) (j := 1) [(32, r32), (33, r33), (37, r37), (38, r38), (39, r39), (51, (upd r51 1 x3)), (52, o3.1), (53, o3.2), (54, (upd r54 x3.toNatClampNeg o6))] rfl ⟨rfl, rfl⟩ fl_X9_38 rfl rfl s0_51 a0_51 dX9_endedBy_98 ?_
      refine mj_iinc 3 [(3, .int (x3 + (1))), (0, .ref 51), (1, .ref 32), (2, .int x2)] dX9_endedBy_101 rfl (kz_1 _) (by decide) rfl ?_
      refine mj_goto 57 dX9_endedBy_104 (by decide) ?_
      refine mj_sub [1, 2, 3, 0] [(0, .ref 51), (1, .ref 32), (2, .int x2), (3, .int (x3 + (1)))] rfl ?_
      obtain rfl := Option.some.inj hf
      have hZ := hc ((x3 + (1)), (upd r51 1 x3), o3.1, o3.2, (upd r54 x3.toNatClampNeg o6)) rfl
      replace hZ := mj_u2p hZ
      replace hZ := mj_u2p hZ
      replace hZ := mj_u2p hZ
      replace hZ := mj_u2p hZ
      exact hZ _ hag
set_option maxRecDepth 100000 in
set_option maxHeartbeats 4000000 in
theorem jtX9_endedBy_50 {X : mj_XT} {l : Launch} {G : mj_GT} {ad0 : Nat → Nat} {Qn : Option Value → mj_PT → mj_IT → mj_LT → Prop} (hR : mj_Rv X l G mj_S0 98 ad0 0 0 Qn) (F : Nat) (I : mj_IT) (L : mj_LT) (r32 : Nat → Int32) (r33 : Nat → Int32) (r37 : Nat → Int32) (r38 : Nat → Int32) (r39 : Nat → Int32) (r51 : Nat → Int32) (r52 : Nat → Int32) (r53 : Nat → Int32) (r54 : Nat → Int32) (x2 : Int32) (o : ((Int32) × (Nat → Int32) × (Nat → Int32) × (Nat → Int32) × (Nat → Int32))) (hf : jnX9_endedBy_50 F r32 r33 r37 r38 r39 x2 r51 r52 r53 r54 = some o) (hq : (mj_u2 (fun ov => (mj_u2 (fun r51 => (mj_u2 (fun r52 => (mj_u2 (fun r53 r54 => Qn (some (.int ov)) mj_P0 (mj_rows I [(32, r32), (33, r33), (37, r37), (38, r38), (39, r39), (51, r51), (52, r52), (53, r53), (54, r54)]) L)))))))) o) : (∀ ad : Nat → Nat, mj_ag ad0 ad → mj_W X G RX9 "endedBy" cX9_endedBy 4 4 (some .int) mj_P0 mj_S0 98 ad 0 0 50 [(0, .ref 51), (1, .ref 32), (2, .int x2)] [] (mj_rows I [(32, r32), (33, r33), (37, r37), (38, r38), (39, r39), (51, r51), (52, r52), (53, r53), (54, r54)]) L) := by
  intro ad hag
  unfold jnX9_endedBy_50 at hf
  refine mj_aload_n 0 dX9_endedBy_50 rfl ?_
  refine mj_getIv (v := (r51 1)) rfl fl_X9_38 rfl s0_51 a0_51 dX9_endedBy_51 ?_
  refine mj_iconst dX9_endedBy_54 kc_iconst_1 ?_
  refine mj_iadd dX9_endedBy_55 ?_
  refine mj_istore_n [(3, .int ((r51 1) + (1 : Int32))), (0, .ref 51), (1, .ref 32), (2, .int x2)] dX9_endedBy_56 rfl (by decide) rfl ?_
  refine mj_sub [1, 2, 3, 0] [(0, .ref 51), (1, .ref 32), (2, .int x2), (3, .int ((r51 1) + (1 : Int32)))] rfl ?_
  obtain ⟨e8, ho8, hf⟩ := mj_bd hf
  refine lpX9_endedBy_57 hR F I L r32 r33 r37 r38 r39 r51 r52 r53 r54 x2 F (((r51 1) + (1 : Int32)), r51, r52, r53, r54) e8 ho8 ?_ _ hag
  obtain ⟨r51_8, r52_8, r53_8, r54_8⟩ := e8
  replace hf := mj_u2e hf
  replace hf := mj_u2e hf
  replace hf := mj_u2e hf
  refine ?_
  refine mj_u2q ?_
  refine mj_u2q ?_
  refine mj_u2q ?_
  intro ad hag
  refine mj_iload_n 1 dX9_endedBy_107 rfl ?_
  refine mj_if_lt 128 dX9_endedBy_108 (by decide) (fun c9 => ?_) (fun c9 => ?_)
  · replace hf := mj_pos c9 hf
    refine mj_iconst dX9_endedBy_128 kc_iconst_0 ?_
    obtain rfl := Option.some.inj hf
    have hZ := hq
    replace hZ := mj_u2p hZ
    replace hZ := mj_u2p hZ
    replace hZ := mj_u2p hZ
    replace hZ := mj_u2p hZ
    exact mj_iretv hR hag ⟨by decide, by decide⟩ rfl rfl dX9_endedBy_129 hZ
  · replace hf := mj_neg c9 hf
    refine mj_iload_n 1 dX9_endedBy_111 rfl ?_
    refine mj_aload_n 0 dX9_endedBy_112 rfl ?_
    refine mj_getIv (v := (r51_8 1)) rfl fl_X9_38 rfl s0_51 a0_51 dX9_endedBy_113 ?_
    refine mj_icmp_gt 128 dX9_endedBy_116 (by decide) (fun c10 => ?_) (fun c10 => ?_)
    · replace hf := mj_pos c10 hf
      refine mj_iconst dX9_endedBy_128 kc_iconst_0 ?_
      obtain rfl := Option.some.inj hf
      have hZ := hq
      replace hZ := mj_u2p hZ
      replace hZ := mj_u2p hZ
      replace hZ := mj_u2p hZ
      replace hZ := mj_u2p hZ
      exact mj_iretv hR hag ⟨by decide, by decide⟩ rfl rfl dX9_endedBy_129 hZ
    · replace hf := mj_neg c10 hf
      refine mj_aload_n 0 dX9_endedBy_119 rfl ?_
      refine mj_getP p0_51_4 (by decide) fl_X9_18 rfl s0_51 a0_51 dX9_endedBy_120 ?_
      refine mj_iload_n 1 dX9_endedBy_123 rfl ?_
      obtain ⟨z11, hf⟩ := mj_ck hf
      refine mj_ialdv (x := r54_8) rfl s0_54 a0_54 z11 dX9_endedBy_124 ?_
      refine mj_goto 129 dX9_endedBy_125 (by decide) ?_
      obtain rfl := Option.some.inj hf
      have hZ := hq
      replace hZ := mj_u2p hZ
      replace hZ := mj_u2p hZ
      replace hZ := mj_u2p hZ
      replace hZ := mj_u2p hZ
      exact mj_iretv hR hag ⟨by decide, by decide⟩ rfl rfl dX9_endedBy_129 hZ
set_option maxRecDepth 100000 in
set_option maxHeartbeats 4000000 in
theorem mtX9_endedBy {X : mj_XT} {l : Launch} {G : mj_GT} {ad0 : Nat → Nat} {Qn : Option Value → mj_PT → mj_IT → mj_LT → Prop} (hR : mj_Rv X l G mj_S0 98 ad0 0 0 Qn) (F : Nat) (I : mj_IT) (L : mj_LT) (r32 : Nat → Int32) (r33 : Nat → Int32) (r37 : Nat → Int32) (r38 : Nat → Int32) (r39 : Nat → Int32) (r51 : Nat → Int32) (r52 : Nat → Int32) (r53 : Nat → Int32) (r54 : Nat → Int32) (x2 : Int32) (o : ((Int32) × (Nat → Int32) × (Nat → Int32) × (Nat → Int32) × (Nat → Int32))) (hf : fnX9_endedBy F r32 r33 r37 r38 r39 r51 r52 r53 r54 x2 = some o) (hq : (mj_u2 (fun ov => (mj_u2 (fun r51 => (mj_u2 (fun r52 => (mj_u2 (fun r53 r54 => Qn (some (.int ov)) mj_P0 (mj_rows I [(32, r32), (33, r33), (37, r37), (38, r38), (39, r39), (51, r51), (52, r52), (53, r53), (54, r54)]) L)))))))) o) : mj_W X G RX9 "endedBy" cX9_endedBy 4 4 (some .int) mj_P0 mj_S0 98 ad0 0 0 0 [(0, .ref 51), (1, .ref 32), (2, .int x2)] [] (mj_rows I [(32, r32), (33, r33), (37, r37), (38, r38), (39, r39), (51, r51), (52, r52), (53, r53), (54, r54)]) L := by
  have hag : mj_ag ad0 ad0 := mj_ag.rf
  unfold fnX9_endedBy at hf
  refine mj_aload_n 0 dX9_endedBy_0 rfl ?_
  refine mj_getIv (v := (r51 0)) rfl fl_X9_21 rfl s0_51 a0_51 dX9_endedBy_1 ?_
  refine mj_aload_n 1 dX9_endedBy_4 rfl ?_
  refine mj_getIv (v := (r32 0)) rfl fl_X9_25 rfl s0_32 a0_32 dX9_endedBy_5 ?_
  refine mj_icmp_eq 50 dX9_endedBy_8 (by decide) (fun c12 => ?_) (fun c12 => ?_)
  · replace hf := mj_pos c12 hf
    exact jtX9_endedBy_50 hR F I L r32 r33 r37 r38 r39 r51 r52 r53 r54 x2 o hf hq _ hag
  · replace hf := mj_neg c12 hf
    refine mj_aload_n 0 dX9_endedBy_11 rfl ?_
    refine mj_aload_n 1 dX9_endedBy_12 rfl ?_
    refine mj_getIv (v := (r32 0)) rfl fl_X9_25 rfl s0_32 a0_32 dX9_endedBy_13 ?_
    refine mj_putIr (ci := 7) (j := 0) [(32, r32), (33, r33), (37, r37), (38, r38), (39, r39), (51, (upd r51 0 (r32 0))), (52, r52), (53, r53), (54, r54)] rfl ⟨rfl, rfl⟩ fl_X9_21 rfl rfl s0_51 a0_51 dX9_endedBy_16 ?_
    refine mj_aload_n 0 dX9_endedBy_19 rfl ?_
    refine mj_getP p0_51_2 (by decide) fl_X9_9 rfl s0_51 a0_51 dX9_endedBy_20 ?_
    refine mj_iconst dX9_endedBy_23 kc_iconst_0 ?_
    obtain ⟨o13, ho13, hf⟩ := mj_bd hf
    refine mj_callSd (I2 := (mj_rows I [(32, r32), (33, r33), (37, r37), (38, r38), (39, r39), (51, (upd r51 0 (r32 0))), (52, o13), (53, r53), (54, r54)])) (L2 := L) (s1 := []) (st := []) [.ref 52, .int (0 : Int32)] (cmJ7_fill_53178_52 X.2.1 G F (0 : Int32) _ _ r52 rfl o13 ho13) (mj_rq rfl rfl) rfl cw_X9_28 (by decide) rfl rfl (Nat.le_of_ble_eq_true rfl) ⟨Nat.zero_le _, Nat.zero_le _⟩ dX9_endedBy_24 rfl ?_
    refine mj_aload_n 0 dX9_endedBy_27 rfl ?_
    refine mj_getP p0_51_2 (by decide) fl_X9_9 rfl s0_51 a0_51 dX9_endedBy_28 ?_
    refine mj_iconst dX9_endedBy_31 kc_iconst_0 ?_
    refine mj_iconst dX9_endedBy_32 kc_iconst_1 ?_
    obtain ⟨z14, hf⟩ := mj_ck hf
    refine mj_iastr [(32, r32), (33, r33), (37, r37), (38, r38), (39, r39), (51, (upd r51 0 (r32 0))), (52, (upd o13 ((0 : Int32).toNatClampNeg) (1 : Int32))), (53, r53), (54, r54)] rfl s0_52 a0_52 z14 dX9_endedBy_33 ?_
    refine mj_aload_n 0 dX9_endedBy_34 rfl ?_
    refine mj_getP p0_51_4 (by decide) fl_X9_18 rfl s0_51 a0_51 dX9_endedBy_35 ?_
    refine mj_iconst dX9_endedBy_38 kc_iconst_0 ?_
    refine mj_aload_n 0 dX9_endedBy_39 rfl ?_
    refine mj_aload_n 1 dX9_endedBy_40 rfl ?_
    obtain ⟨o15, ho15, hf⟩ := mj_bd hf
    refine mj_callVd (I2 := (mj_rows I [(32, r32), (33, r33), (37, r37), (38, r38), (39, r39), (51, (upd r51 0 (r32 0))), (52, (upd o13 ((0 : Int32).toNatClampNeg) (1 : Int32))), (53, r53), (54, r54)])) (L2 := L) (s1 := [.int o15, .int (0 : Int32), .ref 54]) (st := [.int (0 : Int32), .ref 54]) [.ref 32] (cmX9_atEnd X.2.1 G F  _ _ r32 r33 (upd o13 ((0 : Int32).toNatClampNeg) (1 : Int32)) rfl rfl rfl o15 ho15) (mj_rq rfl rfl) rfl cw_X9_34 s0_51 a0_51 (by decide) rfl rfl (Nat.le_of_ble_eq_true rfl) ⟨Nat.zero_le _, Nat.zero_le _⟩ dX9_endedBy_41 rfl ?_
    obtain ⟨z16, hf⟩ := mj_ck hf
    refine mj_iastr [(32, r32), (33, r33), (37, r37), (38, r38), (39, r39), (51, (upd r51 0 (r32 0))), (52, (upd o13 ((0 : Int32).toNatClampNeg) (1 : Int32))), (53, r53), (54, (upd r54 ((0 : Int32).toNatClampNeg) o15))] rfl s0_54 a0_54 z16 dX9_endedBy_44 ?_
    refine mj_aload_n 0 dX9_endedBy_45 rfl ?_
    refine mj_iconst dX9_endedBy_46 kc_iconst_0 ?_
    refine mj_putIr (ci := 7) (j := 1) [(32, r32), (33, r33), (37, r37), (38, r38), (39, r39), (51, (upd (upd r51 0 (r32 0)) 1 (0 : Int32))), (52, (upd o13 ((0 : Int32).toNatClampNeg) (1 : Int32))), (53, r53), (54, (upd r54 ((0 : Int32).toNatClampNeg) o15))] rfl ⟨rfl, rfl⟩ fl_X9_38 rfl rfl s0_51 a0_51 dX9_endedBy_47 ?_
    exact jtX9_endedBy_50 hR F I L r32 r33 r37 r38 r39 (upd (upd r51 0 (r32 0)) 1 (0 : Int32)) (upd o13 ((0 : Int32).toNatClampNeg) (1 : Int32)) r53 (upd r54 ((0 : Int32).toNatClampNeg) o15) x2 o hf hq _ hag
set_option maxRecDepth 100000 in
set_option maxHeartbeats 4000000 in
theorem cmX9_endedBy (l : Launch) (G : mj_GT) (F : Nat) (x2 : Int32) (I : mj_IT) (L : mj_LT) (r32 : Nat → Int32) (r33 : Nat → Int32) (r37 : Nat → Int32) (r38 : Nat → Int32) (r39 : Nat → Int32) (r51 : Nat → Int32) (r52 : Nat → Int32) (r53 : Nat → Int32) (r54 : Nat → Int32) (hr32 : I 32 = r32) (hr33 : I 33 = r33) (hr37 : I 37 = r37) (hr38 : I 38 = r38) (hr39 : I 39 = r39) (hr51 : I 51 = r51) (hr52 : I 52 = r52) (hr53 : I 53 = r53) (hr54 : I 54 = r54) (o : ((Int32) × (Nat → Int32) × (Nat → Int32) × (Nat → Int32) × (Nat → Int32))) (hf : fnX9_endedBy F r32 r33 r37 r38 r39 r51 r52 r53 r54 x2 = some o) : mj_Mv l G yX9_endedBy cX9_endedBy 4 4 (some .int) 0 0 mj_P0 mj_S0 98 [.ref 51, .ref 32, .int x2] I L (fun rv P2 I2 L2 => rv = (some (.int o.1)) ∧ P2 = mj_P0 ∧ I2 = (mj_rows I [(32, r32), (33, r33), (37, r37), (38, r38), (39, r39), (51, o.2.1), (52, o.2.2.1), (53, o.2.2.2.1), (54, o.2.2.2.2)]) ∧ L2 = L) := by
  refine mj_inv RX9 "endedBy" [(0, .ref 51), (1, .ref 32), (2, .int x2)] rfl rfl rfl (by decide) (Nat.le_of_ble_eq_true rfl) (fun X ad hR => ?_)
  refine mj_toI [(32, r32), (33, r33), (37, r37), (38, r38), (39, r39), (51, r51), (52, r52), (53, r53), (54, r54)] (by intro q hq; simp only [List.mem_cons, List.not_mem_nil, or_false] at hq; rcases hq with rfl | rfl | rfl | rfl | rfl | rfl | rfl | rfl | rfl <;> assumption) ?_
  refine mtX9_endedBy hR F I L r32 r33 r37 r38 r39 r51 r52 r53 r54 x2 o hf ?_
  obtain ⟨w0, w1, w2, w3, w4⟩ := o
  refine mj_u2q ?_
  refine mj_u2q ?_
  refine mj_u2q ?_
  refine mj_u2q ?_
  exact ⟨rfl, rfl, rfl, rfl⟩

-- X10_text
def fnX10_text (F : Nat) (r1 : Nat → Int32) (r2 : Nat → Int32) (r3 : Nat → Int32) (r4 : Nat → Int32) (r5 : Nat → Int32) (r6 : Nat → Int32) (r7 : Nat → Int32) (r8 : Nat → Int32) (r9 : Nat → Int32) (r10 : Nat → Int32) (r11 : Nat → Int32) (r12 : Nat → Int32) (r13 : Nat → Int32) (r14 : Nat → Int32) (r15 : Nat → Int32) (r16 : Nat → Int32) (r17 : Nat → Int32) (r18 : Nat → Int32) (r19 : Nat → Int32) (r20 : Nat → Int32) (r21 : Nat → Int32) (r22 : Nat → Int32) (r23 : Nat → Int32) (r24 : Nat → Int32) (r25 : Nat → Int32) (r26 : Nat → Int32) (r27 : Nat → Int32) (r28 : Nat → Int32) (r29 : Nat → Int32) (r32 : Nat → Int32) (r70 : Nat → Int32) (x1 : Int32) : Option (((Int32) × (Nat → Int32) × (Nat → Int32) × (Nat → Int32) × (Nat → Int32) × (Nat → Int32) × (Nat → Int32) × (Nat → Int32) × (Nat → Int32) × (Nat → Int32) × (Nat → Int32) × (Nat → Int32) × (Nat → Int32) × (Nat → Int32) × (Nat → Int32) × (Nat → Int32) × (Nat → Int32) × (Nat → Int32) × (Nat → Int32) × (Nat → Int32) × (Nat → Int32) × (Nat → Int32) × (Nat → Int32) × (Nat → Int32) × (Nat → Int32) × (Nat → Int32) × (Nat → Int32) × (Nat → Int32) × (Nat → Int32) × (Nat → Int32) × (Nat → Int32)) ⊕ ((Nat) × (Nat → Int32) × (Nat → Int32) × (Nat → Int32) × (Nat → Int32) × (Nat → Int32) × (Nat → Int32) × (Nat → Int32) × (Nat → Int32) × (Nat → Int32) × (Nat → Int32) × (Nat → Int32) × (Nat → Int32) × (Nat → Int32) × (Nat → Int32) × (Nat → Int32) × (Nat → Int32) × (Nat → Int32) × (Nat → Int32) × (Nat → Int32) × (Nat → Int32) × (Nat → Int32) × (Nat → Int32) × (Nat → Int32) × (Nat → Int32) × (Nat → Int32) × (Nat → Int32) × (Nat → Int32) × (Nat → Int32) × (Nat → Int32) × (Nat → Int32))) := (fnX10_needNumber F r70 x1 (0 : Int32) (r2 0)).bind (Sum.elim (fun o1 => (fnX8_read F r2 r3 r4 r5 r6 r7 r8 r9 r10 r11 r12 r13 r14 r15 r16 r17 x1).bind (fun o2 => (fnX8_faultPlace F o2.2.1).bind (fun o3 => (if o2.1 = 0 then (fnX0_clear F r29).bind (fun o6 => (fnX4_forget F r32).bind (fun o7 => some (.inl ((o2.2.2.1 0), (upd (upd r1 1 o3) 3 (0 : Int32)), o2.2.1, r18, r19, r20, r21, r22, r23, r24, r25, r26, r27, r28, o2.2.2.2.2.2.2.2.2.2.2.2.2.2.1, o2.2.2.2.2.2.2.2.2.2.2.2.2.2.2.1, o2.2.2.2.2.2.2.2.2.2.2.2.2.2.2.2, o2.2.2.1, o2.2.2.2.1, o2.2.2.2.2.1, o2.2.2.2.2.2.1, o2.2.2.2.2.2.2.1, o2.2.2.2.2.2.2.2.1, o2.2.2.2.2.2.2.2.2.1, o2.2.2.2.2.2.2.2.2.2.1, o2.2.2.2.2.2.2.2.2.2.2.1, o2.2.2.2.2.2.2.2.2.2.2.2.1, o2.2.2.2.2.2.2.2.2.2.2.2.2.1, o6, o7, o1)))) else some (.inl ((o2.1 - (10 : Int32)), (upd r1 1 o3), o2.2.1, o2.2.2.1, o2.2.2.2.1, o2.2.2.2.2.1, o2.2.2.2.2.2.1, o2.2.2.2.2.2.2.1, o2.2.2.2.2.2.2.2.1, o2.2.2.2.2.2.2.2.2.1, o2.2.2.2.2.2.2.2.2.2.1, o2.2.2.2.2.2.2.2.2.2.2.1, o2.2.2.2.2.2.2.2.2.2.2.2.1, o2.2.2.2.2.2.2.2.2.2.2.2.2.1, o2.2.2.2.2.2.2.2.2.2.2.2.2.2.1, o2.2.2.2.2.2.2.2.2.2.2.2.2.2.2.1, o2.2.2.2.2.2.2.2.2.2.2.2.2.2.2.2, r18, r19, r20, r21, r22, r23, r24, r25, r26, r27, r28, r29, r32, o1)))))) (fun eo1 => some (.inr (eo1.1, r1, r2, r4, r5, r6, r7, r8, r9, r10, r11, r12, r13, r14, r15, r16, r17, r18, r19, r20, r21, r22, r23, r24, r25, r26, r27, r28, r29, r32, eo1.2))))
set_option maxRecDepth 100000 in
set_option maxHeartbeats 4000000 in
theorem mtX10_text {X : mj_XT} {l : Launch} {G : mj_GT} {ad0 : Nat → Nat} {Qn : Option Value → mj_PT → mj_IT → mj_LT → Prop} {Qx : String → mj_IT → mj_LT → Prop} (hR : mj_Rxv X l G mj_P0 mj_S0 98 ad0 1 6 Qn Qx) (hlt : l.stackTraces = false) (F : Nat) (I : mj_IT) (L : mj_LT) (r1 : Nat → Int32) (r2 : Nat → Int32) (r3 : Nat → Int32) (r4 : Nat → Int32) (r5 : Nat → Int32) (r6 : Nat → Int32) (r7 : Nat → Int32) (r8 : Nat → Int32) (r9 : Nat → Int32) (r10 : Nat → Int32) (r11 : Nat → Int32) (r12 : Nat → Int32) (r13 : Nat → Int32) (r14 : Nat → Int32) (r15 : Nat → Int32) (r16 : Nat → Int32) (r17 : Nat → Int32) (r18 : Nat → Int32) (r19 : Nat → Int32) (r20 : Nat → Int32) (r21 : Nat → Int32) (r22 : Nat → Int32) (r23 : Nat → Int32) (r24 : Nat → Int32) (r25 : Nat → Int32) (r26 : Nat → Int32) (r27 : Nat → Int32) (r28 : Nat → Int32) (r29 : Nat → Int32) (r32 : Nat → Int32) (r70 : Nat → Int32) (x1 : Int32) (o : (((Int32) × (Nat → Int32) × (Nat → Int32) × (Nat → Int32) × (Nat → Int32) × (Nat → Int32) × (Nat → Int32) × (Nat → Int32) × (Nat → Int32) × (Nat → Int32) × (Nat → Int32) × (Nat → Int32) × (Nat → Int32) × (Nat → Int32) × (Nat → Int32) × (Nat → Int32) × (Nat → Int32) × (Nat → Int32) × (Nat → Int32) × (Nat → Int32) × (Nat → Int32) × (Nat → Int32) × (Nat → Int32) × (Nat → Int32) × (Nat → Int32) × (Nat → Int32) × (Nat → Int32) × (Nat → Int32) × (Nat → Int32) × (Nat → Int32) × (Nat → Int32)) ⊕ ((Nat) × (Nat → Int32) × (Nat → Int32) × (Nat → Int32) × (Nat → Int32) × (Nat → Int32) × (Nat → Int32) × (Nat → Int32) × (Nat → Int32) × (Nat → Int32) × (Nat → Int32) × (Nat → Int32) × (Nat → Int32) × (Nat → Int32) × (Nat → Int32) × (Nat → Int32) × (Nat → Int32) × (Nat → Int32) × (Nat → Int32) × (Nat → Int32) × (Nat → Int32) × (Nat → Int32) × (Nat → Int32) × (Nat → Int32) × (Nat → Int32) × (Nat → Int32) × (Nat → Int32) × (Nat → Int32) × (Nat → Int32) × (Nat → Int32) × (Nat → Int32)))) (hf : fnX10_text F r1 r2 r3 r4 r5 r6 r7 r8 r9 r10 r11 r12 r13 r14 r15 r16 r17 r18 r19 r20 r21 r22 r23 r24 r25 r26 r27 r28 r29 r32 r70 x1 = some o) (hq : (Sum.elim (mj_u2 (fun ov => (mj_u2 (fun r1 => (mj_u2 (fun r2 => (mj_u2 (fun r4 => (mj_u2 (fun r5 => (mj_u2 (fun r6 => (mj_u2 (fun r7 => (mj_u2 (fun r8 => (mj_u2 (fun r9 => (mj_u2 (fun r10 => (mj_u2 (fun r11 => (mj_u2 (fun r12 => (mj_u2 (fun r13 => (mj_u2 (fun r14 => (mj_u2 (fun r15 => (mj_u2 (fun r16 => (mj_u2 (fun r17 => (mj_u2 (fun r18 => (mj_u2 (fun r19 => (mj_u2 (fun r20 => (mj_u2 (fun r21 => (mj_u2 (fun r22 => (mj_u2 (fun r23 => (mj_u2 (fun r24 => (mj_u2 (fun r25 => (mj_u2 (fun r26 => (mj_u2 (fun r27 => (mj_u2 (fun r28 => (mj_u2 (fun r29 => (mj_u2 (fun r32 r70 => Qn (some (.int ov)) mj_P0 (mj_rows I [(1, r1), (2, r2), (3, r3), (4, r4), (5, r5), (6, r6), (7, r7), (8, r8), (9, r9), (10, r10), (11, r11), (12, r12), (13, r13), (14, r14), (15, r15), (16, r16), (17, r17), (18, r18), (19, r19), (20, r20), (21, r21), (22, r22), (23, r23), (24, r24), (25, r25), (26, r26), (27, r27), (28, r28), (29, r29), (32, r32), (70, r70)]) L)))))))))))))))))))))))))))))))))))))))))))))))))))))))))))) (mj_u2 (fun kx => (mj_u2 (fun r1 => (mj_u2 (fun r2 => (mj_u2 (fun r4 => (mj_u2 (fun r5 => (mj_u2 (fun r6 => (mj_u2 (fun r7 => (mj_u2 (fun r8 => (mj_u2 (fun r9 => (mj_u2 (fun r10 => (mj_u2 (fun r11 => (mj_u2 (fun r12 => (mj_u2 (fun r13 => (mj_u2 (fun r14 => (mj_u2 (fun r15 => (mj_u2 (fun r16 => (mj_u2 (fun r17 => (mj_u2 (fun r18 => (mj_u2 (fun r19 => (mj_u2 (fun r20 => (mj_u2 (fun r21 => (mj_u2 (fun r22 => (mj_u2 (fun r23 => (mj_u2 (fun r24 => (mj_u2 (fun r25 => (mj_u2 (fun r26 => (mj_u2 (fun r27 => (mj_u2 (fun r28 => (mj_u2 (fun r29 => (mj_u2 (fun r32 r70 => Qx (mj_en kx) (mj_rows I [(1, r1), (2, r2), (3, r3), (4, r4), (5, r5), (6, r6), (7, r7), (8, r8), (9, r9), (10, r10), (11, r11), (12, r12), (13, r13), (14, r14), (15, r15), (16, r16), (17, r17), (18, r18), (19, r19), (20, r20), (21, r21), (22, r22), (23, r23), (24, r24), (25, r25), (26, r26), (27, r27), (28, r28), (29, r29), (32, r32), (70, r70)]) L))))))))))))))))))))))))))))))))))))))))))))))))))))))))))))) o) : mj_W X G RX10 "text" cX10_text 3 9 (some .int) mj_P0 mj_S0 98 ad0 0 0 0 [(0, .ref 1), (1, .int x1)] [] (mj_rows I [(1, r1), (2, r2), (3, r3), (4, r4), (5, r5), (6, r6), (7, r7), (8, r8), (9, r9), (10, r10), (11, r11), (12, r12), (13, r13), (14, r14), (15, r15), (16, r16), (17, r17), (18, r18), (19, r19), (20, r20), (21, r21), (22, r22), (23, r23), (24, r24), (25, r25), (26, r26), (27, r27), (28, r28), (29, r29), (32, r32), (70, r70)]) L := by
  have hag : mj_ag ad0 ad0 := mj_ag.rf
  unfold fnX10_text at hf
  refine mj_aload_n 0 dX10_text_0 rfl ?_
  refine mj_iload_n 1 dX10_text_1 rfl ?_
  refine mj_iconst dX10_text_2 kc_iconst_0 ?_
  refine mj_aload_n 0 dX10_text_3 rfl ?_
  refine mj_getP p0_1_0 (by decide) fl_X10_10 rfl s0_1 a0_1 dX10_text_4 ?_
  refine mj_getIv (v := (r2 0)) rfl fl_X10_73 rfl s0_2 a0_2 dX10_text_7 ?_
  obtain ⟨so1, ho1, hf⟩ := mj_bd hf
  refine mj_callVxv (st := []) [.int x1, .int (0 : Int32), .int (r2 0)] hR (cmX10_needNumber l G hlt F x1 (0 : Int32) (r2 0) _ _ r70 rfl so1 ho1) cw_X10_80 s0_1 a0_1 (by decide) rfl rfl (Nat.le_of_ble_eq_true rfl) ⟨by decide, by decide⟩ dX10_text_10 (fun E I2 L2 hx => ?_) (fun rv I2 L2 hx => ?_)
  · obtain ⟨eo1, hf, hx⟩ := mj_sxr hf hx
    obtain rfl := Option.some.inj hf
    obtain ⟨hE9, hI9, hL9⟩ := hx
    rw [hE9, hI9, hL9]
    have hZ := mj_er hq
    replace hZ := mj_u2p hZ
    replace hZ := mj_u2p hZ
    replace hZ := mj_u2p hZ
    replace hZ := mj_u2p hZ
    replace hZ := mj_u2p hZ
    replace hZ := mj_u2p hZ
    replace hZ := mj_u2p hZ
    replace hZ := mj_u2p hZ
    replace hZ := mj_u2p hZ
    replace hZ := mj_u2p hZ
    replace hZ := mj_u2p hZ
    replace hZ := mj_u2p hZ
    replace hZ := mj_u2p hZ
    replace hZ := mj_u2p hZ
    replace hZ := mj_u2p hZ
    replace hZ := mj_u2p hZ
    replace hZ := mj_u2p hZ
    replace hZ := mj_u2p hZ
    replace hZ := mj_u2p hZ
    replace hZ := mj_u2p hZ
    replace hZ := mj_u2p hZ
    replace hZ := mj_u2p hZ
    replace hZ := mj_u2p hZ
    replace hZ := mj_u2p hZ
    replace hZ := mj_u2p hZ
    replace hZ := mj_u2p hZ
    replace hZ := mj_u2p hZ
    replace hZ := mj_u2p hZ
    replace hZ := mj_u2p hZ
    replace hZ := mj_u2p hZ
    rw [mj_rq (l' := [(1, r1), (2, r2), (3, r3), (4, r4), (5, r5), (6, r6), (7, r7), (8, r8), (9, r9), (10, r10), (11, r11), (12, r12), (13, r13), (14, r14), (15, r15), (16, r16), (17, r17), (18, r18), (19, r19), (20, r20), (21, r21), (22, r22), (23, r23), (24, r24), (25, r25), (26, r26), (27, r27), (28, r28), (29, r29), (32, r32), (70, eo1.2)]) rfl rfl]
    exact hZ
  · obtain ⟨o1, hf, hx⟩ := mj_sxl hf hx
    obtain ⟨hr9, hI9, hL9⟩ := hx
    refine mj_cnv (s1 := []) (I2 := (mj_rows I [(1, r1), (2, r2), (3, r3), (4, r4), (5, r5), (6, r6), (7, r7), (8, r8), (9, r9), (10, r10), (11, r11), (12, r12), (13, r13), (14, r14), (15, r15), (16, r16), (17, r17), (18, r18), (19, r19), (20, r20), (21, r21), (22, r22), (23, r23), (24, r24), (25, r25), (26, r26), (27, r27), (28, r28), (29, r29), (32, r32), (70, o1)])) (L2 := L) (by rw [hr9]; rfl) (hI9.trans (mj_rq rfl rfl)) hL9 ?_
    refine mj_aload_n 0 dX10_text_13 rfl ?_
    refine mj_getP p0_1_0 (by decide) fl_X10_10 rfl s0_1 a0_1 dX10_text_14 ?_
    refine mj_iload_n 1 dX10_text_17 rfl ?_
    obtain ⟨o2, ho2, hf⟩ := mj_bd hf
    refine mj_callVd (I2 := (mj_rows I [(1, r1), (2, o2.2.1), (3, r3), (4, o2.2.2.1), (5, o2.2.2.2.1), (6, o2.2.2.2.2.1), (7, o2.2.2.2.2.2.1), (8, o2.2.2.2.2.2.2.1), (9, o2.2.2.2.2.2.2.2.1), (10, o2.2.2.2.2.2.2.2.2.1), (11, o2.2.2.2.2.2.2.2.2.2.1), (12, o2.2.2.2.2.2.2.2.2.2.2.1), (13, o2.2.2.2.2.2.2.2.2.2.2.2.1), (14, o2.2.2.2.2.2.2.2.2.2.2.2.2.1), (15, o2.2.2.2.2.2.2.2.2.2.2.2.2.2.1), (16, o2.2.2.2.2.2.2.2.2.2.2.2.2.2.2.1), (17, o2.2.2.2.2.2.2.2.2.2.2.2.2.2.2.2), (18, r18), (19, r19), (20, r20), (21, r21), (22, r22), (23, r23), (24, r24), (25, r25), (26, r26), (27, r27), (28, r28), (29, r29), (32, r32), (70, o1)])) (L2 := L) (s1 := [.int o2.1]) (st := []) [.int x1] (cmX8_read X.2.1 G F x1 _ _ r2 r3 r4 r5 r6 r7 r8 r9 r10 r11 r12 r13 r14 r15 r16 r17 rfl rfl rfl rfl rfl rfl rfl rfl rfl rfl rfl rfl rfl rfl rfl rfl o2 ho2) (mj_rq rfl rfl) rfl cw_X10_84 s0_2 a0_2 (by decide) rfl rfl (Nat.le_of_ble_eq_true rfl) (mj_rxvc hR ⟨by decide, by decide⟩) dX10_text_18 rfl ?_
    refine mj_istore_n [(2, .int o2.1), (0, .ref 1), (1, .int x1)] dX10_text_21 rfl (by decide) rfl ?_
    refine mj_aload_n 1 dX10_text_22 rfl ?_
    refine mj_aload_n 1 dX10_text_23 rfl ?_
    refine mj_getP p0_1_0 (by decide) fl_X10_10 rfl s0_1 a0_1 dX10_text_24 ?_
    obtain ⟨o3, ho3, hf⟩ := mj_bd hf
    refine mj_callVd (I2 := (mj_rows I [(1, r1), (2, o2.2.1), (3, r3), (4, o2.2.2.1), (5, o2.2.2.2.1), (6, o2.2.2.2.2.1), (7, o2.2.2.2.2.2.1), (8, o2.2.2.2.2.2.2.1), (9, o2.2.2.2.2.2.2.2.1), (10, o2.2.2.2.2.2.2.2.2.1), (11, o2.2.2.2.2.2.2.2.2.2.1), (12, o2.2.2.2.2.2.2.2.2.2.2.1), (13, o2.2.2.2.2.2.2.2.2.2.2.2.1), (14, o2.2.2.2.2.2.2.2.2.2.2.2.2.1), (15, o2.2.2.2.2.2.2.2.2.2.2.2.2.2.1), (16, o2.2.2.2.2.2.2.2.2.2.2.2.2.2.2.1), (17, o2.2.2.2.2.2.2.2.2.2.2.2.2.2.2.2), (18, r18), (19, r19), (20, r20), (21, r21), (22, r22), (23, r23), (24, r24), (25, r25), (26, r26), (27, r27), (28, r28), (29, r29), (32, r32), (70, o1)])) (L2 := L) (s1 := [.int o3, .ref 1]) (st := [.ref 1]) [] (cmX8_faultPlace X.2.1 G F  _ _ o2.2.1 rfl o3 ho3) (mj_rq rfl rfl) rfl cw_X10_88 s0_2 a0_2 (by decide) rfl rfl (Nat.le_of_ble_eq_true rfl) (mj_rxvc hR ⟨by decide, by decide⟩) dX10_text_27 rfl ?_
    refine mj_putIr (ci := 8) (j := 1) [(1, (upd r1 1 o3)), (2, o2.2.1), (3, r3), (4, o2.2.2.1), (5, o2.2.2.2.1), (6, o2.2.2.2.2.1), (7, o2.2.2.2.2.2.1), (8, o2.2.2.2.2.2.2.1), (9, o2.2.2.2.2.2.2.2.1), (10, o2.2.2.2.2.2.2.2.2.1), (11, o2.2.2.2.2.2.2.2.2.2.1), (12, o2.2.2.2.2.2.2.2.2.2.2.1), (13, o2.2.2.2.2.2.2.2.2.2.2.2.1), (14, o2.2.2.2.2.2.2.2.2.2.2.2.2.1), (15, o2.2.2.2.2.2.2.2.2.2.2.2.2.2.1), (16, o2.2.2.2.2.2.2.2.2.2.2.2.2.2.2.1), (17, o2.2.2.2.2.2.2.2.2.2.2.2.2.2.2.2), (18, r18), (19, r19), (20, r20), (21, r21), (22, r22), (23, r23), (24, r24), (25, r25), (26, r26), (27, r27), (28, r28), (29, r29), (32, r32), (70, o1)] rfl ⟨rfl, rfl⟩ fl_X10_16 rfl rfl s0_1 a0_1 dX10_text_30 ?_
    refine mj_iload_n 0 dX10_text_33 rfl ?_
    refine mj_if_eq 42 dX10_text_34 (by decide) (fun c4 => ?_) (fun c4 => ?_)
    · replace hf := mj_pos c4 hf
      refine mj_aload_n 1 dX10_text_42 rfl ?_
      refine mj_aload_n 1 dX10_text_43 rfl ?_
      refine mj_getP p0_1_0 (by decide) fl_X10_10 rfl s0_1 a0_1 dX10_text_44 ?_
      refine mj_aload_n 1 dX10_text_47 rfl ?_
      refine mj_getP p0_1_2 (by decide) fl_X10_23 rfl s0_1 a0_1 dX10_text_48 ?_
      refine mj_callVv (st := [.ref 1]) [.ref 18] (cmX8_exchange X.2.1 G _ _) cw_X10_91 s0_2 a0_2 (by decide) rfl rfl (Nat.le_of_ble_eq_true rfl) (mj_rxvc hR ⟨by decide, by decide⟩) dX10_text_51 rfl rfl (fun rv P2 I2 L2 ad hag2 hx => ?_)
      obtain ⟨hr9, hP9, hI9, hL9⟩ := hx
      replace hag := mj_ag.tr hag hag2
      rw [hP9]
      refine mj_cnv (s1 := [.ref 4, .ref 1]) (I2 := (mj_rows I [(1, (upd r1 1 o3)), (2, o2.2.1), (3, r3), (4, o2.2.2.1), (5, o2.2.2.2.1), (6, o2.2.2.2.2.1), (7, o2.2.2.2.2.2.1), (8, o2.2.2.2.2.2.2.1), (9, o2.2.2.2.2.2.2.2.1), (10, o2.2.2.2.2.2.2.2.2.1), (11, o2.2.2.2.2.2.2.2.2.2.1), (12, o2.2.2.2.2.2.2.2.2.2.2.1), (13, o2.2.2.2.2.2.2.2.2.2.2.2.1), (14, o2.2.2.2.2.2.2.2.2.2.2.2.2.1), (15, o2.2.2.2.2.2.2.2.2.2.2.2.2.2.1), (16, o2.2.2.2.2.2.2.2.2.2.2.2.2.2.2.1), (17, o2.2.2.2.2.2.2.2.2.2.2.2.2.2.2.2), (18, r18), (19, r19), (20, r20), (21, r21), (22, r22), (23, r23), (24, r24), (25, r25), (26, r26), (27, r27), (28, r28), (29, r29), (32, r32), (70, o1)])) (L2 := L) (by rw [hr9]; rfl) hI9 hL9 ?_
      refine mj_putP (b := 4) (by decide) fl_X10_23 rfl rfl s0_1 a0_1 dX10_text_54 ?_
      refine mj_sub [1] [(0, .ref 1)] rfl ?_
      have hI5 : ∀ a, mj_rows I [(1, (upd r1 1 o3)), (2, o2.2.1), (3, r3), (4, r18), (5, r19), (6, r20), (7, r21), (8, r22), (9, r23), (10, r24), (11, r25), (12, r26), (13, r27), (14, r28), (15, o2.2.2.2.2.2.2.2.2.2.2.2.2.2.1), (16, o2.2.2.2.2.2.2.2.2.2.2.2.2.2.2.1), (17, o2.2.2.2.2.2.2.2.2.2.2.2.2.2.2.2), (18, o2.2.2.1), (19, o2.2.2.2.1), (20, o2.2.2.2.2.1), (21, o2.2.2.2.2.2.1), (22, o2.2.2.2.2.2.2.1), (23, o2.2.2.2.2.2.2.2.1), (24, o2.2.2.2.2.2.2.2.2.1), (25, o2.2.2.2.2.2.2.2.2.2.1), (26, o2.2.2.2.2.2.2.2.2.2.2.1), (27, o2.2.2.2.2.2.2.2.2.2.2.2.1), (28, o2.2.2.2.2.2.2.2.2.2.2.2.2.1), (29, r29), (32, r32), (70, o1)] a = mj_rows I [(1, (upd r1 1 o3)), (2, o2.2.1), (3, r3), (4, o2.2.2.1), (5, o2.2.2.2.1), (6, o2.2.2.2.2.1), (7, o2.2.2.2.2.2.1), (8, o2.2.2.2.2.2.2.1), (9, o2.2.2.2.2.2.2.2.1), (10, o2.2.2.2.2.2.2.2.2.1), (11, o2.2.2.2.2.2.2.2.2.2.1), (12, o2.2.2.2.2.2.2.2.2.2.2.1), (13, o2.2.2.2.2.2.2.2.2.2.2.2.1), (14, o2.2.2.2.2.2.2.2.2.2.2.2.2.1), (15, o2.2.2.2.2.2.2.2.2.2.2.2.2.2.1), (16, o2.2.2.2.2.2.2.2.2.2.2.2.2.2.2.1), (17, o2.2.2.2.2.2.2.2.2.2.2.2.2.2.2.2), (18, r18), (19, r19), (20, r20), (21, r21), (22, r22), (23, r23), (24, r24), (25, r25), (26, r26), (27, r27), (28, r28), (29, r29), (32, r32), (70, o1)] (mj_pip a) := by
        intro a
        by_cases h4 : a = 4
        · subst h4; rfl
        · skip
          by_cases h18 : a = 18
          · subst h18; rfl
          · skip
            by_cases h5 : a = 5
            · subst h5; rfl
            · skip
              by_cases h19 : a = 19
              · subst h19; rfl
              · skip
                by_cases h6 : a = 6
                · subst h6; rfl
                · skip
                  by_cases h20 : a = 20
                  · subst h20; rfl
                  · skip
                    by_cases h7 : a = 7
                    · subst h7; rfl
                    · skip
                      by_cases h21 : a = 21
                      · subst h21; rfl
                      · skip
                        by_cases h8 : a = 8
                        · subst h8; rfl
                        · skip
                          by_cases h22 : a = 22
                          · subst h22; rfl
                          · skip
                            by_cases h9 : a = 9
                            · subst h9; rfl
                            · skip
                              by_cases h23 : a = 23
                              · subst h23; rfl
                              · skip
                                by_cases h10 : a = 10
                                · subst h10; rfl
                                · skip
                                  by_cases h24 : a = 24
                                  · subst h24; rfl
                                  · skip
                                    by_cases h11 : a = 11
                                    · subst h11; rfl
                                    · skip
                                      by_cases h25 : a = 25
                                      · subst h25; rfl
                                      · skip
                                        by_cases h12 : a = 12
                                        · subst h12; rfl
                                        · skip
                                          by_cases h26 : a = 26
                                          · subst h26; rfl
                                          · skip
                                            by_cases h13 : a = 13
                                            · subst h13; rfl
                                            · skip
                                              by_cases h27 : a = 27
                                              · subst h27; rfl
                                              · skip
                                                by_cases h14 : a = 14
                                                · subst h14; rfl
                                                · skip
                                                  by_cases h28 : a = 28
                                                  · subst h28; rfl
                                                  · skip
                                                    have hp : mj_pip a = a := by unfold mj_pip; split <;> (try split) <;> omega
                                                    rw [hp]
                                                    simp only [mj_rows, if_neg h4, if_neg h18, if_neg h5, if_neg h19, if_neg h6, if_neg h20, if_neg h7, if_neg h21, if_neg h8, if_neg h22, if_neg h9, if_neg h23, if_neg h10, if_neg h24, if_neg h11, if_neg h25, if_neg h12, if_neg h26, if_neg h13, if_neg h27, if_neg h14, if_neg h28]
      refine mj_ren mj_pip mj_P0 (mj_rows I [(1, (upd r1 1 o3)), (2, o2.2.1), (3, r3), (4, r18), (5, r19), (6, r20), (7, r21), (8, r22), (9, r23), (10, r24), (11, r25), (12, r26), (13, r27), (14, r28), (15, o2.2.2.2.2.2.2.2.2.2.2.2.2.2.1), (16, o2.2.2.2.2.2.2.2.2.2.2.2.2.2.2.1), (17, o2.2.2.2.2.2.2.2.2.2.2.2.2.2.2.2), (18, o2.2.2.1), (19, o2.2.2.2.1), (20, o2.2.2.2.2.1), (21, o2.2.2.2.2.2.1), (22, o2.2.2.2.2.2.2.1), (23, o2.2.2.2.2.2.2.2.1), (24, o2.2.2.2.2.2.2.2.2.1), (25, o2.2.2.2.2.2.2.2.2.2.1), (26, o2.2.2.2.2.2.2.2.2.2.2.1), (27, o2.2.2.2.2.2.2.2.2.2.2.2.1), (28, o2.2.2.2.2.2.2.2.2.2.2.2.2.1), (29, r29), (32, r32), (70, o1)]) hI5 mj_pip_2 mj_pip_b mj_pip_S mj_Pp_P mj_pip_z mj_pip_f mj_pip_k rfl rfl ?_
      replace hag := mj_ag.tr hag (mj_pip_ag _)
      refine mj_aload_n 0 dX10_text_57 rfl ?_
      refine mj_iconst dX10_text_58 kc_iconst_0 ?_
      refine mj_putIr (ci := 8) (j := 3) [(1, (upd (upd r1 1 o3) 3 (0 : Int32))), (2, o2.2.1), (3, r3), (4, r18), (5, r19), (6, r20), (7, r21), (8, r22), (9, r23), (10, r24), (11, r25), (12, r26), (13, r27), (14, r28), (15, o2.2.2.2.2.2.2.2.2.2.2.2.2.2.1), (16, o2.2.2.2.2.2.2.2.2.2.2.2.2.2.2.1), (17, o2.2.2.2.2.2.2.2.2.2.2.2.2.2.2.2), (18, o2.2.2.1), (19, o2.2.2.2.1), (20, o2.2.2.2.2.1), (21, o2.2.2.2.2.2.1), (22, o2.2.2.2.2.2.2.1), (23, o2.2.2.2.2.2.2.2.1), (24, o2.2.2.2.2.2.2.2.2.1), (25, o2.2.2.2.2.2.2.2.2.2.1), (26, o2.2.2.2.2.2.2.2.2.2.2.1), (27, o2.2.2.2.2.2.2.2.2.2.2.2.1), (28, o2.2.2.2.2.2.2.2.2.2.2.2.2.1), (29, r29), (32, r32), (70, o1)] rfl ⟨rfl, rfl⟩ fl_X10_95 rfl rfl s0_1 a0_1 dX10_text_59 ?_
      refine mj_aload_n 0 dX10_text_62 rfl ?_
      refine mj_getP p0_1_4 (by decide) fl_X10_30 rfl s0_1 a0_1 dX10_text_63 ?_
      obtain ⟨o6, ho6, hf⟩ := mj_bd hf
      refine mj_callVd (I2 := (mj_rows I [(1, (upd (upd r1 1 o3) 3 (0 : Int32))), (2, o2.2.1), (3, r3), (4, r18), (5, r19), (6, r20), (7, r21), (8, r22), (9, r23), (10, r24), (11, r25), (12, r26), (13, r27), (14, r28), (15, o2.2.2.2.2.2.2.2.2.2.2.2.2.2.1), (16, o2.2.2.2.2.2.2.2.2.2.2.2.2.2.2.1), (17, o2.2.2.2.2.2.2.2.2.2.2.2.2.2.2.2), (18, o2.2.2.1), (19, o2.2.2.2.1), (20, o2.2.2.2.2.1), (21, o2.2.2.2.2.2.1), (22, o2.2.2.2.2.2.2.1), (23, o2.2.2.2.2.2.2.2.1), (24, o2.2.2.2.2.2.2.2.2.1), (25, o2.2.2.2.2.2.2.2.2.2.1), (26, o2.2.2.2.2.2.2.2.2.2.2.1), (27, o2.2.2.2.2.2.2.2.2.2.2.2.1), (28, o2.2.2.2.2.2.2.2.2.2.2.2.2.1), (29, o6), (32, r32), (70, o1)])) (L2 := L) (s1 := []) (st := []) [] (cmX0_clear X.2.1 G F  _ _ r29 rfl o6 ho6) (mj_rq rfl rfl) rfl cw_X10_98 s0_29 a0_29 (by decide) rfl rfl (Nat.le_of_ble_eq_true rfl) (mj_rxvc hR ⟨by decide, by decide⟩) dX10_text_66 rfl ?_
      refine mj_aload_n 0 dX10_text_69 rfl ?_
      refine mj_getP p0_1_5 (by decide) fl_X10_37 rfl s0_1 a0_1 dX10_text_70 ?_
      obtain ⟨o7, ho7, hf⟩ := mj_bd hf
      refine mj_callVd (I2 := (mj_rows I [(1, (upd (upd r1 1 o3) 3 (0 : Int32))), (2, o2.2.1), (3, r3), (4, r18), (5, r19), (6, r20), (7, r21), (8, r22), (9, r23), (10, r24), (11, r25), (12, r26), (13, r27), (14, r28), (15, o2.2.2.2.2.2.2.2.2.2.2.2.2.2.1), (16, o2.2.2.2.2.2.2.2.2.2.2.2.2.2.2.1), (17, o2.2.2.2.2.2.2.2.2.2.2.2.2.2.2.2), (18, o2.2.2.1), (19, o2.2.2.2.1), (20, o2.2.2.2.2.1), (21, o2.2.2.2.2.2.1), (22, o2.2.2.2.2.2.2.1), (23, o2.2.2.2.2.2.2.2.1), (24, o2.2.2.2.2.2.2.2.2.1), (25, o2.2.2.2.2.2.2.2.2.2.1), (26, o2.2.2.2.2.2.2.2.2.2.2.1), (27, o2.2.2.2.2.2.2.2.2.2.2.2.1), (28, o2.2.2.2.2.2.2.2.2.2.2.2.2.1), (29, o6), (32, o7), (70, o1)])) (L2 := L) (s1 := []) (st := []) [] (cmX4_forget X.2.1 G F  _ _ r32 rfl o7 ho7) (mj_rq rfl rfl) rfl cw_X10_101 s0_32 a0_32 (by decide) rfl rfl (Nat.le_of_ble_eq_true rfl) (mj_rxvc hR ⟨by decide, by decide⟩) dX10_text_73 rfl ?_
      refine mj_aload_n 0 dX10_text_76 rfl ?_
      refine mj_getP p0_1_2 (by decide) fl_X10_23 rfl s0_1 a0_1 dX10_text_77 ?_
      refine mj_getIv (v := (o2.2.2.1 0)) rfl fl_X10_104 rfl s0_18 a0_18 dX10_text_80 ?_
      obtain rfl := Option.some.inj hf
      have hZ := mj_el hq
      replace hZ := mj_u2p hZ
      replace hZ := mj_u2p hZ
      replace hZ := mj_u2p hZ
      replace hZ := mj_u2p hZ
      replace hZ := mj_u2p hZ
      replace hZ := mj_u2p hZ
      replace hZ := mj_u2p hZ
      replace hZ := mj_u2p hZ
      replace hZ := mj_u2p hZ
      replace hZ := mj_u2p hZ
      replace hZ := mj_u2p hZ
      replace hZ := mj_u2p hZ
      replace hZ := mj_u2p hZ
      replace hZ := mj_u2p hZ
      replace hZ := mj_u2p hZ
      replace hZ := mj_u2p hZ
      replace hZ := mj_u2p hZ
      replace hZ := mj_u2p hZ
      replace hZ := mj_u2p hZ
      replace hZ := mj_u2p hZ
      replace hZ := mj_u2p hZ
      replace hZ := mj_u2p hZ
      replace hZ := mj_u2p hZ
      replace hZ := mj_u2p hZ
      replace hZ := mj_u2p hZ
      replace hZ := mj_u2p hZ
      replace hZ := mj_u2p hZ
      replace hZ := mj_u2p hZ
      replace hZ := mj_u2p hZ
      replace hZ := mj_u2p hZ
      exact mj_iretxv hR hag ⟨by decide, by decide⟩ rfl rfl dX10_text_83 hZ
    · replace hf := mj_neg c4 hf
      refine mj_iload_n 0 dX10_text_37 rfl ?_
      refine mj_bipush dX10_text_38 kc_bipush_10 ?_
      refine mj_isub dX10_text_40 ?_
      obtain rfl := Option.some.inj hf
      have hZ := mj_el hq
      replace hZ := mj_u2p hZ
      replace hZ := mj_u2p hZ
      replace hZ := mj_u2p hZ
      replace hZ := mj_u2p hZ
      replace hZ := mj_u2p hZ
      replace hZ := mj_u2p hZ
      replace hZ := mj_u2p hZ
      replace hZ := mj_u2p hZ
      replace hZ := mj_u2p hZ
      replace hZ := mj_u2p hZ
      replace hZ := mj_u2p hZ
      replace hZ := mj_u2p hZ
      replace hZ := mj_u2p hZ
      replace hZ := mj_u2p hZ
      replace hZ := mj_u2p hZ
      replace hZ := mj_u2p hZ
      replace hZ := mj_u2p hZ
      replace hZ := mj_u2p hZ
      replace hZ := mj_u2p hZ
      replace hZ := mj_u2p hZ
      replace hZ := mj_u2p hZ
      replace hZ := mj_u2p hZ
      replace hZ := mj_u2p hZ
      replace hZ := mj_u2p hZ
      replace hZ := mj_u2p hZ
      replace hZ := mj_u2p hZ
      replace hZ := mj_u2p hZ
      replace hZ := mj_u2p hZ
      replace hZ := mj_u2p hZ
      replace hZ := mj_u2p hZ
      exact mj_iretxv hR hag ⟨by decide, by decide⟩ rfl rfl dX10_text_41 hZ
set_option maxRecDepth 100000 in
set_option maxHeartbeats 4000000 in
theorem cmX10_text (l : Launch) (G : mj_GT) (hlt : l.stackTraces = false) (F : Nat) (x1 : Int32) (I : mj_IT) (L : mj_LT) (r1 : Nat → Int32) (r2 : Nat → Int32) (r3 : Nat → Int32) (r4 : Nat → Int32) (r5 : Nat → Int32) (r6 : Nat → Int32) (r7 : Nat → Int32) (r8 : Nat → Int32) (r9 : Nat → Int32) (r10 : Nat → Int32) (r11 : Nat → Int32) (r12 : Nat → Int32) (r13 : Nat → Int32) (r14 : Nat → Int32) (r15 : Nat → Int32) (r16 : Nat → Int32) (r17 : Nat → Int32) (r18 : Nat → Int32) (r19 : Nat → Int32) (r20 : Nat → Int32) (r21 : Nat → Int32) (r22 : Nat → Int32) (r23 : Nat → Int32) (r24 : Nat → Int32) (r25 : Nat → Int32) (r26 : Nat → Int32) (r27 : Nat → Int32) (r28 : Nat → Int32) (r29 : Nat → Int32) (r32 : Nat → Int32) (r70 : Nat → Int32) (hr1 : I 1 = r1) (hr2 : I 2 = r2) (hr3 : I 3 = r3) (hr4 : I 4 = r4) (hr5 : I 5 = r5) (hr6 : I 6 = r6) (hr7 : I 7 = r7) (hr8 : I 8 = r8) (hr9 : I 9 = r9) (hr10 : I 10 = r10) (hr11 : I 11 = r11) (hr12 : I 12 = r12) (hr13 : I 13 = r13) (hr14 : I 14 = r14) (hr15 : I 15 = r15) (hr16 : I 16 = r16) (hr17 : I 17 = r17) (hr18 : I 18 = r18) (hr19 : I 19 = r19) (hr20 : I 20 = r20) (hr21 : I 21 = r21) (hr22 : I 22 = r22) (hr23 : I 23 = r23) (hr24 : I 24 = r24) (hr25 : I 25 = r25) (hr26 : I 26 = r26) (hr27 : I 27 = r27) (hr28 : I 28 = r28) (hr29 : I 29 = r29) (hr32 : I 32 = r32) (hr70 : I 70 = r70) (o : (((Int32) × (Nat → Int32) × (Nat → Int32) × (Nat → Int32) × (Nat → Int32) × (Nat → Int32) × (Nat → Int32) × (Nat → Int32) × (Nat → Int32) × (Nat → Int32) × (Nat → Int32) × (Nat → Int32) × (Nat → Int32) × (Nat → Int32) × (Nat → Int32) × (Nat → Int32) × (Nat → Int32) × (Nat → Int32) × (Nat → Int32) × (Nat → Int32) × (Nat → Int32) × (Nat → Int32) × (Nat → Int32) × (Nat → Int32) × (Nat → Int32) × (Nat → Int32) × (Nat → Int32) × (Nat → Int32) × (Nat → Int32) × (Nat → Int32) × (Nat → Int32)) ⊕ ((Nat) × (Nat → Int32) × (Nat → Int32) × (Nat → Int32) × (Nat → Int32) × (Nat → Int32) × (Nat → Int32) × (Nat → Int32) × (Nat → Int32) × (Nat → Int32) × (Nat → Int32) × (Nat → Int32) × (Nat → Int32) × (Nat → Int32) × (Nat → Int32) × (Nat → Int32) × (Nat → Int32) × (Nat → Int32) × (Nat → Int32) × (Nat → Int32) × (Nat → Int32) × (Nat → Int32) × (Nat → Int32) × (Nat → Int32) × (Nat → Int32) × (Nat → Int32) × (Nat → Int32) × (Nat → Int32) × (Nat → Int32) × (Nat → Int32) × (Nat → Int32)))) (hf : fnX10_text F r1 r2 r3 r4 r5 r6 r7 r8 r9 r10 r11 r12 r13 r14 r15 r16 r17 r18 r19 r20 r21 r22 r23 r24 r25 r26 r27 r28 r29 r32 r70 x1 = some o) : mj_Mxv l G yX10_text cX10_text 3 9 (some .int) 1 6 mj_P0 mj_S0 98 [.ref 1, .int x1] I L (fun rv P2 I2 L2 => Sum.elim (fun o => rv = (some (.int o.1)) ∧ P2 = mj_P0 ∧ I2 = (mj_rows I [(1, o.2.1), (2, o.2.2.1), (3, r3), (4, o.2.2.2.1), (5, o.2.2.2.2.1), (6, o.2.2.2.2.2.1), (7, o.2.2.2.2.2.2.1), (8, o.2.2.2.2.2.2.2.1), (9, o.2.2.2.2.2.2.2.2.1), (10, o.2.2.2.2.2.2.2.2.2.1), (11, o.2.2.2.2.2.2.2.2.2.2.1), (12, o.2.2.2.2.2.2.2.2.2.2.2.1), (13, o.2.2.2.2.2.2.2.2.2.2.2.2.1), (14, o.2.2.2.2.2.2.2.2.2.2.2.2.2.1), (15, o.2.2.2.2.2.2.2.2.2.2.2.2.2.2.1), (16, o.2.2.2.2.2.2.2.2.2.2.2.2.2.2.2.1), (17, o.2.2.2.2.2.2.2.2.2.2.2.2.2.2.2.2.1), (18, o.2.2.2.2.2.2.2.2.2.2.2.2.2.2.2.2.2.1), (19, o.2.2.2.2.2.2.2.2.2.2.2.2.2.2.2.2.2.2.1), (20, o.2.2.2.2.2.2.2.2.2.2.2.2.2.2.2.2.2.2.2.1), (21, o.2.2.2.2.2.2.2.2.2.2.2.2.2.2.2.2.2.2.2.2.1), (22, o.2.2.2.2.2.2.2.2.2.2.2.2.2.2.2.2.2.2.2.2.2.1), (23, o.2.2.2.2.2.2.2.2.2.2.2.2.2.2.2.2.2.2.2.2.2.2.1), (24, o.2.2.2.2.2.2.2.2.2.2.2.2.2.2.2.2.2.2.2.2.2.2.2.1), (25, o.2.2.2.2.2.2.2.2.2.2.2.2.2.2.2.2.2.2.2.2.2.2.2.2.1), (26, o.2.2.2.2.2.2.2.2.2.2.2.2.2.2.2.2.2.2.2.2.2.2.2.2.2.1), (27, o.2.2.2.2.2.2.2.2.2.2.2.2.2.2.2.2.2.2.2.2.2.2.2.2.2.2.1), (28, o.2.2.2.2.2.2.2.2.2.2.2.2.2.2.2.2.2.2.2.2.2.2.2.2.2.2.2.1), (29, o.2.2.2.2.2.2.2.2.2.2.2.2.2.2.2.2.2.2.2.2.2.2.2.2.2.2.2.2.1), (32, o.2.2.2.2.2.2.2.2.2.2.2.2.2.2.2.2.2.2.2.2.2.2.2.2.2.2.2.2.2.1), (70, o.2.2.2.2.2.2.2.2.2.2.2.2.2.2.2.2.2.2.2.2.2.2.2.2.2.2.2.2.2.2)]) ∧ L2 = L) (fun _ => False) o) (fun E I2 L2 => Sum.elim (fun _ => False) (fun o => E = mj_en o.1 ∧ I2 = (mj_rows I [(1, o.2.1), (2, o.2.2.1), (3, r3), (4, o.2.2.2.1), (5, o.2.2.2.2.1), (6, o.2.2.2.2.2.1), (7, o.2.2.2.2.2.2.1), (8, o.2.2.2.2.2.2.2.1), (9, o.2.2.2.2.2.2.2.2.1), (10, o.2.2.2.2.2.2.2.2.2.1), (11, o.2.2.2.2.2.2.2.2.2.2.1), (12, o.2.2.2.2.2.2.2.2.2.2.2.1), (13, o.2.2.2.2.2.2.2.2.2.2.2.2.1), (14, o.2.2.2.2.2.2.2.2.2.2.2.2.2.1), (15, o.2.2.2.2.2.2.2.2.2.2.2.2.2.2.1), (16, o.2.2.2.2.2.2.2.2.2.2.2.2.2.2.2.1), (17, o.2.2.2.2.2.2.2.2.2.2.2.2.2.2.2.2.1), (18, o.2.2.2.2.2.2.2.2.2.2.2.2.2.2.2.2.2.1), (19, o.2.2.2.2.2.2.2.2.2.2.2.2.2.2.2.2.2.2.1), (20, o.2.2.2.2.2.2.2.2.2.2.2.2.2.2.2.2.2.2.2.1), (21, o.2.2.2.2.2.2.2.2.2.2.2.2.2.2.2.2.2.2.2.2.1), (22, o.2.2.2.2.2.2.2.2.2.2.2.2.2.2.2.2.2.2.2.2.2.1), (23, o.2.2.2.2.2.2.2.2.2.2.2.2.2.2.2.2.2.2.2.2.2.2.1), (24, o.2.2.2.2.2.2.2.2.2.2.2.2.2.2.2.2.2.2.2.2.2.2.2.1), (25, o.2.2.2.2.2.2.2.2.2.2.2.2.2.2.2.2.2.2.2.2.2.2.2.2.1), (26, o.2.2.2.2.2.2.2.2.2.2.2.2.2.2.2.2.2.2.2.2.2.2.2.2.2.1), (27, o.2.2.2.2.2.2.2.2.2.2.2.2.2.2.2.2.2.2.2.2.2.2.2.2.2.2.1), (28, o.2.2.2.2.2.2.2.2.2.2.2.2.2.2.2.2.2.2.2.2.2.2.2.2.2.2.2.1), (29, o.2.2.2.2.2.2.2.2.2.2.2.2.2.2.2.2.2.2.2.2.2.2.2.2.2.2.2.2.1), (32, o.2.2.2.2.2.2.2.2.2.2.2.2.2.2.2.2.2.2.2.2.2.2.2.2.2.2.2.2.2.1), (70, o.2.2.2.2.2.2.2.2.2.2.2.2.2.2.2.2.2.2.2.2.2.2.2.2.2.2.2.2.2.2)]) ∧ L2 = L) o) := by
  refine mj_inxv RX10 "text" [(0, .ref 1), (1, .int x1)] rfl rfl rfl (by decide) (Nat.le_of_ble_eq_true rfl) (fun X ad hR => ?_)
  refine mj_toI [(1, r1), (2, r2), (3, r3), (4, r4), (5, r5), (6, r6), (7, r7), (8, r8), (9, r9), (10, r10), (11, r11), (12, r12), (13, r13), (14, r14), (15, r15), (16, r16), (17, r17), (18, r18), (19, r19), (20, r20), (21, r21), (22, r22), (23, r23), (24, r24), (25, r25), (26, r26), (27, r27), (28, r28), (29, r29), (32, r32), (70, r70)] (by intro q hq; simp only [List.mem_cons, List.not_mem_nil, or_false] at hq; rcases hq with rfl | rfl | rfl | rfl | rfl | rfl | rfl | rfl | rfl | rfl | rfl | rfl | rfl | rfl | rfl | rfl | rfl | rfl | rfl | rfl | rfl | rfl | rfl | rfl | rfl | rfl | rfl | rfl | rfl | rfl | rfl <;> assumption) ?_
  refine mtX10_text hR hlt F I L r1 r2 r3 r4 r5 r6 r7 r8 r9 r10 r11 r12 r13 r14 r15 r16 r17 r18 r19 r20 r21 r22 r23 r24 r25 r26 r27 r28 r29 r32 r70 x1 o hf ?_
  rcases o with o | o
  · refine mj_elq ?_
    obtain ⟨w0, w1, w2, w3, w4, w5, w6, w7, w8, w9, w10, w11, w12, w13, w14, w15, w16, w17, w18, w19, w20, w21, w22, w23, w24, w25, w26, w27, w28, w29, w30⟩ := o
    refine mj_u2q ?_
    refine mj_u2q ?_
    refine mj_u2q ?_
    refine mj_u2q ?_
    refine mj_u2q ?_
    refine mj_u2q ?_
    refine mj_u2q ?_
    refine mj_u2q ?_
    refine mj_u2q ?_
    refine mj_u2q ?_
    refine mj_u2q ?_
    refine mj_u2q ?_
    refine mj_u2q ?_
    refine mj_u2q ?_
    refine mj_u2q ?_
    refine mj_u2q ?_
    refine mj_u2q ?_
    refine mj_u2q ?_
    refine mj_u2q ?_
    refine mj_u2q ?_
    refine mj_u2q ?_
    refine mj_u2q ?_
    refine mj_u2q ?_
    refine mj_u2q ?_
    refine mj_u2q ?_
    refine mj_u2q ?_
    refine mj_u2q ?_
    refine mj_u2q ?_
    refine mj_u2q ?_
    refine mj_u2q ?_
    refine mj_elq ?_
    exact ⟨rfl, rfl, rfl, rfl⟩
  · refine mj_erq ?_
    obtain ⟨w0, w1, w2, w3, w4, w5, w6, w7, w8, w9, w10, w11, w12, w13, w14, w15, w16, w17, w18, w19, w20, w21, w22, w23, w24, w25, w26, w27, w28, w29, w30⟩ := o
    refine mj_u2q ?_
    refine mj_u2q ?_
    refine mj_u2q ?_
    refine mj_u2q ?_
    refine mj_u2q ?_
    refine mj_u2q ?_
    refine mj_u2q ?_
    refine mj_u2q ?_
    refine mj_u2q ?_
    refine mj_u2q ?_
    refine mj_u2q ?_
    refine mj_u2q ?_
    refine mj_u2q ?_
    refine mj_u2q ?_
    refine mj_u2q ?_
    refine mj_u2q ?_
    refine mj_u2q ?_
    refine mj_u2q ?_
    refine mj_u2q ?_
    refine mj_u2q ?_
    refine mj_u2q ?_
    refine mj_u2q ?_
    refine mj_u2q ?_
    refine mj_u2q ?_
    refine mj_u2q ?_
    refine mj_u2q ?_
    refine mj_u2q ?_
    refine mj_u2q ?_
    refine mj_u2q ?_
    refine mj_u2q ?_
    refine mj_erq ?_
    exact ⟨rfl, rfl, rfl⟩

-- X10_within
def fnX10_within (F : Nat) (r1 : Nat → Int32) (r18 : Nat → Int32) (r19 : Nat → Int32) (r20 : Nat → Int32) (r21 : Nat → Int32) (r22 : Nat → Int32) (r23 : Nat → Int32) (r24 : Nat → Int32) (r25 : Nat → Int32) (r26 : Nat → Int32) (r32 : Nat → Int32) (r33 : Nat → Int32) (r34 : Nat → Int32) (r35 : Nat → Int32) (r36 : Nat → Int32) (r37 : Nat → Int32) (r38 : Nat → Int32) (r39 : Nat → Int32) (r40 : Nat → Int32) (r51 : Nat → Int32) (r52 : Nat → Int32) (r53 : Nat → Int32) (r54 : Nat → Int32) (r70 : Nat → Int32) (x1 : Int32) (x2 : Int32) : Option (((Int32) × (Nat → Int32) × (Nat → Int32) × (Nat → Int32) × (Nat → Int32) × (Nat → Int32) × (Nat → Int32) × (Nat → Int32) × (Nat → Int32) × (Nat → Int32) × (Nat → Int32) × (Nat → Int32) × (Nat → Int32) × (Nat → Int32) × (Nat → Int32)) ⊕ ((Nat) × (Nat → Int32) × (Nat → Int32) × (Nat → Int32) × (Nat → Int32) × (Nat → Int32) × (Nat → Int32) × (Nat → Int32) × (Nat → Int32) × (Nat → Int32) × (Nat → Int32) × (Nat → Int32) × (Nat → Int32) × (Nat → Int32) × (Nat → Int32))) := (fnX10_needStates F r1 r18 r19 r20 r21 r22 r23 r24 r25 r26 r32 r33 r34 r35 r36 r37 r38 r39 r40 r70).bind (Sum.elim (fun o1 => (fnX10_needNumber F o1.2.2.2.2.2.2.2.2.2 x1 (0 : Int32) (200 : Int32)).bind (Sum.elim (fun o2 => (fnX10_needForm F o2 x2).bind (Sum.elim (fun o3 => (fnX9_endedBy F o1.1 o1.2.1 o1.2.2.2.2.2.1 o1.2.2.2.2.2.2.1 o1.2.2.2.2.2.2.2.1 r51 r52 r53 r54 x1).bind (fun o4 => (fnX3_inForm F o4.1 x2).bind (fun o5 => some (.inl (o5, o1.1, o1.2.1, o1.2.2.1, o1.2.2.2.1, o1.2.2.2.2.1, o1.2.2.2.2.2.1, o1.2.2.2.2.2.2.1, o1.2.2.2.2.2.2.2.1, o1.2.2.2.2.2.2.2.2.1, o4.2.1, o4.2.2.1, o4.2.2.2.1, o4.2.2.2.2, o3))))) (fun eo3 => some (.inr (eo3.1, o1.1, o1.2.1, o1.2.2.1, o1.2.2.2.1, o1.2.2.2.2.1, o1.2.2.2.2.2.1, o1.2.2.2.2.2.2.1, o1.2.2.2.2.2.2.2.1, o1.2.2.2.2.2.2.2.2.1, r51, r52, r53, r54, eo3.2))))) (fun eo2 => some (.inr (eo2.1, o1.1, o1.2.1, o1.2.2.1, o1.2.2.2.1, o1.2.2.2.2.1, o1.2.2.2.2.2.1, o1.2.2.2.2.2.2.1, o1.2.2.2.2.2.2.2.1, o1.2.2.2.2.2.2.2.2.1, r51, r52, r53, r54, eo2.2))))) (fun eo1 => some (.inr (eo1.1, eo1.2.1, eo1.2.2.1, eo1.2.2.2.1, eo1.2.2.2.2.1, eo1.2.2.2.2.2.1, eo1.2.2.2.2.2.2.1, eo1.2.2.2.2.2.2.2.1, eo1.2.2.2.2.2.2.2.2.1, eo1.2.2.2.2.2.2.2.2.2.1, r51, r52, r53, r54, eo1.2.2.2.2.2.2.2.2.2.2))))
set_option maxRecDepth 100000 in
set_option maxHeartbeats 4000000 in
theorem mtX10_within {X : mj_XT} {l : Launch} {G : mj_GT} {ad0 : Nat → Nat} {Qn : Option Value → mj_PT → mj_IT → mj_LT → Prop} {Qx : String → mj_IT → mj_LT → Prop} (hR : mj_Rxv X l G mj_P0 mj_S0 98 ad0 3 18 Qn Qx) (hlt : l.stackTraces = false) (F : Nat) (I : mj_IT) (L : mj_LT) (r1 : Nat → Int32) (r18 : Nat → Int32) (r19 : Nat → Int32) (r20 : Nat → Int32) (r21 : Nat → Int32) (r22 : Nat → Int32) (r23 : Nat → Int32) (r24 : Nat → Int32) (r25 : Nat → Int32) (r26 : Nat → Int32) (r32 : Nat → Int32) (r33 : Nat → Int32) (r34 : Nat → Int32) (r35 : Nat → Int32) (r36 : Nat → Int32) (r37 : Nat → Int32) (r38 : Nat → Int32) (r39 : Nat → Int32) (r40 : Nat → Int32) (r51 : Nat → Int32) (r52 : Nat → Int32) (r53 : Nat → Int32) (r54 : Nat → Int32) (r70 : Nat → Int32) (x1 : Int32) (x2 : Int32) (o : (((Int32) × (Nat → Int32) × (Nat → Int32) × (Nat → Int32) × (Nat → Int32) × (Nat → Int32) × (Nat → Int32) × (Nat → Int32) × (Nat → Int32) × (Nat → Int32) × (Nat → Int32) × (Nat → Int32) × (Nat → Int32) × (Nat → Int32) × (Nat → Int32)) ⊕ ((Nat) × (Nat → Int32) × (Nat → Int32) × (Nat → Int32) × (Nat → Int32) × (Nat → Int32) × (Nat → Int32) × (Nat → Int32) × (Nat → Int32) × (Nat → Int32) × (Nat → Int32) × (Nat → Int32) × (Nat → Int32) × (Nat → Int32) × (Nat → Int32)))) (hf : fnX10_within F r1 r18 r19 r20 r21 r22 r23 r24 r25 r26 r32 r33 r34 r35 r36 r37 r38 r39 r40 r51 r52 r53 r54 r70 x1 x2 = some o) (hq : (Sum.elim (mj_u2 (fun ov => (mj_u2 (fun r32 => (mj_u2 (fun r33 => (mj_u2 (fun r34 => (mj_u2 (fun r35 => (mj_u2 (fun r36 => (mj_u2 (fun r37 => (mj_u2 (fun r38 => (mj_u2 (fun r39 => (mj_u2 (fun r40 => (mj_u2 (fun r51 => (mj_u2 (fun r52 => (mj_u2 (fun r53 => (mj_u2 (fun r54 r70 => Qn (some (.int ov)) mj_P0 (mj_rows I [(1, r1), (18, r18), (19, r19), (20, r20), (21, r21), (22, r22), (23, r23), (24, r24), (25, r25), (26, r26), (32, r32), (33, r33), (34, r34), (35, r35), (36, r36), (37, r37), (38, r38), (39, r39), (40, r40), (51, r51), (52, r52), (53, r53), (54, r54), (70, r70)]) L)))))))))))))))))))))))))))) (mj_u2 (fun kx => (mj_u2 (fun r32 => (mj_u2 (fun r33 => (mj_u2 (fun r34 => (mj_u2 (fun r35 => (mj_u2 (fun r36 => (mj_u2 (fun r37 => (mj_u2 (fun r38 => (mj_u2 (fun r39 => (mj_u2 (fun r40 => (mj_u2 (fun r51 => (mj_u2 (fun r52 => (mj_u2 (fun r53 => (mj_u2 (fun r54 r70 => Qx (mj_en kx) (mj_rows I [(1, r1), (18, r18), (19, r19), (20, r20), (21, r21), (22, r22), (23, r23), (24, r24), (25, r25), (26, r26), (32, r32), (33, r33), (34, r34), (35, r35), (36, r36), (37, r37), (38, r38), (39, r39), (40, r40), (51, r51), (52, r52), (53, r53), (54, r54), (70, r70)]) L))))))))))))))))))))))))))))) o) : mj_W X G RX10 "within" cX10_within 3 10 (some .int) mj_P0 mj_S0 98 ad0 0 0 0 [(0, .ref 1), (1, .int x1), (2, .int x2)] [] (mj_rows I [(1, r1), (18, r18), (19, r19), (20, r20), (21, r21), (22, r22), (23, r23), (24, r24), (25, r25), (26, r26), (32, r32), (33, r33), (34, r34), (35, r35), (36, r36), (37, r37), (38, r38), (39, r39), (40, r40), (51, r51), (52, r52), (53, r53), (54, r54), (70, r70)]) L := by
  have hag : mj_ag ad0 ad0 := mj_ag.rf
  unfold fnX10_within at hf
  refine mj_aload_n 0 dX10_within_0 rfl ?_
  obtain ⟨so1, ho1, hf⟩ := mj_bd hf
  refine mj_callVxv (st := []) [] hR (cmX10_needStates l G hlt F  _ _ r1 r18 r19 r20 r21 r22 r23 r24 r25 r26 r32 r33 r34 r35 r36 r37 r38 r39 r40 r70 rfl rfl rfl rfl rfl rfl rfl rfl rfl rfl rfl rfl rfl rfl rfl rfl rfl rfl rfl rfl so1 ho1) cw_X10_175 s0_1 a0_1 (by decide) rfl rfl (Nat.le_of_ble_eq_true rfl) ⟨by decide, by decide⟩ dX10_within_1 (fun E I2 L2 hx => ?_) (fun rv I2 L2 hx => ?_)
  · obtain ⟨eo1, hf, hx⟩ := mj_sxr hf hx
    obtain rfl := Option.some.inj hf
    obtain ⟨hE9, hI9, hL9⟩ := hx
    rw [hE9, hI9, hL9]
    have hZ := mj_er hq
    replace hZ := mj_u2p hZ
    replace hZ := mj_u2p hZ
    replace hZ := mj_u2p hZ
    replace hZ := mj_u2p hZ
    replace hZ := mj_u2p hZ
    replace hZ := mj_u2p hZ
    replace hZ := mj_u2p hZ
    replace hZ := mj_u2p hZ
    replace hZ := mj_u2p hZ
    replace hZ := mj_u2p hZ
    replace hZ := mj_u2p hZ
    replace hZ := mj_u2p hZ
    replace hZ := mj_u2p hZ
    replace hZ := mj_u2p hZ
    rw [mj_rq (l' := [(1, r1), (18, r18), (19, r19), (20, r20), (21, r21), (22, r22), (23, r23), (24, r24), (25, r25), (26, r26), (32, eo1.2.1), (33, eo1.2.2.1), (34, eo1.2.2.2.1), (35, eo1.2.2.2.2.1), (36, eo1.2.2.2.2.2.1), (37, eo1.2.2.2.2.2.2.1), (38, eo1.2.2.2.2.2.2.2.1), (39, eo1.2.2.2.2.2.2.2.2.1), (40, eo1.2.2.2.2.2.2.2.2.2.1), (51, r51), (52, r52), (53, r53), (54, r54), (70, eo1.2.2.2.2.2.2.2.2.2.2)]) rfl rfl]
    exact hZ
  · obtain ⟨o1, hf, hx⟩ := mj_sxl hf hx
    obtain ⟨hr9, hI9, hL9⟩ := hx
    refine mj_cnv (s1 := []) (I2 := (mj_rows I [(1, r1), (18, r18), (19, r19), (20, r20), (21, r21), (22, r22), (23, r23), (24, r24), (25, r25), (26, r26), (32, o1.1), (33, o1.2.1), (34, o1.2.2.1), (35, o1.2.2.2.1), (36, o1.2.2.2.2.1), (37, o1.2.2.2.2.2.1), (38, o1.2.2.2.2.2.2.1), (39, o1.2.2.2.2.2.2.2.1), (40, o1.2.2.2.2.2.2.2.2.1), (51, r51), (52, r52), (53, r53), (54, r54), (70, o1.2.2.2.2.2.2.2.2.2)])) (L2 := L) (by rw [hr9]; rfl) (hI9.trans (mj_rq rfl rfl)) hL9 ?_
    refine mj_aload_n 0 dX10_within_4 rfl ?_
    refine mj_iload_n 1 dX10_within_5 rfl ?_
    refine mj_iconst dX10_within_6 kc_iconst_0 ?_
    refine mj_sipush dX10_within_7 kc_sipush_200 ?_
    obtain ⟨so2, ho2, hf⟩ := mj_bd hf
    refine mj_callVxv (st := []) [.int x1, .int (0 : Int32), .int (200 : Int32)] hR (cmX10_needNumber l G hlt F x1 (0 : Int32) (200 : Int32) _ _ o1.2.2.2.2.2.2.2.2.2 rfl so2 ho2) cw_X10_80 s0_1 a0_1 (by decide) rfl rfl (Nat.le_of_ble_eq_true rfl) ⟨by decide, by decide⟩ dX10_within_10 (fun E I2 L2 hx => ?_) (fun rv I2 L2 hx => ?_)
    · obtain ⟨eo2, hf, hx⟩ := mj_sxr hf hx
      obtain rfl := Option.some.inj hf
      obtain ⟨hE9, hI9, hL9⟩ := hx
      rw [hE9, hI9, hL9]
      have hZ := mj_er hq
      replace hZ := mj_u2p hZ
      replace hZ := mj_u2p hZ
      replace hZ := mj_u2p hZ
      replace hZ := mj_u2p hZ
      replace hZ := mj_u2p hZ
      replace hZ := mj_u2p hZ
      replace hZ := mj_u2p hZ
      replace hZ := mj_u2p hZ
      replace hZ := mj_u2p hZ
      replace hZ := mj_u2p hZ
      replace hZ := mj_u2p hZ
      replace hZ := mj_u2p hZ
      replace hZ := mj_u2p hZ
      replace hZ := mj_u2p hZ
      rw [mj_rq (l' := [(1, r1), (18, r18), (19, r19), (20, r20), (21, r21), (22, r22), (23, r23), (24, r24), (25, r25), (26, r26), (32, o1.1), (33, o1.2.1), (34, o1.2.2.1), (35, o1.2.2.2.1), (36, o1.2.2.2.2.1), (37, o1.2.2.2.2.2.1), (38, o1.2.2.2.2.2.2.1), (39, o1.2.2.2.2.2.2.2.1), (40, o1.2.2.2.2.2.2.2.2.1), (51, r51), (52, r52), (53, r53), (54, r54), (70, eo2.2)]) rfl rfl]
      exact hZ
    · obtain ⟨o2, hf, hx⟩ := mj_sxl hf hx
      obtain ⟨hr9, hI9, hL9⟩ := hx
      refine mj_cnv (s1 := []) (I2 := (mj_rows I [(1, r1), (18, r18), (19, r19), (20, r20), (21, r21), (22, r22), (23, r23), (24, r24), (25, r25), (26, r26), (32, o1.1), (33, o1.2.1), (34, o1.2.2.1), (35, o1.2.2.2.1), (36, o1.2.2.2.2.1), (37, o1.2.2.2.2.2.1), (38, o1.2.2.2.2.2.2.1), (39, o1.2.2.2.2.2.2.2.1), (40, o1.2.2.2.2.2.2.2.2.1), (51, r51), (52, r52), (53, r53), (54, r54), (70, o2)])) (L2 := L) (by rw [hr9]; rfl) (hI9.trans (mj_rq rfl rfl)) hL9 ?_
      refine mj_aload_n 0 dX10_within_13 rfl ?_
      refine mj_iload_n 2 dX10_within_14 rfl ?_
      obtain ⟨so3, ho3, hf⟩ := mj_bd hf
      refine mj_callVxv (st := []) [.int x2] hR (cmX10_needForm l G hlt F x2 _ _ o2 rfl so3 ho3) cw_X10_209 s0_1 a0_1 (by decide) rfl rfl (Nat.le_of_ble_eq_true rfl) ⟨by decide, by decide⟩ dX10_within_15 (fun E I2 L2 hx => ?_) (fun rv I2 L2 hx => ?_)
      · obtain ⟨eo3, hf, hx⟩ := mj_sxr hf hx
        obtain rfl := Option.some.inj hf
        obtain ⟨hE9, hI9, hL9⟩ := hx
        rw [hE9, hI9, hL9]
        have hZ := mj_er hq
        replace hZ := mj_u2p hZ
        replace hZ := mj_u2p hZ
        replace hZ := mj_u2p hZ
        replace hZ := mj_u2p hZ
        replace hZ := mj_u2p hZ
        replace hZ := mj_u2p hZ
        replace hZ := mj_u2p hZ
        replace hZ := mj_u2p hZ
        replace hZ := mj_u2p hZ
        replace hZ := mj_u2p hZ
        replace hZ := mj_u2p hZ
        replace hZ := mj_u2p hZ
        replace hZ := mj_u2p hZ
        replace hZ := mj_u2p hZ
        rw [mj_rq (l' := [(1, r1), (18, r18), (19, r19), (20, r20), (21, r21), (22, r22), (23, r23), (24, r24), (25, r25), (26, r26), (32, o1.1), (33, o1.2.1), (34, o1.2.2.1), (35, o1.2.2.2.1), (36, o1.2.2.2.2.1), (37, o1.2.2.2.2.2.1), (38, o1.2.2.2.2.2.2.1), (39, o1.2.2.2.2.2.2.2.1), (40, o1.2.2.2.2.2.2.2.2.1), (51, r51), (52, r52), (53, r53), (54, r54), (70, eo3.2)]) rfl rfl]
        exact hZ
      · obtain ⟨o3, hf, hx⟩ := mj_sxl hf hx
        obtain ⟨hr9, hI9, hL9⟩ := hx
        refine mj_cnv (s1 := []) (I2 := (mj_rows I [(1, r1), (18, r18), (19, r19), (20, r20), (21, r21), (22, r22), (23, r23), (24, r24), (25, r25), (26, r26), (32, o1.1), (33, o1.2.1), (34, o1.2.2.1), (35, o1.2.2.2.1), (36, o1.2.2.2.2.1), (37, o1.2.2.2.2.2.1), (38, o1.2.2.2.2.2.2.1), (39, o1.2.2.2.2.2.2.2.1), (40, o1.2.2.2.2.2.2.2.2.1), (51, r51), (52, r52), (53, r53), (54, r54), (70, o3)])) (L2 := L) (by rw [hr9]; rfl) (hI9.trans (mj_rq rfl rfl)) hL9 ?_
        refine mj_aload_n 0 dX10_within_18 rfl ?_
        refine mj_getP p0_1_7 (by decide) fl_X10_51 rfl s0_1 a0_1 dX10_within_19 ?_
        refine mj_aload_n 0 dX10_within_22 rfl ?_
        refine mj_getP p0_1_5 (by decide) fl_X10_37 rfl s0_1 a0_1 dX10_within_23 ?_
        refine mj_iload_n 1 dX10_within_26 rfl ?_
        obtain ⟨o4, ho4, hf⟩ := mj_bd hf
        refine mj_callVv (st := []) [.ref 32, .int x1] (cmX9_endedBy X.2.1 G F x1 _ _ o1.1 o1.2.1 o1.2.2.2.2.2.1 o1.2.2.2.2.2.2.1 o1.2.2.2.2.2.2.2.1 r51 r52 r53 r54 rfl rfl rfl rfl rfl rfl rfl rfl rfl o4 ho4) cw_X10_257 s0_51 a0_51 (by decide) rfl rfl (Nat.le_of_ble_eq_true rfl) (mj_rxvc hR ⟨by decide, by decide⟩) dX10_within_27 rfl rfl (fun rv P2 I2 L2 ad hag2 hx => ?_)
        obtain ⟨hr9, hP9, hI9, hL9⟩ := hx
        replace hag := mj_ag.tr hag hag2
        rw [hP9]
        refine mj_cnv (s1 := [.int o4.1]) (I2 := (mj_rows I [(1, r1), (18, r18), (19, r19), (20, r20), (21, r21), (22, r22), (23, r23), (24, r24), (25, r25), (26, r26), (32, o1.1), (33, o1.2.1), (34, o1.2.2.1), (35, o1.2.2.2.1), (36, o1.2.2.2.2.1), (37, o1.2.2.2.2.2.1), (38, o1.2.2.2.2.2.2.1), (39, o1.2.2.2.2.2.2.2.1), (40, o1.2.2.2.2.2.2.2.2.1), (51, o4.2.1), (52, o4.2.2.1), (53, o4.2.2.2.1), (54, o4.2.2.2.2), (70, o3)])) (L2 := L) (by rw [hr9]; rfl) (hI9.trans (mj_rq rfl rfl)) hL9 ?_
        refine mj_iload_n 2 dX10_within_30 rfl ?_
        obtain ⟨o5, ho5, hf⟩ := mj_bd hf
        refine mj_callSd (I2 := (mj_rows I [(1, r1), (18, r18), (19, r19), (20, r20), (21, r21), (22, r22), (23, r23), (24, r24), (25, r25), (26, r26), (32, o1.1), (33, o1.2.1), (34, o1.2.2.1), (35, o1.2.2.2.1), (36, o1.2.2.2.2.1), (37, o1.2.2.2.2.2.1), (38, o1.2.2.2.2.2.2.1), (39, o1.2.2.2.2.2.2.2.1), (40, o1.2.2.2.2.2.2.2.2.1), (51, o4.2.1), (52, o4.2.2.1), (53, o4.2.2.2.1), (54, o4.2.2.2.2), (70, o3)])) (L2 := L) (s1 := [.int o5]) (st := []) [.int o4.1, .int x2] (cmX3_inForm X.2.1 G F o4.1 x2 _ _   o5 ho5) rfl rfl cw_X10_219 (by decide) rfl rfl (Nat.le_of_ble_eq_true rfl) (mj_rxvc hR ⟨by decide, by decide⟩) dX10_within_31 rfl ?_
        obtain rfl := Option.some.inj hf
        have hZ := mj_el hq
        replace hZ := mj_u2p hZ
        replace hZ := mj_u2p hZ
        replace hZ := mj_u2p hZ
        replace hZ := mj_u2p hZ
        replace hZ := mj_u2p hZ
        replace hZ := mj_u2p hZ
        replace hZ := mj_u2p hZ
        replace hZ := mj_u2p hZ
        replace hZ := mj_u2p hZ
        replace hZ := mj_u2p hZ
        replace hZ := mj_u2p hZ
        replace hZ := mj_u2p hZ
        replace hZ := mj_u2p hZ
        replace hZ := mj_u2p hZ
        exact mj_iretxv hR hag ⟨by decide, by decide⟩ rfl rfl dX10_within_34 hZ
set_option maxRecDepth 100000 in
set_option maxHeartbeats 4000000 in
theorem cmX10_within (l : Launch) (G : mj_GT) (hlt : l.stackTraces = false) (F : Nat) (x1 : Int32) (x2 : Int32) (I : mj_IT) (L : mj_LT) (r1 : Nat → Int32) (r18 : Nat → Int32) (r19 : Nat → Int32) (r20 : Nat → Int32) (r21 : Nat → Int32) (r22 : Nat → Int32) (r23 : Nat → Int32) (r24 : Nat → Int32) (r25 : Nat → Int32) (r26 : Nat → Int32) (r32 : Nat → Int32) (r33 : Nat → Int32) (r34 : Nat → Int32) (r35 : Nat → Int32) (r36 : Nat → Int32) (r37 : Nat → Int32) (r38 : Nat → Int32) (r39 : Nat → Int32) (r40 : Nat → Int32) (r51 : Nat → Int32) (r52 : Nat → Int32) (r53 : Nat → Int32) (r54 : Nat → Int32) (r70 : Nat → Int32) (hr1 : I 1 = r1) (hr18 : I 18 = r18) (hr19 : I 19 = r19) (hr20 : I 20 = r20) (hr21 : I 21 = r21) (hr22 : I 22 = r22) (hr23 : I 23 = r23) (hr24 : I 24 = r24) (hr25 : I 25 = r25) (hr26 : I 26 = r26) (hr32 : I 32 = r32) (hr33 : I 33 = r33) (hr34 : I 34 = r34) (hr35 : I 35 = r35) (hr36 : I 36 = r36) (hr37 : I 37 = r37) (hr38 : I 38 = r38) (hr39 : I 39 = r39) (hr40 : I 40 = r40) (hr51 : I 51 = r51) (hr52 : I 52 = r52) (hr53 : I 53 = r53) (hr54 : I 54 = r54) (hr70 : I 70 = r70) (o : (((Int32) × (Nat → Int32) × (Nat → Int32) × (Nat → Int32) × (Nat → Int32) × (Nat → Int32) × (Nat → Int32) × (Nat → Int32) × (Nat → Int32) × (Nat → Int32) × (Nat → Int32) × (Nat → Int32) × (Nat → Int32) × (Nat → Int32) × (Nat → Int32)) ⊕ ((Nat) × (Nat → Int32) × (Nat → Int32) × (Nat → Int32) × (Nat → Int32) × (Nat → Int32) × (Nat → Int32) × (Nat → Int32) × (Nat → Int32) × (Nat → Int32) × (Nat → Int32) × (Nat → Int32) × (Nat → Int32) × (Nat → Int32) × (Nat → Int32)))) (hf : fnX10_within F r1 r18 r19 r20 r21 r22 r23 r24 r25 r26 r32 r33 r34 r35 r36 r37 r38 r39 r40 r51 r52 r53 r54 r70 x1 x2 = some o) : mj_Mxv l G yX10_within cX10_within 3 10 (some .int) 3 18 mj_P0 mj_S0 98 [.ref 1, .int x1, .int x2] I L (fun rv P2 I2 L2 => Sum.elim (fun o => rv = (some (.int o.1)) ∧ P2 = mj_P0 ∧ I2 = (mj_rows I [(1, r1), (18, r18), (19, r19), (20, r20), (21, r21), (22, r22), (23, r23), (24, r24), (25, r25), (26, r26), (32, o.2.1), (33, o.2.2.1), (34, o.2.2.2.1), (35, o.2.2.2.2.1), (36, o.2.2.2.2.2.1), (37, o.2.2.2.2.2.2.1), (38, o.2.2.2.2.2.2.2.1), (39, o.2.2.2.2.2.2.2.2.1), (40, o.2.2.2.2.2.2.2.2.2.1), (51, o.2.2.2.2.2.2.2.2.2.2.1), (52, o.2.2.2.2.2.2.2.2.2.2.2.1), (53, o.2.2.2.2.2.2.2.2.2.2.2.2.1), (54, o.2.2.2.2.2.2.2.2.2.2.2.2.2.1), (70, o.2.2.2.2.2.2.2.2.2.2.2.2.2.2)]) ∧ L2 = L) (fun _ => False) o) (fun E I2 L2 => Sum.elim (fun _ => False) (fun o => E = mj_en o.1 ∧ I2 = (mj_rows I [(1, r1), (18, r18), (19, r19), (20, r20), (21, r21), (22, r22), (23, r23), (24, r24), (25, r25), (26, r26), (32, o.2.1), (33, o.2.2.1), (34, o.2.2.2.1), (35, o.2.2.2.2.1), (36, o.2.2.2.2.2.1), (37, o.2.2.2.2.2.2.1), (38, o.2.2.2.2.2.2.2.1), (39, o.2.2.2.2.2.2.2.2.1), (40, o.2.2.2.2.2.2.2.2.2.1), (51, o.2.2.2.2.2.2.2.2.2.2.1), (52, o.2.2.2.2.2.2.2.2.2.2.2.1), (53, o.2.2.2.2.2.2.2.2.2.2.2.2.1), (54, o.2.2.2.2.2.2.2.2.2.2.2.2.2.1), (70, o.2.2.2.2.2.2.2.2.2.2.2.2.2.2)]) ∧ L2 = L) o) := by
  refine mj_inxv RX10 "within" [(0, .ref 1), (1, .int x1), (2, .int x2)] rfl rfl rfl (by decide) (Nat.le_of_ble_eq_true rfl) (fun X ad hR => ?_)
  refine mj_toI [(1, r1), (18, r18), (19, r19), (20, r20), (21, r21), (22, r22), (23, r23), (24, r24), (25, r25), (26, r26), (32, r32), (33, r33), (34, r34), (35, r35), (36, r36), (37, r37), (38, r38), (39, r39), (40, r40), (51, r51), (52, r52), (53, r53), (54, r54), (70, r70)] (by intro q hq; simp only [List.mem_cons, List.not_mem_nil, or_false] at hq; rcases hq with rfl | rfl | rfl | rfl | rfl | rfl | rfl | rfl | rfl | rfl | rfl | rfl | rfl | rfl | rfl | rfl | rfl | rfl | rfl | rfl | rfl | rfl | rfl | rfl <;> assumption) ?_
  refine mtX10_within hR hlt F I L r1 r18 r19 r20 r21 r22 r23 r24 r25 r26 r32 r33 r34 r35 r36 r37 r38 r39 r40 r51 r52 r53 r54 r70 x1 x2 o hf ?_
  rcases o with o | o
  · refine mj_elq ?_
    obtain ⟨w0, w1, w2, w3, w4, w5, w6, w7, w8, w9, w10, w11, w12, w13, w14⟩ := o
    refine mj_u2q ?_
    refine mj_u2q ?_
    refine mj_u2q ?_
    refine mj_u2q ?_
    refine mj_u2q ?_
    refine mj_u2q ?_
    refine mj_u2q ?_
    refine mj_u2q ?_
    refine mj_u2q ?_
    refine mj_u2q ?_
    refine mj_u2q ?_
    refine mj_u2q ?_
    refine mj_u2q ?_
    refine mj_u2q ?_
    refine mj_elq ?_
    exact ⟨rfl, rfl, rfl, rfl⟩
  · refine mj_erq ?_
    obtain ⟨w0, w1, w2, w3, w4, w5, w6, w7, w8, w9, w10, w11, w12, w13, w14⟩ := o
    refine mj_u2q ?_
    refine mj_u2q ?_
    refine mj_u2q ?_
    refine mj_u2q ?_
    refine mj_u2q ?_
    refine mj_u2q ?_
    refine mj_u2q ?_
    refine mj_u2q ?_
    refine mj_u2q ?_
    refine mj_u2q ?_
    refine mj_u2q ?_
    refine mj_u2q ?_
    refine mj_u2q ?_
    refine mj_u2q ?_
    refine mj_erq ?_
    exact ⟨rfl, rfl, rfl⟩

