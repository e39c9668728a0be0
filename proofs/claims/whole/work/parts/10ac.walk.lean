-- J7_fill_53178_48
def bdJ7_fill_53178_48_5 (F : Nat) (x1 : Int32) (x3 : Int32) (x2 : Int32) (r48 : Nat → Int32) : Option (((Int32) × (Nat → Int32)) ⊕ ((Nat → Int32))) := (if x3 ≤ x2 then some (.inr r48) else (if mj_ib x2 10 = true then some (.inl ((x2 + (1)), (upd r48 x2.toNatClampNeg x1))) else none))
def fnJ7_fill_53178_48 (F : Nat) (r48 : Nat → Int32) (x1 : Int32) : Option ((Nat → Int32)) := (mj_it (mj_u2 (fun z0 z1 => bdJ7_fill_53178_48_5 F x1 (10 : Int32) z0 z1)) F ((0 : Int32), r48)).bind (fun r48_3 => some r48_3)
set_option maxRecDepth 100000 in
set_option maxHeartbeats 4000000 in
theorem lpJ7_fill_53178_48_5 {X : mj_XT} {l : Launch} {G : mj_GT} {ad : Nat → Nat} {Qn : Option Value → mj_IT → mj_LT → Prop} (hR : mj_R X l G mj_P0 mj_S0 98 ad 0 0 Qn) (F : Nat) (I : mj_IT) (L : mj_LT) (r48 : Nat → Int32) (x1 : Int32) (x3 : Int32) : ∀ (n : Nat) (s : ((Int32) × (Nat → Int32))) (e : ((Nat → Int32))), mj_it (mj_u2 (fun z0 z1 => bdJ7_fill_53178_48_5 F x1 x3 z0 z1)) n s = some e → (fun r48 => mj_W X G RJ7 "fill" cJ7_fill_53178 4 1 none mj_P0 mj_S0 98 ad 0 0 20 [] [] (mj_rows I [(48, r48)]) L) e → (mj_u2 (fun x2 r48 => mj_W X G RJ7 "fill" cJ7_fill_53178 4 1 none mj_P0 mj_S0 98 ad 0 0 5 [(0, .ref 48), (1, .int x1), (2, .int x2), (3, .int x3)] [] (mj_rows I [(48, r48)]) L)) s := by
  refine mj_loop (fun s o hf hc hx => ?_)
  obtain ⟨x2, r48⟩ := s
  replace hf := mj_u2e hf
  refine mj_u2q ?_
  unfold bdJ7_fill_53178_48_5 at hf
  refine mj_iload_n 2 dJ7_fill_53178_5 rfl ?_
  refine mj_iload_n 3 dJ7_fill_53178_6 rfl ?_
  refine mj_icmp_ge 20 dJ7_fill_53178_7 (by decide) (fun c1 => ?_) (fun c1 => ?_)
  · replace hf := mj_pos c1 hf
    refine mj_sub [] [] rfl ?_
    obtain rfl := Option.some.inj hf
    have hZ := hx r48 rfl
    exact hZ
  · replace hf := mj_neg c1 hf
    refine mj_aload_n 0 dJ7_fill_53178_10 rfl ?_
    refine mj_iload_n 2 dJ7_fill_53178_11 rfl ?_
    refine mj_iload_n 1 dJ7_fill_53178_12 rfl ?_
    obtain ⟨z2, hf⟩ := mj_ck hf
    refine mj_iastr [(48, (upd r48 x2.toNatClampNeg x1))] rfl s0_48 a0_48 z2 dJ7_fill_53178_13 ?_
    refine mj_iinc 2 [(2, .int (x2 + (1))), (0, .ref 48), (1, .int x1), (3, .int x3)] dJ7_fill_53178_14 rfl (kz_1 _) (by decide) rfl ?_
    refine mj_goto 5 dJ7_fill_53178_17 (by decide) ?_
    refine mj_sub [1, 2, 0, 3] [(0, .ref 48), (1, .int x1), (2, .int (x2 + (1))), (3, .int x3)] rfl ?_
    obtain rfl := Option.some.inj hf
    have hZ := hc ((x2 + (1)), (upd r48 x2.toNatClampNeg x1)) rfl
    replace hZ := mj_u2p hZ
    exact hZ
set_option maxRecDepth 100000 in
set_option maxHeartbeats 4000000 in
theorem mtJ7_fill_53178_48 {X : mj_XT} {l : Launch} {G : mj_GT} {ad : Nat → Nat} {Qn : Option Value → mj_IT → mj_LT → Prop} (hR : mj_R X l G mj_P0 mj_S0 98 ad 0 0 Qn) (F : Nat) (I : mj_IT) (L : mj_LT) (r48 : Nat → Int32) (x1 : Int32) (o : ((Nat → Int32))) (hf : fnJ7_fill_53178_48 F r48 x1 = some o) (hq : (fun r48 => Qn none (mj_rows I [(48, r48)]) L) o) : mj_W X G RJ7 "fill" cJ7_fill_53178 4 1 none mj_P0 mj_S0 98 ad 0 0 0 [(0, .ref 48), (1, .int x1)] [] (mj_rows I [(48, r48)]) L := by
  unfold fnJ7_fill_53178_48 at hf
  refine mj_iconst dJ7_fill_53178_0 kc_iconst_0 ?_
  refine mj_istore_n [(2, .int (0 : Int32)), (0, .ref 48), (1, .int x1)] dJ7_fill_53178_1 rfl (by decide) rfl ?_
  refine mj_aload_n 1 dJ7_fill_53178_2 rfl ?_
  refine mj_alen (v := 10) s0_48 (by decide) a0_48 (by decide +kernel) dJ7_fill_53178_3 ?_
  refine mj_istore_n [(3, .int (10 : Int32)), (2, .int (0 : Int32)), (0, .ref 48), (1, .int x1)] dJ7_fill_53178_4 rfl (by decide) rfl ?_
  refine mj_sub [2, 3, 1, 0] [(0, .ref 48), (1, .int x1), (2, .int (0 : Int32)), (3, .int (10 : Int32))] rfl ?_
  obtain ⟨r48_3, ho3, hf⟩ := mj_bd hf
  refine lpJ7_fill_53178_48_5 hR F I L r48 x1 (10 : Int32) F ((0 : Int32), r48) r48_3 ho3 ?_
  refine ?_
  obtain rfl := Option.some.inj hf
  have hZ := hq
  exact mj_vret hR ⟨Nat.le_refl _, Nat.le_refl _⟩ rfl dJ7_fill_53178_20 hZ
set_option maxRecDepth 100000 in
set_option maxHeartbeats 4000000 in
theorem cmJ7_fill_53178_48 (l : Launch) (G : mj_GT) (F : Nat) (x1 : Int32) (I : mj_IT) (L : mj_LT) (r48 : Nat → Int32) (hr48 : I 48 = r48) (o : ((Nat → Int32))) (hf : fnJ7_fill_53178_48 F r48 x1 = some o) : mj_M l G yJ7_fill_53178 cJ7_fill_53178 4 1 none 0 0 mj_P0 mj_S0 98 [.ref 48, .int x1] I L (mj_qd none (mj_rows I [(48, o)]) L) := by
  refine mj_in RJ7 "fill" [(0, .ref 48), (1, .int x1)] rfl rfl rfl (by decide) (Nat.le_of_ble_eq_true rfl) (fun X ad hR => ?_)
  refine mj_toI [(48, r48)] (by intro q hq; simp only [List.mem_cons, List.not_mem_nil, or_false] at hq; rcases hq with rfl <;> assumption) ?_
  refine mtJ7_fill_53178_48 hR F I L r48 x1 o hf ?_
  exact ⟨rfl, rfl, rfl⟩

-- J7_fill_53178_49
def bdJ7_fill_53178_49_5 (F : Nat) (x1 : Int32) (x3 : Int32) (x2 : Int32) (r49 : Nat → Int32) : Option (((Int32) × (Nat → Int32)) ⊕ ((Nat → Int32))) := (if x3 ≤ x2 then some (.inr r49) else (if mj_ib x2 10 = true then some (.inl ((x2 + (1)), (upd r49 x2.toNatClampNeg x1))) else none))
def fnJ7_fill_53178_49 (F : Nat) (r49 : Nat → Int32) (x1 : Int32) : Option ((Nat → Int32)) := (mj_it (mj_u2 (fun z0 z1 => bdJ7_fill_53178_49_5 F x1 (10 : Int32) z0 z1)) F ((0 : Int32), r49)).bind (fun r49_3 => some r49_3)
set_option maxRecDepth 100000 in
set_option maxHeartbeats 4000000 in
theorem lpJ7_fill_53178_49_5 {X : mj_XT} {l : Launch} {G : mj_GT} {ad : Nat → Nat} {Qn : Option Value → mj_IT → mj_LT → Prop} (hR : mj_R X l G mj_P0 mj_S0 98 ad 0 0 Qn) (F : Nat) (I : mj_IT) (L : mj_LT) (r49 : Nat → Int32) (x1 : Int32) (x3 : Int32) : ∀ (n : Nat) (s : ((Int32) × (Nat → Int32))) (e : ((Nat → Int32))), mj_it (mj_u2 (fun z0 z1 => bdJ7_fill_53178_49_5 F x1 x3 z0 z1)) n s = some e → (fun r49 => mj_W X G RJ7 "fill" cJ7_fill_53178 4 1 none mj_P0 mj_S0 98 ad 0 0 20 [] [] (mj_rows I [(49, r49)]) L) e → (mj_u2 (fun x2 r49 => mj_W X G RJ7 "fill" cJ7_fill_53178 4 1 none mj_P0 mj_S0 98 ad 0 0 5 [(0, .ref 49), (1, .int x1), (2, .int x2), (3, .int x3)] [] (mj_rows I [(49, r49)]) L)) s := by
  refine mj_loop (fun s o hf hc hx => ?_)
  obtain ⟨x2, r49⟩ := s
  replace hf := mj_u2e hf
  refine mj_u2q ?_
  unfold bdJ7_fill_53178_49_5 at hf
  refine mj_iload_n 2 dJ7_fill_53178_5 rfl ?_
  refine mj_iload_n 3 dJ7_fill_53178_6 rfl ?_
  refine mj_icmp_ge 20 dJ7_fill_53178_7 (by decide) (fun c1 => ?_) (fun c1 => ?_)
  · replace hf := mj_pos c1 hf
    refine mj_sub [] [] rfl ?_
    obtain rfl := Option.some.inj hf
    have hZ := hx r49 rfl
    exact hZ
  · replace hf := mj_neg c1 hf
    refine mj_aload_n 0 dJ7_fill_53178_10 rfl ?_
    refine mj_iload_n 2 dJ7_fill_53178_11 rfl ?_
    refine mj_iload_n 1 dJ7_fill_53178_12 rfl ?_
    obtain ⟨z2, hf⟩ := mj_ck hf
    refine mj_iastr [(49, (upd r49 x2.toNatClampNeg x1))] rfl s0_49 a0_49 z2 dJ7_fill_53178_13 ?_
    refine mj_iinc 2 [(2, .int (x2 + (1))), (0, .ref 49), (1, .int x1), (3, .int x3)] dJ7_fill_53178_14 rfl (kz_1 _) (by decide) rfl ?_
    refine mj_goto 5 dJ7_fill_53178_17 (by decide) ?_
    refine mj_sub [1, 2, 0, 3] [(0, .ref 49), (1, .int x1), (2, .int (x2 + (1))), (3, .int x3)] rfl ?_
    obtain rfl := Option.some.inj hf
    have hZ := hc ((x2 + (1)), (upd r49 x2.toNatClampNeg x1)) rfl
    replace hZ := mj_u2p hZ
    exact hZ
set_option maxRecDepth 100000 in
set_option maxHeartbeats 4000000 in
theorem mtJ7_fill_53178_49 {X : mj_XT} {l : Launch} {G : mj_GT} {ad : Nat → Nat} {Qn : Option Value → mj_IT → mj_LT → Prop} (hR : mj_R X l G mj_P0 mj_S0 98 ad 0 0 Qn) (F : Nat) (I : mj_IT) (L : mj_LT) (r49 : Nat → Int32) (x1 : Int32) (o : ((Nat → Int32))) (hf : fnJ7_fill_53178_49 F r49 x1 = some o) (hq : (fun r49 => Qn none (mj_rows I [(49, r49)]) L) o) : mj_W X G RJ7 "fill" cJ7_fill_53178 4 1 none mj_P0 mj_S0 98 ad 0 0 0 [(0, .ref 49), (1, .int x1)] [] (mj_rows I [(49, r49)]) L := by
  unfold fnJ7_fill_53178_49 at hf
  refine mj_iconst dJ7_fill_53178_0 kc_iconst_0 ?_
  refine mj_istore_n [(2, .int (0 : Int32)), (0, .ref 49), (1, .int x1)] dJ7_fill_53178_1 rfl (by decide) rfl ?_
  refine mj_aload_n 1 dJ7_fill_53178_2 rfl ?_
  refine mj_alen (v := 10) s0_49 (by decide) a0_49 (by decide +kernel) dJ7_fill_53178_3 ?_
  refine mj_istore_n [(3, .int (10 : Int32)), (2, .int (0 : Int32)), (0, .ref 49), (1, .int x1)] dJ7_fill_53178_4 rfl (by decide) rfl ?_
  refine mj_sub [2, 3, 1, 0] [(0, .ref 49), (1, .int x1), (2, .int (0 : Int32)), (3, .int (10 : Int32))] rfl ?_
  obtain ⟨r49_3, ho3, hf⟩ := mj_bd hf
  refine lpJ7_fill_53178_49_5 hR F I L r49 x1 (10 : Int32) F ((0 : Int32), r49) r49_3 ho3 ?_
  refine ?_
  obtain rfl := Option.some.inj hf
  have hZ := hq
  exact mj_vret hR ⟨Nat.le_refl _, Nat.le_refl _⟩ rfl dJ7_fill_53178_20 hZ
set_option maxRecDepth 100000 in
set_option maxHeartbeats 4000000 in
theorem cmJ7_fill_53178_49 (l : Launch) (G : mj_GT) (F : Nat) (x1 : Int32) (I : mj_IT) (L : mj_LT) (r49 : Nat → Int32) (hr49 : I 49 = r49) (o : ((Nat → Int32))) (hf : fnJ7_fill_53178_49 F r49 x1 = some o) : mj_M l G yJ7_fill_53178 cJ7_fill_53178 4 1 none 0 0 mj_P0 mj_S0 98 [.ref 49, .int x1] I L (mj_qd none (mj_rows I [(49, o)]) L) := by
  refine mj_in RJ7 "fill" [(0, .ref 49), (1, .int x1)] rfl rfl rfl (by decide) (Nat.le_of_ble_eq_true rfl) (fun X ad hR => ?_)
  refine mj_toI [(49, r49)] (by intro q hq; simp only [List.mem_cons, List.not_mem_nil, or_false] at hq; rcases hq with rfl <;> assumption) ?_
  refine mtJ7_fill_53178_49 hR F I L r49 x1 o hf ?_
  exact ⟨rfl, rfl, rfl⟩

-- X2_areIndependent
def bdX2_areIndependent_27 (F : Nat) (r32 : Nat → Int32) (r33 : Nat → Int32) (r34 : Nat → Int32) (r42 : Nat → Int32) (x2 : Int32) (x3 : Int32) (x4 : Int32) (r47 : Nat → Int32) (r48 : Nat → Int32) (r49 : Nat → Int32) : Option (((Int32) × (Nat → Int32) × (Nat → Int32) × (Nat → Int32)) ⊕ ((Nat → Int32) × (Nat → Int32) × (Nat → Int32))) := (if (r32 2) ≤ x4 then some (.inr (r47, r48, r49)) else (fnX4_isEnd F r32 r33 x4).bind (fun o2 => (if o2 = 0 then some (.inl ((x4 + (1)), r47, r48, r49)) else (if mj_ib x4 200 = true then (fnX1_get F (r34 x4.toNatClampNeg) x2).bind (fun o5 => (if mj_ib x4 200 = true then (fnX1_get F (r34 x4.toNatClampNeg) x3).bind (fun o7 => (if mj_ib (((10 : Int32) * o5) + o7) 100 = true then (if mj_ib x4 200 = true then (fnX3_plus F (r47 ((((10 : Int32) * o5) + o7).toNatClampNeg)) (r42 x4.toNatClampNeg)).bind (fun o10 => (if mj_ib (((10 : Int32) * o5) + o7) 100 = true then (if mj_ib o5 10 = true then (if mj_ib x4 200 = true then (fnX3_plus F (r48 o5.toNatClampNeg) (r42 x4.toNatClampNeg)).bind (fun o14 => (if mj_ib o5 10 = true then (if mj_ib o7 10 = true then (if mj_ib x4 200 = true then (fnX3_plus F (r49 o7.toNatClampNeg) (r42 x4.toNatClampNeg)).bind (fun o18 => (if mj_ib o7 10 = true then some (.inl ((x4 + (1)), (upd r47 ((((10 : Int32) * o5) + o7).toNatClampNeg) o10), (upd r48 o5.toNatClampNeg o14), (upd r49 o7.toNatClampNeg o18))) else none)) else none) else none) else none)) else none) else none) else none)) else none) else none)) else none)) else none))))
def bdX2_areIndependent_164 (F : Nat) (r41 : Nat → Int32) (r47 : Nat → Int32) (r48 : Nat → Int32) (r49 : Nat → Int32) (x4 : Int32) : Option (((Int32)) ⊕ (Unit ⊕ Unit)) := (if (100 : Int32) ≤ x4 then some (.inr (.inl ())) else (if mj_ib x4 100 = true then (fnX3_times F (r47 x4.toNatClampNeg) (r41 0)).bind (fun o22 => (if mj_ib (x4 / (10 : Int32)) 10 = true then (if mj_ib (x4 - x4 / (10 : Int32) * (10 : Int32)) 10 = true then (fnX3_times F (r48 ((x4 / (10 : Int32)).toNatClampNeg)) (r49 ((x4 - x4 / (10 : Int32) * (10 : Int32)).toNatClampNeg))).bind (fun o25 => (if o22 = o25 then some (.inl (x4 + (1))) else some (.inr (.inr ())))) else none) else none)) else none))
def fnX2_areIndependent (F : Nat) (r32 : Nat → Int32) (r33 : Nat → Int32) (r34 : Nat → Int32) (r41 : Nat → Int32) (r42 : Nat → Int32) (r47 : Nat → Int32) (r48 : Nat → Int32) (r49 : Nat → Int32) (x2 : Int32) (x3 : Int32) : Option ((Int32) × (Nat → Int32) × (Nat → Int32) × (Nat → Int32)) := (fnJ7_fill_53178_47 F r47 (0 : Int32)).bind (fun o27 => (fnJ7_fill_53178_48 F r48 (0 : Int32)).bind (fun o28 => (fnJ7_fill_53178_49 F r49 (0 : Int32)).bind (fun o29 => (mj_it (mj_u2 (fun z0 => (mj_u2 (fun z1 => (mj_u2 (fun z2 z3 => bdX2_areIndependent_27 F r32 r33 r34 r42 x2 x3 z0 z1 z2 z3)))))) F ((0 : Int32), o27, o28, o29)).bind (mj_u2 (fun r47_30 => (mj_u2 (fun r48_30 r49_30 => (mj_it (bdX2_areIndependent_164 F r41 r47_30 r48_30 r49_30) F (0 : Int32)).bind (Sum.elim (fun _ => some ((1 : Int32), r47_30, r48_30, r49_30)) (fun _ => some ((0 : Int32), r47_30, r48_30, r49_30))))))))))
set_option maxRecDepth 100000 in
set_option maxHeartbeats 4000000 in
theorem lpX2_areIndependent_27 {X : mj_XT} {l : Launch} {G : mj_GT} {ad : Nat → Nat} {Qn : Option Value → mj_IT → mj_LT → Prop} (hR : mj_R X l G mj_P0 mj_S0 98 ad 0 0 Qn) (F : Nat) (I : mj_IT) (L : mj_LT) (r32 : Nat → Int32) (r33 : Nat → Int32) (r34 : Nat → Int32) (r41 : Nat → Int32) (r42 : Nat → Int32) (r47 : Nat → Int32) (r48 : Nat → Int32) (r49 : Nat → Int32) (x2 : Int32) (x3 : Int32) : ∀ (n : Nat) (s : ((Int32) × (Nat → Int32) × (Nat → Int32) × (Nat → Int32))) (e : ((Nat → Int32) × (Nat → Int32) × (Nat → Int32))), mj_it (mj_u2 (fun z0 => (mj_u2 (fun z1 => (mj_u2 (fun z2 z3 => bdX2_areIndependent_27 F r32 r33 r34 r42 x2 x3 z0 z1 z2 z3)))))) n s = some e → (mj_u2 (fun r47 => (mj_u2 (fun r48 r49 => mj_W X G RX2 "areIndependent" cX2_areIndependent 7 2 (some .boolean) mj_P0 mj_S0 98 ad 0 0 161 [(0, .ref 41)] [] (mj_rows I [(32, r32), (33, r33), (34, r34), (41, r41), (42, r42), (47, r47), (48, r48), (49, r49)]) L)))) e → (mj_u2 (fun x4 => (mj_u2 (fun r47 => (mj_u2 (fun r48 r49 => mj_W X G RX2 "areIndependent" cX2_areIndependent 7 2 (some .boolean) mj_P0 mj_S0 98 ad 0 0 27 [(0, .ref 41), (1, .ref 32), (2, .int x2), (3, .int x3), (4, .int x4)] [] (mj_rows I [(32, r32), (33, r33), (34, r34), (41, r41), (42, r42), (47, r47), (48, r48), (49, r49)]) L)))))) s := by
  refine mj_loop (fun s o hf hc hx => ?_)
  obtain ⟨x4, r47, r48, r49⟩ := s
  replace hf := mj_u2e hf
  refine mj_u2q ?_
  replace hf := mj_u2e hf
  refine mj_u2q ?_
  replace hf := mj_u2e hf
  refine mj_u2q ?_
  unfold bdX2_areIndependent_27 at hf
  refine mj_iload 4 dX2_areIndependent_27 rfl ?_
  refine mj_aload_n 1 dX2_areIndependent_29 rfl ?_
  refine mj_getIv (v := (r32 2)) rfl fl_X2_94 rfl s0_32 a0_32 dX2_areIndependent_30 ?_
  refine mj_icmp_ge 161 dX2_areIndependent_33 (by decide) (fun c1 => ?_) (fun c1 => ?_)
  · replace hf := mj_pos c1 hf
    refine mj_sub [0] [(0, .ref 41)] rfl ?_
    obtain rfl := Option.some.inj hf
    have hZ := hx (r47, r48, r49) rfl
    replace hZ := mj_u2p hZ
    replace hZ := mj_u2p hZ
    exact hZ
  · replace hf := mj_neg c1 hf
    refine mj_aload_n 1 dX2_areIndependent_36 rfl ?_
    refine mj_iload 4 dX2_areIndependent_37 rfl ?_
    obtain ⟨o2, ho2, hf⟩ := mj_bd hf
    refine mj_callVd (I2 := (mj_rows I [(32, r32), (33, r33), (34, r34), (41, r41), (42, r42), (47, r47), (48, r48), (49, r49)])) (L2 := L) (s1 := [.int o2]) (st := []) [.int x4] (cmX4_isEnd X.2.1 G F x4 _ _ r32 r33 rfl rfl o2 ho2) (mj_rr rfl) rfl cw_X2_139 s0_32 a0_32 (by decide) rfl rfl (Nat.le_of_ble_eq_true rfl) ⟨Nat.zero_le _, Nat.zero_le _⟩ dX2_areIndependent_39 rfl ?_
    refine mj_if_eq 155 dX2_areIndependent_42 (by decide) (fun c3 => ?_) (fun c3 => ?_)
    · replace hf := mj_pos c3 hf
      refine mj_iinc 4 [(4, .int (x4 + (1))), (0, .ref 41), (1, .ref 32), (2, .int x2), (3, .int x3)] dX2_areIndependent_155 rfl (kz_1 _) (by decide) rfl ?_
      refine mj_goto 27 dX2_areIndependent_158 (by decide) ?_
      refine mj_sub [1, 2, 3, 4, 0] [(0, .ref 41), (1, .ref 32), (2, .int x2), (3, .int x3), (4, .int (x4 + (1)))] rfl ?_
      obtain rfl := Option.some.inj hf
      have hZ := hc ((x4 + (1)), r47, r48, r49) rfl
      replace hZ := mj_u2p hZ
      replace hZ := mj_u2p hZ
      replace hZ := mj_u2p hZ
      exact hZ
    · replace hf := mj_neg c3 hf
      refine mj_aload_n 1 dX2_areIndependent_45 rfl ?_
      refine mj_getP p0_32_9 (by decide) fl_X2_146 rfl s0_32 a0_32 dX2_areIndependent_46 ?_
      refine mj_iload 4 dX2_areIndependent_49 rfl ?_
      obtain ⟨z4, hf⟩ := mj_ck hf
      refine mj_ialdv (x := r34) rfl s0_34 a0_34 z4 dX2_areIndependent_51 ?_
      refine mj_iload_n 2 dX2_areIndependent_52 rfl ?_
      obtain ⟨o5, ho5, hf⟩ := mj_bd hf
      refine mj_callSd (I2 := (mj_rows I [(32, r32), (33, r33), (34, r34), (41, r41), (42, r42), (47, r47), (48, r48), (49, r49)])) (L2 := L) (s1 := [.int o5]) (st := []) [.int (r34 x4.toNatClampNeg), .int x2] (cmX1_get X.2.1 G F (r34 x4.toNatClampNeg) x2 _ _   o5 ho5) rfl rfl cw_X2_149 (by decide) rfl rfl (Nat.le_of_ble_eq_true rfl) ⟨Nat.zero_le _, Nat.zero_le _⟩ dX2_areIndependent_53 rfl ?_
      refine mj_istore [(5, .int o5), (0, .ref 41), (1, .ref 32), (2, .int x2), (3, .int x3), (4, .int x4)] dX2_areIndependent_56 (by decide) rfl ?_
      refine mj_aload_n 2 dX2_areIndependent_58 rfl ?_
      refine mj_getP p0_32_9 (by decide) fl_X2_146 rfl s0_32 a0_32 dX2_areIndependent_59 ?_
      refine mj_iload 5 dX2_areIndependent_62 rfl ?_
      obtain ⟨z6, hf⟩ := mj_ck hf
      refine mj_ialdv (x := r34) rfl s0_34 a0_34 z6 dX2_areIndependent_64 ?_
      refine mj_iload_n 4 dX2_areIndependent_65 rfl ?_
      obtain ⟨o7, ho7, hf⟩ := mj_bd hf
      refine mj_callSd (I2 := (mj_rows I [(32, r32), (33, r33), (34, r34), (41, r41), (42, r42), (47, r47), (48, r48), (49, r49)])) (L2 := L) (s1 := [.int o7]) (st := []) [.int (r34 x4.toNatClampNeg), .int x3] (cmX1_get X.2.1 G F (r34 x4.toNatClampNeg) x3 _ _   o7 ho7) rfl rfl cw_X2_149 (by decide) rfl rfl (Nat.le_of_ble_eq_true rfl) ⟨Nat.zero_le _, Nat.zero_le _⟩ dX2_areIndependent_66 rfl ?_
      refine mj_istore [(6, .int o7), (5, .int o5), (0, .ref 41), (1, .ref 32), (2, .int x2), (3, .int x3), (4, .int x4)] dX2_areIndependent_69 (by decide) rfl ?_
      refine mj_aload_n 2 dX2_areIndependent_71 rfl ?_
      refine mj_getP p0_41_11 (by decide) fl_X2_27 rfl s0_41 a0_41 dX2_areIndependent_72 ?_
      refine mj_bipush dX2_areIndependent_75 kc_bipush_10 ?_
      refine mj_iload 1 dX2_areIndependent_77 rfl ?_
      refine mj_imul dX2_areIndependent_79 ?_
      refine mj_iload 0 dX2_areIndependent_80 rfl ?_
      refine mj_iadd dX2_areIndependent_82 ?_
      refine mj_aload_n 2 dX2_areIndependent_83 rfl ?_
      refine mj_getP p0_41_11 (by decide) fl_X2_27 rfl s0_41 a0_41 dX2_areIndependent_84 ?_
      refine mj_bipush dX2_areIndependent_87 kc_bipush_10 ?_
      refine mj_iload 1 dX2_areIndependent_89 rfl ?_
      refine mj_imul dX2_areIndependent_91 ?_
      refine mj_iload 0 dX2_areIndependent_92 rfl ?_
      refine mj_iadd dX2_areIndependent_94 ?_
      obtain ⟨z8, hf⟩ := mj_ck hf
      refine mj_ialdv (x := r47) rfl s0_47 a0_47 z8 dX2_areIndependent_95 ?_
      refine mj_aload_n 2 dX2_areIndependent_96 rfl ?_
      refine mj_getP p0_41_3 (by decide) fl_X2_9 rfl s0_41 a0_41 dX2_areIndependent_97 ?_
      refine mj_iload 6 dX2_areIndependent_100 rfl ?_
      obtain ⟨z9, hf⟩ := mj_ck hf
      refine mj_ialdv (x := r42) rfl s0_42 a0_42 z9 dX2_areIndependent_102 ?_
      obtain ⟨o10, ho10, hf⟩ := mj_bd hf
      refine mj_callSd (I2 := (mj_rows I [(32, r32), (33, r33), (34, r34), (41, r41), (42, r42), (47, r47), (48, r48), (49, r49)])) (L2 := L) (s1 := [.int o10, .int (((10 : Int32) * o5) + o7), .ref 47]) (st := [.int (((10 : Int32) * o5) + o7), .ref 47]) [.int (r47 ((((10 : Int32) * o5) + o7).toNatClampNeg)), .int (r42 x4.toNatClampNeg)] (cmX3_plus X.2.1 G F (r47 ((((10 : Int32) * o5) + o7).toNatClampNeg)) (r42 x4.toNatClampNeg) _ _   o10 ho10) rfl rfl cw_X2_110 (by decide) rfl rfl (Nat.le_of_ble_eq_true rfl) ⟨Nat.zero_le _, Nat.zero_le _⟩ dX2_areIndependent_103 rfl ?_
      obtain ⟨z11, hf⟩ := mj_ck hf
      refine mj_iastr [(32, r32), (33, r33), (34, r34), (41, r41), (42, r42), (47, (upd r47 ((((10 : Int32) * o5) + o7).toNatClampNeg) o10)), (48, r48), (49, r49)] rfl s0_47 a0_47 z11 dX2_areIndependent_106 ?_
      refine mj_aload_n 2 dX2_areIndependent_107 rfl ?_
      refine mj_getP p0_41_12 (by decide) fl_X2_30 rfl s0_41 a0_41 dX2_areIndependent_108 ?_
      refine mj_iload 1 dX2_areIndependent_111 rfl ?_
      refine mj_aload_n 2 dX2_areIndependent_113 rfl ?_
      refine mj_getP p0_41_12 (by decide) fl_X2_30 rfl s0_41 a0_41 dX2_areIndependent_114 ?_
      refine mj_iload 1 dX2_areIndependent_117 rfl ?_
      obtain ⟨z12, hf⟩ := mj_ck hf
      refine mj_ialdv (x := r48) rfl s0_48 a0_48 z12 dX2_areIndependent_119 ?_
      refine mj_aload_n 2 dX2_areIndependent_120 rfl ?_
      refine mj_getP p0_41_3 (by decide) fl_X2_9 rfl s0_41 a0_41 dX2_areIndependent_121 ?_
      refine mj_iload 6 dX2_areIndependent_124 rfl ?_
      obtain ⟨z13, hf⟩ := mj_ck hf
      refine mj_ialdv (x := r42) rfl s0_42 a0_42 z13 dX2_areIndependent_126 ?_
      obtain ⟨o14, ho14, hf⟩ := mj_bd hf
      refine mj_callSd (I2 := (mj_rows I [(32, r32), (33, r33), (34, r34), (41, r41), (42, r42), (47, (upd r47 ((((10 : Int32) * o5) + o7).toNatClampNeg) o10)), (48, r48), (49, r49)])) (L2 := L) (s1 := [.int o14, .int o5, .ref 48]) (st := [.int o5, .ref 48]) [.int (r48 o5.toNatClampNeg), .int (r42 x4.toNatClampNeg)] (cmX3_plus X.2.1 G F (r48 o5.toNatClampNeg) (r42 x4.toNatClampNeg) _ _   o14 ho14) rfl rfl cw_X2_110 (by decide) rfl rfl (Nat.le_of_ble_eq_true rfl) ⟨Nat.zero_le _, Nat.zero_le _⟩ dX2_areIndependent_127 rfl ?_
      obtain ⟨z15, hf⟩ := mj_ck hf
      refine mj_iastr [(32, r32), (33, r33), (34, r34), (41, r41), (42, r42), (47, (upd r47 ((((10 : Int32) * o5) + o7).toNatClampNeg) o10)), (48, (upd r48 o5.toNatClampNeg o14)), (49, r49)] rfl s0_48 a0_48 z15 dX2_areIndependent_130 ?_
      refine mj_aload_n 2 dX2_areIndependent_131 rfl ?_
      refine mj_getP p0_41_13 (by decide) fl_X2_33 rfl s0_41 a0_41 dX2_areIndependent_132 ?_
      refine mj_iload 0 dX2_areIndependent_135 rfl ?_
      refine mj_aload_n 2 dX2_areIndependent_137 rfl ?_
      refine mj_getP p0_41_13 (by decide) fl_X2_33 rfl s0_41 a0_41 dX2_areIndependent_138 ?_
      refine mj_iload 0 dX2_areIndependent_141 rfl ?_
      obtain ⟨z16, hf⟩ := mj_ck hf
      refine mj_ialdv (x := r49) rfl s0_49 a0_49 z16 dX2_areIndependent_143 ?_
      refine mj_aload_n 2 dX2_areIndependent_144 rfl ?_
      refine mj_getP p0_41_3 (by decide) fl_X2_9 rfl s0_41 a0_41 dX2_areIndependent_145 ?_
      refine mj_iload 6 dX2_areIndependent_148 rfl ?_
      obtain ⟨z17, hf⟩ := mj_ck hf
      refine mj_ialdv (x := r42) rfl s0_42 a0_42 z17 dX2_areIndependent_150 ?_
      obtain ⟨o18, ho18, hf⟩ := mj_bd hf
      refine mj_callSd (I2 := (mj_rows I [(32, r32), (33, r33), (34, r34), (41, r41), (42, r42), (47, (upd r47 ((((10 : Int32) * o5) + o7).toNatClampNeg) o10)), (48, (upd r48 o5.toNatClampNeg o14)), (49, r49)])) (L2 := L) (s1 := [.int o18, .int o7, .ref 49]) (st := [.int o7, .ref 49]) [.int (r49 o7.toNatClampNeg), .int (r42 x4.toNatClampNeg)] (cmX3_plus X.2.1 G F (r49 o7.toNatClampNeg) (r42 x4.toNatClampNeg) _ _   o18 ho18) rfl rfl cw_X2_110 (by decide) rfl rfl (Nat.le_of_ble_eq_true rfl) ⟨Nat.zero_le _, Nat.zero_le _⟩ dX2_areIndependent_151 rfl ?_
      obtain ⟨z19, hf⟩ := mj_ck hf
      refine mj_iastr [(32, r32), (33, r33), (34, r34), (41, r41), (42, r42), (47, (upd r47 ((((10 : Int32) * o5) + o7).toNatClampNeg) o10)), (48, (upd r48 o5.toNatClampNeg o14)), (49, (upd r49 o7.toNatClampNeg o18))] rfl s0_49 a0_49 z19 dX2_areIndependent_154 ?_
      refine mj_iinc 6 [(4, .int (x4 + (1))), (6, .int o7), (5, .int o5), (0, .ref 41), (1, .ref 32), (2, .int x2), (3, .int x3)] dX2_areIndependent_155 rfl (kz_1 _) (by decide) rfl ?_
      refine mj_goto 27 dX2_areIndependent_158 (by decide) ?_
      refine mj_sub [3, 4, 5, 6, 0] [(0, .ref 41), (1, .ref 32), (2, .int x2), (3, .int x3), (4, .int (x4 + (1)))] rfl ?_
      obtain rfl := Option.some.inj hf
      have hZ := hc ((x4 + (1)), (upd r47 ((((10 : Int32) * o5) + o7).toNatClampNeg) o10), (upd r48 o5.toNatClampNeg o14), (upd r49 o7.toNatClampNeg o18)) rfl
      replace hZ := mj_u2p hZ
      replace hZ := mj_u2p hZ
      replace hZ := mj_u2p hZ
      exact hZ
set_option maxRecDepth 100000 in
set_option maxHeartbeats 4000000 in
theorem lpX2_areIndependent_164 {X : mj_XT} {l : Launch} {G : mj_GT} {ad : Nat → Nat} {Qn : Option Value → mj_IT → mj_LT → Prop} (hR : mj_R X l G mj_P0 mj_S0 98 ad 0 0 Qn) (F : Nat) (I : mj_IT) (L : mj_LT) (r32 : Nat → Int32) (r33 : Nat → Int32) (r34 : Nat → Int32) (r41 : Nat → Int32) (r42 : Nat → Int32) (r47 : Nat → Int32) (r48 : Nat → Int32) (r49 : Nat → Int32) : ∀ (n : Nat) (s : ((Int32))) (e : (Unit ⊕ Unit)), mj_it (bdX2_areIndependent_164 F r41 r47 r48 r49) n s = some e → (Sum.elim (fun _ => mj_W X G RX2 "areIndependent" cX2_areIndependent 7 2 (some .boolean) mj_P0 mj_S0 98 ad 0 0 219 [] [] (mj_rows I [(32, r32), (33, r33), (34, r34), (41, r41), (42, r42), (47, r47), (48, r48), (49, r49)]) L) (fun _ => mj_W X G RX2 "areIndependent" cX2_areIndependent 7 2 (some .boolean) mj_P0 mj_S0 98 ad 0 0 211 [] [] (mj_rows I [(32, r32), (33, r33), (34, r34), (41, r41), (42, r42), (47, r47), (48, r48), (49, r49)]) L)) e → (fun x4 => mj_W X G RX2 "areIndependent" cX2_areIndependent 7 2 (some .boolean) mj_P0 mj_S0 98 ad 0 0 164 [(0, .ref 41), (4, .int x4)] [] (mj_rows I [(32, r32), (33, r33), (34, r34), (41, r41), (42, r42), (47, r47), (48, r48), (49, r49)]) L) s := by
  refine mj_loop (fun x4 o hf hc hx => ?_)
  unfold bdX2_areIndependent_164 at hf
  refine mj_iload 1 dX2_areIndependent_164 rfl ?_
  refine mj_bipush dX2_areIndependent_166 kc_bipush_100 ?_
  refine mj_icmp_ge 219 dX2_areIndependent_168 (by decide) (fun c20 => ?_) (fun c20 => ?_)
  · replace hf := mj_pos c20 hf
    refine mj_sub [] [] rfl ?_
    obtain rfl := Option.some.inj hf
    have hZ := hx (.inl ()) rfl
    replace hZ := mj_el hZ
    exact hZ
  · replace hf := mj_neg c20 hf
    refine mj_aload_n 0 dX2_areIndependent_171 rfl ?_
    refine mj_getP p0_41_11 (by decide) fl_X2_27 rfl s0_41 a0_41 dX2_areIndependent_172 ?_
    refine mj_iload 1 dX2_areIndependent_175 rfl ?_
    obtain ⟨z21, hf⟩ := mj_ck hf
    refine mj_ialdv (x := r47) rfl s0_47 a0_47 z21 dX2_areIndependent_177 ?_
    refine mj_aload_n 0 dX2_areIndependent_178 rfl ?_
    refine mj_getIv (v := (r41 0)) rfl fl_X2_72 rfl s0_41 a0_41 dX2_areIndependent_179 ?_
    obtain ⟨o22, ho22, hf⟩ := mj_bd hf
    refine mj_callSd (I2 := (mj_rows I [(32, r32), (33, r33), (34, r34), (41, r41), (42, r42), (47, r47), (48, r48), (49, r49)])) (L2 := L) (s1 := [.int o22]) (st := []) [.int (r47 x4.toNatClampNeg), .int (r41 0)] (cmX3_times X.2.1 G F (r47 x4.toNatClampNeg) (r41 0) _ _   o22 ho22) rfl rfl cw_X2_81 (by decide) rfl rfl (Nat.le_of_ble_eq_true rfl) ⟨Nat.zero_le _, Nat.zero_le _⟩ dX2_areIndependent_182 rfl ?_
    refine mj_aload_n 0 dX2_areIndependent_185 rfl ?_
    refine mj_getP p0_41_12 (by decide) fl_X2_30 rfl s0_41 a0_41 dX2_areIndependent_186 ?_
    refine mj_iload 1 dX2_areIndependent_189 rfl ?_
    refine mj_bipush dX2_areIndependent_191 kc_bipush_10 ?_
    refine mj_idiv dX2_areIndependent_193 (by decide) ?_
    obtain ⟨z23, hf⟩ := mj_ck hf
    refine mj_ialdv (x := r48) rfl s0_48 a0_48 z23 dX2_areIndependent_194 ?_
    refine mj_aload_n 0 dX2_areIndependent_195 rfl ?_
    refine mj_getP p0_41_13 (by decide) fl_X2_33 rfl s0_41 a0_41 dX2_areIndependent_196 ?_
    refine mj_iload 1 dX2_areIndependent_199 rfl ?_
    refine mj_bipush dX2_areIndependent_201 kc_bipush_10 ?_
    refine mj_irem dX2_areIndependent_203 (by decide) ?_
    obtain ⟨z24, hf⟩ := mj_ck hf
    refine mj_ialdv (x := r49) rfl s0_49 a0_49 z24 dX2_areIndependent_204 ?_
    obtain ⟨o25, ho25, hf⟩ := mj_bd hf
    refine mj_callSd (I2 := (mj_rows I [(32, r32), (33, r33), (34, r34), (41, r41), (42, r42), (47, r47), (48, r48), (49, r49)])) (L2 := L) (s1 := [.int o25, .int o22]) (st := [.int o22]) [.int (r48 ((x4 / (10 : Int32)).toNatClampNeg)), .int (r49 ((x4 - x4 / (10 : Int32) * (10 : Int32)).toNatClampNeg))] (cmX3_times X.2.1 G F (r48 ((x4 / (10 : Int32)).toNatClampNeg)) (r49 ((x4 - x4 / (10 : Int32) * (10 : Int32)).toNatClampNeg)) _ _   o25 ho25) rfl rfl cw_X2_81 (by decide) rfl rfl (Nat.le_of_ble_eq_true rfl) ⟨Nat.zero_le _, Nat.zero_le _⟩ dX2_areIndependent_205 rfl ?_
    refine mj_icmp_eq 213 dX2_areIndependent_208 (by decide) (fun c26 => ?_) (fun c26 => ?_)
    · replace hf := mj_pos c26 hf
      refine mj_iinc 1 [(4, .int (x4 + (1))), (0, .ref 41)] dX2_areIndependent_213 rfl (kz_1 _) (by decide) rfl ?_
      refine mj_goto 164 dX2_areIndependent_216 (by decide) ?_
      refine mj_sub [1, 0] [(0, .ref 41), (4, .int (x4 + (1)))] rfl ?_
      obtain rfl := Option.some.inj hf
      have hZ := hc (x4 + (1)) rfl
      exact hZ
    · replace hf := mj_neg c26 hf
      refine mj_sub [] [] rfl ?_
      obtain rfl := Option.some.inj hf
      have hZ := hx (.inr ()) rfl
      replace hZ := mj_er hZ
      exact hZ
set_option maxRecDepth 100000 in
set_option maxHeartbeats 4000000 in
theorem mtX2_areIndependent {X : mj_XT} {l : Launch} {G : mj_GT} {ad : Nat → Nat} {Qn : Option Value → mj_IT → mj_LT → Prop} (hR : mj_R X l G mj_P0 mj_S0 98 ad 0 0 Qn) (F : Nat) (I : mj_IT) (L : mj_LT) (r32 : Nat → Int32) (r33 : Nat → Int32) (r34 : Nat → Int32) (r41 : Nat → Int32) (r42 : Nat → Int32) (r47 : Nat → Int32) (r48 : Nat → Int32) (r49 : Nat → Int32) (x2 : Int32) (x3 : Int32) (o : ((Int32) × (Nat → Int32) × (Nat → Int32) × (Nat → Int32))) (hf : fnX2_areIndependent F r32 r33 r34 r41 r42 r47 r48 r49 x2 x3 = some o) (hq : (mj_u2 (fun ov => (mj_u2 (fun r47 => (mj_u2 (fun r48 r49 => Qn (some (.int ov)) (mj_rows I [(32, r32), (33, r33), (34, r34), (41, r41), (42, r42), (47, r47), (48, r48), (49, r49)]) L)))))) o) : mj_W X G RX2 "areIndependent" cX2_areIndependent 7 2 (some .boolean) mj_P0 mj_S0 98 ad 0 0 0 [(0, .ref 41), (1, .ref 32), (2, .int x2), (3, .int x3)] [] (mj_rows I [(32, r32), (33, r33), (34, r34), (41, r41), (42, r42), (47, r47), (48, r48), (49, r49)]) L := by
  unfold fnX2_areIndependent at hf
  refine mj_aload_n 0 dX2_areIndependent_0 rfl ?_
  refine mj_getP p0_41_11 (by decide) fl_X2_27 rfl s0_41 a0_41 dX2_areIndependent_1 ?_
  refine mj_iconst dX2_areIndependent_4 kc_iconst_0 ?_
  obtain ⟨o27, ho27, hf⟩ := mj_bd hf
  refine mj_callSd (I2 := (mj_rows I [(32, r32), (33, r33), (34, r34), (41, r41), (42, r42), (47, o27), (48, r48), (49, r49)])) (L2 := L) (s1 := []) (st := []) [.ref 47, .int (0 : Int32)] (cmJ7_fill_53178_47 X.2.1 G F (0 : Int32) _ _ r47 rfl o27 ho27) (mj_rr rfl) rfl cw_X2_154 (by decide) rfl rfl (Nat.le_of_ble_eq_true rfl) ⟨Nat.zero_le _, Nat.zero_le _⟩ dX2_areIndependent_5 rfl ?_
  refine mj_aload_n 0 dX2_areIndependent_8 rfl ?_
  refine mj_getP p0_41_12 (by decide) fl_X2_30 rfl s0_41 a0_41 dX2_areIndependent_9 ?_
  refine mj_iconst dX2_areIndependent_12 kc_iconst_0 ?_
  obtain ⟨o28, ho28, hf⟩ := mj_bd hf
  refine mj_callSd (I2 := (mj_rows I [(32, r32), (33, r33), (34, r34), (41, r41), (42, r42), (47, o27), (48, o28), (49, r49)])) (L2 := L) (s1 := []) (st := []) [.ref 48, .int (0 : Int32)] (cmJ7_fill_53178_48 X.2.1 G F (0 : Int32) _ _ r48 rfl o28 ho28) (mj_rr rfl) rfl cw_X2_154 (by decide) rfl rfl (Nat.le_of_ble_eq_true rfl) ⟨Nat.zero_le _, Nat.zero_le _⟩ dX2_areIndependent_13 rfl ?_
  refine mj_aload_n 0 dX2_areIndependent_16 rfl ?_
  refine mj_getP p0_41_13 (by decide) fl_X2_33 rfl s0_41 a0_41 dX2_areIndependent_17 ?_
  refine mj_iconst dX2_areIndependent_20 kc_iconst_0 ?_
  obtain ⟨o29, ho29, hf⟩ := mj_bd hf
  refine mj_callSd (I2 := (mj_rows I [(32, r32), (33, r33), (34, r34), (41, r41), (42, r42), (47, o27), (48, o28), (49, o29)])) (L2 := L) (s1 := []) (st := []) [.ref 49, .int (0 : Int32)] (cmJ7_fill_53178_49 X.2.1 G F (0 : Int32) _ _ r49 rfl o29 ho29) (mj_rr rfl) rfl cw_X2_154 (by decide) rfl rfl (Nat.le_of_ble_eq_true rfl) ⟨Nat.zero_le _, Nat.zero_le _⟩ dX2_areIndependent_21 rfl ?_
  refine mj_iconst dX2_areIndependent_24 kc_iconst_0 ?_
  refine mj_istore [(4, .int (0 : Int32)), (0, .ref 41), (1, .ref 32), (2, .int x2), (3, .int x3)] dX2_areIndependent_25 (by decide) rfl ?_
  refine mj_sub [1, 2, 3, 4, 0] [(0, .ref 41), (1, .ref 32), (2, .int x2), (3, .int x3), (4, .int (0 : Int32))] rfl ?_
  obtain ⟨e30, ho30, hf⟩ := mj_bd hf
  refine lpX2_areIndependent_27 hR F I L r32 r33 r34 r41 r42 o27 o28 o29 x2 x3 F ((0 : Int32), o27, o28, o29) e30 ho30 ?_
  obtain ⟨r47_30, r48_30, r49_30⟩ := e30
  replace hf := mj_u2e hf
  replace hf := mj_u2e hf
  refine ?_
  refine mj_u2q ?_
  refine mj_u2q ?_
  refine mj_iconst dX2_areIndependent_161 kc_iconst_0 ?_
  refine mj_istore [(4, .int (0 : Int32)), (0, .ref 41)] dX2_areIndependent_162 (by decide) rfl ?_
  refine mj_sub [1, 0] [(0, .ref 41), (4, .int (0 : Int32))] rfl ?_
  obtain ⟨e31, ho31, hf⟩ := mj_bd hf
  refine lpX2_areIndependent_164 hR F I L r32 r33 r34 r41 r42 r47_30 r48_30 r49_30 F (0 : Int32) e31 ho31 ?_
  rcases e31 with e31 | e31
  · replace hf := mj_ele hf
    refine mj_elq (?_)
    refine mj_iconst dX2_areIndependent_219 kc_iconst_1 ?_
    obtain rfl := Option.some.inj hf
    have hZ := hq
    replace hZ := mj_u2p hZ
    replace hZ := mj_u2p hZ
    replace hZ := mj_u2p hZ
    exact mj_iret hR ⟨Nat.le_refl _, Nat.le_refl _⟩ rfl (by decide) dX2_areIndependent_220 hZ
  · replace hf := mj_ere hf
    refine mj_erq (?_)
    refine mj_iconst dX2_areIndependent_211 kc_iconst_0 ?_
    obtain rfl := Option.some.inj hf
    have hZ := hq
    replace hZ := mj_u2p hZ
    replace hZ := mj_u2p hZ
    replace hZ := mj_u2p hZ
    exact mj_iret hR ⟨Nat.le_refl _, Nat.le_refl _⟩ rfl (by decide) dX2_areIndependent_212 hZ
set_option maxRecDepth 100000 in
set_option maxHeartbeats 4000000 in
theorem cmX2_areIndependent (l : Launch) (G : mj_GT) (F : Nat) (x2 : Int32) (x3 : Int32) (I : mj_IT) (L : mj_LT) (r32 : Nat → Int32) (r33 : Nat → Int32) (r34 : Nat → Int32) (r41 : Nat → Int32) (r42 : Nat → Int32) (r47 : Nat → Int32) (r48 : Nat → Int32) (r49 : Nat → Int32) (hr32 : I 32 = r32) (hr33 : I 33 = r33) (hr34 : I 34 = r34) (hr41 : I 41 = r41) (hr42 : I 42 = r42) (hr47 : I 47 = r47) (hr48 : I 48 = r48) (hr49 : I 49 = r49) (o : ((Int32) × (Nat → Int32) × (Nat → Int32) × (Nat → Int32))) (hf : fnX2_areIndependent F r32 r33 r34 r41 r42 r47 r48 r49 x2 x3 = some o) : mj_M l G yX2_areIndependent cX2_areIndependent 7 2 (some .boolean) 0 0 mj_P0 mj_S0 98 [.ref 41, .ref 32, .int x2, .int x3] I L (mj_qd (some (.int o.1)) (mj_rows I [(32, r32), (33, r33), (34, r34), (41, r41), (42, r42), (47, o.2.1), (48, o.2.2.1), (49, o.2.2.2)]) L) := by
  refine mj_in RX2 "areIndependent" [(0, .ref 41), (1, .ref 32), (2, .int x2), (3, .int x3)] rfl rfl rfl (by decide) (Nat.le_of_ble_eq_true rfl) (fun X ad hR => ?_)
  refine mj_toI [(32, r32), (33, r33), (34, r34), (41, r41), (42, r42), (47, r47), (48, r48), (49, r49)] (by intro q hq; simp only [List.mem_cons, List.not_mem_nil, or_false] at hq; rcases hq with rfl | rfl | rfl | rfl | rfl | rfl | rfl | rfl <;> assumption) ?_
  refine mtX2_areIndependent hR F I L r32 r33 r34 r41 r42 r47 r48 r49 x2 x3 o hf ?_
  obtain ⟨w0, w1, w2, w3⟩ := o
  refine mj_u2q ?_
  refine mj_u2q ?_
  refine mj_u2q ?_
  exact ⟨rfl, rfl, rfl⟩

-- X3_inForm
def bdX3_inForm_23 (F : Nat) (x1 : Int32) (x2 : Int64) (x4 : Int64) (x6 : Int64) (x8 : Int64) (x10 : Int32) : Option (((Int64) × (Int64) × (Int64) × (Int64) × (Int32)) ⊕ ((Int64) × (Int64))) := (if (64 : Int32) ≤ x10 then some (.inr (x4, x8)) else (if x4 ≤ (20000 : Int64) then some (.inr (x4, x8)) else (if x4 = 0 then none else some (.inl (x4, (x2 - ((x2 / x4) * x4)), x8, (x6 - ((x2 / x4) * x8)), (x10 + (1)))))))
def fnX3_inForm (F : Nat) (x0 : Int32) (x1 : Int32) : Option ((Int32)) := (if x1 = 0 then some x0 else (mj_it (mj_u2 (fun z0 => (mj_u2 (fun z1 => (mj_u2 (fun z2 => (mj_u2 (fun z3 z4 => bdX3_inForm_23 F x1 z0 z1 z2 z3 z4)))))))) F ((998244353 : Int64), x0.toInt64, (0 : Int64), (1 : Int64), (0 : Int32))).bind (mj_u2 (fun x4_5 x8_5 => (if x8_5 < (1 : Int64) then some (-1 : Int32) else (if x8_5 ≤ (20000 : Int64) then (if x1 = (1 : Int32) then some x4_5.toInt32 else some x8_5.toInt32) else some (-1 : Int32))))))
set_option maxRecDepth 100000 in
set_option maxHeartbeats 4000000 in
theorem lpX3_inForm_23 {X : mj_XT} {l : Launch} {G : mj_GT} {ad : Nat → Nat} {Qn : Option Value → mj_IT → mj_LT → Prop} (hR : mj_R X l G mj_P0 mj_S0 98 ad 0 0 Qn) (F : Nat) (I : mj_IT) (L : mj_LT) (x1 : Int32) : ∀ (n : Nat) (s : ((Int64) × (Int64) × (Int64) × (Int64) × (Int32))) (e : ((Int64) × (Int64))), mj_it (mj_u2 (fun z0 => (mj_u2 (fun z1 => (mj_u2 (fun z2 => (mj_u2 (fun z3 z4 => bdX3_inForm_23 F x1 z0 z1 z2 z3 z4)))))))) n s = some e → (mj_u2 (fun x4 x8 => mj_W X G RX3 "inForm" cX3_inForm 17 1 (some .int) mj_P0 mj_S0 98 ad 0 0 85 [(1, .int x1), (4, .long x4), (8, .long x8)] [] I L)) e → (mj_u2 (fun x2 => (mj_u2 (fun x4 => (mj_u2 (fun x6 => (mj_u2 (fun x8 x10 => mj_W X G RX3 "inForm" cX3_inForm 17 1 (some .int) mj_P0 mj_S0 98 ad 0 0 23 [(1, .int x1), (2, .long x2), (4, .long x4), (6, .long x6), (8, .long x8), (10, .int x10)] [] I L)))))))) s := by
  refine mj_loop (fun s o hf hc hx => ?_)
  obtain ⟨x2, x4, x6, x8, x10⟩ := s
  replace hf := mj_u2e hf
  refine mj_u2q ?_
  replace hf := mj_u2e hf
  refine mj_u2q ?_
  replace hf := mj_u2e hf
  refine mj_u2q ?_
  replace hf := mj_u2e hf
  refine mj_u2q ?_
  unfold bdX3_inForm_23 at hf
  refine mj_iload 5 dX3_inForm_23 rfl ?_
  refine mj_bipush dX3_inForm_25 kc_bipush_64 ?_
  refine mj_icmp_ge 85 dX3_inForm_27 (by decide) (fun c1 => ?_) (fun c1 => ?_)
  · replace hf := mj_pos c1 hf
    refine mj_sub [0, 2, 4] [(1, .int x1), (4, .long x4), (8, .long x8)] rfl ?_
    obtain rfl := Option.some.inj hf
    have hZ := hx (x4, x8) rfl
    replace hZ := mj_u2p hZ
    exact hZ
  · replace hf := mj_neg c1 hf
    refine mj_lload 2 dX3_inForm_30 rfl ?_
    refine mj_ldc2 kk_X3_20 dX3_inForm_32 ?_
    refine mj_lc_le 85 dX3_inForm_35 dX3_inForm_36 (by decide) (fun c2 => ?_) (fun c2 => ?_)
    · replace hf := mj_pos c2 hf
      refine mj_sub [0, 2, 4] [(1, .int x1), (4, .long x4), (8, .long x8)] rfl ?_
      obtain rfl := Option.some.inj hf
      have hZ := hx (x4, x8) rfl
      replace hZ := mj_u2p hZ
      exact hZ
    · replace hf := mj_neg c2 hf
      refine mj_lload_n 1 dX3_inForm_39 rfl ?_
      refine mj_lload 2 dX3_inForm_40 rfl ?_
      obtain ⟨z3, hf⟩ := mj_nz hf
      refine mj_ldiv dX3_inForm_42 z3 ?_
      refine mj_lstore [(11, .long (x2 / x4)), (1, .int x1), (2, .long x2), (4, .long x4), (6, .long x6), (8, .long x8), (10, .int x10)] dX3_inForm_43 (by decide) rfl ?_
      refine mj_lload_n 2 dX3_inForm_45 rfl ?_
      refine mj_lload 0 dX3_inForm_46 rfl ?_
      refine mj_lload 3 dX3_inForm_48 rfl ?_
      refine mj_lmul dX3_inForm_50 ?_
      refine mj_lsub dX3_inForm_51 ?_
      refine mj_lstore [(13, .long (x2 - ((x2 / x4) * x4))), (11, .long (x2 / x4)), (1, .int x1), (2, .long x2), (4, .long x4), (6, .long x6), (8, .long x8), (10, .int x10)] dX3_inForm_52 (by decide) rfl ?_
      refine mj_lload 5 dX3_inForm_54 rfl ?_
      refine mj_lload 1 dX3_inForm_56 rfl ?_
      refine mj_lload 6 dX3_inForm_58 rfl ?_
      refine mj_lmul dX3_inForm_60 ?_
      refine mj_lsub dX3_inForm_61 ?_
      refine mj_lstore [(15, .long (x6 - ((x2 / x4) * x8))), (13, .long (x2 - ((x2 / x4) * x4))), (11, .long (x2 / x4)), (1, .int x1), (2, .long x2), (4, .long x4), (6, .long x6), (8, .long x8), (10, .int x10)] dX3_inForm_62 (by decide) rfl ?_
      refine mj_lload 5 dX3_inForm_64 rfl ?_
      refine mj_lstore_n [(2, .long x4), (15, .long (x6 - ((x2 / x4) * x8))), (13, .long (x2 - ((x2 / x4) * x4))), (11, .long (x2 / x4)), (1, .int x1), (4, .long x4), (6, .long x6), (8, .long x8), (10, .int x10)] dX3_inForm_66 rfl (by decide) rfl ?_
      refine mj_lload 2 dX3_inForm_67 rfl ?_
      refine mj_lstore [(4, .long (x2 - ((x2 / x4) * x4))), (2, .long x4), (15, .long (x6 - ((x2 / x4) * x8))), (13, .long (x2 - ((x2 / x4) * x4))), (11, .long (x2 / x4)), (1, .int x1), (6, .long x6), (8, .long x8), (10, .int x10)] dX3_inForm_69 (by decide) rfl ?_
      refine mj_lload 7 dX3_inForm_71 rfl ?_
      refine mj_lstore [(6, .long x8), (4, .long (x2 - ((x2 / x4) * x4))), (2, .long x4), (15, .long (x6 - ((x2 / x4) * x8))), (13, .long (x2 - ((x2 / x4) * x4))), (11, .long (x2 / x4)), (1, .int x1), (8, .long x8), (10, .int x10)] dX3_inForm_73 (by decide) rfl ?_
      refine mj_lload 3 dX3_inForm_75 rfl ?_
      refine mj_lstore [(8, .long (x6 - ((x2 / x4) * x8))), (6, .long x8), (4, .long (x2 - ((x2 / x4) * x4))), (2, .long x4), (15, .long (x6 - ((x2 / x4) * x8))), (13, .long (x2 - ((x2 / x4) * x4))), (11, .long (x2 / x4)), (1, .int x1), (10, .int x10)] dX3_inForm_77 (by decide) rfl ?_
      refine mj_iinc 8 [(10, .int (x10 + (1))), (8, .long (x6 - ((x2 / x4) * x8))), (6, .long x8), (4, .long (x2 - ((x2 / x4) * x4))), (2, .long x4), (15, .long (x6 - ((x2 / x4) * x8))), (13, .long (x2 - ((x2 / x4) * x4))), (11, .long (x2 / x4)), (1, .int x1)] dX3_inForm_79 rfl (kz_1 _) (by decide) rfl ?_
      refine mj_goto 23 dX3_inForm_82 (by decide) ?_
      refine mj_sub [8, 4, 3, 2, 1, 0] [(1, .int x1), (2, .long x4), (4, .long (x2 - ((x2 / x4) * x4))), (6, .long x8), (8, .long (x6 - ((x2 / x4) * x8))), (10, .int (x10 + (1)))] rfl ?_
      obtain rfl := Option.some.inj hf
      have hZ := hc (x4, (x2 - ((x2 / x4) * x4)), x8, (x6 - ((x2 / x4) * x8)), (x10 + (1))) rfl
      replace hZ := mj_u2p hZ
      replace hZ := mj_u2p hZ
      replace hZ := mj_u2p hZ
      replace hZ := mj_u2p hZ
      exact hZ
set_option maxRecDepth 100000 in
set_option maxHeartbeats 4000000 in
theorem mtX3_inForm {X : mj_XT} {l : Launch} {G : mj_GT} {ad : Nat → Nat} {Qn : Option Value → mj_IT → mj_LT → Prop} (hR : mj_R X l G mj_P0 mj_S0 98 ad 0 0 Qn) (F : Nat) (I : mj_IT) (L : mj_LT) (x0 : Int32) (x1 : Int32) (o : ((Int32))) (hf : fnX3_inForm F x0 x1 = some o) (hq : (fun ov => Qn (some (.int ov)) I L) o) : mj_W X G RX3 "inForm" cX3_inForm 17 1 (some .int) mj_P0 mj_S0 98 ad 0 0 0 [(0, .int x0), (1, .int x1)] [] I L := by
  unfold fnX3_inForm at hf
  refine mj_iload_n 1 dX3_inForm_0 rfl ?_
  refine mj_if_ne 6 dX3_inForm_1 (by decide) (fun c4 => ?_) (fun c4 => ?_)
  · replace hf := mj_neg c4 hf
    refine mj_ldc2 kk_X3_12 dX3_inForm_6 ?_
    refine mj_lstore_n [(2, .long (998244353 : Int64)), (0, .int x0), (1, .int x1)] dX3_inForm_9 rfl (by decide) rfl ?_
    refine mj_iload_n 1 dX3_inForm_10 rfl ?_
    refine mj_i2l dX3_inForm_11 ?_
    refine mj_lstore [(4, .long x0.toInt64), (2, .long (998244353 : Int64)), (0, .int x0), (1, .int x1)] dX3_inForm_12 (by decide) rfl ?_
    refine mj_lconst (v := 0) dX3_inForm_14 (by decide) ?_
    refine mj_lstore [(6, .long (0 : Int64)), (4, .long x0.toInt64), (2, .long (998244353 : Int64)), (0, .int x0), (1, .int x1)] dX3_inForm_15 (by decide) rfl ?_
    refine mj_lconst (v := 1) dX3_inForm_17 (by decide) ?_
    refine mj_lstore [(8, .long (1 : Int64)), (6, .long (0 : Int64)), (4, .long x0.toInt64), (2, .long (998244353 : Int64)), (0, .int x0), (1, .int x1)] dX3_inForm_18 (by decide) rfl ?_
    refine mj_iconst dX3_inForm_20 kc_iconst_0 ?_
    refine mj_istore [(10, .int (0 : Int32)), (8, .long (1 : Int64)), (6, .long (0 : Int64)), (4, .long x0.toInt64), (2, .long (998244353 : Int64)), (0, .int x0), (1, .int x1)] dX3_inForm_21 (by decide) rfl ?_
    refine mj_sub [6, 4, 3, 2, 1, 0] [(1, .int x1), (2, .long (998244353 : Int64)), (4, .long x0.toInt64), (6, .long (0 : Int64)), (8, .long (1 : Int64)), (10, .int (0 : Int32))] rfl ?_
    obtain ⟨e5, ho5, hf⟩ := mj_bd hf
    refine lpX3_inForm_23 hR F I L x1 F ((998244353 : Int64), x0.toInt64, (0 : Int64), (1 : Int64), (0 : Int32)) e5 ho5 ?_
    obtain ⟨x4_5, x8_5⟩ := e5
    replace hf := mj_u2e hf
    refine ?_
    refine mj_u2q ?_
    refine mj_lload 2 dX3_inForm_85 rfl ?_
    refine mj_lconst (v := 1) dX3_inForm_87 (by decide) ?_
    refine mj_lc_lt 101 dX3_inForm_88 dX3_inForm_89 (by decide) (fun c6 => ?_) (fun c6 => ?_)
    · replace hf := mj_pos c6 hf
      refine mj_iconst dX3_inForm_101 kc_iconst_m1 ?_
      obtain rfl := Option.some.inj hf
      have hZ := hq
      exact mj_iret hR ⟨Nat.le_refl _, Nat.le_refl _⟩ rfl rfl dX3_inForm_102 hZ
    · replace hf := mj_neg c6 hf
      refine mj_lload 2 dX3_inForm_92 rfl ?_
      refine mj_ldc2 kk_X3_20 dX3_inForm_94 ?_
      refine mj_lc_le 103 dX3_inForm_97 dX3_inForm_98 (by decide) (fun c7 => ?_) (fun c7 => ?_)
      · replace hf := mj_pos c7 hf
        refine mj_iload_n 0 dX3_inForm_103 rfl ?_
        refine mj_iconst dX3_inForm_104 kc_iconst_1 ?_
        refine mj_icmp_ne 113 dX3_inForm_105 (by decide) (fun c8 => ?_) (fun c8 => ?_)
        · replace hf := mj_neg c8 hf
          refine mj_lload 2 dX3_inForm_113 rfl ?_
          refine mj_l2i dX3_inForm_115 ?_
          obtain rfl := Option.some.inj hf
          have hZ := hq
          exact mj_iret hR ⟨Nat.le_refl _, Nat.le_refl _⟩ rfl rfl dX3_inForm_116 hZ
        · replace hf := mj_pos c8 hf
          refine mj_lload 1 dX3_inForm_108 rfl ?_
          refine mj_goto 115 dX3_inForm_110 (by decide) ?_
          refine mj_l2i dX3_inForm_115 ?_
          obtain rfl := Option.some.inj hf
          have hZ := hq
          exact mj_iret hR ⟨Nat.le_refl _, Nat.le_refl _⟩ rfl rfl dX3_inForm_116 hZ
      · replace hf := mj_neg c7 hf
        refine mj_iconst dX3_inForm_101 kc_iconst_m1 ?_
        obtain rfl := Option.some.inj hf
        have hZ := hq
        exact mj_iret hR ⟨Nat.le_refl _, Nat.le_refl _⟩ rfl rfl dX3_inForm_102 hZ
  · replace hf := mj_pos c4 hf
    refine mj_iload_n 0 dX3_inForm_4 rfl ?_
    obtain rfl := Option.some.inj hf
    have hZ := hq
    exact mj_iret hR ⟨Nat.le_refl _, Nat.le_refl _⟩ rfl rfl dX3_inForm_5 hZ
set_option maxRecDepth 100000 in
set_option maxHeartbeats 4000000 in
theorem cmX3_inForm (l : Launch) (G : mj_GT) (F : Nat) (x0 : Int32) (x1 : Int32) (I : mj_IT) (L : mj_LT) (o : ((Int32))) (hf : fnX3_inForm F x0 x1 = some o) : mj_M l G yX3_inForm cX3_inForm 17 1 (some .int) 0 0 mj_P0 mj_S0 98 [.int x0, .int x1] I L (mj_qd (some (.int o)) I L) := by
  refine mj_in RX3 "inForm" [(0, .int x0), (1, .int x1)] rfl rfl rfl (by decide) (Nat.le_of_ble_eq_true rfl) (fun X ad hR => ?_)
  refine mtX3_inForm hR F I L x0 x1 o hf ?_
  exact ⟨rfl, rfl, rfl⟩

-- X4_forget
def fnX4_forget (F : Nat) (r32 : Nat → Int32) : Option ((Nat → Int32)) := some (upd r32 1 (0 : Int32))
set_option maxRecDepth 100000 in
set_option maxHeartbeats 4000000 in
theorem mtX4_forget {X : mj_XT} {l : Launch} {G : mj_GT} {ad : Nat → Nat} {Qn : Option Value → mj_IT → mj_LT → Prop} (hR : mj_R X l G mj_P0 mj_S0 98 ad 0 0 Qn) (F : Nat) (I : mj_IT) (L : mj_LT) (r32 : Nat → Int32) (o : ((Nat → Int32))) (hf : fnX4_forget F r32 = some o) (hq : (fun r32 => Qn none (mj_rows I [(32, r32)]) L) o) : mj_W X G RX4 "forget" cX4_forget 1 1 none mj_P0 mj_S0 98 ad 0 0 0 [(0, .ref 32)] [] (mj_rows I [(32, r32)]) L := by
  unfold fnX4_forget at hf
  refine mj_aload_n 0 dX4_forget_0 rfl ?_
  refine mj_iconst dX4_forget_1 kc_iconst_0 ?_
  refine mj_putIr (ci := 2) (j := 1) [(32, (upd r32 1 (0 : Int32)))] rfl (by decide) fl_X4_37 rfl rfl s0_32 a0_32 dX4_forget_2 ?_
  obtain rfl := Option.some.inj hf
  have hZ := hq
  exact mj_vret hR ⟨Nat.le_refl _, Nat.le_refl _⟩ rfl dX4_forget_5 hZ
set_option maxRecDepth 100000 in
set_option maxHeartbeats 4000000 in
theorem cmX4_forget (l : Launch) (G : mj_GT) (F : Nat) (I : mj_IT) (L : mj_LT) (r32 : Nat → Int32) (hr32 : I 32 = r32) (o : ((Nat → Int32))) (hf : fnX4_forget F r32 = some o) : mj_M l G yX4_forget cX4_forget 1 1 none 0 0 mj_P0 mj_S0 98 [.ref 32] I L (mj_qd none (mj_rows I [(32, o)]) L) := by
  refine mj_in RX4 "forget" [(0, .ref 32)] rfl rfl rfl (by decide) (Nat.le_of_ble_eq_true rfl) (fun X ad hR => ?_)
  refine mj_toI [(32, r32)] (by intro q hq; simp only [List.mem_cons, List.not_mem_nil, or_false] at hq; rcases hq with rfl <;> assumption) ?_
  refine mtX4_forget hR F I L r32 o hf ?_
  exact ⟨rfl, rfl, rfl⟩

-- J7_fill_53178_40
def bdJ7_fill_53178_40_5 (F : Nat) (x1 : Int32) (x3 : Int32) (x2 : Int32) (r40 : Nat → Int32) : Option (((Int32) × (Nat → Int32)) ⊕ ((Nat → Int32))) := (if x3 ≤ x2 then some (.inr r40) else (if mj_ib x2 512 = true then some (.inl ((x2 + (1)), (upd r40 x2.toNatClampNeg x1))) else none))
def fnJ7_fill_53178_40 (F : Nat) (r40 : Nat → Int32) (x1 : Int32) : Option ((Nat → Int32)) := (mj_it (mj_u2 (fun z0 z1 => bdJ7_fill_53178_40_5 F x1 (512 : Int32) z0 z1)) F ((0 : Int32), r40)).bind (fun r40_3 => some r40_3)
set_option maxRecDepth 100000 in
set_option maxHeartbeats 4000000 in
theorem lpJ7_fill_53178_40_5 {X : mj_XT} {l : Launch} {G : mj_GT} {ad : Nat → Nat} {Qn : Option Value → mj_IT → mj_LT → Prop} (hR : mj_R X l G mj_P0 mj_S0 98 ad 0 0 Qn) (F : Nat) (I : mj_IT) (L : mj_LT) (r40 : Nat → Int32) (x1 : Int32) (x3 : Int32) : ∀ (n : Nat) (s : ((Int32) × (Nat → Int32))) (e : ((Nat → Int32))), mj_it (mj_u2 (fun z0 z1 => bdJ7_fill_53178_40_5 F x1 x3 z0 z1)) n s = some e → (fun r40 => mj_W X G RJ7 "fill" cJ7_fill_53178 4 1 none mj_P0 mj_S0 98 ad 0 0 20 [] [] (mj_rows I [(40, r40)]) L) e → (mj_u2 (fun x2 r40 => mj_W X G RJ7 "fill" cJ7_fill_53178 4 1 none mj_P0 mj_S0 98 ad 0 0 5 [(0, .ref 40), (1, .int x1), (2, .int x2), (3, .int x3)] [] (mj_rows I [(40, r40)]) L)) s := by
  refine mj_loop (fun s o hf hc hx => ?_)
  obtain ⟨x2, r40⟩ := s
  replace hf := mj_u2e hf
  refine mj_u2q ?_
  unfold bdJ7_fill_53178_40_5 at hf
  refine mj_iload_n 2 dJ7_fill_53178_5 rfl ?_
  refine mj_iload_n 3 dJ7_fill_53178_6 rfl ?_
  refine mj_icmp_ge 20 dJ7_fill_53178_7 (by decide) (fun c1 => ?_) (fun c1 => ?_)
  · replace hf := mj_pos c1 hf
    refine mj_sub [] [] rfl ?_
    obtain rfl := Option.some.inj hf
    have hZ := hx r40 rfl
    exact hZ
  · replace hf := mj_neg c1 hf
    refine mj_aload_n 0 dJ7_fill_53178_10 rfl ?_
    refine mj_iload_n 2 dJ7_fill_53178_11 rfl ?_
    refine mj_iload_n 1 dJ7_fill_53178_12 rfl ?_
    obtain ⟨z2, hf⟩ := mj_ck hf
    refine mj_iastr [(40, (upd r40 x2.toNatClampNeg x1))] rfl s0_40 a0_40 z2 dJ7_fill_53178_13 ?_
    refine mj_iinc 2 [(2, .int (x2 + (1))), (0, .ref 40), (1, .int x1), (3, .int x3)] dJ7_fill_53178_14 rfl (kz_1 _) (by decide) rfl ?_
    refine mj_goto 5 dJ7_fill_53178_17 (by decide) ?_
    refine mj_sub [1, 2, 0, 3] [(0, .ref 40), (1, .int x1), (2, .int (x2 + (1))), (3, .int x3)] rfl ?_
    obtain rfl := Option.some.inj hf
    have hZ := hc ((x2 + (1)), (upd r40 x2.toNatClampNeg x1)) rfl
    replace hZ := mj_u2p hZ
    exact hZ
set_option maxRecDepth 100000 in
set_option maxHeartbeats 4000000 in
theorem mtJ7_fill_53178_40 {X : mj_XT} {l : Launch} {G : mj_GT} {ad : Nat → Nat} {Qn : Option Value → mj_IT → mj_LT → Prop} (hR : mj_R X l G mj_P0 mj_S0 98 ad 0 0 Qn) (F : Nat) (I : mj_IT) (L : mj_LT) (r40 : Nat → Int32) (x1 : Int32) (o : ((Nat → Int32))) (hf : fnJ7_fill_53178_40 F r40 x1 = some o) (hq : (fun r40 => Qn none (mj_rows I [(40, r40)]) L) o) : mj_W X G RJ7 "fill" cJ7_fill_53178 4 1 none mj_P0 mj_S0 98 ad 0 0 0 [(0, .ref 40), (1, .int x1)] [] (mj_rows I [(40, r40)]) L := by
  unfold fnJ7_fill_53178_40 at hf
  refine mj_iconst dJ7_fill_53178_0 kc_iconst_0 ?_
  refine mj_istore_n [(2, .int (0 : Int32)), (0, .ref 40), (1, .int x1)] dJ7_fill_53178_1 rfl (by decide) rfl ?_
  refine mj_aload_n 1 dJ7_fill_53178_2 rfl ?_
  refine mj_alen (v := 512) s0_40 (by decide) a0_40 (by decide +kernel) dJ7_fill_53178_3 ?_
  refine mj_istore_n [(3, .int (512 : Int32)), (2, .int (0 : Int32)), (0, .ref 40), (1, .int x1)] dJ7_fill_53178_4 rfl (by decide) rfl ?_
  refine mj_sub [2, 3, 1, 0] [(0, .ref 40), (1, .int x1), (2, .int (0 : Int32)), (3, .int (512 : Int32))] rfl ?_
  obtain ⟨r40_3, ho3, hf⟩ := mj_bd hf
  refine lpJ7_fill_53178_40_5 hR F I L r40 x1 (512 : Int32) F ((0 : Int32), r40) r40_3 ho3 ?_
  refine ?_
  obtain rfl := Option.some.inj hf
  have hZ := hq
  exact mj_vret hR ⟨Nat.le_refl _, Nat.le_refl _⟩ rfl dJ7_fill_53178_20 hZ
set_option maxRecDepth 100000 in
set_option maxHeartbeats 4000000 in
theorem cmJ7_fill_53178_40 (l : Launch) (G : mj_GT) (F : Nat) (x1 : Int32) (I : mj_IT) (L : mj_LT) (r40 : Nat → Int32) (hr40 : I 40 = r40) (o : ((Nat → Int32))) (hf : fnJ7_fill_53178_40 F r40 x1 = some o) : mj_M l G yJ7_fill_53178 cJ7_fill_53178 4 1 none 0 0 mj_P0 mj_S0 98 [.ref 40, .int x1] I L (mj_qd none (mj_rows I [(40, o)]) L) := by
  refine mj_in RJ7 "fill" [(0, .ref 40), (1, .int x1)] rfl rfl rfl (by decide) (Nat.le_of_ble_eq_true rfl) (fun X ad hR => ?_)
  refine mj_toI [(40, r40)] (by intro q hq; simp only [List.mem_cons, List.not_mem_nil, or_false] at hq; rcases hq with rfl <;> assumption) ?_
  refine mtJ7_fill_53178_40 hR F I L r40 x1 o hf ?_
  exact ⟨rfl, rfl, rfl⟩

-- X4_stateAt
def bdX4_stateAt_17 (F : Nat) (r33 : Nat → Int32) (r34 : Nat → Int32) (r40 : Nat → Int32) (x1 : Int32) (x2 : Int32) (x3 : Int32) (x4 : Int32) (x5 : Int32) : Option (((Int32) × (Int32)) ⊕ (((Int32)) ⊕ ((Int32)))) := (if (512 : Int32) ≤ x5 then some (.inr (.inl x4)) else (if mj_ib x4 512 = true then (if (r40 x4.toNatClampNeg) = 0 then some (.inr (.inl x4)) else (if mj_ib x4 512 = true then (if mj_ib ((r40 x4.toNatClampNeg) - (1 : Int32)) 200 = true then (if (r33 (((r40 x4.toNatClampNeg) - (1 : Int32)).toNatClampNeg)) = x1 then (if mj_ib ((r40 x4.toNatClampNeg) - (1 : Int32)) 200 = true then (if (r34 (((r40 x4.toNatClampNeg) - (1 : Int32)).toNatClampNeg)) = x2 then some (.inr (.inr ((r40 x4.toNatClampNeg) - (1 : Int32)))) else some (.inl (((x4 + (1 : Int32)) - (x4 + (1 : Int32)) / (512 : Int32) * (512 : Int32)), (x5 + (1))))) else none) else some (.inl (((x4 + (1 : Int32)) - (x4 + (1 : Int32)) / (512 : Int32) * (512 : Int32)), (x5 + (1))))) else none) else none)) else none))
def fnX4_stateAt (F : Nat) (r32 : Nat → Int32) (r33 : Nat → Int32) (r34 : Nat → Int32) (r35 : Nat → Int32) (r40 : Nat → Int32) (x1 : Int32) (x2 : Int32) (x3 : Int32) : Option ((Int32) × (Nat → Int32) × (Nat → Int32) × (Nat → Int32) × (Nat → Int32) × (Nat → Int32)) := (mj_it (mj_u2 (fun z0 z1 => bdX4_stateAt_17 F r33 r34 r40 x1 x2 x3 z0 z1)) F (((((((1000000 : Int32) * x1) + x2) * (-1640531535 : Int32)).toUInt32 >>> ((23 : Int32).toUInt32 &&& Int32.toUInt32 31)).toInt32), (0 : Int32))).bind (Sum.elim (fun x4_9 => (if (r32 2) < (200 : Int32) then (if mj_ib (r32 2) 200 = true then (if mj_ib (r32 2) 200 = true then (if mj_ib (r32 2) 200 = true then (if mj_ib x4_9 512 = true then some ((((r32 2) + (1 : Int32)) - (1 : Int32)), (upd r32 2 ((r32 2) + (1 : Int32))), (upd r33 ((r32 2).toNatClampNeg) x1), (upd r34 ((r32 2).toNatClampNeg) x2), (upd r35 ((r32 2).toNatClampNeg) x3), (upd r40 x4_9.toNatClampNeg ((r32 2) + (1 : Int32)))) else none) else none) else none) else none) else some ((-1 : Int32), r32, r33, r34, r35, r40))) (fun x6_9 => some (x6_9, r32, r33, r34, r35, r40)))
set_option maxRecDepth 100000 in
set_option maxHeartbeats 4000000 in
theorem lpX4_stateAt_17 {X : mj_XT} {l : Launch} {G : mj_GT} {ad : Nat → Nat} {Qn : Option Value → mj_IT → mj_LT → Prop} (hR : mj_R X l G mj_P0 mj_S0 98 ad 0 0 Qn) (F : Nat) (I : mj_IT) (L : mj_LT) (r32 : Nat → Int32) (r33 : Nat → Int32) (r34 : Nat → Int32) (r35 : Nat → Int32) (r40 : Nat → Int32) (x1 : Int32) (x2 : Int32) (x3 : Int32) : ∀ (n : Nat) (s : ((Int32) × (Int32))) (e : (((Int32)) ⊕ ((Int32)))), mj_it (mj_u2 (fun z0 z1 => bdX4_stateAt_17 F r33 r34 r40 x1 x2 x3 z0 z1)) n s = some e → (Sum.elim (fun x4 => mj_W X G RX4 "stateAt" cX4_stateAt 7 1 (some .int) mj_P0 mj_S0 98 ad 0 0 87 [(0, .ref 32), (1, .int x1), (2, .int x2), (3, .int x3), (4, .int x4)] [] (mj_rows I [(32, r32), (33, r33), (34, r34), (35, r35), (40, r40)]) L) (fun x6 => mj_W X G RX4 "stateAt" cX4_stateAt 7 1 (some .int) mj_P0 mj_S0 98 ad 0 0 68 [(6, .int x6)] [] (mj_rows I [(32, r32), (33, r33), (34, r34), (35, r35), (40, r40)]) L)) e → (mj_u2 (fun x4 x5 => mj_W X G RX4 "stateAt" cX4_stateAt 7 1 (some .int) mj_P0 mj_S0 98 ad 0 0 17 [(0, .ref 32), (1, .int x1), (2, .int x2), (3, .int x3), (4, .int x4), (5, .int x5)] [] (mj_rows I [(32, r32), (33, r33), (34, r34), (35, r35), (40, r40)]) L)) s := by
  refine mj_loop (fun s o hf hc hx => ?_)
  obtain ⟨x4, x5⟩ := s
  replace hf := mj_u2e hf
  refine mj_u2q ?_
  unfold bdX4_stateAt_17 at hf
  refine mj_iload 5 dX4_stateAt_17 rfl ?_
  refine mj_sipush dX4_stateAt_19 kc_sipush_512 ?_
  refine mj_icmp_ge 87 dX4_stateAt_22 (by decide) (fun c1 => ?_) (fun c1 => ?_)
  · replace hf := mj_pos c1 hf
    refine mj_sub [0, 1, 2, 3, 4] [(0, .ref 32), (1, .int x1), (2, .int x2), (3, .int x3), (4, .int x4)] rfl ?_
    obtain rfl := Option.some.inj hf
    have hZ := hx (.inl x4) rfl
    replace hZ := mj_el hZ
    exact hZ
  · replace hf := mj_neg c1 hf
    refine mj_aload_n 0 dX4_stateAt_25 rfl ?_
    refine mj_getP p0_32_15 (by decide) fl_X4_34 rfl s0_32 a0_32 dX4_stateAt_26 ?_
    refine mj_iload 4 dX4_stateAt_29 rfl ?_
    obtain ⟨z2, hf⟩ := mj_ck hf
    refine mj_ialdv (x := r40) rfl s0_40 a0_40 z2 dX4_stateAt_31 ?_
    refine mj_if_eq 87 dX4_stateAt_32 (by decide) (fun c3 => ?_) (fun c3 => ?_)
    · replace hf := mj_pos c3 hf
      refine mj_sub [0, 1, 2, 3, 4] [(0, .ref 32), (1, .int x1), (2, .int x2), (3, .int x3), (4, .int x4)] rfl ?_
      obtain rfl := Option.some.inj hf
      have hZ := hx (.inl x4) rfl
      replace hZ := mj_el hZ
      exact hZ
    · replace hf := mj_neg c3 hf
      refine mj_aload_n 0 dX4_stateAt_35 rfl ?_
      refine mj_getP p0_32_15 (by decide) fl_X4_34 rfl s0_32 a0_32 dX4_stateAt_36 ?_
      refine mj_iload 4 dX4_stateAt_39 rfl ?_
      obtain ⟨z4, hf⟩ := mj_ck hf
      refine mj_ialdv (x := r40) rfl s0_40 a0_40 z4 dX4_stateAt_41 ?_
      refine mj_iconst dX4_stateAt_42 kc_iconst_1 ?_
      refine mj_isub dX4_stateAt_43 ?_
      refine mj_istore [(6, .int ((r40 x4.toNatClampNeg) - (1 : Int32))), (0, .ref 32), (1, .int x1), (2, .int x2), (3, .int x3), (4, .int x4), (5, .int x5)] dX4_stateAt_44 (by decide) rfl ?_
      refine mj_aload_n 1 dX4_stateAt_46 rfl ?_
      refine mj_getP p0_32_8 (by decide) fl_X4_9 rfl s0_32 a0_32 dX4_stateAt_47 ?_
      refine mj_iload 0 dX4_stateAt_50 rfl ?_
      obtain ⟨z5, hf⟩ := mj_ck hf
      refine mj_ialdv (x := r33) rfl s0_33 a0_33 z5 dX4_stateAt_52 ?_
      refine mj_iload_n 2 dX4_stateAt_53 rfl ?_
      refine mj_icmp_ne 71 dX4_stateAt_54 (by decide) (fun c6 => ?_) (fun c6 => ?_)
      · replace hf := mj_neg c6 hf
        refine mj_iload 5 dX4_stateAt_71 rfl ?_
        refine mj_iconst dX4_stateAt_73 kc_iconst_1 ?_
        refine mj_iadd dX4_stateAt_74 ?_
        refine mj_sipush dX4_stateAt_75 kc_sipush_512 ?_
        refine mj_irem dX4_stateAt_78 (by decide) ?_
        refine mj_istore [(4, .int ((x4 + (1 : Int32)) - (x4 + (1 : Int32)) / (512 : Int32) * (512 : Int32))), (6, .int ((r40 x4.toNatClampNeg) - (1 : Int32))), (0, .ref 32), (1, .int x1), (2, .int x2), (3, .int x3), (5, .int x5)] dX4_stateAt_79 (by decide) rfl ?_
        refine mj_iinc 6 [(5, .int (x5 + (1))), (4, .int ((x4 + (1 : Int32)) - (x4 + (1 : Int32)) / (512 : Int32) * (512 : Int32))), (6, .int ((r40 x4.toNatClampNeg) - (1 : Int32))), (0, .ref 32), (1, .int x1), (2, .int x2), (3, .int x3)] dX4_stateAt_81 rfl (kz_1 _) (by decide) rfl ?_
        refine mj_goto 17 dX4_stateAt_84 (by decide) ?_
        refine mj_sub [3, 4, 5, 6, 1, 0] [(0, .ref 32), (1, .int x1), (2, .int x2), (3, .int x3), (4, .int ((x4 + (1 : Int32)) - (x4 + (1 : Int32)) / (512 : Int32) * (512 : Int32))), (5, .int (x5 + (1)))] rfl ?_
        obtain rfl := Option.some.inj hf
        have hZ := hc (((x4 + (1 : Int32)) - (x4 + (1 : Int32)) / (512 : Int32) * (512 : Int32)), (x5 + (1))) rfl
        replace hZ := mj_u2p hZ
        exact hZ
      · replace hf := mj_pos c6 hf
        refine mj_aload_n 1 dX4_stateAt_57 rfl ?_
        refine mj_getP p0_32_9 (by decide) fl_X4_15 rfl s0_32 a0_32 dX4_stateAt_58 ?_
        refine mj_iload 0 dX4_stateAt_61 rfl ?_
        obtain ⟨z7, hf⟩ := mj_ck hf
        refine mj_ialdv (x := r34) rfl s0_34 a0_34 z7 dX4_stateAt_63 ?_
        refine mj_iload_n 3 dX4_stateAt_64 rfl ?_
        refine mj_icmp_ne 71 dX4_stateAt_65 (by decide) (fun c8 => ?_) (fun c8 => ?_)
        · replace hf := mj_neg c8 hf
          refine mj_iload 5 dX4_stateAt_71 rfl ?_
          refine mj_iconst dX4_stateAt_73 kc_iconst_1 ?_
          refine mj_iadd dX4_stateAt_74 ?_
          refine mj_sipush dX4_stateAt_75 kc_sipush_512 ?_
          refine mj_irem dX4_stateAt_78 (by decide) ?_
          refine mj_istore [(4, .int ((x4 + (1 : Int32)) - (x4 + (1 : Int32)) / (512 : Int32) * (512 : Int32))), (6, .int ((r40 x4.toNatClampNeg) - (1 : Int32))), (0, .ref 32), (1, .int x1), (2, .int x2), (3, .int x3), (5, .int x5)] dX4_stateAt_79 (by decide) rfl ?_
          refine mj_iinc 6 [(5, .int (x5 + (1))), (4, .int ((x4 + (1 : Int32)) - (x4 + (1 : Int32)) / (512 : Int32) * (512 : Int32))), (6, .int ((r40 x4.toNatClampNeg) - (1 : Int32))), (0, .ref 32), (1, .int x1), (2, .int x2), (3, .int x3)] dX4_stateAt_81 rfl (kz_1 _) (by decide) rfl ?_
          refine mj_goto 17 dX4_stateAt_84 (by decide) ?_
          refine mj_sub [3, 4, 5, 6, 1, 0] [(0, .ref 32), (1, .int x1), (2, .int x2), (3, .int x3), (4, .int ((x4 + (1 : Int32)) - (x4 + (1 : Int32)) / (512 : Int32) * (512 : Int32))), (5, .int (x5 + (1)))] rfl ?_
          obtain rfl := Option.some.inj hf
          have hZ := hc (((x4 + (1 : Int32)) - (x4 + (1 : Int32)) / (512 : Int32) * (512 : Int32)), (x5 + (1))) rfl
          replace hZ := mj_u2p hZ
          exact hZ
        · replace hf := mj_pos c8 hf
          refine mj_sub [0] [(6, .int ((r40 x4.toNatClampNeg) - (1 : Int32)))] rfl ?_
          obtain rfl := Option.some.inj hf
          have hZ := hx (.inr ((r40 x4.toNatClampNeg) - (1 : Int32))) rfl
          replace hZ := mj_er hZ
          exact hZ
set_option maxRecDepth 100000 in
set_option maxHeartbeats 4000000 in
theorem mtX4_stateAt {X : mj_XT} {l : Launch} {G : mj_GT} {ad : Nat → Nat} {Qn : Option Value → mj_IT → mj_LT → Prop} (hR : mj_R X l G mj_P0 mj_S0 98 ad 0 0 Qn) (F : Nat) (I : mj_IT) (L : mj_LT) (r32 : Nat → Int32) (r33 : Nat → Int32) (r34 : Nat → Int32) (r35 : Nat → Int32) (r40 : Nat → Int32) (x1 : Int32) (x2 : Int32) (x3 : Int32) (o : ((Int32) × (Nat → Int32) × (Nat → Int32) × (Nat → Int32) × (Nat → Int32) × (Nat → Int32))) (hf : fnX4_stateAt F r32 r33 r34 r35 r40 x1 x2 x3 = some o) (hq : (mj_u2 (fun ov => (mj_u2 (fun r32 => (mj_u2 (fun r33 => (mj_u2 (fun r34 => (mj_u2 (fun r35 r40 => Qn (some (.int ov)) (mj_rows I [(32, r32), (33, r33), (34, r34), (35, r35), (40, r40)]) L)))))))))) o) : mj_W X G RX4 "stateAt" cX4_stateAt 7 1 (some .int) mj_P0 mj_S0 98 ad 0 0 0 [(0, .ref 32), (1, .int x1), (2, .int x2), (3, .int x3)] [] (mj_rows I [(32, r32), (33, r33), (34, r34), (35, r35), (40, r40)]) L := by
  unfold fnX4_stateAt at hf
  refine mj_ldc kk_X4_116 dX4_stateAt_0 ?_
  refine mj_iload_n 1 dX4_stateAt_2 rfl ?_
  refine mj_imul dX4_stateAt_3 ?_
  refine mj_iload_n 2 dX4_stateAt_4 rfl ?_
  refine mj_iadd dX4_stateAt_5 ?_
  refine mj_ldc kk_X4_117 dX4_stateAt_6 ?_
  refine mj_imul dX4_stateAt_8 ?_
  refine mj_bipush dX4_stateAt_9 kc_bipush_23 ?_
  refine mj_iushr dX4_stateAt_11 ?_
  refine mj_istore [(4, .int ((((((1000000 : Int32) * x1) + x2) * (-1640531535 : Int32)).toUInt32 >>> ((23 : Int32).toUInt32 &&& Int32.toUInt32 31)).toInt32)), (0, .ref 32), (1, .int x1), (2, .int x2), (3, .int x3)] dX4_stateAt_12 (by decide) rfl ?_
  refine mj_iconst dX4_stateAt_14 kc_iconst_0 ?_
  refine mj_istore [(5, .int (0 : Int32)), (4, .int ((((((1000000 : Int32) * x1) + x2) * (-1640531535 : Int32)).toUInt32 >>> ((23 : Int32).toUInt32 &&& Int32.toUInt32 31)).toInt32)), (0, .ref 32), (1, .int x1), (2, .int x2), (3, .int x3)] dX4_stateAt_15 (by decide) rfl ?_
  refine mj_sub [2, 3, 4, 5, 1, 0] [(0, .ref 32), (1, .int x1), (2, .int x2), (3, .int x3), (4, .int ((((((1000000 : Int32) * x1) + x2) * (-1640531535 : Int32)).toUInt32 >>> ((23 : Int32).toUInt32 &&& Int32.toUInt32 31)).toInt32)), (5, .int (0 : Int32))] rfl ?_
  obtain ⟨e9, ho9, hf⟩ := mj_bd hf
  refine lpX4_stateAt_17 hR F I L r32 r33 r34 r35 r40 x1 x2 x3 F (((((((1000000 : Int32) * x1) + x2) * (-1640531535 : Int32)).toUInt32 >>> ((23 : Int32).toUInt32 &&& Int32.toUInt32 31)).toInt32), (0 : Int32)) e9 ho9 ?_
  rcases e9 with x4_9 | x6_9
  · replace hf := mj_ele hf
    refine mj_elq (?_)
    refine mj_aload_n 0 dX4_stateAt_87 rfl ?_
    refine mj_getIv (v := (r32 2)) rfl fl_X4_45 rfl s0_32 a0_32 dX4_stateAt_88 ?_
    refine mj_sipush dX4_stateAt_91 kc_sipush_200 ?_
    refine mj_icmp_lt 99 dX4_stateAt_94 (by decide) (fun c10 => ?_) (fun c10 => ?_)
    · replace hf := mj_pos c10 hf
      refine mj_aload_n 0 dX4_stateAt_99 rfl ?_
      refine mj_getP p0_32_8 (by decide) fl_X4_9 rfl s0_32 a0_32 dX4_stateAt_100 ?_
      refine mj_aload_n 0 dX4_stateAt_103 rfl ?_
      refine mj_getIv (v := (r32 2)) rfl fl_X4_45 rfl s0_32 a0_32 dX4_stateAt_104 ?_
      refine mj_iload_n 1 dX4_stateAt_107 rfl ?_
      obtain ⟨z11, hf⟩ := mj_ck hf
      refine mj_iastr [(32, r32), (33, (upd r33 ((r32 2).toNatClampNeg) x1)), (34, r34), (35, r35), (40, r40)] rfl s0_33 a0_33 z11 dX4_stateAt_108 ?_
      refine mj_aload_n 0 dX4_stateAt_109 rfl ?_
      refine mj_getP p0_32_9 (by decide) fl_X4_15 rfl s0_32 a0_32 dX4_stateAt_110 ?_
      refine mj_aload_n 0 dX4_stateAt_113 rfl ?_
      refine mj_getIv (v := (r32 2)) rfl fl_X4_45 rfl s0_32 a0_32 dX4_stateAt_114 ?_
      refine mj_iload_n 2 dX4_stateAt_117 rfl ?_
      obtain ⟨z12, hf⟩ := mj_ck hf
      refine mj_iastr [(32, r32), (33, (upd r33 ((r32 2).toNatClampNeg) x1)), (34, (upd r34 ((r32 2).toNatClampNeg) x2)), (35, r35), (40, r40)] rfl s0_34 a0_34 z12 dX4_stateAt_118 ?_
      refine mj_aload_n 0 dX4_stateAt_119 rfl ?_
      refine mj_getP p0_32_10 (by decide) fl_X4_18 rfl s0_32 a0_32 dX4_stateAt_120 ?_
      refine mj_aload_n 0 dX4_stateAt_123 rfl ?_
      refine mj_getIv (v := (r32 2)) rfl fl_X4_45 rfl s0_32 a0_32 dX4_stateAt_124 ?_
      refine mj_iload_n 3 dX4_stateAt_127 rfl ?_
      obtain ⟨z13, hf⟩ := mj_ck hf
      refine mj_iastr [(32, r32), (33, (upd r33 ((r32 2).toNatClampNeg) x1)), (34, (upd r34 ((r32 2).toNatClampNeg) x2)), (35, (upd r35 ((r32 2).toNatClampNeg) x3)), (40, r40)] rfl s0_35 a0_35 z13 dX4_stateAt_128 ?_
      refine mj_aload_n 0 dX4_stateAt_129 rfl ?_
      refine mj_dup dX4_stateAt_130 rfl ?_
      refine mj_getIv (v := (r32 2)) rfl fl_X4_45 rfl s0_32 a0_32 dX4_stateAt_131 ?_
      refine mj_iconst dX4_stateAt_134 kc_iconst_1 ?_
      refine mj_iadd dX4_stateAt_135 ?_
      refine mj_putIr (ci := 2) (j := 2) [(32, (upd r32 2 ((r32 2) + (1 : Int32)))), (33, (upd r33 ((r32 2).toNatClampNeg) x1)), (34, (upd r34 ((r32 2).toNatClampNeg) x2)), (35, (upd r35 ((r32 2).toNatClampNeg) x3)), (40, r40)] rfl ⟨rfl, rfl⟩ fl_X4_45 rfl rfl s0_32 a0_32 dX4_stateAt_136 ?_
      refine mj_aload_n 0 dX4_stateAt_139 rfl ?_
      refine mj_getP p0_32_15 (by decide) fl_X4_34 rfl s0_32 a0_32 dX4_stateAt_140 ?_
      refine mj_iload 4 dX4_stateAt_143 rfl ?_
      refine mj_aload_n 0 dX4_stateAt_145 rfl ?_
      refine mj_getIv (v := ((r32 2) + (1 : Int32))) rfl fl_X4_45 rfl s0_32 a0_32 dX4_stateAt_146 ?_
      obtain ⟨z14, hf⟩ := mj_ck hf
      refine mj_iastr [(32, (upd r32 2 ((r32 2) + (1 : Int32)))), (33, (upd r33 ((r32 2).toNatClampNeg) x1)), (34, (upd r34 ((r32 2).toNatClampNeg) x2)), (35, (upd r35 ((r32 2).toNatClampNeg) x3)), (40, (upd r40 x4_9.toNatClampNeg ((r32 2) + (1 : Int32))))] rfl s0_40 a0_40 z14 dX4_stateAt_149 ?_
      refine mj_aload_n 0 dX4_stateAt_150 rfl ?_
      refine mj_getIv (v := ((r32 2) + (1 : Int32))) rfl fl_X4_45 rfl s0_32 a0_32 dX4_stateAt_151 ?_
      refine mj_iconst dX4_stateAt_154 kc_iconst_1 ?_
      refine mj_isub dX4_stateAt_155 ?_
      obtain rfl := Option.some.inj hf
      have hZ := hq
      replace hZ := mj_u2p hZ
      replace hZ := mj_u2p hZ
      replace hZ := mj_u2p hZ
      replace hZ := mj_u2p hZ
      replace hZ := mj_u2p hZ
      exact mj_iret hR ⟨Nat.le_refl _, Nat.le_refl _⟩ rfl rfl dX4_stateAt_156 hZ
    · replace hf := mj_neg c10 hf
      refine mj_iconst dX4_stateAt_97 kc_iconst_m1 ?_
      obtain rfl := Option.some.inj hf
      have hZ := hq
      replace hZ := mj_u2p hZ
      replace hZ := mj_u2p hZ
      replace hZ := mj_u2p hZ
      replace hZ := mj_u2p hZ
      replace hZ := mj_u2p hZ
      exact mj_iret hR ⟨Nat.le_refl _, Nat.le_refl _⟩ rfl rfl dX4_stateAt_98 hZ
  · replace hf := mj_ere hf
    refine mj_erq (?_)
    refine mj_iload 0 dX4_stateAt_68 rfl ?_
    obtain rfl := Option.some.inj hf
    have hZ := hq
    replace hZ := mj_u2p hZ
    replace hZ := mj_u2p hZ
    replace hZ := mj_u2p hZ
    replace hZ := mj_u2p hZ
    replace hZ := mj_u2p hZ
    exact mj_iret hR ⟨Nat.le_refl _, Nat.le_refl _⟩ rfl rfl dX4_stateAt_70 hZ
set_option maxRecDepth 100000 in
set_option maxHeartbeats 4000000 in
theorem cmX4_stateAt (l : Launch) (G : mj_GT) (F : Nat) (x1 : Int32) (x2 : Int32) (x3 : Int32) (I : mj_IT) (L : mj_LT) (r32 : Nat → Int32) (r33 : Nat → Int32) (r34 : Nat → Int32) (r35 : Nat → Int32) (r40 : Nat → Int32) (hr32 : I 32 = r32) (hr33 : I 33 = r33) (hr34 : I 34 = r34) (hr35 : I 35 = r35) (hr40 : I 40 = r40) (o : ((Int32) × (Nat → Int32) × (Nat → Int32) × (Nat → Int32) × (Nat → Int32) × (Nat → Int32))) (hf : fnX4_stateAt F r32 r33 r34 r35 r40 x1 x2 x3 = some o) : mj_M l G yX4_stateAt cX4_stateAt 7 1 (some .int) 0 0 mj_P0 mj_S0 98 [.ref 32, .int x1, .int x2, .int x3] I L (mj_qd (some (.int o.1)) (mj_rows I [(32, o.2.1), (33, o.2.2.1), (34, o.2.2.2.1), (35, o.2.2.2.2.1), (40, o.2.2.2.2.2)]) L) := by
  refine mj_in RX4 "stateAt" [(0, .ref 32), (1, .int x1), (2, .int x2), (3, .int x3)] rfl rfl rfl (by decide) (Nat.le_of_ble_eq_true rfl) (fun X ad hR => ?_)
  refine mj_toI [(32, r32), (33, r33), (34, r34), (35, r35), (40, r40)] (by intro q hq; simp only [List.mem_cons, List.not_mem_nil, or_false] at hq; rcases hq with rfl | rfl | rfl | rfl | rfl <;> assumption) ?_
  refine mtX4_stateAt hR F I L r32 r33 r34 r35 r40 x1 x2 x3 o hf ?_
  obtain ⟨w0, w1, w2, w3, w4, w5⟩ := o
  refine mj_u2q ?_
  refine mj_u2q ?_
  refine mj_u2q ?_
  refine mj_u2q ?_
  refine mj_u2q ?_
  exact ⟨rfl, rfl, rfl⟩

-- X4_lead
def jnX4_lead_28 (F : Nat) (x1 : Int32) (x4 : Int32) (t1 : Int32) (t2 : Int32) (r32 : Nat → Int32) (r33 : Nat → Int32) (r34 : Nat → Int32) (r35 : Nat → Int32) (r38 : Nat → Int32) (r39 : Nat → Int32) (r40 : Nat → Int32) : Option ((Nat → Int32) × (Nat → Int32) × (Nat → Int32) × (Nat → Int32) × (Nat → Int32) × (Nat → Int32) × (Nat → Int32)) := (if mj_ib x1 200 = true then (fnX4_stateAt F r32 r33 r34 r35 r40 t1 t2 ((r35 x1.toNatClampNeg) + (1 : Int32))).bind (fun o2 => (if o2.1 = (-1 : Int32) then some ((upd o2.2.1 6 (1 : Int32)), o2.2.2.1, o2.2.2.2.1, o2.2.2.2.2.1, r38, r39, o2.2.2.2.2.2) else (if (o2.2.1 3) < (2000 : Int32) then (if mj_ib (o2.2.1 3) 2000 = true then (if mj_ib (o2.2.1 3) 2000 = true then some ((upd o2.2.1 3 ((o2.2.1 3) + (1 : Int32))), o2.2.2.1, o2.2.2.2.1, o2.2.2.2.2.1, (upd r38 ((o2.2.1 3).toNatClampNeg) o2.1), (upd r39 ((o2.2.1 3).toNatClampNeg) x4), o2.2.2.2.2.2) else none) else none) else some ((upd o2.2.1 6 (1 : Int32)), o2.2.2.1, o2.2.2.2.1, o2.2.2.2.2.1, r38, r39, o2.2.2.2.2.2)))) else none)
def fnX4_lead (F : Nat) (r32 : Nat → Int32) (r33 : Nat → Int32) (r34 : Nat → Int32) (r35 : Nat → Int32) (r38 : Nat → Int32) (r39 : Nat → Int32) (r40 : Nat → Int32) (x1 : Int32) (x2 : Int32) (x3 : Int32) (x4 : Int32) : Option ((Nat → Int32) × (Nat → Int32) × (Nat → Int32) × (Nat → Int32) × (Nat → Int32) × (Nat → Int32) × (Nat → Int32)) := (if x4 = 0 then some (r32, r33, r34, r35, r38, r39, r40) else (if (r32 6) = 0 then (if x2 ≤ (r32 7) then jnX4_lead_28 F x1 x4 x2 x3 r32 r33 r34 r35 r38 r39 r40 else jnX4_lead_28 F x1 x4 x2 (0 : Int32) r32 r33 r34 r35 r38 r39 r40) else some (r32, r33, r34, r35, r38, r39, r40)))
set_option maxRecDepth 100000 in
set_option maxHeartbeats 4000000 in
theorem jtX4_lead_28 {X : mj_XT} {l : Launch} {G : mj_GT} {ad : Nat → Nat} {Qn : Option Value → mj_IT → mj_LT → Prop} (hR : mj_R X l G mj_P0 mj_S0 98 ad 0 0 Qn) (F : Nat) (I : mj_IT) (L : mj_LT) (r32 : Nat → Int32) (r33 : Nat → Int32) (r34 : Nat → Int32) (r35 : Nat → Int32) (r38 : Nat → Int32) (r39 : Nat → Int32) (r40 : Nat → Int32) (x1 : Int32) (x4 : Int32) (t1 : Int32) (t2 : Int32) (o : ((Nat → Int32) × (Nat → Int32) × (Nat → Int32) × (Nat → Int32) × (Nat → Int32) × (Nat → Int32) × (Nat → Int32))) (hf : jnX4_lead_28 F x1 x4 t1 t2 r32 r33 r34 r35 r38 r39 r40 = some o) (hq : (mj_u2 (fun r32 => (mj_u2 (fun r33 => (mj_u2 (fun r34 => (mj_u2 (fun r35 => (mj_u2 (fun r38 => (mj_u2 (fun r39 r40 => Qn none (mj_rows I [(32, r32), (33, r33), (34, r34), (35, r35), (38, r38), (39, r39), (40, r40)]) L)))))))))))) o) : mj_W X G RX4 "lead" cX4_lead 6 2 none mj_P0 mj_S0 98 ad 0 0 28 [(0, .ref 32), (1, .int x1), (4, .int x4)] [.int t2, .int t1, .ref 32] (mj_rows I [(32, r32), (33, r33), (34, r34), (35, r35), (38, r38), (39, r39), (40, r40)]) L := by
  unfold jnX4_lead_28 at hf
  refine mj_aload_n 0 dX4_lead_28 rfl ?_
  refine mj_getP p0_32_10 (by decide) fl_X4_18 rfl s0_32 a0_32 dX4_lead_29 ?_
  refine mj_iload_n 1 dX4_lead_32 rfl ?_
  obtain ⟨z1, hf⟩ := mj_ck hf
  refine mj_ialdv (x := r35) rfl s0_35 a0_35 z1 dX4_lead_33 ?_
  refine mj_iconst dX4_lead_34 kc_iconst_1 ?_
  refine mj_iadd dX4_lead_35 ?_
  obtain ⟨o2, ho2, hf⟩ := mj_bd hf
  refine mj_callVd (I2 := (mj_rows I [(32, o2.2.1), (33, o2.2.2.1), (34, o2.2.2.2.1), (35, o2.2.2.2.2.1), (38, r38), (39, r39), (40, o2.2.2.2.2.2)])) (L2 := L) (s1 := [.int o2.1]) (st := []) [.int t1, .int t2, .int ((r35 x1.toNatClampNeg) + (1 : Int32))] (cmX4_stateAt X.2.1 G F t1 t2 ((r35 x1.toNatClampNeg) + (1 : Int32)) _ _ r32 r33 r34 r35 r40 rfl rfl rfl rfl rfl o2 ho2) (mj_rr rfl) rfl cw_X4_66 s0_32 a0_32 (by decide) rfl rfl (Nat.le_of_ble_eq_true rfl) ⟨Nat.zero_le _, Nat.zero_le _⟩ dX4_lead_36 rfl ?_
  refine mj_istore [(5, .int o2.1), (0, .ref 32), (1, .int x1), (4, .int x4)] dX4_lead_39 (by decide) rfl ?_
  refine mj_iload 0 dX4_lead_41 rfl ?_
  refine mj_iconst dX4_lead_43 kc_iconst_m1 ?_
  refine mj_icmp_eq 57 dX4_lead_44 (by decide) (fun c3 => ?_) (fun c3 => ?_)
  · replace hf := mj_pos c3 hf
    refine mj_aload_n 1 dX4_lead_57 rfl ?_
    refine mj_iconst dX4_lead_58 kc_iconst_1 ?_
    refine mj_putIr (ci := 2) (j := 6) [(32, (upd o2.2.1 6 (1 : Int32))), (33, o2.2.2.1), (34, o2.2.2.2.1), (35, o2.2.2.2.2.1), (38, r38), (39, r39), (40, o2.2.2.2.2.2)] rfl (by decide) fl_X4_51 rfl rfl s0_32 a0_32 dX4_lead_59 ?_
    obtain rfl := Option.some.inj hf
    have hZ := hq
    replace hZ := mj_u2p hZ
    replace hZ := mj_u2p hZ
    replace hZ := mj_u2p hZ
    replace hZ := mj_u2p hZ
    replace hZ := mj_u2p hZ
    replace hZ := mj_u2p hZ
    exact mj_vret hR ⟨Nat.le_refl _, Nat.le_refl _⟩ rfl dX4_lead_62 hZ
  · replace hf := mj_neg c3 hf
    refine mj_aload_n 1 dX4_lead_47 rfl ?_
    refine mj_getIv (v := (o2.2.1 3)) rfl fl_X4_48 rfl s0_32 a0_32 dX4_lead_48 ?_
    refine mj_sipush dX4_lead_51 kc_sipush_2000 ?_
    refine mj_icmp_lt 63 dX4_lead_54 (by decide) (fun c4 => ?_) (fun c4 => ?_)
    · replace hf := mj_pos c4 hf
      refine mj_aload_n 1 dX4_lead_63 rfl ?_
      refine mj_getP p0_32_13 (by decide) fl_X4_28 rfl s0_32 a0_32 dX4_lead_64 ?_
      refine mj_aload_n 1 dX4_lead_67 rfl ?_
      refine mj_getIv (v := (o2.2.1 3)) rfl fl_X4_48 rfl s0_32 a0_32 dX4_lead_68 ?_
      refine mj_iload 0 dX4_lead_71 rfl ?_
      obtain ⟨z5, hf⟩ := mj_ck hf
      refine mj_iastr [(32, o2.2.1), (33, o2.2.2.1), (34, o2.2.2.2.1), (35, o2.2.2.2.2.1), (38, (upd r38 ((o2.2.1 3).toNatClampNeg) o2.1)), (39, r39), (40, o2.2.2.2.2.2)] rfl s0_38 a0_38 z5 dX4_lead_73 ?_
      refine mj_aload_n 1 dX4_lead_74 rfl ?_
      refine mj_getP p0_32_14 (by decide) fl_X4_31 rfl s0_32 a0_32 dX4_lead_75 ?_
      refine mj_aload_n 1 dX4_lead_78 rfl ?_
      refine mj_getIv (v := (o2.2.1 3)) rfl fl_X4_48 rfl s0_32 a0_32 dX4_lead_79 ?_
      refine mj_iload 3 dX4_lead_82 rfl ?_
      obtain ⟨z6, hf⟩ := mj_ck hf
      refine mj_iastr [(32, o2.2.1), (33, o2.2.2.1), (34, o2.2.2.2.1), (35, o2.2.2.2.2.1), (38, (upd r38 ((o2.2.1 3).toNatClampNeg) o2.1)), (39, (upd r39 ((o2.2.1 3).toNatClampNeg) x4)), (40, o2.2.2.2.2.2)] rfl s0_39 a0_39 z6 dX4_lead_84 ?_
      refine mj_aload_n 1 dX4_lead_85 rfl ?_
      refine mj_dup dX4_lead_86 rfl ?_
      refine mj_getIv (v := (o2.2.1 3)) rfl fl_X4_48 rfl s0_32 a0_32 dX4_lead_87 ?_
      refine mj_iconst dX4_lead_90 kc_iconst_1 ?_
      refine mj_iadd dX4_lead_91 ?_
      refine mj_putIr (ci := 2) (j := 3) [(32, (upd o2.2.1 3 ((o2.2.1 3) + (1 : Int32)))), (33, o2.2.2.1), (34, o2.2.2.2.1), (35, o2.2.2.2.2.1), (38, (upd r38 ((o2.2.1 3).toNatClampNeg) o2.1)), (39, (upd r39 ((o2.2.1 3).toNatClampNeg) x4)), (40, o2.2.2.2.2.2)] rfl ⟨rfl, rfl⟩ fl_X4_48 rfl rfl s0_32 a0_32 dX4_lead_92 ?_
      obtain rfl := Option.some.inj hf
      have hZ := hq
      replace hZ := mj_u2p hZ
      replace hZ := mj_u2p hZ
      replace hZ := mj_u2p hZ
      replace hZ := mj_u2p hZ
      replace hZ := mj_u2p hZ
      replace hZ := mj_u2p hZ
      exact mj_vret hR ⟨Nat.le_refl _, Nat.le_refl _⟩ rfl dX4_lead_95 hZ
    · replace hf := mj_neg c4 hf
      refine mj_aload_n 1 dX4_lead_57 rfl ?_
      refine mj_iconst dX4_lead_58 kc_iconst_1 ?_
      refine mj_putIr (ci := 2) (j := 6) [(32, (upd o2.2.1 6 (1 : Int32))), (33, o2.2.2.1), (34, o2.2.2.2.1), (35, o2.2.2.2.2.1), (38, r38), (39, r39), (40, o2.2.2.2.2.2)] rfl (by decide) fl_X4_51 rfl rfl s0_32 a0_32 dX4_lead_59 ?_
      obtain rfl := Option.some.inj hf
      have hZ := hq
      replace hZ := mj_u2p hZ
      replace hZ := mj_u2p hZ
      replace hZ := mj_u2p hZ
      replace hZ := mj_u2p hZ
      replace hZ := mj_u2p hZ
      replace hZ := mj_u2p hZ
      exact mj_vret hR ⟨Nat.le_refl _, Nat.le_refl _⟩ rfl dX4_lead_62 hZ
set_option maxRecDepth 100000 in
set_option maxHeartbeats 4000000 in
theorem mtX4_lead {X : mj_XT} {l : Launch} {G : mj_GT} {ad : Nat → Nat} {Qn : Option Value → mj_IT → mj_LT → Prop} (hR : mj_R X l G mj_P0 mj_S0 98 ad 0 0 Qn) (F : Nat) (I : mj_IT) (L : mj_LT) (r32 : Nat → Int32) (r33 : Nat → Int32) (r34 : Nat → Int32) (r35 : Nat → Int32) (r38 : Nat → Int32) (r39 : Nat → Int32) (r40 : Nat → Int32) (x1 : Int32) (x2 : Int32) (x3 : Int32) (x4 : Int32) (o : ((Nat → Int32) × (Nat → Int32) × (Nat → Int32) × (Nat → Int32) × (Nat → Int32) × (Nat → Int32) × (Nat → Int32))) (hf : fnX4_lead F r32 r33 r34 r35 r38 r39 r40 x1 x2 x3 x4 = some o) (hq : (mj_u2 (fun r32 => (mj_u2 (fun r33 => (mj_u2 (fun r34 => (mj_u2 (fun r35 => (mj_u2 (fun r38 => (mj_u2 (fun r39 r40 => Qn none (mj_rows I [(32, r32), (33, r33), (34, r34), (35, r35), (38, r38), (39, r39), (40, r40)]) L)))))))))))) o) : mj_W X G RX4 "lead" cX4_lead 6 2 none mj_P0 mj_S0 98 ad 0 0 0 [(0, .ref 32), (1, .int x1), (2, .int x2), (3, .int x3), (4, .int x4)] [] (mj_rows I [(32, r32), (33, r33), (34, r34), (35, r35), (38, r38), (39, r39), (40, r40)]) L := by
  unfold fnX4_lead at hf
  refine mj_iload 4 dX4_lead_0 rfl ?_
  refine mj_if_eq 12 dX4_lead_2 (by decide) (fun c7 => ?_) (fun c7 => ?_)
  · replace hf := mj_pos c7 hf
    obtain rfl := Option.some.inj hf
    have hZ := hq
    replace hZ := mj_u2p hZ
    replace hZ := mj_u2p hZ
    replace hZ := mj_u2p hZ
    replace hZ := mj_u2p hZ
    replace hZ := mj_u2p hZ
    replace hZ := mj_u2p hZ
    exact mj_vret hR ⟨Nat.le_refl _, Nat.le_refl _⟩ rfl dX4_lead_12 hZ
  · replace hf := mj_neg c7 hf
    refine mj_aload_n 0 dX4_lead_5 rfl ?_
    refine mj_getIv (v := (r32 6)) rfl fl_X4_51 rfl s0_32 a0_32 dX4_lead_6 ?_
    refine mj_if_eq 13 dX4_lead_9 (by decide) (fun c8 => ?_) (fun c8 => ?_)
    · replace hf := mj_pos c8 hf
      refine mj_aload_n 0 dX4_lead_13 rfl ?_
      refine mj_iload_n 2 dX4_lead_14 rfl ?_
      refine mj_iload_n 2 dX4_lead_15 rfl ?_
      refine mj_aload_n 0 dX4_lead_16 rfl ?_
      refine mj_getIv (v := (r32 7)) rfl fl_X4_57 rfl s0_32 a0_32 dX4_lead_17 ?_
      refine mj_icmp_le 27 dX4_lead_20 (by decide) (fun c9 => ?_) (fun c9 => ?_)
      · replace hf := mj_pos c9 hf
        refine mj_iload_n 3 dX4_lead_27 rfl ?_
        refine mj_sub [0, 1, 4] [(0, .ref 32), (1, .int x1), (4, .int x4)] rfl ?_
        exact jtX4_lead_28 hR F I L r32 r33 r34 r35 r38 r39 r40 x1 x4 x2 x3 o hf hq
      · replace hf := mj_neg c9 hf
        refine mj_iconst dX4_lead_23 kc_iconst_0 ?_
        refine mj_goto 28 dX4_lead_24 (by decide) ?_
        refine mj_sub [0, 1, 4] [(0, .ref 32), (1, .int x1), (4, .int x4)] rfl ?_
        exact jtX4_lead_28 hR F I L r32 r33 r34 r35 r38 r39 r40 x1 x4 x2 (0 : Int32) o hf hq
    · replace hf := mj_neg c8 hf
      obtain rfl := Option.some.inj hf
      have hZ := hq
      replace hZ := mj_u2p hZ
      replace hZ := mj_u2p hZ
      replace hZ := mj_u2p hZ
      replace hZ := mj_u2p hZ
      replace hZ := mj_u2p hZ
      replace hZ := mj_u2p hZ
      exact mj_vret hR ⟨Nat.le_refl _, Nat.le_refl _⟩ rfl dX4_lead_12 hZ
set_option maxRecDepth 100000 in
set_option maxHeartbeats 4000000 in
theorem cmX4_lead (l : Launch) (G : mj_GT) (F : Nat) (x1 : Int32) (x2 : Int32) (x3 : Int32) (x4 : Int32) (I : mj_IT) (L : mj_LT) (r32 : Nat → Int32) (r33 : Nat → Int32) (r34 : Nat → Int32) (r35 : Nat → Int32) (r38 : Nat → Int32) (r39 : Nat → Int32) (r40 : Nat → Int32) (hr32 : I 32 = r32) (hr33 : I 33 = r33) (hr34 : I 34 = r34) (hr35 : I 35 = r35) (hr38 : I 38 = r38) (hr39 : I 39 = r39) (hr40 : I 40 = r40) (o : ((Nat → Int32) × (Nat → Int32) × (Nat → Int32) × (Nat → Int32) × (Nat → Int32) × (Nat → Int32) × (Nat → Int32))) (hf : fnX4_lead F r32 r33 r34 r35 r38 r39 r40 x1 x2 x3 x4 = some o) : mj_M l G yX4_lead cX4_lead 6 2 none 0 0 mj_P0 mj_S0 98 [.ref 32, .int x1, .int x2, .int x3, .int x4] I L (mj_qd none (mj_rows I [(32, o.1), (33, o.2.1), (34, o.2.2.1), (35, o.2.2.2.1), (38, o.2.2.2.2.1), (39, o.2.2.2.2.2.1), (40, o.2.2.2.2.2.2)]) L) := by
  refine mj_in RX4 "lead" [(0, .ref 32), (1, .int x1), (2, .int x2), (3, .int x3), (4, .int x4)] rfl rfl rfl (by decide) (Nat.le_of_ble_eq_true rfl) (fun X ad hR => ?_)
  refine mj_toI [(32, r32), (33, r33), (34, r34), (35, r35), (38, r38), (39, r39), (40, r40)] (by intro q hq; simp only [List.mem_cons, List.not_mem_nil, or_false] at hq; rcases hq with rfl | rfl | rfl | rfl | rfl | rfl | rfl <;> assumption) ?_
  refine mtX4_lead hR F I L r32 r33 r34 r35 r38 r39 r40 x1 x2 x3 x4 o hf ?_
  obtain ⟨w0, w1, w2, w3, w4, w5, w6⟩ := o
  refine mj_u2q ?_
  refine mj_u2q ?_
  refine mj_u2q ?_
  refine mj_u2q ?_
  refine mj_u2q ?_
  refine mj_u2q ?_
  exact ⟨rfl, rfl, rfl⟩

-- X7_sumOf
def jnX7_sumOf_48 (F : Nat) (x2 : Int32) (x3 : Int32) (x4 : Int32) : Option ((Int32)) := (if x4 = (1 : Int32) then some ((x2 + x3) - (x2 + x3) / (10 : Int32) * (10 : Int32)) else (if x4 = (2 : Int32) then some (((x2 + (10 : Int32)) - x3) - ((x2 + (10 : Int32)) - x3) / (10 : Int32) * (10 : Int32)) else some x2))
def jnX7_sumOf_33 (F : Nat) (x1 : Int32) (x2 : Int32) (x3 : Int32) (x4 : Int32) : Option ((Int32)) := (if x3 < (10 : Int32) then jnX7_sumOf_48 F x2 x3 x4 else (fnX1_get F x1 (x3 - (10 : Int32))).bind (fun o4 => jnX7_sumOf_48 F x2 o4 x4))
def fnX7_sumOf (F : Nat) (x0 : Int32) (x1 : Int32) : Option ((Int32)) := (if (x0 &&& (15 : Int32)) < (10 : Int32) then jnX7_sumOf_33 F x1 (x0 &&& (15 : Int32)) ((x0 >>> ((4 : Int32) &&& 31)) &&& (15 : Int32)) (x0 >>> ((8 : Int32) &&& 31)) else (fnX1_get F x1 ((x0 &&& (15 : Int32)) - (10 : Int32))).bind (fun o6 => jnX7_sumOf_33 F x1 o6 ((x0 >>> ((4 : Int32) &&& 31)) &&& (15 : Int32)) (x0 >>> ((8 : Int32) &&& 31))))
set_option maxRecDepth 100000 in
set_option maxHeartbeats 4000000 in
theorem jtX7_sumOf_48 {X : mj_XT} {l : Launch} {G : mj_GT} {ad : Nat → Nat} {Qn : Option Value → mj_IT → mj_LT → Prop} (hR : mj_R X l G mj_P0 mj_S0 98 ad 0 0 Qn) (F : Nat) (I : mj_IT) (L : mj_LT) (x2 : Int32) (x3 : Int32) (x4 : Int32) (o : ((Int32))) (hf : jnX7_sumOf_48 F x2 x3 x4 = some o) (hq : (fun ov => Qn (some (.int ov)) I L) o) : mj_W X G RX7 "sumOf" cX7_sumOf 5 2 (some .int) mj_P0 mj_S0 98 ad 0 0 48 [(2, .int x2), (3, .int x3), (4, .int x4)] [] I L := by
  unfold jnX7_sumOf_48 at hf
  refine mj_iload 2 dX7_sumOf_48 rfl ?_
  refine mj_iconst dX7_sumOf_50 kc_iconst_1 ?_
  refine mj_icmp_ne 61 dX7_sumOf_51 (by decide) (fun c1 => ?_) (fun c1 => ?_)
  · replace hf := mj_neg c1 hf
    refine mj_iload 2 dX7_sumOf_61 rfl ?_
    refine mj_iconst dX7_sumOf_63 kc_iconst_2 ?_
    refine mj_icmp_ne 79 dX7_sumOf_64 (by decide) (fun c2 => ?_) (fun c2 => ?_)
    · replace hf := mj_neg c2 hf
      refine mj_iload_n 0 dX7_sumOf_79 rfl ?_
      obtain rfl := Option.some.inj hf
      have hZ := hq
      exact mj_iret hR ⟨Nat.le_refl _, Nat.le_refl _⟩ rfl rfl dX7_sumOf_80 hZ
    · replace hf := mj_pos c2 hf
      refine mj_iload_n 0 dX7_sumOf_67 rfl ?_
      refine mj_bipush dX7_sumOf_68 kc_bipush_10 ?_
      refine mj_iadd dX7_sumOf_70 ?_
      refine mj_iload_n 1 dX7_sumOf_71 rfl ?_
      refine mj_isub dX7_sumOf_72 ?_
      refine mj_bipush dX7_sumOf_73 kc_bipush_10 ?_
      refine mj_irem dX7_sumOf_75 (by decide) ?_
      refine mj_goto 80 dX7_sumOf_76 (by decide) ?_
      obtain rfl := Option.some.inj hf
      have hZ := hq
      exact mj_iret hR ⟨Nat.le_refl _, Nat.le_refl _⟩ rfl rfl dX7_sumOf_80 hZ
  · replace hf := mj_pos c1 hf
    refine mj_iload_n 0 dX7_sumOf_54 rfl ?_
    refine mj_iload_n 1 dX7_sumOf_55 rfl ?_
    refine mj_iadd dX7_sumOf_56 ?_
    refine mj_bipush dX7_sumOf_57 kc_bipush_10 ?_
    refine mj_irem dX7_sumOf_59 (by decide) ?_
    obtain rfl := Option.some.inj hf
    have hZ := hq
    exact mj_iret hR ⟨Nat.le_refl _, Nat.le_refl _⟩ rfl rfl dX7_sumOf_60 hZ
set_option maxRecDepth 100000 in
set_option maxHeartbeats 4000000 in
theorem jtX7_sumOf_33 {X : mj_XT} {l : Launch} {G : mj_GT} {ad : Nat → Nat} {Qn : Option Value → mj_IT → mj_LT → Prop} (hR : mj_R X l G mj_P0 mj_S0 98 ad 0 0 Qn) (F : Nat) (I : mj_IT) (L : mj_LT) (x1 : Int32) (x2 : Int32) (x3 : Int32) (x4 : Int32) (o : ((Int32))) (hf : jnX7_sumOf_33 F x1 x2 x3 x4 = some o) (hq : (fun ov => Qn (some (.int ov)) I L) o) : mj_W X G RX7 "sumOf" cX7_sumOf 5 2 (some .int) mj_P0 mj_S0 98 ad 0 0 33 [(1, .int x1), (2, .int x2), (3, .int x3), (4, .int x4)] [] I L := by
  unfold jnX7_sumOf_33 at hf
  refine mj_iload_n 2 dX7_sumOf_33 rfl ?_
  refine mj_bipush dX7_sumOf_34 kc_bipush_10 ?_
  refine mj_icmp_lt 48 dX7_sumOf_36 (by decide) (fun c3 => ?_) (fun c3 => ?_)
  · replace hf := mj_pos c3 hf
    refine mj_sub [1, 2, 3] [(2, .int x2), (3, .int x3), (4, .int x4)] rfl ?_
    exact jtX7_sumOf_48 hR F I L x2 x3 x4 o hf hq
  · replace hf := mj_neg c3 hf
    refine mj_iload_n 0 dX7_sumOf_39 rfl ?_
    refine mj_iload_n 2 dX7_sumOf_40 rfl ?_
    refine mj_bipush dX7_sumOf_41 kc_bipush_10 ?_
    refine mj_isub dX7_sumOf_43 ?_
    obtain ⟨o4, ho4, hf⟩ := mj_bd hf
    refine mj_callSd (I2 := I) (L2 := L) (s1 := [.int o4]) (st := []) [.int x1, .int (x3 - (10 : Int32))] (cmX1_get X.2.1 G F x1 (x3 - (10 : Int32)) _ _   o4 ho4) rfl rfl cw_X7_54 (by decide) rfl rfl (Nat.le_of_ble_eq_true rfl) ⟨Nat.zero_le _, Nat.zero_le _⟩ dX7_sumOf_44 rfl ?_
    refine mj_istore_n [(3, .int o4), (1, .int x1), (2, .int x2), (4, .int x4)] dX7_sumOf_47 rfl (by decide) rfl ?_
    refine mj_sub [2, 0, 3] [(2, .int x2), (3, .int o4), (4, .int x4)] rfl ?_
    exact jtX7_sumOf_48 hR F I L x2 o4 x4 o hf hq
set_option maxRecDepth 100000 in
set_option maxHeartbeats 4000000 in
theorem mtX7_sumOf {X : mj_XT} {l : Launch} {G : mj_GT} {ad : Nat → Nat} {Qn : Option Value → mj_IT → mj_LT → Prop} (hR : mj_R X l G mj_P0 mj_S0 98 ad 0 0 Qn) (F : Nat) (I : mj_IT) (L : mj_LT) (x0 : Int32) (x1 : Int32) (o : ((Int32))) (hf : fnX7_sumOf F x0 x1 = some o) (hq : (fun ov => Qn (some (.int ov)) I L) o) : mj_W X G RX7 "sumOf" cX7_sumOf 5 2 (some .int) mj_P0 mj_S0 98 ad 0 0 0 [(0, .int x0), (1, .int x1)] [] I L := by
  unfold fnX7_sumOf at hf
  refine mj_iload_n 0 dX7_sumOf_0 rfl ?_
  refine mj_bipush dX7_sumOf_1 kc_bipush_15 ?_
  refine mj_iand dX7_sumOf_3 ?_
  refine mj_istore_n [(2, .int (x0 &&& (15 : Int32))), (0, .int x0), (1, .int x1)] dX7_sumOf_4 rfl (by decide) rfl ?_
  refine mj_iload_n 1 dX7_sumOf_5 rfl ?_
  refine mj_iconst dX7_sumOf_6 kc_iconst_4 ?_
  refine mj_ishr dX7_sumOf_7 ?_
  refine mj_bipush dX7_sumOf_8 kc_bipush_15 ?_
  refine mj_iand dX7_sumOf_10 ?_
  refine mj_istore_n [(3, .int ((x0 >>> ((4 : Int32) &&& 31)) &&& (15 : Int32))), (2, .int (x0 &&& (15 : Int32))), (0, .int x0), (1, .int x1)] dX7_sumOf_11 rfl (by decide) rfl ?_
  refine mj_iload_n 2 dX7_sumOf_12 rfl ?_
  refine mj_bipush dX7_sumOf_13 kc_bipush_8 ?_
  refine mj_ishr dX7_sumOf_15 ?_
  refine mj_istore [(4, .int (x0 >>> ((8 : Int32) &&& 31))), (3, .int ((x0 >>> ((4 : Int32) &&& 31)) &&& (15 : Int32))), (2, .int (x0 &&& (15 : Int32))), (0, .int x0), (1, .int x1)] dX7_sumOf_16 (by decide) rfl ?_
  refine mj_iload_n 2 dX7_sumOf_18 rfl ?_
  refine mj_bipush dX7_sumOf_19 kc_bipush_10 ?_
  refine mj_icmp_lt 33 dX7_sumOf_21 (by decide) (fun c5 => ?_) (fun c5 => ?_)
  · replace hf := mj_pos c5 hf
    refine mj_sub [4, 2, 1, 0] [(1, .int x1), (2, .int (x0 &&& (15 : Int32))), (3, .int ((x0 >>> ((4 : Int32) &&& 31)) &&& (15 : Int32))), (4, .int (x0 >>> ((8 : Int32) &&& 31)))] rfl ?_
    exact jtX7_sumOf_33 hR F I L x1 (x0 &&& (15 : Int32)) ((x0 >>> ((4 : Int32) &&& 31)) &&& (15 : Int32)) (x0 >>> ((8 : Int32) &&& 31)) o hf hq
  · replace hf := mj_neg c5 hf
    refine mj_iload_n 4 dX7_sumOf_24 rfl ?_
    refine mj_iload_n 2 dX7_sumOf_25 rfl ?_
    refine mj_bipush dX7_sumOf_26 kc_bipush_10 ?_
    refine mj_isub dX7_sumOf_28 ?_
    obtain ⟨o6, ho6, hf⟩ := mj_bd hf
    refine mj_callSd (I2 := I) (L2 := L) (s1 := [.int o6]) (st := []) [.int x1, .int ((x0 &&& (15 : Int32)) - (10 : Int32))] (cmX1_get X.2.1 G F x1 ((x0 &&& (15 : Int32)) - (10 : Int32)) _ _   o6 ho6) rfl rfl cw_X7_54 (by decide) rfl rfl (Nat.le_of_ble_eq_true rfl) ⟨Nat.zero_le _, Nat.zero_le _⟩ dX7_sumOf_29 rfl ?_
    refine mj_istore_n [(2, .int o6), (4, .int (x0 >>> ((8 : Int32) &&& 31))), (3, .int ((x0 >>> ((4 : Int32) &&& 31)) &&& (15 : Int32))), (0, .int x0), (1, .int x1)] dX7_sumOf_32 rfl (by decide) rfl ?_
    refine mj_sub [4, 0, 2, 1] [(1, .int x1), (2, .int o6), (3, .int ((x0 >>> ((4 : Int32) &&& 31)) &&& (15 : Int32))), (4, .int (x0 >>> ((8 : Int32) &&& 31)))] rfl ?_
    exact jtX7_sumOf_33 hR F I L x1 o6 ((x0 >>> ((4 : Int32) &&& 31)) &&& (15 : Int32)) (x0 >>> ((8 : Int32) &&& 31)) o hf hq
set_option maxRecDepth 100000 in
set_option maxHeartbeats 4000000 in
theorem cmX7_sumOf (l : Launch) (G : mj_GT) (F : Nat) (x0 : Int32) (x1 : Int32) (I : mj_IT) (L : mj_LT) (o : ((Int32))) (hf : fnX7_sumOf F x0 x1 = some o) : mj_M l G yX7_sumOf cX7_sumOf 5 2 (some .int) 0 0 mj_P0 mj_S0 98 [.int x0, .int x1] I L (mj_qd (some (.int o)) I L) := by
  refine mj_in RX7 "sumOf" [(0, .int x0), (1, .int x1)] rfl rfl rfl (by decide) (Nat.le_of_ble_eq_true rfl) (fun X ad hR => ?_)
  refine mtX7_sumOf hR F I L x0 x1 o hf ?_
  exact ⟨rfl, rfl, rfl⟩

-- X7_assigned
def fnX7_assigned (F : Nat) (r22 : Nat → Int32) (x1 : Int32) (x2 : Int32) : Option ((Int32)) := (if mj_ib x1 40 = true then (fnX7_sumOf F (r22 x1.toNatClampNeg) x2).bind (fun o2 => some o2) else none)
set_option maxRecDepth 100000 in
set_option maxHeartbeats 4000000 in
theorem mtX7_assigned {X : mj_XT} {l : Launch} {G : mj_GT} {ad : Nat → Nat} {Qn : Option Value → mj_IT → mj_LT → Prop} (hR : mj_R X l G mj_P0 mj_S0 98 ad 0 0 Qn) (F : Nat) (I : mj_IT) (L : mj_LT) (r22 : Nat → Int32) (x1 : Int32) (x2 : Int32) (o : ((Int32))) (hf : fnX7_assigned F r22 x1 x2 = some o) (hq : (fun ov => Qn (some (.int ov)) (mj_rows I [(22, r22)]) L) o) : mj_W X G RX7 "assigned" cX7_assigned 3 3 (some .int) mj_P0 mj_S0 98 ad 0 0 0 [(0, .ref 18), (1, .int x1), (2, .int x2)] [] (mj_rows I [(22, r22)]) L := by
  unfold fnX7_assigned at hf
  refine mj_aload_n 0 dX7_assigned_0 rfl ?_
  refine mj_getP p0_18_4 (by decide) fl_X7_21 rfl s0_18 a0_18 dX7_assigned_1 ?_
  refine mj_iload_n 1 dX7_assigned_4 rfl ?_
  obtain ⟨z1, hf⟩ := mj_ck hf
  refine mj_ialdv (x := r22) rfl s0_22 a0_22 z1 dX7_assigned_5 ?_
  refine mj_iload_n 2 dX7_assigned_6 rfl ?_
  obtain ⟨o2, ho2, hf⟩ := mj_bd hf
  refine mj_callSd (I2 := (mj_rows I [(22, r22)])) (L2 := L) (s1 := [.int o2]) (st := []) [.int (r22 x1.toNatClampNeg), .int x2] (cmX7_sumOf X.2.1 G F (r22 x1.toNatClampNeg) x2 _ _   o2 ho2) rfl rfl cw_X7_50 (by decide) rfl rfl (Nat.le_of_ble_eq_true rfl) ⟨Nat.zero_le _, Nat.zero_le _⟩ dX7_assigned_7 rfl ?_
  obtain rfl := Option.some.inj hf
  have hZ := hq
  exact mj_iret hR ⟨Nat.le_refl _, Nat.le_refl _⟩ rfl rfl dX7_assigned_10 hZ
set_option maxRecDepth 100000 in
set_option maxHeartbeats 4000000 in
theorem cmX7_assigned (l : Launch) (G : mj_GT) (F : Nat) (x1 : Int32) (x2 : Int32) (I : mj_IT) (L : mj_LT) (r22 : Nat → Int32) (hr22 : I 22 = r22) (o : ((Int32))) (hf : fnX7_assigned F r22 x1 x2 = some o) : mj_M l G yX7_assigned cX7_assigned 3 3 (some .int) 0 0 mj_P0 mj_S0 98 [.ref 18, .int x1, .int x2] I L (mj_qd (some (.int o)) (mj_rows I [(22, r22)]) L) := by
  refine mj_in RX7 "assigned" [(0, .ref 18), (1, .int x1), (2, .int x2)] rfl rfl rfl (by decide) (Nat.le_of_ble_eq_true rfl) (fun X ad hR => ?_)
  refine mj_toI [(22, r22)] (by intro q hq; simp only [List.mem_cons, List.not_mem_nil, or_false] at hq; rcases hq with rfl <;> assumption) ?_
  refine mtX7_assigned hR F I L r22 x1 x2 o hf ?_
  exact ⟨rfl, rfl, rfl⟩

-- X7_holds
def fnX7_holds (F : Nat) (r22 : Nat → Int32) (r23 : Nat → Int32) (r24 : Nat → Int32) (x1 : Int32) (x2 : Int32) : Option ((Int32)) := (if mj_ib x1 40 = true then (fnX7_sumOf F (r22 x1.toNatClampNeg) x2).bind (fun o2 => (if mj_ib x1 40 = true then (fnX7_sumOf F (r24 x1.toNatClampNeg) x2).bind (fun o4 => (if mj_ib x1 40 = true then (if (r23 x1.toNatClampNeg) = (61 : Int32) then (if o2 = o4 then some (1 : Int32) else some (0 : Int32)) else (if mj_ib x1 40 = true then (if (r23 x1.toNatClampNeg) = (60 : Int32) then (if o4 ≤ o2 then some (0 : Int32) else some (1 : Int32)) else (if o2 = o4 then some (0 : Int32) else some (1 : Int32))) else none)) else none)) else none)) else none)
set_option maxRecDepth 100000 in
set_option maxHeartbeats 4000000 in
theorem mtX7_holds {X : mj_XT} {l : Launch} {G : mj_GT} {ad : Nat → Nat} {Qn : Option Value → mj_IT → mj_LT → Prop} (hR : mj_R X l G mj_P0 mj_S0 98 ad 0 0 Qn) (F : Nat) (I : mj_IT) (L : mj_LT) (r22 : Nat → Int32) (r23 : Nat → Int32) (r24 : Nat → Int32) (x1 : Int32) (x2 : Int32) (o : ((Int32))) (hf : fnX7_holds F r22 r23 r24 x1 x2 = some o) (hq : (fun ov => Qn (some (.int ov)) (mj_rows I [(22, r22), (23, r23), (24, r24)]) L) o) : mj_W X G RX7 "holds" cX7_holds 5 3 (some .boolean) mj_P0 mj_S0 98 ad 0 0 0 [(0, .ref 18), (1, .int x1), (2, .int x2)] [] (mj_rows I [(22, r22), (23, r23), (24, r24)]) L := by
  unfold fnX7_holds at hf
  refine mj_aload_n 0 dX7_holds_0 rfl ?_
  refine mj_getP p0_18_4 (by decide) fl_X7_21 rfl s0_18 a0_18 dX7_holds_1 ?_
  refine mj_iload_n 1 dX7_holds_4 rfl ?_
  obtain ⟨z1, hf⟩ := mj_ck hf
  refine mj_ialdv (x := r22) rfl s0_22 a0_22 z1 dX7_holds_5 ?_
  refine mj_iload_n 2 dX7_holds_6 rfl ?_
  obtain ⟨o2, ho2, hf⟩ := mj_bd hf
  refine mj_callSd (I2 := (mj_rows I [(22, r22), (23, r23), (24, r24)])) (L2 := L) (s1 := [.int o2]) (st := []) [.int (r22 x1.toNatClampNeg), .int x2] (cmX7_sumOf X.2.1 G F (r22 x1.toNatClampNeg) x2 _ _   o2 ho2) rfl rfl cw_X7_50 (by decide) rfl rfl (Nat.le_of_ble_eq_true rfl) ⟨Nat.zero_le _, Nat.zero_le _⟩ dX7_holds_7 rfl ?_
  refine mj_istore_n [(3, .int o2), (0, .ref 18), (1, .int x1), (2, .int x2)] dX7_holds_10 rfl (by decide) rfl ?_
  refine mj_aload_n 1 dX7_holds_11 rfl ?_
  refine mj_getP p0_18_6 (by decide) fl_X7_27 rfl s0_18 a0_18 dX7_holds_12 ?_
  refine mj_iload_n 2 dX7_holds_15 rfl ?_
  obtain ⟨z3, hf⟩ := mj_ck hf
  refine mj_ialdv (x := r24) rfl s0_24 a0_24 z3 dX7_holds_16 ?_
  refine mj_iload_n 3 dX7_holds_17 rfl ?_
  obtain ⟨o4, ho4, hf⟩ := mj_bd hf
  refine mj_callSd (I2 := (mj_rows I [(22, r22), (23, r23), (24, r24)])) (L2 := L) (s1 := [.int o4]) (st := []) [.int (r24 x1.toNatClampNeg), .int x2] (cmX7_sumOf X.2.1 G F (r24 x1.toNatClampNeg) x2 _ _   o4 ho4) rfl rfl cw_X7_50 (by decide) rfl rfl (Nat.le_of_ble_eq_true rfl) ⟨Nat.zero_le _, Nat.zero_le _⟩ dX7_holds_18 rfl ?_
  refine mj_istore [(4, .int o4), (3, .int o2), (0, .ref 18), (1, .int x1), (2, .int x2)] dX7_holds_21 (by decide) rfl ?_
  refine mj_aload_n 2 dX7_holds_23 rfl ?_
  refine mj_getP p0_18_5 (by decide) fl_X7_24 rfl s0_18 a0_18 dX7_holds_24 ?_
  refine mj_iload_n 3 dX7_holds_27 rfl ?_
  obtain ⟨z5, hf⟩ := mj_ck hf
  refine mj_ialdv (x := r23) rfl s0_23 a0_23 z5 dX7_holds_28 ?_
  refine mj_bipush dX7_holds_29 kc_bipush_61 ?_
  refine mj_icmp_ne 46 dX7_holds_31 (by decide) (fun c6 => ?_) (fun c6 => ?_)
  · replace hf := mj_neg c6 hf
    refine mj_aload_n 2 dX7_holds_46 rfl ?_
    refine mj_getP p0_18_5 (by decide) fl_X7_24 rfl s0_18 a0_18 dX7_holds_47 ?_
    refine mj_iload_n 3 dX7_holds_50 rfl ?_
    obtain ⟨z7, hf⟩ := mj_ck hf
    refine mj_ialdv (x := r23) rfl s0_23 a0_23 z7 dX7_holds_51 ?_
    refine mj_bipush dX7_holds_52 kc_bipush_60 ?_
    refine mj_icmp_ne 71 dX7_holds_54 (by decide) (fun c8 => ?_) (fun c8 => ?_)
    · replace hf := mj_neg c8 hf
      refine mj_iload_n 1 dX7_holds_71 rfl ?_
      refine mj_iload 0 dX7_holds_72 rfl ?_
      refine mj_icmp_eq 81 dX7_holds_74 (by decide) (fun c9 => ?_) (fun c9 => ?_)
      · replace hf := mj_pos c9 hf
        refine mj_iconst dX7_holds_81 kc_iconst_0 ?_
        obtain rfl := Option.some.inj hf
        have hZ := hq
        exact mj_iret hR ⟨Nat.le_refl _, Nat.le_refl _⟩ rfl (by decide) dX7_holds_82 hZ
      · replace hf := mj_neg c9 hf
        refine mj_iconst dX7_holds_77 kc_iconst_1 ?_
        refine mj_goto 82 dX7_holds_78 (by decide) ?_
        obtain rfl := Option.some.inj hf
        have hZ := hq
        exact mj_iret hR ⟨Nat.le_refl _, Nat.le_refl _⟩ rfl (by decide) dX7_holds_82 hZ
    · replace hf := mj_pos c8 hf
      refine mj_iload_n 1 dX7_holds_57 rfl ?_
      refine mj_iload 0 dX7_holds_58 rfl ?_
      refine mj_icmp_ge 67 dX7_holds_60 (by decide) (fun c10 => ?_) (fun c10 => ?_)
      · replace hf := mj_pos c10 hf
        refine mj_iconst dX7_holds_67 kc_iconst_0 ?_
        refine mj_goto 82 dX7_holds_68 (by decide) ?_
        obtain rfl := Option.some.inj hf
        have hZ := hq
        exact mj_iret hR ⟨Nat.le_refl _, Nat.le_refl _⟩ rfl (by decide) dX7_holds_82 hZ
      · replace hf := mj_neg c10 hf
        refine mj_iconst dX7_holds_63 kc_iconst_1 ?_
        refine mj_goto 82 dX7_holds_64 (by decide) ?_
        obtain rfl := Option.some.inj hf
        have hZ := hq
        exact mj_iret hR ⟨Nat.le_refl _, Nat.le_refl _⟩ rfl (by decide) dX7_holds_82 hZ
  · replace hf := mj_pos c6 hf
    refine mj_iload_n 1 dX7_holds_34 rfl ?_
    refine mj_iload 0 dX7_holds_35 rfl ?_
    refine mj_icmp_ne 44 dX7_holds_37 (by decide) (fun c11 => ?_) (fun c11 => ?_)
    · replace hf := mj_neg c11 hf
      refine mj_iconst dX7_holds_44 kc_iconst_0 ?_
      obtain rfl := Option.some.inj hf
      have hZ := hq
      exact mj_iret hR ⟨Nat.le_refl _, Nat.le_refl _⟩ rfl (by decide) dX7_holds_45 hZ
    · replace hf := mj_pos c11 hf
      refine mj_iconst dX7_holds_40 kc_iconst_1 ?_
      refine mj_goto 45 dX7_holds_41 (by decide) ?_
      obtain rfl := Option.some.inj hf
      have hZ := hq
      exact mj_iret hR ⟨Nat.le_refl _, Nat.le_refl _⟩ rfl (by decide) dX7_holds_45 hZ
set_option maxRecDepth 100000 in
set_option maxHeartbeats 4000000 in
theorem cmX7_holds (l : Launch) (G : mj_GT) (F : Nat) (x1 : Int32) (x2 : Int32) (I : mj_IT) (L : mj_LT) (r22 : Nat → Int32) (r23 : Nat → Int32) (r24 : Nat → Int32) (hr22 : I 22 = r22) (hr23 : I 23 = r23) (hr24 : I 24 = r24) (o : ((Int32))) (hf : fnX7_holds F r22 r23 r24 x1 x2 = some o) : mj_M l G yX7_holds cX7_holds 5 3 (some .boolean) 0 0 mj_P0 mj_S0 98 [.ref 18, .int x1, .int x2] I L (mj_qd (some (.int o)) (mj_rows I [(22, r22), (23, r23), (24, r24)]) L) := by
  refine mj_in RX7 "holds" [(0, .ref 18), (1, .int x1), (2, .int x2)] rfl rfl rfl (by decide) (Nat.le_of_ble_eq_true rfl) (fun X ad hR => ?_)
  refine mj_toI [(22, r22), (23, r23), (24, r24)] (by intro q hq; simp only [List.mem_cons, List.not_mem_nil, or_false] at hq; rcases hq with rfl | rfl | rfl <;> assumption) ?_
  refine mtX7_holds hR F I L r22 r23 r24 x1 x2 o hf ?_
  exact ⟨rfl, rfl, rfl⟩

