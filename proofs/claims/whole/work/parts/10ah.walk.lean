-- X8_isWord_2_2004
def bdX8_isWord_2_2004_28 (F : Nat) (r2 : Nat → Int32) (r3 : Nat → Int32) (x2 : Int32) : Option (((Int32)) ⊕ (Unit ⊕ Unit)) := (if (5 : Int32) ≤ x2 then some (.inr (.inl ())) else (if mj_ib ((r2 5) + x2) 400 = true then (if mj_ib x2 5 = true then (if (r3 (((r2 5) + x2).toNatClampNeg)) = (mj_ch 3 x2.toNatClampNeg) then some (.inl (x2 + (1))) else some (.inr (.inr ()))) else none) else none))
def fnX8_isWord_2_2004 (F : Nat) (r2 : Nat → Int32) (r3 : Nat → Int32) : Option ((Int32)) := (if (r2 4) = (1 : Int32) then (if ((r2 6) - (r2 5)) = (5 : Int32) then (mj_it (bdX8_isWord_2_2004_28 F r2 r3) F (0 : Int32)).bind (Sum.elim (fun _ => some (1 : Int32)) (fun _ => some (0 : Int32))) else some (0 : Int32)) else some (0 : Int32))
set_option maxRecDepth 100000 in
set_option maxHeartbeats 4000000 in
theorem lpX8_isWord_2_2004_28 {X : mj_XT} {l : Launch} {G : mj_GT} {ad : Nat → Nat} {Qn : Option Value → mj_IT → mj_LT → Prop} (hR : mj_R X l G mj_P0 mj_S0 98 ad 0 0 Qn) (F : Nat) (I : mj_IT) (L : mj_LT) (r2 : Nat → Int32) (r3 : Nat → Int32) : ∀ (n : Nat) (s : ((Int32))) (e : (Unit ⊕ Unit)), mj_it (bdX8_isWord_2_2004_28 F r2 r3) n s = some e → (Sum.elim (fun _ => mj_W X G RX8 "isWord" cX8_isWord 3 5 (some .boolean) mj_P0 mj_S0 98 ad 0 0 63 [] [] (mj_rows I [(2, r2), (3, r3)]) L) (fun _ => mj_W X G RX8 "isWord" cX8_isWord 3 5 (some .boolean) mj_P0 mj_S0 98 ad 0 0 55 [] [] (mj_rows I [(2, r2), (3, r3)]) L)) e → (fun x2 => mj_W X G RX8 "isWord" cX8_isWord 3 5 (some .boolean) mj_P0 mj_S0 98 ad 0 0 28 [(0, .ref 2), (1, .ref 2004), (2, .int x2)] [] (mj_rows I [(2, r2), (3, r3)]) L) s := by
  refine mj_loop (fun x2 o hf hc hx => ?_)
  unfold bdX8_isWord_2_2004_28 at hf
  refine mj_iload_n 2 dX8_isWord_28 rfl ?_
  refine mj_aload_n 1 dX8_isWord_29 rfl ?_
  refine mj_callVs (i := 3) (I2 := (mj_rows I [(2, r2), (3, r3)])) (L2 := L) (s1 := [.int (5 : Int32), .int x2]) (st := [.int x2]) [] (cmJ0_length X.2.1 G 3 2004 rfl (by decide) _ _) rfl rfl cw_X8_85 rfl (by decide) (by decide) rfl rfl (Nat.le_of_ble_eq_true rfl) ⟨Nat.zero_le _, Nat.zero_le _⟩ dX8_isWord_30 rfl ?_
  refine mj_icmp_ge 63 dX8_isWord_33 (by decide) (fun c2 => ?_) (fun c2 => ?_)
  · replace hf := mj_pos c2 hf
    refine mj_sub [] [] rfl ?_
    obtain rfl := Option.some.inj hf
    have hZ := hx (.inl ()) rfl
    replace hZ := mj_el hZ
    exact hZ
  · replace hf := mj_neg c2 hf
    refine mj_aload_n 0 dX8_isWord_36 rfl ?_
    refine mj_getP p0_2_1 (by decide) fl_X8_9 rfl s0_2 a0_2 dX8_isWord_37 ?_
    refine mj_aload_n 0 dX8_isWord_40 rfl ?_
    refine mj_getIv (v := (r2 5)) rfl fl_X8_79 rfl s0_2 a0_2 dX8_isWord_41 ?_
    refine mj_iload_n 2 dX8_isWord_44 rfl ?_
    refine mj_iadd dX8_isWord_45 ?_
    obtain ⟨z3, hf⟩ := mj_ck hf
    refine mj_ialdv (x := r3) rfl s0_3 a0_3 z3 dX8_isWord_46 ?_
    refine mj_aload_n 1 dX8_isWord_47 rfl ?_
    refine mj_iload_n 2 dX8_isWord_48 rfl ?_
    obtain ⟨z4, hf⟩ := mj_ck hf
    refine mj_callVs (i := 3) (I2 := (mj_rows I [(2, r2), (3, r3)])) (L2 := L) (s1 := [.int (mj_ch 3 x2.toNatClampNeg), .int (r3 (((r2 5) + x2).toNatClampNeg))]) (st := [.int (r3 (((r2 5) + x2).toNatClampNeg))]) [.int x2] (cmJ0_charAt X.2.1 G 3 2004 rfl (by decide) x2 _ _ z4) rfl rfl cw_X8_90 rfl (by decide) (by decide) rfl rfl (Nat.le_of_ble_eq_true rfl) ⟨Nat.zero_le _, Nat.zero_le _⟩ dX8_isWord_49 rfl ?_
    refine mj_icmp_eq 57 dX8_isWord_52 (by decide) (fun c5 => ?_) (fun c5 => ?_)
    · replace hf := mj_pos c5 hf
      refine mj_iinc 2 [(2, .int (x2 + (1))), (0, .ref 2), (1, .ref 2004)] dX8_isWord_57 rfl (kz_1 _) (by decide) rfl ?_
      refine mj_goto 28 dX8_isWord_60 (by decide) ?_
      refine mj_sub [1, 2, 0] [(0, .ref 2), (1, .ref 2004), (2, .int (x2 + (1)))] rfl ?_
      obtain rfl := Option.some.inj hf
      have hZ := hc (x2 + (1)) rfl
      exact hZ
    · replace hf := mj_neg c5 hf
      refine mj_sub [] [] rfl ?_
      obtain rfl := Option.some.inj hf
      have hZ := hx (.inr ()) rfl
      replace hZ := mj_er hZ
      exact hZ
set_option maxRecDepth 100000 in
set_option maxHeartbeats 4000000 in
theorem mtX8_isWord_2_2004 {X : mj_XT} {l : Launch} {G : mj_GT} {ad : Nat → Nat} {Qn : Option Value → mj_IT → mj_LT → Prop} (hR : mj_R X l G mj_P0 mj_S0 98 ad 0 0 Qn) (F : Nat) (I : mj_IT) (L : mj_LT) (r2 : Nat → Int32) (r3 : Nat → Int32) (o : ((Int32))) (hf : fnX8_isWord_2_2004 F r2 r3 = some o) (hq : (fun ov => Qn (some (.int ov)) (mj_rows I [(2, r2), (3, r3)]) L) o) : mj_W X G RX8 "isWord" cX8_isWord 3 5 (some .boolean) mj_P0 mj_S0 98 ad 0 0 0 [(0, .ref 2), (1, .ref 2004)] [] (mj_rows I [(2, r2), (3, r3)]) L := by
  unfold fnX8_isWord_2_2004 at hf
  refine mj_aload_n 0 dX8_isWord_0 rfl ?_
  refine mj_getIv (v := (r2 4)) rfl fl_X8_63 rfl s0_2 a0_2 dX8_isWord_1 ?_
  refine mj_iconst dX8_isWord_4 kc_iconst_1 ?_
  refine mj_icmp_ne 24 dX8_isWord_5 (by decide) (fun c6 => ?_) (fun c6 => ?_)
  · replace hf := mj_neg c6 hf
    refine mj_iconst dX8_isWord_24 kc_iconst_0 ?_
    obtain rfl := Option.some.inj hf
    have hZ := hq
    exact mj_iret hR ⟨Nat.le_refl _, Nat.le_refl _⟩ rfl (by decide) dX8_isWord_25 hZ
  · replace hf := mj_pos c6 hf
    refine mj_aload_n 0 dX8_isWord_8 rfl ?_
    refine mj_getIv (v := (r2 6)) rfl fl_X8_48 rfl s0_2 a0_2 dX8_isWord_9 ?_
    refine mj_aload_n 0 dX8_isWord_12 rfl ?_
    refine mj_getIv (v := (r2 5)) rfl fl_X8_79 rfl s0_2 a0_2 dX8_isWord_13 ?_
    refine mj_isub dX8_isWord_16 ?_
    refine mj_aload_n 1 dX8_isWord_17 rfl ?_
    refine mj_callVs (i := 3) (I2 := (mj_rows I [(2, r2), (3, r3)])) (L2 := L) (s1 := [.int (5 : Int32), .int ((r2 6) - (r2 5))]) (st := [.int ((r2 6) - (r2 5))]) [] (cmJ0_length X.2.1 G 3 2004 rfl (by decide) _ _) rfl rfl cw_X8_85 rfl (by decide) (by decide) rfl rfl (Nat.le_of_ble_eq_true rfl) ⟨Nat.zero_le _, Nat.zero_le _⟩ dX8_isWord_18 rfl ?_
    refine mj_icmp_eq 26 dX8_isWord_21 (by decide) (fun c8 => ?_) (fun c8 => ?_)
    · replace hf := mj_pos c8 hf
      refine mj_iconst dX8_isWord_26 kc_iconst_0 ?_
      refine mj_istore_n [(2, .int (0 : Int32)), (0, .ref 2), (1, .ref 2004)] dX8_isWord_27 rfl (by decide) rfl ?_
      refine mj_sub [1, 2, 0] [(0, .ref 2), (1, .ref 2004), (2, .int (0 : Int32))] rfl ?_
      obtain ⟨e9, ho9, hf⟩ := mj_bd hf
      refine lpX8_isWord_2_2004_28 hR F I L r2 r3 F (0 : Int32) e9 ho9 ?_
      rcases e9 with e9 | e9
      · replace hf := mj_ele hf
        refine mj_elq (?_)
        refine mj_iconst dX8_isWord_63 kc_iconst_1 ?_
        obtain rfl := Option.some.inj hf
        have hZ := hq
        exact mj_iret hR ⟨Nat.le_refl _, Nat.le_refl _⟩ rfl (by decide) dX8_isWord_64 hZ
      · replace hf := mj_ere hf
        refine mj_erq (?_)
        refine mj_iconst dX8_isWord_55 kc_iconst_0 ?_
        obtain rfl := Option.some.inj hf
        have hZ := hq
        exact mj_iret hR ⟨Nat.le_refl _, Nat.le_refl _⟩ rfl (by decide) dX8_isWord_56 hZ
    · replace hf := mj_neg c8 hf
      refine mj_iconst dX8_isWord_24 kc_iconst_0 ?_
      obtain rfl := Option.some.inj hf
      have hZ := hq
      exact mj_iret hR ⟨Nat.le_refl _, Nat.le_refl _⟩ rfl (by decide) dX8_isWord_25 hZ
set_option maxRecDepth 100000 in
set_option maxHeartbeats 4000000 in
theorem cmX8_isWord_2_2004 (l : Launch) (G : mj_GT) (F : Nat) (I : mj_IT) (L : mj_LT) (r2 : Nat → Int32) (r3 : Nat → Int32) (hr2 : I 2 = r2) (hr3 : I 3 = r3) (o : ((Int32))) (hf : fnX8_isWord_2_2004 F r2 r3 = some o) : mj_M l G yX8_isWord cX8_isWord 3 5 (some .boolean) 0 0 mj_P0 mj_S0 98 [.ref 2, .ref 2004] I L (mj_qd (some (.int o)) (mj_rows I [(2, r2), (3, r3)]) L) := by
  refine mj_in RX8 "isWord" [(0, .ref 2), (1, .ref 2004)] rfl rfl rfl (by decide) (Nat.le_of_ble_eq_true rfl) (fun X ad hR => ?_)
  refine mj_toI [(2, r2), (3, r3)] (by intro q hq; simp only [List.mem_cons, List.not_mem_nil, or_false] at hq; rcases hq with rfl | rfl <;> assumption) ?_
  refine mtX8_isWord_2_2004 hR F I L r2 r3 o hf ?_
  exact ⟨rfl, rfl, rfl⟩

-- X8_isWord_2_2005
def bdX8_isWord_2_2005_28 (F : Nat) (r2 : Nat → Int32) (r3 : Nat → Int32) (x2 : Int32) : Option (((Int32)) ⊕ (Unit ⊕ Unit)) := (if (7 : Int32) ≤ x2 then some (.inr (.inl ())) else (if mj_ib ((r2 5) + x2) 400 = true then (if mj_ib x2 7 = true then (if (r3 (((r2 5) + x2).toNatClampNeg)) = (mj_ch 4 x2.toNatClampNeg) then some (.inl (x2 + (1))) else some (.inr (.inr ()))) else none) else none))
def fnX8_isWord_2_2005 (F : Nat) (r2 : Nat → Int32) (r3 : Nat → Int32) : Option ((Int32)) := (if (r2 4) = (1 : Int32) then (if ((r2 6) - (r2 5)) = (7 : Int32) then (mj_it (bdX8_isWord_2_2005_28 F r2 r3) F (0 : Int32)).bind (Sum.elim (fun _ => some (1 : Int32)) (fun _ => some (0 : Int32))) else some (0 : Int32)) else some (0 : Int32))
set_option maxRecDepth 100000 in
set_option maxHeartbeats 4000000 in
theorem lpX8_isWord_2_2005_28 {X : mj_XT} {l : Launch} {G : mj_GT} {ad : Nat → Nat} {Qn : Option Value → mj_IT → mj_LT → Prop} (hR : mj_R X l G mj_P0 mj_S0 98 ad 0 0 Qn) (F : Nat) (I : mj_IT) (L : mj_LT) (r2 : Nat → Int32) (r3 : Nat → Int32) : ∀ (n : Nat) (s : ((Int32))) (e : (Unit ⊕ Unit)), mj_it (bdX8_isWord_2_2005_28 F r2 r3) n s = some e → (Sum.elim (fun _ => mj_W X G RX8 "isWord" cX8_isWord 3 5 (some .boolean) mj_P0 mj_S0 98 ad 0 0 63 [] [] (mj_rows I [(2, r2), (3, r3)]) L) (fun _ => mj_W X G RX8 "isWord" cX8_isWord 3 5 (some .boolean) mj_P0 mj_S0 98 ad 0 0 55 [] [] (mj_rows I [(2, r2), (3, r3)]) L)) e → (fun x2 => mj_W X G RX8 "isWord" cX8_isWord 3 5 (some .boolean) mj_P0 mj_S0 98 ad 0 0 28 [(0, .ref 2), (1, .ref 2005), (2, .int x2)] [] (mj_rows I [(2, r2), (3, r3)]) L) s := by
  refine mj_loop (fun x2 o hf hc hx => ?_)
  unfold bdX8_isWord_2_2005_28 at hf
  refine mj_iload_n 2 dX8_isWord_28 rfl ?_
  refine mj_aload_n 1 dX8_isWord_29 rfl ?_
  refine mj_callVs (i := 4) (I2 := (mj_rows I [(2, r2), (3, r3)])) (L2 := L) (s1 := [.int (7 : Int32), .int x2]) (st := [.int x2]) [] (cmJ0_length X.2.1 G 4 2005 rfl (by decide) _ _) rfl rfl cw_X8_85 rfl (by decide) (by decide) rfl rfl (Nat.le_of_ble_eq_true rfl) ⟨Nat.zero_le _, Nat.zero_le _⟩ dX8_isWord_30 rfl ?_
  refine mj_icmp_ge 63 dX8_isWord_33 (by decide) (fun c2 => ?_) (fun c2 => ?_)
  · replace hf := mj_pos c2 hf
    refine mj_sub [] [] rfl ?_
    obtain rfl := Option.some.inj hf
    have hZ := hx (.inl ()) rfl
    replace hZ := mj_el hZ
    exact hZ
  · replace hf := mj_neg c2 hf
    refine mj_aload_n 0 dX8_isWord_36 rfl ?_
    refine mj_getP p0_2_1 (by decide) fl_X8_9 rfl s0_2 a0_2 dX8_isWord_37 ?_
    refine mj_aload_n 0 dX8_isWord_40 rfl ?_
    refine mj_getIv (v := (r2 5)) rfl fl_X8_79 rfl s0_2 a0_2 dX8_isWord_41 ?_
    refine mj_iload_n 2 dX8_isWord_44 rfl ?_
    refine mj_iadd dX8_isWord_45 ?_
    obtain ⟨z3, hf⟩ := mj_ck hf
    refine mj_ialdv (x := r3) rfl s0_3 a0_3 z3 dX8_isWord_46 ?_
    refine mj_aload_n 1 dX8_isWord_47 rfl ?_
    refine mj_iload_n 2 dX8_isWord_48 rfl ?_
    obtain ⟨z4, hf⟩ := mj_ck hf
    refine mj_callVs (i := 4) (I2 := (mj_rows I [(2, r2), (3, r3)])) (L2 := L) (s1 := [.int (mj_ch 4 x2.toNatClampNeg), .int (r3 (((r2 5) + x2).toNatClampNeg))]) (st := [.int (r3 (((r2 5) + x2).toNatClampNeg))]) [.int x2] (cmJ0_charAt X.2.1 G 4 2005 rfl (by decide) x2 _ _ z4) rfl rfl cw_X8_90 rfl (by decide) (by decide) rfl rfl (Nat.le_of_ble_eq_true rfl) ⟨Nat.zero_le _, Nat.zero_le _⟩ dX8_isWord_49 rfl ?_
    refine mj_icmp_eq 57 dX8_isWord_52 (by decide) (fun c5 => ?_) (fun c5 => ?_)
    · replace hf := mj_pos c5 hf
      refine mj_iinc 2 [(2, .int (x2 + (1))), (0, .ref 2), (1, .ref 2005)] dX8_isWord_57 rfl (kz_1 _) (by decide) rfl ?_
      refine mj_goto 28 dX8_isWord_60 (by decide) ?_
      refine mj_sub [1, 2, 0] [(0, .ref 2), (1, .ref 2005), (2, .int (x2 + (1)))] rfl ?_
      obtain rfl := Option.some.inj hf
      have hZ := hc (x2 + (1)) rfl
      exact hZ
    · replace hf := mj_neg c5 hf
      refine mj_sub [] [] rfl ?_
      obtain rfl := Option.some.inj hf
      have hZ := hx (.inr ()) rfl
      replace hZ := mj_er hZ
      exact hZ
set_option maxRecDepth 100000 in
set_option maxHeartbeats 4000000 in
theorem mtX8_isWord_2_2005 {X : mj_XT} {l : Launch} {G : mj_GT} {ad : Nat → Nat} {Qn : Option Value → mj_IT → mj_LT → Prop} (hR : mj_R X l G mj_P0 mj_S0 98 ad 0 0 Qn) (F : Nat) (I : mj_IT) (L : mj_LT) (r2 : Nat → Int32) (r3 : Nat → Int32) (o : ((Int32))) (hf : fnX8_isWord_2_2005 F r2 r3 = some o) (hq : (fun ov => Qn (some (.int ov)) (mj_rows I [(2, r2), (3, r3)]) L) o) : mj_W X G RX8 "isWord" cX8_isWord 3 5 (some .boolean) mj_P0 mj_S0 98 ad 0 0 0 [(0, .ref 2), (1, .ref 2005)] [] (mj_rows I [(2, r2), (3, r3)]) L := by
  unfold fnX8_isWord_2_2005 at hf
  refine mj_aload_n 0 dX8_isWord_0 rfl ?_
  refine mj_getIv (v := (r2 4)) rfl fl_X8_63 rfl s0_2 a0_2 dX8_isWord_1 ?_
  refine mj_iconst dX8_isWord_4 kc_iconst_1 ?_
  refine mj_icmp_ne 24 dX8_isWord_5 (by decide) (fun c6 => ?_) (fun c6 => ?_)
  · replace hf := mj_neg c6 hf
    refine mj_iconst dX8_isWord_24 kc_iconst_0 ?_
    obtain rfl := Option.some.inj hf
    have hZ := hq
    exact mj_iret hR ⟨Nat.le_refl _, Nat.le_refl _⟩ rfl (by decide) dX8_isWord_25 hZ
  · replace hf := mj_pos c6 hf
    refine mj_aload_n 0 dX8_isWord_8 rfl ?_
    refine mj_getIv (v := (r2 6)) rfl fl_X8_48 rfl s0_2 a0_2 dX8_isWord_9 ?_
    refine mj_aload_n 0 dX8_isWord_12 rfl ?_
    refine mj_getIv (v := (r2 5)) rfl fl_X8_79 rfl s0_2 a0_2 dX8_isWord_13 ?_
    refine mj_isub dX8_isWord_16 ?_
    refine mj_aload_n 1 dX8_isWord_17 rfl ?_
    refine mj_callVs (i := 4) (I2 := (mj_rows I [(2, r2), (3, r3)])) (L2 := L) (s1 := [.int (7 : Int32), .int ((r2 6) - (r2 5))]) (st := [.int ((r2 6) - (r2 5))]) [] (cmJ0_length X.2.1 G 4 2005 rfl (by decide) _ _) rfl rfl cw_X8_85 rfl (by decide) (by decide) rfl rfl (Nat.le_of_ble_eq_true rfl) ⟨Nat.zero_le _, Nat.zero_le _⟩ dX8_isWord_18 rfl ?_
    refine mj_icmp_eq 26 dX8_isWord_21 (by decide) (fun c8 => ?_) (fun c8 => ?_)
    · replace hf := mj_pos c8 hf
      refine mj_iconst dX8_isWord_26 kc_iconst_0 ?_
      refine mj_istore_n [(2, .int (0 : Int32)), (0, .ref 2), (1, .ref 2005)] dX8_isWord_27 rfl (by decide) rfl ?_
      refine mj_sub [1, 2, 0] [(0, .ref 2), (1, .ref 2005), (2, .int (0 : Int32))] rfl ?_
      obtain ⟨e9, ho9, hf⟩ := mj_bd hf
      refine lpX8_isWord_2_2005_28 hR F I L r2 r3 F (0 : Int32) e9 ho9 ?_
      rcases e9 with e9 | e9
      · replace hf := mj_ele hf
        refine mj_elq (?_)
        refine mj_iconst dX8_isWord_63 kc_iconst_1 ?_
        obtain rfl := Option.some.inj hf
        have hZ := hq
        exact mj_iret hR ⟨Nat.le_refl _, Nat.le_refl _⟩ rfl (by decide) dX8_isWord_64 hZ
      · replace hf := mj_ere hf
        refine mj_erq (?_)
        refine mj_iconst dX8_isWord_55 kc_iconst_0 ?_
        obtain rfl := Option.some.inj hf
        have hZ := hq
        exact mj_iret hR ⟨Nat.le_refl _, Nat.le_refl _⟩ rfl (by decide) dX8_isWord_56 hZ
    · replace hf := mj_neg c8 hf
      refine mj_iconst dX8_isWord_24 kc_iconst_0 ?_
      obtain rfl := Option.some.inj hf
      have hZ := hq
      exact mj_iret hR ⟨Nat.le_refl _, Nat.le_refl _⟩ rfl (by decide) dX8_isWord_25 hZ
set_option maxRecDepth 100000 in
set_option maxHeartbeats 4000000 in
theorem cmX8_isWord_2_2005 (l : Launch) (G : mj_GT) (F : Nat) (I : mj_IT) (L : mj_LT) (r2 : Nat → Int32) (r3 : Nat → Int32) (hr2 : I 2 = r2) (hr3 : I 3 = r3) (o : ((Int32))) (hf : fnX8_isWord_2_2005 F r2 r3 = some o) : mj_M l G yX8_isWord cX8_isWord 3 5 (some .boolean) 0 0 mj_P0 mj_S0 98 [.ref 2, .ref 2005] I L (mj_qd (some (.int o)) (mj_rows I [(2, r2), (3, r3)]) L) := by
  refine mj_in RX8 "isWord" [(0, .ref 2), (1, .ref 2005)] rfl rfl rfl (by decide) (Nat.le_of_ble_eq_true rfl) (fun X ad hR => ?_)
  refine mj_toI [(2, r2), (3, r3)] (by intro q hq; simp only [List.mem_cons, List.not_mem_nil, or_false] at hq; rcases hq with rfl | rfl <;> assumption) ?_
  refine mtX8_isWord_2_2005 hR F I L r2 r3 o hf ?_
  exact ⟨rfl, rfl, rfl⟩

-- X8_isWord_2_2006
def bdX8_isWord_2_2006_28 (F : Nat) (r2 : Nat → Int32) (r3 : Nat → Int32) (x2 : Int32) : Option (((Int32)) ⊕ (Unit ⊕ Unit)) := (if (4 : Int32) ≤ x2 then some (.inr (.inl ())) else (if mj_ib ((r2 5) + x2) 400 = true then (if mj_ib x2 4 = true then (if (r3 (((r2 5) + x2).toNatClampNeg)) = (mj_ch 5 x2.toNatClampNeg) then some (.inl (x2 + (1))) else some (.inr (.inr ()))) else none) else none))
def fnX8_isWord_2_2006 (F : Nat) (r2 : Nat → Int32) (r3 : Nat → Int32) : Option ((Int32)) := (if (r2 4) = (1 : Int32) then (if ((r2 6) - (r2 5)) = (4 : Int32) then (mj_it (bdX8_isWord_2_2006_28 F r2 r3) F (0 : Int32)).bind (Sum.elim (fun _ => some (1 : Int32)) (fun _ => some (0 : Int32))) else some (0 : Int32)) else some (0 : Int32))
set_option maxRecDepth 100000 in
set_option maxHeartbeats 4000000 in
theorem lpX8_isWord_2_2006_28 {X : mj_XT} {l : Launch} {G : mj_GT} {ad : Nat → Nat} {Qn : Option Value → mj_IT → mj_LT → Prop} (hR : mj_R X l G mj_P0 mj_S0 98 ad 0 0 Qn) (F : Nat) (I : mj_IT) (L : mj_LT) (r2 : Nat → Int32) (r3 : Nat → Int32) : ∀ (n : Nat) (s : ((Int32))) (e : (Unit ⊕ Unit)), mj_it (bdX8_isWord_2_2006_28 F r2 r3) n s = some e → (Sum.elim (fun _ => mj_W X G RX8 "isWord" cX8_isWord 3 5 (some .boolean) mj_P0 mj_S0 98 ad 0 0 63 [] [] (mj_rows I [(2, r2), (3, r3)]) L) (fun _ => mj_W X G RX8 "isWord" cX8_isWord 3 5 (some .boolean) mj_P0 mj_S0 98 ad 0 0 55 [] [] (mj_rows I [(2, r2), (3, r3)]) L)) e → (fun x2 => mj_W X G RX8 "isWord" cX8_isWord 3 5 (some .boolean) mj_P0 mj_S0 98 ad 0 0 28 [(0, .ref 2), (1, .ref 2006), (2, .int x2)] [] (mj_rows I [(2, r2), (3, r3)]) L) s := by
  refine mj_loop (fun x2 o hf hc hx => ?_)
  unfold bdX8_isWord_2_2006_28 at hf
  refine mj_iload_n 2 dX8_isWord_28 rfl ?_
  refine mj_aload_n 1 dX8_isWord_29 rfl ?_
  refine mj_callVs (i := 5) (I2 := (mj_rows I [(2, r2), (3, r3)])) (L2 := L) (s1 := [.int (4 : Int32), .int x2]) (st := [.int x2]) [] (cmJ0_length X.2.1 G 5 2006 rfl (by decide) _ _) rfl rfl cw_X8_85 rfl (by decide) (by decide) rfl rfl (Nat.le_of_ble_eq_true rfl) ⟨Nat.zero_le _, Nat.zero_le _⟩ dX8_isWord_30 rfl ?_
  refine mj_icmp_ge 63 dX8_isWord_33 (by decide) (fun c2 => ?_) (fun c2 => ?_)
  · replace hf := mj_pos c2 hf
    refine mj_sub [] [] rfl ?_
    obtain rfl := Option.some.inj hf
    have hZ := hx (.inl ()) rfl
    replace hZ := mj_el hZ
    exact hZ
  · replace hf := mj_neg c2 hf
    refine mj_aload_n 0 dX8_isWord_36 rfl ?_
    refine mj_getP p0_2_1 (by decide) fl_X8_9 rfl s0_2 a0_2 dX8_isWord_37 ?_
    refine mj_aload_n 0 dX8_isWord_40 rfl ?_
    refine mj_getIv (v := (r2 5)) rfl fl_X8_79 rfl s0_2 a0_2 dX8_isWord_41 ?_
    refine mj_iload_n 2 dX8_isWord_44 rfl ?_
    refine mj_iadd dX8_isWord_45 ?_
    obtain ⟨z3, hf⟩ := mj_ck hf
    refine mj_ialdv (x := r3) rfl s0_3 a0_3 z3 dX8_isWord_46 ?_
    refine mj_aload_n 1 dX8_isWord_47 rfl ?_
    refine mj_iload_n 2 dX8_isWord_48 rfl ?_
    obtain ⟨z4, hf⟩ := mj_ck hf
    refine mj_callVs (i := 5) (I2 := (mj_rows I [(2, r2), (3, r3)])) (L2 := L) (s1 := [.int (mj_ch 5 x2.toNatClampNeg), .int (r3 (((r2 5) + x2).toNatClampNeg))]) (st := [.int (r3 (((r2 5) + x2).toNatClampNeg))]) [.int x2] (cmJ0_charAt X.2.1 G 5 2006 rfl (by decide) x2 _ _ z4) rfl rfl cw_X8_90 rfl (by decide) (by decide) rfl rfl (Nat.le_of_ble_eq_true rfl) ⟨Nat.zero_le _, Nat.zero_le _⟩ dX8_isWord_49 rfl ?_
    refine mj_icmp_eq 57 dX8_isWord_52 (by decide) (fun c5 => ?_) (fun c5 => ?_)
    · replace hf := mj_pos c5 hf
      refine mj_iinc 2 [(2, .int (x2 + (1))), (0, .ref 2), (1, .ref 2006)] dX8_isWord_57 rfl (kz_1 _) (by decide) rfl ?_
      refine mj_goto 28 dX8_isWord_60 (by decide) ?_
      refine mj_sub [1, 2, 0] [(0, .ref 2), (1, .ref 2006), (2, .int (x2 + (1)))] rfl ?_
      obtain rfl := Option.some.inj hf
      have hZ := hc (x2 + (1)) rfl
      exact hZ
    · replace hf := mj_neg c5 hf
      refine mj_sub [] [] rfl ?_
      obtain rfl := Option.some.inj hf
      have hZ := hx (.inr ()) rfl
      replace hZ := mj_er hZ
      exact hZ
set_option maxRecDepth 100000 in
set_option maxHeartbeats 4000000 in
theorem mtX8_isWord_2_2006 {X : mj_XT} {l : Launch} {G : mj_GT} {ad : Nat → Nat} {Qn : Option Value → mj_IT → mj_LT → Prop} (hR : mj_R X l G mj_P0 mj_S0 98 ad 0 0 Qn) (F : Nat) (I : mj_IT) (L : mj_LT) (r2 : Nat → Int32) (r3 : Nat → Int32) (o : ((Int32))) (hf : fnX8_isWord_2_2006 F r2 r3 = some o) (hq : (fun ov => Qn (some (.int ov)) (mj_rows I [(2, r2), (3, r3)]) L) o) : mj_W X G RX8 "isWord" cX8_isWord 3 5 (some .boolean) mj_P0 mj_S0 98 ad 0 0 0 [(0, .ref 2), (1, .ref 2006)] [] (mj_rows I [(2, r2), (3, r3)]) L := by
  unfold fnX8_isWord_2_2006 at hf
  refine mj_aload_n 0 dX8_isWord_0 rfl ?_
  refine mj_getIv (v := (r2 4)) rfl fl_X8_63 rfl s0_2 a0_2 dX8_isWord_1 ?_
  refine mj_iconst dX8_isWord_4 kc_iconst_1 ?_
  refine mj_icmp_ne 24 dX8_isWord_5 (by decide) (fun c6 => ?_) (fun c6 => ?_)
  · replace hf := mj_neg c6 hf
    refine mj_iconst dX8_isWord_24 kc_iconst_0 ?_
    obtain rfl := Option.some.inj hf
    have hZ := hq
    exact mj_iret hR ⟨Nat.le_refl _, Nat.le_refl _⟩ rfl (by decide) dX8_isWord_25 hZ
  · replace hf := mj_pos c6 hf
    refine mj_aload_n 0 dX8_isWord_8 rfl ?_
    refine mj_getIv (v := (r2 6)) rfl fl_X8_48 rfl s0_2 a0_2 dX8_isWord_9 ?_
    refine mj_aload_n 0 dX8_isWord_12 rfl ?_
    refine mj_getIv (v := (r2 5)) rfl fl_X8_79 rfl s0_2 a0_2 dX8_isWord_13 ?_
    refine mj_isub dX8_isWord_16 ?_
    refine mj_aload_n 1 dX8_isWord_17 rfl ?_
    refine mj_callVs (i := 5) (I2 := (mj_rows I [(2, r2), (3, r3)])) (L2 := L) (s1 := [.int (4 : Int32), .int ((r2 6) - (r2 5))]) (st := [.int ((r2 6) - (r2 5))]) [] (cmJ0_length X.2.1 G 5 2006 rfl (by decide) _ _) rfl rfl cw_X8_85 rfl (by decide) (by decide) rfl rfl (Nat.le_of_ble_eq_true rfl) ⟨Nat.zero_le _, Nat.zero_le _⟩ dX8_isWord_18 rfl ?_
    refine mj_icmp_eq 26 dX8_isWord_21 (by decide) (fun c8 => ?_) (fun c8 => ?_)
    · replace hf := mj_pos c8 hf
      refine mj_iconst dX8_isWord_26 kc_iconst_0 ?_
      refine mj_istore_n [(2, .int (0 : Int32)), (0, .ref 2), (1, .ref 2006)] dX8_isWord_27 rfl (by decide) rfl ?_
      refine mj_sub [1, 2, 0] [(0, .ref 2), (1, .ref 2006), (2, .int (0 : Int32))] rfl ?_
      obtain ⟨e9, ho9, hf⟩ := mj_bd hf
      refine lpX8_isWord_2_2006_28 hR F I L r2 r3 F (0 : Int32) e9 ho9 ?_
      rcases e9 with e9 | e9
      · replace hf := mj_ele hf
        refine mj_elq (?_)
        refine mj_iconst dX8_isWord_63 kc_iconst_1 ?_
        obtain rfl := Option.some.inj hf
        have hZ := hq
        exact mj_iret hR ⟨Nat.le_refl _, Nat.le_refl _⟩ rfl (by decide) dX8_isWord_64 hZ
      · replace hf := mj_ere hf
        refine mj_erq (?_)
        refine mj_iconst dX8_isWord_55 kc_iconst_0 ?_
        obtain rfl := Option.some.inj hf
        have hZ := hq
        exact mj_iret hR ⟨Nat.le_refl _, Nat.le_refl _⟩ rfl (by decide) dX8_isWord_56 hZ
    · replace hf := mj_neg c8 hf
      refine mj_iconst dX8_isWord_24 kc_iconst_0 ?_
      obtain rfl := Option.some.inj hf
      have hZ := hq
      exact mj_iret hR ⟨Nat.le_refl _, Nat.le_refl _⟩ rfl (by decide) dX8_isWord_25 hZ
set_option maxRecDepth 100000 in
set_option maxHeartbeats 4000000 in
theorem cmX8_isWord_2_2006 (l : Launch) (G : mj_GT) (F : Nat) (I : mj_IT) (L : mj_LT) (r2 : Nat → Int32) (r3 : Nat → Int32) (hr2 : I 2 = r2) (hr3 : I 3 = r3) (o : ((Int32))) (hf : fnX8_isWord_2_2006 F r2 r3 = some o) : mj_M l G yX8_isWord cX8_isWord 3 5 (some .boolean) 0 0 mj_P0 mj_S0 98 [.ref 2, .ref 2006] I L (mj_qd (some (.int o)) (mj_rows I [(2, r2), (3, r3)]) L) := by
  refine mj_in RX8 "isWord" [(0, .ref 2), (1, .ref 2006)] rfl rfl rfl (by decide) (Nat.le_of_ble_eq_true rfl) (fun X ad hR => ?_)
  refine mj_toI [(2, r2), (3, r3)] (by intro q hq; simp only [List.mem_cons, List.not_mem_nil, or_false] at hq; rcases hq with rfl | rfl <;> assumption) ?_
  refine mtX8_isWord_2_2006 hR F I L r2 r3 o hf ?_
  exact ⟨rfl, rfl, rfl⟩

-- X8_kindHere
def fnX8_kindHere (F : Nat) (r2 : Nat → Int32) (r3 : Nat → Int32) : Option ((Int32)) := (fnX8_variableHere F r2 r3).bind (fun o1 => (if o1 = (-1 : Int32) then (fnX8_isWord_2_2001 F r2 r3).bind (fun o3 => (if o3 = 0 then (fnX8_isWord_2_2002 F r2 r3).bind (fun o5 => (if o5 = 0 then (fnX8_isWord_2_2003 F r2 r3).bind (fun o7 => (if o7 = 0 then (fnX8_isWord_2_2004 F r2 r3).bind (fun o9 => (if o9 = 0 then (fnX8_isWord_2_2005 F r2 r3).bind (fun o11 => (if o11 = 0 then (fnX8_isWord_2_2006 F r2 r3).bind (fun o13 => (if o13 = 0 then some (-1 : Int32) else some (6 : Int32))) else some (5 : Int32))) else some (4 : Int32))) else some (3 : Int32))) else some (2 : Int32))) else some (1 : Int32))) else some (0 : Int32)))
set_option maxRecDepth 100000 in
set_option maxHeartbeats 4000000 in
theorem mtX8_kindHere {X : mj_XT} {l : Launch} {G : mj_GT} {ad : Nat → Nat} {Qn : Option Value → mj_IT → mj_LT → Prop} (hR : mj_R X l G mj_P0 mj_S0 98 ad 0 0 Qn) (F : Nat) (I : mj_IT) (L : mj_LT) (r2 : Nat → Int32) (r3 : Nat → Int32) (o : ((Int32))) (hf : fnX8_kindHere F r2 r3 = some o) (hq : (fun ov => Qn (some (.int ov)) (mj_rows I [(2, r2), (3, r3)]) L) o) : mj_W X G RX8 "kindHere" cX8_kindHere 1 6 (some .int) mj_P0 mj_S0 98 ad 0 0 0 [(0, .ref 2)] [] (mj_rows I [(2, r2), (3, r3)]) L := by
  unfold fnX8_kindHere at hf
  refine mj_aload_n 0 dX8_kindHere_0 rfl ?_
  obtain ⟨o1, ho1, hf⟩ := mj_bd hf
  refine mj_callVd (I2 := (mj_rows I [(2, r2), (3, r3)])) (L2 := L) (s1 := [.int o1]) (st := []) [] (cmX8_variableHere X.2.1 G F  _ _ r2 r3 rfl rfl o1 ho1) (mj_rr rfl) rfl cw_X8_94 s0_2 a0_2 (by decide) rfl rfl (Nat.le_of_ble_eq_true rfl) ⟨Nat.zero_le _, Nat.zero_le _⟩ dX8_kindHere_1 rfl ?_
  refine mj_iconst dX8_kindHere_4 kc_iconst_m1 ?_
  refine mj_icmp_eq 10 dX8_kindHere_5 (by decide) (fun c2 => ?_) (fun c2 => ?_)
  · replace hf := mj_pos c2 hf
    refine mj_aload_n 0 dX8_kindHere_10 rfl ?_
    refine mj_ldcS (b := 2001) (List.mem_of_getElem? (i := 0) rfl) rfl dX8_kindHere_11 ?_
    obtain ⟨o3, ho3, hf⟩ := mj_bd hf
    refine mj_callVd (I2 := (mj_rows I [(2, r2), (3, r3)])) (L2 := L) (s1 := [.int o3]) (st := []) [.ref 2001] (cmX8_isWord_2_2001 X.2.1 G F  _ _ r2 r3 rfl rfl o3 ho3) (mj_rr rfl) rfl cw_X8_99 s0_2 a0_2 (by decide) rfl rfl (Nat.le_of_ble_eq_true rfl) ⟨Nat.zero_le _, Nat.zero_le _⟩ dX8_kindHere_13 rfl ?_
    refine mj_if_eq 21 dX8_kindHere_16 (by decide) (fun c4 => ?_) (fun c4 => ?_)
    · replace hf := mj_pos c4 hf
      refine mj_aload_n 0 dX8_kindHere_21 rfl ?_
      refine mj_ldcS (b := 2002) (List.mem_of_getElem? (i := 1) rfl) rfl dX8_kindHere_22 ?_
      obtain ⟨o5, ho5, hf⟩ := mj_bd hf
      refine mj_callVd (I2 := (mj_rows I [(2, r2), (3, r3)])) (L2 := L) (s1 := [.int o5]) (st := []) [.ref 2002] (cmX8_isWord_2_2002 X.2.1 G F  _ _ r2 r3 rfl rfl o5 ho5) (mj_rr rfl) rfl cw_X8_99 s0_2 a0_2 (by decide) rfl rfl (Nat.le_of_ble_eq_true rfl) ⟨Nat.zero_le _, Nat.zero_le _⟩ dX8_kindHere_24 rfl ?_
      refine mj_if_eq 32 dX8_kindHere_27 (by decide) (fun c6 => ?_) (fun c6 => ?_)
      · replace hf := mj_pos c6 hf
        refine mj_aload_n 0 dX8_kindHere_32 rfl ?_
        refine mj_ldcS (b := 2003) (List.mem_of_getElem? (i := 2) rfl) rfl dX8_kindHere_33 ?_
        obtain ⟨o7, ho7, hf⟩ := mj_bd hf
        refine mj_callVd (I2 := (mj_rows I [(2, r2), (3, r3)])) (L2 := L) (s1 := [.int o7]) (st := []) [.ref 2003] (cmX8_isWord_2_2003 X.2.1 G F  _ _ r2 r3 rfl rfl o7 ho7) (mj_rr rfl) rfl cw_X8_99 s0_2 a0_2 (by decide) rfl rfl (Nat.le_of_ble_eq_true rfl) ⟨Nat.zero_le _, Nat.zero_le _⟩ dX8_kindHere_35 rfl ?_
        refine mj_if_eq 43 dX8_kindHere_38 (by decide) (fun c8 => ?_) (fun c8 => ?_)
        · replace hf := mj_pos c8 hf
          refine mj_aload_n 0 dX8_kindHere_43 rfl ?_
          refine mj_ldcS (b := 2004) (List.mem_of_getElem? (i := 3) rfl) rfl dX8_kindHere_44 ?_
          obtain ⟨o9, ho9, hf⟩ := mj_bd hf
          refine mj_callVd (I2 := (mj_rows I [(2, r2), (3, r3)])) (L2 := L) (s1 := [.int o9]) (st := []) [.ref 2004] (cmX8_isWord_2_2004 X.2.1 G F  _ _ r2 r3 rfl rfl o9 ho9) (mj_rr rfl) rfl cw_X8_99 s0_2 a0_2 (by decide) rfl rfl (Nat.le_of_ble_eq_true rfl) ⟨Nat.zero_le _, Nat.zero_le _⟩ dX8_kindHere_46 rfl ?_
          refine mj_if_eq 54 dX8_kindHere_49 (by decide) (fun c10 => ?_) (fun c10 => ?_)
          · replace hf := mj_pos c10 hf
            refine mj_aload_n 0 dX8_kindHere_54 rfl ?_
            refine mj_ldcS (b := 2005) (List.mem_of_getElem? (i := 4) rfl) rfl dX8_kindHere_55 ?_
            obtain ⟨o11, ho11, hf⟩ := mj_bd hf
            refine mj_callVd (I2 := (mj_rows I [(2, r2), (3, r3)])) (L2 := L) (s1 := [.int o11]) (st := []) [.ref 2005] (cmX8_isWord_2_2005 X.2.1 G F  _ _ r2 r3 rfl rfl o11 ho11) (mj_rr rfl) rfl cw_X8_99 s0_2 a0_2 (by decide) rfl rfl (Nat.le_of_ble_eq_true rfl) ⟨Nat.zero_le _, Nat.zero_le _⟩ dX8_kindHere_57 rfl ?_
            refine mj_if_eq 65 dX8_kindHere_60 (by decide) (fun c12 => ?_) (fun c12 => ?_)
            · replace hf := mj_pos c12 hf
              refine mj_aload_n 0 dX8_kindHere_65 rfl ?_
              refine mj_ldcS (b := 2006) (List.mem_of_getElem? (i := 5) rfl) rfl dX8_kindHere_66 ?_
              obtain ⟨o13, ho13, hf⟩ := mj_bd hf
              refine mj_callVd (I2 := (mj_rows I [(2, r2), (3, r3)])) (L2 := L) (s1 := [.int o13]) (st := []) [.ref 2006] (cmX8_isWord_2_2006 X.2.1 G F  _ _ r2 r3 rfl rfl o13 ho13) (mj_rr rfl) rfl cw_X8_99 s0_2 a0_2 (by decide) rfl rfl (Nat.le_of_ble_eq_true rfl) ⟨Nat.zero_le _, Nat.zero_le _⟩ dX8_kindHere_68 rfl ?_
              refine mj_if_eq 79 dX8_kindHere_71 (by decide) (fun c14 => ?_) (fun c14 => ?_)
              · replace hf := mj_pos c14 hf
                refine mj_iconst dX8_kindHere_79 kc_iconst_m1 ?_
                obtain rfl := Option.some.inj hf
                have hZ := hq
                exact mj_iret hR ⟨Nat.le_refl _, Nat.le_refl _⟩ rfl rfl dX8_kindHere_80 hZ
              · replace hf := mj_neg c14 hf
                refine mj_bipush dX8_kindHere_74 kc_bipush_6 ?_
                refine mj_goto 80 dX8_kindHere_76 (by decide) ?_
                obtain rfl := Option.some.inj hf
                have hZ := hq
                exact mj_iret hR ⟨Nat.le_refl _, Nat.le_refl _⟩ rfl rfl dX8_kindHere_80 hZ
            · replace hf := mj_neg c12 hf
              refine mj_iconst dX8_kindHere_63 kc_iconst_5 ?_
              obtain rfl := Option.some.inj hf
              have hZ := hq
              exact mj_iret hR ⟨Nat.le_refl _, Nat.le_refl _⟩ rfl rfl dX8_kindHere_64 hZ
          · replace hf := mj_neg c10 hf
            refine mj_iconst dX8_kindHere_52 kc_iconst_4 ?_
            obtain rfl := Option.some.inj hf
            have hZ := hq
            exact mj_iret hR ⟨Nat.le_refl _, Nat.le_refl _⟩ rfl rfl dX8_kindHere_53 hZ
        · replace hf := mj_neg c8 hf
          refine mj_iconst dX8_kindHere_41 kc_iconst_3 ?_
          obtain rfl := Option.some.inj hf
          have hZ := hq
          exact mj_iret hR ⟨Nat.le_refl _, Nat.le_refl _⟩ rfl rfl dX8_kindHere_42 hZ
      · replace hf := mj_neg c6 hf
        refine mj_iconst dX8_kindHere_30 kc_iconst_2 ?_
        obtain rfl := Option.some.inj hf
        have hZ := hq
        exact mj_iret hR ⟨Nat.le_refl _, Nat.le_refl _⟩ rfl rfl dX8_kindHere_31 hZ
    · replace hf := mj_neg c4 hf
      refine mj_iconst dX8_kindHere_19 kc_iconst_1 ?_
      obtain rfl := Option.some.inj hf
      have hZ := hq
      exact mj_iret hR ⟨Nat.le_refl _, Nat.le_refl _⟩ rfl rfl dX8_kindHere_20 hZ
  · replace hf := mj_neg c2 hf
    refine mj_iconst dX8_kindHere_8 kc_iconst_0 ?_
    obtain rfl := Option.some.inj hf
    have hZ := hq
    exact mj_iret hR ⟨Nat.le_refl _, Nat.le_refl _⟩ rfl rfl dX8_kindHere_9 hZ
set_option maxRecDepth 100000 in
set_option maxHeartbeats 4000000 in
theorem cmX8_kindHere (l : Launch) (G : mj_GT) (F : Nat) (I : mj_IT) (L : mj_LT) (r2 : Nat → Int32) (r3 : Nat → Int32) (hr2 : I 2 = r2) (hr3 : I 3 = r3) (o : ((Int32))) (hf : fnX8_kindHere F r2 r3 = some o) : mj_M l G yX8_kindHere cX8_kindHere 1 6 (some .int) 0 0 mj_P0 mj_S0 98 [.ref 2] I L (mj_qd (some (.int o)) (mj_rows I [(2, r2), (3, r3)]) L) := by
  refine mj_in RX8 "kindHere" [(0, .ref 2)] rfl rfl rfl (by decide) (Nat.le_of_ble_eq_true rfl) (fun X ad hR => ?_)
  refine mj_toI [(2, r2), (3, r3)] (by intro q hq; simp only [List.mem_cons, List.not_mem_nil, or_false] at hq; rcases hq with rfl | rfl <;> assumption) ?_
  refine mtX8_kindHere hR F I L r2 r3 o hf ?_
  exact ⟨rfl, rfl, rfl⟩

-- X7_isFull_4
def fnX7_isFull_4 (F : Nat) (r4 : Nat → Int32) : Option ((Int32)) := (if (r4 0) < (40 : Int32) then some (0 : Int32) else some (1 : Int32))
set_option maxRecDepth 100000 in
set_option maxHeartbeats 4000000 in
theorem mtX7_isFull_4 {X : mj_XT} {l : Launch} {G : mj_GT} {ad : Nat → Nat} {Qn : Option Value → mj_IT → mj_LT → Prop} (hR : mj_R X l G mj_P0 mj_S0 98 ad 0 0 Qn) (F : Nat) (I : mj_IT) (L : mj_LT) (r4 : Nat → Int32) (o : ((Int32))) (hf : fnX7_isFull_4 F r4 = some o) (hq : (fun ov => Qn (some (.int ov)) (mj_rows I [(4, r4)]) L) o) : mj_W X G RX7 "isFull" cX7_isFull 1 1 (some .boolean) mj_P0 mj_S0 98 ad 0 0 0 [(0, .ref 4)] [] (mj_rows I [(4, r4)]) L := by
  unfold fnX7_isFull_4 at hf
  refine mj_aload_n 0 dX7_isFull_0 rfl ?_
  refine mj_getIv (v := (r4 0)) rfl fl_X7_42 rfl s0_4 a0_4 dX7_isFull_1 ?_
  refine mj_bipush dX7_isFull_4 kc_bipush_40 ?_
  refine mj_icmp_lt 13 dX7_isFull_6 (by decide) (fun c1 => ?_) (fun c1 => ?_)
  · replace hf := mj_pos c1 hf
    refine mj_iconst dX7_isFull_13 kc_iconst_0 ?_
    obtain rfl := Option.some.inj hf
    have hZ := hq
    exact mj_iret hR ⟨Nat.le_refl _, Nat.le_refl _⟩ rfl (by decide) dX7_isFull_14 hZ
  · replace hf := mj_neg c1 hf
    refine mj_iconst dX7_isFull_9 kc_iconst_1 ?_
    refine mj_goto 14 dX7_isFull_10 (by decide) ?_
    obtain rfl := Option.some.inj hf
    have hZ := hq
    exact mj_iret hR ⟨Nat.le_refl _, Nat.le_refl _⟩ rfl (by decide) dX7_isFull_14 hZ
set_option maxRecDepth 100000 in
set_option maxHeartbeats 4000000 in
theorem cmX7_isFull_4 (l : Launch) (G : mj_GT) (F : Nat) (I : mj_IT) (L : mj_LT) (r4 : Nat → Int32) (hr4 : I 4 = r4) (o : ((Int32))) (hf : fnX7_isFull_4 F r4 = some o) : mj_M l G yX7_isFull cX7_isFull 1 1 (some .boolean) 0 0 mj_P0 mj_S0 98 [.ref 4] I L (mj_qd (some (.int o)) (mj_rows I [(4, r4)]) L) := by
  refine mj_in RX7 "isFull" [(0, .ref 4)] rfl rfl rfl (by decide) (Nat.le_of_ble_eq_true rfl) (fun X ad hR => ?_)
  refine mj_toI [(4, r4)] (by intro q hq; simp only [List.mem_cons, List.not_mem_nil, or_false] at hq; rcases hq with rfl <;> assumption) ?_
  refine mtX7_isFull_4 hR F I L r4 o hf ?_
  exact ⟨rfl, rfl, rfl⟩

-- X7_begin_4
def jnX7_begin_4_66 (F : Nat) (x1 : Int32) (x2 : Int32) (x5 : Int32) (r4 : Nat → Int32) (r5 : Nat → Int32) (r6 : Nat → Int32) (r7 : Nat → Int32) (r8 : Nat → Int32) (r9 : Nat → Int32) (r10 : Nat → Int32) (r11 : Nat → Int32) (r12 : Nat → Int32) (r13 : Nat → Int32) (r14 : Nat → Int32) : Option ((Int32) × (Nat → Int32) × (Nat → Int32) × (Nat → Int32) × (Nat → Int32) × (Nat → Int32) × (Nat → Int32) × (Nat → Int32) × (Nat → Int32) × (Nat → Int32) × (Nat → Int32) × (Nat → Int32)) := (if mj_ib x5 40 = true then (if mj_ib x5 40 = true then (if mj_ib x5 40 = true then (if mj_ib x5 40 = true then (if mj_ib x5 40 = true then (if mj_ib x5 40 = true then (if mj_ib x5 40 = true then (if mj_ib x5 40 = true then (if mj_ib x5 40 = true then (if mj_ib x5 40 = true then some (x5, r4, (upd r5 x5.toNatClampNeg x1), (upd r6 x5.toNatClampNeg (-1 : Int32)), (upd r7 x5.toNatClampNeg (-1 : Int32)), (upd r8 x5.toNatClampNeg (0 : Int32)), (upd r9 x5.toNatClampNeg (0 : Int32)), (upd r10 x5.toNatClampNeg (0 : Int32)), (upd r11 x5.toNatClampNeg (-1 : Int32)), (upd r12 x5.toNatClampNeg (-1 : Int32)), (upd r13 x5.toNatClampNeg x2), (upd r14 x5.toNatClampNeg (-1 : Int32))) else none) else none) else none) else none) else none) else none) else none) else none) else none) else none)
def jnX7_begin_4_53 (F : Nat) (x1 : Int32) (x2 : Int32) (x5 : Int32) (r4 : Nat → Int32) (r5 : Nat → Int32) (r6 : Nat → Int32) (r7 : Nat → Int32) (r8 : Nat → Int32) (r9 : Nat → Int32) (r10 : Nat → Int32) (r11 : Nat → Int32) (r12 : Nat → Int32) (r13 : Nat → Int32) (r14 : Nat → Int32) : Option ((Int32) × (Nat → Int32) × (Nat → Int32) × (Nat → Int32) × (Nat → Int32) × (Nat → Int32) × (Nat → Int32) × (Nat → Int32) × (Nat → Int32) × (Nat → Int32) × (Nat → Int32) × (Nat → Int32)) := (if x2 = (-1 : Int32) then jnX7_begin_4_66 F x1 x2 x5 r4 r5 r6 r7 r8 r9 r10 r11 r12 r13 r14 else (if mj_ib x2 40 = true then jnX7_begin_4_66 F x1 x2 x5 r4 r5 r6 r7 r8 r9 r10 (upd r11 x2.toNatClampNeg x5) r12 r13 r14 else none))
def fnX7_begin_4 (F : Nat) (r4 : Nat → Int32) (r5 : Nat → Int32) (r6 : Nat → Int32) (r7 : Nat → Int32) (r8 : Nat → Int32) (r9 : Nat → Int32) (r10 : Nat → Int32) (r11 : Nat → Int32) (r12 : Nat → Int32) (r13 : Nat → Int32) (r14 : Nat → Int32) (x1 : Int32) (x2 : Int32) (x3 : Int32) (x4 : Int32) : Option ((Int32) × (Nat → Int32) × (Nat → Int32) × (Nat → Int32) × (Nat → Int32) × (Nat → Int32) × (Nat → Int32) × (Nat → Int32) × (Nat → Int32) × (Nat → Int32) × (Nat → Int32) × (Nat → Int32)) := (if x3 = (-1 : Int32) then (if x2 = (-1 : Int32) then jnX7_begin_4_53 F x1 x2 (r4 0) (upd r4 0 ((r4 0) + (1 : Int32))) r5 r6 r7 r8 r9 r10 r11 r12 r13 r14 else (if x4 = 0 then jnX7_begin_4_53 F x1 x2 (r4 0) (upd r4 0 ((r4 0) + (1 : Int32))) r5 r6 r7 r8 r9 r10 r11 r12 r13 r14 else (if mj_ib x2 40 = true then jnX7_begin_4_66 F x1 x2 (r4 0) (upd r4 0 ((r4 0) + (1 : Int32))) r5 r6 r7 r8 r9 r10 r11 (upd r12 x2.toNatClampNeg (r4 0)) r13 r14 else none))) else (if mj_ib x3 40 = true then jnX7_begin_4_66 F x1 x2 (r4 0) (upd r4 0 ((r4 0) + (1 : Int32))) r5 r6 r7 r8 r9 r10 r11 r12 r13 (upd r14 x3.toNatClampNeg (r4 0)) else none))
set_option maxRecDepth 100000 in
set_option maxHeartbeats 4000000 in
theorem jtX7_begin_4_66 {X : mj_XT} {l : Launch} {G : mj_GT} {ad : Nat → Nat} {Qn : Option Value → mj_IT → mj_LT → Prop} (hR : mj_R X l G mj_P0 mj_S0 98 ad 0 0 Qn) (F : Nat) (I : mj_IT) (L : mj_LT) (r4 : Nat → Int32) (r5 : Nat → Int32) (r6 : Nat → Int32) (r7 : Nat → Int32) (r8 : Nat → Int32) (r9 : Nat → Int32) (r10 : Nat → Int32) (r11 : Nat → Int32) (r12 : Nat → Int32) (r13 : Nat → Int32) (r14 : Nat → Int32) (x1 : Int32) (x2 : Int32) (x5 : Int32) (o : ((Int32) × (Nat → Int32) × (Nat → Int32) × (Nat → Int32) × (Nat → Int32) × (Nat → Int32) × (Nat → Int32) × (Nat → Int32) × (Nat → Int32) × (Nat → Int32) × (Nat → Int32) × (Nat → Int32))) (hf : jnX7_begin_4_66 F x1 x2 x5 r4 r5 r6 r7 r8 r9 r10 r11 r12 r13 r14 = some o) (hq : (mj_u2 (fun ov => (mj_u2 (fun r4 => (mj_u2 (fun r5 => (mj_u2 (fun r6 => (mj_u2 (fun r7 => (mj_u2 (fun r8 => (mj_u2 (fun r9 => (mj_u2 (fun r10 => (mj_u2 (fun r11 => (mj_u2 (fun r12 => (mj_u2 (fun r13 r14 => Qn (some (.int ov)) (mj_rows I [(4, r4), (5, r5), (6, r6), (7, r7), (8, r8), (9, r9), (10, r10), (11, r11), (12, r12), (13, r13), (14, r14)]) L)))))))))))))))))))))) o) : mj_W X G RX7 "begin" cX7_begin 6 1 (some .int) mj_P0 mj_S0 98 ad 0 0 66 [(0, .ref 4), (1, .int x1), (2, .int x2), (5, .int x5)] [] (mj_rows I [(4, r4), (5, r5), (6, r6), (7, r7), (8, r8), (9, r9), (10, r10), (11, r11), (12, r12), (13, r13), (14, r14)]) L := by
  unfold jnX7_begin_4_66 at hf
  refine mj_aload_n 0 dX7_begin_66 rfl ?_
  refine mj_getP p0_4_1 (by decide) fl_X7_9 rfl s0_4 a0_4 dX7_begin_67 ?_
  refine mj_iload 3 dX7_begin_70 rfl ?_
  refine mj_iload_n 1 dX7_begin_72 rfl ?_
  obtain ⟨z1, hf⟩ := mj_ck hf
  refine mj_iastr [(4, r4), (5, (upd r5 x5.toNatClampNeg x1)), (6, r6), (7, r7), (8, r8), (9, r9), (10, r10), (11, r11), (12, r12), (13, r13), (14, r14)] rfl s0_5 a0_5 z1 dX7_begin_73 ?_
  refine mj_aload_n 0 dX7_begin_74 rfl ?_
  refine mj_getP p0_4_2 (by decide) fl_X7_15 rfl s0_4 a0_4 dX7_begin_75 ?_
  refine mj_iload 3 dX7_begin_78 rfl ?_
  refine mj_iconst dX7_begin_80 kc_iconst_m1 ?_
  obtain ⟨z2, hf⟩ := mj_ck hf
  refine mj_iastr [(4, r4), (5, (upd r5 x5.toNatClampNeg x1)), (6, (upd r6 x5.toNatClampNeg (-1 : Int32))), (7, r7), (8, r8), (9, r9), (10, r10), (11, r11), (12, r12), (13, r13), (14, r14)] rfl s0_6 a0_6 z2 dX7_begin_81 ?_
  refine mj_aload_n 0 dX7_begin_82 rfl ?_
  refine mj_getP p0_4_3 (by decide) fl_X7_18 rfl s0_4 a0_4 dX7_begin_83 ?_
  refine mj_iload 3 dX7_begin_86 rfl ?_
  refine mj_iconst dX7_begin_88 kc_iconst_m1 ?_
  obtain ⟨z3, hf⟩ := mj_ck hf
  refine mj_iastr [(4, r4), (5, (upd r5 x5.toNatClampNeg x1)), (6, (upd r6 x5.toNatClampNeg (-1 : Int32))), (7, (upd r7 x5.toNatClampNeg (-1 : Int32))), (8, r8), (9, r9), (10, r10), (11, r11), (12, r12), (13, r13), (14, r14)] rfl s0_7 a0_7 z3 dX7_begin_89 ?_
  refine mj_aload_n 0 dX7_begin_90 rfl ?_
  refine mj_getP p0_4_4 (by decide) fl_X7_21 rfl s0_4 a0_4 dX7_begin_91 ?_
  refine mj_iload 3 dX7_begin_94 rfl ?_
  refine mj_iconst dX7_begin_96 kc_iconst_0 ?_
  obtain ⟨z4, hf⟩ := mj_ck hf
  refine mj_iastr [(4, r4), (5, (upd r5 x5.toNatClampNeg x1)), (6, (upd r6 x5.toNatClampNeg (-1 : Int32))), (7, (upd r7 x5.toNatClampNeg (-1 : Int32))), (8, (upd r8 x5.toNatClampNeg (0 : Int32))), (9, r9), (10, r10), (11, r11), (12, r12), (13, r13), (14, r14)] rfl s0_8 a0_8 z4 dX7_begin_97 ?_
  refine mj_aload_n 0 dX7_begin_98 rfl ?_
  refine mj_getP p0_4_5 (by decide) fl_X7_24 rfl s0_4 a0_4 dX7_begin_99 ?_
  refine mj_iload 3 dX7_begin_102 rfl ?_
  refine mj_iconst dX7_begin_104 kc_iconst_0 ?_
  obtain ⟨z5, hf⟩ := mj_ck hf
  refine mj_iastr [(4, r4), (5, (upd r5 x5.toNatClampNeg x1)), (6, (upd r6 x5.toNatClampNeg (-1 : Int32))), (7, (upd r7 x5.toNatClampNeg (-1 : Int32))), (8, (upd r8 x5.toNatClampNeg (0 : Int32))), (9, (upd r9 x5.toNatClampNeg (0 : Int32))), (10, r10), (11, r11), (12, r12), (13, r13), (14, r14)] rfl s0_9 a0_9 z5 dX7_begin_105 ?_
  refine mj_aload_n 0 dX7_begin_106 rfl ?_
  refine mj_getP p0_4_6 (by decide) fl_X7_27 rfl s0_4 a0_4 dX7_begin_107 ?_
  refine mj_iload 3 dX7_begin_110 rfl ?_
  refine mj_iconst dX7_begin_112 kc_iconst_0 ?_
  obtain ⟨z6, hf⟩ := mj_ck hf
  refine mj_iastr [(4, r4), (5, (upd r5 x5.toNatClampNeg x1)), (6, (upd r6 x5.toNatClampNeg (-1 : Int32))), (7, (upd r7 x5.toNatClampNeg (-1 : Int32))), (8, (upd r8 x5.toNatClampNeg (0 : Int32))), (9, (upd r9 x5.toNatClampNeg (0 : Int32))), (10, (upd r10 x5.toNatClampNeg (0 : Int32))), (11, r11), (12, r12), (13, r13), (14, r14)] rfl s0_10 a0_10 z6 dX7_begin_113 ?_
  refine mj_aload_n 0 dX7_begin_114 rfl ?_
  refine mj_getP p0_4_7 (by decide) fl_X7_30 rfl s0_4 a0_4 dX7_begin_115 ?_
  refine mj_iload 3 dX7_begin_118 rfl ?_
  refine mj_iconst dX7_begin_120 kc_iconst_m1 ?_
  obtain ⟨z7, hf⟩ := mj_ck hf
  refine mj_iastr [(4, r4), (5, (upd r5 x5.toNatClampNeg x1)), (6, (upd r6 x5.toNatClampNeg (-1 : Int32))), (7, (upd r7 x5.toNatClampNeg (-1 : Int32))), (8, (upd r8 x5.toNatClampNeg (0 : Int32))), (9, (upd r9 x5.toNatClampNeg (0 : Int32))), (10, (upd r10 x5.toNatClampNeg (0 : Int32))), (11, (upd r11 x5.toNatClampNeg (-1 : Int32))), (12, r12), (13, r13), (14, r14)] rfl s0_11 a0_11 z7 dX7_begin_121 ?_
  refine mj_aload_n 0 dX7_begin_122 rfl ?_
  refine mj_getP p0_4_8 (by decide) fl_X7_33 rfl s0_4 a0_4 dX7_begin_123 ?_
  refine mj_iload 3 dX7_begin_126 rfl ?_
  refine mj_iconst dX7_begin_128 kc_iconst_m1 ?_
  obtain ⟨z8, hf⟩ := mj_ck hf
  refine mj_iastr [(4, r4), (5, (upd r5 x5.toNatClampNeg x1)), (6, (upd r6 x5.toNatClampNeg (-1 : Int32))), (7, (upd r7 x5.toNatClampNeg (-1 : Int32))), (8, (upd r8 x5.toNatClampNeg (0 : Int32))), (9, (upd r9 x5.toNatClampNeg (0 : Int32))), (10, (upd r10 x5.toNatClampNeg (0 : Int32))), (11, (upd r11 x5.toNatClampNeg (-1 : Int32))), (12, (upd r12 x5.toNatClampNeg (-1 : Int32))), (13, r13), (14, r14)] rfl s0_12 a0_12 z8 dX7_begin_129 ?_
  refine mj_aload_n 0 dX7_begin_130 rfl ?_
  refine mj_getP p0_4_9 (by decide) fl_X7_36 rfl s0_4 a0_4 dX7_begin_131 ?_
  refine mj_iload 3 dX7_begin_134 rfl ?_
  refine mj_iload_n 2 dX7_begin_136 rfl ?_
  obtain ⟨z9, hf⟩ := mj_ck hf
  refine mj_iastr [(4, r4), (5, (upd r5 x5.toNatClampNeg x1)), (6, (upd r6 x5.toNatClampNeg (-1 : Int32))), (7, (upd r7 x5.toNatClampNeg (-1 : Int32))), (8, (upd r8 x5.toNatClampNeg (0 : Int32))), (9, (upd r9 x5.toNatClampNeg (0 : Int32))), (10, (upd r10 x5.toNatClampNeg (0 : Int32))), (11, (upd r11 x5.toNatClampNeg (-1 : Int32))), (12, (upd r12 x5.toNatClampNeg (-1 : Int32))), (13, (upd r13 x5.toNatClampNeg x2)), (14, r14)] rfl s0_13 a0_13 z9 dX7_begin_137 ?_
  refine mj_aload_n 0 dX7_begin_138 rfl ?_
  refine mj_getP p0_4_10 (by decide) fl_X7_39 rfl s0_4 a0_4 dX7_begin_139 ?_
  refine mj_iload 3 dX7_begin_142 rfl ?_
  refine mj_iconst dX7_begin_144 kc_iconst_m1 ?_
  obtain ⟨z10, hf⟩ := mj_ck hf
  refine mj_iastr [(4, r4), (5, (upd r5 x5.toNatClampNeg x1)), (6, (upd r6 x5.toNatClampNeg (-1 : Int32))), (7, (upd r7 x5.toNatClampNeg (-1 : Int32))), (8, (upd r8 x5.toNatClampNeg (0 : Int32))), (9, (upd r9 x5.toNatClampNeg (0 : Int32))), (10, (upd r10 x5.toNatClampNeg (0 : Int32))), (11, (upd r11 x5.toNatClampNeg (-1 : Int32))), (12, (upd r12 x5.toNatClampNeg (-1 : Int32))), (13, (upd r13 x5.toNatClampNeg x2)), (14, (upd r14 x5.toNatClampNeg (-1 : Int32)))] rfl s0_14 a0_14 z10 dX7_begin_145 ?_
  refine mj_iload 3 dX7_begin_146 rfl ?_
  obtain rfl := Option.some.inj hf
  have hZ := hq
  replace hZ := mj_u2p hZ
  replace hZ := mj_u2p hZ
  replace hZ := mj_u2p hZ
  replace hZ := mj_u2p hZ
  replace hZ := mj_u2p hZ
  replace hZ := mj_u2p hZ
  replace hZ := mj_u2p hZ
  replace hZ := mj_u2p hZ
  replace hZ := mj_u2p hZ
  replace hZ := mj_u2p hZ
  replace hZ := mj_u2p hZ
  exact mj_iret hR ⟨Nat.le_refl _, Nat.le_refl _⟩ rfl rfl dX7_begin_148 hZ
set_option maxRecDepth 100000 in
set_option maxHeartbeats 4000000 in
theorem jtX7_begin_4_53 {X : mj_XT} {l : Launch} {G : mj_GT} {ad : Nat → Nat} {Qn : Option Value → mj_IT → mj_LT → Prop} (hR : mj_R X l G mj_P0 mj_S0 98 ad 0 0 Qn) (F : Nat) (I : mj_IT) (L : mj_LT) (r4 : Nat → Int32) (r5 : Nat → Int32) (r6 : Nat → Int32) (r7 : Nat → Int32) (r8 : Nat → Int32) (r9 : Nat → Int32) (r10 : Nat → Int32) (r11 : Nat → Int32) (r12 : Nat → Int32) (r13 : Nat → Int32) (r14 : Nat → Int32) (x1 : Int32) (x2 : Int32) (x5 : Int32) (o : ((Int32) × (Nat → Int32) × (Nat → Int32) × (Nat → Int32) × (Nat → Int32) × (Nat → Int32) × (Nat → Int32) × (Nat → Int32) × (Nat → Int32) × (Nat → Int32) × (Nat → Int32) × (Nat → Int32))) (hf : jnX7_begin_4_53 F x1 x2 x5 r4 r5 r6 r7 r8 r9 r10 r11 r12 r13 r14 = some o) (hq : (mj_u2 (fun ov => (mj_u2 (fun r4 => (mj_u2 (fun r5 => (mj_u2 (fun r6 => (mj_u2 (fun r7 => (mj_u2 (fun r8 => (mj_u2 (fun r9 => (mj_u2 (fun r10 => (mj_u2 (fun r11 => (mj_u2 (fun r12 => (mj_u2 (fun r13 r14 => Qn (some (.int ov)) (mj_rows I [(4, r4), (5, r5), (6, r6), (7, r7), (8, r8), (9, r9), (10, r10), (11, r11), (12, r12), (13, r13), (14, r14)]) L)))))))))))))))))))))) o) : mj_W X G RX7 "begin" cX7_begin 6 1 (some .int) mj_P0 mj_S0 98 ad 0 0 53 [(0, .ref 4), (1, .int x1), (2, .int x2), (5, .int x5)] [] (mj_rows I [(4, r4), (5, r5), (6, r6), (7, r7), (8, r8), (9, r9), (10, r10), (11, r11), (12, r12), (13, r13), (14, r14)]) L := by
  unfold jnX7_begin_4_53 at hf
  refine mj_iload_n 2 dX7_begin_53 rfl ?_
  refine mj_iconst dX7_begin_54 kc_iconst_m1 ?_
  refine mj_icmp_eq 66 dX7_begin_55 (by decide) (fun c11 => ?_) (fun c11 => ?_)
  · replace hf := mj_pos c11 hf
    exact jtX7_begin_4_66 hR F I L r4 r5 r6 r7 r8 r9 r10 r11 r12 r13 r14 x1 x2 x5 o hf hq
  · replace hf := mj_neg c11 hf
    refine mj_aload_n 0 dX7_begin_58 rfl ?_
    refine mj_getP p0_4_7 (by decide) fl_X7_30 rfl s0_4 a0_4 dX7_begin_59 ?_
    refine mj_iload_n 2 dX7_begin_62 rfl ?_
    refine mj_iload 3 dX7_begin_63 rfl ?_
    obtain ⟨z12, hf⟩ := mj_ck hf
    refine mj_iastr [(4, r4), (5, r5), (6, r6), (7, r7), (8, r8), (9, r9), (10, r10), (11, (upd r11 x2.toNatClampNeg x5)), (12, r12), (13, r13), (14, r14)] rfl s0_11 a0_11 z12 dX7_begin_65 ?_
    exact jtX7_begin_4_66 hR F I L r4 r5 r6 r7 r8 r9 r10 (upd r11 x2.toNatClampNeg x5) r12 r13 r14 x1 x2 x5 o hf hq
set_option maxRecDepth 100000 in
set_option maxHeartbeats 4000000 in
theorem mtX7_begin_4 {X : mj_XT} {l : Launch} {G : mj_GT} {ad : Nat → Nat} {Qn : Option Value → mj_IT → mj_LT → Prop} (hR : mj_R X l G mj_P0 mj_S0 98 ad 0 0 Qn) (F : Nat) (I : mj_IT) (L : mj_LT) (r4 : Nat → Int32) (r5 : Nat → Int32) (r6 : Nat → Int32) (r7 : Nat → Int32) (r8 : Nat → Int32) (r9 : Nat → Int32) (r10 : Nat → Int32) (r11 : Nat → Int32) (r12 : Nat → Int32) (r13 : Nat → Int32) (r14 : Nat → Int32) (x1 : Int32) (x2 : Int32) (x3 : Int32) (x4 : Int32) (o : ((Int32) × (Nat → Int32) × (Nat → Int32) × (Nat → Int32) × (Nat → Int32) × (Nat → Int32) × (Nat → Int32) × (Nat → Int32) × (Nat → Int32) × (Nat → Int32) × (Nat → Int32) × (Nat → Int32))) (hf : fnX7_begin_4 F r4 r5 r6 r7 r8 r9 r10 r11 r12 r13 r14 x1 x2 x3 x4 = some o) (hq : (mj_u2 (fun ov => (mj_u2 (fun r4 => (mj_u2 (fun r5 => (mj_u2 (fun r6 => (mj_u2 (fun r7 => (mj_u2 (fun r8 => (mj_u2 (fun r9 => (mj_u2 (fun r10 => (mj_u2 (fun r11 => (mj_u2 (fun r12 => (mj_u2 (fun r13 r14 => Qn (some (.int ov)) (mj_rows I [(4, r4), (5, r5), (6, r6), (7, r7), (8, r8), (9, r9), (10, r10), (11, r11), (12, r12), (13, r13), (14, r14)]) L)))))))))))))))))))))) o) : mj_W X G RX7 "begin" cX7_begin 6 1 (some .int) mj_P0 mj_S0 98 ad 0 0 0 [(0, .ref 4), (1, .int x1), (2, .int x2), (3, .int x3), (4, .int x4)] [] (mj_rows I [(4, r4), (5, r5), (6, r6), (7, r7), (8, r8), (9, r9), (10, r10), (11, r11), (12, r12), (13, r13), (14, r14)]) L := by
  unfold fnX7_begin_4 at hf
  refine mj_aload_n 0 dX7_begin_0 rfl ?_
  refine mj_getIv (v := (r4 0)) rfl fl_X7_42 rfl s0_4 a0_4 dX7_begin_1 ?_
  refine mj_istore [(5, .int (r4 0)), (0, .ref 4), (1, .int x1), (2, .int x2), (3, .int x3), (4, .int x4)] dX7_begin_4 (by decide) rfl ?_
  refine mj_aload_n 1 dX7_begin_6 rfl ?_
  refine mj_dup dX7_begin_7 rfl ?_
  refine mj_getIv (v := (r4 0)) rfl fl_X7_42 rfl s0_4 a0_4 dX7_begin_8 ?_
  refine mj_iconst dX7_begin_11 kc_iconst_1 ?_
  refine mj_iadd dX7_begin_12 ?_
  refine mj_putIr (ci := 5) (j := 0) [(4, (upd r4 0 ((r4 0) + (1 : Int32)))), (5, r5), (6, r6), (7, r7), (8, r8), (9, r9), (10, r10), (11, r11), (12, r12), (13, r13), (14, r14)] rfl ⟨rfl, rfl⟩ fl_X7_42 rfl rfl s0_4 a0_4 dX7_begin_13 ?_
  refine mj_iload_n 4 dX7_begin_16 rfl ?_
  refine mj_iconst dX7_begin_17 kc_iconst_m1 ?_
  refine mj_icmp_eq 32 dX7_begin_18 (by decide) (fun c13 => ?_) (fun c13 => ?_)
  · replace hf := mj_pos c13 hf
    refine mj_iload_n 3 dX7_begin_32 rfl ?_
    refine mj_iconst dX7_begin_33 kc_iconst_m1 ?_
    refine mj_icmp_eq 53 dX7_begin_34 (by decide) (fun c14 => ?_) (fun c14 => ?_)
    · replace hf := mj_pos c14 hf
      refine mj_sub [1, 2, 3, 0] [(0, .ref 4), (1, .int x1), (2, .int x2), (5, .int (r4 0))] rfl ?_
      exact jtX7_begin_4_53 hR F I L (upd r4 0 ((r4 0) + (1 : Int32))) r5 r6 r7 r8 r9 r10 r11 r12 r13 r14 x1 x2 (r4 0) o hf hq
    · replace hf := mj_neg c14 hf
      refine mj_iload 5 dX7_begin_37 rfl ?_
      refine mj_if_eq 53 dX7_begin_39 (by decide) (fun c15 => ?_) (fun c15 => ?_)
      · replace hf := mj_pos c15 hf
        refine mj_sub [1, 2, 3, 0] [(0, .ref 4), (1, .int x1), (2, .int x2), (5, .int (r4 0))] rfl ?_
        exact jtX7_begin_4_53 hR F I L (upd r4 0 ((r4 0) + (1 : Int32))) r5 r6 r7 r8 r9 r10 r11 r12 r13 r14 x1 x2 (r4 0) o hf hq
      · replace hf := mj_neg c15 hf
        refine mj_aload_n 1 dX7_begin_42 rfl ?_
        refine mj_getP p0_4_8 (by decide) fl_X7_33 rfl s0_4 a0_4 dX7_begin_43 ?_
        refine mj_iload_n 3 dX7_begin_46 rfl ?_
        refine mj_iload 0 dX7_begin_47 rfl ?_
        obtain ⟨z16, hf⟩ := mj_ck hf
        refine mj_iastr [(4, (upd r4 0 ((r4 0) + (1 : Int32)))), (5, r5), (6, r6), (7, r7), (8, r8), (9, r9), (10, r10), (11, r11), (12, (upd r12 x2.toNatClampNeg (r4 0))), (13, r13), (14, r14)] rfl s0_12 a0_12 z16 dX7_begin_49 ?_
        refine mj_goto 66 dX7_begin_50 (by decide) ?_
        refine mj_sub [1, 2, 3, 0] [(0, .ref 4), (1, .int x1), (2, .int x2), (5, .int (r4 0))] rfl ?_
        exact jtX7_begin_4_66 hR F I L (upd r4 0 ((r4 0) + (1 : Int32))) r5 r6 r7 r8 r9 r10 r11 (upd r12 x2.toNatClampNeg (r4 0)) r13 r14 x1 x2 (r4 0) o hf hq
  · replace hf := mj_neg c13 hf
    refine mj_aload_n 1 dX7_begin_21 rfl ?_
    refine mj_getP p0_4_10 (by decide) fl_X7_39 rfl s0_4 a0_4 dX7_begin_22 ?_
    refine mj_iload_n 4 dX7_begin_25 rfl ?_
    refine mj_iload 0 dX7_begin_26 rfl ?_
    obtain ⟨z17, hf⟩ := mj_ck hf
    refine mj_iastr [(4, (upd r4 0 ((r4 0) + (1 : Int32)))), (5, r5), (6, r6), (7, r7), (8, r8), (9, r9), (10, r10), (11, r11), (12, r12), (13, r13), (14, (upd r14 x3.toNatClampNeg (r4 0)))] rfl s0_14 a0_14 z17 dX7_begin_28 ?_
    refine mj_goto 66 dX7_begin_29 (by decide) ?_
    refine mj_sub [1, 2, 3, 0] [(0, .ref 4), (1, .int x1), (2, .int x2), (5, .int (r4 0))] rfl ?_
    exact jtX7_begin_4_66 hR F I L (upd r4 0 ((r4 0) + (1 : Int32))) r5 r6 r7 r8 r9 r10 r11 r12 r13 (upd r14 x3.toNatClampNeg (r4 0)) x1 x2 (r4 0) o hf hq
set_option maxRecDepth 100000 in
set_option maxHeartbeats 4000000 in
theorem cmX7_begin_4 (l : Launch) (G : mj_GT) (F : Nat) (x1 : Int32) (x2 : Int32) (x3 : Int32) (x4 : Int32) (I : mj_IT) (L : mj_LT) (r4 : Nat → Int32) (r5 : Nat → Int32) (r6 : Nat → Int32) (r7 : Nat → Int32) (r8 : Nat → Int32) (r9 : Nat → Int32) (r10 : Nat → Int32) (r11 : Nat → Int32) (r12 : Nat → Int32) (r13 : Nat → Int32) (r14 : Nat → Int32) (hr4 : I 4 = r4) (hr5 : I 5 = r5) (hr6 : I 6 = r6) (hr7 : I 7 = r7) (hr8 : I 8 = r8) (hr9 : I 9 = r9) (hr10 : I 10 = r10) (hr11 : I 11 = r11) (hr12 : I 12 = r12) (hr13 : I 13 = r13) (hr14 : I 14 = r14) (o : ((Int32) × (Nat → Int32) × (Nat → Int32) × (Nat → Int32) × (Nat → Int32) × (Nat → Int32) × (Nat → Int32) × (Nat → Int32) × (Nat → Int32) × (Nat → Int32) × (Nat → Int32) × (Nat → Int32))) (hf : fnX7_begin_4 F r4 r5 r6 r7 r8 r9 r10 r11 r12 r13 r14 x1 x2 x3 x4 = some o) : mj_M l G yX7_begin cX7_begin 6 1 (some .int) 0 0 mj_P0 mj_S0 98 [.ref 4, .int x1, .int x2, .int x3, .int x4] I L (mj_qd (some (.int o.1)) (mj_rows I [(4, o.2.1), (5, o.2.2.1), (6, o.2.2.2.1), (7, o.2.2.2.2.1), (8, o.2.2.2.2.2.1), (9, o.2.2.2.2.2.2.1), (10, o.2.2.2.2.2.2.2.1), (11, o.2.2.2.2.2.2.2.2.1), (12, o.2.2.2.2.2.2.2.2.2.1), (13, o.2.2.2.2.2.2.2.2.2.2.1), (14, o.2.2.2.2.2.2.2.2.2.2.2)]) L) := by
  refine mj_in RX7 "begin" [(0, .ref 4), (1, .int x1), (2, .int x2), (3, .int x3), (4, .int x4)] rfl rfl rfl (by decide) (Nat.le_of_ble_eq_true rfl) (fun X ad hR => ?_)
  refine mj_toI [(4, r4), (5, r5), (6, r6), (7, r7), (8, r8), (9, r9), (10, r10), (11, r11), (12, r12), (13, r13), (14, r14)] (by intro q hq; simp only [List.mem_cons, List.not_mem_nil, or_false] at hq; rcases hq with rfl | rfl | rfl | rfl | rfl | rfl | rfl | rfl | rfl | rfl | rfl <;> assumption) ?_
  refine mtX7_begin_4 hR F I L r4 r5 r6 r7 r8 r9 r10 r11 r12 r13 r14 x1 x2 x3 x4 o hf ?_
  obtain ⟨w0, w1, w2, w3, w4, w5, w6, w7, w8, w9, w10, w11⟩ := o
  refine mj_u2q ?_
  refine mj_u2q ?_
  refine mj_u2q ?_
  refine mj_u2q ?_
  refine mj_u2q ?_
  refine mj_u2q ?_
  refine mj_u2q ?_
  refine mj_u2q ?_
  refine mj_u2q ?_
  refine mj_u2q ?_
  refine mj_u2q ?_
  exact ⟨rfl, rfl, rfl⟩

-- X8_readVariable
def fnX8_readVariable (F : Nat) (r2 : Nat → Int32) (r3 : Nat → Int32) : Option ((Int32) × (Nat → Int32)) := (fnX8_variableHere F r2 r3).bind (fun o1 => (if o1 = (-1 : Int32) then (fnX8_fail F r2 (1 : Int32)).bind (fun o4 => some ((0 : Int32), o4)) else (fnX8_goOn F r2 r3).bind (fun o3 => some (o1, o3))))
set_option maxRecDepth 100000 in
set_option maxHeartbeats 4000000 in
theorem mtX8_readVariable {X : mj_XT} {l : Launch} {G : mj_GT} {ad : Nat → Nat} {Qn : Option Value → mj_IT → mj_LT → Prop} (hR : mj_R X l G mj_P0 mj_S0 98 ad 0 0 Qn) (F : Nat) (I : mj_IT) (L : mj_LT) (r2 : Nat → Int32) (r3 : Nat → Int32) (o : ((Int32) × (Nat → Int32))) (hf : fnX8_readVariable F r2 r3 = some o) (hq : (mj_u2 (fun ov r2 => Qn (some (.int ov)) (mj_rows I [(2, r2), (3, r3)]) L)) o) : mj_W X G RX8 "readVariable" cX8_readVariable 2 2 (some .int) mj_P0 mj_S0 98 ad 0 0 0 [(0, .ref 2)] [] (mj_rows I [(2, r2), (3, r3)]) L := by
  unfold fnX8_readVariable at hf
  refine mj_aload_n 0 dX8_readVariable_0 rfl ?_
  obtain ⟨o1, ho1, hf⟩ := mj_bd hf
  refine mj_callVd (I2 := (mj_rows I [(2, r2), (3, r3)])) (L2 := L) (s1 := [.int o1]) (st := []) [] (cmX8_variableHere X.2.1 G F  _ _ r2 r3 rfl rfl o1 ho1) (mj_rr rfl) rfl cw_X8_94 s0_2 a0_2 (by decide) rfl rfl (Nat.le_of_ble_eq_true rfl) ⟨Nat.zero_le _, Nat.zero_le _⟩ dX8_readVariable_1 rfl ?_
  refine mj_istore_n [(1, .int o1), (0, .ref 2)] dX8_readVariable_4 rfl (by decide) rfl ?_
  refine mj_iload_n 0 dX8_readVariable_5 rfl ?_
  refine mj_iconst dX8_readVariable_6 kc_iconst_m1 ?_
  refine mj_icmp_ne 17 dX8_readVariable_7 (by decide) (fun c2 => ?_) (fun c2 => ?_)
  · replace hf := mj_neg c2 hf
    refine mj_aload_n 1 dX8_readVariable_17 rfl ?_
    obtain ⟨o3, ho3, hf⟩ := mj_bd hf
    refine mj_callVd (I2 := (mj_rows I [(2, o3), (3, r3)])) (L2 := L) (s1 := []) (st := []) [] (cmX8_goOn X.2.1 G F  _ _ r2 r3 rfl rfl o3 ho3) (mj_rr rfl) rfl cw_X8_60 s0_2 a0_2 (by decide) rfl rfl (Nat.le_of_ble_eq_true rfl) ⟨Nat.zero_le _, Nat.zero_le _⟩ dX8_readVariable_18 rfl ?_
    refine mj_iload_n 0 dX8_readVariable_21 rfl ?_
    obtain rfl := Option.some.inj hf
    have hZ := hq
    replace hZ := mj_u2p hZ
    exact mj_iret hR ⟨Nat.le_refl _, Nat.le_refl _⟩ rfl rfl dX8_readVariable_22 hZ
  · replace hf := mj_pos c2 hf
    refine mj_aload_n 1 dX8_readVariable_10 rfl ?_
    refine mj_iconst dX8_readVariable_11 kc_iconst_1 ?_
    obtain ⟨o4, ho4, hf⟩ := mj_bd hf
    refine mj_callVd (I2 := (mj_rows I [(2, o4), (3, r3)])) (L2 := L) (s1 := []) (st := []) [.int (1 : Int32)] (cmX8_fail X.2.1 G F (1 : Int32) _ _ r2 rfl o4 ho4) (mj_rr rfl) rfl cw_X8_116 s0_2 a0_2 (by decide) rfl rfl (Nat.le_of_ble_eq_true rfl) ⟨Nat.zero_le _, Nat.zero_le _⟩ dX8_readVariable_12 rfl ?_
    refine mj_iconst dX8_readVariable_15 kc_iconst_0 ?_
    obtain rfl := Option.some.inj hf
    have hZ := hq
    replace hZ := mj_u2p hZ
    exact mj_iret hR ⟨Nat.le_refl _, Nat.le_refl _⟩ rfl rfl dX8_readVariable_16 hZ
set_option maxRecDepth 100000 in
set_option maxHeartbeats 4000000 in
theorem cmX8_readVariable (l : Launch) (G : mj_GT) (F : Nat) (I : mj_IT) (L : mj_LT) (r2 : Nat → Int32) (r3 : Nat → Int32) (hr2 : I 2 = r2) (hr3 : I 3 = r3) (o : ((Int32) × (Nat → Int32))) (hf : fnX8_readVariable F r2 r3 = some o) : mj_M l G yX8_readVariable cX8_readVariable 2 2 (some .int) 0 0 mj_P0 mj_S0 98 [.ref 2] I L (mj_qd (some (.int o.1)) (mj_rows I [(2, o.2), (3, r3)]) L) := by
  refine mj_in RX8 "readVariable" [(0, .ref 2)] rfl rfl rfl (by decide) (Nat.le_of_ble_eq_true rfl) (fun X ad hR => ?_)
  refine mj_toI [(2, r2), (3, r3)] (by intro q hq; simp only [List.mem_cons, List.not_mem_nil, or_false] at hq; rcases hq with rfl | rfl <;> assumption) ?_
  refine mtX8_readVariable hR F I L r2 r3 o hf ?_
  obtain ⟨w0, w1⟩ := o
  refine mj_u2q ?_
  exact ⟨rfl, rfl, rfl⟩

-- X8_readNumber
def jnX8_readNumber_68 (F : Nat) (r3 : Nat → Int32) (x2 : Int32) (r2 : Nat → Int32) : Option ((Int32) × (Nat → Int32)) := (if x2 = (10 : Int32) then (if (1 : Int32) = 0 then (fnX8_fail F r2 (2 : Int32)).bind (fun o7 => some ((0 : Int32), o7)) else (fnX8_goOn F r2 r3).bind (fun o6 => some (x2, o6))) else (if (0 : Int32) = 0 then (fnX8_fail F r2 (2 : Int32)).bind (fun o4 => some ((0 : Int32), o4)) else (fnX8_goOn F r2 r3).bind (fun o3 => some (x2, o3))))
def jnX8_readNumber_31 (F : Nat) (r3 : Nat → Int32) (x1 : Int32) (x2 : Int32) (t0 : Int32) (r2 : Nat → Int32) : Option ((Int32) × (Nat → Int32)) := (if x1 = (2 : Int32) then (if (60 : Int32) < x2 then (if (0 : Int32) = 0 then (fnX8_fail F r2 (2 : Int32)).bind (fun o21 => some ((0 : Int32), o21)) else (fnX8_goOn F r2 r3).bind (fun o20 => some (x2, o20))) else (if (1 : Int32) = 0 then (fnX8_fail F r2 (2 : Int32)).bind (fun o24 => some ((0 : Int32), o24)) else (fnX8_goOn F r2 r3).bind (fun o23 => some (x2, o23)))) else (if x1 = (1 : Int32) then (if x2 < (2 : Int32) then jnX8_readNumber_68 F r3 x2 r2 else (if x2 ≤ (6 : Int32) then (if (1 : Int32) = 0 then (fnX8_fail F r2 (2 : Int32)).bind (fun o17 => some ((0 : Int32), o17)) else (fnX8_goOn F r2 r3).bind (fun o16 => some (x2, o16))) else jnX8_readNumber_68 F r3 x2 r2)) else (if t0 = 0 then (fnX8_fail F r2 (2 : Int32)).bind (fun o12 => some ((0 : Int32), o12)) else (fnX8_goOn F r2 r3).bind (fun o11 => some (x2, o11)))))
def fnX8_readNumber (F : Nat) (r2 : Nat → Int32) (r3 : Nat → Int32) (x1 : Int32) : Option ((Int32) × (Nat → Int32)) := (if (r2 4) = (2 : Int32) then (if (10 : Int32) ≤ (r2 7) then jnX8_readNumber_31 F r3 x1 (r2 7) (0 : Int32) r2 else jnX8_readNumber_31 F r3 x1 (r2 7) (1 : Int32) r2) else (fnX8_fail F r2 (1 : Int32)).bind (fun o27 => some ((0 : Int32), o27)))
set_option maxRecDepth 100000 in
set_option maxHeartbeats 4000000 in
theorem jtX8_readNumber_68 {X : mj_XT} {l : Launch} {G : mj_GT} {ad : Nat → Nat} {Qn : Option Value → mj_IT → mj_LT → Prop} (hR : mj_R X l G mj_P0 mj_S0 98 ad 0 0 Qn) (F : Nat) (I : mj_IT) (L : mj_LT) (r2 : Nat → Int32) (r3 : Nat → Int32) (x2 : Int32) (o : ((Int32) × (Nat → Int32))) (hf : jnX8_readNumber_68 F r3 x2 r2 = some o) (hq : (mj_u2 (fun ov r2 => Qn (some (.int ov)) (mj_rows I [(2, r2), (3, r3)]) L)) o) : mj_W X G RX8 "readNumber" cX8_readNumber 4 2 (some .int) mj_P0 mj_S0 98 ad 0 0 68 [(0, .ref 2), (2, .int x2)] [] (mj_rows I [(2, r2), (3, r3)]) L := by
  unfold jnX8_readNumber_68 at hf
  refine mj_iload_n 1 dX8_readNumber_68 rfl ?_
  refine mj_bipush dX8_readNumber_69 kc_bipush_10 ?_
  refine mj_icmp_ne 78 dX8_readNumber_71 (by decide) (fun c1 => ?_) (fun c1 => ?_)
  · replace hf := mj_neg c1 hf
    refine mj_iconst dX8_readNumber_78 kc_iconst_0 ?_
    refine mj_istore_n [(3, .int (0 : Int32)), (0, .ref 2), (2, .int x2)] dX8_readNumber_79 rfl (by decide) rfl ?_
    refine mj_iload_n 0 dX8_readNumber_80 rfl ?_
    refine mj_if_ne 91 dX8_readNumber_81 (by decide) (fun c2 => ?_) (fun c2 => ?_)
    · replace hf := mj_neg c2 hf
      refine mj_aload_n 1 dX8_readNumber_91 rfl ?_
      obtain ⟨o3, ho3, hf⟩ := mj_bd hf
      refine mj_callVd (I2 := (mj_rows I [(2, o3), (3, r3)])) (L2 := L) (s1 := []) (st := []) [] (cmX8_goOn X.2.1 G F  _ _ r2 r3 rfl rfl o3 ho3) (mj_rr rfl) rfl cw_X8_60 s0_2 a0_2 (by decide) rfl rfl (Nat.le_of_ble_eq_true rfl) ⟨Nat.zero_le _, Nat.zero_le _⟩ dX8_readNumber_92 rfl ?_
      refine mj_iload_n 2 dX8_readNumber_95 rfl ?_
      obtain rfl := Option.some.inj hf
      have hZ := hq
      replace hZ := mj_u2p hZ
      exact mj_iret hR ⟨Nat.le_refl _, Nat.le_refl _⟩ rfl rfl dX8_readNumber_96 hZ
    · replace hf := mj_pos c2 hf
      refine mj_aload_n 1 dX8_readNumber_84 rfl ?_
      refine mj_iconst dX8_readNumber_85 kc_iconst_2 ?_
      obtain ⟨o4, ho4, hf⟩ := mj_bd hf
      refine mj_callVd (I2 := (mj_rows I [(2, o4), (3, r3)])) (L2 := L) (s1 := []) (st := []) [.int (2 : Int32)] (cmX8_fail X.2.1 G F (2 : Int32) _ _ r2 rfl o4 ho4) (mj_rr rfl) rfl cw_X8_116 s0_2 a0_2 (by decide) rfl rfl (Nat.le_of_ble_eq_true rfl) ⟨Nat.zero_le _, Nat.zero_le _⟩ dX8_readNumber_86 rfl ?_
      refine mj_iconst dX8_readNumber_89 kc_iconst_0 ?_
      obtain rfl := Option.some.inj hf
      have hZ := hq
      replace hZ := mj_u2p hZ
      exact mj_iret hR ⟨Nat.le_refl _, Nat.le_refl _⟩ rfl rfl dX8_readNumber_90 hZ
  · replace hf := mj_pos c1 hf
    refine mj_iconst dX8_readNumber_74 kc_iconst_1 ?_
    refine mj_goto 79 dX8_readNumber_75 (by decide) ?_
    refine mj_istore_n [(3, .int (1 : Int32)), (0, .ref 2), (2, .int x2)] dX8_readNumber_79 rfl (by decide) rfl ?_
    refine mj_iload_n 0 dX8_readNumber_80 rfl ?_
    refine mj_if_ne 91 dX8_readNumber_81 (by decide) (fun c5 => ?_) (fun c5 => ?_)
    · replace hf := mj_neg c5 hf
      refine mj_aload_n 1 dX8_readNumber_91 rfl ?_
      obtain ⟨o6, ho6, hf⟩ := mj_bd hf
      refine mj_callVd (I2 := (mj_rows I [(2, o6), (3, r3)])) (L2 := L) (s1 := []) (st := []) [] (cmX8_goOn X.2.1 G F  _ _ r2 r3 rfl rfl o6 ho6) (mj_rr rfl) rfl cw_X8_60 s0_2 a0_2 (by decide) rfl rfl (Nat.le_of_ble_eq_true rfl) ⟨Nat.zero_le _, Nat.zero_le _⟩ dX8_readNumber_92 rfl ?_
      refine mj_iload_n 2 dX8_readNumber_95 rfl ?_
      obtain rfl := Option.some.inj hf
      have hZ := hq
      replace hZ := mj_u2p hZ
      exact mj_iret hR ⟨Nat.le_refl _, Nat.le_refl _⟩ rfl rfl dX8_readNumber_96 hZ
    · replace hf := mj_pos c5 hf
      refine mj_aload_n 1 dX8_readNumber_84 rfl ?_
      refine mj_iconst dX8_readNumber_85 kc_iconst_2 ?_
      obtain ⟨o7, ho7, hf⟩ := mj_bd hf
      refine mj_callVd (I2 := (mj_rows I [(2, o7), (3, r3)])) (L2 := L) (s1 := []) (st := []) [.int (2 : Int32)] (cmX8_fail X.2.1 G F (2 : Int32) _ _ r2 rfl o7 ho7) (mj_rr rfl) rfl cw_X8_116 s0_2 a0_2 (by decide) rfl rfl (Nat.le_of_ble_eq_true rfl) ⟨Nat.zero_le _, Nat.zero_le _⟩ dX8_readNumber_86 rfl ?_
      refine mj_iconst dX8_readNumber_89 kc_iconst_0 ?_
      obtain rfl := Option.some.inj hf
      have hZ := hq
      replace hZ := mj_u2p hZ
      exact mj_iret hR ⟨Nat.le_refl _, Nat.le_refl _⟩ rfl rfl dX8_readNumber_90 hZ
set_option maxRecDepth 100000 in
set_option maxHeartbeats 4000000 in
theorem jtX8_readNumber_31 {X : mj_XT} {l : Launch} {G : mj_GT} {ad : Nat → Nat} {Qn : Option Value → mj_IT → mj_LT → Prop} (hR : mj_R X l G mj_P0 mj_S0 98 ad 0 0 Qn) (F : Nat) (I : mj_IT) (L : mj_LT) (r2 : Nat → Int32) (r3 : Nat → Int32) (x1 : Int32) (x2 : Int32) (t0 : Int32) (o : ((Int32) × (Nat → Int32))) (hf : jnX8_readNumber_31 F r3 x1 x2 t0 r2 = some o) (hq : (mj_u2 (fun ov r2 => Qn (some (.int ov)) (mj_rows I [(2, r2), (3, r3)]) L)) o) : mj_W X G RX8 "readNumber" cX8_readNumber 4 2 (some .int) mj_P0 mj_S0 98 ad 0 0 31 [(0, .ref 2), (1, .int x1), (2, .int x2)] [.int t0] (mj_rows I [(2, r2), (3, r3)]) L := by
  unfold jnX8_readNumber_31 at hf
  refine mj_istore_n [(3, .int t0), (0, .ref 2), (1, .int x1), (2, .int x2)] dX8_readNumber_31 rfl (by decide) rfl ?_
  refine mj_iload_n 2 dX8_readNumber_32 rfl ?_
  refine mj_iconst dX8_readNumber_33 kc_iconst_2 ?_
  refine mj_icmp_ne 52 dX8_readNumber_34 (by decide) (fun c8 => ?_) (fun c8 => ?_)
  · replace hf := mj_neg c8 hf
    refine mj_iload_n 2 dX8_readNumber_52 rfl ?_
    refine mj_iconst dX8_readNumber_53 kc_iconst_1 ?_
    refine mj_icmp_ne 80 dX8_readNumber_54 (by decide) (fun c9 => ?_) (fun c9 => ?_)
    · replace hf := mj_neg c9 hf
      refine mj_iload_n 0 dX8_readNumber_80 rfl ?_
      refine mj_if_ne 91 dX8_readNumber_81 (by decide) (fun c10 => ?_) (fun c10 => ?_)
      · replace hf := mj_neg c10 hf
        refine mj_aload_n 1 dX8_readNumber_91 rfl ?_
        obtain ⟨o11, ho11, hf⟩ := mj_bd hf
        refine mj_callVd (I2 := (mj_rows I [(2, o11), (3, r3)])) (L2 := L) (s1 := []) (st := []) [] (cmX8_goOn X.2.1 G F  _ _ r2 r3 rfl rfl o11 ho11) (mj_rr rfl) rfl cw_X8_60 s0_2 a0_2 (by decide) rfl rfl (Nat.le_of_ble_eq_true rfl) ⟨Nat.zero_le _, Nat.zero_le _⟩ dX8_readNumber_92 rfl ?_
        refine mj_iload_n 3 dX8_readNumber_95 rfl ?_
        obtain rfl := Option.some.inj hf
        have hZ := hq
        replace hZ := mj_u2p hZ
        exact mj_iret hR ⟨Nat.le_refl _, Nat.le_refl _⟩ rfl rfl dX8_readNumber_96 hZ
      · replace hf := mj_pos c10 hf
        refine mj_aload_n 1 dX8_readNumber_84 rfl ?_
        refine mj_iconst dX8_readNumber_85 kc_iconst_2 ?_
        obtain ⟨o12, ho12, hf⟩ := mj_bd hf
        refine mj_callVd (I2 := (mj_rows I [(2, o12), (3, r3)])) (L2 := L) (s1 := []) (st := []) [.int (2 : Int32)] (cmX8_fail X.2.1 G F (2 : Int32) _ _ r2 rfl o12 ho12) (mj_rr rfl) rfl cw_X8_116 s0_2 a0_2 (by decide) rfl rfl (Nat.le_of_ble_eq_true rfl) ⟨Nat.zero_le _, Nat.zero_le _⟩ dX8_readNumber_86 rfl ?_
        refine mj_iconst dX8_readNumber_89 kc_iconst_0 ?_
        obtain rfl := Option.some.inj hf
        have hZ := hq
        replace hZ := mj_u2p hZ
        exact mj_iret hR ⟨Nat.le_refl _, Nat.le_refl _⟩ rfl rfl dX8_readNumber_90 hZ
    · replace hf := mj_pos c9 hf
      refine mj_iload_n 3 dX8_readNumber_57 rfl ?_
      refine mj_iconst dX8_readNumber_58 kc_iconst_2 ?_
      refine mj_icmp_lt 68 dX8_readNumber_59 (by decide) (fun c13 => ?_) (fun c13 => ?_)
      · replace hf := mj_pos c13 hf
        refine mj_sub [1, 3] [(0, .ref 2), (2, .int x2)] rfl ?_
        exact jtX8_readNumber_68 hR F I L r2 r3 x2 o hf hq
      · replace hf := mj_neg c13 hf
        refine mj_iload_n 3 dX8_readNumber_62 rfl ?_
        refine mj_bipush dX8_readNumber_63 kc_bipush_6 ?_
        refine mj_icmp_le 74 dX8_readNumber_65 (by decide) (fun c14 => ?_) (fun c14 => ?_)
        · replace hf := mj_pos c14 hf
          refine mj_iconst dX8_readNumber_74 kc_iconst_1 ?_
          refine mj_goto 79 dX8_readNumber_75 (by decide) ?_
          refine mj_istore_n [(3, .int (1 : Int32)), (0, .ref 2), (1, .int x1), (2, .int x2)] dX8_readNumber_79 rfl (by decide) rfl ?_
          refine mj_iload_n 0 dX8_readNumber_80 rfl ?_
          refine mj_if_ne 91 dX8_readNumber_81 (by decide) (fun c15 => ?_) (fun c15 => ?_)
          · replace hf := mj_neg c15 hf
            refine mj_aload_n 1 dX8_readNumber_91 rfl ?_
            obtain ⟨o16, ho16, hf⟩ := mj_bd hf
            refine mj_callVd (I2 := (mj_rows I [(2, o16), (3, r3)])) (L2 := L) (s1 := []) (st := []) [] (cmX8_goOn X.2.1 G F  _ _ r2 r3 rfl rfl o16 ho16) (mj_rr rfl) rfl cw_X8_60 s0_2 a0_2 (by decide) rfl rfl (Nat.le_of_ble_eq_true rfl) ⟨Nat.zero_le _, Nat.zero_le _⟩ dX8_readNumber_92 rfl ?_
            refine mj_iload_n 3 dX8_readNumber_95 rfl ?_
            obtain rfl := Option.some.inj hf
            have hZ := hq
            replace hZ := mj_u2p hZ
            exact mj_iret hR ⟨Nat.le_refl _, Nat.le_refl _⟩ rfl rfl dX8_readNumber_96 hZ
          · replace hf := mj_pos c15 hf
            refine mj_aload_n 1 dX8_readNumber_84 rfl ?_
            refine mj_iconst dX8_readNumber_85 kc_iconst_2 ?_
            obtain ⟨o17, ho17, hf⟩ := mj_bd hf
            refine mj_callVd (I2 := (mj_rows I [(2, o17), (3, r3)])) (L2 := L) (s1 := []) (st := []) [.int (2 : Int32)] (cmX8_fail X.2.1 G F (2 : Int32) _ _ r2 rfl o17 ho17) (mj_rr rfl) rfl cw_X8_116 s0_2 a0_2 (by decide) rfl rfl (Nat.le_of_ble_eq_true rfl) ⟨Nat.zero_le _, Nat.zero_le _⟩ dX8_readNumber_86 rfl ?_
            refine mj_iconst dX8_readNumber_89 kc_iconst_0 ?_
            obtain rfl := Option.some.inj hf
            have hZ := hq
            replace hZ := mj_u2p hZ
            exact mj_iret hR ⟨Nat.le_refl _, Nat.le_refl _⟩ rfl rfl dX8_readNumber_90 hZ
        · replace hf := mj_neg c14 hf
          refine mj_sub [1, 3] [(0, .ref 2), (2, .int x2)] rfl ?_
          exact jtX8_readNumber_68 hR F I L r2 r3 x2 o hf hq
  · replace hf := mj_pos c8 hf
    refine mj_iload_n 3 dX8_readNumber_37 rfl ?_
    refine mj_bipush dX8_readNumber_38 kc_bipush_60 ?_
    refine mj_icmp_gt 47 dX8_readNumber_40 (by decide) (fun c18 => ?_) (fun c18 => ?_)
    · replace hf := mj_pos c18 hf
      refine mj_iconst dX8_readNumber_47 kc_iconst_0 ?_
      refine mj_istore_n [(3, .int (0 : Int32)), (0, .ref 2), (1, .int x1), (2, .int x2)] dX8_readNumber_48 rfl (by decide) rfl ?_
      refine mj_goto 80 dX8_readNumber_49 (by decide) ?_
      refine mj_iload_n 0 dX8_readNumber_80 rfl ?_
      refine mj_if_ne 91 dX8_readNumber_81 (by decide) (fun c19 => ?_) (fun c19 => ?_)
      · replace hf := mj_neg c19 hf
        refine mj_aload_n 1 dX8_readNumber_91 rfl ?_
        obtain ⟨o20, ho20, hf⟩ := mj_bd hf
        refine mj_callVd (I2 := (mj_rows I [(2, o20), (3, r3)])) (L2 := L) (s1 := []) (st := []) [] (cmX8_goOn X.2.1 G F  _ _ r2 r3 rfl rfl o20 ho20) (mj_rr rfl) rfl cw_X8_60 s0_2 a0_2 (by decide) rfl rfl (Nat.le_of_ble_eq_true rfl) ⟨Nat.zero_le _, Nat.zero_le _⟩ dX8_readNumber_92 rfl ?_
        refine mj_iload_n 3 dX8_readNumber_95 rfl ?_
        obtain rfl := Option.some.inj hf
        have hZ := hq
        replace hZ := mj_u2p hZ
        exact mj_iret hR ⟨Nat.le_refl _, Nat.le_refl _⟩ rfl rfl dX8_readNumber_96 hZ
      · replace hf := mj_pos c19 hf
        refine mj_aload_n 1 dX8_readNumber_84 rfl ?_
        refine mj_iconst dX8_readNumber_85 kc_iconst_2 ?_
        obtain ⟨o21, ho21, hf⟩ := mj_bd hf
        refine mj_callVd (I2 := (mj_rows I [(2, o21), (3, r3)])) (L2 := L) (s1 := []) (st := []) [.int (2 : Int32)] (cmX8_fail X.2.1 G F (2 : Int32) _ _ r2 rfl o21 ho21) (mj_rr rfl) rfl cw_X8_116 s0_2 a0_2 (by decide) rfl rfl (Nat.le_of_ble_eq_true rfl) ⟨Nat.zero_le _, Nat.zero_le _⟩ dX8_readNumber_86 rfl ?_
        refine mj_iconst dX8_readNumber_89 kc_iconst_0 ?_
        obtain rfl := Option.some.inj hf
        have hZ := hq
        replace hZ := mj_u2p hZ
        exact mj_iret hR ⟨Nat.le_refl _, Nat.le_refl _⟩ rfl rfl dX8_readNumber_90 hZ
    · replace hf := mj_neg c18 hf
      refine mj_iconst dX8_readNumber_43 kc_iconst_1 ?_
      refine mj_goto 48 dX8_readNumber_44 (by decide) ?_
      refine mj_istore_n [(3, .int (1 : Int32)), (0, .ref 2), (1, .int x1), (2, .int x2)] dX8_readNumber_48 rfl (by decide) rfl ?_
      refine mj_goto 80 dX8_readNumber_49 (by decide) ?_
      refine mj_iload_n 0 dX8_readNumber_80 rfl ?_
      refine mj_if_ne 91 dX8_readNumber_81 (by decide) (fun c22 => ?_) (fun c22 => ?_)
      · replace hf := mj_neg c22 hf
        refine mj_aload_n 1 dX8_readNumber_91 rfl ?_
        obtain ⟨o23, ho23, hf⟩ := mj_bd hf
        refine mj_callVd (I2 := (mj_rows I [(2, o23), (3, r3)])) (L2 := L) (s1 := []) (st := []) [] (cmX8_goOn X.2.1 G F  _ _ r2 r3 rfl rfl o23 ho23) (mj_rr rfl) rfl cw_X8_60 s0_2 a0_2 (by decide) rfl rfl (Nat.le_of_ble_eq_true rfl) ⟨Nat.zero_le _, Nat.zero_le _⟩ dX8_readNumber_92 rfl ?_
        refine mj_iload_n 3 dX8_readNumber_95 rfl ?_
        obtain rfl := Option.some.inj hf
        have hZ := hq
        replace hZ := mj_u2p hZ
        exact mj_iret hR ⟨Nat.le_refl _, Nat.le_refl _⟩ rfl rfl dX8_readNumber_96 hZ
      · replace hf := mj_pos c22 hf
        refine mj_aload_n 1 dX8_readNumber_84 rfl ?_
        refine mj_iconst dX8_readNumber_85 kc_iconst_2 ?_
        obtain ⟨o24, ho24, hf⟩ := mj_bd hf
        refine mj_callVd (I2 := (mj_rows I [(2, o24), (3, r3)])) (L2 := L) (s1 := []) (st := []) [.int (2 : Int32)] (cmX8_fail X.2.1 G F (2 : Int32) _ _ r2 rfl o24 ho24) (mj_rr rfl) rfl cw_X8_116 s0_2 a0_2 (by decide) rfl rfl (Nat.le_of_ble_eq_true rfl) ⟨Nat.zero_le _, Nat.zero_le _⟩ dX8_readNumber_86 rfl ?_
        refine mj_iconst dX8_readNumber_89 kc_iconst_0 ?_
        obtain rfl := Option.some.inj hf
        have hZ := hq
        replace hZ := mj_u2p hZ
        exact mj_iret hR ⟨Nat.le_refl _, Nat.le_refl _⟩ rfl rfl dX8_readNumber_90 hZ
set_option maxRecDepth 100000 in
set_option maxHeartbeats 4000000 in
theorem mtX8_readNumber {X : mj_XT} {l : Launch} {G : mj_GT} {ad : Nat → Nat} {Qn : Option Value → mj_IT → mj_LT → Prop} (hR : mj_R X l G mj_P0 mj_S0 98 ad 0 0 Qn) (F : Nat) (I : mj_IT) (L : mj_LT) (r2 : Nat → Int32) (r3 : Nat → Int32) (x1 : Int32) (o : ((Int32) × (Nat → Int32))) (hf : fnX8_readNumber F r2 r3 x1 = some o) (hq : (mj_u2 (fun ov r2 => Qn (some (.int ov)) (mj_rows I [(2, r2), (3, r3)]) L)) o) : mj_W X G RX8 "readNumber" cX8_readNumber 4 2 (some .int) mj_P0 mj_S0 98 ad 0 0 0 [(0, .ref 2), (1, .int x1)] [] (mj_rows I [(2, r2), (3, r3)]) L := by
  unfold fnX8_readNumber at hf
  refine mj_aload_n 0 dX8_readNumber_0 rfl ?_
  refine mj_getIv (v := (r2 7)) rfl fl_X8_82 rfl s0_2 a0_2 dX8_readNumber_1 ?_
  refine mj_istore_n [(2, .int (r2 7)), (0, .ref 2), (1, .int x1)] dX8_readNumber_4 rfl (by decide) rfl ?_
  refine mj_aload_n 1 dX8_readNumber_5 rfl ?_
  refine mj_getIv (v := (r2 4)) rfl fl_X8_63 rfl s0_2 a0_2 dX8_readNumber_6 ?_
  refine mj_iconst dX8_readNumber_9 kc_iconst_2 ?_
  refine mj_icmp_eq 20 dX8_readNumber_10 (by decide) (fun c25 => ?_) (fun c25 => ?_)
  · replace hf := mj_pos c25 hf
    refine mj_iload_n 0 dX8_readNumber_20 rfl ?_
    refine mj_bipush dX8_readNumber_21 kc_bipush_10 ?_
    refine mj_icmp_ge 30 dX8_readNumber_23 (by decide) (fun c26 => ?_) (fun c26 => ?_)
    · replace hf := mj_pos c26 hf
      refine mj_iconst dX8_readNumber_30 kc_iconst_0 ?_
      refine mj_sub [1, 2, 0] [(0, .ref 2), (1, .int x1), (2, .int (r2 7))] rfl ?_
      exact jtX8_readNumber_31 hR F I L r2 r3 x1 (r2 7) (0 : Int32) o hf hq
    · replace hf := mj_neg c26 hf
      refine mj_iconst dX8_readNumber_26 kc_iconst_1 ?_
      refine mj_goto 31 dX8_readNumber_27 (by decide) ?_
      refine mj_sub [1, 2, 0] [(0, .ref 2), (1, .int x1), (2, .int (r2 7))] rfl ?_
      exact jtX8_readNumber_31 hR F I L r2 r3 x1 (r2 7) (1 : Int32) o hf hq
  · replace hf := mj_neg c25 hf
    refine mj_aload_n 1 dX8_readNumber_13 rfl ?_
    refine mj_iconst dX8_readNumber_14 kc_iconst_1 ?_
    obtain ⟨o27, ho27, hf⟩ := mj_bd hf
    refine mj_callVd (I2 := (mj_rows I [(2, o27), (3, r3)])) (L2 := L) (s1 := []) (st := []) [.int (1 : Int32)] (cmX8_fail X.2.1 G F (1 : Int32) _ _ r2 rfl o27 ho27) (mj_rr rfl) rfl cw_X8_116 s0_2 a0_2 (by decide) rfl rfl (Nat.le_of_ble_eq_true rfl) ⟨Nat.zero_le _, Nat.zero_le _⟩ dX8_readNumber_15 rfl ?_
    refine mj_iconst dX8_readNumber_18 kc_iconst_0 ?_
    obtain rfl := Option.some.inj hf
    have hZ := hq
    replace hZ := mj_u2p hZ
    exact mj_iret hR ⟨Nat.le_refl _, Nat.le_refl _⟩ rfl rfl dX8_readNumber_19 hZ
set_option maxRecDepth 100000 in
set_option maxHeartbeats 4000000 in
theorem cmX8_readNumber (l : Launch) (G : mj_GT) (F : Nat) (x1 : Int32) (I : mj_IT) (L : mj_LT) (r2 : Nat → Int32) (r3 : Nat → Int32) (hr2 : I 2 = r2) (hr3 : I 3 = r3) (o : ((Int32) × (Nat → Int32))) (hf : fnX8_readNumber F r2 r3 x1 = some o) : mj_M l G yX8_readNumber cX8_readNumber 4 2 (some .int) 0 0 mj_P0 mj_S0 98 [.ref 2, .int x1] I L (mj_qd (some (.int o.1)) (mj_rows I [(2, o.2), (3, r3)]) L) := by
  refine mj_in RX8 "readNumber" [(0, .ref 2), (1, .int x1)] rfl rfl rfl (by decide) (Nat.le_of_ble_eq_true rfl) (fun X ad hR => ?_)
  refine mj_toI [(2, r2), (3, r3)] (by intro q hq; simp only [List.mem_cons, List.not_mem_nil, or_false] at hq; rcases hq with rfl | rfl <;> assumption) ?_
  refine mtX8_readNumber hR F I L r2 r3 x1 o hf ?_
  obtain ⟨w0, w1⟩ := o
  refine mj_u2q ?_
  exact ⟨rfl, rfl, rfl⟩

-- X8_readTerm
def fnX8_readTerm (F : Nat) (r2 : Nat → Int32) (r3 : Nat → Int32) : Option ((Int32) × (Nat → Int32)) := (if (r2 4) = (2 : Int32) then (fnX8_readNumber F r2 r3 (0 : Int32)).bind (fun o3 => some (o3.1, o3.2)) else (fnX8_readVariable F r2 r3).bind (fun o2 => some (((10 : Int32) + o2.1), o2.2)))
set_option maxRecDepth 100000 in
set_option maxHeartbeats 4000000 in
theorem mtX8_readTerm {X : mj_XT} {l : Launch} {G : mj_GT} {ad : Nat → Nat} {Qn : Option Value → mj_IT → mj_LT → Prop} (hR : mj_R X l G mj_P0 mj_S0 98 ad 0 0 Qn) (F : Nat) (I : mj_IT) (L : mj_LT) (r2 : Nat → Int32) (r3 : Nat → Int32) (o : ((Int32) × (Nat → Int32))) (hf : fnX8_readTerm F r2 r3 = some o) (hq : (mj_u2 (fun ov r2 => Qn (some (.int ov)) (mj_rows I [(2, r2), (3, r3)]) L)) o) : mj_W X G RX8 "readTerm" cX8_readTerm 1 3 (some .int) mj_P0 mj_S0 98 ad 0 0 0 [(0, .ref 2)] [] (mj_rows I [(2, r2), (3, r3)]) L := by
  unfold fnX8_readTerm at hf
  refine mj_aload_n 0 dX8_readTerm_0 rfl ?_
  refine mj_getIv (v := (r2 4)) rfl fl_X8_63 rfl s0_2 a0_2 dX8_readTerm_1 ?_
  refine mj_iconst dX8_readTerm_4 kc_iconst_2 ?_
  refine mj_icmp_ne 16 dX8_readTerm_5 (by decide) (fun c1 => ?_) (fun c1 => ?_)
  · replace hf := mj_neg c1 hf
    refine mj_bipush dX8_readTerm_16 kc_bipush_10 ?_
    refine mj_aload_n 0 dX8_readTerm_18 rfl ?_
    obtain ⟨o2, ho2, hf⟩ := mj_bd hf
    refine mj_callVd (I2 := (mj_rows I [(2, o2.2), (3, r3)])) (L2 := L) (s1 := [.int o2.1, .int (10 : Int32)]) (st := [.int (10 : Int32)]) [] (cmX8_readVariable X.2.1 G F  _ _ r2 r3 rfl rfl o2 ho2) (mj_rr rfl) rfl cw_X8_131 s0_2 a0_2 (by decide) rfl rfl (Nat.le_of_ble_eq_true rfl) ⟨Nat.zero_le _, Nat.zero_le _⟩ dX8_readTerm_19 rfl ?_
    refine mj_iadd dX8_readTerm_22 ?_
    obtain rfl := Option.some.inj hf
    have hZ := hq
    replace hZ := mj_u2p hZ
    exact mj_iret hR ⟨Nat.le_refl _, Nat.le_refl _⟩ rfl rfl dX8_readTerm_23 hZ
  · replace hf := mj_pos c1 hf
    refine mj_aload_n 0 dX8_readTerm_8 rfl ?_
    refine mj_iconst dX8_readTerm_9 kc_iconst_0 ?_
    obtain ⟨o3, ho3, hf⟩ := mj_bd hf
    refine mj_callVd (I2 := (mj_rows I [(2, o3.2), (3, r3)])) (L2 := L) (s1 := [.int o3.1]) (st := []) [.int (0 : Int32)] (cmX8_readNumber X.2.1 G F (0 : Int32) _ _ r2 r3 rfl rfl o3 ho3) (mj_rr rfl) rfl cw_X8_154 s0_2 a0_2 (by decide) rfl rfl (Nat.le_of_ble_eq_true rfl) ⟨Nat.zero_le _, Nat.zero_le _⟩ dX8_readTerm_10 rfl ?_
    refine mj_goto 23 dX8_readTerm_13 (by decide) ?_
    obtain rfl := Option.some.inj hf
    have hZ := hq
    replace hZ := mj_u2p hZ
    exact mj_iret hR ⟨Nat.le_refl _, Nat.le_refl _⟩ rfl rfl dX8_readTerm_23 hZ
set_option maxRecDepth 100000 in
set_option maxHeartbeats 4000000 in
theorem cmX8_readTerm (l : Launch) (G : mj_GT) (F : Nat) (I : mj_IT) (L : mj_LT) (r2 : Nat → Int32) (r3 : Nat → Int32) (hr2 : I 2 = r2) (hr3 : I 3 = r3) (o : ((Int32) × (Nat → Int32))) (hf : fnX8_readTerm F r2 r3 = some o) : mj_M l G yX8_readTerm cX8_readTerm 1 3 (some .int) 0 0 mj_P0 mj_S0 98 [.ref 2] I L (mj_qd (some (.int o.1)) (mj_rows I [(2, o.2), (3, r3)]) L) := by
  refine mj_in RX8 "readTerm" [(0, .ref 2)] rfl rfl rfl (by decide) (Nat.le_of_ble_eq_true rfl) (fun X ad hR => ?_)
  refine mj_toI [(2, r2), (3, r3)] (by intro q hq; simp only [List.mem_cons, List.not_mem_nil, or_false] at hq; rcases hq with rfl | rfl <;> assumption) ?_
  refine mtX8_readTerm hR F I L r2 r3 o hf ?_
  obtain ⟨w0, w1⟩ := o
  refine mj_u2q ?_
  exact ⟨rfl, rfl, rfl⟩

-- X8_readSum
def jnX8_readSum_25 (F : Nat) (r3 : Nat → Int32) (x1 : Int32) (r2 : Nat → Int32) : Option ((Int32) × (Nat → Int32)) := (fnX8_isSign F r2 r3 (43 : Int32)).bind (fun o1 => (if o1 = 0 then (fnX8_goOn F r2 r3).bind (fun o3 => (fnX8_readTerm F o3 r3).bind (fun o4 => (fnX7_sum F x1 (2 : Int32) o4.1).bind (fun o5 => some (o5, o4.2)))) else (fnX8_goOn F r2 r3).bind (fun o6 => (fnX8_readTerm F o6 r3).bind (fun o7 => (fnX7_sum F x1 (1 : Int32) o7.1).bind (fun o8 => some (o8, o7.2))))))
def fnX8_readSum (F : Nat) (r2 : Nat → Int32) (r3 : Nat → Int32) : Option ((Int32) × (Nat → Int32)) := (fnX8_readTerm F r2 r3).bind (fun o9 => (fnX8_isSign F o9.2 r3 (43 : Int32)).bind (fun o10 => (if o10 = 0 then (fnX8_isSign F o9.2 r3 (45 : Int32)).bind (fun o12 => (if o12 = 0 then some (o9.1, o9.2) else jnX8_readSum_25 F r3 o9.1 o9.2)) else jnX8_readSum_25 F r3 o9.1 o9.2)))
set_option maxRecDepth 100000 in
set_option maxHeartbeats 4000000 in
theorem jtX8_readSum_25 {X : mj_XT} {l : Launch} {G : mj_GT} {ad : Nat → Nat} {Qn : Option Value → mj_IT → mj_LT → Prop} (hR : mj_R X l G mj_P0 mj_S0 98 ad 0 0 Qn) (F : Nat) (I : mj_IT) (L : mj_LT) (r2 : Nat → Int32) (r3 : Nat → Int32) (x1 : Int32) (o : ((Int32) × (Nat → Int32))) (hf : jnX8_readSum_25 F r3 x1 r2 = some o) (hq : (mj_u2 (fun ov r2 => Qn (some (.int ov)) (mj_rows I [(2, r2), (3, r3)]) L)) o) : mj_W X G RX8 "readSum" cX8_readSum 3 4 (some .int) mj_P0 mj_S0 98 ad 0 0 25 [(0, .ref 2), (1, .int x1)] [] (mj_rows I [(2, r2), (3, r3)]) L := by
  unfold jnX8_readSum_25 at hf
  refine mj_aload_n 0 dX8_readSum_25 rfl ?_
  refine mj_bipush dX8_readSum_26 kc_bipush_43 ?_
  obtain ⟨o1, ho1, hf⟩ := mj_bd hf
  refine mj_callVd (I2 := (mj_rows I [(2, r2), (3, r3)])) (L2 := L) (s1 := [.int o1]) (st := []) [.int (43 : Int32)] (cmX8_isSign X.2.1 G F (43 : Int32) _ _ r2 r3 rfl rfl o1 ho1) (mj_rr rfl) rfl cw_X8_66 s0_2 a0_2 (by decide) rfl rfl (Nat.le_of_ble_eq_true rfl) ⟨Nat.zero_le _, Nat.zero_le _⟩ dX8_readSum_28 rfl ?_
  refine mj_if_eq 38 dX8_readSum_31 (by decide) (fun c2 => ?_) (fun c2 => ?_)
  · replace hf := mj_pos c2 hf
    refine mj_iconst dX8_readSum_38 kc_iconst_2 ?_
    refine mj_istore_n [(2, .int (2 : Int32)), (0, .ref 2), (1, .int x1)] dX8_readSum_39 rfl (by decide) rfl ?_
    refine mj_aload_n 1 dX8_readSum_40 rfl ?_
    obtain ⟨o3, ho3, hf⟩ := mj_bd hf
    refine mj_callVd (I2 := (mj_rows I [(2, o3), (3, r3)])) (L2 := L) (s1 := []) (st := []) [] (cmX8_goOn X.2.1 G F  _ _ r2 r3 rfl rfl o3 ho3) (mj_rr rfl) rfl cw_X8_60 s0_2 a0_2 (by decide) rfl rfl (Nat.le_of_ble_eq_true rfl) ⟨Nat.zero_le _, Nat.zero_le _⟩ dX8_readSum_41 rfl ?_
    refine mj_iload_n 2 dX8_readSum_44 rfl ?_
    refine mj_iload_n 0 dX8_readSum_45 rfl ?_
    refine mj_aload_n 1 dX8_readSum_46 rfl ?_
    obtain ⟨o4, ho4, hf⟩ := mj_bd hf
    refine mj_callVd (I2 := (mj_rows I [(2, o4.2), (3, r3)])) (L2 := L) (s1 := [.int o4.1, .int (2 : Int32), .int x1]) (st := [.int (2 : Int32), .int x1]) [] (cmX8_readTerm X.2.1 G F  _ _ o3 r3 rfl rfl o4 ho4) (mj_rr rfl) rfl cw_X8_172 s0_2 a0_2 (by decide) rfl rfl (Nat.le_of_ble_eq_true rfl) ⟨Nat.zero_le _, Nat.zero_le _⟩ dX8_readSum_47 rfl ?_
    obtain ⟨o5, ho5, hf⟩ := mj_bd hf
    refine mj_callSd (I2 := (mj_rows I [(2, o4.2), (3, r3)])) (L2 := L) (s1 := [.int o5]) (st := []) [.int x1, .int (2 : Int32), .int o4.1] (cmX7_sum X.2.1 G F x1 (2 : Int32) o4.1 _ _   o5 ho5) rfl rfl cw_X8_175 (by decide) rfl rfl (Nat.le_of_ble_eq_true rfl) ⟨Nat.zero_le _, Nat.zero_le _⟩ dX8_readSum_50 rfl ?_
    obtain rfl := Option.some.inj hf
    have hZ := hq
    replace hZ := mj_u2p hZ
    exact mj_iret hR ⟨Nat.le_refl _, Nat.le_refl _⟩ rfl rfl dX8_readSum_53 hZ
  · replace hf := mj_neg c2 hf
    refine mj_iconst dX8_readSum_34 kc_iconst_1 ?_
    refine mj_goto 39 dX8_readSum_35 (by decide) ?_
    refine mj_istore_n [(2, .int (1 : Int32)), (0, .ref 2), (1, .int x1)] dX8_readSum_39 rfl (by decide) rfl ?_
    refine mj_aload_n 1 dX8_readSum_40 rfl ?_
    obtain ⟨o6, ho6, hf⟩ := mj_bd hf
    refine mj_callVd (I2 := (mj_rows I [(2, o6), (3, r3)])) (L2 := L) (s1 := []) (st := []) [] (cmX8_goOn X.2.1 G F  _ _ r2 r3 rfl rfl o6 ho6) (mj_rr rfl) rfl cw_X8_60 s0_2 a0_2 (by decide) rfl rfl (Nat.le_of_ble_eq_true rfl) ⟨Nat.zero_le _, Nat.zero_le _⟩ dX8_readSum_41 rfl ?_
    refine mj_iload_n 2 dX8_readSum_44 rfl ?_
    refine mj_iload_n 0 dX8_readSum_45 rfl ?_
    refine mj_aload_n 1 dX8_readSum_46 rfl ?_
    obtain ⟨o7, ho7, hf⟩ := mj_bd hf
    refine mj_callVd (I2 := (mj_rows I [(2, o7.2), (3, r3)])) (L2 := L) (s1 := [.int o7.1, .int (1 : Int32), .int x1]) (st := [.int (1 : Int32), .int x1]) [] (cmX8_readTerm X.2.1 G F  _ _ o6 r3 rfl rfl o7 ho7) (mj_rr rfl) rfl cw_X8_172 s0_2 a0_2 (by decide) rfl rfl (Nat.le_of_ble_eq_true rfl) ⟨Nat.zero_le _, Nat.zero_le _⟩ dX8_readSum_47 rfl ?_
    obtain ⟨o8, ho8, hf⟩ := mj_bd hf
    refine mj_callSd (I2 := (mj_rows I [(2, o7.2), (3, r3)])) (L2 := L) (s1 := [.int o8]) (st := []) [.int x1, .int (1 : Int32), .int o7.1] (cmX7_sum X.2.1 G F x1 (1 : Int32) o7.1 _ _   o8 ho8) rfl rfl cw_X8_175 (by decide) rfl rfl (Nat.le_of_ble_eq_true rfl) ⟨Nat.zero_le _, Nat.zero_le _⟩ dX8_readSum_50 rfl ?_
    obtain rfl := Option.some.inj hf
    have hZ := hq
    replace hZ := mj_u2p hZ
    exact mj_iret hR ⟨Nat.le_refl _, Nat.le_refl _⟩ rfl rfl dX8_readSum_53 hZ
set_option maxRecDepth 100000 in
set_option maxHeartbeats 4000000 in
theorem mtX8_readSum {X : mj_XT} {l : Launch} {G : mj_GT} {ad : Nat → Nat} {Qn : Option Value → mj_IT → mj_LT → Prop} (hR : mj_R X l G mj_P0 mj_S0 98 ad 0 0 Qn) (F : Nat) (I : mj_IT) (L : mj_LT) (r2 : Nat → Int32) (r3 : Nat → Int32) (o : ((Int32) × (Nat → Int32))) (hf : fnX8_readSum F r2 r3 = some o) (hq : (mj_u2 (fun ov r2 => Qn (some (.int ov)) (mj_rows I [(2, r2), (3, r3)]) L)) o) : mj_W X G RX8 "readSum" cX8_readSum 3 4 (some .int) mj_P0 mj_S0 98 ad 0 0 0 [(0, .ref 2)] [] (mj_rows I [(2, r2), (3, r3)]) L := by
  unfold fnX8_readSum at hf
  refine mj_aload_n 0 dX8_readSum_0 rfl ?_
  obtain ⟨o9, ho9, hf⟩ := mj_bd hf
  refine mj_callVd (I2 := (mj_rows I [(2, o9.2), (3, r3)])) (L2 := L) (s1 := [.int o9.1]) (st := []) [] (cmX8_readTerm X.2.1 G F  _ _ r2 r3 rfl rfl o9 ho9) (mj_rr rfl) rfl cw_X8_172 s0_2 a0_2 (by decide) rfl rfl (Nat.le_of_ble_eq_true rfl) ⟨Nat.zero_le _, Nat.zero_le _⟩ dX8_readSum_1 rfl ?_
  refine mj_istore_n [(1, .int o9.1), (0, .ref 2)] dX8_readSum_4 rfl (by decide) rfl ?_
  refine mj_aload_n 1 dX8_readSum_5 rfl ?_
  refine mj_bipush dX8_readSum_6 kc_bipush_43 ?_
  obtain ⟨o10, ho10, hf⟩ := mj_bd hf
  refine mj_callVd (I2 := (mj_rows I [(2, o9.2), (3, r3)])) (L2 := L) (s1 := [.int o10]) (st := []) [.int (43 : Int32)] (cmX8_isSign X.2.1 G F (43 : Int32) _ _ o9.2 r3 rfl rfl o10 ho10) (mj_rr rfl) rfl cw_X8_66 s0_2 a0_2 (by decide) rfl rfl (Nat.le_of_ble_eq_true rfl) ⟨Nat.zero_le _, Nat.zero_le _⟩ dX8_readSum_8 rfl ?_
  refine mj_if_ne 25 dX8_readSum_11 (by decide) (fun c11 => ?_) (fun c11 => ?_)
  · replace hf := mj_neg c11 hf
    refine mj_sub [1, 0] [(0, .ref 2), (1, .int o9.1)] rfl ?_
    exact jtX8_readSum_25 hR F I L o9.2 r3 o9.1 o hf hq
  · replace hf := mj_pos c11 hf
    refine mj_aload_n 1 dX8_readSum_14 rfl ?_
    refine mj_bipush dX8_readSum_15 kc_bipush_45 ?_
    obtain ⟨o12, ho12, hf⟩ := mj_bd hf
    refine mj_callVd (I2 := (mj_rows I [(2, o9.2), (3, r3)])) (L2 := L) (s1 := [.int o12]) (st := []) [.int (45 : Int32)] (cmX8_isSign X.2.1 G F (45 : Int32) _ _ o9.2 r3 rfl rfl o12 ho12) (mj_rr rfl) rfl cw_X8_66 s0_2 a0_2 (by decide) rfl rfl (Nat.le_of_ble_eq_true rfl) ⟨Nat.zero_le _, Nat.zero_le _⟩ dX8_readSum_17 rfl ?_
    refine mj_if_ne 25 dX8_readSum_20 (by decide) (fun c13 => ?_) (fun c13 => ?_)
    · replace hf := mj_neg c13 hf
      refine mj_sub [1, 0] [(0, .ref 2), (1, .int o9.1)] rfl ?_
      exact jtX8_readSum_25 hR F I L o9.2 r3 o9.1 o hf hq
    · replace hf := mj_pos c13 hf
      refine mj_iload_n 0 dX8_readSum_23 rfl ?_
      obtain rfl := Option.some.inj hf
      have hZ := hq
      replace hZ := mj_u2p hZ
      exact mj_iret hR ⟨Nat.le_refl _, Nat.le_refl _⟩ rfl rfl dX8_readSum_24 hZ
set_option maxRecDepth 100000 in
set_option maxHeartbeats 4000000 in
theorem cmX8_readSum (l : Launch) (G : mj_GT) (F : Nat) (I : mj_IT) (L : mj_LT) (r2 : Nat → Int32) (r3 : Nat → Int32) (hr2 : I 2 = r2) (hr3 : I 3 = r3) (o : ((Int32) × (Nat → Int32))) (hf : fnX8_readSum F r2 r3 = some o) : mj_M l G yX8_readSum cX8_readSum 3 4 (some .int) 0 0 mj_P0 mj_S0 98 [.ref 2] I L (mj_qd (some (.int o.1)) (mj_rows I [(2, o.2), (3, r3)]) L) := by
  refine mj_in RX8 "readSum" [(0, .ref 2)] rfl rfl rfl (by decide) (Nat.le_of_ble_eq_true rfl) (fun X ad hR => ?_)
  refine mj_toI [(2, r2), (3, r3)] (by intro q hq; simp only [List.mem_cons, List.not_mem_nil, or_false] at hq; rcases hq with rfl | rfl <;> assumption) ?_
  refine mtX8_readSum hR F I L r2 r3 o hf ?_
  obtain ⟨w0, w1⟩ := o
  refine mj_u2q ?_
  exact ⟨rfl, rfl, rfl⟩

-- X8_readRelation
def fnX8_readRelation (F : Nat) (r2 : Nat → Int32) (r3 : Nat → Int32) : Option ((Int32) × (Nat → Int32)) := (fnX8_isSign F r2 r3 (61 : Int32)).bind (fun o1 => (if o1 = 0 then (fnX8_isSign F r2 r3 (60 : Int32)).bind (fun o5 => (if o5 = 0 then (fnX8_isSign F r2 r3 (35 : Int32)).bind (fun o9 => (if o9 = 0 then (fnX8_fail F r2 (1 : Int32)).bind (fun o13 => some ((0 : Int32), o13)) else (if mj_ib (r2 5) 400 = true then (fnX8_goOn F r2 r3).bind (fun o12 => some ((r3 ((r2 5).toNatClampNeg)), o12)) else none))) else (if mj_ib (r2 5) 400 = true then (fnX8_goOn F r2 r3).bind (fun o8 => some ((r3 ((r2 5).toNatClampNeg)), o8)) else none))) else (if mj_ib (r2 5) 400 = true then (fnX8_goOn F r2 r3).bind (fun o4 => some ((r3 ((r2 5).toNatClampNeg)), o4)) else none)))
set_option maxRecDepth 100000 in
set_option maxHeartbeats 4000000 in
theorem mtX8_readRelation {X : mj_XT} {l : Launch} {G : mj_GT} {ad : Nat → Nat} {Qn : Option Value → mj_IT → mj_LT → Prop} (hR : mj_R X l G mj_P0 mj_S0 98 ad 0 0 Qn) (F : Nat) (I : mj_IT) (L : mj_LT) (r2 : Nat → Int32) (r3 : Nat → Int32) (o : ((Int32) × (Nat → Int32))) (hf : fnX8_readRelation F r2 r3 = some o) (hq : (mj_u2 (fun ov r2 => Qn (some (.int ov)) (mj_rows I [(2, r2), (3, r3)]) L)) o) : mj_W X G RX8 "readRelation" cX8_readRelation 2 2 (some .int) mj_P0 mj_S0 98 ad 0 0 0 [(0, .ref 2)] [] (mj_rows I [(2, r2), (3, r3)]) L := by
  unfold fnX8_readRelation at hf
  refine mj_aload_n 0 dX8_readRelation_0 rfl ?_
  refine mj_bipush dX8_readRelation_1 kc_bipush_61 ?_
  obtain ⟨o1, ho1, hf⟩ := mj_bd hf
  refine mj_callVd (I2 := (mj_rows I [(2, r2), (3, r3)])) (L2 := L) (s1 := [.int o1]) (st := []) [.int (61 : Int32)] (cmX8_isSign X.2.1 G F (61 : Int32) _ _ r2 r3 rfl rfl o1 ho1) (mj_rr rfl) rfl cw_X8_66 s0_2 a0_2 (by decide) rfl rfl (Nat.le_of_ble_eq_true rfl) ⟨Nat.zero_le _, Nat.zero_le _⟩ dX8_readRelation_3 rfl ?_
  refine mj_if_ne 34 dX8_readRelation_6 (by decide) (fun c2 => ?_) (fun c2 => ?_)
  · replace hf := mj_neg c2 hf
    refine mj_aload_n 0 dX8_readRelation_34 rfl ?_
    refine mj_getP p0_2_1 (by decide) fl_X8_9 rfl s0_2 a0_2 dX8_readRelation_35 ?_
    refine mj_aload_n 0 dX8_readRelation_38 rfl ?_
    refine mj_getIv (v := (r2 5)) rfl fl_X8_79 rfl s0_2 a0_2 dX8_readRelation_39 ?_
    obtain ⟨z3, hf⟩ := mj_ck hf
    refine mj_ialdv (x := r3) rfl s0_3 a0_3 z3 dX8_readRelation_42 ?_
    refine mj_istore_n [(1, .int (r3 ((r2 5).toNatClampNeg))), (0, .ref 2)] dX8_readRelation_43 rfl (by decide) rfl ?_
    refine mj_aload_n 1 dX8_readRelation_44 rfl ?_
    obtain ⟨o4, ho4, hf⟩ := mj_bd hf
    refine mj_callVd (I2 := (mj_rows I [(2, o4), (3, r3)])) (L2 := L) (s1 := []) (st := []) [] (cmX8_goOn X.2.1 G F  _ _ r2 r3 rfl rfl o4 ho4) (mj_rr rfl) rfl cw_X8_60 s0_2 a0_2 (by decide) rfl rfl (Nat.le_of_ble_eq_true rfl) ⟨Nat.zero_le _, Nat.zero_le _⟩ dX8_readRelation_45 rfl ?_
    refine mj_iload_n 0 dX8_readRelation_48 rfl ?_
    obtain rfl := Option.some.inj hf
    have hZ := hq
    replace hZ := mj_u2p hZ
    exact mj_iret hR ⟨Nat.le_refl _, Nat.le_refl _⟩ rfl rfl dX8_readRelation_49 hZ
  · replace hf := mj_pos c2 hf
    refine mj_aload_n 0 dX8_readRelation_9 rfl ?_
    refine mj_bipush dX8_readRelation_10 kc_bipush_60 ?_
    obtain ⟨o5, ho5, hf⟩ := mj_bd hf
    refine mj_callVd (I2 := (mj_rows I [(2, r2), (3, r3)])) (L2 := L) (s1 := [.int o5]) (st := []) [.int (60 : Int32)] (cmX8_isSign X.2.1 G F (60 : Int32) _ _ r2 r3 rfl rfl o5 ho5) (mj_rr rfl) rfl cw_X8_66 s0_2 a0_2 (by decide) rfl rfl (Nat.le_of_ble_eq_true rfl) ⟨Nat.zero_le _, Nat.zero_le _⟩ dX8_readRelation_12 rfl ?_
    refine mj_if_ne 34 dX8_readRelation_15 (by decide) (fun c6 => ?_) (fun c6 => ?_)
    · replace hf := mj_neg c6 hf
      refine mj_aload_n 0 dX8_readRelation_34 rfl ?_
      refine mj_getP p0_2_1 (by decide) fl_X8_9 rfl s0_2 a0_2 dX8_readRelation_35 ?_
      refine mj_aload_n 0 dX8_readRelation_38 rfl ?_
      refine mj_getIv (v := (r2 5)) rfl fl_X8_79 rfl s0_2 a0_2 dX8_readRelation_39 ?_
      obtain ⟨z7, hf⟩ := mj_ck hf
      refine mj_ialdv (x := r3) rfl s0_3 a0_3 z7 dX8_readRelation_42 ?_
      refine mj_istore_n [(1, .int (r3 ((r2 5).toNatClampNeg))), (0, .ref 2)] dX8_readRelation_43 rfl (by decide) rfl ?_
      refine mj_aload_n 1 dX8_readRelation_44 rfl ?_
      obtain ⟨o8, ho8, hf⟩ := mj_bd hf
      refine mj_callVd (I2 := (mj_rows I [(2, o8), (3, r3)])) (L2 := L) (s1 := []) (st := []) [] (cmX8_goOn X.2.1 G F  _ _ r2 r3 rfl rfl o8 ho8) (mj_rr rfl) rfl cw_X8_60 s0_2 a0_2 (by decide) rfl rfl (Nat.le_of_ble_eq_true rfl) ⟨Nat.zero_le _, Nat.zero_le _⟩ dX8_readRelation_45 rfl ?_
      refine mj_iload_n 0 dX8_readRelation_48 rfl ?_
      obtain rfl := Option.some.inj hf
      have hZ := hq
      replace hZ := mj_u2p hZ
      exact mj_iret hR ⟨Nat.le_refl _, Nat.le_refl _⟩ rfl rfl dX8_readRelation_49 hZ
    · replace hf := mj_pos c6 hf
      refine mj_aload_n 0 dX8_readRelation_18 rfl ?_
      refine mj_bipush dX8_readRelation_19 kc_bipush_35 ?_
      obtain ⟨o9, ho9, hf⟩ := mj_bd hf
      refine mj_callVd (I2 := (mj_rows I [(2, r2), (3, r3)])) (L2 := L) (s1 := [.int o9]) (st := []) [.int (35 : Int32)] (cmX8_isSign X.2.1 G F (35 : Int32) _ _ r2 r3 rfl rfl o9 ho9) (mj_rr rfl) rfl cw_X8_66 s0_2 a0_2 (by decide) rfl rfl (Nat.le_of_ble_eq_true rfl) ⟨Nat.zero_le _, Nat.zero_le _⟩ dX8_readRelation_21 rfl ?_
      refine mj_if_ne 34 dX8_readRelation_24 (by decide) (fun c10 => ?_) (fun c10 => ?_)
      · replace hf := mj_neg c10 hf
        refine mj_aload_n 0 dX8_readRelation_34 rfl ?_
        refine mj_getP p0_2_1 (by decide) fl_X8_9 rfl s0_2 a0_2 dX8_readRelation_35 ?_
        refine mj_aload_n 0 dX8_readRelation_38 rfl ?_
        refine mj_getIv (v := (r2 5)) rfl fl_X8_79 rfl s0_2 a0_2 dX8_readRelation_39 ?_
        obtain ⟨z11, hf⟩ := mj_ck hf
        refine mj_ialdv (x := r3) rfl s0_3 a0_3 z11 dX8_readRelation_42 ?_
        refine mj_istore_n [(1, .int (r3 ((r2 5).toNatClampNeg))), (0, .ref 2)] dX8_readRelation_43 rfl (by decide) rfl ?_
        refine mj_aload_n 1 dX8_readRelation_44 rfl ?_
        obtain ⟨o12, ho12, hf⟩ := mj_bd hf
        refine mj_callVd (I2 := (mj_rows I [(2, o12), (3, r3)])) (L2 := L) (s1 := []) (st := []) [] (cmX8_goOn X.2.1 G F  _ _ r2 r3 rfl rfl o12 ho12) (mj_rr rfl) rfl cw_X8_60 s0_2 a0_2 (by decide) rfl rfl (Nat.le_of_ble_eq_true rfl) ⟨Nat.zero_le _, Nat.zero_le _⟩ dX8_readRelation_45 rfl ?_
        refine mj_iload_n 0 dX8_readRelation_48 rfl ?_
        obtain rfl := Option.some.inj hf
        have hZ := hq
        replace hZ := mj_u2p hZ
        exact mj_iret hR ⟨Nat.le_refl _, Nat.le_refl _⟩ rfl rfl dX8_readRelation_49 hZ
      · replace hf := mj_pos c10 hf
        refine mj_aload_n 0 dX8_readRelation_27 rfl ?_
        refine mj_iconst dX8_readRelation_28 kc_iconst_1 ?_
        obtain ⟨o13, ho13, hf⟩ := mj_bd hf
        refine mj_callVd (I2 := (mj_rows I [(2, o13), (3, r3)])) (L2 := L) (s1 := []) (st := []) [.int (1 : Int32)] (cmX8_fail X.2.1 G F (1 : Int32) _ _ r2 rfl o13 ho13) (mj_rr rfl) rfl cw_X8_116 s0_2 a0_2 (by decide) rfl rfl (Nat.le_of_ble_eq_true rfl) ⟨Nat.zero_le _, Nat.zero_le _⟩ dX8_readRelation_29 rfl ?_
        refine mj_iconst dX8_readRelation_32 kc_iconst_0 ?_
        obtain rfl := Option.some.inj hf
        have hZ := hq
        replace hZ := mj_u2p hZ
        exact mj_iret hR ⟨Nat.le_refl _, Nat.le_refl _⟩ rfl rfl dX8_readRelation_33 hZ
set_option maxRecDepth 100000 in
set_option maxHeartbeats 4000000 in
theorem cmX8_readRelation (l : Launch) (G : mj_GT) (F : Nat) (I : mj_IT) (L : mj_LT) (r2 : Nat → Int32) (r3 : Nat → Int32) (hr2 : I 2 = r2) (hr3 : I 3 = r3) (o : ((Int32) × (Nat → Int32))) (hf : fnX8_readRelation F r2 r3 = some o) : mj_M l G yX8_readRelation cX8_readRelation 2 2 (some .int) 0 0 mj_P0 mj_S0 98 [.ref 2] I L (mj_qd (some (.int o.1)) (mj_rows I [(2, o.2), (3, r3)]) L) := by
  refine mj_in RX8 "readRelation" [(0, .ref 2)] rfl rfl rfl (by decide) (Nat.le_of_ble_eq_true rfl) (fun X ad hR => ?_)
  refine mj_toI [(2, r2), (3, r3)] (by intro q hq; simp only [List.mem_cons, List.not_mem_nil, or_false] at hq; rcases hq with rfl | rfl <;> assumption) ?_
  refine mtX8_readRelation hR F I L r2 r3 o hf ?_
  obtain ⟨w0, w1⟩ := o
  refine mj_u2q ?_
  exact ⟨rfl, rfl, rfl⟩

-- X8_readBehindWord
def fnX8_readBehindWord (F : Nat) (r2 : Nat → Int32) (r3 : Nat → Int32) (r6 : Nat → Int32) (r7 : Nat → Int32) (r8 : Nat → Int32) (r9 : Nat → Int32) (r10 : Nat → Int32) (x1 : Int32) (x2 : Int32) : Option ((Nat → Int32) × (Nat → Int32) × (Nat → Int32) × (Nat → Int32) × (Nat → Int32) × (Nat → Int32)) := (if x2 = (1 : Int32) then (fnX8_readVariable F r2 r3).bind (fun o12 => (if mj_ib x1 40 = true then (fnX8_readNumber F o12.2 r3 x2).bind (fun o14 => (if mj_ib x1 40 = true then some (o14.2, (upd r6 x1.toNatClampNeg o12.1), (upd r7 x1.toNatClampNeg o14.1), r8, r9, r10) else none)) else none)) else (if x2 = (2 : Int32) then (fnX8_readNumber F r2 r3 x2).bind (fun o10 => (if mj_ib x1 40 = true then some (o10.2, r6, (upd r7 x1.toNatClampNeg o10.1), r8, r9, r10) else none)) else (if x2 = (6 : Int32) then some (r2, r6, r7, r8, r9, r10) else (fnX8_readSum F r2 r3).bind (fun o4 => (if mj_ib x1 40 = true then (fnX8_readRelation F o4.2 r3).bind (fun o6 => (if mj_ib x1 40 = true then (fnX8_readSum F o6.2 r3).bind (fun o8 => (if mj_ib x1 40 = true then some (o8.2, r6, r7, (upd r8 x1.toNatClampNeg o4.1), (upd r9 x1.toNatClampNeg o6.1), (upd r10 x1.toNatClampNeg o8.1)) else none)) else none)) else none)))))
set_option maxRecDepth 100000 in
set_option maxHeartbeats 4000000 in
theorem mtX8_readBehindWord {X : mj_XT} {l : Launch} {G : mj_GT} {ad : Nat → Nat} {Qn : Option Value → mj_IT → mj_LT → Prop} (hR : mj_R X l G mj_P0 mj_S0 98 ad 0 0 Qn) (F : Nat) (I : mj_IT) (L : mj_LT) (r2 : Nat → Int32) (r3 : Nat → Int32) (r6 : Nat → Int32) (r7 : Nat → Int32) (r8 : Nat → Int32) (r9 : Nat → Int32) (r10 : Nat → Int32) (x1 : Int32) (x2 : Int32) (o : ((Nat → Int32) × (Nat → Int32) × (Nat → Int32) × (Nat → Int32) × (Nat → Int32) × (Nat → Int32))) (hf : fnX8_readBehindWord F r2 r3 r6 r7 r8 r9 r10 x1 x2 = some o) (hq : (mj_u2 (fun r2 => (mj_u2 (fun r6 => (mj_u2 (fun r7 => (mj_u2 (fun r8 => (mj_u2 (fun r9 r10 => Qn none (mj_rows I [(2, r2), (3, r3), (6, r6), (7, r7), (8, r8), (9, r9), (10, r10)]) L)))))))))) o) : mj_W X G RX8 "readBehindWord" cX8_readBehindWord 3 5 none mj_P0 mj_S0 98 ad 0 0 0 [(0, .ref 2), (1, .int x1), (2, .int x2)] [] (mj_rows I [(2, r2), (3, r3), (6, r6), (7, r7), (8, r8), (9, r9), (10, r10)]) L := by
  unfold fnX8_readBehindWord at hf
  refine mj_iload_n 2 dX8_readBehindWord_0 rfl ?_
  refine mj_iconst dX8_readBehindWord_1 kc_iconst_1 ?_
  refine mj_icmp_ne 35 dX8_readBehindWord_2 (by decide) (fun c1 => ?_) (fun c1 => ?_)
  · replace hf := mj_neg c1 hf
    refine mj_iload_n 2 dX8_readBehindWord_35 rfl ?_
    refine mj_iconst dX8_readBehindWord_36 kc_iconst_2 ?_
    refine mj_icmp_ne 57 dX8_readBehindWord_37 (by decide) (fun c2 => ?_) (fun c2 => ?_)
    · replace hf := mj_neg c2 hf
      refine mj_iload_n 2 dX8_readBehindWord_57 rfl ?_
      refine mj_bipush dX8_readBehindWord_58 kc_bipush_6 ?_
      refine mj_icmp_eq 102 dX8_readBehindWord_60 (by decide) (fun c3 => ?_) (fun c3 => ?_)
      · replace hf := mj_pos c3 hf
        obtain rfl := Option.some.inj hf
        have hZ := hq
        replace hZ := mj_u2p hZ
        replace hZ := mj_u2p hZ
        replace hZ := mj_u2p hZ
        replace hZ := mj_u2p hZ
        replace hZ := mj_u2p hZ
        exact mj_vret hR ⟨Nat.le_refl _, Nat.le_refl _⟩ rfl dX8_readBehindWord_102 hZ
      · replace hf := mj_neg c3 hf
        refine mj_aload_n 0 dX8_readBehindWord_63 rfl ?_
        refine mj_getP p0_2_2 (by decide) fl_X8_18 rfl s0_2 a0_2 dX8_readBehindWord_64 ?_
        refine mj_getP p0_4_4 (by decide) fl_X8_137 rfl s0_4 a0_4 dX8_readBehindWord_67 ?_
        refine mj_iload_n 1 dX8_readBehindWord_70 rfl ?_
        refine mj_aload_n 0 dX8_readBehindWord_71 rfl ?_
        obtain ⟨o4, ho4, hf⟩ := mj_bd hf
        refine mj_callVd (I2 := (mj_rows I [(2, o4.2), (3, r3), (6, r6), (7, r7), (8, r8), (9, r9), (10, r10)])) (L2 := L) (s1 := [.int o4.1, .int x1, .ref 8]) (st := [.int x1, .ref 8]) [] (cmX8_readSum X.2.1 G F  _ _ r2 r3 rfl rfl o4 ho4) (mj_rr rfl) rfl cw_X8_140 s0_2 a0_2 (by decide) rfl rfl (Nat.le_of_ble_eq_true rfl) ⟨Nat.zero_le _, Nat.zero_le _⟩ dX8_readBehindWord_72 rfl ?_
        obtain ⟨z5, hf⟩ := mj_ck hf
        refine mj_iastr [(2, o4.2), (3, r3), (6, r6), (7, r7), (8, (upd r8 x1.toNatClampNeg o4.1)), (9, r9), (10, r10)] rfl s0_8 a0_8 z5 dX8_readBehindWord_75 ?_
        refine mj_aload_n 0 dX8_readBehindWord_76 rfl ?_
        refine mj_getP p0_2_2 (by decide) fl_X8_18 rfl s0_2 a0_2 dX8_readBehindWord_77 ?_
        refine mj_getP p0_4_5 (by decide) fl_X8_158 rfl s0_4 a0_4 dX8_readBehindWord_80 ?_
        refine mj_iload_n 1 dX8_readBehindWord_83 rfl ?_
        refine mj_aload_n 0 dX8_readBehindWord_84 rfl ?_
        obtain ⟨o6, ho6, hf⟩ := mj_bd hf
        refine mj_callVd (I2 := (mj_rows I [(2, o6.2), (3, r3), (6, r6), (7, r7), (8, (upd r8 x1.toNatClampNeg o4.1)), (9, r9), (10, r10)])) (L2 := L) (s1 := [.int o6.1, .int x1, .ref 9]) (st := [.int x1, .ref 9]) [] (cmX8_readRelation X.2.1 G F  _ _ o4.2 r3 rfl rfl o6 ho6) (mj_rr rfl) rfl cw_X8_161 s0_2 a0_2 (by decide) rfl rfl (Nat.le_of_ble_eq_true rfl) ⟨Nat.zero_le _, Nat.zero_le _⟩ dX8_readBehindWord_85 rfl ?_
        obtain ⟨z7, hf⟩ := mj_ck hf
        refine mj_iastr [(2, o6.2), (3, r3), (6, r6), (7, r7), (8, (upd r8 x1.toNatClampNeg o4.1)), (9, (upd r9 x1.toNatClampNeg o6.1)), (10, r10)] rfl s0_9 a0_9 z7 dX8_readBehindWord_88 ?_
        refine mj_aload_n 0 dX8_readBehindWord_89 rfl ?_
        refine mj_getP p0_2_2 (by decide) fl_X8_18 rfl s0_2 a0_2 dX8_readBehindWord_90 ?_
        refine mj_getP p0_4_6 (by decide) fl_X8_164 rfl s0_4 a0_4 dX8_readBehindWord_93 ?_
        refine mj_iload_n 1 dX8_readBehindWord_96 rfl ?_
        refine mj_aload_n 0 dX8_readBehindWord_97 rfl ?_
        obtain ⟨o8, ho8, hf⟩ := mj_bd hf
        refine mj_callVd (I2 := (mj_rows I [(2, o8.2), (3, r3), (6, r6), (7, r7), (8, (upd r8 x1.toNatClampNeg o4.1)), (9, (upd r9 x1.toNatClampNeg o6.1)), (10, r10)])) (L2 := L) (s1 := [.int o8.1, .int x1, .ref 10]) (st := [.int x1, .ref 10]) [] (cmX8_readSum X.2.1 G F  _ _ o6.2 r3 rfl rfl o8 ho8) (mj_rr rfl) rfl cw_X8_140 s0_2 a0_2 (by decide) rfl rfl (Nat.le_of_ble_eq_true rfl) ⟨Nat.zero_le _, Nat.zero_le _⟩ dX8_readBehindWord_98 rfl ?_
        obtain ⟨z9, hf⟩ := mj_ck hf
        refine mj_iastr [(2, o8.2), (3, r3), (6, r6), (7, r7), (8, (upd r8 x1.toNatClampNeg o4.1)), (9, (upd r9 x1.toNatClampNeg o6.1)), (10, (upd r10 x1.toNatClampNeg o8.1))] rfl s0_10 a0_10 z9 dX8_readBehindWord_101 ?_
        obtain rfl := Option.some.inj hf
        have hZ := hq
        replace hZ := mj_u2p hZ
        replace hZ := mj_u2p hZ
        replace hZ := mj_u2p hZ
        replace hZ := mj_u2p hZ
        replace hZ := mj_u2p hZ
        exact mj_vret hR ⟨Nat.le_refl _, Nat.le_refl _⟩ rfl dX8_readBehindWord_102 hZ
    · replace hf := mj_pos c2 hf
      refine mj_aload_n 0 dX8_readBehindWord_40 rfl ?_
      refine mj_getP p0_2_2 (by decide) fl_X8_18 rfl s0_2 a0_2 dX8_readBehindWord_41 ?_
      refine mj_getP p0_4_3 (by decide) fl_X8_151 rfl s0_4 a0_4 dX8_readBehindWord_44 ?_
      refine mj_iload_n 1 dX8_readBehindWord_47 rfl ?_
      refine mj_aload_n 0 dX8_readBehindWord_48 rfl ?_
      refine mj_iload_n 2 dX8_readBehindWord_49 rfl ?_
      obtain ⟨o10, ho10, hf⟩ := mj_bd hf
      refine mj_callVd (I2 := (mj_rows I [(2, o10.2), (3, r3), (6, r6), (7, r7), (8, r8), (9, r9), (10, r10)])) (L2 := L) (s1 := [.int o10.1, .int x1, .ref 7]) (st := [.int x1, .ref 7]) [.int x2] (cmX8_readNumber X.2.1 G F x2 _ _ r2 r3 rfl rfl o10 ho10) (mj_rr rfl) rfl cw_X8_154 s0_2 a0_2 (by decide) rfl rfl (Nat.le_of_ble_eq_true rfl) ⟨Nat.zero_le _, Nat.zero_le _⟩ dX8_readBehindWord_50 rfl ?_
      obtain ⟨z11, hf⟩ := mj_ck hf
      refine mj_iastr [(2, o10.2), (3, r3), (6, r6), (7, (upd r7 x1.toNatClampNeg o10.1)), (8, r8), (9, r9), (10, r10)] rfl s0_7 a0_7 z11 dX8_readBehindWord_53 ?_
      refine mj_goto 102 dX8_readBehindWord_54 (by decide) ?_
      obtain rfl := Option.some.inj hf
      have hZ := hq
      replace hZ := mj_u2p hZ
      replace hZ := mj_u2p hZ
      replace hZ := mj_u2p hZ
      replace hZ := mj_u2p hZ
      replace hZ := mj_u2p hZ
      exact mj_vret hR ⟨Nat.le_refl _, Nat.le_refl _⟩ rfl dX8_readBehindWord_102 hZ
  · replace hf := mj_pos c1 hf
    refine mj_aload_n 0 dX8_readBehindWord_5 rfl ?_
    refine mj_getP p0_2_2 (by decide) fl_X8_18 rfl s0_2 a0_2 dX8_readBehindWord_6 ?_
    refine mj_getP p0_4_2 (by decide) fl_X8_128 rfl s0_4 a0_4 dX8_readBehindWord_9 ?_
    refine mj_iload_n 1 dX8_readBehindWord_12 rfl ?_
    refine mj_aload_n 0 dX8_readBehindWord_13 rfl ?_
    obtain ⟨o12, ho12, hf⟩ := mj_bd hf
    refine mj_callVd (I2 := (mj_rows I [(2, o12.2), (3, r3), (6, r6), (7, r7), (8, r8), (9, r9), (10, r10)])) (L2 := L) (s1 := [.int o12.1, .int x1, .ref 6]) (st := [.int x1, .ref 6]) [] (cmX8_readVariable X.2.1 G F  _ _ r2 r3 rfl rfl o12 ho12) (mj_rr rfl) rfl cw_X8_131 s0_2 a0_2 (by decide) rfl rfl (Nat.le_of_ble_eq_true rfl) ⟨Nat.zero_le _, Nat.zero_le _⟩ dX8_readBehindWord_14 rfl ?_
    obtain ⟨z13, hf⟩ := mj_ck hf
    refine mj_iastr [(2, o12.2), (3, r3), (6, (upd r6 x1.toNatClampNeg o12.1)), (7, r7), (8, r8), (9, r9), (10, r10)] rfl s0_6 a0_6 z13 dX8_readBehindWord_17 ?_
    refine mj_aload_n 0 dX8_readBehindWord_18 rfl ?_
    refine mj_getP p0_2_2 (by decide) fl_X8_18 rfl s0_2 a0_2 dX8_readBehindWord_19 ?_
    refine mj_getP p0_4_3 (by decide) fl_X8_151 rfl s0_4 a0_4 dX8_readBehindWord_22 ?_
    refine mj_iload_n 1 dX8_readBehindWord_25 rfl ?_
    refine mj_aload_n 0 dX8_readBehindWord_26 rfl ?_
    refine mj_iload_n 2 dX8_readBehindWord_27 rfl ?_
    obtain ⟨o14, ho14, hf⟩ := mj_bd hf
    refine mj_callVd (I2 := (mj_rows I [(2, o14.2), (3, r3), (6, (upd r6 x1.toNatClampNeg o12.1)), (7, r7), (8, r8), (9, r9), (10, r10)])) (L2 := L) (s1 := [.int o14.1, .int x1, .ref 7]) (st := [.int x1, .ref 7]) [.int x2] (cmX8_readNumber X.2.1 G F x2 _ _ o12.2 r3 rfl rfl o14 ho14) (mj_rr rfl) rfl cw_X8_154 s0_2 a0_2 (by decide) rfl rfl (Nat.le_of_ble_eq_true rfl) ⟨Nat.zero_le _, Nat.zero_le _⟩ dX8_readBehindWord_28 rfl ?_
    obtain ⟨z15, hf⟩ := mj_ck hf
    refine mj_iastr [(2, o14.2), (3, r3), (6, (upd r6 x1.toNatClampNeg o12.1)), (7, (upd r7 x1.toNatClampNeg o14.1)), (8, r8), (9, r9), (10, r10)] rfl s0_7 a0_7 z15 dX8_readBehindWord_31 ?_
    refine mj_goto 102 dX8_readBehindWord_32 (by decide) ?_
    obtain rfl := Option.some.inj hf
    have hZ := hq
    replace hZ := mj_u2p hZ
    replace hZ := mj_u2p hZ
    replace hZ := mj_u2p hZ
    replace hZ := mj_u2p hZ
    replace hZ := mj_u2p hZ
    exact mj_vret hR ⟨Nat.le_refl _, Nat.le_refl _⟩ rfl dX8_readBehindWord_102 hZ
set_option maxRecDepth 100000 in
set_option maxHeartbeats 4000000 in
theorem cmX8_readBehindWord (l : Launch) (G : mj_GT) (F : Nat) (x1 : Int32) (x2 : Int32) (I : mj_IT) (L : mj_LT) (r2 : Nat → Int32) (r3 : Nat → Int32) (r6 : Nat → Int32) (r7 : Nat → Int32) (r8 : Nat → Int32) (r9 : Nat → Int32) (r10 : Nat → Int32) (hr2 : I 2 = r2) (hr3 : I 3 = r3) (hr6 : I 6 = r6) (hr7 : I 7 = r7) (hr8 : I 8 = r8) (hr9 : I 9 = r9) (hr10 : I 10 = r10) (o : ((Nat → Int32) × (Nat → Int32) × (Nat → Int32) × (Nat → Int32) × (Nat → Int32) × (Nat → Int32))) (hf : fnX8_readBehindWord F r2 r3 r6 r7 r8 r9 r10 x1 x2 = some o) : mj_M l G yX8_readBehindWord cX8_readBehindWord 3 5 none 0 0 mj_P0 mj_S0 98 [.ref 2, .int x1, .int x2] I L (mj_qd none (mj_rows I [(2, o.1), (3, r3), (6, o.2.1), (7, o.2.2.1), (8, o.2.2.2.1), (9, o.2.2.2.2.1), (10, o.2.2.2.2.2)]) L) := by
  refine mj_in RX8 "readBehindWord" [(0, .ref 2), (1, .int x1), (2, .int x2)] rfl rfl rfl (by decide) (Nat.le_of_ble_eq_true rfl) (fun X ad hR => ?_)
  refine mj_toI [(2, r2), (3, r3), (6, r6), (7, r7), (8, r8), (9, r9), (10, r10)] (by intro q hq; simp only [List.mem_cons, List.not_mem_nil, or_false] at hq; rcases hq with rfl | rfl | rfl | rfl | rfl | rfl | rfl <;> assumption) ?_
  refine mtX8_readBehindWord hR F I L r2 r3 r6 r7 r8 r9 r10 x1 x2 o hf ?_
  obtain ⟨w0, w1, w2, w3, w4, w5⟩ := o
  refine mj_u2q ?_
  refine mj_u2q ?_
  refine mj_u2q ?_
  refine mj_u2q ?_
  refine mj_u2q ?_
  exact ⟨rfl, rfl, rfl⟩

