-- X11_isHere_71_2002
def bdX11_isHere_71_2002_7 (F : Nat) (r71 : Nat → Int32) (r77 : Nat → Int32) (x2 : Int32) : Option (((Int32)) ⊕ (Unit ⊕ Unit)) := (if (4 : Int32) ≤ x2 then some (.inr (.inl ())) else (fnX11_isSmall F r71 r77 ((r71 11) + x2)).bind (fun o3 => (if o3 = 0 then some (.inr (.inr ())) else (if mj_ib ((r71 11) + x2) 400 = true then (if mj_ib x2 4 = true then (if (r77 (((r71 11) + x2).toNatClampNeg)) = (mj_ch 1 x2.toNatClampNeg) then some (.inl (x2 + (1))) else some (.inr (.inr ()))) else none) else none))))
def fnX11_isHere_71_2002 (F : Nat) (r71 : Nat → Int32) (r77 : Nat → Int32) : Option ((Int32) × (Nat → Int32)) := (fnX11_sign F r71 r77).bind (fun o8 => (mj_it (bdX11_isHere_71_2002_7 F o8.2 r77) F (0 : Int32)).bind (Sum.elim (fun _ => (fnX11_isSmall F o8.2 r77 ((o8.2 11) + (4 : Int32))).bind (fun o11 => (if o11 = 0 then some ((1 : Int32), o8.2) else some ((0 : Int32), o8.2)))) (fun _ => some ((0 : Int32), o8.2))))
set_option maxRecDepth 100000 in
set_option maxHeartbeats 4000000 in
theorem lpX11_isHere_71_2002_7 {X : mj_XT} {l : Launch} {G : mj_GT} {ad : Nat → Nat} {Qn : Option Value → mj_IT → mj_LT → Prop} (hR : mj_R X l G mj_P0 mj_S0 98 ad 0 0 Qn) (F : Nat) (I : mj_IT) (L : mj_LT) (r71 : Nat → Int32) (r77 : Nat → Int32) : ∀ (n : Nat) (s : ((Int32))) (e : (Unit ⊕ Unit)), mj_it (bdX11_isHere_71_2002_7 F r71 r77) n s = some e → (Sum.elim (fun _ => mj_W X G RX11 "isHere" cX11_isHere 3 5 (some .boolean) mj_P0 mj_S0 98 ad 0 0 55 [(0, .ref 71), (1, .ref 2002)] [] (mj_rows I [(71, r71), (77, r77)]) L) (fun _ => mj_W X G RX11 "isHere" cX11_isHere 3 5 (some .boolean) mj_P0 mj_S0 98 ad 0 0 47 [] [] (mj_rows I [(71, r71), (77, r77)]) L)) e → (fun x2 => mj_W X G RX11 "isHere" cX11_isHere 3 5 (some .boolean) mj_P0 mj_S0 98 ad 0 0 7 [(0, .ref 71), (1, .ref 2002), (2, .int x2)] [] (mj_rows I [(71, r71), (77, r77)]) L) s := by
  refine mj_loop (fun x2 o hf hc hx => ?_)
  unfold bdX11_isHere_71_2002_7 at hf
  refine mj_iload_n 2 dX11_isHere_7 rfl ?_
  refine mj_aload_n 1 dX11_isHere_8 rfl ?_
  refine mj_callVs (i := 1) (I2 := (mj_rows I [(71, r71), (77, r77)])) (L2 := L) (s1 := [.int (4 : Int32), .int x2]) (st := [.int x2]) [] (cmJ0_length X.2.1 G 1 2002 rfl (by decide) _ _) rfl rfl cw_X11_44 rfl (by decide) (by decide) rfl rfl (Nat.le_of_ble_eq_true rfl) ⟨Nat.zero_le _, Nat.zero_le _⟩ dX11_isHere_9 rfl ?_
  refine mj_icmp_ge 55 dX11_isHere_12 (by decide) (fun c2 => ?_) (fun c2 => ?_)
  · replace hf := mj_pos c2 hf
    refine mj_sub [0, 1] [(0, .ref 71), (1, .ref 2002)] rfl ?_
    obtain rfl := Option.some.inj hf
    have hZ := hx (.inl ()) rfl
    replace hZ := mj_el hZ
    exact hZ
  · replace hf := mj_neg c2 hf
    refine mj_aload_n 0 dX11_isHere_15 rfl ?_
    refine mj_aload_n 0 dX11_isHere_16 rfl ?_
    refine mj_getIv (v := (r71 11)) rfl fl_X11_31 rfl s0_71 a0_71 dX11_isHere_17 ?_
    refine mj_iload_n 2 dX11_isHere_20 rfl ?_
    refine mj_iadd dX11_isHere_21 ?_
    obtain ⟨o3, ho3, hf⟩ := mj_bd hf
    refine mj_callVd (I2 := (mj_rows I [(71, r71), (77, r77)])) (L2 := L) (s1 := [.int o3]) (st := []) [.int ((r71 11) + x2)] (cmX11_isSmall X.2.1 G F ((r71 11) + x2) _ _ r71 r77 rfl rfl o3 ho3) (mj_rr rfl) rfl cw_X11_49 s0_71 a0_71 (by decide) rfl rfl (Nat.le_of_ble_eq_true rfl) ⟨Nat.zero_le _, Nat.zero_le _⟩ dX11_isHere_22 rfl ?_
    refine mj_if_eq 47 dX11_isHere_25 (by decide) (fun c4 => ?_) (fun c4 => ?_)
    · replace hf := mj_pos c4 hf
      refine mj_sub [] [] rfl ?_
      obtain rfl := Option.some.inj hf
      have hZ := hx (.inr ()) rfl
      replace hZ := mj_er hZ
      exact hZ
    · replace hf := mj_neg c4 hf
      refine mj_aload_n 0 dX11_isHere_28 rfl ?_
      refine mj_getP p0_71_8 (by decide) fl_X11_37 rfl s0_71 a0_71 dX11_isHere_29 ?_
      refine mj_aload_n 0 dX11_isHere_32 rfl ?_
      refine mj_getIv (v := (r71 11)) rfl fl_X11_31 rfl s0_71 a0_71 dX11_isHere_33 ?_
      refine mj_iload_n 2 dX11_isHere_36 rfl ?_
      refine mj_iadd dX11_isHere_37 ?_
      obtain ⟨z5, hf⟩ := mj_ck hf
      refine mj_baldv (x := r77) rfl s0_77 a0_77 z5 dX11_isHere_38 ?_
      refine mj_aload_n 1 dX11_isHere_39 rfl ?_
      refine mj_iload_n 2 dX11_isHere_40 rfl ?_
      obtain ⟨z6, hf⟩ := mj_ck hf
      refine mj_callVs (i := 1) (I2 := (mj_rows I [(71, r71), (77, r77)])) (L2 := L) (s1 := [.int (mj_ch 1 x2.toNatClampNeg), .int (r77 (((r71 11) + x2).toNatClampNeg))]) (st := [.int (r77 (((r71 11) + x2).toNatClampNeg))]) [.int x2] (cmJ0_charAt X.2.1 G 1 2002 rfl (by decide) x2 _ _ z6) rfl rfl cw_X11_53 rfl (by decide) (by decide) rfl rfl (Nat.le_of_ble_eq_true rfl) ⟨Nat.zero_le _, Nat.zero_le _⟩ dX11_isHere_41 rfl ?_
      refine mj_icmp_eq 49 dX11_isHere_44 (by decide) (fun c7 => ?_) (fun c7 => ?_)
      · replace hf := mj_pos c7 hf
        refine mj_iinc 2 [(2, .int (x2 + (1))), (0, .ref 71), (1, .ref 2002)] dX11_isHere_49 rfl (kz_1 _) (by decide) rfl ?_
        refine mj_goto 7 dX11_isHere_52 (by decide) ?_
        refine mj_sub [1, 2, 0] [(0, .ref 71), (1, .ref 2002), (2, .int (x2 + (1)))] rfl ?_
        obtain rfl := Option.some.inj hf
        have hZ := hc (x2 + (1)) rfl
        exact hZ
      · replace hf := mj_neg c7 hf
        refine mj_sub [] [] rfl ?_
        obtain rfl := Option.some.inj hf
        have hZ := hx (.inr ()) rfl
        replace hZ := mj_er hZ
        exact hZ
set_option maxRecDepth 100000 in
set_option maxHeartbeats 4000000 in
theorem mtX11_isHere_71_2002 {X : mj_XT} {l : Launch} {G : mj_GT} {ad : Nat → Nat} {Qn : Option Value → mj_IT → mj_LT → Prop} (hR : mj_R X l G mj_P0 mj_S0 98 ad 0 0 Qn) (F : Nat) (I : mj_IT) (L : mj_LT) (r71 : Nat → Int32) (r77 : Nat → Int32) (o : ((Int32) × (Nat → Int32))) (hf : fnX11_isHere_71_2002 F r71 r77 = some o) (hq : (mj_u2 (fun ov r71 => Qn (some (.int ov)) (mj_rows I [(71, r71), (77, r77)]) L)) o) : mj_W X G RX11 "isHere" cX11_isHere 3 5 (some .boolean) mj_P0 mj_S0 98 ad 0 0 0 [(0, .ref 71), (1, .ref 2002)] [] (mj_rows I [(71, r71), (77, r77)]) L := by
  unfold fnX11_isHere_71_2002 at hf
  refine mj_aload_n 0 dX11_isHere_0 rfl ?_
  obtain ⟨o8, ho8, hf⟩ := mj_bd hf
  refine mj_callVd (I2 := (mj_rows I [(71, o8.2), (77, r77)])) (L2 := L) (s1 := [.int o8.1]) (st := []) [] (cmX11_sign X.2.1 G F  _ _ r71 r77 rfl rfl o8 ho8) (mj_rr rfl) rfl cw_X11_40 s0_71 a0_71 (by decide) rfl rfl (Nat.le_of_ble_eq_true rfl) ⟨Nat.zero_le _, Nat.zero_le _⟩ dX11_isHere_1 rfl ?_
  refine mj_pop dX11_isHere_4 rfl ?_
  refine mj_iconst dX11_isHere_5 kc_iconst_0 ?_
  refine mj_istore_n [(2, .int (0 : Int32)), (0, .ref 71), (1, .ref 2002)] dX11_isHere_6 rfl (by decide) rfl ?_
  refine mj_sub [1, 2, 0] [(0, .ref 71), (1, .ref 2002), (2, .int (0 : Int32))] rfl ?_
  obtain ⟨e9, ho9, hf⟩ := mj_bd hf
  refine lpX11_isHere_71_2002_7 hR F I L o8.2 r77 F (0 : Int32) e9 ho9 ?_
  rcases e9 with e9 | e9
  · replace hf := mj_ele hf
    refine mj_elq (?_)
    refine mj_aload_n 0 dX11_isHere_55 rfl ?_
    refine mj_aload_n 0 dX11_isHere_56 rfl ?_
    refine mj_getIv (v := (o8.2 11)) rfl fl_X11_31 rfl s0_71 a0_71 dX11_isHere_57 ?_
    refine mj_aload_n 1 dX11_isHere_60 rfl ?_
    refine mj_callVs (i := 1) (I2 := (mj_rows I [(71, o8.2), (77, r77)])) (L2 := L) (s1 := [.int (4 : Int32), .int (o8.2 11), .ref 71]) (st := [.int (o8.2 11), .ref 71]) [] (cmJ0_length X.2.1 G 1 2002 rfl (by decide) _ _) rfl rfl cw_X11_44 rfl (by decide) (by decide) rfl rfl (Nat.le_of_ble_eq_true rfl) ⟨Nat.zero_le _, Nat.zero_le _⟩ dX11_isHere_61 rfl ?_
    refine mj_iadd dX11_isHere_64 ?_
    obtain ⟨o11, ho11, hf⟩ := mj_bd hf
    refine mj_callVd (I2 := (mj_rows I [(71, o8.2), (77, r77)])) (L2 := L) (s1 := [.int o11]) (st := []) [.int ((o8.2 11) + (4 : Int32))] (cmX11_isSmall X.2.1 G F ((o8.2 11) + (4 : Int32)) _ _ o8.2 r77 rfl rfl o11 ho11) (mj_rr rfl) rfl cw_X11_49 s0_71 a0_71 (by decide) rfl rfl (Nat.le_of_ble_eq_true rfl) ⟨Nat.zero_le _, Nat.zero_le _⟩ dX11_isHere_65 rfl ?_
    refine mj_if_ne 75 dX11_isHere_68 (by decide) (fun c12 => ?_) (fun c12 => ?_)
    · replace hf := mj_neg c12 hf
      refine mj_iconst dX11_isHere_75 kc_iconst_0 ?_
      obtain rfl := Option.some.inj hf
      have hZ := hq
      replace hZ := mj_u2p hZ
      exact mj_iret hR ⟨Nat.le_refl _, Nat.le_refl _⟩ rfl (by decide) dX11_isHere_76 hZ
    · replace hf := mj_pos c12 hf
      refine mj_iconst dX11_isHere_71 kc_iconst_1 ?_
      refine mj_goto 76 dX11_isHere_72 (by decide) ?_
      obtain rfl := Option.some.inj hf
      have hZ := hq
      replace hZ := mj_u2p hZ
      exact mj_iret hR ⟨Nat.le_refl _, Nat.le_refl _⟩ rfl (by decide) dX11_isHere_76 hZ
  · replace hf := mj_ere hf
    refine mj_erq (?_)
    refine mj_iconst dX11_isHere_47 kc_iconst_0 ?_
    obtain rfl := Option.some.inj hf
    have hZ := hq
    replace hZ := mj_u2p hZ
    exact mj_iret hR ⟨Nat.le_refl _, Nat.le_refl _⟩ rfl (by decide) dX11_isHere_48 hZ
set_option maxRecDepth 100000 in
set_option maxHeartbeats 4000000 in
theorem cmX11_isHere_71_2002 (l : Launch) (G : mj_GT) (F : Nat) (I : mj_IT) (L : mj_LT) (r71 : Nat → Int32) (r77 : Nat → Int32) (hr71 : I 71 = r71) (hr77 : I 77 = r77) (o : ((Int32) × (Nat → Int32))) (hf : fnX11_isHere_71_2002 F r71 r77 = some o) : mj_M l G yX11_isHere cX11_isHere 3 5 (some .boolean) 0 0 mj_P0 mj_S0 98 [.ref 71, .ref 2002] I L (mj_qd (some (.int o.1)) (mj_rows I [(71, o.2), (77, r77)]) L) := by
  refine mj_in RX11 "isHere" [(0, .ref 71), (1, .ref 2002)] rfl rfl rfl (by decide) (Nat.le_of_ble_eq_true rfl) (fun X ad hR => ?_)
  refine mj_toI [(71, r71), (77, r77)] (by intro q hq; simp only [List.mem_cons, List.not_mem_nil, or_false] at hq; rcases hq with rfl | rfl <;> assumption) ?_
  refine mtX11_isHere_71_2002 hR F I L r71 r77 o hf ?_
  obtain ⟨w0, w1⟩ := o
  refine mj_u2q ?_
  exact ⟨rfl, rfl, rfl⟩

-- X11_isHere_71_2003
def bdX11_isHere_71_2003_7 (F : Nat) (r71 : Nat → Int32) (r77 : Nat → Int32) (x2 : Int32) : Option (((Int32)) ⊕ (Unit ⊕ Unit)) := (if (2 : Int32) ≤ x2 then some (.inr (.inl ())) else (fnX11_isSmall F r71 r77 ((r71 11) + x2)).bind (fun o3 => (if o3 = 0 then some (.inr (.inr ())) else (if mj_ib ((r71 11) + x2) 400 = true then (if mj_ib x2 2 = true then (if (r77 (((r71 11) + x2).toNatClampNeg)) = (mj_ch 2 x2.toNatClampNeg) then some (.inl (x2 + (1))) else some (.inr (.inr ()))) else none) else none))))
def fnX11_isHere_71_2003 (F : Nat) (r71 : Nat → Int32) (r77 : Nat → Int32) : Option ((Int32) × (Nat → Int32)) := (fnX11_sign F r71 r77).bind (fun o8 => (mj_it (bdX11_isHere_71_2003_7 F o8.2 r77) F (0 : Int32)).bind (Sum.elim (fun _ => (fnX11_isSmall F o8.2 r77 ((o8.2 11) + (2 : Int32))).bind (fun o11 => (if o11 = 0 then some ((1 : Int32), o8.2) else some ((0 : Int32), o8.2)))) (fun _ => some ((0 : Int32), o8.2))))
set_option maxRecDepth 100000 in
set_option maxHeartbeats 4000000 in
theorem lpX11_isHere_71_2003_7 {X : mj_XT} {l : Launch} {G : mj_GT} {ad : Nat → Nat} {Qn : Option Value → mj_IT → mj_LT → Prop} (hR : mj_R X l G mj_P0 mj_S0 98 ad 0 0 Qn) (F : Nat) (I : mj_IT) (L : mj_LT) (r71 : Nat → Int32) (r77 : Nat → Int32) : ∀ (n : Nat) (s : ((Int32))) (e : (Unit ⊕ Unit)), mj_it (bdX11_isHere_71_2003_7 F r71 r77) n s = some e → (Sum.elim (fun _ => mj_W X G RX11 "isHere" cX11_isHere 3 5 (some .boolean) mj_P0 mj_S0 98 ad 0 0 55 [(0, .ref 71), (1, .ref 2003)] [] (mj_rows I [(71, r71), (77, r77)]) L) (fun _ => mj_W X G RX11 "isHere" cX11_isHere 3 5 (some .boolean) mj_P0 mj_S0 98 ad 0 0 47 [] [] (mj_rows I [(71, r71), (77, r77)]) L)) e → (fun x2 => mj_W X G RX11 "isHere" cX11_isHere 3 5 (some .boolean) mj_P0 mj_S0 98 ad 0 0 7 [(0, .ref 71), (1, .ref 2003), (2, .int x2)] [] (mj_rows I [(71, r71), (77, r77)]) L) s := by
  refine mj_loop (fun x2 o hf hc hx => ?_)
  unfold bdX11_isHere_71_2003_7 at hf
  refine mj_iload_n 2 dX11_isHere_7 rfl ?_
  refine mj_aload_n 1 dX11_isHere_8 rfl ?_
  refine mj_callVs (i := 2) (I2 := (mj_rows I [(71, r71), (77, r77)])) (L2 := L) (s1 := [.int (2 : Int32), .int x2]) (st := [.int x2]) [] (cmJ0_length X.2.1 G 2 2003 rfl (by decide) _ _) rfl rfl cw_X11_44 rfl (by decide) (by decide) rfl rfl (Nat.le_of_ble_eq_true rfl) ⟨Nat.zero_le _, Nat.zero_le _⟩ dX11_isHere_9 rfl ?_
  refine mj_icmp_ge 55 dX11_isHere_12 (by decide) (fun c2 => ?_) (fun c2 => ?_)
  · replace hf := mj_pos c2 hf
    refine mj_sub [0, 1] [(0, .ref 71), (1, .ref 2003)] rfl ?_
    obtain rfl := Option.some.inj hf
    have hZ := hx (.inl ()) rfl
    replace hZ := mj_el hZ
    exact hZ
  · replace hf := mj_neg c2 hf
    refine mj_aload_n 0 dX11_isHere_15 rfl ?_
    refine mj_aload_n 0 dX11_isHere_16 rfl ?_
    refine mj_getIv (v := (r71 11)) rfl fl_X11_31 rfl s0_71 a0_71 dX11_isHere_17 ?_
    refine mj_iload_n 2 dX11_isHere_20 rfl ?_
    refine mj_iadd dX11_isHere_21 ?_
    obtain ⟨o3, ho3, hf⟩ := mj_bd hf
    refine mj_callVd (I2 := (mj_rows I [(71, r71), (77, r77)])) (L2 := L) (s1 := [.int o3]) (st := []) [.int ((r71 11) + x2)] (cmX11_isSmall X.2.1 G F ((r71 11) + x2) _ _ r71 r77 rfl rfl o3 ho3) (mj_rr rfl) rfl cw_X11_49 s0_71 a0_71 (by decide) rfl rfl (Nat.le_of_ble_eq_true rfl) ⟨Nat.zero_le _, Nat.zero_le _⟩ dX11_isHere_22 rfl ?_
    refine mj_if_eq 47 dX11_isHere_25 (by decide) (fun c4 => ?_) (fun c4 => ?_)
    · replace hf := mj_pos c4 hf
      refine mj_sub [] [] rfl ?_
      obtain rfl := Option.some.inj hf
      have hZ := hx (.inr ()) rfl
      replace hZ := mj_er hZ
      exact hZ
    · replace hf := mj_neg c4 hf
      refine mj_aload_n 0 dX11_isHere_28 rfl ?_
      refine mj_getP p0_71_8 (by decide) fl_X11_37 rfl s0_71 a0_71 dX11_isHere_29 ?_
      refine mj_aload_n 0 dX11_isHere_32 rfl ?_
      refine mj_getIv (v := (r71 11)) rfl fl_X11_31 rfl s0_71 a0_71 dX11_isHere_33 ?_
      refine mj_iload_n 2 dX11_isHere_36 rfl ?_
      refine mj_iadd dX11_isHere_37 ?_
      obtain ⟨z5, hf⟩ := mj_ck hf
      refine mj_baldv (x := r77) rfl s0_77 a0_77 z5 dX11_isHere_38 ?_
      refine mj_aload_n 1 dX11_isHere_39 rfl ?_
      refine mj_iload_n 2 dX11_isHere_40 rfl ?_
      obtain ⟨z6, hf⟩ := mj_ck hf
      refine mj_callVs (i := 2) (I2 := (mj_rows I [(71, r71), (77, r77)])) (L2 := L) (s1 := [.int (mj_ch 2 x2.toNatClampNeg), .int (r77 (((r71 11) + x2).toNatClampNeg))]) (st := [.int (r77 (((r71 11) + x2).toNatClampNeg))]) [.int x2] (cmJ0_charAt X.2.1 G 2 2003 rfl (by decide) x2 _ _ z6) rfl rfl cw_X11_53 rfl (by decide) (by decide) rfl rfl (Nat.le_of_ble_eq_true rfl) ⟨Nat.zero_le _, Nat.zero_le _⟩ dX11_isHere_41 rfl ?_
      refine mj_icmp_eq 49 dX11_isHere_44 (by decide) (fun c7 => ?_) (fun c7 => ?_)
      · replace hf := mj_pos c7 hf
        refine mj_iinc 2 [(2, .int (x2 + (1))), (0, .ref 71), (1, .ref 2003)] dX11_isHere_49 rfl (kz_1 _) (by decide) rfl ?_
        refine mj_goto 7 dX11_isHere_52 (by decide) ?_
        refine mj_sub [1, 2, 0] [(0, .ref 71), (1, .ref 2003), (2, .int (x2 + (1)))] rfl ?_
        obtain rfl := Option.some.inj hf
        have hZ := hc (x2 + (1)) rfl
        exact hZ
      · replace hf := mj_neg c7 hf
        refine mj_sub [] [] rfl ?_
        obtain rfl := Option.some.inj hf
        have hZ := hx (.inr ()) rfl
        replace hZ := mj_er hZ
        exact hZ
set_option maxRecDepth 100000 in
set_option maxHeartbeats 4000000 in
theorem mtX11_isHere_71_2003 {X : mj_XT} {l : Launch} {G : mj_GT} {ad : Nat → Nat} {Qn : Option Value → mj_IT → mj_LT → Prop} (hR : mj_R X l G mj_P0 mj_S0 98 ad 0 0 Qn) (F : Nat) (I : mj_IT) (L : mj_LT) (r71 : Nat → Int32) (r77 : Nat → Int32) (o : ((Int32) × (Nat → Int32))) (hf : fnX11_isHere_71_2003 F r71 r77 = some o) (hq : (mj_u2 (fun ov r71 => Qn (some (.int ov)) (mj_rows I [(71, r71), (77, r77)]) L)) o) : mj_W X G RX11 "isHere" cX11_isHere 3 5 (some .boolean) mj_P0 mj_S0 98 ad 0 0 0 [(0, .ref 71), (1, .ref 2003)] [] (mj_rows I [(71, r71), (77, r77)]) L := by
  unfold fnX11_isHere_71_2003 at hf
  refine mj_aload_n 0 dX11_isHere_0 rfl ?_
  obtain ⟨o8, ho8, hf⟩ := mj_bd hf
  refine mj_callVd (I2 := (mj_rows I [(71, o8.2), (77, r77)])) (L2 := L) (s1 := [.int o8.1]) (st := []) [] (cmX11_sign X.2.1 G F  _ _ r71 r77 rfl rfl o8 ho8) (mj_rr rfl) rfl cw_X11_40 s0_71 a0_71 (by decide) rfl rfl (Nat.le_of_ble_eq_true rfl) ⟨Nat.zero_le _, Nat.zero_le _⟩ dX11_isHere_1 rfl ?_
  refine mj_pop dX11_isHere_4 rfl ?_
  refine mj_iconst dX11_isHere_5 kc_iconst_0 ?_
  refine mj_istore_n [(2, .int (0 : Int32)), (0, .ref 71), (1, .ref 2003)] dX11_isHere_6 rfl (by decide) rfl ?_
  refine mj_sub [1, 2, 0] [(0, .ref 71), (1, .ref 2003), (2, .int (0 : Int32))] rfl ?_
  obtain ⟨e9, ho9, hf⟩ := mj_bd hf
  refine lpX11_isHere_71_2003_7 hR F I L o8.2 r77 F (0 : Int32) e9 ho9 ?_
  rcases e9 with e9 | e9
  · replace hf := mj_ele hf
    refine mj_elq (?_)
    refine mj_aload_n 0 dX11_isHere_55 rfl ?_
    refine mj_aload_n 0 dX11_isHere_56 rfl ?_
    refine mj_getIv (v := (o8.2 11)) rfl fl_X11_31 rfl s0_71 a0_71 dX11_isHere_57 ?_
    refine mj_aload_n 1 dX11_isHere_60 rfl ?_
    refine mj_callVs (i := 2) (I2 := (mj_rows I [(71, o8.2), (77, r77)])) (L2 := L) (s1 := [.int (2 : Int32), .int (o8.2 11), .ref 71]) (st := [.int (o8.2 11), .ref 71]) [] (cmJ0_length X.2.1 G 2 2003 rfl (by decide) _ _) rfl rfl cw_X11_44 rfl (by decide) (by decide) rfl rfl (Nat.le_of_ble_eq_true rfl) ⟨Nat.zero_le _, Nat.zero_le _⟩ dX11_isHere_61 rfl ?_
    refine mj_iadd dX11_isHere_64 ?_
    obtain ⟨o11, ho11, hf⟩ := mj_bd hf
    refine mj_callVd (I2 := (mj_rows I [(71, o8.2), (77, r77)])) (L2 := L) (s1 := [.int o11]) (st := []) [.int ((o8.2 11) + (2 : Int32))] (cmX11_isSmall X.2.1 G F ((o8.2 11) + (2 : Int32)) _ _ o8.2 r77 rfl rfl o11 ho11) (mj_rr rfl) rfl cw_X11_49 s0_71 a0_71 (by decide) rfl rfl (Nat.le_of_ble_eq_true rfl) ⟨Nat.zero_le _, Nat.zero_le _⟩ dX11_isHere_65 rfl ?_
    refine mj_if_ne 75 dX11_isHere_68 (by decide) (fun c12 => ?_) (fun c12 => ?_)
    · replace hf := mj_neg c12 hf
      refine mj_iconst dX11_isHere_75 kc_iconst_0 ?_
      obtain rfl := Option.some.inj hf
      have hZ := hq
      replace hZ := mj_u2p hZ
      exact mj_iret hR ⟨Nat.le_refl _, Nat.le_refl _⟩ rfl (by decide) dX11_isHere_76 hZ
    · replace hf := mj_pos c12 hf
      refine mj_iconst dX11_isHere_71 kc_iconst_1 ?_
      refine mj_goto 76 dX11_isHere_72 (by decide) ?_
      obtain rfl := Option.some.inj hf
      have hZ := hq
      replace hZ := mj_u2p hZ
      exact mj_iret hR ⟨Nat.le_refl _, Nat.le_refl _⟩ rfl (by decide) dX11_isHere_76 hZ
  · replace hf := mj_ere hf
    refine mj_erq (?_)
    refine mj_iconst dX11_isHere_47 kc_iconst_0 ?_
    obtain rfl := Option.some.inj hf
    have hZ := hq
    replace hZ := mj_u2p hZ
    exact mj_iret hR ⟨Nat.le_refl _, Nat.le_refl _⟩ rfl (by decide) dX11_isHere_48 hZ
set_option maxRecDepth 100000 in
set_option maxHeartbeats 4000000 in
theorem cmX11_isHere_71_2003 (l : Launch) (G : mj_GT) (F : Nat) (I : mj_IT) (L : mj_LT) (r71 : Nat → Int32) (r77 : Nat → Int32) (hr71 : I 71 = r71) (hr77 : I 77 = r77) (o : ((Int32) × (Nat → Int32))) (hf : fnX11_isHere_71_2003 F r71 r77 = some o) : mj_M l G yX11_isHere cX11_isHere 3 5 (some .boolean) 0 0 mj_P0 mj_S0 98 [.ref 71, .ref 2003] I L (mj_qd (some (.int o.1)) (mj_rows I [(71, o.2), (77, r77)]) L) := by
  refine mj_in RX11 "isHere" [(0, .ref 71), (1, .ref 2003)] rfl rfl rfl (by decide) (Nat.le_of_ble_eq_true rfl) (fun X ad hR => ?_)
  refine mj_toI [(71, r71), (77, r77)] (by intro q hq; simp only [List.mem_cons, List.not_mem_nil, or_false] at hq; rcases hq with rfl | rfl <;> assumption) ?_
  refine mtX11_isHere_71_2003 hR F I L r71 r77 o hf ?_
  obtain ⟨w0, w1⟩ := o
  refine mj_u2q ?_
  exact ⟨rfl, rfl, rfl⟩

-- X11_isHere_71_2004
def bdX11_isHere_71_2004_7 (F : Nat) (r71 : Nat → Int32) (r77 : Nat → Int32) (x2 : Int32) : Option (((Int32)) ⊕ (Unit ⊕ Unit)) := (if (5 : Int32) ≤ x2 then some (.inr (.inl ())) else (fnX11_isSmall F r71 r77 ((r71 11) + x2)).bind (fun o3 => (if o3 = 0 then some (.inr (.inr ())) else (if mj_ib ((r71 11) + x2) 400 = true then (if mj_ib x2 5 = true then (if (r77 (((r71 11) + x2).toNatClampNeg)) = (mj_ch 3 x2.toNatClampNeg) then some (.inl (x2 + (1))) else some (.inr (.inr ()))) else none) else none))))
def fnX11_isHere_71_2004 (F : Nat) (r71 : Nat → Int32) (r77 : Nat → Int32) : Option ((Int32) × (Nat → Int32)) := (fnX11_sign F r71 r77).bind (fun o8 => (mj_it (bdX11_isHere_71_2004_7 F o8.2 r77) F (0 : Int32)).bind (Sum.elim (fun _ => (fnX11_isSmall F o8.2 r77 ((o8.2 11) + (5 : Int32))).bind (fun o11 => (if o11 = 0 then some ((1 : Int32), o8.2) else some ((0 : Int32), o8.2)))) (fun _ => some ((0 : Int32), o8.2))))
set_option maxRecDepth 100000 in
set_option maxHeartbeats 4000000 in
theorem lpX11_isHere_71_2004_7 {X : mj_XT} {l : Launch} {G : mj_GT} {ad : Nat → Nat} {Qn : Option Value → mj_IT → mj_LT → Prop} (hR : mj_R X l G mj_P0 mj_S0 98 ad 0 0 Qn) (F : Nat) (I : mj_IT) (L : mj_LT) (r71 : Nat → Int32) (r77 : Nat → Int32) : ∀ (n : Nat) (s : ((Int32))) (e : (Unit ⊕ Unit)), mj_it (bdX11_isHere_71_2004_7 F r71 r77) n s = some e → (Sum.elim (fun _ => mj_W X G RX11 "isHere" cX11_isHere 3 5 (some .boolean) mj_P0 mj_S0 98 ad 0 0 55 [(0, .ref 71), (1, .ref 2004)] [] (mj_rows I [(71, r71), (77, r77)]) L) (fun _ => mj_W X G RX11 "isHere" cX11_isHere 3 5 (some .boolean) mj_P0 mj_S0 98 ad 0 0 47 [] [] (mj_rows I [(71, r71), (77, r77)]) L)) e → (fun x2 => mj_W X G RX11 "isHere" cX11_isHere 3 5 (some .boolean) mj_P0 mj_S0 98 ad 0 0 7 [(0, .ref 71), (1, .ref 2004), (2, .int x2)] [] (mj_rows I [(71, r71), (77, r77)]) L) s := by
  refine mj_loop (fun x2 o hf hc hx => ?_)
  unfold bdX11_isHere_71_2004_7 at hf
  refine mj_iload_n 2 dX11_isHere_7 rfl ?_
  refine mj_aload_n 1 dX11_isHere_8 rfl ?_
  refine mj_callVs (i := 3) (I2 := (mj_rows I [(71, r71), (77, r77)])) (L2 := L) (s1 := [.int (5 : Int32), .int x2]) (st := [.int x2]) [] (cmJ0_length X.2.1 G 3 2004 rfl (by decide) _ _) rfl rfl cw_X11_44 rfl (by decide) (by decide) rfl rfl (Nat.le_of_ble_eq_true rfl) ⟨Nat.zero_le _, Nat.zero_le _⟩ dX11_isHere_9 rfl ?_
  refine mj_icmp_ge 55 dX11_isHere_12 (by decide) (fun c2 => ?_) (fun c2 => ?_)
  · replace hf := mj_pos c2 hf
    refine mj_sub [0, 1] [(0, .ref 71), (1, .ref 2004)] rfl ?_
    obtain rfl := Option.some.inj hf
    have hZ := hx (.inl ()) rfl
    replace hZ := mj_el hZ
    exact hZ
  · replace hf := mj_neg c2 hf
    refine mj_aload_n 0 dX11_isHere_15 rfl ?_
    refine mj_aload_n 0 dX11_isHere_16 rfl ?_
    refine mj_getIv (v := (r71 11)) rfl fl_X11_31 rfl s0_71 a0_71 dX11_isHere_17 ?_
    refine mj_iload_n 2 dX11_isHere_20 rfl ?_
    refine mj_iadd dX11_isHere_21 ?_
    obtain ⟨o3, ho3, hf⟩ := mj_bd hf
    refine mj_callVd (I2 := (mj_rows I [(71, r71), (77, r77)])) (L2 := L) (s1 := [.int o3]) (st := []) [.int ((r71 11) + x2)] (cmX11_isSmall X.2.1 G F ((r71 11) + x2) _ _ r71 r77 rfl rfl o3 ho3) (mj_rr rfl) rfl cw_X11_49 s0_71 a0_71 (by decide) rfl rfl (Nat.le_of_ble_eq_true rfl) ⟨Nat.zero_le _, Nat.zero_le _⟩ dX11_isHere_22 rfl ?_
    refine mj_if_eq 47 dX11_isHere_25 (by decide) (fun c4 => ?_) (fun c4 => ?_)
    · replace hf := mj_pos c4 hf
      refine mj_sub [] [] rfl ?_
      obtain rfl := Option.some.inj hf
      have hZ := hx (.inr ()) rfl
      replace hZ := mj_er hZ
      exact hZ
    · replace hf := mj_neg c4 hf
      refine mj_aload_n 0 dX11_isHere_28 rfl ?_
      refine mj_getP p0_71_8 (by decide) fl_X11_37 rfl s0_71 a0_71 dX11_isHere_29 ?_
      refine mj_aload_n 0 dX11_isHere_32 rfl ?_
      refine mj_getIv (v := (r71 11)) rfl fl_X11_31 rfl s0_71 a0_71 dX11_isHere_33 ?_
      refine mj_iload_n 2 dX11_isHere_36 rfl ?_
      refine mj_iadd dX11_isHere_37 ?_
      obtain ⟨z5, hf⟩ := mj_ck hf
      refine mj_baldv (x := r77) rfl s0_77 a0_77 z5 dX11_isHere_38 ?_
      refine mj_aload_n 1 dX11_isHere_39 rfl ?_
      refine mj_iload_n 2 dX11_isHere_40 rfl ?_
      obtain ⟨z6, hf⟩ := mj_ck hf
      refine mj_callVs (i := 3) (I2 := (mj_rows I [(71, r71), (77, r77)])) (L2 := L) (s1 := [.int (mj_ch 3 x2.toNatClampNeg), .int (r77 (((r71 11) + x2).toNatClampNeg))]) (st := [.int (r77 (((r71 11) + x2).toNatClampNeg))]) [.int x2] (cmJ0_charAt X.2.1 G 3 2004 rfl (by decide) x2 _ _ z6) rfl rfl cw_X11_53 rfl (by decide) (by decide) rfl rfl (Nat.le_of_ble_eq_true rfl) ⟨Nat.zero_le _, Nat.zero_le _⟩ dX11_isHere_41 rfl ?_
      refine mj_icmp_eq 49 dX11_isHere_44 (by decide) (fun c7 => ?_) (fun c7 => ?_)
      · replace hf := mj_pos c7 hf
        refine mj_iinc 2 [(2, .int (x2 + (1))), (0, .ref 71), (1, .ref 2004)] dX11_isHere_49 rfl (kz_1 _) (by decide) rfl ?_
        refine mj_goto 7 dX11_isHere_52 (by decide) ?_
        refine mj_sub [1, 2, 0] [(0, .ref 71), (1, .ref 2004), (2, .int (x2 + (1)))] rfl ?_
        obtain rfl := Option.some.inj hf
        have hZ := hc (x2 + (1)) rfl
        exact hZ
      · replace hf := mj_neg c7 hf
        refine mj_sub [] [] rfl ?_
        obtain rfl := Option.some.inj hf
        have hZ := hx (.inr ()) rfl
        replace hZ := mj_er hZ
        exact hZ
set_option maxRecDepth 100000 in
set_option maxHeartbeats 4000000 in
theorem mtX11_isHere_71_2004 {X : mj_XT} {l : Launch} {G : mj_GT} {ad : Nat → Nat} {Qn : Option Value → mj_IT → mj_LT → Prop} (hR : mj_R X l G mj_P0 mj_S0 98 ad 0 0 Qn) (F : Nat) (I : mj_IT) (L : mj_LT) (r71 : Nat → Int32) (r77 : Nat → Int32) (o : ((Int32) × (Nat → Int32))) (hf : fnX11_isHere_71_2004 F r71 r77 = some o) (hq : (mj_u2 (fun ov r71 => Qn (some (.int ov)) (mj_rows I [(71, r71), (77, r77)]) L)) o) : mj_W X G RX11 "isHere" cX11_isHere 3 5 (some .boolean) mj_P0 mj_S0 98 ad 0 0 0 [(0, .ref 71), (1, .ref 2004)] [] (mj_rows I [(71, r71), (77, r77)]) L := by
  unfold fnX11_isHere_71_2004 at hf
  refine mj_aload_n 0 dX11_isHere_0 rfl ?_
  obtain ⟨o8, ho8, hf⟩ := mj_bd hf
  refine mj_callVd (I2 := (mj_rows I [(71, o8.2), (77, r77)])) (L2 := L) (s1 := [.int o8.1]) (st := []) [] (cmX11_sign X.2.1 G F  _ _ r71 r77 rfl rfl o8 ho8) (mj_rr rfl) rfl cw_X11_40 s0_71 a0_71 (by decide) rfl rfl (Nat.le_of_ble_eq_true rfl) ⟨Nat.zero_le _, Nat.zero_le _⟩ dX11_isHere_1 rfl ?_
  refine mj_pop dX11_isHere_4 rfl ?_
  refine mj_iconst dX11_isHere_5 kc_iconst_0 ?_
  refine mj_istore_n [(2, .int (0 : Int32)), (0, .ref 71), (1, .ref 2004)] dX11_isHere_6 rfl (by decide) rfl ?_
  refine mj_sub [1, 2, 0] [(0, .ref 71), (1, .ref 2004), (2, .int (0 : Int32))] rfl ?_
  obtain ⟨e9, ho9, hf⟩ := mj_bd hf
  refine lpX11_isHere_71_2004_7 hR F I L o8.2 r77 F (0 : Int32) e9 ho9 ?_
  rcases e9 with e9 | e9
  · replace hf := mj_ele hf
    refine mj_elq (?_)
    refine mj_aload_n 0 dX11_isHere_55 rfl ?_
    refine mj_aload_n 0 dX11_isHere_56 rfl ?_
    refine mj_getIv (v := (o8.2 11)) rfl fl_X11_31 rfl s0_71 a0_71 dX11_isHere_57 ?_
    refine mj_aload_n 1 dX11_isHere_60 rfl ?_
    refine mj_callVs (i := 3) (I2 := (mj_rows I [(71, o8.2), (77, r77)])) (L2 := L) (s1 := [.int (5 : Int32), .int (o8.2 11), .ref 71]) (st := [.int (o8.2 11), .ref 71]) [] (cmJ0_length X.2.1 G 3 2004 rfl (by decide) _ _) rfl rfl cw_X11_44 rfl (by decide) (by decide) rfl rfl (Nat.le_of_ble_eq_true rfl) ⟨Nat.zero_le _, Nat.zero_le _⟩ dX11_isHere_61 rfl ?_
    refine mj_iadd dX11_isHere_64 ?_
    obtain ⟨o11, ho11, hf⟩ := mj_bd hf
    refine mj_callVd (I2 := (mj_rows I [(71, o8.2), (77, r77)])) (L2 := L) (s1 := [.int o11]) (st := []) [.int ((o8.2 11) + (5 : Int32))] (cmX11_isSmall X.2.1 G F ((o8.2 11) + (5 : Int32)) _ _ o8.2 r77 rfl rfl o11 ho11) (mj_rr rfl) rfl cw_X11_49 s0_71 a0_71 (by decide) rfl rfl (Nat.le_of_ble_eq_true rfl) ⟨Nat.zero_le _, Nat.zero_le _⟩ dX11_isHere_65 rfl ?_
    refine mj_if_ne 75 dX11_isHere_68 (by decide) (fun c12 => ?_) (fun c12 => ?_)
    · replace hf := mj_neg c12 hf
      refine mj_iconst dX11_isHere_75 kc_iconst_0 ?_
      obtain rfl := Option.some.inj hf
      have hZ := hq
      replace hZ := mj_u2p hZ
      exact mj_iret hR ⟨Nat.le_refl _, Nat.le_refl _⟩ rfl (by decide) dX11_isHere_76 hZ
    · replace hf := mj_pos c12 hf
      refine mj_iconst dX11_isHere_71 kc_iconst_1 ?_
      refine mj_goto 76 dX11_isHere_72 (by decide) ?_
      obtain rfl := Option.some.inj hf
      have hZ := hq
      replace hZ := mj_u2p hZ
      exact mj_iret hR ⟨Nat.le_refl _, Nat.le_refl _⟩ rfl (by decide) dX11_isHere_76 hZ
  · replace hf := mj_ere hf
    refine mj_erq (?_)
    refine mj_iconst dX11_isHere_47 kc_iconst_0 ?_
    obtain rfl := Option.some.inj hf
    have hZ := hq
    replace hZ := mj_u2p hZ
    exact mj_iret hR ⟨Nat.le_refl _, Nat.le_refl _⟩ rfl (by decide) dX11_isHere_48 hZ
set_option maxRecDepth 100000 in
set_option maxHeartbeats 4000000 in
theorem cmX11_isHere_71_2004 (l : Launch) (G : mj_GT) (F : Nat) (I : mj_IT) (L : mj_LT) (r71 : Nat → Int32) (r77 : Nat → Int32) (hr71 : I 71 = r71) (hr77 : I 77 = r77) (o : ((Int32) × (Nat → Int32))) (hf : fnX11_isHere_71_2004 F r71 r77 = some o) : mj_M l G yX11_isHere cX11_isHere 3 5 (some .boolean) 0 0 mj_P0 mj_S0 98 [.ref 71, .ref 2004] I L (mj_qd (some (.int o.1)) (mj_rows I [(71, o.2), (77, r77)]) L) := by
  refine mj_in RX11 "isHere" [(0, .ref 71), (1, .ref 2004)] rfl rfl rfl (by decide) (Nat.le_of_ble_eq_true rfl) (fun X ad hR => ?_)
  refine mj_toI [(71, r71), (77, r77)] (by intro q hq; simp only [List.mem_cons, List.not_mem_nil, or_false] at hq; rcases hq with rfl | rfl <;> assumption) ?_
  refine mtX11_isHere_71_2004 hR F I L r71 r77 o hf ?_
  obtain ⟨w0, w1⟩ := o
  refine mj_u2q ?_
  exact ⟨rfl, rfl, rfl⟩

-- X11_isHere_71_2005
def bdX11_isHere_71_2005_7 (F : Nat) (r71 : Nat → Int32) (r77 : Nat → Int32) (x2 : Int32) : Option (((Int32)) ⊕ (Unit ⊕ Unit)) := (if (7 : Int32) ≤ x2 then some (.inr (.inl ())) else (fnX11_isSmall F r71 r77 ((r71 11) + x2)).bind (fun o3 => (if o3 = 0 then some (.inr (.inr ())) else (if mj_ib ((r71 11) + x2) 400 = true then (if mj_ib x2 7 = true then (if (r77 (((r71 11) + x2).toNatClampNeg)) = (mj_ch 4 x2.toNatClampNeg) then some (.inl (x2 + (1))) else some (.inr (.inr ()))) else none) else none))))
def fnX11_isHere_71_2005 (F : Nat) (r71 : Nat → Int32) (r77 : Nat → Int32) : Option ((Int32) × (Nat → Int32)) := (fnX11_sign F r71 r77).bind (fun o8 => (mj_it (bdX11_isHere_71_2005_7 F o8.2 r77) F (0 : Int32)).bind (Sum.elim (fun _ => (fnX11_isSmall F o8.2 r77 ((o8.2 11) + (7 : Int32))).bind (fun o11 => (if o11 = 0 then some ((1 : Int32), o8.2) else some ((0 : Int32), o8.2)))) (fun _ => some ((0 : Int32), o8.2))))
set_option maxRecDepth 100000 in
set_option maxHeartbeats 4000000 in
theorem lpX11_isHere_71_2005_7 {X : mj_XT} {l : Launch} {G : mj_GT} {ad : Nat → Nat} {Qn : Option Value → mj_IT → mj_LT → Prop} (hR : mj_R X l G mj_P0 mj_S0 98 ad 0 0 Qn) (F : Nat) (I : mj_IT) (L : mj_LT) (r71 : Nat → Int32) (r77 : Nat → Int32) : ∀ (n : Nat) (s : ((Int32))) (e : (Unit ⊕ Unit)), mj_it (bdX11_isHere_71_2005_7 F r71 r77) n s = some e → (Sum.elim (fun _ => mj_W X G RX11 "isHere" cX11_isHere 3 5 (some .boolean) mj_P0 mj_S0 98 ad 0 0 55 [(0, .ref 71), (1, .ref 2005)] [] (mj_rows I [(71, r71), (77, r77)]) L) (fun _ => mj_W X G RX11 "isHere" cX11_isHere 3 5 (some .boolean) mj_P0 mj_S0 98 ad 0 0 47 [] [] (mj_rows I [(71, r71), (77, r77)]) L)) e → (fun x2 => mj_W X G RX11 "isHere" cX11_isHere 3 5 (some .boolean) mj_P0 mj_S0 98 ad 0 0 7 [(0, .ref 71), (1, .ref 2005), (2, .int x2)] [] (mj_rows I [(71, r71), (77, r77)]) L) s := by
  refine mj_loop (fun x2 o hf hc hx => ?_)
  unfold bdX11_isHere_71_2005_7 at hf
  refine mj_iload_n 2 dX11_isHere_7 rfl ?_
  refine mj_aload_n 1 dX11_isHere_8 rfl ?_
  refine mj_callVs (i := 4) (I2 := (mj_rows I [(71, r71), (77, r77)])) (L2 := L) (s1 := [.int (7 : Int32), .int x2]) (st := [.int x2]) [] (cmJ0_length X.2.1 G 4 2005 rfl (by decide) _ _) rfl rfl cw_X11_44 rfl (by decide) (by decide) rfl rfl (Nat.le_of_ble_eq_true rfl) ⟨Nat.zero_le _, Nat.zero_le _⟩ dX11_isHere_9 rfl ?_
  refine mj_icmp_ge 55 dX11_isHere_12 (by decide) (fun c2 => ?_) (fun c2 => ?_)
  · replace hf := mj_pos c2 hf
    refine mj_sub [0, 1] [(0, .ref 71), (1, .ref 2005)] rfl ?_
    obtain rfl := Option.some.inj hf
    have hZ := hx (.inl ()) rfl
    replace hZ := mj_el hZ
    exact hZ
  · replace hf := mj_neg c2 hf
    refine mj_aload_n 0 dX11_isHere_15 rfl ?_
    refine mj_aload_n 0 dX11_isHere_16 rfl ?_
    refine mj_getIv (v := (r71 11)) rfl fl_X11_31 rfl s0_71 a0_71 dX11_isHere_17 ?_
    refine mj_iload_n 2 dX11_isHere_20 rfl ?_
    refine mj_iadd dX11_isHere_21 ?_
    obtain ⟨o3, ho3, hf⟩ := mj_bd hf
    refine mj_callVd (I2 := (mj_rows I [(71, r71), (77, r77)])) (L2 := L) (s1 := [.int o3]) (st := []) [.int ((r71 11) + x2)] (cmX11_isSmall X.2.1 G F ((r71 11) + x2) _ _ r71 r77 rfl rfl o3 ho3) (mj_rr rfl) rfl cw_X11_49 s0_71 a0_71 (by decide) rfl rfl (Nat.le_of_ble_eq_true rfl) ⟨Nat.zero_le _, Nat.zero_le _⟩ dX11_isHere_22 rfl ?_
    refine mj_if_eq 47 dX11_isHere_25 (by decide) (fun c4 => ?_) (fun c4 => ?_)
    · replace hf := mj_pos c4 hf
      refine mj_sub [] [] rfl ?_
      obtain rfl := Option.some.inj hf
      have hZ := hx (.inr ()) rfl
      replace hZ := mj_er hZ
      exact hZ
    · replace hf := mj_neg c4 hf
      refine mj_aload_n 0 dX11_isHere_28 rfl ?_
      refine mj_getP p0_71_8 (by decide) fl_X11_37 rfl s0_71 a0_71 dX11_isHere_29 ?_
      refine mj_aload_n 0 dX11_isHere_32 rfl ?_
      refine mj_getIv (v := (r71 11)) rfl fl_X11_31 rfl s0_71 a0_71 dX11_isHere_33 ?_
      refine mj_iload_n 2 dX11_isHere_36 rfl ?_
      refine mj_iadd dX11_isHere_37 ?_
      obtain ⟨z5, hf⟩ := mj_ck hf
      refine mj_baldv (x := r77) rfl s0_77 a0_77 z5 dX11_isHere_38 ?_
      refine mj_aload_n 1 dX11_isHere_39 rfl ?_
      refine mj_iload_n 2 dX11_isHere_40 rfl ?_
      obtain ⟨z6, hf⟩ := mj_ck hf
      refine mj_callVs (i := 4) (I2 := (mj_rows I [(71, r71), (77, r77)])) (L2 := L) (s1 := [.int (mj_ch 4 x2.toNatClampNeg), .int (r77 (((r71 11) + x2).toNatClampNeg))]) (st := [.int (r77 (((r71 11) + x2).toNatClampNeg))]) [.int x2] (cmJ0_charAt X.2.1 G 4 2005 rfl (by decide) x2 _ _ z6) rfl rfl cw_X11_53 rfl (by decide) (by decide) rfl rfl (Nat.le_of_ble_eq_true rfl) ⟨Nat.zero_le _, Nat.zero_le _⟩ dX11_isHere_41 rfl ?_
      refine mj_icmp_eq 49 dX11_isHere_44 (by decide) (fun c7 => ?_) (fun c7 => ?_)
      · replace hf := mj_pos c7 hf
        refine mj_iinc 2 [(2, .int (x2 + (1))), (0, .ref 71), (1, .ref 2005)] dX11_isHere_49 rfl (kz_1 _) (by decide) rfl ?_
        refine mj_goto 7 dX11_isHere_52 (by decide) ?_
        refine mj_sub [1, 2, 0] [(0, .ref 71), (1, .ref 2005), (2, .int (x2 + (1)))] rfl ?_
        obtain rfl := Option.some.inj hf
        have hZ := hc (x2 + (1)) rfl
        exact hZ
      · replace hf := mj_neg c7 hf
        refine mj_sub [] [] rfl ?_
        obtain rfl := Option.some.inj hf
        have hZ := hx (.inr ()) rfl
        replace hZ := mj_er hZ
        exact hZ
set_option maxRecDepth 100000 in
set_option maxHeartbeats 4000000 in
theorem mtX11_isHere_71_2005 {X : mj_XT} {l : Launch} {G : mj_GT} {ad : Nat → Nat} {Qn : Option Value → mj_IT → mj_LT → Prop} (hR : mj_R X l G mj_P0 mj_S0 98 ad 0 0 Qn) (F : Nat) (I : mj_IT) (L : mj_LT) (r71 : Nat → Int32) (r77 : Nat → Int32) (o : ((Int32) × (Nat → Int32))) (hf : fnX11_isHere_71_2005 F r71 r77 = some o) (hq : (mj_u2 (fun ov r71 => Qn (some (.int ov)) (mj_rows I [(71, r71), (77, r77)]) L)) o) : mj_W X G RX11 "isHere" cX11_isHere 3 5 (some .boolean) mj_P0 mj_S0 98 ad 0 0 0 [(0, .ref 71), (1, .ref 2005)] [] (mj_rows I [(71, r71), (77, r77)]) L := by
  unfold fnX11_isHere_71_2005 at hf
  refine mj_aload_n 0 dX11_isHere_0 rfl ?_
  obtain ⟨o8, ho8, hf⟩ := mj_bd hf
  refine mj_callVd (I2 := (mj_rows I [(71, o8.2), (77, r77)])) (L2 := L) (s1 := [.int o8.1]) (st := []) [] (cmX11_sign X.2.1 G F  _ _ r71 r77 rfl rfl o8 ho8) (mj_rr rfl) rfl cw_X11_40 s0_71 a0_71 (by decide) rfl rfl (Nat.le_of_ble_eq_true rfl) ⟨Nat.zero_le _, Nat.zero_le _⟩ dX11_isHere_1 rfl ?_
  refine mj_pop dX11_isHere_4 rfl ?_
  refine mj_iconst dX11_isHere_5 kc_iconst_0 ?_
  refine mj_istore_n [(2, .int (0 : Int32)), (0, .ref 71), (1, .ref 2005)] dX11_isHere_6 rfl (by decide) rfl ?_
  refine mj_sub [1, 2, 0] [(0, .ref 71), (1, .ref 2005), (2, .int (0 : Int32))] rfl ?_
  obtain ⟨e9, ho9, hf⟩ := mj_bd hf
  refine lpX11_isHere_71_2005_7 hR F I L o8.2 r77 F (0 : Int32) e9 ho9 ?_
  rcases e9 with e9 | e9
  · replace hf := mj_ele hf
    refine mj_elq (?_)
    refine mj_aload_n 0 dX11_isHere_55 rfl ?_
    refine mj_aload_n 0 dX11_isHere_56 rfl ?_
    refine mj_getIv (v := (o8.2 11)) rfl fl_X11_31 rfl s0_71 a0_71 dX11_isHere_57 ?_
    refine mj_aload_n 1 dX11_isHere_60 rfl ?_
    refine mj_callVs (i := 4) (I2 := (mj_rows I [(71, o8.2), (77, r77)])) (L2 := L) (s1 := [.int (7 : Int32), .int (o8.2 11), .ref 71]) (st := [.int (o8.2 11), .ref 71]) [] (cmJ0_length X.2.1 G 4 2005 rfl (by decide) _ _) rfl rfl cw_X11_44 rfl (by decide) (by decide) rfl rfl (Nat.le_of_ble_eq_true rfl) ⟨Nat.zero_le _, Nat.zero_le _⟩ dX11_isHere_61 rfl ?_
    refine mj_iadd dX11_isHere_64 ?_
    obtain ⟨o11, ho11, hf⟩ := mj_bd hf
    refine mj_callVd (I2 := (mj_rows I [(71, o8.2), (77, r77)])) (L2 := L) (s1 := [.int o11]) (st := []) [.int ((o8.2 11) + (7 : Int32))] (cmX11_isSmall X.2.1 G F ((o8.2 11) + (7 : Int32)) _ _ o8.2 r77 rfl rfl o11 ho11) (mj_rr rfl) rfl cw_X11_49 s0_71 a0_71 (by decide) rfl rfl (Nat.le_of_ble_eq_true rfl) ⟨Nat.zero_le _, Nat.zero_le _⟩ dX11_isHere_65 rfl ?_
    refine mj_if_ne 75 dX11_isHere_68 (by decide) (fun c12 => ?_) (fun c12 => ?_)
    · replace hf := mj_neg c12 hf
      refine mj_iconst dX11_isHere_75 kc_iconst_0 ?_
      obtain rfl := Option.some.inj hf
      have hZ := hq
      replace hZ := mj_u2p hZ
      exact mj_iret hR ⟨Nat.le_refl _, Nat.le_refl _⟩ rfl (by decide) dX11_isHere_76 hZ
    · replace hf := mj_pos c12 hf
      refine mj_iconst dX11_isHere_71 kc_iconst_1 ?_
      refine mj_goto 76 dX11_isHere_72 (by decide) ?_
      obtain rfl := Option.some.inj hf
      have hZ := hq
      replace hZ := mj_u2p hZ
      exact mj_iret hR ⟨Nat.le_refl _, Nat.le_refl _⟩ rfl (by decide) dX11_isHere_76 hZ
  · replace hf := mj_ere hf
    refine mj_erq (?_)
    refine mj_iconst dX11_isHere_47 kc_iconst_0 ?_
    obtain rfl := Option.some.inj hf
    have hZ := hq
    replace hZ := mj_u2p hZ
    exact mj_iret hR ⟨Nat.le_refl _, Nat.le_refl _⟩ rfl (by decide) dX11_isHere_48 hZ
set_option maxRecDepth 100000 in
set_option maxHeartbeats 4000000 in
theorem cmX11_isHere_71_2005 (l : Launch) (G : mj_GT) (F : Nat) (I : mj_IT) (L : mj_LT) (r71 : Nat → Int32) (r77 : Nat → Int32) (hr71 : I 71 = r71) (hr77 : I 77 = r77) (o : ((Int32) × (Nat → Int32))) (hf : fnX11_isHere_71_2005 F r71 r77 = some o) : mj_M l G yX11_isHere cX11_isHere 3 5 (some .boolean) 0 0 mj_P0 mj_S0 98 [.ref 71, .ref 2005] I L (mj_qd (some (.int o.1)) (mj_rows I [(71, o.2), (77, r77)]) L) := by
  refine mj_in RX11 "isHere" [(0, .ref 71), (1, .ref 2005)] rfl rfl rfl (by decide) (Nat.le_of_ble_eq_true rfl) (fun X ad hR => ?_)
  refine mj_toI [(71, r71), (77, r77)] (by intro q hq; simp only [List.mem_cons, List.not_mem_nil, or_false] at hq; rcases hq with rfl | rfl <;> assumption) ?_
  refine mtX11_isHere_71_2005 hR F I L r71 r77 o hf ?_
  obtain ⟨w0, w1⟩ := o
  refine mj_u2q ?_
  exact ⟨rfl, rfl, rfl⟩

-- X11_isHere_71_2006
def bdX11_isHere_71_2006_7 (F : Nat) (r71 : Nat → Int32) (r77 : Nat → Int32) (x2 : Int32) : Option (((Int32)) ⊕ (Unit ⊕ Unit)) := (if (4 : Int32) ≤ x2 then some (.inr (.inl ())) else (fnX11_isSmall F r71 r77 ((r71 11) + x2)).bind (fun o3 => (if o3 = 0 then some (.inr (.inr ())) else (if mj_ib ((r71 11) + x2) 400 = true then (if mj_ib x2 4 = true then (if (r77 (((r71 11) + x2).toNatClampNeg)) = (mj_ch 5 x2.toNatClampNeg) then some (.inl (x2 + (1))) else some (.inr (.inr ()))) else none) else none))))
def fnX11_isHere_71_2006 (F : Nat) (r71 : Nat → Int32) (r77 : Nat → Int32) : Option ((Int32) × (Nat → Int32)) := (fnX11_sign F r71 r77).bind (fun o8 => (mj_it (bdX11_isHere_71_2006_7 F o8.2 r77) F (0 : Int32)).bind (Sum.elim (fun _ => (fnX11_isSmall F o8.2 r77 ((o8.2 11) + (4 : Int32))).bind (fun o11 => (if o11 = 0 then some ((1 : Int32), o8.2) else some ((0 : Int32), o8.2)))) (fun _ => some ((0 : Int32), o8.2))))
set_option maxRecDepth 100000 in
set_option maxHeartbeats 4000000 in
theorem lpX11_isHere_71_2006_7 {X : mj_XT} {l : Launch} {G : mj_GT} {ad : Nat → Nat} {Qn : Option Value → mj_IT → mj_LT → Prop} (hR : mj_R X l G mj_P0 mj_S0 98 ad 0 0 Qn) (F : Nat) (I : mj_IT) (L : mj_LT) (r71 : Nat → Int32) (r77 : Nat → Int32) : ∀ (n : Nat) (s : ((Int32))) (e : (Unit ⊕ Unit)), mj_it (bdX11_isHere_71_2006_7 F r71 r77) n s = some e → (Sum.elim (fun _ => mj_W X G RX11 "isHere" cX11_isHere 3 5 (some .boolean) mj_P0 mj_S0 98 ad 0 0 55 [(0, .ref 71), (1, .ref 2006)] [] (mj_rows I [(71, r71), (77, r77)]) L) (fun _ => mj_W X G RX11 "isHere" cX11_isHere 3 5 (some .boolean) mj_P0 mj_S0 98 ad 0 0 47 [] [] (mj_rows I [(71, r71), (77, r77)]) L)) e → (fun x2 => mj_W X G RX11 "isHere" cX11_isHere 3 5 (some .boolean) mj_P0 mj_S0 98 ad 0 0 7 [(0, .ref 71), (1, .ref 2006), (2, .int x2)] [] (mj_rows I [(71, r71), (77, r77)]) L) s := by
  refine mj_loop (fun x2 o hf hc hx => ?_)
  unfold bdX11_isHere_71_2006_7 at hf
  refine mj_iload_n 2 dX11_isHere_7 rfl ?_
  refine mj_aload_n 1 dX11_isHere_8 rfl ?_
  refine mj_callVs (i := 5) (I2 := (mj_rows I [(71, r71), (77, r77)])) (L2 := L) (s1 := [.int (4 : Int32), .int x2]) (st := [.int x2]) [] (cmJ0_length X.2.1 G 5 2006 rfl (by decide) _ _) rfl rfl cw_X11_44 rfl (by decide) (by decide) rfl rfl (Nat.le_of_ble_eq_true rfl) ⟨Nat.zero_le _, Nat.zero_le _⟩ dX11_isHere_9 rfl ?_
  refine mj_icmp_ge 55 dX11_isHere_12 (by decide) (fun c2 => ?_) (fun c2 => ?_)
  · replace hf := mj_pos c2 hf
    refine mj_sub [0, 1] [(0, .ref 71), (1, .ref 2006)] rfl ?_
    obtain rfl := Option.some.inj hf
    have hZ := hx (.inl ()) rfl
    replace hZ := mj_el hZ
    exact hZ
  · replace hf := mj_neg c2 hf
    refine mj_aload_n 0 dX11_isHere_15 rfl ?_
    refine mj_aload_n 0 dX11_isHere_16 rfl ?_
    refine mj_getIv (v := (r71 11)) rfl fl_X11_31 rfl s0_71 a0_71 dX11_isHere_17 ?_
    refine mj_iload_n 2 dX11_isHere_20 rfl ?_
    refine mj_iadd dX11_isHere_21 ?_
    obtain ⟨o3, ho3, hf⟩ := mj_bd hf
    refine mj_callVd (I2 := (mj_rows I [(71, r71), (77, r77)])) (L2 := L) (s1 := [.int o3]) (st := []) [.int ((r71 11) + x2)] (cmX11_isSmall X.2.1 G F ((r71 11) + x2) _ _ r71 r77 rfl rfl o3 ho3) (mj_rr rfl) rfl cw_X11_49 s0_71 a0_71 (by decide) rfl rfl (Nat.le_of_ble_eq_true rfl) ⟨Nat.zero_le _, Nat.zero_le _⟩ dX11_isHere_22 rfl ?_
    refine mj_if_eq 47 dX11_isHere_25 (by decide) (fun c4 => ?_) (fun c4 => ?_)
    · replace hf := mj_pos c4 hf
      refine mj_sub [] [] rfl ?_
      obtain rfl := Option.some.inj hf
      have hZ := hx (.inr ()) rfl
      replace hZ := mj_er hZ
      exact hZ
    · replace hf := mj_neg c4 hf
      refine mj_aload_n 0 dX11_isHere_28 rfl ?_
      refine mj_getP p0_71_8 (by decide) fl_X11_37 rfl s0_71 a0_71 dX11_isHere_29 ?_
      refine mj_aload_n 0 dX11_isHere_32 rfl ?_
      refine mj_getIv (v := (r71 11)) rfl fl_X11_31 rfl s0_71 a0_71 dX11_isHere_33 ?_
      refine mj_iload_n 2 dX11_isHere_36 rfl ?_
      refine mj_iadd dX11_isHere_37 ?_
      obtain ⟨z5, hf⟩ := mj_ck hf
      refine mj_baldv (x := r77) rfl s0_77 a0_77 z5 dX11_isHere_38 ?_
      refine mj_aload_n 1 dX11_isHere_39 rfl ?_
      refine mj_iload_n 2 dX11_isHere_40 rfl ?_
      obtain ⟨z6, hf⟩ := mj_ck hf
      refine mj_callVs (i := 5) (I2 := (mj_rows I [(71, r71), (77, r77)])) (L2 := L) (s1 := [.int (mj_ch 5 x2.toNatClampNeg), .int (r77 (((r71 11) + x2).toNatClampNeg))]) (st := [.int (r77 (((r71 11) + x2).toNatClampNeg))]) [.int x2] (cmJ0_charAt X.2.1 G 5 2006 rfl (by decide) x2 _ _ z6) rfl rfl cw_X11_53 rfl (by decide) (by decide) rfl rfl (Nat.le_of_ble_eq_true rfl) ⟨Nat.zero_le _, Nat.zero_le _⟩ dX11_isHere_41 rfl ?_
      refine mj_icmp_eq 49 dX11_isHere_44 (by decide) (fun c7 => ?_) (fun c7 => ?_)
      · replace hf := mj_pos c7 hf
        refine mj_iinc 2 [(2, .int (x2 + (1))), (0, .ref 71), (1, .ref 2006)] dX11_isHere_49 rfl (kz_1 _) (by decide) rfl ?_
        refine mj_goto 7 dX11_isHere_52 (by decide) ?_
        refine mj_sub [1, 2, 0] [(0, .ref 71), (1, .ref 2006), (2, .int (x2 + (1)))] rfl ?_
        obtain rfl := Option.some.inj hf
        have hZ := hc (x2 + (1)) rfl
        exact hZ
      · replace hf := mj_neg c7 hf
        refine mj_sub [] [] rfl ?_
        obtain rfl := Option.some.inj hf
        have hZ := hx (.inr ()) rfl
        replace hZ := mj_er hZ
        exact hZ
set_option maxRecDepth 100000 in
set_option maxHeartbeats 4000000 in
theorem mtX11_isHere_71_2006 {X : mj_XT} {l : Launch} {G : mj_GT} {ad : Nat → Nat} {Qn : Option Value → mj_IT → mj_LT → Prop} (hR : mj_R X l G mj_P0 mj_S0 98 ad 0 0 Qn) (F : Nat) (I : mj_IT) (L : mj_LT) (r71 : Nat → Int32) (r77 : Nat → Int32) (o : ((Int32) × (Nat → Int32))) (hf : fnX11_isHere_71_2006 F r71 r77 = some o) (hq : (mj_u2 (fun ov r71 => Qn (some (.int ov)) (mj_rows I [(71, r71), (77, r77)]) L)) o) : mj_W X G RX11 "isHere" cX11_isHere 3 5 (some .boolean) mj_P0 mj_S0 98 ad 0 0 0 [(0, .ref 71), (1, .ref 2006)] [] (mj_rows I [(71, r71), (77, r77)]) L := by
  unfold fnX11_isHere_71_2006 at hf
  refine mj_aload_n 0 dX11_isHere_0 rfl ?_
  obtain ⟨o8, ho8, hf⟩ := mj_bd hf
  refine mj_callVd (I2 := (mj_rows I [(71, o8.2), (77, r77)])) (L2 := L) (s1 := [.int o8.1]) (st := []) [] (cmX11_sign X.2.1 G F  _ _ r71 r77 rfl rfl o8 ho8) (mj_rr rfl) rfl cw_X11_40 s0_71 a0_71 (by decide) rfl rfl (Nat.le_of_ble_eq_true rfl) ⟨Nat.zero_le _, Nat.zero_le _⟩ dX11_isHere_1 rfl ?_
  refine mj_pop dX11_isHere_4 rfl ?_
  refine mj_iconst dX11_isHere_5 kc_iconst_0 ?_
  refine mj_istore_n [(2, .int (0 : Int32)), (0, .ref 71), (1, .ref 2006)] dX11_isHere_6 rfl (by decide) rfl ?_
  refine mj_sub [1, 2, 0] [(0, .ref 71), (1, .ref 2006), (2, .int (0 : Int32))] rfl ?_
  obtain ⟨e9, ho9, hf⟩ := mj_bd hf
  refine lpX11_isHere_71_2006_7 hR F I L o8.2 r77 F (0 : Int32) e9 ho9 ?_
  rcases e9 with e9 | e9
  · replace hf := mj_ele hf
    refine mj_elq (?_)
    refine mj_aload_n 0 dX11_isHere_55 rfl ?_
    refine mj_aload_n 0 dX11_isHere_56 rfl ?_
    refine mj_getIv (v := (o8.2 11)) rfl fl_X11_31 rfl s0_71 a0_71 dX11_isHere_57 ?_
    refine mj_aload_n 1 dX11_isHere_60 rfl ?_
    refine mj_callVs (i := 5) (I2 := (mj_rows I [(71, o8.2), (77, r77)])) (L2 := L) (s1 := [.int (4 : Int32), .int (o8.2 11), .ref 71]) (st := [.int (o8.2 11), .ref 71]) [] (cmJ0_length X.2.1 G 5 2006 rfl (by decide) _ _) rfl rfl cw_X11_44 rfl (by decide) (by decide) rfl rfl (Nat.le_of_ble_eq_true rfl) ⟨Nat.zero_le _, Nat.zero_le _⟩ dX11_isHere_61 rfl ?_
    refine mj_iadd dX11_isHere_64 ?_
    obtain ⟨o11, ho11, hf⟩ := mj_bd hf
    refine mj_callVd (I2 := (mj_rows I [(71, o8.2), (77, r77)])) (L2 := L) (s1 := [.int o11]) (st := []) [.int ((o8.2 11) + (4 : Int32))] (cmX11_isSmall X.2.1 G F ((o8.2 11) + (4 : Int32)) _ _ o8.2 r77 rfl rfl o11 ho11) (mj_rr rfl) rfl cw_X11_49 s0_71 a0_71 (by decide) rfl rfl (Nat.le_of_ble_eq_true rfl) ⟨Nat.zero_le _, Nat.zero_le _⟩ dX11_isHere_65 rfl ?_
    refine mj_if_ne 75 dX11_isHere_68 (by decide) (fun c12 => ?_) (fun c12 => ?_)
    · replace hf := mj_neg c12 hf
      refine mj_iconst dX11_isHere_75 kc_iconst_0 ?_
      obtain rfl := Option.some.inj hf
      have hZ := hq
      replace hZ := mj_u2p hZ
      exact mj_iret hR ⟨Nat.le_refl _, Nat.le_refl _⟩ rfl (by decide) dX11_isHere_76 hZ
    · replace hf := mj_pos c12 hf
      refine mj_iconst dX11_isHere_71 kc_iconst_1 ?_
      refine mj_goto 76 dX11_isHere_72 (by decide) ?_
      obtain rfl := Option.some.inj hf
      have hZ := hq
      replace hZ := mj_u2p hZ
      exact mj_iret hR ⟨Nat.le_refl _, Nat.le_refl _⟩ rfl (by decide) dX11_isHere_76 hZ
  · replace hf := mj_ere hf
    refine mj_erq (?_)
    refine mj_iconst dX11_isHere_47 kc_iconst_0 ?_
    obtain rfl := Option.some.inj hf
    have hZ := hq
    replace hZ := mj_u2p hZ
    exact mj_iret hR ⟨Nat.le_refl _, Nat.le_refl _⟩ rfl (by decide) dX11_isHere_48 hZ
set_option maxRecDepth 100000 in
set_option maxHeartbeats 4000000 in
theorem cmX11_isHere_71_2006 (l : Launch) (G : mj_GT) (F : Nat) (I : mj_IT) (L : mj_LT) (r71 : Nat → Int32) (r77 : Nat → Int32) (hr71 : I 71 = r71) (hr77 : I 77 = r77) (o : ((Int32) × (Nat → Int32))) (hf : fnX11_isHere_71_2006 F r71 r77 = some o) : mj_M l G yX11_isHere cX11_isHere 3 5 (some .boolean) 0 0 mj_P0 mj_S0 98 [.ref 71, .ref 2006] I L (mj_qd (some (.int o.1)) (mj_rows I [(71, o.2), (77, r77)]) L) := by
  refine mj_in RX11 "isHere" [(0, .ref 71), (1, .ref 2006)] rfl rfl rfl (by decide) (Nat.le_of_ble_eq_true rfl) (fun X ad hR => ?_)
  refine mj_toI [(71, r71), (77, r77)] (by intro q hq; simp only [List.mem_cons, List.not_mem_nil, or_false] at hq; rcases hq with rfl | rfl <;> assumption) ?_
  refine mtX11_isHere_71_2006 hR F I L r71 r77 o hf ?_
  obtain ⟨w0, w1⟩ := o
  refine mj_u2q ?_
  exact ⟨rfl, rfl, rfl⟩

-- X11_begins
def fnX11_begins (F : Nat) (r71 : Nat → Int32) (r77 : Nat → Int32) : Option ((Int32) × (Nat → Int32)) := (fnX11_isNameHere F r71 r77).bind (fun o1 => (if o1.1 = 0 then (fnX11_isHere_71_2001 F o1.2 r77).bind (fun o3 => (if o3.1 = 0 then (fnX11_isHere_71_2002 F o3.2 r77).bind (fun o5 => (if o5.1 = 0 then (fnX11_isHere_71_2003 F o5.2 r77).bind (fun o7 => (if o7.1 = 0 then (fnX11_isHere_71_2004 F o7.2 r77).bind (fun o9 => (if o9.1 = 0 then (fnX11_isHere_71_2005 F o9.2 r77).bind (fun o11 => (if o11.1 = 0 then (fnX11_isHere_71_2006 F o11.2 r77).bind (fun o13 => (if o13.1 = 0 then some ((0 : Int32), o13.2) else some ((1 : Int32), o13.2))) else some ((1 : Int32), o11.2))) else some ((1 : Int32), o9.2))) else some ((1 : Int32), o7.2))) else some ((1 : Int32), o5.2))) else some ((1 : Int32), o3.2))) else some ((1 : Int32), o1.2)))
set_option maxRecDepth 100000 in
set_option maxHeartbeats 4000000 in
theorem mtX11_begins {X : mj_XT} {l : Launch} {G : mj_GT} {ad : Nat → Nat} {Qn : Option Value → mj_IT → mj_LT → Prop} (hR : mj_R X l G mj_P0 mj_S0 98 ad 0 0 Qn) (F : Nat) (I : mj_IT) (L : mj_LT) (r71 : Nat → Int32) (r77 : Nat → Int32) (o : ((Int32) × (Nat → Int32))) (hf : fnX11_begins F r71 r77 = some o) (hq : (mj_u2 (fun ov r71 => Qn (some (.int ov)) (mj_rows I [(71, r71), (77, r77)]) L)) o) : mj_W X G RX11 "begins" cX11_begins 1 6 (some .boolean) mj_P0 mj_S0 98 ad 0 0 0 [(0, .ref 71)] [] (mj_rows I [(71, r71), (77, r77)]) L := by
  unfold fnX11_begins at hf
  refine mj_aload_n 0 dX11_begins_0 rfl ?_
  obtain ⟨o1, ho1, hf⟩ := mj_bd hf
  refine mj_callVd (I2 := (mj_rows I [(71, o1.2), (77, r77)])) (L2 := L) (s1 := [.int o1.1]) (st := []) [] (cmX11_isNameHere X.2.1 G F  _ _ r71 r77 rfl rfl o1 ho1) (mj_rr rfl) rfl cw_X11_68 s0_71 a0_71 (by decide) rfl rfl (Nat.le_of_ble_eq_true rfl) ⟨Nat.zero_le _, Nat.zero_le _⟩ dX11_begins_1 rfl ?_
  refine mj_if_ne 61 dX11_begins_4 (by decide) (fun c2 => ?_) (fun c2 => ?_)
  · replace hf := mj_neg c2 hf
    refine mj_iconst dX11_begins_61 kc_iconst_1 ?_
    refine mj_goto 66 dX11_begins_62 (by decide) ?_
    obtain rfl := Option.some.inj hf
    have hZ := hq
    replace hZ := mj_u2p hZ
    exact mj_iret hR ⟨Nat.le_refl _, Nat.le_refl _⟩ rfl (by decide) dX11_begins_66 hZ
  · replace hf := mj_pos c2 hf
    refine mj_aload_n 0 dX11_begins_7 rfl ?_
    refine mj_ldcS (b := 2001) (List.mem_of_getElem? (i := 7) rfl) rfl dX11_begins_8 ?_
    obtain ⟨o3, ho3, hf⟩ := mj_bd hf
    refine mj_callVd (I2 := (mj_rows I [(71, o3.2), (77, r77)])) (L2 := L) (s1 := [.int o3.1]) (st := []) [.ref 2001] (cmX11_isHere_71_2001 X.2.1 G F  _ _ o1.2 r77 rfl rfl o3 ho3) (mj_rr rfl) rfl cw_X11_57 s0_71 a0_71 (by decide) rfl rfl (Nat.le_of_ble_eq_true rfl) ⟨Nat.zero_le _, Nat.zero_le _⟩ dX11_begins_10 rfl ?_
    refine mj_if_ne 61 dX11_begins_13 (by decide) (fun c4 => ?_) (fun c4 => ?_)
    · replace hf := mj_neg c4 hf
      refine mj_iconst dX11_begins_61 kc_iconst_1 ?_
      refine mj_goto 66 dX11_begins_62 (by decide) ?_
      obtain rfl := Option.some.inj hf
      have hZ := hq
      replace hZ := mj_u2p hZ
      exact mj_iret hR ⟨Nat.le_refl _, Nat.le_refl _⟩ rfl (by decide) dX11_begins_66 hZ
    · replace hf := mj_pos c4 hf
      refine mj_aload_n 0 dX11_begins_16 rfl ?_
      refine mj_ldcS (b := 2002) (List.mem_of_getElem? (i := 8) rfl) rfl dX11_begins_17 ?_
      obtain ⟨o5, ho5, hf⟩ := mj_bd hf
      refine mj_callVd (I2 := (mj_rows I [(71, o5.2), (77, r77)])) (L2 := L) (s1 := [.int o5.1]) (st := []) [.ref 2002] (cmX11_isHere_71_2002 X.2.1 G F  _ _ o3.2 r77 rfl rfl o5 ho5) (mj_rr rfl) rfl cw_X11_57 s0_71 a0_71 (by decide) rfl rfl (Nat.le_of_ble_eq_true rfl) ⟨Nat.zero_le _, Nat.zero_le _⟩ dX11_begins_19 rfl ?_
      refine mj_if_ne 61 dX11_begins_22 (by decide) (fun c6 => ?_) (fun c6 => ?_)
      · replace hf := mj_neg c6 hf
        refine mj_iconst dX11_begins_61 kc_iconst_1 ?_
        refine mj_goto 66 dX11_begins_62 (by decide) ?_
        obtain rfl := Option.some.inj hf
        have hZ := hq
        replace hZ := mj_u2p hZ
        exact mj_iret hR ⟨Nat.le_refl _, Nat.le_refl _⟩ rfl (by decide) dX11_begins_66 hZ
      · replace hf := mj_pos c6 hf
        refine mj_aload_n 0 dX11_begins_25 rfl ?_
        refine mj_ldcS (b := 2003) (List.mem_of_getElem? (i := 9) rfl) rfl dX11_begins_26 ?_
        obtain ⟨o7, ho7, hf⟩ := mj_bd hf
        refine mj_callVd (I2 := (mj_rows I [(71, o7.2), (77, r77)])) (L2 := L) (s1 := [.int o7.1]) (st := []) [.ref 2003] (cmX11_isHere_71_2003 X.2.1 G F  _ _ o5.2 r77 rfl rfl o7 ho7) (mj_rr rfl) rfl cw_X11_57 s0_71 a0_71 (by decide) rfl rfl (Nat.le_of_ble_eq_true rfl) ⟨Nat.zero_le _, Nat.zero_le _⟩ dX11_begins_28 rfl ?_
        refine mj_if_ne 61 dX11_begins_31 (by decide) (fun c8 => ?_) (fun c8 => ?_)
        · replace hf := mj_neg c8 hf
          refine mj_iconst dX11_begins_61 kc_iconst_1 ?_
          refine mj_goto 66 dX11_begins_62 (by decide) ?_
          obtain rfl := Option.some.inj hf
          have hZ := hq
          replace hZ := mj_u2p hZ
          exact mj_iret hR ⟨Nat.le_refl _, Nat.le_refl _⟩ rfl (by decide) dX11_begins_66 hZ
        · replace hf := mj_pos c8 hf
          refine mj_aload_n 0 dX11_begins_34 rfl ?_
          refine mj_ldcS (b := 2004) (List.mem_of_getElem? (i := 10) rfl) rfl dX11_begins_35 ?_
          obtain ⟨o9, ho9, hf⟩ := mj_bd hf
          refine mj_callVd (I2 := (mj_rows I [(71, o9.2), (77, r77)])) (L2 := L) (s1 := [.int o9.1]) (st := []) [.ref 2004] (cmX11_isHere_71_2004 X.2.1 G F  _ _ o7.2 r77 rfl rfl o9 ho9) (mj_rr rfl) rfl cw_X11_57 s0_71 a0_71 (by decide) rfl rfl (Nat.le_of_ble_eq_true rfl) ⟨Nat.zero_le _, Nat.zero_le _⟩ dX11_begins_37 rfl ?_
          refine mj_if_ne 61 dX11_begins_40 (by decide) (fun c10 => ?_) (fun c10 => ?_)
          · replace hf := mj_neg c10 hf
            refine mj_iconst dX11_begins_61 kc_iconst_1 ?_
            refine mj_goto 66 dX11_begins_62 (by decide) ?_
            obtain rfl := Option.some.inj hf
            have hZ := hq
            replace hZ := mj_u2p hZ
            exact mj_iret hR ⟨Nat.le_refl _, Nat.le_refl _⟩ rfl (by decide) dX11_begins_66 hZ
          · replace hf := mj_pos c10 hf
            refine mj_aload_n 0 dX11_begins_43 rfl ?_
            refine mj_ldcS (b := 2005) (List.mem_of_getElem? (i := 11) rfl) rfl dX11_begins_44 ?_
            obtain ⟨o11, ho11, hf⟩ := mj_bd hf
            refine mj_callVd (I2 := (mj_rows I [(71, o11.2), (77, r77)])) (L2 := L) (s1 := [.int o11.1]) (st := []) [.ref 2005] (cmX11_isHere_71_2005 X.2.1 G F  _ _ o9.2 r77 rfl rfl o11 ho11) (mj_rr rfl) rfl cw_X11_57 s0_71 a0_71 (by decide) rfl rfl (Nat.le_of_ble_eq_true rfl) ⟨Nat.zero_le _, Nat.zero_le _⟩ dX11_begins_46 rfl ?_
            refine mj_if_ne 61 dX11_begins_49 (by decide) (fun c12 => ?_) (fun c12 => ?_)
            · replace hf := mj_neg c12 hf
              refine mj_iconst dX11_begins_61 kc_iconst_1 ?_
              refine mj_goto 66 dX11_begins_62 (by decide) ?_
              obtain rfl := Option.some.inj hf
              have hZ := hq
              replace hZ := mj_u2p hZ
              exact mj_iret hR ⟨Nat.le_refl _, Nat.le_refl _⟩ rfl (by decide) dX11_begins_66 hZ
            · replace hf := mj_pos c12 hf
              refine mj_aload_n 0 dX11_begins_52 rfl ?_
              refine mj_ldcS (b := 2006) (List.mem_of_getElem? (i := 12) rfl) rfl dX11_begins_53 ?_
              obtain ⟨o13, ho13, hf⟩ := mj_bd hf
              refine mj_callVd (I2 := (mj_rows I [(71, o13.2), (77, r77)])) (L2 := L) (s1 := [.int o13.1]) (st := []) [.ref 2006] (cmX11_isHere_71_2006 X.2.1 G F  _ _ o11.2 r77 rfl rfl o13 ho13) (mj_rr rfl) rfl cw_X11_57 s0_71 a0_71 (by decide) rfl rfl (Nat.le_of_ble_eq_true rfl) ⟨Nat.zero_le _, Nat.zero_le _⟩ dX11_begins_55 rfl ?_
              refine mj_if_eq 65 dX11_begins_58 (by decide) (fun c14 => ?_) (fun c14 => ?_)
              · replace hf := mj_pos c14 hf
                refine mj_iconst dX11_begins_65 kc_iconst_0 ?_
                obtain rfl := Option.some.inj hf
                have hZ := hq
                replace hZ := mj_u2p hZ
                exact mj_iret hR ⟨Nat.le_refl _, Nat.le_refl _⟩ rfl (by decide) dX11_begins_66 hZ
              · replace hf := mj_neg c14 hf
                refine mj_iconst dX11_begins_61 kc_iconst_1 ?_
                refine mj_goto 66 dX11_begins_62 (by decide) ?_
                obtain rfl := Option.some.inj hf
                have hZ := hq
                replace hZ := mj_u2p hZ
                exact mj_iret hR ⟨Nat.le_refl _, Nat.le_refl _⟩ rfl (by decide) dX11_begins_66 hZ
set_option maxRecDepth 100000 in
set_option maxHeartbeats 4000000 in
theorem cmX11_begins (l : Launch) (G : mj_GT) (F : Nat) (I : mj_IT) (L : mj_LT) (r71 : Nat → Int32) (r77 : Nat → Int32) (hr71 : I 71 = r71) (hr77 : I 77 = r77) (o : ((Int32) × (Nat → Int32))) (hf : fnX11_begins F r71 r77 = some o) : mj_M l G yX11_begins cX11_begins 1 6 (some .boolean) 0 0 mj_P0 mj_S0 98 [.ref 71] I L (mj_qd (some (.int o.1)) (mj_rows I [(71, o.2), (77, r77)]) L) := by
  refine mj_in RX11 "begins" [(0, .ref 71)] rfl rfl rfl (by decide) (Nat.le_of_ble_eq_true rfl) (fun X ad hR => ?_)
  refine mj_toI [(71, r71), (77, r77)] (by intro q hq; simp only [List.mem_cons, List.not_mem_nil, or_false] at hq; rcases hq with rfl | rfl <;> assumption) ?_
  refine mtX11_begins hR F I L r71 r77 o hf ?_
  obtain ⟨w0, w1⟩ := o
  refine mj_u2q ?_
  exact ⟨rfl, rfl, rfl⟩

-- X11_behind
def fnX11_behind (F : Nat) (x1 : Int32) : Option ((Int32)) := some ((-100 : Int32) - x1)
set_option maxRecDepth 100000 in
set_option maxHeartbeats 4000000 in
theorem mtX11_behind {X : mj_XT} {l : Launch} {G : mj_GT} {ad : Nat → Nat} {Qn : Option Value → mj_IT → mj_LT → Prop} (hR : mj_R X l G mj_P0 mj_S0 98 ad 0 0 Qn) (F : Nat) (I : mj_IT) (L : mj_LT) (x1 : Int32) (o : ((Int32))) (hf : fnX11_behind F x1 = some o) (hq : (fun ov => Qn (some (.int ov)) I L) o) : mj_W X G RX11 "behind" cX11_behind 2 1 (some .int) mj_P0 mj_S0 98 ad 0 0 0 [(0, .ref 71), (1, .int x1)] [] I L := by
  unfold fnX11_behind at hf
  refine mj_bipush dX11_behind_0 kc_bipush_m100 ?_
  refine mj_iload_n 1 dX11_behind_2 rfl ?_
  refine mj_isub dX11_behind_3 ?_
  obtain rfl := Option.some.inj hf
  have hZ := hq
  exact mj_iret hR ⟨Nat.le_refl _, Nat.le_refl _⟩ rfl rfl dX11_behind_4 hZ
set_option maxRecDepth 100000 in
set_option maxHeartbeats 4000000 in
theorem cmX11_behind (l : Launch) (G : mj_GT) (F : Nat) (x1 : Int32) (I : mj_IT) (L : mj_LT) (o : ((Int32))) (hf : fnX11_behind F x1 = some o) : mj_M l G yX11_behind cX11_behind 2 1 (some .int) 0 0 mj_P0 mj_S0 98 [.ref 71, .int x1] I L (mj_qd (some (.int o)) I L) := by
  refine mj_in RX11 "behind" [(0, .ref 71), (1, .int x1)] rfl rfl rfl (by decide) (Nat.le_of_ble_eq_true rfl) (fun X ad hR => ?_)
  refine mtX11_behind hR F I L x1 o hf ?_
  exact ⟨rfl, rfl, rfl⟩

-- X11_joins
def jnX11_joins_41 (F : Nat) (r71 : Nat → Int32) (x1 : Int32) (x2 : Int32) (x3 : Int32) (r74 : Nat → Int32) : Option (((Int32) × (Nat → Int32)) ⊕ ((Nat → Int32))) := (if mj_ib (((12 : Int32) * x3) + (4 : Int32)) 480 = true then (fnX11_behind F x1).bind (fun o2 => (if (r74 ((((12 : Int32) * x3) + (4 : Int32)).toNatClampNeg)) = o2 then (if mj_ib (((12 : Int32) * x3) + (4 : Int32)) 480 = true then some (.inl ((x3 + (1)), (upd r74 ((((12 : Int32) * x3) + (4 : Int32)).toNatClampNeg) x2))) else none) else some (.inl ((x3 + (1)), r74)))) else none)
def bdX11_joins_2 (F : Nat) (r71 : Nat → Int32) (x1 : Int32) (x2 : Int32) (x3 : Int32) (r74 : Nat → Int32) : Option (((Int32) × (Nat → Int32)) ⊕ ((Nat → Int32))) := (if (r71 5) ≤ x3 then some (.inr r74) else (if mj_ib (((12 : Int32) * x3) + (3 : Int32)) 480 = true then (fnX11_behind F x1).bind (fun o7 => (if (r74 ((((12 : Int32) * x3) + (3 : Int32)).toNatClampNeg)) = o7 then (if mj_ib (((12 : Int32) * x3) + (3 : Int32)) 480 = true then jnX11_joins_41 F r71 x1 x2 x3 (upd r74 ((((12 : Int32) * x3) + (3 : Int32)).toNatClampNeg) x2) else none) else jnX11_joins_41 F r71 x1 x2 x3 r74)) else none))
def fnX11_joins (F : Nat) (r71 : Nat → Int32) (r74 : Nat → Int32) (x1 : Int32) (x2 : Int32) : Option ((Nat → Int32)) := (mj_it (mj_u2 (fun z0 z1 => bdX11_joins_2 F r71 x1 x2 z0 z1)) F ((0 : Int32), r74)).bind (fun r74_10 => some r74_10)
set_option maxRecDepth 100000 in
set_option maxHeartbeats 4000000 in
theorem jtX11_joins_41 {X : mj_XT} {l : Launch} {G : mj_GT} {ad : Nat → Nat} {Qn : Option Value → mj_IT → mj_LT → Prop} (hR : mj_R X l G mj_P0 mj_S0 98 ad 0 0 Qn) (F : Nat) (I : mj_IT) (L : mj_LT) (r71 : Nat → Int32) (r74 : Nat → Int32) (x1 : Int32) (x2 : Int32) (x3 : Int32) (o : (((Int32) × (Nat → Int32)) ⊕ ((Nat → Int32)))) (hf : jnX11_joins_41 F r71 x1 x2 x3 r74 = some o) (hc : ∀ s2 : ((Int32) × (Nat → Int32)), o = .inl s2 → (mj_u2 (fun x3 r74 => mj_W X G RX11 "joins" cX11_joins 4 2 none mj_P0 mj_S0 98 ad 0 0 2 [(0, .ref 71), (1, .int x1), (2, .int x2), (3, .int x3)] [] (mj_rows I [(71, r71), (74, r74)]) L)) s2) (hx : ∀ e2 : ((Nat → Int32)), o = .inr e2 → (fun r74 => mj_W X G RX11 "joins" cX11_joins 4 2 none mj_P0 mj_S0 98 ad 0 0 78 [] [] (mj_rows I [(71, r71), (74, r74)]) L) e2) : mj_W X G RX11 "joins" cX11_joins 4 2 none mj_P0 mj_S0 98 ad 0 0 41 [(0, .ref 71), (1, .int x1), (2, .int x2), (3, .int x3)] [] (mj_rows I [(71, r71), (74, r74)]) L := by
  unfold jnX11_joins_41 at hf
  refine mj_aload_n 0 dX11_joins_41 rfl ?_
  refine mj_getP p0_71_3 (by decide) fl_X11_95 rfl s0_71 a0_71 dX11_joins_42 ?_
  refine mj_bipush dX11_joins_45 kc_bipush_12 ?_
  refine mj_iload_n 3 dX11_joins_47 rfl ?_
  refine mj_imul dX11_joins_48 ?_
  refine mj_iconst dX11_joins_49 kc_iconst_4 ?_
  refine mj_iadd dX11_joins_50 ?_
  obtain ⟨z1, hf⟩ := mj_ck hf
  refine mj_ialdv (x := r74) rfl s0_74 a0_74 z1 dX11_joins_51 ?_
  refine mj_aload_n 0 dX11_joins_52 rfl ?_
  refine mj_iload_n 1 dX11_joins_53 rfl ?_
  obtain ⟨o2, ho2, hf⟩ := mj_bd hf
  refine mj_callVd (I2 := (mj_rows I [(71, r71), (74, r74)])) (L2 := L) (s1 := [.int o2, .int (r74 ((((12 : Int32) * x3) + (4 : Int32)).toNatClampNeg))]) (st := [.int (r74 ((((12 : Int32) * x3) + (4 : Int32)).toNatClampNeg))]) [.int x1] (cmX11_behind X.2.1 G F x1 _ _   o2 ho2) rfl rfl cw_X11_128 s0_71 a0_71 (by decide) rfl rfl (Nat.le_of_ble_eq_true rfl) ⟨Nat.zero_le _, Nat.zero_le _⟩ dX11_joins_54 rfl ?_
  refine mj_icmp_ne 72 dX11_joins_57 (by decide) (fun c3 => ?_) (fun c3 => ?_)
  · replace hf := mj_neg c3 hf
    refine mj_iinc 3 [(3, .int (x3 + (1))), (0, .ref 71), (1, .int x1), (2, .int x2)] dX11_joins_72 rfl (kz_1 _) (by decide) rfl ?_
    refine mj_goto 2 dX11_joins_75 (by decide) ?_
    refine mj_sub [1, 2, 3, 0] [(0, .ref 71), (1, .int x1), (2, .int x2), (3, .int (x3 + (1)))] rfl ?_
    obtain rfl := Option.some.inj hf
    have hZ := hc ((x3 + (1)), r74) rfl
    replace hZ := mj_u2p hZ
    exact hZ
  · replace hf := mj_pos c3 hf
    refine mj_aload_n 0 dX11_joins_60 rfl ?_
    refine mj_getP p0_71_3 (by decide) fl_X11_95 rfl s0_71 a0_71 dX11_joins_61 ?_
    refine mj_bipush dX11_joins_64 kc_bipush_12 ?_
    refine mj_iload_n 3 dX11_joins_66 rfl ?_
    refine mj_imul dX11_joins_67 ?_
    refine mj_iconst dX11_joins_68 kc_iconst_4 ?_
    refine mj_iadd dX11_joins_69 ?_
    refine mj_iload_n 2 dX11_joins_70 rfl ?_
    obtain ⟨z4, hf⟩ := mj_ck hf
    refine mj_iastr [(71, r71), (74, (upd r74 ((((12 : Int32) * x3) + (4 : Int32)).toNatClampNeg) x2))] rfl s0_74 a0_74 z4 dX11_joins_71 ?_
    refine mj_iinc 3 [(3, .int (x3 + (1))), (0, .ref 71), (1, .int x1), (2, .int x2)] dX11_joins_72 rfl (kz_1 _) (by decide) rfl ?_
    refine mj_goto 2 dX11_joins_75 (by decide) ?_
    refine mj_sub [1, 2, 3, 0] [(0, .ref 71), (1, .int x1), (2, .int x2), (3, .int (x3 + (1)))] rfl ?_
    obtain rfl := Option.some.inj hf
    have hZ := hc ((x3 + (1)), (upd r74 ((((12 : Int32) * x3) + (4 : Int32)).toNatClampNeg) x2)) rfl
    replace hZ := mj_u2p hZ
    exact hZ
set_option maxRecDepth 100000 in
set_option maxHeartbeats 4000000 in
theorem lpX11_joins_2 {X : mj_XT} {l : Launch} {G : mj_GT} {ad : Nat → Nat} {Qn : Option Value → mj_IT → mj_LT → Prop} (hR : mj_R X l G mj_P0 mj_S0 98 ad 0 0 Qn) (F : Nat) (I : mj_IT) (L : mj_LT) (r71 : Nat → Int32) (r74 : Nat → Int32) (x1 : Int32) (x2 : Int32) : ∀ (n : Nat) (s : ((Int32) × (Nat → Int32))) (e : ((Nat → Int32))), mj_it (mj_u2 (fun z0 z1 => bdX11_joins_2 F r71 x1 x2 z0 z1)) n s = some e → (fun r74 => mj_W X G RX11 "joins" cX11_joins 4 2 none mj_P0 mj_S0 98 ad 0 0 78 [] [] (mj_rows I [(71, r71), (74, r74)]) L) e → (mj_u2 (fun x3 r74 => mj_W X G RX11 "joins" cX11_joins 4 2 none mj_P0 mj_S0 98 ad 0 0 2 [(0, .ref 71), (1, .int x1), (2, .int x2), (3, .int x3)] [] (mj_rows I [(71, r71), (74, r74)]) L)) s := by
  refine mj_loop (fun s o hf hc hx => ?_)
  obtain ⟨x3, r74⟩ := s
  replace hf := mj_u2e hf
  refine mj_u2q ?_
  unfold bdX11_joins_2 at hf
  refine mj_iload_n 3 dX11_joins_2 rfl ?_
  refine mj_aload_n 0 dX11_joins_3 rfl ?_
  refine mj_getIv (v := (r71 5)) rfl fl_X11_119 rfl s0_71 a0_71 dX11_joins_4 ?_
  refine mj_icmp_ge 78 dX11_joins_7 (by decide) (fun c5 => ?_) (fun c5 => ?_)
  · replace hf := mj_pos c5 hf
    refine mj_sub [] [] rfl ?_
    obtain rfl := Option.some.inj hf
    have hZ := hx r74 rfl
    exact hZ
  · replace hf := mj_neg c5 hf
    refine mj_aload_n 0 dX11_joins_10 rfl ?_
    refine mj_getP p0_71_3 (by decide) fl_X11_95 rfl s0_71 a0_71 dX11_joins_11 ?_
    refine mj_bipush dX11_joins_14 kc_bipush_12 ?_
    refine mj_iload_n 3 dX11_joins_16 rfl ?_
    refine mj_imul dX11_joins_17 ?_
    refine mj_iconst dX11_joins_18 kc_iconst_3 ?_
    refine mj_iadd dX11_joins_19 ?_
    obtain ⟨z6, hf⟩ := mj_ck hf
    refine mj_ialdv (x := r74) rfl s0_74 a0_74 z6 dX11_joins_20 ?_
    refine mj_aload_n 0 dX11_joins_21 rfl ?_
    refine mj_iload_n 1 dX11_joins_22 rfl ?_
    obtain ⟨o7, ho7, hf⟩ := mj_bd hf
    refine mj_callVd (I2 := (mj_rows I [(71, r71), (74, r74)])) (L2 := L) (s1 := [.int o7, .int (r74 ((((12 : Int32) * x3) + (3 : Int32)).toNatClampNeg))]) (st := [.int (r74 ((((12 : Int32) * x3) + (3 : Int32)).toNatClampNeg))]) [.int x1] (cmX11_behind X.2.1 G F x1 _ _   o7 ho7) rfl rfl cw_X11_128 s0_71 a0_71 (by decide) rfl rfl (Nat.le_of_ble_eq_true rfl) ⟨Nat.zero_le _, Nat.zero_le _⟩ dX11_joins_23 rfl ?_
    refine mj_icmp_ne 41 dX11_joins_26 (by decide) (fun c8 => ?_) (fun c8 => ?_)
    · replace hf := mj_neg c8 hf
      exact jtX11_joins_41 hR F I L r71 r74 x1 x2 x3 o hf hc hx
    · replace hf := mj_pos c8 hf
      refine mj_aload_n 0 dX11_joins_29 rfl ?_
      refine mj_getP p0_71_3 (by decide) fl_X11_95 rfl s0_71 a0_71 dX11_joins_30 ?_
      refine mj_bipush dX11_joins_33 kc_bipush_12 ?_
      refine mj_iload_n 3 dX11_joins_35 rfl ?_
      refine mj_imul dX11_joins_36 ?_
      refine mj_iconst dX11_joins_37 kc_iconst_3 ?_
      refine mj_iadd dX11_joins_38 ?_
      refine mj_iload_n 2 dX11_joins_39 rfl ?_
      obtain ⟨z9, hf⟩ := mj_ck hf
      refine mj_iastr [(71, r71), (74, (upd r74 ((((12 : Int32) * x3) + (3 : Int32)).toNatClampNeg) x2))] rfl s0_74 a0_74 z9 dX11_joins_40 ?_
      exact jtX11_joins_41 hR F I L r71 (upd r74 ((((12 : Int32) * x3) + (3 : Int32)).toNatClampNeg) x2) x1 x2 x3 o hf hc hx
set_option maxRecDepth 100000 in
set_option maxHeartbeats 4000000 in
theorem mtX11_joins {X : mj_XT} {l : Launch} {G : mj_GT} {ad : Nat → Nat} {Qn : Option Value → mj_IT → mj_LT → Prop} (hR : mj_R X l G mj_P0 mj_S0 98 ad 0 0 Qn) (F : Nat) (I : mj_IT) (L : mj_LT) (r71 : Nat → Int32) (r74 : Nat → Int32) (x1 : Int32) (x2 : Int32) (o : ((Nat → Int32))) (hf : fnX11_joins F r71 r74 x1 x2 = some o) (hq : (fun r74 => Qn none (mj_rows I [(71, r71), (74, r74)]) L) o) : mj_W X G RX11 "joins" cX11_joins 4 2 none mj_P0 mj_S0 98 ad 0 0 0 [(0, .ref 71), (1, .int x1), (2, .int x2)] [] (mj_rows I [(71, r71), (74, r74)]) L := by
  unfold fnX11_joins at hf
  refine mj_iconst dX11_joins_0 kc_iconst_0 ?_
  refine mj_istore_n [(3, .int (0 : Int32)), (0, .ref 71), (1, .int x1), (2, .int x2)] dX11_joins_1 rfl (by decide) rfl ?_
  refine mj_sub [1, 2, 3, 0] [(0, .ref 71), (1, .int x1), (2, .int x2), (3, .int (0 : Int32))] rfl ?_
  obtain ⟨r74_10, ho10, hf⟩ := mj_bd hf
  refine lpX11_joins_2 hR F I L r71 r74 x1 x2 F ((0 : Int32), r74) r74_10 ho10 ?_
  refine ?_
  obtain rfl := Option.some.inj hf
  have hZ := hq
  exact mj_vret hR ⟨Nat.le_refl _, Nat.le_refl _⟩ rfl dX11_joins_78 hZ
set_option maxRecDepth 100000 in
set_option maxHeartbeats 4000000 in
theorem cmX11_joins (l : Launch) (G : mj_GT) (F : Nat) (x1 : Int32) (x2 : Int32) (I : mj_IT) (L : mj_LT) (r71 : Nat → Int32) (r74 : Nat → Int32) (hr71 : I 71 = r71) (hr74 : I 74 = r74) (o : ((Nat → Int32))) (hf : fnX11_joins F r71 r74 x1 x2 = some o) : mj_M l G yX11_joins cX11_joins 4 2 none 0 0 mj_P0 mj_S0 98 [.ref 71, .int x1, .int x2] I L (mj_qd none (mj_rows I [(71, r71), (74, o)]) L) := by
  refine mj_in RX11 "joins" [(0, .ref 71), (1, .int x1), (2, .int x2)] rfl rfl rfl (by decide) (Nat.le_of_ble_eq_true rfl) (fun X ad hR => ?_)
  refine mj_toI [(71, r71), (74, r74)] (by intro q hq; simp only [List.mem_cons, List.not_mem_nil, or_false] at hq; rcases hq with rfl | rfl <;> assumption) ?_
  refine mtX11_joins hR F I L r71 r74 x1 x2 o hf ?_
  exact ⟨rfl, rfl, rfl⟩

-- X11_passes_71_2001
def fnX11_passes_71_2001 (F : Nat) (r71 : Nat → Int32) (r77 : Nat → Int32) : Option ((Int32) × (Nat → Int32)) := (if 0 < (r71 14) then some ((0 : Int32), r71) else (fnX11_isHere_71_2001 F r71 r77).bind (fun o2 => (if o2.1 = 0 then some ((0 : Int32), o2.2) else some ((1 : Int32), (upd o2.2 11 ((o2.2 11) + (4 : Int32)))))))
set_option maxRecDepth 100000 in
set_option maxHeartbeats 4000000 in
theorem mtX11_passes_71_2001 {X : mj_XT} {l : Launch} {G : mj_GT} {ad : Nat → Nat} {Qn : Option Value → mj_IT → mj_LT → Prop} (hR : mj_R X l G mj_P0 mj_S0 98 ad 0 0 Qn) (F : Nat) (I : mj_IT) (L : mj_LT) (r71 : Nat → Int32) (r77 : Nat → Int32) (o : ((Int32) × (Nat → Int32))) (hf : fnX11_passes_71_2001 F r71 r77 = some o) (hq : (mj_u2 (fun ov r71 => Qn (some (.int ov)) (mj_rows I [(71, r71), (77, r77)]) L)) o) : mj_W X G RX11 "passes" cX11_passes 2 6 (some .boolean) mj_P0 mj_S0 98 ad 0 0 0 [(0, .ref 71), (1, .ref 2001)] [] (mj_rows I [(71, r71), (77, r77)]) L := by
  unfold fnX11_passes_71_2001 at hf
  refine mj_aload_n 0 dX11_passes_0 rfl ?_
  refine mj_getIv (v := (r71 14)) rfl fl_X11_25 rfl s0_71 a0_71 dX11_passes_1 ?_
  refine mj_if_gt 15 dX11_passes_4 (by decide) (fun c1 => ?_) (fun c1 => ?_)
  · replace hf := mj_pos c1 hf
    refine mj_iconst dX11_passes_15 kc_iconst_0 ?_
    obtain rfl := Option.some.inj hf
    have hZ := hq
    replace hZ := mj_u2p hZ
    exact mj_iret hR ⟨Nat.le_refl _, Nat.le_refl _⟩ rfl (by decide) dX11_passes_16 hZ
  · replace hf := mj_neg c1 hf
    refine mj_aload_n 0 dX11_passes_7 rfl ?_
    refine mj_aload_n 1 dX11_passes_8 rfl ?_
    obtain ⟨o2, ho2, hf⟩ := mj_bd hf
    refine mj_callVd (I2 := (mj_rows I [(71, o2.2), (77, r77)])) (L2 := L) (s1 := [.int o2.1]) (st := []) [.ref 2001] (cmX11_isHere_71_2001 X.2.1 G F  _ _ r71 r77 rfl rfl o2 ho2) (mj_rr rfl) rfl cw_X11_57 s0_71 a0_71 (by decide) rfl rfl (Nat.le_of_ble_eq_true rfl) ⟨Nat.zero_le _, Nat.zero_le _⟩ dX11_passes_9 rfl ?_
    refine mj_if_ne 17 dX11_passes_12 (by decide) (fun c3 => ?_) (fun c3 => ?_)
    · replace hf := mj_neg c3 hf
      refine mj_aload_n 0 dX11_passes_17 rfl ?_
      refine mj_dup dX11_passes_18 rfl ?_
      refine mj_getIv (v := (o2.2 11)) rfl fl_X11_31 rfl s0_71 a0_71 dX11_passes_19 ?_
      refine mj_aload_n 1 dX11_passes_22 rfl ?_
      refine mj_callVs (i := 0) (I2 := (mj_rows I [(71, o2.2), (77, r77)])) (L2 := L) (s1 := [.int (4 : Int32), .int (o2.2 11), .ref 71]) (st := [.int (o2.2 11), .ref 71]) [] (cmJ0_length X.2.1 G 0 2001 rfl (by decide) _ _) rfl rfl cw_X11_44 rfl (by decide) (by decide) rfl rfl (Nat.le_of_ble_eq_true rfl) ⟨Nat.zero_le _, Nat.zero_le _⟩ dX11_passes_23 rfl ?_
      refine mj_iadd dX11_passes_26 ?_
      refine mj_putIr (ci := 9) (j := 11) [(71, (upd o2.2 11 ((o2.2 11) + (4 : Int32)))), (77, r77)] rfl ⟨rfl, rfl⟩ fl_X11_31 rfl rfl s0_71 a0_71 dX11_passes_27 ?_
      refine mj_iconst dX11_passes_30 kc_iconst_1 ?_
      obtain rfl := Option.some.inj hf
      have hZ := hq
      replace hZ := mj_u2p hZ
      exact mj_iret hR ⟨Nat.le_refl _, Nat.le_refl _⟩ rfl (by decide) dX11_passes_31 hZ
    · replace hf := mj_pos c3 hf
      refine mj_iconst dX11_passes_15 kc_iconst_0 ?_
      obtain rfl := Option.some.inj hf
      have hZ := hq
      replace hZ := mj_u2p hZ
      exact mj_iret hR ⟨Nat.le_refl _, Nat.le_refl _⟩ rfl (by decide) dX11_passes_16 hZ
set_option maxRecDepth 100000 in
set_option maxHeartbeats 4000000 in
theorem cmX11_passes_71_2001 (l : Launch) (G : mj_GT) (F : Nat) (I : mj_IT) (L : mj_LT) (r71 : Nat → Int32) (r77 : Nat → Int32) (hr71 : I 71 = r71) (hr77 : I 77 = r77) (o : ((Int32) × (Nat → Int32))) (hf : fnX11_passes_71_2001 F r71 r77 = some o) : mj_M l G yX11_passes cX11_passes 2 6 (some .boolean) 0 0 mj_P0 mj_S0 98 [.ref 71, .ref 2001] I L (mj_qd (some (.int o.1)) (mj_rows I [(71, o.2), (77, r77)]) L) := by
  refine mj_in RX11 "passes" [(0, .ref 71), (1, .ref 2001)] rfl rfl rfl (by decide) (Nat.le_of_ble_eq_true rfl) (fun X ad hR => ?_)
  refine mj_toI [(71, r71), (77, r77)] (by intro q hq; simp only [List.mem_cons, List.not_mem_nil, or_false] at hq; rcases hq with rfl | rfl <;> assumption) ?_
  refine mtX11_passes_71_2001 hR F I L r71 r77 o hf ?_
  obtain ⟨w0, w1⟩ := o
  refine mj_u2q ?_
  exact ⟨rfl, rfl, rfl⟩

-- X11_passes_71_2002
def fnX11_passes_71_2002 (F : Nat) (r71 : Nat → Int32) (r77 : Nat → Int32) : Option ((Int32) × (Nat → Int32)) := (if 0 < (r71 14) then some ((0 : Int32), r71) else (fnX11_isHere_71_2002 F r71 r77).bind (fun o2 => (if o2.1 = 0 then some ((0 : Int32), o2.2) else some ((1 : Int32), (upd o2.2 11 ((o2.2 11) + (4 : Int32)))))))
set_option maxRecDepth 100000 in
set_option maxHeartbeats 4000000 in
theorem mtX11_passes_71_2002 {X : mj_XT} {l : Launch} {G : mj_GT} {ad : Nat → Nat} {Qn : Option Value → mj_IT → mj_LT → Prop} (hR : mj_R X l G mj_P0 mj_S0 98 ad 0 0 Qn) (F : Nat) (I : mj_IT) (L : mj_LT) (r71 : Nat → Int32) (r77 : Nat → Int32) (o : ((Int32) × (Nat → Int32))) (hf : fnX11_passes_71_2002 F r71 r77 = some o) (hq : (mj_u2 (fun ov r71 => Qn (some (.int ov)) (mj_rows I [(71, r71), (77, r77)]) L)) o) : mj_W X G RX11 "passes" cX11_passes 2 6 (some .boolean) mj_P0 mj_S0 98 ad 0 0 0 [(0, .ref 71), (1, .ref 2002)] [] (mj_rows I [(71, r71), (77, r77)]) L := by
  unfold fnX11_passes_71_2002 at hf
  refine mj_aload_n 0 dX11_passes_0 rfl ?_
  refine mj_getIv (v := (r71 14)) rfl fl_X11_25 rfl s0_71 a0_71 dX11_passes_1 ?_
  refine mj_if_gt 15 dX11_passes_4 (by decide) (fun c1 => ?_) (fun c1 => ?_)
  · replace hf := mj_pos c1 hf
    refine mj_iconst dX11_passes_15 kc_iconst_0 ?_
    obtain rfl := Option.some.inj hf
    have hZ := hq
    replace hZ := mj_u2p hZ
    exact mj_iret hR ⟨Nat.le_refl _, Nat.le_refl _⟩ rfl (by decide) dX11_passes_16 hZ
  · replace hf := mj_neg c1 hf
    refine mj_aload_n 0 dX11_passes_7 rfl ?_
    refine mj_aload_n 1 dX11_passes_8 rfl ?_
    obtain ⟨o2, ho2, hf⟩ := mj_bd hf
    refine mj_callVd (I2 := (mj_rows I [(71, o2.2), (77, r77)])) (L2 := L) (s1 := [.int o2.1]) (st := []) [.ref 2002] (cmX11_isHere_71_2002 X.2.1 G F  _ _ r71 r77 rfl rfl o2 ho2) (mj_rr rfl) rfl cw_X11_57 s0_71 a0_71 (by decide) rfl rfl (Nat.le_of_ble_eq_true rfl) ⟨Nat.zero_le _, Nat.zero_le _⟩ dX11_passes_9 rfl ?_
    refine mj_if_ne 17 dX11_passes_12 (by decide) (fun c3 => ?_) (fun c3 => ?_)
    · replace hf := mj_neg c3 hf
      refine mj_aload_n 0 dX11_passes_17 rfl ?_
      refine mj_dup dX11_passes_18 rfl ?_
      refine mj_getIv (v := (o2.2 11)) rfl fl_X11_31 rfl s0_71 a0_71 dX11_passes_19 ?_
      refine mj_aload_n 1 dX11_passes_22 rfl ?_
      refine mj_callVs (i := 1) (I2 := (mj_rows I [(71, o2.2), (77, r77)])) (L2 := L) (s1 := [.int (4 : Int32), .int (o2.2 11), .ref 71]) (st := [.int (o2.2 11), .ref 71]) [] (cmJ0_length X.2.1 G 1 2002 rfl (by decide) _ _) rfl rfl cw_X11_44 rfl (by decide) (by decide) rfl rfl (Nat.le_of_ble_eq_true rfl) ⟨Nat.zero_le _, Nat.zero_le _⟩ dX11_passes_23 rfl ?_
      refine mj_iadd dX11_passes_26 ?_
      refine mj_putIr (ci := 9) (j := 11) [(71, (upd o2.2 11 ((o2.2 11) + (4 : Int32)))), (77, r77)] rfl ⟨rfl, rfl⟩ fl_X11_31 rfl rfl s0_71 a0_71 dX11_passes_27 ?_
      refine mj_iconst dX11_passes_30 kc_iconst_1 ?_
      obtain rfl := Option.some.inj hf
      have hZ := hq
      replace hZ := mj_u2p hZ
      exact mj_iret hR ⟨Nat.le_refl _, Nat.le_refl _⟩ rfl (by decide) dX11_passes_31 hZ
    · replace hf := mj_pos c3 hf
      refine mj_iconst dX11_passes_15 kc_iconst_0 ?_
      obtain rfl := Option.some.inj hf
      have hZ := hq
      replace hZ := mj_u2p hZ
      exact mj_iret hR ⟨Nat.le_refl _, Nat.le_refl _⟩ rfl (by decide) dX11_passes_16 hZ
set_option maxRecDepth 100000 in
set_option maxHeartbeats 4000000 in
theorem cmX11_passes_71_2002 (l : Launch) (G : mj_GT) (F : Nat) (I : mj_IT) (L : mj_LT) (r71 : Nat → Int32) (r77 : Nat → Int32) (hr71 : I 71 = r71) (hr77 : I 77 = r77) (o : ((Int32) × (Nat → Int32))) (hf : fnX11_passes_71_2002 F r71 r77 = some o) : mj_M l G yX11_passes cX11_passes 2 6 (some .boolean) 0 0 mj_P0 mj_S0 98 [.ref 71, .ref 2002] I L (mj_qd (some (.int o.1)) (mj_rows I [(71, o.2), (77, r77)]) L) := by
  refine mj_in RX11 "passes" [(0, .ref 71), (1, .ref 2002)] rfl rfl rfl (by decide) (Nat.le_of_ble_eq_true rfl) (fun X ad hR => ?_)
  refine mj_toI [(71, r71), (77, r77)] (by intro q hq; simp only [List.mem_cons, List.not_mem_nil, or_false] at hq; rcases hq with rfl | rfl <;> assumption) ?_
  refine mtX11_passes_71_2002 hR F I L r71 r77 o hf ?_
  obtain ⟨w0, w1⟩ := o
  refine mj_u2q ?_
  exact ⟨rfl, rfl, rfl⟩

-- X11_block
def jnX11_block_45 (rw : (Nat → Int32) → (Nat → Int32) → (Nat → Int32) → Int32 → Option ((Int32) × (Nat → Int32) × (Nat → Int32))) (F : Nat) (r77 : Nat → Int32) (x1 : Int32) (r71 : Nat → Int32) (r74 : Nat → Int32) : Option ((Int32) × (Nat → Int32) × (Nat → Int32)) := (fnX11_needs F r71 r77 (123 : Int32)).bind (fun o1 => (rw (upd o1 13 ((o1 13) + (1 : Int32))) r74 r77 x1).bind (fun o2 => (fnX11_needs F o2.2.1 r77 (125 : Int32)).bind (fun o3 => some (o2.1, (upd o3 13 ((o3 13) - (1 : Int32))), o2.2.2))))
def fnX11_block (rw : (Nat → Int32) → (Nat → Int32) → (Nat → Int32) → Int32 → Option ((Int32) × (Nat → Int32) × (Nat → Int32))) (F : Nat) (r71 : Nat → Int32) (r74 : Nat → Int32) (r77 : Nat → Int32) (x1 : Int32) : Option ((Int32) × (Nat → Int32) × (Nat → Int32)) := (if (r71 14) = 0 then (fnX11_sign F r71 r77).bind (fun o5 => (if o5.1 = (123 : Int32) then (if (o5.2 10) ≤ (o5.2 11) then jnX11_block_45 rw F r77 x1 o5.2 r74 else (if (o5.2 13) = (6 : Int32) then (fnX11_wrong F o5.2 (3 : Int32) (o5.2 11)).bind (fun o9 => jnX11_block_45 rw F r77 x1 o9 r74) else jnX11_block_45 rw F r77 x1 o5.2 r74)) else jnX11_block_45 rw F r77 x1 o5.2 r74)) else jnX11_block_45 rw F r77 x1 r71 r74)
set_option maxRecDepth 100000 in
set_option maxHeartbeats 4000000 in
theorem jtX11_block_45 {X : mj_XT} {l : Launch} {G : mj_GT} {ad : Nat → Nat} {Qn : Option Value → mj_IT → mj_LT → Prop} (hR : mj_R X l G mj_P0 mj_S0 98 ad 0 0 Qn) (rw : (Nat → Int32) → (Nat → Int32) → (Nat → Int32) → Int32 → Option ((Int32) × (Nat → Int32) × (Nat → Int32))) (dd : Nat) (hd0 : 12 ≤ dd) (hrw : ∀ (l : Launch) (x1 : Int32) (I : mj_IT) (L : mj_LT) (r71 : Nat → Int32) (r74 : Nat → Int32) (r77 : Nat → Int32) (_ : I 71 = r71) (_ : I 74 = r74) (_ : I 77 = r77) (o : ((Int32) × (Nat → Int32) × (Nat → Int32))), rw r71 r74 r77 x1 = some o → mj_M l G yX11_row cX11_row 5 dd (some .int) 0 0 mj_P0 mj_S0 98 [.ref 71, .int x1] I L (mj_qd (some (.int o.1)) (mj_rows I [(71, o.2.1), (74, o.2.2), (77, r77)]) L)) (F : Nat) (I : mj_IT) (L : mj_LT) (r71 : Nat → Int32) (r74 : Nat → Int32) (r77 : Nat → Int32) (x1 : Int32) (o : ((Int32) × (Nat → Int32) × (Nat → Int32))) (hf : jnX11_block_45 rw F r77 x1 r71 r74 = some o) (hq : (mj_u2 (fun ov => (mj_u2 (fun r71 r74 => Qn (some (.int ov)) (mj_rows I [(71, r71), (74, r74), (77, r77)]) L)))) o) : mj_W X G RX11 "block" cX11_block 3 (dd + 1) (some .int) mj_P0 mj_S0 98 ad 0 0 45 [(0, .ref 71), (1, .int x1)] [] (mj_rows I [(71, r71), (74, r74), (77, r77)]) L := by
  unfold jnX11_block_45 at hf
  refine mj_aload_n 0 dX11_block_45 rfl ?_
  refine mj_bipush dX11_block_46 kc_bipush_123 ?_
  obtain ⟨o1, ho1, hf⟩ := mj_bd hf
  refine mj_callVd (I2 := (mj_rows I [(71, o1), (74, r74), (77, r77)])) (L2 := L) (s1 := []) (st := []) [.int (123 : Int32)] (cmX11_needs X.2.1 G F (123 : Int32) _ _ r71 r77 rfl rfl o1 ho1) (mj_rr rfl) rfl cw_X11_134 s0_71 a0_71 (by omega) rfl rfl (Nat.le_of_ble_eq_true rfl) ⟨Nat.zero_le _, Nat.zero_le _⟩ dX11_block_48 rfl ?_
  refine mj_aload_n 0 dX11_block_51 rfl ?_
  refine mj_dup dX11_block_52 rfl ?_
  refine mj_getIv (v := (o1 13)) rfl fl_X11_131 rfl s0_71 a0_71 dX11_block_53 ?_
  refine mj_iconst dX11_block_56 kc_iconst_1 ?_
  refine mj_iadd dX11_block_57 ?_
  refine mj_putIr (ci := 9) (j := 13) [(71, (upd o1 13 ((o1 13) + (1 : Int32)))), (74, r74), (77, r77)] rfl ⟨rfl, rfl⟩ fl_X11_131 rfl rfl s0_71 a0_71 dX11_block_58 ?_
  refine mj_aload_n 0 dX11_block_61 rfl ?_
  refine mj_iload_n 1 dX11_block_62 rfl ?_
  obtain ⟨o2, ho2, hf⟩ := mj_bd hf
  refine mj_callVd (I2 := (mj_rows I [(71, o2.2.1), (74, o2.2.2), (77, r77)])) (L2 := L) (s1 := [.int o2.1]) (st := []) [.int x1] (hrw X.2.1 x1 _ _ (upd o1 13 ((o1 13) + (1 : Int32))) r74 r77 rfl rfl rfl o2 ho2) (mj_rr rfl) rfl cw_X11_137 s0_71 a0_71 (by omega) rfl rfl (Nat.le_of_ble_eq_true rfl) ⟨Nat.zero_le _, Nat.zero_le _⟩ dX11_block_63 rfl ?_
  refine mj_istore_n [(2, .int o2.1), (0, .ref 71), (1, .int x1)] dX11_block_66 rfl (by decide) rfl ?_
  refine mj_aload_n 1 dX11_block_67 rfl ?_
  refine mj_bipush dX11_block_68 kc_bipush_125 ?_
  obtain ⟨o3, ho3, hf⟩ := mj_bd hf
  refine mj_callVd (I2 := (mj_rows I [(71, o3), (74, o2.2.2), (77, r77)])) (L2 := L) (s1 := []) (st := []) [.int (125 : Int32)] (cmX11_needs X.2.1 G F (125 : Int32) _ _ o2.2.1 r77 rfl rfl o3 ho3) (mj_rr rfl) rfl cw_X11_134 s0_71 a0_71 (by omega) rfl rfl (Nat.le_of_ble_eq_true rfl) ⟨Nat.zero_le _, Nat.zero_le _⟩ dX11_block_70 rfl ?_
  refine mj_aload_n 1 dX11_block_73 rfl ?_
  refine mj_dup dX11_block_74 rfl ?_
  refine mj_getIv (v := (o3 13)) rfl fl_X11_131 rfl s0_71 a0_71 dX11_block_75 ?_
  refine mj_iconst dX11_block_78 kc_iconst_1 ?_
  refine mj_isub dX11_block_79 ?_
  refine mj_putIr (ci := 9) (j := 13) [(71, (upd o3 13 ((o3 13) - (1 : Int32)))), (74, o2.2.2), (77, r77)] rfl ⟨rfl, rfl⟩ fl_X11_131 rfl rfl s0_71 a0_71 dX11_block_80 ?_
  refine mj_iload_n 0 dX11_block_83 rfl ?_
  obtain rfl := Option.some.inj hf
  have hZ := hq
  replace hZ := mj_u2p hZ
  replace hZ := mj_u2p hZ
  exact mj_iret hR ⟨Nat.le_refl _, Nat.le_refl _⟩ rfl rfl dX11_block_84 hZ
set_option maxRecDepth 100000 in
set_option maxHeartbeats 4000000 in
theorem mtX11_block {X : mj_XT} {l : Launch} {G : mj_GT} {ad : Nat → Nat} {Qn : Option Value → mj_IT → mj_LT → Prop} (hR : mj_R X l G mj_P0 mj_S0 98 ad 0 0 Qn) (rw : (Nat → Int32) → (Nat → Int32) → (Nat → Int32) → Int32 → Option ((Int32) × (Nat → Int32) × (Nat → Int32))) (dd : Nat) (hd0 : 12 ≤ dd) (hrw : ∀ (l : Launch) (x1 : Int32) (I : mj_IT) (L : mj_LT) (r71 : Nat → Int32) (r74 : Nat → Int32) (r77 : Nat → Int32) (_ : I 71 = r71) (_ : I 74 = r74) (_ : I 77 = r77) (o : ((Int32) × (Nat → Int32) × (Nat → Int32))), rw r71 r74 r77 x1 = some o → mj_M l G yX11_row cX11_row 5 dd (some .int) 0 0 mj_P0 mj_S0 98 [.ref 71, .int x1] I L (mj_qd (some (.int o.1)) (mj_rows I [(71, o.2.1), (74, o.2.2), (77, r77)]) L)) (F : Nat) (I : mj_IT) (L : mj_LT) (r71 : Nat → Int32) (r74 : Nat → Int32) (r77 : Nat → Int32) (x1 : Int32) (o : ((Int32) × (Nat → Int32) × (Nat → Int32))) (hf : fnX11_block rw F r71 r74 r77 x1 = some o) (hq : (mj_u2 (fun ov => (mj_u2 (fun r71 r74 => Qn (some (.int ov)) (mj_rows I [(71, r71), (74, r74), (77, r77)]) L)))) o) : mj_W X G RX11 "block" cX11_block 3 (dd + 1) (some .int) mj_P0 mj_S0 98 ad 0 0 0 [(0, .ref 71), (1, .int x1)] [] (mj_rows I [(71, r71), (74, r74), (77, r77)]) L := by
  unfold fnX11_block at hf
  refine mj_aload_n 0 dX11_block_0 rfl ?_
  refine mj_getIv (v := (r71 14)) rfl fl_X11_25 rfl s0_71 a0_71 dX11_block_1 ?_
  refine mj_if_ne 45 dX11_block_4 (by decide) (fun c4 => ?_) (fun c4 => ?_)
  · replace hf := mj_neg c4 hf
    exact jtX11_block_45 hR rw dd hd0 hrw F I L r71 r74 r77 x1 o hf hq
  · replace hf := mj_pos c4 hf
    refine mj_aload_n 0 dX11_block_7 rfl ?_
    obtain ⟨o5, ho5, hf⟩ := mj_bd hf
    refine mj_callVd (I2 := (mj_rows I [(71, o5.2), (74, r74), (77, r77)])) (L2 := L) (s1 := [.int o5.1]) (st := []) [] (cmX11_sign X.2.1 G F  _ _ r71 r77 rfl rfl o5 ho5) (mj_rr rfl) rfl cw_X11_40 s0_71 a0_71 (by omega) rfl rfl (Nat.le_of_ble_eq_true rfl) ⟨Nat.zero_le _, Nat.zero_le _⟩ dX11_block_8 rfl ?_
    refine mj_bipush dX11_block_11 kc_bipush_123 ?_
    refine mj_icmp_ne 45 dX11_block_13 (by decide) (fun c6 => ?_) (fun c6 => ?_)
    · replace hf := mj_neg c6 hf
      exact jtX11_block_45 hR rw dd hd0 hrw F I L o5.2 r74 r77 x1 o hf hq
    · replace hf := mj_pos c6 hf
      refine mj_aload_n 0 dX11_block_16 rfl ?_
      refine mj_getIv (v := (o5.2 11)) rfl fl_X11_31 rfl s0_71 a0_71 dX11_block_17 ?_
      refine mj_aload_n 0 dX11_block_20 rfl ?_
      refine mj_getIv (v := (o5.2 10)) rfl fl_X11_34 rfl s0_71 a0_71 dX11_block_21 ?_
      refine mj_icmp_ge 45 dX11_block_24 (by decide) (fun c7 => ?_) (fun c7 => ?_)
      · replace hf := mj_pos c7 hf
        exact jtX11_block_45 hR rw dd hd0 hrw F I L o5.2 r74 r77 x1 o hf hq
      · replace hf := mj_neg c7 hf
        refine mj_aload_n 0 dX11_block_27 rfl ?_
        refine mj_getIv (v := (o5.2 13)) rfl fl_X11_131 rfl s0_71 a0_71 dX11_block_28 ?_
        refine mj_bipush dX11_block_31 kc_bipush_6 ?_
        refine mj_icmp_ne 45 dX11_block_33 (by decide) (fun c8 => ?_) (fun c8 => ?_)
        · replace hf := mj_neg c8 hf
          exact jtX11_block_45 hR rw dd hd0 hrw F I L o5.2 r74 r77 x1 o hf hq
        · replace hf := mj_pos c8 hf
          refine mj_aload_n 0 dX11_block_36 rfl ?_
          refine mj_iconst dX11_block_37 kc_iconst_3 ?_
          refine mj_aload_n 0 dX11_block_38 rfl ?_
          refine mj_getIv (v := (o5.2 11)) rfl fl_X11_31 rfl s0_71 a0_71 dX11_block_39 ?_
          obtain ⟨o9, ho9, hf⟩ := mj_bd hf
          refine mj_callVd (I2 := (mj_rows I [(71, o9), (74, r74), (77, r77)])) (L2 := L) (s1 := []) (st := []) [.int (3 : Int32), .int (o5.2 11)] (cmX11_wrong X.2.1 G F (3 : Int32) (o5.2 11) _ _ o5.2 rfl o9 ho9) (mj_rr rfl) rfl cw_X11_64 s0_71 a0_71 (by omega) rfl rfl (Nat.le_of_ble_eq_true rfl) ⟨Nat.zero_le _, Nat.zero_le _⟩ dX11_block_42 rfl ?_
          exact jtX11_block_45 hR rw dd hd0 hrw F I L o9 r74 r77 x1 o hf hq
set_option maxRecDepth 100000 in
set_option maxHeartbeats 4000000 in
theorem cmX11_block (l : Launch) (G : mj_GT) (rw : (Nat → Int32) → (Nat → Int32) → (Nat → Int32) → Int32 → Option ((Int32) × (Nat → Int32) × (Nat → Int32))) (dd : Nat) (hd0 : 12 ≤ dd) (hrw : ∀ (l : Launch) (x1 : Int32) (I : mj_IT) (L : mj_LT) (r71 : Nat → Int32) (r74 : Nat → Int32) (r77 : Nat → Int32) (_ : I 71 = r71) (_ : I 74 = r74) (_ : I 77 = r77) (o : ((Int32) × (Nat → Int32) × (Nat → Int32))), rw r71 r74 r77 x1 = some o → mj_M l G yX11_row cX11_row 5 dd (some .int) 0 0 mj_P0 mj_S0 98 [.ref 71, .int x1] I L (mj_qd (some (.int o.1)) (mj_rows I [(71, o.2.1), (74, o.2.2), (77, r77)]) L)) (F : Nat) (x1 : Int32) (I : mj_IT) (L : mj_LT) (r71 : Nat → Int32) (r74 : Nat → Int32) (r77 : Nat → Int32) (hr71 : I 71 = r71) (hr74 : I 74 = r74) (hr77 : I 77 = r77) (o : ((Int32) × (Nat → Int32) × (Nat → Int32))) (hf : fnX11_block rw F r71 r74 r77 x1 = some o) : mj_M l G yX11_block cX11_block 3 (dd + 1) (some .int) 0 0 mj_P0 mj_S0 98 [.ref 71, .int x1] I L (mj_qd (some (.int o.1)) (mj_rows I [(71, o.2.1), (74, o.2.2), (77, r77)]) L) := by
  refine mj_in RX11 "block" [(0, .ref 71), (1, .int x1)] rfl rfl rfl (by decide) (Nat.le_of_ble_eq_true rfl) (fun X ad hR => ?_)
  refine mj_toI [(71, r71), (74, r74), (77, r77)] (by intro q hq; simp only [List.mem_cons, List.not_mem_nil, or_false] at hq; rcases hq with rfl | rfl | rfl <;> assumption) ?_
  refine mtX11_block hR rw dd hd0 hrw F I L r71 r74 r77 x1 o hf ?_
  obtain ⟨w0, w1, w2⟩ := o
  refine mj_u2q ?_
  refine mj_u2q ?_
  exact ⟨rfl, rfl, rfl⟩

-- X11_isHere_71_2007
def bdX11_isHere_71_2007_7 (F : Nat) (r71 : Nat → Int32) (r77 : Nat → Int32) (x2 : Int32) : Option (((Int32)) ⊕ (Unit ⊕ Unit)) := (if (4 : Int32) ≤ x2 then some (.inr (.inl ())) else (fnX11_isSmall F r71 r77 ((r71 11) + x2)).bind (fun o3 => (if o3 = 0 then some (.inr (.inr ())) else (if mj_ib ((r71 11) + x2) 400 = true then (if mj_ib x2 4 = true then (if (r77 (((r71 11) + x2).toNatClampNeg)) = (mj_ch 6 x2.toNatClampNeg) then some (.inl (x2 + (1))) else some (.inr (.inr ()))) else none) else none))))
def fnX11_isHere_71_2007 (F : Nat) (r71 : Nat → Int32) (r77 : Nat → Int32) : Option ((Int32) × (Nat → Int32)) := (fnX11_sign F r71 r77).bind (fun o8 => (mj_it (bdX11_isHere_71_2007_7 F o8.2 r77) F (0 : Int32)).bind (Sum.elim (fun _ => (fnX11_isSmall F o8.2 r77 ((o8.2 11) + (4 : Int32))).bind (fun o11 => (if o11 = 0 then some ((1 : Int32), o8.2) else some ((0 : Int32), o8.2)))) (fun _ => some ((0 : Int32), o8.2))))
set_option maxRecDepth 100000 in
set_option maxHeartbeats 4000000 in
theorem lpX11_isHere_71_2007_7 {X : mj_XT} {l : Launch} {G : mj_GT} {ad : Nat → Nat} {Qn : Option Value → mj_IT → mj_LT → Prop} (hR : mj_R X l G mj_P0 mj_S0 98 ad 0 0 Qn) (F : Nat) (I : mj_IT) (L : mj_LT) (r71 : Nat → Int32) (r77 : Nat → Int32) : ∀ (n : Nat) (s : ((Int32))) (e : (Unit ⊕ Unit)), mj_it (bdX11_isHere_71_2007_7 F r71 r77) n s = some e → (Sum.elim (fun _ => mj_W X G RX11 "isHere" cX11_isHere 3 5 (some .boolean) mj_P0 mj_S0 98 ad 0 0 55 [(0, .ref 71), (1, .ref 2007)] [] (mj_rows I [(71, r71), (77, r77)]) L) (fun _ => mj_W X G RX11 "isHere" cX11_isHere 3 5 (some .boolean) mj_P0 mj_S0 98 ad 0 0 47 [] [] (mj_rows I [(71, r71), (77, r77)]) L)) e → (fun x2 => mj_W X G RX11 "isHere" cX11_isHere 3 5 (some .boolean) mj_P0 mj_S0 98 ad 0 0 7 [(0, .ref 71), (1, .ref 2007), (2, .int x2)] [] (mj_rows I [(71, r71), (77, r77)]) L) s := by
  refine mj_loop (fun x2 o hf hc hx => ?_)
  unfold bdX11_isHere_71_2007_7 at hf
  refine mj_iload_n 2 dX11_isHere_7 rfl ?_
  refine mj_aload_n 1 dX11_isHere_8 rfl ?_
  refine mj_callVs (i := 6) (I2 := (mj_rows I [(71, r71), (77, r77)])) (L2 := L) (s1 := [.int (4 : Int32), .int x2]) (st := [.int x2]) [] (cmJ0_length X.2.1 G 6 2007 rfl (by decide) _ _) rfl rfl cw_X11_44 rfl (by decide) (by decide) rfl rfl (Nat.le_of_ble_eq_true rfl) ⟨Nat.zero_le _, Nat.zero_le _⟩ dX11_isHere_9 rfl ?_
  refine mj_icmp_ge 55 dX11_isHere_12 (by decide) (fun c2 => ?_) (fun c2 => ?_)
  · replace hf := mj_pos c2 hf
    refine mj_sub [0, 1] [(0, .ref 71), (1, .ref 2007)] rfl ?_
    obtain rfl := Option.some.inj hf
    have hZ := hx (.inl ()) rfl
    replace hZ := mj_el hZ
    exact hZ
  · replace hf := mj_neg c2 hf
    refine mj_aload_n 0 dX11_isHere_15 rfl ?_
    refine mj_aload_n 0 dX11_isHere_16 rfl ?_
    refine mj_getIv (v := (r71 11)) rfl fl_X11_31 rfl s0_71 a0_71 dX11_isHere_17 ?_
    refine mj_iload_n 2 dX11_isHere_20 rfl ?_
    refine mj_iadd dX11_isHere_21 ?_
    obtain ⟨o3, ho3, hf⟩ := mj_bd hf
    refine mj_callVd (I2 := (mj_rows I [(71, r71), (77, r77)])) (L2 := L) (s1 := [.int o3]) (st := []) [.int ((r71 11) + x2)] (cmX11_isSmall X.2.1 G F ((r71 11) + x2) _ _ r71 r77 rfl rfl o3 ho3) (mj_rr rfl) rfl cw_X11_49 s0_71 a0_71 (by decide) rfl rfl (Nat.le_of_ble_eq_true rfl) ⟨Nat.zero_le _, Nat.zero_le _⟩ dX11_isHere_22 rfl ?_
    refine mj_if_eq 47 dX11_isHere_25 (by decide) (fun c4 => ?_) (fun c4 => ?_)
    · replace hf := mj_pos c4 hf
      refine mj_sub [] [] rfl ?_
      obtain rfl := Option.some.inj hf
      have hZ := hx (.inr ()) rfl
      replace hZ := mj_er hZ
      exact hZ
    · replace hf := mj_neg c4 hf
      refine mj_aload_n 0 dX11_isHere_28 rfl ?_
      refine mj_getP p0_71_8 (by decide) fl_X11_37 rfl s0_71 a0_71 dX11_isHere_29 ?_
      refine mj_aload_n 0 dX11_isHere_32 rfl ?_
      refine mj_getIv (v := (r71 11)) rfl fl_X11_31 rfl s0_71 a0_71 dX11_isHere_33 ?_
      refine mj_iload_n 2 dX11_isHere_36 rfl ?_
      refine mj_iadd dX11_isHere_37 ?_
      obtain ⟨z5, hf⟩ := mj_ck hf
      refine mj_baldv (x := r77) rfl s0_77 a0_77 z5 dX11_isHere_38 ?_
      refine mj_aload_n 1 dX11_isHere_39 rfl ?_
      refine mj_iload_n 2 dX11_isHere_40 rfl ?_
      obtain ⟨z6, hf⟩ := mj_ck hf
      refine mj_callVs (i := 6) (I2 := (mj_rows I [(71, r71), (77, r77)])) (L2 := L) (s1 := [.int (mj_ch 6 x2.toNatClampNeg), .int (r77 (((r71 11) + x2).toNatClampNeg))]) (st := [.int (r77 (((r71 11) + x2).toNatClampNeg))]) [.int x2] (cmJ0_charAt X.2.1 G 6 2007 rfl (by decide) x2 _ _ z6) rfl rfl cw_X11_53 rfl (by decide) (by decide) rfl rfl (Nat.le_of_ble_eq_true rfl) ⟨Nat.zero_le _, Nat.zero_le _⟩ dX11_isHere_41 rfl ?_
      refine mj_icmp_eq 49 dX11_isHere_44 (by decide) (fun c7 => ?_) (fun c7 => ?_)
      · replace hf := mj_pos c7 hf
        refine mj_iinc 2 [(2, .int (x2 + (1))), (0, .ref 71), (1, .ref 2007)] dX11_isHere_49 rfl (kz_1 _) (by decide) rfl ?_
        refine mj_goto 7 dX11_isHere_52 (by decide) ?_
        refine mj_sub [1, 2, 0] [(0, .ref 71), (1, .ref 2007), (2, .int (x2 + (1)))] rfl ?_
        obtain rfl := Option.some.inj hf
        have hZ := hc (x2 + (1)) rfl
        exact hZ
      · replace hf := mj_neg c7 hf
        refine mj_sub [] [] rfl ?_
        obtain rfl := Option.some.inj hf
        have hZ := hx (.inr ()) rfl
        replace hZ := mj_er hZ
        exact hZ
set_option maxRecDepth 100000 in
set_option maxHeartbeats 4000000 in
theorem mtX11_isHere_71_2007 {X : mj_XT} {l : Launch} {G : mj_GT} {ad : Nat → Nat} {Qn : Option Value → mj_IT → mj_LT → Prop} (hR : mj_R X l G mj_P0 mj_S0 98 ad 0 0 Qn) (F : Nat) (I : mj_IT) (L : mj_LT) (r71 : Nat → Int32) (r77 : Nat → Int32) (o : ((Int32) × (Nat → Int32))) (hf : fnX11_isHere_71_2007 F r71 r77 = some o) (hq : (mj_u2 (fun ov r71 => Qn (some (.int ov)) (mj_rows I [(71, r71), (77, r77)]) L)) o) : mj_W X G RX11 "isHere" cX11_isHere 3 5 (some .boolean) mj_P0 mj_S0 98 ad 0 0 0 [(0, .ref 71), (1, .ref 2007)] [] (mj_rows I [(71, r71), (77, r77)]) L := by
  unfold fnX11_isHere_71_2007 at hf
  refine mj_aload_n 0 dX11_isHere_0 rfl ?_
  obtain ⟨o8, ho8, hf⟩ := mj_bd hf
  refine mj_callVd (I2 := (mj_rows I [(71, o8.2), (77, r77)])) (L2 := L) (s1 := [.int o8.1]) (st := []) [] (cmX11_sign X.2.1 G F  _ _ r71 r77 rfl rfl o8 ho8) (mj_rr rfl) rfl cw_X11_40 s0_71 a0_71 (by decide) rfl rfl (Nat.le_of_ble_eq_true rfl) ⟨Nat.zero_le _, Nat.zero_le _⟩ dX11_isHere_1 rfl ?_
  refine mj_pop dX11_isHere_4 rfl ?_
  refine mj_iconst dX11_isHere_5 kc_iconst_0 ?_
  refine mj_istore_n [(2, .int (0 : Int32)), (0, .ref 71), (1, .ref 2007)] dX11_isHere_6 rfl (by decide) rfl ?_
  refine mj_sub [1, 2, 0] [(0, .ref 71), (1, .ref 2007), (2, .int (0 : Int32))] rfl ?_
  obtain ⟨e9, ho9, hf⟩ := mj_bd hf
  refine lpX11_isHere_71_2007_7 hR F I L o8.2 r77 F (0 : Int32) e9 ho9 ?_
  rcases e9 with e9 | e9
  · replace hf := mj_ele hf
    refine mj_elq (?_)
    refine mj_aload_n 0 dX11_isHere_55 rfl ?_
    refine mj_aload_n 0 dX11_isHere_56 rfl ?_
    refine mj_getIv (v := (o8.2 11)) rfl fl_X11_31 rfl s0_71 a0_71 dX11_isHere_57 ?_
    refine mj_aload_n 1 dX11_isHere_60 rfl ?_
    refine mj_callVs (i := 6) (I2 := (mj_rows I [(71, o8.2), (77, r77)])) (L2 := L) (s1 := [.int (4 : Int32), .int (o8.2 11), .ref 71]) (st := [.int (o8.2 11), .ref 71]) [] (cmJ0_length X.2.1 G 6 2007 rfl (by decide) _ _) rfl rfl cw_X11_44 rfl (by decide) (by decide) rfl rfl (Nat.le_of_ble_eq_true rfl) ⟨Nat.zero_le _, Nat.zero_le _⟩ dX11_isHere_61 rfl ?_
    refine mj_iadd dX11_isHere_64 ?_
    obtain ⟨o11, ho11, hf⟩ := mj_bd hf
    refine mj_callVd (I2 := (mj_rows I [(71, o8.2), (77, r77)])) (L2 := L) (s1 := [.int o11]) (st := []) [.int ((o8.2 11) + (4 : Int32))] (cmX11_isSmall X.2.1 G F ((o8.2 11) + (4 : Int32)) _ _ o8.2 r77 rfl rfl o11 ho11) (mj_rr rfl) rfl cw_X11_49 s0_71 a0_71 (by decide) rfl rfl (Nat.le_of_ble_eq_true rfl) ⟨Nat.zero_le _, Nat.zero_le _⟩ dX11_isHere_65 rfl ?_
    refine mj_if_ne 75 dX11_isHere_68 (by decide) (fun c12 => ?_) (fun c12 => ?_)
    · replace hf := mj_neg c12 hf
      refine mj_iconst dX11_isHere_75 kc_iconst_0 ?_
      obtain rfl := Option.some.inj hf
      have hZ := hq
      replace hZ := mj_u2p hZ
      exact mj_iret hR ⟨Nat.le_refl _, Nat.le_refl _⟩ rfl (by decide) dX11_isHere_76 hZ
    · replace hf := mj_pos c12 hf
      refine mj_iconst dX11_isHere_71 kc_iconst_1 ?_
      refine mj_goto 76 dX11_isHere_72 (by decide) ?_
      obtain rfl := Option.some.inj hf
      have hZ := hq
      replace hZ := mj_u2p hZ
      exact mj_iret hR ⟨Nat.le_refl _, Nat.le_refl _⟩ rfl (by decide) dX11_isHere_76 hZ
  · replace hf := mj_ere hf
    refine mj_erq (?_)
    refine mj_iconst dX11_isHere_47 kc_iconst_0 ?_
    obtain rfl := Option.some.inj hf
    have hZ := hq
    replace hZ := mj_u2p hZ
    exact mj_iret hR ⟨Nat.le_refl _, Nat.le_refl _⟩ rfl (by decide) dX11_isHere_48 hZ
set_option maxRecDepth 100000 in
set_option maxHeartbeats 4000000 in
theorem cmX11_isHere_71_2007 (l : Launch) (G : mj_GT) (F : Nat) (I : mj_IT) (L : mj_LT) (r71 : Nat → Int32) (r77 : Nat → Int32) (hr71 : I 71 = r71) (hr77 : I 77 = r77) (o : ((Int32) × (Nat → Int32))) (hf : fnX11_isHere_71_2007 F r71 r77 = some o) : mj_M l G yX11_isHere cX11_isHere 3 5 (some .boolean) 0 0 mj_P0 mj_S0 98 [.ref 71, .ref 2007] I L (mj_qd (some (.int o.1)) (mj_rows I [(71, o.2), (77, r77)]) L) := by
  refine mj_in RX11 "isHere" [(0, .ref 71), (1, .ref 2007)] rfl rfl rfl (by decide) (Nat.le_of_ble_eq_true rfl) (fun X ad hR => ?_)
  refine mj_toI [(71, r71), (77, r77)] (by intro q hq; simp only [List.mem_cons, List.not_mem_nil, or_false] at hq; rcases hq with rfl | rfl <;> assumption) ?_
  refine mtX11_isHere_71_2007 hR F I L r71 r77 o hf ?_
  obtain ⟨w0, w1⟩ := o
  refine mj_u2q ?_
  exact ⟨rfl, rfl, rfl⟩

-- X11_passes_71_2007
def fnX11_passes_71_2007 (F : Nat) (r71 : Nat → Int32) (r77 : Nat → Int32) : Option ((Int32) × (Nat → Int32)) := (if 0 < (r71 14) then some ((0 : Int32), r71) else (fnX11_isHere_71_2007 F r71 r77).bind (fun o2 => (if o2.1 = 0 then some ((0 : Int32), o2.2) else some ((1 : Int32), (upd o2.2 11 ((o2.2 11) + (4 : Int32)))))))
set_option maxRecDepth 100000 in
set_option maxHeartbeats 4000000 in
theorem mtX11_passes_71_2007 {X : mj_XT} {l : Launch} {G : mj_GT} {ad : Nat → Nat} {Qn : Option Value → mj_IT → mj_LT → Prop} (hR : mj_R X l G mj_P0 mj_S0 98 ad 0 0 Qn) (F : Nat) (I : mj_IT) (L : mj_LT) (r71 : Nat → Int32) (r77 : Nat → Int32) (o : ((Int32) × (Nat → Int32))) (hf : fnX11_passes_71_2007 F r71 r77 = some o) (hq : (mj_u2 (fun ov r71 => Qn (some (.int ov)) (mj_rows I [(71, r71), (77, r77)]) L)) o) : mj_W X G RX11 "passes" cX11_passes 2 6 (some .boolean) mj_P0 mj_S0 98 ad 0 0 0 [(0, .ref 71), (1, .ref 2007)] [] (mj_rows I [(71, r71), (77, r77)]) L := by
  unfold fnX11_passes_71_2007 at hf
  refine mj_aload_n 0 dX11_passes_0 rfl ?_
  refine mj_getIv (v := (r71 14)) rfl fl_X11_25 rfl s0_71 a0_71 dX11_passes_1 ?_
  refine mj_if_gt 15 dX11_passes_4 (by decide) (fun c1 => ?_) (fun c1 => ?_)
  · replace hf := mj_pos c1 hf
    refine mj_iconst dX11_passes_15 kc_iconst_0 ?_
    obtain rfl := Option.some.inj hf
    have hZ := hq
    replace hZ := mj_u2p hZ
    exact mj_iret hR ⟨Nat.le_refl _, Nat.le_refl _⟩ rfl (by decide) dX11_passes_16 hZ
  · replace hf := mj_neg c1 hf
    refine mj_aload_n 0 dX11_passes_7 rfl ?_
    refine mj_aload_n 1 dX11_passes_8 rfl ?_
    obtain ⟨o2, ho2, hf⟩ := mj_bd hf
    refine mj_callVd (I2 := (mj_rows I [(71, o2.2), (77, r77)])) (L2 := L) (s1 := [.int o2.1]) (st := []) [.ref 2007] (cmX11_isHere_71_2007 X.2.1 G F  _ _ r71 r77 rfl rfl o2 ho2) (mj_rr rfl) rfl cw_X11_57 s0_71 a0_71 (by decide) rfl rfl (Nat.le_of_ble_eq_true rfl) ⟨Nat.zero_le _, Nat.zero_le _⟩ dX11_passes_9 rfl ?_
    refine mj_if_ne 17 dX11_passes_12 (by decide) (fun c3 => ?_) (fun c3 => ?_)
    · replace hf := mj_neg c3 hf
      refine mj_aload_n 0 dX11_passes_17 rfl ?_
      refine mj_dup dX11_passes_18 rfl ?_
      refine mj_getIv (v := (o2.2 11)) rfl fl_X11_31 rfl s0_71 a0_71 dX11_passes_19 ?_
      refine mj_aload_n 1 dX11_passes_22 rfl ?_
      refine mj_callVs (i := 6) (I2 := (mj_rows I [(71, o2.2), (77, r77)])) (L2 := L) (s1 := [.int (4 : Int32), .int (o2.2 11), .ref 71]) (st := [.int (o2.2 11), .ref 71]) [] (cmJ0_length X.2.1 G 6 2007 rfl (by decide) _ _) rfl rfl cw_X11_44 rfl (by decide) (by decide) rfl rfl (Nat.le_of_ble_eq_true rfl) ⟨Nat.zero_le _, Nat.zero_le _⟩ dX11_passes_23 rfl ?_
      refine mj_iadd dX11_passes_26 ?_
      refine mj_putIr (ci := 9) (j := 11) [(71, (upd o2.2 11 ((o2.2 11) + (4 : Int32)))), (77, r77)] rfl ⟨rfl, rfl⟩ fl_X11_31 rfl rfl s0_71 a0_71 dX11_passes_27 ?_
      refine mj_iconst dX11_passes_30 kc_iconst_1 ?_
      obtain rfl := Option.some.inj hf
      have hZ := hq
      replace hZ := mj_u2p hZ
      exact mj_iret hR ⟨Nat.le_refl _, Nat.le_refl _⟩ rfl (by decide) dX11_passes_31 hZ
    · replace hf := mj_pos c3 hf
      refine mj_iconst dX11_passes_15 kc_iconst_0 ?_
      obtain rfl := Option.some.inj hf
      have hZ := hq
      replace hZ := mj_u2p hZ
      exact mj_iret hR ⟨Nat.le_refl _, Nat.le_refl _⟩ rfl (by decide) dX11_passes_16 hZ
set_option maxRecDepth 100000 in
set_option maxHeartbeats 4000000 in
theorem cmX11_passes_71_2007 (l : Launch) (G : mj_GT) (F : Nat) (I : mj_IT) (L : mj_LT) (r71 : Nat → Int32) (r77 : Nat → Int32) (hr71 : I 71 = r71) (hr77 : I 77 = r77) (o : ((Int32) × (Nat → Int32))) (hf : fnX11_passes_71_2007 F r71 r77 = some o) : mj_M l G yX11_passes cX11_passes 2 6 (some .boolean) 0 0 mj_P0 mj_S0 98 [.ref 71, .ref 2007] I L (mj_qd (some (.int o.1)) (mj_rows I [(71, o.2), (77, r77)]) L) := by
  refine mj_in RX11 "passes" [(0, .ref 71), (1, .ref 2007)] rfl rfl rfl (by decide) (Nat.le_of_ble_eq_true rfl) (fun X ad hR => ?_)
  refine mj_toI [(71, r71), (77, r77)] (by intro q hq; simp only [List.mem_cons, List.not_mem_nil, or_false] at hq; rcases hq with rfl | rfl <;> assumption) ?_
  refine mtX11_passes_71_2007 hR F I L r71 r77 o hf ?_
  obtain ⟨w0, w1⟩ := o
  refine mj_u2q ?_
  exact ⟨rfl, rfl, rfl⟩

-- X11_forks
def fnX11_forks (rw : (Nat → Int32) → (Nat → Int32) → (Nat → Int32) → Int32 → Option ((Int32) × (Nat → Int32) × (Nat → Int32))) (F : Nat) (r71 : Nat → Int32) (r74 : Nat → Int32) (r77 : Nat → Int32) (x1 : Int32) : Option ((Nat → Int32) × (Nat → Int32)) := (fnX11_behind F x1).bind (fun o1 => (if mj_ib (((12 : Int32) * x1) + (4 : Int32)) 480 = true then (fnX11_behind F x1).bind (fun o3 => (fnX11_block rw F r71 (upd r74 ((((12 : Int32) * x1) + (4 : Int32)).toNatClampNeg) o1) r77 o3).bind (fun o4 => (if mj_ib (((12 : Int32) * x1) + (3 : Int32)) 480 = true then (fnX11_passes_71_2007 F o4.2.1 r77).bind (fun o6 => (if o6.1 = 0 then some (o6.2, (upd o4.2.2 ((((12 : Int32) * x1) + (3 : Int32)).toNatClampNeg) o4.1)) else (fnX11_behind F x1).bind (fun o8 => (fnX11_block rw F o6.2 (upd o4.2.2 ((((12 : Int32) * x1) + (3 : Int32)).toNatClampNeg) o4.1) r77 o8).bind (fun o9 => (if mj_ib (((12 : Int32) * x1) + (4 : Int32)) 480 = true then some (o9.2.1, (upd o9.2.2 ((((12 : Int32) * x1) + (4 : Int32)).toNatClampNeg) o9.1)) else none))))) else none))) else none))
set_option maxRecDepth 100000 in
set_option maxHeartbeats 4000000 in
theorem mtX11_forks {X : mj_XT} {l : Launch} {G : mj_GT} {ad : Nat → Nat} {Qn : Option Value → mj_IT → mj_LT → Prop} (hR : mj_R X l G mj_P0 mj_S0 98 ad 0 0 Qn) (rw : (Nat → Int32) → (Nat → Int32) → (Nat → Int32) → Int32 → Option ((Int32) × (Nat → Int32) × (Nat → Int32))) (dd : Nat) (hd0 : 12 ≤ dd) (hrw : ∀ (l : Launch) (x1 : Int32) (I : mj_IT) (L : mj_LT) (r71 : Nat → Int32) (r74 : Nat → Int32) (r77 : Nat → Int32) (_ : I 71 = r71) (_ : I 74 = r74) (_ : I 77 = r77) (o : ((Int32) × (Nat → Int32) × (Nat → Int32))), rw r71 r74 r77 x1 = some o → mj_M l G yX11_row cX11_row 5 dd (some .int) 0 0 mj_P0 mj_S0 98 [.ref 71, .int x1] I L (mj_qd (some (.int o.1)) (mj_rows I [(71, o.2.1), (74, o.2.2), (77, r77)]) L)) (F : Nat) (I : mj_IT) (L : mj_LT) (r71 : Nat → Int32) (r74 : Nat → Int32) (r77 : Nat → Int32) (x1 : Int32) (o : ((Nat → Int32) × (Nat → Int32))) (hf : fnX11_forks rw F r71 r74 r77 x1 = some o) (hq : (mj_u2 (fun r71 r74 => Qn none (mj_rows I [(71, r71), (74, r74), (77, r77)]) L)) o) : mj_W X G RX11 "forks" cX11_forks 4 (dd + 2) none mj_P0 mj_S0 98 ad 0 0 0 [(0, .ref 71), (1, .int x1)] [] (mj_rows I [(71, r71), (74, r74), (77, r77)]) L := by
  unfold fnX11_forks at hf
  refine mj_aload_n 0 dX11_forks_0 rfl ?_
  refine mj_getP p0_71_3 (by decide) fl_X11_95 rfl s0_71 a0_71 dX11_forks_1 ?_
  refine mj_bipush dX11_forks_4 kc_bipush_12 ?_
  refine mj_iload_n 1 dX11_forks_6 rfl ?_
  refine mj_imul dX11_forks_7 ?_
  refine mj_iconst dX11_forks_8 kc_iconst_4 ?_
  refine mj_iadd dX11_forks_9 ?_
  refine mj_aload_n 0 dX11_forks_10 rfl ?_
  refine mj_iload_n 1 dX11_forks_11 rfl ?_
  obtain ⟨o1, ho1, hf⟩ := mj_bd hf
  refine mj_callVd (I2 := (mj_rows I [(71, r71), (74, r74), (77, r77)])) (L2 := L) (s1 := [.int o1, .int (((12 : Int32) * x1) + (4 : Int32)), .ref 74]) (st := [.int (((12 : Int32) * x1) + (4 : Int32)), .ref 74]) [.int x1] (cmX11_behind X.2.1 G F x1 _ _   o1 ho1) rfl rfl cw_X11_128 s0_71 a0_71 (by omega) rfl rfl (Nat.le_of_ble_eq_true rfl) ⟨Nat.zero_le _, Nat.zero_le _⟩ dX11_forks_12 rfl ?_
  obtain ⟨z2, hf⟩ := mj_ck hf
  refine mj_iastr [(71, r71), (74, (upd r74 ((((12 : Int32) * x1) + (4 : Int32)).toNatClampNeg) o1)), (77, r77)] rfl s0_74 a0_74 z2 dX11_forks_15 ?_
  refine mj_aload_n 0 dX11_forks_16 rfl ?_
  refine mj_aload_n 0 dX11_forks_17 rfl ?_
  refine mj_iload_n 1 dX11_forks_18 rfl ?_
  obtain ⟨o3, ho3, hf⟩ := mj_bd hf
  refine mj_callVd (I2 := (mj_rows I [(71, r71), (74, (upd r74 ((((12 : Int32) * x1) + (4 : Int32)).toNatClampNeg) o1)), (77, r77)])) (L2 := L) (s1 := [.int o3, .ref 71]) (st := [.ref 71]) [.int x1] (cmX11_behind X.2.1 G F x1 _ _   o3 ho3) rfl rfl cw_X11_128 s0_71 a0_71 (by omega) rfl rfl (Nat.le_of_ble_eq_true rfl) ⟨Nat.zero_le _, Nat.zero_le _⟩ dX11_forks_19 rfl ?_
  obtain ⟨o4, ho4, hf⟩ := mj_bd hf
  refine mj_callVd (I2 := (mj_rows I [(71, o4.2.1), (74, o4.2.2), (77, r77)])) (L2 := L) (s1 := [.int o4.1]) (st := []) [.int o3] (cmX11_block X.2.1 G rw dd hd0 hrw F o3 _ _ r71 (upd r74 ((((12 : Int32) * x1) + (4 : Int32)).toNatClampNeg) o1) r77 rfl rfl rfl o4 ho4) (mj_rr rfl) rfl cw_X11_152 s0_71 a0_71 (by omega) rfl rfl (Nat.le_of_ble_eq_true rfl) ⟨Nat.zero_le _, Nat.zero_le _⟩ dX11_forks_22 rfl ?_
  refine mj_istore_n [(2, .int o4.1), (0, .ref 71), (1, .int x1)] dX11_forks_25 rfl (by decide) rfl ?_
  refine mj_aload_n 1 dX11_forks_26 rfl ?_
  refine mj_getP p0_71_3 (by decide) fl_X11_95 rfl s0_71 a0_71 dX11_forks_27 ?_
  refine mj_bipush dX11_forks_30 kc_bipush_12 ?_
  refine mj_iload_n 2 dX11_forks_32 rfl ?_
  refine mj_imul dX11_forks_33 ?_
  refine mj_iconst dX11_forks_34 kc_iconst_3 ?_
  refine mj_iadd dX11_forks_35 ?_
  refine mj_iload_n 0 dX11_forks_36 rfl ?_
  obtain ⟨z5, hf⟩ := mj_ck hf
  refine mj_iastr [(71, o4.2.1), (74, (upd o4.2.2 ((((12 : Int32) * x1) + (3 : Int32)).toNatClampNeg) o4.1)), (77, r77)] rfl s0_74 a0_74 z5 dX11_forks_37 ?_
  refine mj_aload_n 1 dX11_forks_38 rfl ?_
  refine mj_ldcS (b := 2007) (List.mem_of_getElem? (i := 13) rfl) rfl dX11_forks_39 ?_
  obtain ⟨o6, ho6, hf⟩ := mj_bd hf
  refine mj_callVd (I2 := (mj_rows I [(71, o6.2), (74, (upd o4.2.2 ((((12 : Int32) * x1) + (3 : Int32)).toNatClampNeg) o4.1)), (77, r77)])) (L2 := L) (s1 := [.int o6.1]) (st := []) [.ref 2007] (cmX11_passes_71_2007 X.2.1 G F  _ _ o4.2.1 r77 rfl rfl o6 ho6) (mj_rr rfl) rfl cw_X11_140 s0_71 a0_71 (by omega) rfl rfl (Nat.le_of_ble_eq_true rfl) ⟨Nat.zero_le _, Nat.zero_le _⟩ dX11_forks_41 rfl ?_
  refine mj_if_ne 48 dX11_forks_44 (by decide) (fun c7 => ?_) (fun c7 => ?_)
  · replace hf := mj_neg c7 hf
    refine mj_aload_n 1 dX11_forks_48 rfl ?_
    refine mj_aload_n 1 dX11_forks_49 rfl ?_
    refine mj_iload_n 2 dX11_forks_50 rfl ?_
    obtain ⟨o8, ho8, hf⟩ := mj_bd hf
    refine mj_callVd (I2 := (mj_rows I [(71, o6.2), (74, (upd o4.2.2 ((((12 : Int32) * x1) + (3 : Int32)).toNatClampNeg) o4.1)), (77, r77)])) (L2 := L) (s1 := [.int o8, .ref 71]) (st := [.ref 71]) [.int x1] (cmX11_behind X.2.1 G F x1 _ _   o8 ho8) rfl rfl cw_X11_128 s0_71 a0_71 (by omega) rfl rfl (Nat.le_of_ble_eq_true rfl) ⟨Nat.zero_le _, Nat.zero_le _⟩ dX11_forks_51 rfl ?_
    obtain ⟨o9, ho9, hf⟩ := mj_bd hf
    refine mj_callVd (I2 := (mj_rows I [(71, o9.2.1), (74, o9.2.2), (77, r77)])) (L2 := L) (s1 := [.int o9.1]) (st := []) [.int o8] (cmX11_block X.2.1 G rw dd hd0 hrw F o8 _ _ o6.2 (upd o4.2.2 ((((12 : Int32) * x1) + (3 : Int32)).toNatClampNeg) o4.1) r77 rfl rfl rfl o9 ho9) (mj_rr rfl) rfl cw_X11_152 s0_71 a0_71 (by omega) rfl rfl (Nat.le_of_ble_eq_true rfl) ⟨Nat.zero_le _, Nat.zero_le _⟩ dX11_forks_54 rfl ?_
    refine mj_istore_n [(3, .int o9.1), (2, .int o4.1), (0, .ref 71), (1, .int x1)] dX11_forks_57 rfl (by decide) rfl ?_
    refine mj_aload_n 2 dX11_forks_58 rfl ?_
    refine mj_getP p0_71_3 (by decide) fl_X11_95 rfl s0_71 a0_71 dX11_forks_59 ?_
    refine mj_bipush dX11_forks_62 kc_bipush_12 ?_
    refine mj_iload_n 3 dX11_forks_64 rfl ?_
    refine mj_imul dX11_forks_65 ?_
    refine mj_iconst dX11_forks_66 kc_iconst_4 ?_
    refine mj_iadd dX11_forks_67 ?_
    refine mj_iload_n 0 dX11_forks_68 rfl ?_
    obtain ⟨z10, hf⟩ := mj_ck hf
    refine mj_iastr [(71, o9.2.1), (74, (upd o9.2.2 ((((12 : Int32) * x1) + (4 : Int32)).toNatClampNeg) o9.1)), (77, r77)] rfl s0_74 a0_74 z10 dX11_forks_69 ?_
    obtain rfl := Option.some.inj hf
    have hZ := hq
    replace hZ := mj_u2p hZ
    exact mj_vret hR ⟨Nat.le_refl _, Nat.le_refl _⟩ rfl dX11_forks_70 hZ
  · replace hf := mj_pos c7 hf
    obtain rfl := Option.some.inj hf
    have hZ := hq
    replace hZ := mj_u2p hZ
    exact mj_vret hR ⟨Nat.le_refl _, Nat.le_refl _⟩ rfl dX11_forks_47 hZ
set_option maxRecDepth 100000 in
set_option maxHeartbeats 4000000 in
theorem cmX11_forks (l : Launch) (G : mj_GT) (rw : (Nat → Int32) → (Nat → Int32) → (Nat → Int32) → Int32 → Option ((Int32) × (Nat → Int32) × (Nat → Int32))) (dd : Nat) (hd0 : 12 ≤ dd) (hrw : ∀ (l : Launch) (x1 : Int32) (I : mj_IT) (L : mj_LT) (r71 : Nat → Int32) (r74 : Nat → Int32) (r77 : Nat → Int32) (_ : I 71 = r71) (_ : I 74 = r74) (_ : I 77 = r77) (o : ((Int32) × (Nat → Int32) × (Nat → Int32))), rw r71 r74 r77 x1 = some o → mj_M l G yX11_row cX11_row 5 dd (some .int) 0 0 mj_P0 mj_S0 98 [.ref 71, .int x1] I L (mj_qd (some (.int o.1)) (mj_rows I [(71, o.2.1), (74, o.2.2), (77, r77)]) L)) (F : Nat) (x1 : Int32) (I : mj_IT) (L : mj_LT) (r71 : Nat → Int32) (r74 : Nat → Int32) (r77 : Nat → Int32) (hr71 : I 71 = r71) (hr74 : I 74 = r74) (hr77 : I 77 = r77) (o : ((Nat → Int32) × (Nat → Int32))) (hf : fnX11_forks rw F r71 r74 r77 x1 = some o) : mj_M l G yX11_forks cX11_forks 4 (dd + 2) none 0 0 mj_P0 mj_S0 98 [.ref 71, .int x1] I L (mj_qd none (mj_rows I [(71, o.1), (74, o.2), (77, r77)]) L) := by
  refine mj_in RX11 "forks" [(0, .ref 71), (1, .int x1)] rfl rfl rfl (by decide) (Nat.le_of_ble_eq_true rfl) (fun X ad hR => ?_)
  refine mj_toI [(71, r71), (74, r74), (77, r77)] (by intro q hq; simp only [List.mem_cons, List.not_mem_nil, or_false] at hq; rcases hq with rfl | rfl | rfl <;> assumption) ?_
  refine mtX11_forks hR rw dd hd0 hrw F I L r71 r74 r77 x1 o hf ?_
  obtain ⟨w0, w1⟩ := o
  refine mj_u2q ?_
  exact ⟨rfl, rfl, rfl⟩

-- X11_passes_71_2003
def fnX11_passes_71_2003 (F : Nat) (r71 : Nat → Int32) (r77 : Nat → Int32) : Option ((Int32) × (Nat → Int32)) := (if 0 < (r71 14) then some ((0 : Int32), r71) else (fnX11_isHere_71_2003 F r71 r77).bind (fun o2 => (if o2.1 = 0 then some ((0 : Int32), o2.2) else some ((1 : Int32), (upd o2.2 11 ((o2.2 11) + (2 : Int32)))))))
set_option maxRecDepth 100000 in
set_option maxHeartbeats 4000000 in
theorem mtX11_passes_71_2003 {X : mj_XT} {l : Launch} {G : mj_GT} {ad : Nat → Nat} {Qn : Option Value → mj_IT → mj_LT → Prop} (hR : mj_R X l G mj_P0 mj_S0 98 ad 0 0 Qn) (F : Nat) (I : mj_IT) (L : mj_LT) (r71 : Nat → Int32) (r77 : Nat → Int32) (o : ((Int32) × (Nat → Int32))) (hf : fnX11_passes_71_2003 F r71 r77 = some o) (hq : (mj_u2 (fun ov r71 => Qn (some (.int ov)) (mj_rows I [(71, r71), (77, r77)]) L)) o) : mj_W X G RX11 "passes" cX11_passes 2 6 (some .boolean) mj_P0 mj_S0 98 ad 0 0 0 [(0, .ref 71), (1, .ref 2003)] [] (mj_rows I [(71, r71), (77, r77)]) L := by
  unfold fnX11_passes_71_2003 at hf
  refine mj_aload_n 0 dX11_passes_0 rfl ?_
  refine mj_getIv (v := (r71 14)) rfl fl_X11_25 rfl s0_71 a0_71 dX11_passes_1 ?_
  refine mj_if_gt 15 dX11_passes_4 (by decide) (fun c1 => ?_) (fun c1 => ?_)
  · replace hf := mj_pos c1 hf
    refine mj_iconst dX11_passes_15 kc_iconst_0 ?_
    obtain rfl := Option.some.inj hf
    have hZ := hq
    replace hZ := mj_u2p hZ
    exact mj_iret hR ⟨Nat.le_refl _, Nat.le_refl _⟩ rfl (by decide) dX11_passes_16 hZ
  · replace hf := mj_neg c1 hf
    refine mj_aload_n 0 dX11_passes_7 rfl ?_
    refine mj_aload_n 1 dX11_passes_8 rfl ?_
    obtain ⟨o2, ho2, hf⟩ := mj_bd hf
    refine mj_callVd (I2 := (mj_rows I [(71, o2.2), (77, r77)])) (L2 := L) (s1 := [.int o2.1]) (st := []) [.ref 2003] (cmX11_isHere_71_2003 X.2.1 G F  _ _ r71 r77 rfl rfl o2 ho2) (mj_rr rfl) rfl cw_X11_57 s0_71 a0_71 (by decide) rfl rfl (Nat.le_of_ble_eq_true rfl) ⟨Nat.zero_le _, Nat.zero_le _⟩ dX11_passes_9 rfl ?_
    refine mj_if_ne 17 dX11_passes_12 (by decide) (fun c3 => ?_) (fun c3 => ?_)
    · replace hf := mj_neg c3 hf
      refine mj_aload_n 0 dX11_passes_17 rfl ?_
      refine mj_dup dX11_passes_18 rfl ?_
      refine mj_getIv (v := (o2.2 11)) rfl fl_X11_31 rfl s0_71 a0_71 dX11_passes_19 ?_
      refine mj_aload_n 1 dX11_passes_22 rfl ?_
      refine mj_callVs (i := 2) (I2 := (mj_rows I [(71, o2.2), (77, r77)])) (L2 := L) (s1 := [.int (2 : Int32), .int (o2.2 11), .ref 71]) (st := [.int (o2.2 11), .ref 71]) [] (cmJ0_length X.2.1 G 2 2003 rfl (by decide) _ _) rfl rfl cw_X11_44 rfl (by decide) (by decide) rfl rfl (Nat.le_of_ble_eq_true rfl) ⟨Nat.zero_le _, Nat.zero_le _⟩ dX11_passes_23 rfl ?_
      refine mj_iadd dX11_passes_26 ?_
      refine mj_putIr (ci := 9) (j := 11) [(71, (upd o2.2 11 ((o2.2 11) + (2 : Int32)))), (77, r77)] rfl ⟨rfl, rfl⟩ fl_X11_31 rfl rfl s0_71 a0_71 dX11_passes_27 ?_
      refine mj_iconst dX11_passes_30 kc_iconst_1 ?_
      obtain rfl := Option.some.inj hf
      have hZ := hq
      replace hZ := mj_u2p hZ
      exact mj_iret hR ⟨Nat.le_refl _, Nat.le_refl _⟩ rfl (by decide) dX11_passes_31 hZ
    · replace hf := mj_pos c3 hf
      refine mj_iconst dX11_passes_15 kc_iconst_0 ?_
      obtain rfl := Option.some.inj hf
      have hZ := hq
      replace hZ := mj_u2p hZ
      exact mj_iret hR ⟨Nat.le_refl _, Nat.le_refl _⟩ rfl (by decide) dX11_passes_16 hZ
set_option maxRecDepth 100000 in
set_option maxHeartbeats 4000000 in
theorem cmX11_passes_71_2003 (l : Launch) (G : mj_GT) (F : Nat) (I : mj_IT) (L : mj_LT) (r71 : Nat → Int32) (r77 : Nat → Int32) (hr71 : I 71 = r71) (hr77 : I 77 = r77) (o : ((Int32) × (Nat → Int32))) (hf : fnX11_passes_71_2003 F r71 r77 = some o) : mj_M l G yX11_passes cX11_passes 2 6 (some .boolean) 0 0 mj_P0 mj_S0 98 [.ref 71, .ref 2003] I L (mj_qd (some (.int o.1)) (mj_rows I [(71, o.2), (77, r77)]) L) := by
  refine mj_in RX11 "passes" [(0, .ref 71), (1, .ref 2003)] rfl rfl rfl (by decide) (Nat.le_of_ble_eq_true rfl) (fun X ad hR => ?_)
  refine mj_toI [(71, r71), (77, r77)] (by intro q hq; simp only [List.mem_cons, List.not_mem_nil, or_false] at hq; rcases hq with rfl | rfl <;> assumption) ?_
  refine mtX11_passes_71_2003 hR F I L r71 r77 o hf ?_
  obtain ⟨w0, w1⟩ := o
  refine mj_u2q ?_
  exact ⟨rfl, rfl, rfl⟩

-- X11_passes_71_2004
def fnX11_passes_71_2004 (F : Nat) (r71 : Nat → Int32) (r77 : Nat → Int32) : Option ((Int32) × (Nat → Int32)) := (if 0 < (r71 14) then some ((0 : Int32), r71) else (fnX11_isHere_71_2004 F r71 r77).bind (fun o2 => (if o2.1 = 0 then some ((0 : Int32), o2.2) else some ((1 : Int32), (upd o2.2 11 ((o2.2 11) + (5 : Int32)))))))
set_option maxRecDepth 100000 in
set_option maxHeartbeats 4000000 in
theorem mtX11_passes_71_2004 {X : mj_XT} {l : Launch} {G : mj_GT} {ad : Nat → Nat} {Qn : Option Value → mj_IT → mj_LT → Prop} (hR : mj_R X l G mj_P0 mj_S0 98 ad 0 0 Qn) (F : Nat) (I : mj_IT) (L : mj_LT) (r71 : Nat → Int32) (r77 : Nat → Int32) (o : ((Int32) × (Nat → Int32))) (hf : fnX11_passes_71_2004 F r71 r77 = some o) (hq : (mj_u2 (fun ov r71 => Qn (some (.int ov)) (mj_rows I [(71, r71), (77, r77)]) L)) o) : mj_W X G RX11 "passes" cX11_passes 2 6 (some .boolean) mj_P0 mj_S0 98 ad 0 0 0 [(0, .ref 71), (1, .ref 2004)] [] (mj_rows I [(71, r71), (77, r77)]) L := by
  unfold fnX11_passes_71_2004 at hf
  refine mj_aload_n 0 dX11_passes_0 rfl ?_
  refine mj_getIv (v := (r71 14)) rfl fl_X11_25 rfl s0_71 a0_71 dX11_passes_1 ?_
  refine mj_if_gt 15 dX11_passes_4 (by decide) (fun c1 => ?_) (fun c1 => ?_)
  · replace hf := mj_pos c1 hf
    refine mj_iconst dX11_passes_15 kc_iconst_0 ?_
    obtain rfl := Option.some.inj hf
    have hZ := hq
    replace hZ := mj_u2p hZ
    exact mj_iret hR ⟨Nat.le_refl _, Nat.le_refl _⟩ rfl (by decide) dX11_passes_16 hZ
  · replace hf := mj_neg c1 hf
    refine mj_aload_n 0 dX11_passes_7 rfl ?_
    refine mj_aload_n 1 dX11_passes_8 rfl ?_
    obtain ⟨o2, ho2, hf⟩ := mj_bd hf
    refine mj_callVd (I2 := (mj_rows I [(71, o2.2), (77, r77)])) (L2 := L) (s1 := [.int o2.1]) (st := []) [.ref 2004] (cmX11_isHere_71_2004 X.2.1 G F  _ _ r71 r77 rfl rfl o2 ho2) (mj_rr rfl) rfl cw_X11_57 s0_71 a0_71 (by decide) rfl rfl (Nat.le_of_ble_eq_true rfl) ⟨Nat.zero_le _, Nat.zero_le _⟩ dX11_passes_9 rfl ?_
    refine mj_if_ne 17 dX11_passes_12 (by decide) (fun c3 => ?_) (fun c3 => ?_)
    · replace hf := mj_neg c3 hf
      refine mj_aload_n 0 dX11_passes_17 rfl ?_
      refine mj_dup dX11_passes_18 rfl ?_
      refine mj_getIv (v := (o2.2 11)) rfl fl_X11_31 rfl s0_71 a0_71 dX11_passes_19 ?_
      refine mj_aload_n 1 dX11_passes_22 rfl ?_
      refine mj_callVs (i := 3) (I2 := (mj_rows I [(71, o2.2), (77, r77)])) (L2 := L) (s1 := [.int (5 : Int32), .int (o2.2 11), .ref 71]) (st := [.int (o2.2 11), .ref 71]) [] (cmJ0_length X.2.1 G 3 2004 rfl (by decide) _ _) rfl rfl cw_X11_44 rfl (by decide) (by decide) rfl rfl (Nat.le_of_ble_eq_true rfl) ⟨Nat.zero_le _, Nat.zero_le _⟩ dX11_passes_23 rfl ?_
      refine mj_iadd dX11_passes_26 ?_
      refine mj_putIr (ci := 9) (j := 11) [(71, (upd o2.2 11 ((o2.2 11) + (5 : Int32)))), (77, r77)] rfl ⟨rfl, rfl⟩ fl_X11_31 rfl rfl s0_71 a0_71 dX11_passes_27 ?_
      refine mj_iconst dX11_passes_30 kc_iconst_1 ?_
      obtain rfl := Option.some.inj hf
      have hZ := hq
      replace hZ := mj_u2p hZ
      exact mj_iret hR ⟨Nat.le_refl _, Nat.le_refl _⟩ rfl (by decide) dX11_passes_31 hZ
    · replace hf := mj_pos c3 hf
      refine mj_iconst dX11_passes_15 kc_iconst_0 ?_
      obtain rfl := Option.some.inj hf
      have hZ := hq
      replace hZ := mj_u2p hZ
      exact mj_iret hR ⟨Nat.le_refl _, Nat.le_refl _⟩ rfl (by decide) dX11_passes_16 hZ
set_option maxRecDepth 100000 in
set_option maxHeartbeats 4000000 in
theorem cmX11_passes_71_2004 (l : Launch) (G : mj_GT) (F : Nat) (I : mj_IT) (L : mj_LT) (r71 : Nat → Int32) (r77 : Nat → Int32) (hr71 : I 71 = r71) (hr77 : I 77 = r77) (o : ((Int32) × (Nat → Int32))) (hf : fnX11_passes_71_2004 F r71 r77 = some o) : mj_M l G yX11_passes cX11_passes 2 6 (some .boolean) 0 0 mj_P0 mj_S0 98 [.ref 71, .ref 2004] I L (mj_qd (some (.int o.1)) (mj_rows I [(71, o.2), (77, r77)]) L) := by
  refine mj_in RX11 "passes" [(0, .ref 71), (1, .ref 2004)] rfl rfl rfl (by decide) (Nat.le_of_ble_eq_true rfl) (fun X ad hR => ?_)
  refine mj_toI [(71, r71), (77, r77)] (by intro q hq; simp only [List.mem_cons, List.not_mem_nil, or_false] at hq; rcases hq with rfl | rfl <;> assumption) ?_
  refine mtX11_passes_71_2004 hR F I L r71 r77 o hf ?_
  obtain ⟨w0, w1⟩ := o
  refine mj_u2q ?_
  exact ⟨rfl, rfl, rfl⟩

