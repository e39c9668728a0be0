-- X11_run
def fnX11_run (F : Nat) (r71 : Nat → Int32) (r72 : Nat → Int32) (r73 : Nat → Int32) (r75 : Nat → Int32) (r80 : Nat → Int32) (r81 : Nat → Int32) (r82 : Nat → Int32) (r83 : Nat → Int32) (r84 : Nat → Int32) (r85 : Nat → Int32) (r86 : Nat → Int32) (r87 : Nat → Int32) (q96 : Nat → Int64) (x1 : Int32) : Option ((Int32) × (Nat → Int32) × (Nat → Int32) × (Nat → Int32) × (Nat → Int32) × (Nat → Int32) × (Nat → Int32) × (Nat → Int32) × (Nat → Int32) × (Nat → Int32) × (Nat → Int64)) := (fnX11_isFew F (upd r71 0 (0 : Int32)) r72 r73 r75 r80 r81 r82 r83 r84 r85 r86 r87).bind (fun o1 => (if o1.1 = 0 then some ((0 : Int32), o1.2.1, o1.2.2.1, o1.2.2.2.1, o1.2.2.2.2.1, o1.2.2.2.2.2.1, o1.2.2.2.2.2.2.1, o1.2.2.2.2.2.2.2.1, o1.2.2.2.2.2.2.2.2.1, o1.2.2.2.2.2.2.2.2.2, q96) else (fnX11_length F o1.2.1 r73 o1.2.2.2.1 o1.2.2.2.2.2.2.1 o1.2.2.2.2.2.2.2.1 o1.2.2.2.2.2.2.2.2.1 q96).bind (fun o3 => (if o3.1 = (-1 : Int32) then some (o3.1, o1.2.1, o1.2.2.1, o1.2.2.2.1, o1.2.2.2.2.1, o1.2.2.2.2.2.1, o1.2.2.2.2.2.2.1, o1.2.2.2.2.2.2.2.1, o1.2.2.2.2.2.2.2.2.1, o1.2.2.2.2.2.2.2.2.2, o3.2) else (if x1 = (-1 : Int32) then some (o3.1, o1.2.1, o1.2.2.1, o1.2.2.2.1, o1.2.2.2.2.1, o1.2.2.2.2.2.1, o1.2.2.2.2.2.2.1, o1.2.2.2.2.2.2.2.1, o1.2.2.2.2.2.2.2.2.1, o1.2.2.2.2.2.2.2.2.2, o3.2) else (fnX11_lies F x1.toInt64 (0 : Int64) ((o3.1 - (1 : Int32)).toInt64)).bind (fun o6 => (if o6 = 0 then some ((-1 : Int32), o1.2.1, o1.2.2.1, o1.2.2.2.1, o1.2.2.2.2.1, o1.2.2.2.2.2.1, o1.2.2.2.2.2.2.1, o1.2.2.2.2.2.2.2.1, o1.2.2.2.2.2.2.2.2.1, o1.2.2.2.2.2.2.2.2.2, o3.2) else (fnX11_drawnAt F o1.2.1 r73 o1.2.2.2.1 o1.2.2.2.2.2.2.1 o1.2.2.2.2.2.2.2.1 o1.2.2.2.2.2.2.2.2.1 o3.2 o3.1 x1).bind (fun o8 => some (o8, o1.2.1, o1.2.2.1, o1.2.2.2.1, o1.2.2.2.2.1, o1.2.2.2.2.2.1, o1.2.2.2.2.2.2.1, o1.2.2.2.2.2.2.2.1, o1.2.2.2.2.2.2.2.2.1, o1.2.2.2.2.2.2.2.2.2, o3.2)))))))))
set_option maxRecDepth 100000 in
set_option maxHeartbeats 4000000 in
theorem mtX11_run {X : mj_XT} {l : Launch} {G : mj_GT} {ad : Nat → Nat} {Qn : Option Value → mj_IT → mj_LT → Prop} (hR : mj_R X l G mj_P0 mj_S0 98 ad 0 0 Qn) (F : Nat) (I : mj_IT) (L : mj_LT) (r71 : Nat → Int32) (r72 : Nat → Int32) (r73 : Nat → Int32) (r75 : Nat → Int32) (r80 : Nat → Int32) (r81 : Nat → Int32) (r82 : Nat → Int32) (r83 : Nat → Int32) (r84 : Nat → Int32) (r85 : Nat → Int32) (r86 : Nat → Int32) (r87 : Nat → Int32) (q96 : Nat → Int64) (x1 : Int32) (o : ((Int32) × (Nat → Int32) × (Nat → Int32) × (Nat → Int32) × (Nat → Int32) × (Nat → Int32) × (Nat → Int32) × (Nat → Int32) × (Nat → Int32) × (Nat → Int32) × (Nat → Int64))) (hf : fnX11_run F r71 r72 r73 r75 r80 r81 r82 r83 r84 r85 r86 r87 q96 x1 = some o) (hq : (mj_u2 (fun ov => (mj_u2 (fun r71 => (mj_u2 (fun r72 => (mj_u2 (fun r80 => (mj_u2 (fun r81 => (mj_u2 (fun r82 => (mj_u2 (fun r83 => (mj_u2 (fun r84 => (mj_u2 (fun r85 => (mj_u2 (fun r86 q96 => Qn (some (.int ov)) (mj_rows I [(71, r71), (72, r72), (73, r73), (75, r75), (80, r80), (81, r81), (82, r82), (83, r83), (84, r84), (85, r85), (86, r86), (87, r87)]) (mj_rows L [(96, q96)]))))))))))))))))))))) o) : mj_W X G RX11 "run" cX11_run 3 8 (some .int) mj_P0 mj_S0 98 ad 0 0 0 [(0, .ref 71), (1, .int x1)] [] (mj_rows I [(71, r71), (72, r72), (73, r73), (75, r75), (80, r80), (81, r81), (82, r82), (83, r83), (84, r84), (85, r85), (86, r86), (87, r87)]) (mj_rows L [(96, q96)]) := by
  unfold fnX11_run at hf
  refine mj_aload_n 0 dX11_run_0 rfl ?_
  refine mj_iconst dX11_run_1 kc_iconst_0 ?_
  refine mj_putIr (ci := 9) (j := 0) [(71, (upd r71 0 (0 : Int32))), (72, r72), (73, r73), (75, r75), (80, r80), (81, r81), (82, r82), (83, r83), (84, r84), (85, r85), (86, r86), (87, r87)] rfl ⟨rfl, rfl⟩ fl_X11_1 rfl rfl s0_71 a0_71 dX11_run_2 ?_
  refine mj_aload_n 0 dX11_run_5 rfl ?_
  obtain ⟨o1, ho1, hf⟩ := mj_bd hf
  refine mj_callVd (I2 := (mj_rows I [(71, o1.2.1), (72, o1.2.2.1), (73, r73), (75, r75), (80, o1.2.2.2.1), (81, o1.2.2.2.2.1), (82, o1.2.2.2.2.2.1), (83, o1.2.2.2.2.2.2.1), (84, o1.2.2.2.2.2.2.2.1), (85, o1.2.2.2.2.2.2.2.2.1), (86, o1.2.2.2.2.2.2.2.2.2), (87, r87)])) (L2 := (mj_rows L [(96, q96)])) (s1 := [.int o1.1]) (st := []) [] (cmX11_isFew X.2.1 G F  _ _ (upd r71 0 (0 : Int32)) r72 r73 r75 r80 r81 r82 r83 r84 r85 r86 r87 rfl rfl rfl rfl rfl rfl rfl rfl rfl rfl rfl rfl o1 ho1) (mj_rr rfl) rfl cw_X11_335 s0_71 a0_71 (by decide) rfl rfl (Nat.le_of_ble_eq_true rfl) ⟨Nat.zero_le _, Nat.zero_le _⟩ dX11_run_6 rfl ?_
  refine mj_if_ne 14 dX11_run_9 (by decide) (fun c2 => ?_) (fun c2 => ?_)
  · replace hf := mj_neg c2 hf
    refine mj_aload_n 0 dX11_run_14 rfl ?_
    obtain ⟨o3, ho3, hf⟩ := mj_bd hf
    refine mj_callVd (I2 := (mj_rows I [(71, o1.2.1), (72, o1.2.2.1), (73, r73), (75, r75), (80, o1.2.2.2.1), (81, o1.2.2.2.2.1), (82, o1.2.2.2.2.2.1), (83, o1.2.2.2.2.2.2.1), (84, o1.2.2.2.2.2.2.2.1), (85, o1.2.2.2.2.2.2.2.2.1), (86, o1.2.2.2.2.2.2.2.2.2), (87, r87)])) (L2 := (mj_rows L [(96, o3.2)])) (s1 := [.int o3.1]) (st := []) [] (cmX11_length X.2.1 G F  _ _ o1.2.1 r73 o1.2.2.2.1 o1.2.2.2.2.2.2.1 o1.2.2.2.2.2.2.2.1 o1.2.2.2.2.2.2.2.2.1 q96 rfl rfl rfl rfl rfl rfl rfl o3 ho3) (mj_rr rfl) (mj_rr rfl) cw_X11_424 s0_71 a0_71 (by decide) rfl rfl (Nat.le_of_ble_eq_true rfl) ⟨Nat.zero_le _, Nat.zero_le _⟩ dX11_run_15 rfl ?_
    refine mj_istore_n [(2, .int o3.1), (0, .ref 71), (1, .int x1)] dX11_run_18 rfl (by decide) rfl ?_
    refine mj_iload_n 0 dX11_run_19 rfl ?_
    refine mj_iconst dX11_run_20 kc_iconst_m1 ?_
    refine mj_icmp_eq 29 dX11_run_21 (by decide) (fun c4 => ?_) (fun c4 => ?_)
    · replace hf := mj_pos c4 hf
      refine mj_iload_n 0 dX11_run_29 rfl ?_
      refine mj_goto 56 dX11_run_30 (by decide) ?_
      obtain rfl := Option.some.inj hf
      have hZ := hq
      replace hZ := mj_u2p hZ
      replace hZ := mj_u2p hZ
      replace hZ := mj_u2p hZ
      replace hZ := mj_u2p hZ
      replace hZ := mj_u2p hZ
      replace hZ := mj_u2p hZ
      replace hZ := mj_u2p hZ
      replace hZ := mj_u2p hZ
      replace hZ := mj_u2p hZ
      replace hZ := mj_u2p hZ
      exact mj_iret hR ⟨Nat.le_refl _, Nat.le_refl _⟩ rfl rfl dX11_run_56 hZ
    · replace hf := mj_neg c4 hf
      refine mj_iload_n 2 dX11_run_24 rfl ?_
      refine mj_iconst dX11_run_25 kc_iconst_m1 ?_
      refine mj_icmp_ne 33 dX11_run_26 (by decide) (fun c5 => ?_) (fun c5 => ?_)
      · replace hf := mj_neg c5 hf
        refine mj_iload_n 2 dX11_run_33 rfl ?_
        refine mj_i2l dX11_run_34 ?_
        refine mj_lconst (v := 0) dX11_run_35 (by decide) ?_
        refine mj_iload_n 0 dX11_run_36 rfl ?_
        refine mj_iconst dX11_run_37 kc_iconst_1 ?_
        refine mj_isub dX11_run_38 ?_
        refine mj_i2l dX11_run_39 ?_
        obtain ⟨o6, ho6, hf⟩ := mj_bd hf
        refine mj_callSd (I2 := (mj_rows I [(71, o1.2.1), (72, o1.2.2.1), (73, r73), (75, r75), (80, o1.2.2.2.1), (81, o1.2.2.2.2.1), (82, o1.2.2.2.2.2.1), (83, o1.2.2.2.2.2.2.1), (84, o1.2.2.2.2.2.2.2.1), (85, o1.2.2.2.2.2.2.2.2.1), (86, o1.2.2.2.2.2.2.2.2.2), (87, r87)])) (L2 := (mj_rows L [(96, o3.2)])) (s1 := [.int o6]) (st := []) [.long x1.toInt64, .long (0 : Int64), .long ((o3.1 - (1 : Int32)).toInt64)] (cmX11_lies X.2.1 G F x1.toInt64 (0 : Int64) ((o3.1 - (1 : Int32)).toInt64) _ _   o6 ho6) rfl rfl cw_X11_157 (by decide) rfl rfl (Nat.le_of_ble_eq_true rfl) ⟨Nat.zero_le _, Nat.zero_le _⟩ dX11_run_40 rfl ?_
        refine mj_if_eq 55 dX11_run_43 (by decide) (fun c7 => ?_) (fun c7 => ?_)
        · replace hf := mj_pos c7 hf
          refine mj_iconst dX11_run_55 kc_iconst_m1 ?_
          obtain rfl := Option.some.inj hf
          have hZ := hq
          replace hZ := mj_u2p hZ
          replace hZ := mj_u2p hZ
          replace hZ := mj_u2p hZ
          replace hZ := mj_u2p hZ
          replace hZ := mj_u2p hZ
          replace hZ := mj_u2p hZ
          replace hZ := mj_u2p hZ
          replace hZ := mj_u2p hZ
          replace hZ := mj_u2p hZ
          replace hZ := mj_u2p hZ
          exact mj_iret hR ⟨Nat.le_refl _, Nat.le_refl _⟩ rfl rfl dX11_run_56 hZ
        · replace hf := mj_neg c7 hf
          refine mj_aload_n 1 dX11_run_46 rfl ?_
          refine mj_iload_n 0 dX11_run_47 rfl ?_
          refine mj_iload_n 2 dX11_run_48 rfl ?_
          obtain ⟨o8, ho8, hf⟩ := mj_bd hf
          refine mj_callVd (I2 := (mj_rows I [(71, o1.2.1), (72, o1.2.2.1), (73, r73), (75, r75), (80, o1.2.2.2.1), (81, o1.2.2.2.2.1), (82, o1.2.2.2.2.2.1), (83, o1.2.2.2.2.2.2.1), (84, o1.2.2.2.2.2.2.2.1), (85, o1.2.2.2.2.2.2.2.2.1), (86, o1.2.2.2.2.2.2.2.2.2), (87, r87)])) (L2 := (mj_rows L [(96, o3.2)])) (s1 := [.int o8]) (st := []) [.int o3.1, .int x1] (cmX11_drawnAt X.2.1 G F o3.1 x1 _ _ o1.2.1 r73 o1.2.2.2.1 o1.2.2.2.2.2.2.1 o1.2.2.2.2.2.2.2.1 o1.2.2.2.2.2.2.2.2.1 o3.2 rfl rfl rfl rfl rfl rfl rfl o8 ho8) (mj_rr rfl) (mj_rr rfl) cw_X11_425 s0_71 a0_71 (by decide) rfl rfl (Nat.le_of_ble_eq_true rfl) ⟨Nat.zero_le _, Nat.zero_le _⟩ dX11_run_49 rfl ?_
          refine mj_goto 56 dX11_run_52 (by decide) ?_
          obtain rfl := Option.some.inj hf
          have hZ := hq
          replace hZ := mj_u2p hZ
          replace hZ := mj_u2p hZ
          replace hZ := mj_u2p hZ
          replace hZ := mj_u2p hZ
          replace hZ := mj_u2p hZ
          replace hZ := mj_u2p hZ
          replace hZ := mj_u2p hZ
          replace hZ := mj_u2p hZ
          replace hZ := mj_u2p hZ
          replace hZ := mj_u2p hZ
          exact mj_iret hR ⟨Nat.le_refl _, Nat.le_refl _⟩ rfl rfl dX11_run_56 hZ
      · replace hf := mj_pos c5 hf
        refine mj_iload_n 0 dX11_run_29 rfl ?_
        refine mj_goto 56 dX11_run_30 (by decide) ?_
        obtain rfl := Option.some.inj hf
        have hZ := hq
        replace hZ := mj_u2p hZ
        replace hZ := mj_u2p hZ
        replace hZ := mj_u2p hZ
        replace hZ := mj_u2p hZ
        replace hZ := mj_u2p hZ
        replace hZ := mj_u2p hZ
        replace hZ := mj_u2p hZ
        replace hZ := mj_u2p hZ
        replace hZ := mj_u2p hZ
        replace hZ := mj_u2p hZ
        exact mj_iret hR ⟨Nat.le_refl _, Nat.le_refl _⟩ rfl rfl dX11_run_56 hZ
  · replace hf := mj_pos c2 hf
    refine mj_iconst dX11_run_12 kc_iconst_0 ?_
    obtain rfl := Option.some.inj hf
    have hZ := hq
    replace hZ := mj_u2p hZ
    replace hZ := mj_u2p hZ
    replace hZ := mj_u2p hZ
    replace hZ := mj_u2p hZ
    replace hZ := mj_u2p hZ
    replace hZ := mj_u2p hZ
    replace hZ := mj_u2p hZ
    replace hZ := mj_u2p hZ
    replace hZ := mj_u2p hZ
    replace hZ := mj_u2p hZ
    exact mj_iret hR ⟨Nat.le_refl _, Nat.le_refl _⟩ rfl rfl dX11_run_13 hZ
set_option maxRecDepth 100000 in
set_option maxHeartbeats 4000000 in
theorem cmX11_run (l : Launch) (G : mj_GT) (F : Nat) (x1 : Int32) (I : mj_IT) (L : mj_LT) (r71 : Nat → Int32) (r72 : Nat → Int32) (r73 : Nat → Int32) (r75 : Nat → Int32) (r80 : Nat → Int32) (r81 : Nat → Int32) (r82 : Nat → Int32) (r83 : Nat → Int32) (r84 : Nat → Int32) (r85 : Nat → Int32) (r86 : Nat → Int32) (r87 : Nat → Int32) (q96 : Nat → Int64) (hr71 : I 71 = r71) (hr72 : I 72 = r72) (hr73 : I 73 = r73) (hr75 : I 75 = r75) (hr80 : I 80 = r80) (hr81 : I 81 = r81) (hr82 : I 82 = r82) (hr83 : I 83 = r83) (hr84 : I 84 = r84) (hr85 : I 85 = r85) (hr86 : I 86 = r86) (hr87 : I 87 = r87) (hq96 : L 96 = q96) (o : ((Int32) × (Nat → Int32) × (Nat → Int32) × (Nat → Int32) × (Nat → Int32) × (Nat → Int32) × (Nat → Int32) × (Nat → Int32) × (Nat → Int32) × (Nat → Int32) × (Nat → Int64))) (hf : fnX11_run F r71 r72 r73 r75 r80 r81 r82 r83 r84 r85 r86 r87 q96 x1 = some o) : mj_M l G yX11_run cX11_run 3 8 (some .int) 0 0 mj_P0 mj_S0 98 [.ref 71, .int x1] I L (mj_qd (some (.int o.1)) (mj_rows I [(71, o.2.1), (72, o.2.2.1), (73, r73), (75, r75), (80, o.2.2.2.1), (81, o.2.2.2.2.1), (82, o.2.2.2.2.2.1), (83, o.2.2.2.2.2.2.1), (84, o.2.2.2.2.2.2.2.1), (85, o.2.2.2.2.2.2.2.2.1), (86, o.2.2.2.2.2.2.2.2.2.1), (87, r87)]) (mj_rows L [(96, o.2.2.2.2.2.2.2.2.2.2)])) := by
  refine mj_in RX11 "run" [(0, .ref 71), (1, .int x1)] rfl rfl rfl (by decide) (Nat.le_of_ble_eq_true rfl) (fun X ad hR => ?_)
  refine mj_toI [(71, r71), (72, r72), (73, r73), (75, r75), (80, r80), (81, r81), (82, r82), (83, r83), (84, r84), (85, r85), (86, r86), (87, r87)] (by intro q hq; simp only [List.mem_cons, List.not_mem_nil, or_false] at hq; rcases hq with rfl | rfl | rfl | rfl | rfl | rfl | rfl | rfl | rfl | rfl | rfl | rfl <;> assumption) ?_
  refine mj_toL [(96, q96)] (by intro q hq; simp only [List.mem_cons, List.not_mem_nil, or_false] at hq; rcases hq with rfl <;> assumption) ?_
  refine mtX11_run hR F I L r71 r72 r73 r75 r80 r81 r82 r83 r84 r85 r86 r87 q96 x1 o hf ?_
  obtain ⟨w0, w1, w2, w3, w4, w5, w6, w7, w8, w9, w10⟩ := o
  refine mj_u2q ?_
  refine mj_u2q ?_
  refine mj_u2q ?_
  refine mj_u2q ?_
  refine mj_u2q ?_
  refine mj_u2q ?_
  refine mj_u2q ?_
  refine mj_u2q ?_
  refine mj_u2q ?_
  refine mj_u2q ?_
  exact ⟨rfl, rfl, rfl⟩

-- X11_worth
def fnX11_worth (F : Nat) (r71 : Nat → Int32) (r72 : Nat → Int32) (r73 : Nat → Int32) (r75 : Nat → Int32) (r80 : Nat → Int32) (r81 : Nat → Int32) (r82 : Nat → Int32) (r83 : Nat → Int32) (r84 : Nat → Int32) (r85 : Nat → Int32) (r86 : Nat → Int32) (r87 : Nat → Int32) (q96 : Nat → Int64) : Option ((Int64) × (Nat → Int32) × (Nat → Int32) × (Nat → Int32) × (Nat → Int32) × (Nat → Int32) × (Nat → Int32) × (Nat → Int32) × (Nat → Int32) × (Nat → Int32) × (Nat → Int64)) := (fnX11_isFew F (upd r71 0 (0 : Int32)) r72 r73 r75 r80 r81 r82 r83 r84 r85 r86 r87).bind (fun o1 => (if o1.1 = 0 then some ((0 : Int64), o1.2.1, o1.2.2.1, o1.2.2.2.1, o1.2.2.2.2.1, o1.2.2.2.2.2.1, o1.2.2.2.2.2.2.1, o1.2.2.2.2.2.2.2.1, o1.2.2.2.2.2.2.2.2.1, o1.2.2.2.2.2.2.2.2.2, q96) else (fnX11_length F o1.2.1 r73 o1.2.2.2.1 o1.2.2.2.2.2.2.1 o1.2.2.2.2.2.2.2.1 o1.2.2.2.2.2.2.2.2.1 q96).bind (fun o3 => (if o3.1 = (-1 : Int32) then some ((-1 : Int64), o1.2.1, o1.2.2.1, o1.2.2.2.1, o1.2.2.2.2.1, o1.2.2.2.2.2.1, o1.2.2.2.2.2.2.1, o1.2.2.2.2.2.2.2.1, o1.2.2.2.2.2.2.2.2.1, o1.2.2.2.2.2.2.2.2.2, o3.2) else (fnX11_mostOf F o1.2.1 r73 o1.2.2.2.1 o1.2.2.2.2.2.2.1 o1.2.2.2.2.2.2.2.1 o3.2 o3.1 (0 : Int32)).bind (fun o5 => (fnX11_sixties F ((10 : Int32) - o3.1)).bind (fun o6 => some ((o5 * o6), o1.2.1, o1.2.2.1, o1.2.2.2.1, o1.2.2.2.2.1, o1.2.2.2.2.2.1, o1.2.2.2.2.2.2.1, o1.2.2.2.2.2.2.2.1, o1.2.2.2.2.2.2.2.2.1, o1.2.2.2.2.2.2.2.2.2, o3.2)))))))
set_option maxRecDepth 100000 in
set_option maxHeartbeats 4000000 in
theorem mtX11_worth {X : mj_XT} {l : Launch} {G : mj_GT} {ad : Nat → Nat} {Qn : Option Value → mj_IT → mj_LT → Prop} (hR : mj_R X l G mj_P0 mj_S0 98 ad 0 0 Qn) (F : Nat) (I : mj_IT) (L : mj_LT) (r71 : Nat → Int32) (r72 : Nat → Int32) (r73 : Nat → Int32) (r75 : Nat → Int32) (r80 : Nat → Int32) (r81 : Nat → Int32) (r82 : Nat → Int32) (r83 : Nat → Int32) (r84 : Nat → Int32) (r85 : Nat → Int32) (r86 : Nat → Int32) (r87 : Nat → Int32) (q96 : Nat → Int64) (o : ((Int64) × (Nat → Int32) × (Nat → Int32) × (Nat → Int32) × (Nat → Int32) × (Nat → Int32) × (Nat → Int32) × (Nat → Int32) × (Nat → Int32) × (Nat → Int32) × (Nat → Int64))) (hf : fnX11_worth F r71 r72 r73 r75 r80 r81 r82 r83 r84 r85 r86 r87 q96 = some o) (hq : (mj_u2 (fun ov => (mj_u2 (fun r71 => (mj_u2 (fun r72 => (mj_u2 (fun r80 => (mj_u2 (fun r81 => (mj_u2 (fun r82 => (mj_u2 (fun r83 => (mj_u2 (fun r84 => (mj_u2 (fun r85 => (mj_u2 (fun r86 q96 => Qn (some (.long ov)) (mj_rows I [(71, r71), (72, r72), (73, r73), (75, r75), (80, r80), (81, r81), (82, r82), (83, r83), (84, r84), (85, r85), (86, r86), (87, r87)]) (mj_rows L [(96, q96)]))))))))))))))))))))) o) : mj_W X G RX11 "worth" cX11_worth 2 8 (some .long) mj_P0 mj_S0 98 ad 0 0 0 [(0, .ref 71)] [] (mj_rows I [(71, r71), (72, r72), (73, r73), (75, r75), (80, r80), (81, r81), (82, r82), (83, r83), (84, r84), (85, r85), (86, r86), (87, r87)]) (mj_rows L [(96, q96)]) := by
  unfold fnX11_worth at hf
  refine mj_aload_n 0 dX11_worth_0 rfl ?_
  refine mj_iconst dX11_worth_1 kc_iconst_0 ?_
  refine mj_putIr (ci := 9) (j := 0) [(71, (upd r71 0 (0 : Int32))), (72, r72), (73, r73), (75, r75), (80, r80), (81, r81), (82, r82), (83, r83), (84, r84), (85, r85), (86, r86), (87, r87)] rfl ⟨rfl, rfl⟩ fl_X11_1 rfl rfl s0_71 a0_71 dX11_worth_2 ?_
  refine mj_aload_n 0 dX11_worth_5 rfl ?_
  obtain ⟨o1, ho1, hf⟩ := mj_bd hf
  refine mj_callVd (I2 := (mj_rows I [(71, o1.2.1), (72, o1.2.2.1), (73, r73), (75, r75), (80, o1.2.2.2.1), (81, o1.2.2.2.2.1), (82, o1.2.2.2.2.2.1), (83, o1.2.2.2.2.2.2.1), (84, o1.2.2.2.2.2.2.2.1), (85, o1.2.2.2.2.2.2.2.2.1), (86, o1.2.2.2.2.2.2.2.2.2), (87, r87)])) (L2 := (mj_rows L [(96, q96)])) (s1 := [.int o1.1]) (st := []) [] (cmX11_isFew X.2.1 G F  _ _ (upd r71 0 (0 : Int32)) r72 r73 r75 r80 r81 r82 r83 r84 r85 r86 r87 rfl rfl rfl rfl rfl rfl rfl rfl rfl rfl rfl rfl o1 ho1) (mj_rr rfl) rfl cw_X11_335 s0_71 a0_71 (by decide) rfl rfl (Nat.le_of_ble_eq_true rfl) ⟨Nat.zero_le _, Nat.zero_le _⟩ dX11_worth_6 rfl ?_
  refine mj_if_ne 14 dX11_worth_9 (by decide) (fun c2 => ?_) (fun c2 => ?_)
  · replace hf := mj_neg c2 hf
    refine mj_aload_n 0 dX11_worth_14 rfl ?_
    obtain ⟨o3, ho3, hf⟩ := mj_bd hf
    refine mj_callVd (I2 := (mj_rows I [(71, o1.2.1), (72, o1.2.2.1), (73, r73), (75, r75), (80, o1.2.2.2.1), (81, o1.2.2.2.2.1), (82, o1.2.2.2.2.2.1), (83, o1.2.2.2.2.2.2.1), (84, o1.2.2.2.2.2.2.2.1), (85, o1.2.2.2.2.2.2.2.2.1), (86, o1.2.2.2.2.2.2.2.2.2), (87, r87)])) (L2 := (mj_rows L [(96, o3.2)])) (s1 := [.int o3.1]) (st := []) [] (cmX11_length X.2.1 G F  _ _ o1.2.1 r73 o1.2.2.2.1 o1.2.2.2.2.2.2.1 o1.2.2.2.2.2.2.2.1 o1.2.2.2.2.2.2.2.2.1 q96 rfl rfl rfl rfl rfl rfl rfl o3 ho3) (mj_rr rfl) (mj_rr rfl) cw_X11_424 s0_71 a0_71 (by decide) rfl rfl (Nat.le_of_ble_eq_true rfl) ⟨Nat.zero_le _, Nat.zero_le _⟩ dX11_worth_15 rfl ?_
    refine mj_istore_n [(1, .int o3.1), (0, .ref 71)] dX11_worth_18 rfl (by decide) rfl ?_
    refine mj_iload_n 0 dX11_worth_19 rfl ?_
    refine mj_iconst dX11_worth_20 kc_iconst_m1 ?_
    refine mj_icmp_ne 30 dX11_worth_21 (by decide) (fun c4 => ?_) (fun c4 => ?_)
    · replace hf := mj_neg c4 hf
      refine mj_aload_n 1 dX11_worth_30 rfl ?_
      refine mj_iload_n 0 dX11_worth_31 rfl ?_
      refine mj_iconst dX11_worth_32 kc_iconst_0 ?_
      obtain ⟨o5, ho5, hf⟩ := mj_bd hf
      refine mj_callVd (I2 := (mj_rows I [(71, o1.2.1), (72, o1.2.2.1), (73, r73), (75, r75), (80, o1.2.2.2.1), (81, o1.2.2.2.2.1), (82, o1.2.2.2.2.2.1), (83, o1.2.2.2.2.2.2.1), (84, o1.2.2.2.2.2.2.2.1), (85, o1.2.2.2.2.2.2.2.2.1), (86, o1.2.2.2.2.2.2.2.2.2), (87, r87)])) (L2 := (mj_rows L [(96, o3.2)])) (s1 := [.long o5]) (st := []) [.int o3.1, .int (0 : Int32)] (cmX11_mostOf X.2.1 G F o3.1 (0 : Int32) _ _ o1.2.1 r73 o1.2.2.2.1 o1.2.2.2.2.2.2.1 o1.2.2.2.2.2.2.2.1 o3.2 rfl rfl rfl rfl rfl rfl o5 ho5) (mj_rr rfl) (mj_rr rfl) cw_X11_410 s0_71 a0_71 (by decide) rfl rfl (Nat.le_of_ble_eq_true rfl) ⟨Nat.zero_le _, Nat.zero_le _⟩ dX11_worth_33 rfl ?_
      refine mj_bipush dX11_worth_36 kc_bipush_10 ?_
      refine mj_iload_n 0 dX11_worth_38 rfl ?_
      refine mj_isub dX11_worth_39 ?_
      obtain ⟨o6, ho6, hf⟩ := mj_bd hf
      refine mj_callSd (I2 := (mj_rows I [(71, o1.2.1), (72, o1.2.2.1), (73, r73), (75, r75), (80, o1.2.2.2.1), (81, o1.2.2.2.2.1), (82, o1.2.2.2.2.2.1), (83, o1.2.2.2.2.2.2.1), (84, o1.2.2.2.2.2.2.2.1), (85, o1.2.2.2.2.2.2.2.2.1), (86, o1.2.2.2.2.2.2.2.2.2), (87, r87)])) (L2 := (mj_rows L [(96, o3.2)])) (s1 := [.long o6, .long o5]) (st := [.long o5]) [.int ((10 : Int32) - o3.1)] (cmX11_sixties X.2.1 G F ((10 : Int32) - o3.1) _ _   o6 ho6) rfl rfl cw_X11_419 (by decide) rfl rfl (Nat.le_of_ble_eq_true rfl) ⟨Nat.zero_le _, Nat.zero_le _⟩ dX11_worth_40 rfl ?_
      refine mj_lmul dX11_worth_43 ?_
      obtain rfl := Option.some.inj hf
      have hZ := hq
      replace hZ := mj_u2p hZ
      replace hZ := mj_u2p hZ
      replace hZ := mj_u2p hZ
      replace hZ := mj_u2p hZ
      replace hZ := mj_u2p hZ
      replace hZ := mj_u2p hZ
      replace hZ := mj_u2p hZ
      replace hZ := mj_u2p hZ
      replace hZ := mj_u2p hZ
      replace hZ := mj_u2p hZ
      exact mj_lret hR ⟨Nat.le_refl _, Nat.le_refl _⟩ rfl dX11_worth_44 hZ
    · replace hf := mj_pos c4 hf
      refine mj_ldc2 kk_X11_428 dX11_worth_24 ?_
      refine mj_goto 44 dX11_worth_27 (by decide) ?_
      obtain rfl := Option.some.inj hf
      have hZ := hq
      replace hZ := mj_u2p hZ
      replace hZ := mj_u2p hZ
      replace hZ := mj_u2p hZ
      replace hZ := mj_u2p hZ
      replace hZ := mj_u2p hZ
      replace hZ := mj_u2p hZ
      replace hZ := mj_u2p hZ
      replace hZ := mj_u2p hZ
      replace hZ := mj_u2p hZ
      replace hZ := mj_u2p hZ
      exact mj_lret hR ⟨Nat.le_refl _, Nat.le_refl _⟩ rfl dX11_worth_44 hZ
  · replace hf := mj_pos c2 hf
    refine mj_lconst (v := 0) dX11_worth_12 (by decide) ?_
    obtain rfl := Option.some.inj hf
    have hZ := hq
    replace hZ := mj_u2p hZ
    replace hZ := mj_u2p hZ
    replace hZ := mj_u2p hZ
    replace hZ := mj_u2p hZ
    replace hZ := mj_u2p hZ
    replace hZ := mj_u2p hZ
    replace hZ := mj_u2p hZ
    replace hZ := mj_u2p hZ
    replace hZ := mj_u2p hZ
    replace hZ := mj_u2p hZ
    exact mj_lret hR ⟨Nat.le_refl _, Nat.le_refl _⟩ rfl dX11_worth_13 hZ
set_option maxRecDepth 100000 in
set_option maxHeartbeats 4000000 in
theorem cmX11_worth (l : Launch) (G : mj_GT) (F : Nat) (I : mj_IT) (L : mj_LT) (r71 : Nat → Int32) (r72 : Nat → Int32) (r73 : Nat → Int32) (r75 : Nat → Int32) (r80 : Nat → Int32) (r81 : Nat → Int32) (r82 : Nat → Int32) (r83 : Nat → Int32) (r84 : Nat → Int32) (r85 : Nat → Int32) (r86 : Nat → Int32) (r87 : Nat → Int32) (q96 : Nat → Int64) (hr71 : I 71 = r71) (hr72 : I 72 = r72) (hr73 : I 73 = r73) (hr75 : I 75 = r75) (hr80 : I 80 = r80) (hr81 : I 81 = r81) (hr82 : I 82 = r82) (hr83 : I 83 = r83) (hr84 : I 84 = r84) (hr85 : I 85 = r85) (hr86 : I 86 = r86) (hr87 : I 87 = r87) (hq96 : L 96 = q96) (o : ((Int64) × (Nat → Int32) × (Nat → Int32) × (Nat → Int32) × (Nat → Int32) × (Nat → Int32) × (Nat → Int32) × (Nat → Int32) × (Nat → Int32) × (Nat → Int32) × (Nat → Int64))) (hf : fnX11_worth F r71 r72 r73 r75 r80 r81 r82 r83 r84 r85 r86 r87 q96 = some o) : mj_M l G yX11_worth cX11_worth 2 8 (some .long) 0 0 mj_P0 mj_S0 98 [.ref 71] I L (mj_qd (some (.long o.1)) (mj_rows I [(71, o.2.1), (72, o.2.2.1), (73, r73), (75, r75), (80, o.2.2.2.1), (81, o.2.2.2.2.1), (82, o.2.2.2.2.2.1), (83, o.2.2.2.2.2.2.1), (84, o.2.2.2.2.2.2.2.1), (85, o.2.2.2.2.2.2.2.2.1), (86, o.2.2.2.2.2.2.2.2.2.1), (87, r87)]) (mj_rows L [(96, o.2.2.2.2.2.2.2.2.2.2)])) := by
  refine mj_in RX11 "worth" [(0, .ref 71)] rfl rfl rfl (by decide) (Nat.le_of_ble_eq_true rfl) (fun X ad hR => ?_)
  refine mj_toI [(71, r71), (72, r72), (73, r73), (75, r75), (80, r80), (81, r81), (82, r82), (83, r83), (84, r84), (85, r85), (86, r86), (87, r87)] (by intro q hq; simp only [List.mem_cons, List.not_mem_nil, or_false] at hq; rcases hq with rfl | rfl | rfl | rfl | rfl | rfl | rfl | rfl | rfl | rfl | rfl | rfl <;> assumption) ?_
  refine mj_toL [(96, q96)] (by intro q hq; simp only [List.mem_cons, List.not_mem_nil, or_false] at hq; rcases hq with rfl <;> assumption) ?_
  refine mtX11_worth hR F I L r71 r72 r73 r75 r80 r81 r82 r83 r84 r85 r86 r87 q96 o hf ?_
  obtain ⟨w0, w1, w2, w3, w4, w5, w6, w7, w8, w9, w10⟩ := o
  refine mj_u2q ?_
  refine mj_u2q ?_
  refine mj_u2q ?_
  refine mj_u2q ?_
  refine mj_u2q ?_
  refine mj_u2q ?_
  refine mj_u2q ?_
  refine mj_u2q ?_
  refine mj_u2q ?_
  refine mj_u2q ?_
  exact ⟨rfl, rfl, rfl⟩

-- X11_print
def bdX11_print_13 (F : Nat) (r71 : Nat → Int32) (r80 : Nat → Int32) (r81 : Nat → Int32) (x1 : Int64) (x3 : Int32) : Option (((Int64) × (Int32)) ⊕ ((Int64))) := (if (r71 24) ≤ x3 then some (.inr x1) else (if (r71 21) = 0 then (if mj_ib x3 200 = true then (if mj_ib x3 200 = true then some (.inl ((((31 : Int64) * (((31 : Int64) * x1) + ((r80 x3.toNatClampNeg).toInt64))) + ((r81 x3.toNatClampNeg).toInt64)), (x3 + (1)))) else none) else none) else some (.inr x1)))
def fnX11_print (F : Nat) (r71 : Nat → Int32) (r73 : Nat → Int32) (r75 : Nat → Int32) (r80 : Nat → Int32) (r81 : Nat → Int32) (r82 : Nat → Int32) (r83 : Nat → Int32) (r84 : Nat → Int32) (r85 : Nat → Int32) (r86 : Nat → Int32) (r87 : Nat → Int32) : Option ((Int64) × (Nat → Int32) × (Nat → Int32) × (Nat → Int32) × (Nat → Int32) × (Nat → Int32) × (Nat → Int32) × (Nat → Int32) × (Nat → Int32)) := (fnX11_lays F (upd r71 0 (0 : Int32)) r73 r75 r80 r81 r82 r83 r84 r85 r86 r87).bind (fun o5 => (mj_it (mj_u2 (fun z0 z1 => bdX11_print_13 F o5.1 o5.2.1 o5.2.2.1 z0 z1)) F ((0 : Int64), (0 : Int32))).bind (fun x1_6 => some (x1_6, o5.1, o5.2.1, o5.2.2.1, o5.2.2.2.1, o5.2.2.2.2.1, o5.2.2.2.2.2.1, o5.2.2.2.2.2.2.1, o5.2.2.2.2.2.2.2)))
set_option maxRecDepth 100000 in
set_option maxHeartbeats 4000000 in
theorem lpX11_print_13 {X : mj_XT} {l : Launch} {G : mj_GT} {ad : Nat → Nat} {Qn : Option Value → mj_IT → mj_LT → Prop} (hR : mj_R X l G mj_P0 mj_S0 98 ad 0 0 Qn) (F : Nat) (I : mj_IT) (L : mj_LT) (r71 : Nat → Int32) (r73 : Nat → Int32) (r75 : Nat → Int32) (r80 : Nat → Int32) (r81 : Nat → Int32) (r82 : Nat → Int32) (r83 : Nat → Int32) (r84 : Nat → Int32) (r85 : Nat → Int32) (r86 : Nat → Int32) (r87 : Nat → Int32) : ∀ (n : Nat) (s : ((Int64) × (Int32))) (e : ((Int64))), mj_it (mj_u2 (fun z0 z1 => bdX11_print_13 F r71 r80 r81 z0 z1)) n s = some e → (fun x1 => mj_W X G RX11 "print" cX11_print 4 7 (some .long) mj_P0 mj_S0 98 ad 0 0 62 [(1, .long x1)] [] (mj_rows I [(71, r71), (73, r73), (75, r75), (80, r80), (81, r81), (82, r82), (83, r83), (84, r84), (85, r85), (86, r86), (87, r87)]) L) e → (mj_u2 (fun x1 x3 => mj_W X G RX11 "print" cX11_print 4 7 (some .long) mj_P0 mj_S0 98 ad 0 0 13 [(0, .ref 71), (1, .long x1), (3, .int x3)] [] (mj_rows I [(71, r71), (73, r73), (75, r75), (80, r80), (81, r81), (82, r82), (83, r83), (84, r84), (85, r85), (86, r86), (87, r87)]) L)) s := by
  refine mj_loop (fun s o hf hc hx => ?_)
  obtain ⟨x1, x3⟩ := s
  replace hf := mj_u2e hf
  refine mj_u2q ?_
  unfold bdX11_print_13 at hf
  refine mj_iload_n 2 dX11_print_13 rfl ?_
  refine mj_aload_n 0 dX11_print_14 rfl ?_
  refine mj_getIv (v := (r71 24)) rfl fl_X11_227 rfl s0_71 a0_71 dX11_print_15 ?_
  refine mj_icmp_ge 62 dX11_print_18 (by decide) (fun c1 => ?_) (fun c1 => ?_)
  · replace hf := mj_pos c1 hf
    refine mj_sub [1] [(1, .long x1)] rfl ?_
    obtain rfl := Option.some.inj hf
    have hZ := hx x1 rfl
    exact hZ
  · replace hf := mj_neg c1 hf
    refine mj_aload_n 0 dX11_print_21 rfl ?_
    refine mj_getIv (v := (r71 21)) rfl fl_X11_236 rfl s0_71 a0_71 dX11_print_22 ?_
    refine mj_if_ne 62 dX11_print_25 (by decide) (fun c2 => ?_) (fun c2 => ?_)
    · replace hf := mj_neg c2 hf
      refine mj_sub [1] [(1, .long x1)] rfl ?_
      obtain rfl := Option.some.inj hf
      have hZ := hx x1 rfl
      exact hZ
    · replace hf := mj_pos c2 hf
      refine mj_ldc2 kk_X11_430 dX11_print_28 ?_
      refine mj_lload_n 1 dX11_print_31 rfl ?_
      refine mj_lmul dX11_print_32 ?_
      refine mj_aload_n 0 dX11_print_33 rfl ?_
      refine mj_getP p0_71_27 (by decide) fl_X11_230 rfl s0_71 a0_71 dX11_print_34 ?_
      refine mj_iload_n 2 dX11_print_37 rfl ?_
      obtain ⟨z3, hf⟩ := mj_ck hf
      refine mj_ialdv (x := r80) rfl s0_80 a0_80 z3 dX11_print_38 ?_
      refine mj_i2l dX11_print_39 ?_
      refine mj_ladd dX11_print_40 ?_
      refine mj_lstore_n [(1, .long (((31 : Int64) * x1) + ((r80 x3.toNatClampNeg).toInt64))), (0, .ref 71), (3, .int x3)] dX11_print_41 rfl (by decide) rfl ?_
      refine mj_ldc2 kk_X11_430 dX11_print_42 ?_
      refine mj_lload_n 0 dX11_print_45 rfl ?_
      refine mj_lmul dX11_print_46 ?_
      refine mj_aload_n 1 dX11_print_47 rfl ?_
      refine mj_getP p0_71_28 (by decide) fl_X11_233 rfl s0_71 a0_71 dX11_print_48 ?_
      refine mj_iload_n 2 dX11_print_51 rfl ?_
      obtain ⟨z4, hf⟩ := mj_ck hf
      refine mj_ialdv (x := r81) rfl s0_81 a0_81 z4 dX11_print_52 ?_
      refine mj_i2l dX11_print_53 ?_
      refine mj_ladd dX11_print_54 ?_
      refine mj_lstore_n [(1, .long (((31 : Int64) * (((31 : Int64) * x1) + ((r80 x3.toNatClampNeg).toInt64))) + ((r81 x3.toNatClampNeg).toInt64))), (0, .ref 71), (3, .int x3)] dX11_print_55 rfl (by decide) rfl ?_
      refine mj_iinc 2 [(3, .int (x3 + (1))), (1, .long (((31 : Int64) * (((31 : Int64) * x1) + ((r80 x3.toNatClampNeg).toInt64))) + ((r81 x3.toNatClampNeg).toInt64))), (0, .ref 71)] dX11_print_56 rfl (kz_1 _) (by decide) rfl ?_
      refine mj_goto 13 dX11_print_59 (by decide) ?_
      refine mj_sub [2, 1, 0] [(0, .ref 71), (1, .long (((31 : Int64) * (((31 : Int64) * x1) + ((r80 x3.toNatClampNeg).toInt64))) + ((r81 x3.toNatClampNeg).toInt64))), (3, .int (x3 + (1)))] rfl ?_
      obtain rfl := Option.some.inj hf
      have hZ := hc ((((31 : Int64) * (((31 : Int64) * x1) + ((r80 x3.toNatClampNeg).toInt64))) + ((r81 x3.toNatClampNeg).toInt64)), (x3 + (1))) rfl
      replace hZ := mj_u2p hZ
      exact hZ
set_option maxRecDepth 100000 in
set_option maxHeartbeats 4000000 in
theorem mtX11_print {X : mj_XT} {l : Launch} {G : mj_GT} {ad : Nat → Nat} {Qn : Option Value → mj_IT → mj_LT → Prop} (hR : mj_R X l G mj_P0 mj_S0 98 ad 0 0 Qn) (F : Nat) (I : mj_IT) (L : mj_LT) (r71 : Nat → Int32) (r73 : Nat → Int32) (r75 : Nat → Int32) (r80 : Nat → Int32) (r81 : Nat → Int32) (r82 : Nat → Int32) (r83 : Nat → Int32) (r84 : Nat → Int32) (r85 : Nat → Int32) (r86 : Nat → Int32) (r87 : Nat → Int32) (o : ((Int64) × (Nat → Int32) × (Nat → Int32) × (Nat → Int32) × (Nat → Int32) × (Nat → Int32) × (Nat → Int32) × (Nat → Int32) × (Nat → Int32))) (hf : fnX11_print F r71 r73 r75 r80 r81 r82 r83 r84 r85 r86 r87 = some o) (hq : (mj_u2 (fun ov => (mj_u2 (fun r71 => (mj_u2 (fun r80 => (mj_u2 (fun r81 => (mj_u2 (fun r82 => (mj_u2 (fun r83 => (mj_u2 (fun r84 => (mj_u2 (fun r85 r86 => Qn (some (.long ov)) (mj_rows I [(71, r71), (73, r73), (75, r75), (80, r80), (81, r81), (82, r82), (83, r83), (84, r84), (85, r85), (86, r86), (87, r87)]) L)))))))))))))))) o) : mj_W X G RX11 "print" cX11_print 4 7 (some .long) mj_P0 mj_S0 98 ad 0 0 0 [(0, .ref 71)] [] (mj_rows I [(71, r71), (73, r73), (75, r75), (80, r80), (81, r81), (82, r82), (83, r83), (84, r84), (85, r85), (86, r86), (87, r87)]) L := by
  unfold fnX11_print at hf
  refine mj_aload_n 0 dX11_print_0 rfl ?_
  refine mj_iconst dX11_print_1 kc_iconst_0 ?_
  refine mj_putIr (ci := 9) (j := 0) [(71, (upd r71 0 (0 : Int32))), (73, r73), (75, r75), (80, r80), (81, r81), (82, r82), (83, r83), (84, r84), (85, r85), (86, r86), (87, r87)] rfl ⟨rfl, rfl⟩ fl_X11_1 rfl rfl s0_71 a0_71 dX11_print_2 ?_
  refine mj_aload_n 0 dX11_print_5 rfl ?_
  obtain ⟨o5, ho5, hf⟩ := mj_bd hf
  refine mj_callVd (I2 := (mj_rows I [(71, o5.1), (73, r73), (75, r75), (80, o5.2.1), (81, o5.2.2.1), (82, o5.2.2.2.1), (83, o5.2.2.2.2.1), (84, o5.2.2.2.2.2.1), (85, o5.2.2.2.2.2.2.1), (86, o5.2.2.2.2.2.2.2), (87, r87)])) (L2 := L) (s1 := []) (st := []) [] (cmX11_lays X.2.1 G F  _ _ (upd r71 0 (0 : Int32)) r73 r75 r80 r81 r82 r83 r84 r85 r86 r87 rfl rfl rfl rfl rfl rfl rfl rfl rfl rfl rfl o5 ho5) (mj_rr rfl) rfl cw_X11_325 s0_71 a0_71 (by decide) rfl rfl (Nat.le_of_ble_eq_true rfl) ⟨Nat.zero_le _, Nat.zero_le _⟩ dX11_print_6 rfl ?_
  refine mj_lconst (v := 0) dX11_print_9 (by decide) ?_
  refine mj_lstore_n [(1, .long (0 : Int64)), (0, .ref 71)] dX11_print_10 rfl (by decide) rfl ?_
  refine mj_iconst dX11_print_11 kc_iconst_0 ?_
  refine mj_istore_n [(3, .int (0 : Int32)), (1, .long (0 : Int64)), (0, .ref 71)] dX11_print_12 rfl (by decide) rfl ?_
  refine mj_sub [2, 1, 0] [(0, .ref 71), (1, .long (0 : Int64)), (3, .int (0 : Int32))] rfl ?_
  obtain ⟨x1_6, ho6, hf⟩ := mj_bd hf
  refine lpX11_print_13 hR F I L o5.1 r73 r75 o5.2.1 o5.2.2.1 o5.2.2.2.1 o5.2.2.2.2.1 o5.2.2.2.2.2.1 o5.2.2.2.2.2.2.1 o5.2.2.2.2.2.2.2 r87 F ((0 : Int64), (0 : Int32)) x1_6 ho6 ?_
  refine ?_
  refine mj_lload_n 0 dX11_print_62 rfl ?_
  obtain rfl := Option.some.inj hf
  have hZ := hq
  replace hZ := mj_u2p hZ
  replace hZ := mj_u2p hZ
  replace hZ := mj_u2p hZ
  replace hZ := mj_u2p hZ
  replace hZ := mj_u2p hZ
  replace hZ := mj_u2p hZ
  replace hZ := mj_u2p hZ
  replace hZ := mj_u2p hZ
  exact mj_lret hR ⟨Nat.le_refl _, Nat.le_refl _⟩ rfl dX11_print_63 hZ
set_option maxRecDepth 100000 in
set_option maxHeartbeats 4000000 in
theorem cmX11_print (l : Launch) (G : mj_GT) (F : Nat) (I : mj_IT) (L : mj_LT) (r71 : Nat → Int32) (r73 : Nat → Int32) (r75 : Nat → Int32) (r80 : Nat → Int32) (r81 : Nat → Int32) (r82 : Nat → Int32) (r83 : Nat → Int32) (r84 : Nat → Int32) (r85 : Nat → Int32) (r86 : Nat → Int32) (r87 : Nat → Int32) (hr71 : I 71 = r71) (hr73 : I 73 = r73) (hr75 : I 75 = r75) (hr80 : I 80 = r80) (hr81 : I 81 = r81) (hr82 : I 82 = r82) (hr83 : I 83 = r83) (hr84 : I 84 = r84) (hr85 : I 85 = r85) (hr86 : I 86 = r86) (hr87 : I 87 = r87) (o : ((Int64) × (Nat → Int32) × (Nat → Int32) × (Nat → Int32) × (Nat → Int32) × (Nat → Int32) × (Nat → Int32) × (Nat → Int32) × (Nat → Int32))) (hf : fnX11_print F r71 r73 r75 r80 r81 r82 r83 r84 r85 r86 r87 = some o) : mj_M l G yX11_print cX11_print 4 7 (some .long) 0 0 mj_P0 mj_S0 98 [.ref 71] I L (mj_qd (some (.long o.1)) (mj_rows I [(71, o.2.1), (73, r73), (75, r75), (80, o.2.2.1), (81, o.2.2.2.1), (82, o.2.2.2.2.1), (83, o.2.2.2.2.2.1), (84, o.2.2.2.2.2.2.1), (85, o.2.2.2.2.2.2.2.1), (86, o.2.2.2.2.2.2.2.2), (87, r87)]) L) := by
  refine mj_in RX11 "print" [(0, .ref 71)] rfl rfl rfl (by decide) (Nat.le_of_ble_eq_true rfl) (fun X ad hR => ?_)
  refine mj_toI [(71, r71), (73, r73), (75, r75), (80, r80), (81, r81), (82, r82), (83, r83), (84, r84), (85, r85), (86, r86), (87, r87)] (by intro q hq; simp only [List.mem_cons, List.not_mem_nil, or_false] at hq; rcases hq with rfl | rfl | rfl | rfl | rfl | rfl | rfl | rfl | rfl | rfl | rfl <;> assumption) ?_
  refine mtX11_print hR F I L r71 r73 r75 r80 r81 r82 r83 r84 r85 r86 r87 o hf ?_
  obtain ⟨w0, w1, w2, w3, w4, w5, w6, w7, w8⟩ := o
  refine mj_u2q ?_
  refine mj_u2q ?_
  refine mj_u2q ?_
  refine mj_u2q ?_
  refine mj_u2q ?_
  refine mj_u2q ?_
  refine mj_u2q ?_
  refine mj_u2q ?_
  exact ⟨rfl, rfl, rfl⟩

-- X11_status
def fnX11_status (F : Nat) (r71 : Nat → Int32) (r72 : Nat → Int32) (x1 : Int32) : Option ((Int32) × (Nat → Int32)) := (fnX11_lies F x1.toInt64 (0 : Int64) (2 : Int64)).bind (fun o1 => (if o1 = 0 then some ((-1 : Int32), (upd r71 0 (0 : Int32))) else (if mj_ib x1 3 = true then some ((r72 x1.toNatClampNeg), (upd r71 0 (0 : Int32))) else none)))
set_option maxRecDepth 100000 in
set_option maxHeartbeats 4000000 in
theorem mtX11_status {X : mj_XT} {l : Launch} {G : mj_GT} {ad : Nat → Nat} {Qn : Option Value → mj_IT → mj_LT → Prop} (hR : mj_R X l G mj_P0 mj_S0 98 ad 0 0 Qn) (F : Nat) (I : mj_IT) (L : mj_LT) (r71 : Nat → Int32) (r72 : Nat → Int32) (x1 : Int32) (o : ((Int32) × (Nat → Int32))) (hf : fnX11_status F r71 r72 x1 = some o) (hq : (mj_u2 (fun ov r71 => Qn (some (.int ov)) (mj_rows I [(71, r71), (72, r72)]) L)) o) : mj_W X G RX11 "status" cX11_status 2 2 (some .int) mj_P0 mj_S0 98 ad 0 0 0 [(0, .ref 71), (1, .int x1)] [] (mj_rows I [(71, r71), (72, r72)]) L := by
  unfold fnX11_status at hf
  refine mj_aload_n 0 dX11_status_0 rfl ?_
  refine mj_iconst dX11_status_1 kc_iconst_0 ?_
  refine mj_putIr (ci := 9) (j := 0) [(71, (upd r71 0 (0 : Int32))), (72, r72)] rfl ⟨rfl, rfl⟩ fl_X11_1 rfl rfl s0_71 a0_71 dX11_status_2 ?_
  refine mj_iload_n 1 dX11_status_5 rfl ?_
  refine mj_i2l dX11_status_6 ?_
  refine mj_lconst (v := 0) dX11_status_7 (by decide) ?_
  refine mj_ldc2 kk_X11_281 dX11_status_8 ?_
  obtain ⟨o1, ho1, hf⟩ := mj_bd hf
  refine mj_callSd (I2 := (mj_rows I [(71, (upd r71 0 (0 : Int32))), (72, r72)])) (L2 := L) (s1 := [.int o1]) (st := []) [.long x1.toInt64, .long (0 : Int64), .long (2 : Int64)] (cmX11_lies X.2.1 G F x1.toInt64 (0 : Int64) (2 : Int64) _ _   o1 ho1) rfl rfl cw_X11_157 (by decide) rfl rfl (Nat.le_of_ble_eq_true rfl) ⟨Nat.zero_le _, Nat.zero_le _⟩ dX11_status_11 rfl ?_
  refine mj_if_eq 26 dX11_status_14 (by decide) (fun c2 => ?_) (fun c2 => ?_)
  · replace hf := mj_pos c2 hf
    refine mj_iconst dX11_status_26 kc_iconst_m1 ?_
    obtain rfl := Option.some.inj hf
    have hZ := hq
    replace hZ := mj_u2p hZ
    exact mj_iret hR ⟨Nat.le_refl _, Nat.le_refl _⟩ rfl rfl dX11_status_27 hZ
  · replace hf := mj_neg c2 hf
    refine mj_aload_n 0 dX11_status_17 rfl ?_
    refine mj_getP p0_71_1 (by decide) fl_X11_7 rfl s0_71 a0_71 dX11_status_18 ?_
    refine mj_iload_n 1 dX11_status_21 rfl ?_
    obtain ⟨z3, hf⟩ := mj_ck hf
    refine mj_ialdv (x := r72) rfl s0_72 a0_72 z3 dX11_status_22 ?_
    refine mj_goto 27 dX11_status_23 (by decide) ?_
    obtain rfl := Option.some.inj hf
    have hZ := hq
    replace hZ := mj_u2p hZ
    exact mj_iret hR ⟨Nat.le_refl _, Nat.le_refl _⟩ rfl rfl dX11_status_27 hZ
set_option maxRecDepth 100000 in
set_option maxHeartbeats 4000000 in
theorem cmX11_status (l : Launch) (G : mj_GT) (F : Nat) (x1 : Int32) (I : mj_IT) (L : mj_LT) (r71 : Nat → Int32) (r72 : Nat → Int32) (hr71 : I 71 = r71) (hr72 : I 72 = r72) (o : ((Int32) × (Nat → Int32))) (hf : fnX11_status F r71 r72 x1 = some o) : mj_M l G yX11_status cX11_status 2 2 (some .int) 0 0 mj_P0 mj_S0 98 [.ref 71, .int x1] I L (mj_qd (some (.int o.1)) (mj_rows I [(71, o.2), (72, r72)]) L) := by
  refine mj_in RX11 "status" [(0, .ref 71), (1, .int x1)] rfl rfl rfl (by decide) (Nat.le_of_ble_eq_true rfl) (fun X ad hR => ?_)
  refine mj_toI [(71, r71), (72, r72)] (by intro q hq; simp only [List.mem_cons, List.not_mem_nil, or_false] at hq; rcases hq with rfl | rfl <;> assumption) ?_
  refine mtX11_status hR F I L r71 r72 x1 o hf ?_
  obtain ⟨w0, w1⟩ := o
  refine mj_u2q ?_
  exact ⟨rfl, rfl, rfl⟩

