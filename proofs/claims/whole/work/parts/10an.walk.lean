-- X11_goesOn
def bdX11_goesOn_105 (F : Nat) (r73 : Nat → Int32) (r87 : Nat → Int32) (x1 : Int32) (x2 : Int32) (x3 : Int32) (x4 : Int32) (r71 : Nat → Int32) (r80 : Nat → Int32) (r81 : Nat → Int32) (r82 : Nat → Int32) (r83 : Nat → Int32) (r84 : Nat → Int32) (r85 : Nat → Int32) : Option (((Int32) × (Nat → Int32) × (Nat → Int32) × (Nat → Int32) × (Nat → Int32) × (Nat → Int32) × (Nat → Int32) × (Nat → Int32)) ⊕ ((Nat → Int32) × (Nat → Int32) × (Nat → Int32) × (Nat → Int32) × (Nat → Int32) × (Nat → Int32) × (Nat → Int32))) := (fnX11_of F r73 x2 (2 : Int32)).bind (fun o1 => (if o1 ≤ x4 then some (.inr (r71, r80, r81, r82, r83, r84, r85)) else (fnX11_of F r73 x2 (3 : Int32)).bind (fun o3 => (fnX11_of F r73 x2 (1 : Int32)).bind (fun o4 => (fnX11_with F r87 x3 o4 x4).bind (fun o5 => (fnX11_of F r73 x2 (2 : Int32)).bind (fun o6 => (if o6 = 0 then none else (fnX11_lead F r71 r80 r81 r82 r83 r84 r85 x1 o3 o5 ((60 : Int32) / o6)).bind (fun o8 => some (.inl ((x4 + (1)), o8.1, o8.2.1, o8.2.2.1, o8.2.2.2.1, o8.2.2.2.2.1, o8.2.2.2.2.2.1, o8.2.2.2.2.2.2))))))))))
def jnX11_goesOn_217 (F : Nat) (r73 : Nat → Int32) (r87 : Nat → Int32) (x1 : Int32) (x2 : Int32) (x3 : Int32) (r71 : Nat → Int32) (r80 : Nat → Int32) (r81 : Nat → Int32) (r82 : Nat → Int32) (r83 : Nat → Int32) (r84 : Nat → Int32) (r85 : Nat → Int32) : Option ((Nat → Int32) × (Nat → Int32) × (Nat → Int32) × (Nat → Int32) × (Nat → Int32) × (Nat → Int32) × (Nat → Int32)) := (fnX11_holds F r73 r87 x3 x2).bind (fun o9 => (if o9 = 0 then (fnX11_of F r73 x2 (4 : Int32)).bind (fun o11 => (fnX11_lead F r71 r80 r81 r82 r83 r84 r85 x1 o11 x3 (60 : Int32)).bind (fun o12 => some (o12.1, o12.2.1, o12.2.2.1, o12.2.2.2.1, o12.2.2.2.2.1, o12.2.2.2.2.2.1, o12.2.2.2.2.2.2))) else (fnX11_of F r73 x2 (3 : Int32)).bind (fun o13 => (fnX11_lead F r71 r80 r81 r82 r83 r84 r85 x1 o13 x3 (60 : Int32)).bind (fun o14 => some (o14.1, o14.2.1, o14.2.2.1, o14.2.2.2.1, o14.2.2.2.2.1, o14.2.2.2.2.2.1, o14.2.2.2.2.2.2)))))
def fnX11_goesOn (F : Nat) (r71 : Nat → Int32) (r73 : Nat → Int32) (r80 : Nat → Int32) (r81 : Nat → Int32) (r82 : Nat → Int32) (r83 : Nat → Int32) (r84 : Nat → Int32) (r85 : Nat → Int32) (r87 : Nat → Int32) (x1 : Int32) : Option ((Nat → Int32) × (Nat → Int32) × (Nat → Int32) × (Nat → Int32) × (Nat → Int32) × (Nat → Int32) × (Nat → Int32)) := (if mj_ib x1 200 = true then (if mj_ib x1 200 = true then (fnX11_of F r73 (r80 x1.toNatClampNeg) (0 : Int32)).bind (fun o17 => (if o17 = (0 : Int32) then (fnX11_of F r73 (r80 x1.toNatClampNeg) (3 : Int32)).bind (fun o19 => (fnX11_of F r73 (r80 x1.toNatClampNeg) (1 : Int32)).bind (fun o20 => (fnX11_sumIn F r73 r87 (r81 x1.toNatClampNeg) (((12 : Int32) * (r80 x1.toNatClampNeg)) + (5 : Int32))).bind (fun o21 => (fnX11_with F r87 (r81 x1.toNatClampNeg) o20 o21).bind (fun o22 => (fnX11_lead F r71 r80 r81 r82 r83 r84 r85 x1 o19 o22 (60 : Int32)).bind (fun o23 => some (o23.1, o23.2.1, o23.2.2.1, o23.2.2.2.1, o23.2.2.2.2.1, o23.2.2.2.2.2.1, o23.2.2.2.2.2.2)))))) else (if o17 = (1 : Int32) then (mj_it (mj_u2 (fun z0 => (mj_u2 (fun z1 => (mj_u2 (fun z2 => (mj_u2 (fun z3 => (mj_u2 (fun z4 => (mj_u2 (fun z5 => (mj_u2 (fun z6 z7 => bdX11_goesOn_105 F r73 r87 x1 (r80 x1.toNatClampNeg) (r81 x1.toNatClampNeg) z0 z1 z2 z3 z4 z5 z6 z7)))))))))))))) F ((0 : Int32), r71, r80, r81, r82, r83, r84, r85)).bind (mj_u2 (fun r71_24 => (mj_u2 (fun r80_24 => (mj_u2 (fun r81_24 => (mj_u2 (fun r82_24 => (mj_u2 (fun r83_24 => (mj_u2 (fun r84_24 r85_24 => some (r71_24, r80_24, r81_24, r82_24, r83_24, r84_24, r85_24))))))))))))) else (if o17 = (2 : Int32) then (fnX11_of F r73 (r80 x1.toNatClampNeg) (3 : Int32)).bind (fun o25 => (fnX11_of F r73 (r80 x1.toNatClampNeg) (2 : Int32)).bind (fun o26 => (fnX11_lead F r71 r80 r81 r82 r83 r84 r85 x1 o25 (r81 x1.toNatClampNeg) o26).bind (fun o27 => (fnX11_of F r73 (r80 x1.toNatClampNeg) (4 : Int32)).bind (fun o28 => (fnX11_of F r73 (r80 x1.toNatClampNeg) (2 : Int32)).bind (fun o29 => (fnX11_lead F o27.1 o27.2.1 o27.2.2.1 o27.2.2.2.1 o27.2.2.2.2.1 o27.2.2.2.2.2.1 o27.2.2.2.2.2.2 x1 o28 (r81 x1.toNatClampNeg) ((60 : Int32) - o29)).bind (fun o30 => some (o30.1, o30.2.1, o30.2.2.1, o30.2.2.2.1, o30.2.2.2.2.1, o30.2.2.2.2.2.1, o30.2.2.2.2.2.2))))))) else (if o17 = (3 : Int32) then jnX11_goesOn_217 F r73 r87 x1 (r80 x1.toNatClampNeg) (r81 x1.toNatClampNeg) r71 r80 r81 r82 r83 r84 r85 else (if o17 = (4 : Int32) then jnX11_goesOn_217 F r73 r87 x1 (r80 x1.toNatClampNeg) (r81 x1.toNatClampNeg) r71 r80 r81 r82 r83 r84 r85 else (if o17 = (5 : Int32) then jnX11_goesOn_217 F r73 r87 x1 (r80 x1.toNatClampNeg) (r81 x1.toNatClampNeg) r71 r80 r81 r82 r83 r84 r85 else (if o17 = (6 : Int32) then (fnX11_of F r73 (r80 x1.toNatClampNeg) (3 : Int32)).bind (fun o31 => (fnX11_lead F r71 r80 r81 r82 r83 r84 r85 x1 o31 (r81 x1.toNatClampNeg) (60 : Int32)).bind (fun o32 => some (o32.1, o32.2.1, o32.2.2.1, o32.2.2.2.1, o32.2.2.2.2.1, o32.2.2.2.2.2.1, o32.2.2.2.2.2.2))) else jnX11_goesOn_217 F r73 r87 x1 (r80 x1.toNatClampNeg) (r81 x1.toNatClampNeg) r71 r80 r81 r82 r83 r84 r85)))))))) else none) else none)
set_option maxRecDepth 100000 in
set_option maxHeartbeats 4000000 in
theorem lpX11_goesOn_105 {X : mj_XT} {l : Launch} {G : mj_GT} {ad : Nat → Nat} {Qn : Option Value → mj_IT → mj_LT → Prop} (hR : mj_R X l G mj_P0 mj_S0 98 ad 0 0 Qn) (F : Nat) (I : mj_IT) (L : mj_LT) (r71 : Nat → Int32) (r73 : Nat → Int32) (r80 : Nat → Int32) (r81 : Nat → Int32) (r82 : Nat → Int32) (r83 : Nat → Int32) (r84 : Nat → Int32) (r85 : Nat → Int32) (r87 : Nat → Int32) (x1 : Int32) (x2 : Int32) (x3 : Int32) : ∀ (n : Nat) (s : ((Int32) × (Nat → Int32) × (Nat → Int32) × (Nat → Int32) × (Nat → Int32) × (Nat → Int32) × (Nat → Int32) × (Nat → Int32))) (e : ((Nat → Int32) × (Nat → Int32) × (Nat → Int32) × (Nat → Int32) × (Nat → Int32) × (Nat → Int32) × (Nat → Int32))), mj_it (mj_u2 (fun z0 => (mj_u2 (fun z1 => (mj_u2 (fun z2 => (mj_u2 (fun z3 => (mj_u2 (fun z4 => (mj_u2 (fun z5 => (mj_u2 (fun z6 z7 => bdX11_goesOn_105 F r73 r87 x1 x2 x3 z0 z1 z2 z3 z4 z5 z6 z7)))))))))))))) n s = some e → (mj_u2 (fun r71 => (mj_u2 (fun r80 => (mj_u2 (fun r81 => (mj_u2 (fun r82 => (mj_u2 (fun r83 => (mj_u2 (fun r84 r85 => mj_W X G RX11 "goesOn" cX11_goesOn 5 5 none mj_P0 mj_S0 98 ad 0 0 155 [] [] (mj_rows I [(71, r71), (73, r73), (80, r80), (81, r81), (82, r82), (83, r83), (84, r84), (85, r85), (87, r87)]) L)))))))))))) e → (mj_u2 (fun x4 => (mj_u2 (fun r71 => (mj_u2 (fun r80 => (mj_u2 (fun r81 => (mj_u2 (fun r82 => (mj_u2 (fun r83 => (mj_u2 (fun r84 r85 => mj_W X G RX11 "goesOn" cX11_goesOn 5 5 none mj_P0 mj_S0 98 ad 0 0 105 [(0, .ref 71), (1, .int x1), (2, .int x2), (3, .int x3), (4, .int x4)] [] (mj_rows I [(71, r71), (73, r73), (80, r80), (81, r81), (82, r82), (83, r83), (84, r84), (85, r85), (87, r87)]) L)))))))))))))) s := by
  refine mj_loop (fun s o hf hc hx => ?_)
  obtain ⟨x4, r71, r80, r81, r82, r83, r84, r85⟩ := s
  replace hf := mj_u2e hf
  refine mj_u2q ?_
  replace hf := mj_u2e hf
  refine mj_u2q ?_
  replace hf := mj_u2e hf
  refine mj_u2q ?_
  replace hf := mj_u2e hf
  refine mj_u2q ?_
  replace hf := mj_u2e hf
  refine mj_u2q ?_
  replace hf := mj_u2e hf
  refine mj_u2q ?_
  replace hf := mj_u2e hf
  refine mj_u2q ?_
  unfold bdX11_goesOn_105 at hf
  refine mj_iload 4 dX11_goesOn_105 rfl ?_
  refine mj_aload_n 0 dX11_goesOn_107 rfl ?_
  refine mj_iload_n 2 dX11_goesOn_108 rfl ?_
  refine mj_iconst dX11_goesOn_109 kc_iconst_2 ?_
  obtain ⟨o1, ho1, hf⟩ := mj_bd hf
  refine mj_callVd (I2 := (mj_rows I [(71, r71), (73, r73), (80, r80), (81, r81), (82, r82), (83, r83), (84, r84), (85, r85), (87, r87)])) (L2 := L) (s1 := [.int o1, .int x4]) (st := [.int x4]) [.int x2, .int (2 : Int32)] (cmX11_of X.2.1 G F x2 (2 : Int32) _ _ r73 rfl o1 ho1) (mj_rr rfl) rfl cw_X11_175 s0_71 a0_71 (by decide) rfl rfl (Nat.le_of_ble_eq_true rfl) ⟨Nat.zero_le _, Nat.zero_le _⟩ dX11_goesOn_110 rfl ?_
  refine mj_icmp_ge 155 dX11_goesOn_113 (by decide) (fun c2 => ?_) (fun c2 => ?_)
  · replace hf := mj_pos c2 hf
    refine mj_sub [] [] rfl ?_
    obtain rfl := Option.some.inj hf
    have hZ := hx (r71, r80, r81, r82, r83, r84, r85) rfl
    replace hZ := mj_u2p hZ
    replace hZ := mj_u2p hZ
    replace hZ := mj_u2p hZ
    replace hZ := mj_u2p hZ
    replace hZ := mj_u2p hZ
    replace hZ := mj_u2p hZ
    exact hZ
  · replace hf := mj_neg c2 hf
    refine mj_aload_n 0 dX11_goesOn_116 rfl ?_
    refine mj_iload_n 1 dX11_goesOn_117 rfl ?_
    refine mj_aload_n 0 dX11_goesOn_118 rfl ?_
    refine mj_iload_n 2 dX11_goesOn_119 rfl ?_
    refine mj_iconst dX11_goesOn_120 kc_iconst_3 ?_
    obtain ⟨o3, ho3, hf⟩ := mj_bd hf
    refine mj_callVd (I2 := (mj_rows I [(71, r71), (73, r73), (80, r80), (81, r81), (82, r82), (83, r83), (84, r84), (85, r85), (87, r87)])) (L2 := L) (s1 := [.int o3, .int x1, .ref 71]) (st := [.int x1, .ref 71]) [.int x2, .int (3 : Int32)] (cmX11_of X.2.1 G F x2 (3 : Int32) _ _ r73 rfl o3 ho3) (mj_rr rfl) rfl cw_X11_175 s0_71 a0_71 (by decide) rfl rfl (Nat.le_of_ble_eq_true rfl) ⟨Nat.zero_le _, Nat.zero_le _⟩ dX11_goesOn_121 rfl ?_
    refine mj_aload_n 0 dX11_goesOn_124 rfl ?_
    refine mj_iload_n 3 dX11_goesOn_125 rfl ?_
    refine mj_aload_n 0 dX11_goesOn_126 rfl ?_
    refine mj_iload_n 2 dX11_goesOn_127 rfl ?_
    refine mj_iconst dX11_goesOn_128 kc_iconst_1 ?_
    obtain ⟨o4, ho4, hf⟩ := mj_bd hf
    refine mj_callVd (I2 := (mj_rows I [(71, r71), (73, r73), (80, r80), (81, r81), (82, r82), (83, r83), (84, r84), (85, r85), (87, r87)])) (L2 := L) (s1 := [.int o4, .int x3, .ref 71, .int o3, .int x1, .ref 71]) (st := [.int x3, .ref 71, .int o3, .int x1, .ref 71]) [.int x2, .int (1 : Int32)] (cmX11_of X.2.1 G F x2 (1 : Int32) _ _ r73 rfl o4 ho4) (mj_rr rfl) rfl cw_X11_175 s0_71 a0_71 (by decide) rfl rfl (Nat.le_of_ble_eq_true rfl) ⟨Nat.zero_le _, Nat.zero_le _⟩ dX11_goesOn_129 rfl ?_
    refine mj_iload 4 dX11_goesOn_132 rfl ?_
    obtain ⟨o5, ho5, hf⟩ := mj_bd hf
    refine mj_callVd (I2 := (mj_rows I [(71, r71), (73, r73), (80, r80), (81, r81), (82, r82), (83, r83), (84, r84), (85, r85), (87, r87)])) (L2 := L) (s1 := [.int o5, .int o3, .int x1, .ref 71]) (st := [.int o3, .int x1, .ref 71]) [.int x3, .int o4, .int x4] (cmX11_with X.2.1 G F x3 o4 x4 _ _ r87 rfl o5 ho5) (mj_rr rfl) rfl cw_X11_260 s0_71 a0_71 (by decide) rfl rfl (Nat.le_of_ble_eq_true rfl) ⟨Nat.zero_le _, Nat.zero_le _⟩ dX11_goesOn_134 rfl ?_
    refine mj_bipush dX11_goesOn_137 kc_bipush_60 ?_
    refine mj_aload_n 0 dX11_goesOn_139 rfl ?_
    refine mj_iload_n 2 dX11_goesOn_140 rfl ?_
    refine mj_iconst dX11_goesOn_141 kc_iconst_2 ?_
    obtain ⟨o6, ho6, hf⟩ := mj_bd hf
    refine mj_callVd (I2 := (mj_rows I [(71, r71), (73, r73), (80, r80), (81, r81), (82, r82), (83, r83), (84, r84), (85, r85), (87, r87)])) (L2 := L) (s1 := [.int o6, .int (60 : Int32), .int o5, .int o3, .int x1, .ref 71]) (st := [.int (60 : Int32), .int o5, .int o3, .int x1, .ref 71]) [.int x2, .int (2 : Int32)] (cmX11_of X.2.1 G F x2 (2 : Int32) _ _ r73 rfl o6 ho6) (mj_rr rfl) rfl cw_X11_175 s0_71 a0_71 (by decide) rfl rfl (Nat.le_of_ble_eq_true rfl) ⟨Nat.zero_le _, Nat.zero_le _⟩ dX11_goesOn_142 rfl ?_
    obtain ⟨z7, hf⟩ := mj_nz hf
    refine mj_idiv dX11_goesOn_145 z7 ?_
    obtain ⟨o8, ho8, hf⟩ := mj_bd hf
    refine mj_callVd (I2 := (mj_rows I [(71, o8.1), (73, r73), (80, o8.2.1), (81, o8.2.2.1), (82, o8.2.2.2.1), (83, o8.2.2.2.2.1), (84, o8.2.2.2.2.2.1), (85, o8.2.2.2.2.2.2), (87, r87)])) (L2 := L) (s1 := []) (st := []) [.int x1, .int o3, .int o5, .int ((60 : Int32) / o6)] (cmX11_lead X.2.1 G F x1 o3 o5 ((60 : Int32) / o6) _ _ r71 r80 r81 r82 r83 r84 r85 rfl rfl rfl rfl rfl rfl rfl o8 ho8) (mj_rr rfl) rfl cw_X11_264 s0_71 a0_71 (by decide) rfl rfl (Nat.le_of_ble_eq_true rfl) ⟨Nat.zero_le _, Nat.zero_le _⟩ dX11_goesOn_146 rfl ?_
    refine mj_iinc 4 [(4, .int (x4 + (1))), (0, .ref 71), (1, .int x1), (2, .int x2), (3, .int x3)] dX11_goesOn_149 rfl (kz_1 _) (by decide) rfl ?_
    refine mj_goto 105 dX11_goesOn_152 (by decide) ?_
    refine mj_sub [1, 2, 3, 4, 0] [(0, .ref 71), (1, .int x1), (2, .int x2), (3, .int x3), (4, .int (x4 + (1)))] rfl ?_
    obtain rfl := Option.some.inj hf
    have hZ := hc ((x4 + (1)), o8.1, o8.2.1, o8.2.2.1, o8.2.2.2.1, o8.2.2.2.2.1, o8.2.2.2.2.2.1, o8.2.2.2.2.2.2) rfl
    replace hZ := mj_u2p hZ
    replace hZ := mj_u2p hZ
    replace hZ := mj_u2p hZ
    replace hZ := mj_u2p hZ
    replace hZ := mj_u2p hZ
    replace hZ := mj_u2p hZ
    replace hZ := mj_u2p hZ
    exact hZ
set_option maxRecDepth 100000 in
set_option maxHeartbeats 4000000 in
theorem jtX11_goesOn_217 {X : mj_XT} {l : Launch} {G : mj_GT} {ad : Nat → Nat} {Qn : Option Value → mj_IT → mj_LT → Prop} (hR : mj_R X l G mj_P0 mj_S0 98 ad 0 0 Qn) (F : Nat) (I : mj_IT) (L : mj_LT) (r71 : Nat → Int32) (r73 : Nat → Int32) (r80 : Nat → Int32) (r81 : Nat → Int32) (r82 : Nat → Int32) (r83 : Nat → Int32) (r84 : Nat → Int32) (r85 : Nat → Int32) (r87 : Nat → Int32) (x1 : Int32) (x2 : Int32) (x3 : Int32) (o : ((Nat → Int32) × (Nat → Int32) × (Nat → Int32) × (Nat → Int32) × (Nat → Int32) × (Nat → Int32) × (Nat → Int32))) (hf : jnX11_goesOn_217 F r73 r87 x1 x2 x3 r71 r80 r81 r82 r83 r84 r85 = some o) (hq : (mj_u2 (fun r71 => (mj_u2 (fun r80 => (mj_u2 (fun r81 => (mj_u2 (fun r82 => (mj_u2 (fun r83 => (mj_u2 (fun r84 r85 => Qn none (mj_rows I [(71, r71), (73, r73), (80, r80), (81, r81), (82, r82), (83, r83), (84, r84), (85, r85), (87, r87)]) L)))))))))))) o) : mj_W X G RX11 "goesOn" cX11_goesOn 5 5 none mj_P0 mj_S0 98 ad 0 0 217 [(0, .ref 71), (1, .int x1), (2, .int x2), (3, .int x3)] [] (mj_rows I [(71, r71), (73, r73), (80, r80), (81, r81), (82, r82), (83, r83), (84, r84), (85, r85), (87, r87)]) L := by
  unfold jnX11_goesOn_217 at hf
  refine mj_aload_n 0 dX11_goesOn_217 rfl ?_
  refine mj_iload_n 1 dX11_goesOn_218 rfl ?_
  refine mj_aload_n 0 dX11_goesOn_219 rfl ?_
  refine mj_iload_n 3 dX11_goesOn_220 rfl ?_
  refine mj_iload_n 2 dX11_goesOn_221 rfl ?_
  obtain ⟨o9, ho9, hf⟩ := mj_bd hf
  refine mj_callVd (I2 := (mj_rows I [(71, r71), (73, r73), (80, r80), (81, r81), (82, r82), (83, r83), (84, r84), (85, r85), (87, r87)])) (L2 := L) (s1 := [.int o9, .int x1, .ref 71]) (st := [.int x1, .ref 71]) [.int x3, .int x2] (cmX11_holds X.2.1 G F x3 x2 _ _ r73 r87 rfl rfl o9 ho9) (mj_rr rfl) rfl cw_X11_268 s0_71 a0_71 (by decide) rfl rfl (Nat.le_of_ble_eq_true rfl) ⟨Nat.zero_le _, Nat.zero_le _⟩ dX11_goesOn_222 rfl ?_
  refine mj_if_eq 237 dX11_goesOn_225 (by decide) (fun c10 => ?_) (fun c10 => ?_)
  · replace hf := mj_pos c10 hf
    refine mj_aload_n 0 dX11_goesOn_237 rfl ?_
    refine mj_iload_n 2 dX11_goesOn_238 rfl ?_
    refine mj_iconst dX11_goesOn_239 kc_iconst_4 ?_
    obtain ⟨o11, ho11, hf⟩ := mj_bd hf
    refine mj_callVd (I2 := (mj_rows I [(71, r71), (73, r73), (80, r80), (81, r81), (82, r82), (83, r83), (84, r84), (85, r85), (87, r87)])) (L2 := L) (s1 := [.int o11, .int x1, .ref 71]) (st := [.int x1, .ref 71]) [.int x2, .int (4 : Int32)] (cmX11_of X.2.1 G F x2 (4 : Int32) _ _ r73 rfl o11 ho11) (mj_rr rfl) rfl cw_X11_175 s0_71 a0_71 (by decide) rfl rfl (Nat.le_of_ble_eq_true rfl) ⟨Nat.zero_le _, Nat.zero_le _⟩ dX11_goesOn_240 rfl ?_
    refine mj_iload_n 3 dX11_goesOn_243 rfl ?_
    refine mj_bipush dX11_goesOn_244 kc_bipush_60 ?_
    obtain ⟨o12, ho12, hf⟩ := mj_bd hf
    refine mj_callVd (I2 := (mj_rows I [(71, o12.1), (73, r73), (80, o12.2.1), (81, o12.2.2.1), (82, o12.2.2.2.1), (83, o12.2.2.2.2.1), (84, o12.2.2.2.2.2.1), (85, o12.2.2.2.2.2.2), (87, r87)])) (L2 := L) (s1 := []) (st := []) [.int x1, .int o11, .int x3, .int (60 : Int32)] (cmX11_lead X.2.1 G F x1 o11 x3 (60 : Int32) _ _ r71 r80 r81 r82 r83 r84 r85 rfl rfl rfl rfl rfl rfl rfl o12 ho12) (mj_rr rfl) rfl cw_X11_264 s0_71 a0_71 (by decide) rfl rfl (Nat.le_of_ble_eq_true rfl) ⟨Nat.zero_le _, Nat.zero_le _⟩ dX11_goesOn_246 rfl ?_
    obtain rfl := Option.some.inj hf
    have hZ := hq
    replace hZ := mj_u2p hZ
    replace hZ := mj_u2p hZ
    replace hZ := mj_u2p hZ
    replace hZ := mj_u2p hZ
    replace hZ := mj_u2p hZ
    replace hZ := mj_u2p hZ
    exact mj_vret hR ⟨Nat.le_refl _, Nat.le_refl _⟩ rfl dX11_goesOn_249 hZ
  · replace hf := mj_neg c10 hf
    refine mj_aload_n 0 dX11_goesOn_228 rfl ?_
    refine mj_iload_n 2 dX11_goesOn_229 rfl ?_
    refine mj_iconst dX11_goesOn_230 kc_iconst_3 ?_
    obtain ⟨o13, ho13, hf⟩ := mj_bd hf
    refine mj_callVd (I2 := (mj_rows I [(71, r71), (73, r73), (80, r80), (81, r81), (82, r82), (83, r83), (84, r84), (85, r85), (87, r87)])) (L2 := L) (s1 := [.int o13, .int x1, .ref 71]) (st := [.int x1, .ref 71]) [.int x2, .int (3 : Int32)] (cmX11_of X.2.1 G F x2 (3 : Int32) _ _ r73 rfl o13 ho13) (mj_rr rfl) rfl cw_X11_175 s0_71 a0_71 (by decide) rfl rfl (Nat.le_of_ble_eq_true rfl) ⟨Nat.zero_le _, Nat.zero_le _⟩ dX11_goesOn_231 rfl ?_
    refine mj_goto 243 dX11_goesOn_234 (by decide) ?_
    refine mj_iload_n 3 dX11_goesOn_243 rfl ?_
    refine mj_bipush dX11_goesOn_244 kc_bipush_60 ?_
    obtain ⟨o14, ho14, hf⟩ := mj_bd hf
    refine mj_callVd (I2 := (mj_rows I [(71, o14.1), (73, r73), (80, o14.2.1), (81, o14.2.2.1), (82, o14.2.2.2.1), (83, o14.2.2.2.2.1), (84, o14.2.2.2.2.2.1), (85, o14.2.2.2.2.2.2), (87, r87)])) (L2 := L) (s1 := []) (st := []) [.int x1, .int o13, .int x3, .int (60 : Int32)] (cmX11_lead X.2.1 G F x1 o13 x3 (60 : Int32) _ _ r71 r80 r81 r82 r83 r84 r85 rfl rfl rfl rfl rfl rfl rfl o14 ho14) (mj_rr rfl) rfl cw_X11_264 s0_71 a0_71 (by decide) rfl rfl (Nat.le_of_ble_eq_true rfl) ⟨Nat.zero_le _, Nat.zero_le _⟩ dX11_goesOn_246 rfl ?_
    obtain rfl := Option.some.inj hf
    have hZ := hq
    replace hZ := mj_u2p hZ
    replace hZ := mj_u2p hZ
    replace hZ := mj_u2p hZ
    replace hZ := mj_u2p hZ
    replace hZ := mj_u2p hZ
    replace hZ := mj_u2p hZ
    exact mj_vret hR ⟨Nat.le_refl _, Nat.le_refl _⟩ rfl dX11_goesOn_249 hZ
set_option maxRecDepth 100000 in
set_option maxHeartbeats 4000000 in
theorem mtX11_goesOn {X : mj_XT} {l : Launch} {G : mj_GT} {ad : Nat → Nat} {Qn : Option Value → mj_IT → mj_LT → Prop} (hR : mj_R X l G mj_P0 mj_S0 98 ad 0 0 Qn) (F : Nat) (I : mj_IT) (L : mj_LT) (r71 : Nat → Int32) (r73 : Nat → Int32) (r80 : Nat → Int32) (r81 : Nat → Int32) (r82 : Nat → Int32) (r83 : Nat → Int32) (r84 : Nat → Int32) (r85 : Nat → Int32) (r87 : Nat → Int32) (x1 : Int32) (o : ((Nat → Int32) × (Nat → Int32) × (Nat → Int32) × (Nat → Int32) × (Nat → Int32) × (Nat → Int32) × (Nat → Int32))) (hf : fnX11_goesOn F r71 r73 r80 r81 r82 r83 r84 r85 r87 x1 = some o) (hq : (mj_u2 (fun r71 => (mj_u2 (fun r80 => (mj_u2 (fun r81 => (mj_u2 (fun r82 => (mj_u2 (fun r83 => (mj_u2 (fun r84 r85 => Qn none (mj_rows I [(71, r71), (73, r73), (80, r80), (81, r81), (82, r82), (83, r83), (84, r84), (85, r85), (87, r87)]) L)))))))))))) o) : mj_W X G RX11 "goesOn" cX11_goesOn 5 5 none mj_P0 mj_S0 98 ad 0 0 0 [(0, .ref 71), (1, .int x1)] [] (mj_rows I [(71, r71), (73, r73), (80, r80), (81, r81), (82, r82), (83, r83), (84, r84), (85, r85), (87, r87)]) L := by
  unfold fnX11_goesOn at hf
  refine mj_aload_n 0 dX11_goesOn_0 rfl ?_
  refine mj_getP p0_71_27 (by decide) fl_X11_230 rfl s0_71 a0_71 dX11_goesOn_1 ?_
  refine mj_iload_n 1 dX11_goesOn_4 rfl ?_
  obtain ⟨z15, hf⟩ := mj_ck hf
  refine mj_ialdv (x := r80) rfl s0_80 a0_80 z15 dX11_goesOn_5 ?_
  refine mj_istore_n [(2, .int (r80 x1.toNatClampNeg)), (0, .ref 71), (1, .int x1)] dX11_goesOn_6 rfl (by decide) rfl ?_
  refine mj_aload_n 1 dX11_goesOn_7 rfl ?_
  refine mj_getP p0_71_28 (by decide) fl_X11_233 rfl s0_71 a0_71 dX11_goesOn_8 ?_
  refine mj_iload_n 2 dX11_goesOn_11 rfl ?_
  obtain ⟨z16, hf⟩ := mj_ck hf
  refine mj_ialdv (x := r81) rfl s0_81 a0_81 z16 dX11_goesOn_12 ?_
  refine mj_istore_n [(3, .int (r81 x1.toNatClampNeg)), (2, .int (r80 x1.toNatClampNeg)), (0, .ref 71), (1, .int x1)] dX11_goesOn_13 rfl (by decide) rfl ?_
  refine mj_aload_n 2 dX11_goesOn_14 rfl ?_
  refine mj_iload_n 1 dX11_goesOn_15 rfl ?_
  refine mj_iconst dX11_goesOn_16 kc_iconst_0 ?_
  obtain ⟨o17, ho17, hf⟩ := mj_bd hf
  refine mj_callVd (I2 := (mj_rows I [(71, r71), (73, r73), (80, r80), (81, r81), (82, r82), (83, r83), (84, r84), (85, r85), (87, r87)])) (L2 := L) (s1 := [.int o17]) (st := []) [.int (r80 x1.toNatClampNeg), .int (0 : Int32)] (cmX11_of X.2.1 G F (r80 x1.toNatClampNeg) (0 : Int32) _ _ r73 rfl o17 ho17) (mj_rr rfl) rfl cw_X11_175 s0_71 a0_71 (by decide) rfl rfl (Nat.le_of_ble_eq_true rfl) ⟨Nat.zero_le _, Nat.zero_le _⟩ dX11_goesOn_17 rfl ?_
  by_cases c18_0 : o17 = (0 : Int32)
  · replace hf := mj_pos c18_0 hf
    refine mj_tsI (off := 44) 64 c18_0 dX11_goesOn_20 (by decide) (by decide) (by decide) (by decide) ?_
    refine mj_aload_n 2 dX11_goesOn_64 rfl ?_
    refine mj_iload_n 3 dX11_goesOn_65 rfl ?_
    refine mj_aload_n 2 dX11_goesOn_66 rfl ?_
    refine mj_iload_n 1 dX11_goesOn_67 rfl ?_
    refine mj_iconst dX11_goesOn_68 kc_iconst_3 ?_
    obtain ⟨o19, ho19, hf⟩ := mj_bd hf
    refine mj_callVd (I2 := (mj_rows I [(71, r71), (73, r73), (80, r80), (81, r81), (82, r82), (83, r83), (84, r84), (85, r85), (87, r87)])) (L2 := L) (s1 := [.int o19, .int x1, .ref 71]) (st := [.int x1, .ref 71]) [.int (r80 x1.toNatClampNeg), .int (3 : Int32)] (cmX11_of X.2.1 G F (r80 x1.toNatClampNeg) (3 : Int32) _ _ r73 rfl o19 ho19) (mj_rr rfl) rfl cw_X11_175 s0_71 a0_71 (by decide) rfl rfl (Nat.le_of_ble_eq_true rfl) ⟨Nat.zero_le _, Nat.zero_le _⟩ dX11_goesOn_69 rfl ?_
    refine mj_aload_n 2 dX11_goesOn_72 rfl ?_
    refine mj_iload_n 0 dX11_goesOn_73 rfl ?_
    refine mj_aload_n 2 dX11_goesOn_74 rfl ?_
    refine mj_iload_n 1 dX11_goesOn_75 rfl ?_
    refine mj_iconst dX11_goesOn_76 kc_iconst_1 ?_
    obtain ⟨o20, ho20, hf⟩ := mj_bd hf
    refine mj_callVd (I2 := (mj_rows I [(71, r71), (73, r73), (80, r80), (81, r81), (82, r82), (83, r83), (84, r84), (85, r85), (87, r87)])) (L2 := L) (s1 := [.int o20, .int (r81 x1.toNatClampNeg), .ref 71, .int o19, .int x1, .ref 71]) (st := [.int (r81 x1.toNatClampNeg), .ref 71, .int o19, .int x1, .ref 71]) [.int (r80 x1.toNatClampNeg), .int (1 : Int32)] (cmX11_of X.2.1 G F (r80 x1.toNatClampNeg) (1 : Int32) _ _ r73 rfl o20 ho20) (mj_rr rfl) rfl cw_X11_175 s0_71 a0_71 (by decide) rfl rfl (Nat.le_of_ble_eq_true rfl) ⟨Nat.zero_le _, Nat.zero_le _⟩ dX11_goesOn_77 rfl ?_
    refine mj_aload_n 2 dX11_goesOn_80 rfl ?_
    refine mj_iload_n 0 dX11_goesOn_81 rfl ?_
    refine mj_bipush dX11_goesOn_82 kc_bipush_12 ?_
    refine mj_iload_n 1 dX11_goesOn_84 rfl ?_
    refine mj_imul dX11_goesOn_85 ?_
    refine mj_iconst dX11_goesOn_86 kc_iconst_5 ?_
    refine mj_iadd dX11_goesOn_87 ?_
    obtain ⟨o21, ho21, hf⟩ := mj_bd hf
    refine mj_callVd (I2 := (mj_rows I [(71, r71), (73, r73), (80, r80), (81, r81), (82, r82), (83, r83), (84, r84), (85, r85), (87, r87)])) (L2 := L) (s1 := [.int o21, .int o20, .int (r81 x1.toNatClampNeg), .ref 71, .int o19, .int x1, .ref 71]) (st := [.int o20, .int (r81 x1.toNatClampNeg), .ref 71, .int o19, .int x1, .ref 71]) [.int (r81 x1.toNatClampNeg), .int (((12 : Int32) * (r80 x1.toNatClampNeg)) + (5 : Int32))] (cmX11_sumIn X.2.1 G F (r81 x1.toNatClampNeg) (((12 : Int32) * (r80 x1.toNatClampNeg)) + (5 : Int32)) _ _ r73 r87 rfl rfl o21 ho21) (mj_rr rfl) rfl cw_X11_224 s0_71 a0_71 (by decide) rfl rfl (Nat.le_of_ble_eq_true rfl) ⟨Nat.zero_le _, Nat.zero_le _⟩ dX11_goesOn_88 rfl ?_
    obtain ⟨o22, ho22, hf⟩ := mj_bd hf
    refine mj_callVd (I2 := (mj_rows I [(71, r71), (73, r73), (80, r80), (81, r81), (82, r82), (83, r83), (84, r84), (85, r85), (87, r87)])) (L2 := L) (s1 := [.int o22, .int o19, .int x1, .ref 71]) (st := [.int o19, .int x1, .ref 71]) [.int (r81 x1.toNatClampNeg), .int o20, .int o21] (cmX11_with X.2.1 G F (r81 x1.toNatClampNeg) o20 o21 _ _ r87 rfl o22 ho22) (mj_rr rfl) rfl cw_X11_260 s0_71 a0_71 (by decide) rfl rfl (Nat.le_of_ble_eq_true rfl) ⟨Nat.zero_le _, Nat.zero_le _⟩ dX11_goesOn_91 rfl ?_
    refine mj_bipush dX11_goesOn_94 kc_bipush_60 ?_
    obtain ⟨o23, ho23, hf⟩ := mj_bd hf
    refine mj_callVd (I2 := (mj_rows I [(71, o23.1), (73, r73), (80, o23.2.1), (81, o23.2.2.1), (82, o23.2.2.2.1), (83, o23.2.2.2.2.1), (84, o23.2.2.2.2.2.1), (85, o23.2.2.2.2.2.2), (87, r87)])) (L2 := L) (s1 := []) (st := []) [.int x1, .int o19, .int o22, .int (60 : Int32)] (cmX11_lead X.2.1 G F x1 o19 o22 (60 : Int32) _ _ r71 r80 r81 r82 r83 r84 r85 rfl rfl rfl rfl rfl rfl rfl o23 ho23) (mj_rr rfl) rfl cw_X11_264 s0_71 a0_71 (by decide) rfl rfl (Nat.le_of_ble_eq_true rfl) ⟨Nat.zero_le _, Nat.zero_le _⟩ dX11_goesOn_96 rfl ?_
    refine mj_goto 249 dX11_goesOn_99 (by decide) ?_
    obtain rfl := Option.some.inj hf
    have hZ := hq
    replace hZ := mj_u2p hZ
    replace hZ := mj_u2p hZ
    replace hZ := mj_u2p hZ
    replace hZ := mj_u2p hZ
    replace hZ := mj_u2p hZ
    replace hZ := mj_u2p hZ
    exact mj_vret hR ⟨Nat.le_refl _, Nat.le_refl _⟩ rfl dX11_goesOn_249 hZ
  · replace hf := mj_neg c18_0 hf
    by_cases c18_1 : o17 = (1 : Int32)
    · replace hf := mj_pos c18_1 hf
      refine mj_tsI (off := 82) 102 c18_1 dX11_goesOn_20 (by decide) (by decide) (by decide) (by decide) ?_
      refine mj_iconst dX11_goesOn_102 kc_iconst_0 ?_
      refine mj_istore [(4, .int (0 : Int32)), (3, .int (r81 x1.toNatClampNeg)), (2, .int (r80 x1.toNatClampNeg)), (0, .ref 71), (1, .int x1)] dX11_goesOn_103 (by decide) rfl ?_
      refine mj_sub [3, 4, 2, 1, 0] [(0, .ref 71), (1, .int x1), (2, .int (r80 x1.toNatClampNeg)), (3, .int (r81 x1.toNatClampNeg)), (4, .int (0 : Int32))] rfl ?_
      obtain ⟨e24, ho24, hf⟩ := mj_bd hf
      refine lpX11_goesOn_105 hR F I L r71 r73 r80 r81 r82 r83 r84 r85 r87 x1 (r80 x1.toNatClampNeg) (r81 x1.toNatClampNeg) F ((0 : Int32), r71, r80, r81, r82, r83, r84, r85) e24 ho24 ?_
      obtain ⟨r71_24, r80_24, r81_24, r82_24, r83_24, r84_24, r85_24⟩ := e24
      replace hf := mj_u2e hf
      replace hf := mj_u2e hf
      replace hf := mj_u2e hf
      replace hf := mj_u2e hf
      replace hf := mj_u2e hf
      replace hf := mj_u2e hf
      refine ?_
      refine mj_u2q ?_
      refine mj_u2q ?_
      refine mj_u2q ?_
      refine mj_u2q ?_
      refine mj_u2q ?_
      refine mj_u2q ?_
      refine mj_goto 249 dX11_goesOn_155 (by decide) ?_
      obtain rfl := Option.some.inj hf
      have hZ := hq
      replace hZ := mj_u2p hZ
      replace hZ := mj_u2p hZ
      replace hZ := mj_u2p hZ
      replace hZ := mj_u2p hZ
      replace hZ := mj_u2p hZ
      replace hZ := mj_u2p hZ
      exact mj_vret hR ⟨Nat.le_refl _, Nat.le_refl _⟩ rfl dX11_goesOn_249 hZ
    · replace hf := mj_neg c18_1 hf
      by_cases c18_2 : o17 = (2 : Int32)
      · replace hf := mj_pos c18_2 hf
        refine mj_tsI (off := 138) 158 c18_2 dX11_goesOn_20 (by decide) (by decide) (by decide) (by decide) ?_
        refine mj_aload_n 2 dX11_goesOn_158 rfl ?_
        refine mj_iload_n 3 dX11_goesOn_159 rfl ?_
        refine mj_aload_n 2 dX11_goesOn_160 rfl ?_
        refine mj_iload_n 1 dX11_goesOn_161 rfl ?_
        refine mj_iconst dX11_goesOn_162 kc_iconst_3 ?_
        obtain ⟨o25, ho25, hf⟩ := mj_bd hf
        refine mj_callVd (I2 := (mj_rows I [(71, r71), (73, r73), (80, r80), (81, r81), (82, r82), (83, r83), (84, r84), (85, r85), (87, r87)])) (L2 := L) (s1 := [.int o25, .int x1, .ref 71]) (st := [.int x1, .ref 71]) [.int (r80 x1.toNatClampNeg), .int (3 : Int32)] (cmX11_of X.2.1 G F (r80 x1.toNatClampNeg) (3 : Int32) _ _ r73 rfl o25 ho25) (mj_rr rfl) rfl cw_X11_175 s0_71 a0_71 (by decide) rfl rfl (Nat.le_of_ble_eq_true rfl) ⟨Nat.zero_le _, Nat.zero_le _⟩ dX11_goesOn_163 rfl ?_
        refine mj_iload_n 0 dX11_goesOn_166 rfl ?_
        refine mj_aload_n 2 dX11_goesOn_167 rfl ?_
        refine mj_iload_n 1 dX11_goesOn_168 rfl ?_
        refine mj_iconst dX11_goesOn_169 kc_iconst_2 ?_
        obtain ⟨o26, ho26, hf⟩ := mj_bd hf
        refine mj_callVd (I2 := (mj_rows I [(71, r71), (73, r73), (80, r80), (81, r81), (82, r82), (83, r83), (84, r84), (85, r85), (87, r87)])) (L2 := L) (s1 := [.int o26, .int (r81 x1.toNatClampNeg), .int o25, .int x1, .ref 71]) (st := [.int (r81 x1.toNatClampNeg), .int o25, .int x1, .ref 71]) [.int (r80 x1.toNatClampNeg), .int (2 : Int32)] (cmX11_of X.2.1 G F (r80 x1.toNatClampNeg) (2 : Int32) _ _ r73 rfl o26 ho26) (mj_rr rfl) rfl cw_X11_175 s0_71 a0_71 (by decide) rfl rfl (Nat.le_of_ble_eq_true rfl) ⟨Nat.zero_le _, Nat.zero_le _⟩ dX11_goesOn_170 rfl ?_
        obtain ⟨o27, ho27, hf⟩ := mj_bd hf
        refine mj_callVd (I2 := (mj_rows I [(71, o27.1), (73, r73), (80, o27.2.1), (81, o27.2.2.1), (82, o27.2.2.2.1), (83, o27.2.2.2.2.1), (84, o27.2.2.2.2.2.1), (85, o27.2.2.2.2.2.2), (87, r87)])) (L2 := L) (s1 := []) (st := []) [.int x1, .int o25, .int (r81 x1.toNatClampNeg), .int o26] (cmX11_lead X.2.1 G F x1 o25 (r81 x1.toNatClampNeg) o26 _ _ r71 r80 r81 r82 r83 r84 r85 rfl rfl rfl rfl rfl rfl rfl o27 ho27) (mj_rr rfl) rfl cw_X11_264 s0_71 a0_71 (by decide) rfl rfl (Nat.le_of_ble_eq_true rfl) ⟨Nat.zero_le _, Nat.zero_le _⟩ dX11_goesOn_173 rfl ?_
        refine mj_aload_n 2 dX11_goesOn_176 rfl ?_
        refine mj_iload_n 3 dX11_goesOn_177 rfl ?_
        refine mj_aload_n 2 dX11_goesOn_178 rfl ?_
        refine mj_iload_n 1 dX11_goesOn_179 rfl ?_
        refine mj_iconst dX11_goesOn_180 kc_iconst_4 ?_
        obtain ⟨o28, ho28, hf⟩ := mj_bd hf
        refine mj_callVd (I2 := (mj_rows I [(71, o27.1), (73, r73), (80, o27.2.1), (81, o27.2.2.1), (82, o27.2.2.2.1), (83, o27.2.2.2.2.1), (84, o27.2.2.2.2.2.1), (85, o27.2.2.2.2.2.2), (87, r87)])) (L2 := L) (s1 := [.int o28, .int x1, .ref 71]) (st := [.int x1, .ref 71]) [.int (r80 x1.toNatClampNeg), .int (4 : Int32)] (cmX11_of X.2.1 G F (r80 x1.toNatClampNeg) (4 : Int32) _ _ r73 rfl o28 ho28) (mj_rr rfl) rfl cw_X11_175 s0_71 a0_71 (by decide) rfl rfl (Nat.le_of_ble_eq_true rfl) ⟨Nat.zero_le _, Nat.zero_le _⟩ dX11_goesOn_181 rfl ?_
        refine mj_iload_n 0 dX11_goesOn_184 rfl ?_
        refine mj_bipush dX11_goesOn_185 kc_bipush_60 ?_
        refine mj_aload_n 2 dX11_goesOn_187 rfl ?_
        refine mj_iload_n 1 dX11_goesOn_188 rfl ?_
        refine mj_iconst dX11_goesOn_189 kc_iconst_2 ?_
        obtain ⟨o29, ho29, hf⟩ := mj_bd hf
        refine mj_callVd (I2 := (mj_rows I [(71, o27.1), (73, r73), (80, o27.2.1), (81, o27.2.2.1), (82, o27.2.2.2.1), (83, o27.2.2.2.2.1), (84, o27.2.2.2.2.2.1), (85, o27.2.2.2.2.2.2), (87, r87)])) (L2 := L) (s1 := [.int o29, .int (60 : Int32), .int (r81 x1.toNatClampNeg), .int o28, .int x1, .ref 71]) (st := [.int (60 : Int32), .int (r81 x1.toNatClampNeg), .int o28, .int x1, .ref 71]) [.int (r80 x1.toNatClampNeg), .int (2 : Int32)] (cmX11_of X.2.1 G F (r80 x1.toNatClampNeg) (2 : Int32) _ _ r73 rfl o29 ho29) (mj_rr rfl) rfl cw_X11_175 s0_71 a0_71 (by decide) rfl rfl (Nat.le_of_ble_eq_true rfl) ⟨Nat.zero_le _, Nat.zero_le _⟩ dX11_goesOn_190 rfl ?_
        refine mj_isub dX11_goesOn_193 ?_
        obtain ⟨o30, ho30, hf⟩ := mj_bd hf
        refine mj_callVd (I2 := (mj_rows I [(71, o30.1), (73, r73), (80, o30.2.1), (81, o30.2.2.1), (82, o30.2.2.2.1), (83, o30.2.2.2.2.1), (84, o30.2.2.2.2.2.1), (85, o30.2.2.2.2.2.2), (87, r87)])) (L2 := L) (s1 := []) (st := []) [.int x1, .int o28, .int (r81 x1.toNatClampNeg), .int ((60 : Int32) - o29)] (cmX11_lead X.2.1 G F x1 o28 (r81 x1.toNatClampNeg) ((60 : Int32) - o29) _ _ o27.1 o27.2.1 o27.2.2.1 o27.2.2.2.1 o27.2.2.2.2.1 o27.2.2.2.2.2.1 o27.2.2.2.2.2.2 rfl rfl rfl rfl rfl rfl rfl o30 ho30) (mj_rr rfl) rfl cw_X11_264 s0_71 a0_71 (by decide) rfl rfl (Nat.le_of_ble_eq_true rfl) ⟨Nat.zero_le _, Nat.zero_le _⟩ dX11_goesOn_194 rfl ?_
        refine mj_goto 249 dX11_goesOn_197 (by decide) ?_
        obtain rfl := Option.some.inj hf
        have hZ := hq
        replace hZ := mj_u2p hZ
        replace hZ := mj_u2p hZ
        replace hZ := mj_u2p hZ
        replace hZ := mj_u2p hZ
        replace hZ := mj_u2p hZ
        replace hZ := mj_u2p hZ
        exact mj_vret hR ⟨Nat.le_refl _, Nat.le_refl _⟩ rfl dX11_goesOn_249 hZ
      · replace hf := mj_neg c18_2 hf
        by_cases c18_3 : o17 = (3 : Int32)
        · replace hf := mj_pos c18_3 hf
          refine mj_tsI (off := 197) 217 c18_3 dX11_goesOn_20 (by decide) (by decide) (by decide) (by decide) ?_
          refine mj_sub [2, 3, 1, 0] [(0, .ref 71), (1, .int x1), (2, .int (r80 x1.toNatClampNeg)), (3, .int (r81 x1.toNatClampNeg))] rfl ?_
          exact jtX11_goesOn_217 hR F I L r71 r73 r80 r81 r82 r83 r84 r85 r87 x1 (r80 x1.toNatClampNeg) (r81 x1.toNatClampNeg) o hf hq
        · replace hf := mj_neg c18_3 hf
          by_cases c18_4 : o17 = (4 : Int32)
          · replace hf := mj_pos c18_4 hf
            refine mj_tsI (off := 197) 217 c18_4 dX11_goesOn_20 (by decide) (by decide) (by decide) (by decide) ?_
            refine mj_sub [2, 3, 1, 0] [(0, .ref 71), (1, .int x1), (2, .int (r80 x1.toNatClampNeg)), (3, .int (r81 x1.toNatClampNeg))] rfl ?_
            exact jtX11_goesOn_217 hR F I L r71 r73 r80 r81 r82 r83 r84 r85 r87 x1 (r80 x1.toNatClampNeg) (r81 x1.toNatClampNeg) o hf hq
          · replace hf := mj_neg c18_4 hf
            by_cases c18_5 : o17 = (5 : Int32)
            · replace hf := mj_pos c18_5 hf
              refine mj_tsI (off := 197) 217 c18_5 dX11_goesOn_20 (by decide) (by decide) (by decide) (by decide) ?_
              refine mj_sub [2, 3, 1, 0] [(0, .ref 71), (1, .int x1), (2, .int (r80 x1.toNatClampNeg)), (3, .int (r81 x1.toNatClampNeg))] rfl ?_
              exact jtX11_goesOn_217 hR F I L r71 r73 r80 r81 r82 r83 r84 r85 r87 x1 (r80 x1.toNatClampNeg) (r81 x1.toNatClampNeg) o hf hq
            · replace hf := mj_neg c18_5 hf
              by_cases c18_6 : o17 = (6 : Int32)
              · replace hf := mj_pos c18_6 hf
                refine mj_tsI (off := 180) 200 c18_6 dX11_goesOn_20 (by decide) (by decide) (by decide) (by decide) ?_
                refine mj_aload_n 2 dX11_goesOn_200 rfl ?_
                refine mj_iload_n 3 dX11_goesOn_201 rfl ?_
                refine mj_aload_n 2 dX11_goesOn_202 rfl ?_
                refine mj_iload_n 1 dX11_goesOn_203 rfl ?_
                refine mj_iconst dX11_goesOn_204 kc_iconst_3 ?_
                obtain ⟨o31, ho31, hf⟩ := mj_bd hf
                refine mj_callVd (I2 := (mj_rows I [(71, r71), (73, r73), (80, r80), (81, r81), (82, r82), (83, r83), (84, r84), (85, r85), (87, r87)])) (L2 := L) (s1 := [.int o31, .int x1, .ref 71]) (st := [.int x1, .ref 71]) [.int (r80 x1.toNatClampNeg), .int (3 : Int32)] (cmX11_of X.2.1 G F (r80 x1.toNatClampNeg) (3 : Int32) _ _ r73 rfl o31 ho31) (mj_rr rfl) rfl cw_X11_175 s0_71 a0_71 (by decide) rfl rfl (Nat.le_of_ble_eq_true rfl) ⟨Nat.zero_le _, Nat.zero_le _⟩ dX11_goesOn_205 rfl ?_
                refine mj_iload_n 0 dX11_goesOn_208 rfl ?_
                refine mj_bipush dX11_goesOn_209 kc_bipush_60 ?_
                obtain ⟨o32, ho32, hf⟩ := mj_bd hf
                refine mj_callVd (I2 := (mj_rows I [(71, o32.1), (73, r73), (80, o32.2.1), (81, o32.2.2.1), (82, o32.2.2.2.1), (83, o32.2.2.2.2.1), (84, o32.2.2.2.2.2.1), (85, o32.2.2.2.2.2.2), (87, r87)])) (L2 := L) (s1 := []) (st := []) [.int x1, .int o31, .int (r81 x1.toNatClampNeg), .int (60 : Int32)] (cmX11_lead X.2.1 G F x1 o31 (r81 x1.toNatClampNeg) (60 : Int32) _ _ r71 r80 r81 r82 r83 r84 r85 rfl rfl rfl rfl rfl rfl rfl o32 ho32) (mj_rr rfl) rfl cw_X11_264 s0_71 a0_71 (by decide) rfl rfl (Nat.le_of_ble_eq_true rfl) ⟨Nat.zero_le _, Nat.zero_le _⟩ dX11_goesOn_211 rfl ?_
                refine mj_goto 249 dX11_goesOn_214 (by decide) ?_
                obtain rfl := Option.some.inj hf
                have hZ := hq
                replace hZ := mj_u2p hZ
                replace hZ := mj_u2p hZ
                replace hZ := mj_u2p hZ
                replace hZ := mj_u2p hZ
                replace hZ := mj_u2p hZ
                replace hZ := mj_u2p hZ
                exact mj_vret hR ⟨Nat.le_refl _, Nat.le_refl _⟩ rfl dX11_goesOn_249 hZ
              · replace hf := mj_neg c18_6 hf
                refine mj_tsO 217 (ts_0_6 _ c18_0 c18_1 c18_2 c18_3 c18_4 c18_5 c18_6) dX11_goesOn_20 (by decide) ?_
                refine mj_sub [2, 3, 1, 0] [(0, .ref 71), (1, .int x1), (2, .int (r80 x1.toNatClampNeg)), (3, .int (r81 x1.toNatClampNeg))] rfl ?_
                exact jtX11_goesOn_217 hR F I L r71 r73 r80 r81 r82 r83 r84 r85 r87 x1 (r80 x1.toNatClampNeg) (r81 x1.toNatClampNeg) o hf hq
set_option maxRecDepth 100000 in
set_option maxHeartbeats 4000000 in
theorem cmX11_goesOn (l : Launch) (G : mj_GT) (F : Nat) (x1 : Int32) (I : mj_IT) (L : mj_LT) (r71 : Nat → Int32) (r73 : Nat → Int32) (r80 : Nat → Int32) (r81 : Nat → Int32) (r82 : Nat → Int32) (r83 : Nat → Int32) (r84 : Nat → Int32) (r85 : Nat → Int32) (r87 : Nat → Int32) (hr71 : I 71 = r71) (hr73 : I 73 = r73) (hr80 : I 80 = r80) (hr81 : I 81 = r81) (hr82 : I 82 = r82) (hr83 : I 83 = r83) (hr84 : I 84 = r84) (hr85 : I 85 = r85) (hr87 : I 87 = r87) (o : ((Nat → Int32) × (Nat → Int32) × (Nat → Int32) × (Nat → Int32) × (Nat → Int32) × (Nat → Int32) × (Nat → Int32))) (hf : fnX11_goesOn F r71 r73 r80 r81 r82 r83 r84 r85 r87 x1 = some o) : mj_M l G yX11_goesOn cX11_goesOn 5 5 none 0 0 mj_P0 mj_S0 98 [.ref 71, .int x1] I L (mj_qd none (mj_rows I [(71, o.1), (73, r73), (80, o.2.1), (81, o.2.2.1), (82, o.2.2.2.1), (83, o.2.2.2.2.1), (84, o.2.2.2.2.2.1), (85, o.2.2.2.2.2.2), (87, r87)]) L) := by
  refine mj_in RX11 "goesOn" [(0, .ref 71), (1, .int x1)] rfl rfl rfl (by decide) (Nat.le_of_ble_eq_true rfl) (fun X ad hR => ?_)
  refine mj_toI [(71, r71), (73, r73), (80, r80), (81, r81), (82, r82), (83, r83), (84, r84), (85, r85), (87, r87)] (by intro q hq; simp only [List.mem_cons, List.not_mem_nil, or_false] at hq; rcases hq with rfl | rfl | rfl | rfl | rfl | rfl | rfl | rfl | rfl <;> assumption) ?_
  refine mtX11_goesOn hR F I L r71 r73 r80 r81 r82 r83 r84 r85 r87 x1 o hf ?_
  obtain ⟨w0, w1, w2, w3, w4, w5, w6⟩ := o
  refine mj_u2q ?_
  refine mj_u2q ?_
  refine mj_u2q ?_
  refine mj_u2q ?_
  refine mj_u2q ?_
  refine mj_u2q ?_
  exact ⟨rfl, rfl, rfl⟩

-- X11_lays
def bdX11_lays_32 (F : Nat) (r75 : Nat → Int32) (r87 : Nat → Int32) (x1 : Int32) (x2 : Int32) : Option (((Int32) × (Int32)) ⊕ ((Int32))) := (if (6 : Int32) ≤ x2 then some (.inr x1) else (if mj_ib x2 6 = true then (fnX11_with F r87 x1 x2 (r75 x2.toNatClampNeg)).bind (fun o3 => some (.inl (o3, (x2 + (1))))) else none))
def bdX11_lays_66 (F : Nat) (r73 : Nat → Int32) (r87 : Nat → Int32) (x2 : Int32) (r71 : Nat → Int32) (r80 : Nat → Int32) (r81 : Nat → Int32) (r82 : Nat → Int32) (r83 : Nat → Int32) (r84 : Nat → Int32) (r85 : Nat → Int32) : Option (((Int32) × (Nat → Int32) × (Nat → Int32) × (Nat → Int32) × (Nat → Int32) × (Nat → Int32) × (Nat → Int32) × (Nat → Int32)) ⊕ ((Nat → Int32) × (Nat → Int32) × (Nat → Int32) × (Nat → Int32) × (Nat → Int32) × (Nat → Int32) × (Nat → Int32))) := (if (r71 24) ≤ x2 then some (.inr (r71, r80, r81, r82, r83, r84, r85)) else (if (r71 21) = 0 then (if mj_ib x2 200 = true then (if mj_ib x2 200 = true then (if (r71 4) ≤ (r80 x2.toNatClampNeg) then some (.inl ((x2 + (1)), r71, r80, r81, r82, (upd r83 x2.toNatClampNeg (0 : Int32)), r84, r85)) else (fnX11_goesOn F r71 r73 r80 r81 r82 (upd r83 x2.toNatClampNeg (0 : Int32)) r84 r85 r87 x2).bind (fun o9 => some (.inl ((x2 + (1)), o9.1, o9.2.1, o9.2.2.1, o9.2.2.2.1, o9.2.2.2.2.1, o9.2.2.2.2.2.1, o9.2.2.2.2.2.2)))) else none) else none) else some (.inr (r71, r80, r81, r82, r83, r84, r85))))
def bdX11_lays_114 (F : Nat) (r71 : Nat → Int32) (r80 : Nat → Int32) (x2 : Int32) (r86 : Nat → Int32) : Option (((Int32) × (Nat → Int32)) ⊕ ((Nat → Int32))) := (if (r71 24) ≤ x2 then some (.inr r86) else (if mj_ib x2 200 = true then (if (r80 x2.toNatClampNeg) < (r71 4) then (if mj_ib x2 200 = true then some (.inl ((x2 + (1)), (upd r86 x2.toNatClampNeg (vp_nar .boolean (0 : Int32))))) else none) else (if mj_ib x2 200 = true then some (.inl ((x2 + (1)), (upd r86 x2.toNatClampNeg (vp_nar .boolean (1 : Int32))))) else none)) else none))
def bdX11_lays_184 (F : Nat) (r83 : Nat → Int32) (r84 : Nat → Int32) (x3 : Int32) (x2 : Int32) (x4 : Int32) (r86 : Nat → Int32) : Option (((Int32) × (Int32) × (Nat → Int32)) ⊕ ((Int32) × (Nat → Int32))) := (if mj_ib x3 200 = true then (if (r83 x3.toNatClampNeg) ≤ x4 then some (.inr (x2, r86)) else (if mj_ib x3 200 = true then (if (r86 x3.toNatClampNeg) = 0 then (if mj_ib (((10 : Int32) * x3) + x4) 2000 = true then (if mj_ib (r84 ((((10 : Int32) * x3) + x4).toNatClampNeg)) 200 = true then (if (r86 ((r84 ((((10 : Int32) * x3) + x4).toNatClampNeg)).toNatClampNeg)) = 0 then some (.inl (x2, (x4 + (1)), r86)) else (if mj_ib x3 200 = true then some (.inl ((1 : Int32), (x4 + (1)), (upd r86 x3.toNatClampNeg (vp_nar .boolean (1 : Int32))))) else none)) else none) else none) else some (.inl (x2, (x4 + (1)), r86))) else none)) else none)
def bdX11_lays_173 (F : Nat) (r71 : Nat → Int32) (r83 : Nat → Int32) (r84 : Nat → Int32) (x2 : Int32) (x3 : Int32) (r86 : Nat → Int32) : Option (((Int32) × (Int32) × (Nat → Int32)) ⊕ ((Int32) × (Nat → Int32))) := (if (r71 24) ≤ x3 then some (.inr (x2, r86)) else (mj_it (mj_u2 (fun z0 => (mj_u2 (fun z1 z2 => bdX11_lays_184 F r83 r84 x3 z0 z1 z2)))) F (x2, (0 : Int32), r86)).bind (mj_u2 (fun x2_24 r86_24 => some (.inl (x2_24, (x3 + (1)), r86_24)))))
def bdX11_lays_165 (F : Nat) (r71 : Nat → Int32) (r83 : Nat → Int32) (r84 : Nat → Int32) (x2 : Int32) (r86 : Nat → Int32) : Option (((Int32) × (Nat → Int32)) ⊕ ((Nat → Int32))) := (if x2 = 0 then some (.inr r86) else (mj_it (mj_u2 (fun z0 => (mj_u2 (fun z1 z2 => bdX11_lays_173 F r71 r83 r84 z0 z1 z2)))) F ((0 : Int32), (0 : Int32), r86)).bind (mj_u2 (fun x2_26 r86_26 => some (.inl (x2_26, r86_26)))))
def jnX11_lays_164 (F : Nat) (r73 : Nat → Int32) (r75 : Nat → Int32) (r87 : Nat → Int32) (t0 : Int32) (r71 : Nat → Int32) (r80 : Nat → Int32) (r81 : Nat → Int32) (r82 : Nat → Int32) (r83 : Nat → Int32) (r84 : Nat → Int32) (r85 : Nat → Int32) (r86 : Nat → Int32) : Option ((Nat → Int32) × (Nat → Int32) × (Nat → Int32) × (Nat → Int32) × (Nat → Int32) × (Nat → Int32) × (Nat → Int32) × (Nat → Int32)) := (mj_it (mj_u2 (fun z0 z1 => bdX11_lays_165 F r71 r83 r84 z0 z1)) F (t0, r86)).bind (fun r86_27 => some (r71, r80, r81, r82, r83, r84, r85, r86_27))
def fnX11_lays (F : Nat) (r71 : Nat → Int32) (r73 : Nat → Int32) (r75 : Nat → Int32) (r80 : Nat → Int32) (r81 : Nat → Int32) (r82 : Nat → Int32) (r83 : Nat → Int32) (r84 : Nat → Int32) (r85 : Nat → Int32) (r86 : Nat → Int32) (r87 : Nat → Int32) : Option ((Nat → Int32) × (Nat → Int32) × (Nat → Int32) × (Nat → Int32) × (Nat → Int32) × (Nat → Int32) × (Nat → Int32) × (Nat → Int32)) := (if (r71 20) = 0 then (mj_it (mj_u2 (fun z0 z1 => bdX11_lays_32 F r75 r87 z0 z1)) F ((0 : Int32), (0 : Int32))).bind (fun x1_29 => (fnX11_stateFor F (upd (upd (upd (upd r71 20 (1 : Int32)) 21 (0 : Int32)) 24 (0 : Int32)) 25 (0 : Int32)) r80 r81 r82 (0 : Int32) x1_29).bind (fun o30 => (mj_it (mj_u2 (fun z0 => (mj_u2 (fun z1 => (mj_u2 (fun z2 => (mj_u2 (fun z3 => (mj_u2 (fun z4 => (mj_u2 (fun z5 => (mj_u2 (fun z6 z7 => bdX11_lays_66 F r73 r87 z0 z1 z2 z3 z4 z5 z6 z7)))))))))))))) F ((0 : Int32), o30.2.1, o30.2.2.1, o30.2.2.2.1, o30.2.2.2.2, r83, r84, r85)).bind (mj_u2 (fun r71_31 => (mj_u2 (fun r80_31 => (mj_u2 (fun r81_31 => (mj_u2 (fun r82_31 => (mj_u2 (fun r83_31 => (mj_u2 (fun r84_31 r85_31 => (mj_it (mj_u2 (fun z0 z1 => bdX11_lays_114 F r71_31 r80_31 z0 z1)) F ((0 : Int32), r86)).bind (fun r86_32 => (if (r71_31 21) = 0 then jnX11_lays_164 F r73 r75 r87 (1 : Int32) r71_31 r80_31 r81_31 r82_31 r83_31 r84_31 r85_31 r86_32 else jnX11_lays_164 F r73 r75 r87 (0 : Int32) r71_31 r80_31 r81_31 r82_31 r83_31 r84_31 r85_31 r86_32)))))))))))))))) else some (r71, r80, r81, r82, r83, r84, r85, r86))
set_option maxRecDepth 100000 in
set_option maxHeartbeats 4000000 in
theorem lpX11_lays_32 {X : mj_XT} {l : Launch} {G : mj_GT} {ad : Nat → Nat} {Qn : Option Value → mj_IT → mj_LT → Prop} (hR : mj_R X l G mj_P0 mj_S0 98 ad 0 0 Qn) (F : Nat) (I : mj_IT) (L : mj_LT) (r71 : Nat → Int32) (r73 : Nat → Int32) (r75 : Nat → Int32) (r80 : Nat → Int32) (r81 : Nat → Int32) (r82 : Nat → Int32) (r83 : Nat → Int32) (r84 : Nat → Int32) (r85 : Nat → Int32) (r86 : Nat → Int32) (r87 : Nat → Int32) : ∀ (n : Nat) (s : ((Int32) × (Int32))) (e : ((Int32))), mj_it (mj_u2 (fun z0 z1 => bdX11_lays_32 F r75 r87 z0 z1)) n s = some e → (fun x1 => mj_W X G RX11 "lays" cX11_lays 5 6 none mj_P0 mj_S0 98 ad 0 0 57 [(0, .ref 71), (1, .int x1)] [] (mj_rows I [(71, r71), (73, r73), (75, r75), (80, r80), (81, r81), (82, r82), (83, r83), (84, r84), (85, r85), (86, r86), (87, r87)]) L) e → (mj_u2 (fun x1 x2 => mj_W X G RX11 "lays" cX11_lays 5 6 none mj_P0 mj_S0 98 ad 0 0 32 [(0, .ref 71), (1, .int x1), (2, .int x2)] [] (mj_rows I [(71, r71), (73, r73), (75, r75), (80, r80), (81, r81), (82, r82), (83, r83), (84, r84), (85, r85), (86, r86), (87, r87)]) L)) s := by
  refine mj_loop (fun s o hf hc hx => ?_)
  obtain ⟨x1, x2⟩ := s
  replace hf := mj_u2e hf
  refine mj_u2q ?_
  unfold bdX11_lays_32 at hf
  refine mj_iload_n 2 dX11_lays_32 rfl ?_
  refine mj_bipush dX11_lays_33 kc_bipush_6 ?_
  refine mj_icmp_ge 57 dX11_lays_35 (by decide) (fun c1 => ?_) (fun c1 => ?_)
  · replace hf := mj_pos c1 hf
    refine mj_sub [0, 1] [(0, .ref 71), (1, .int x1)] rfl ?_
    obtain rfl := Option.some.inj hf
    have hZ := hx x1 rfl
    exact hZ
  · replace hf := mj_neg c1 hf
    refine mj_aload_n 0 dX11_lays_38 rfl ?_
    refine mj_iload_n 1 dX11_lays_39 rfl ?_
    refine mj_iload_n 2 dX11_lays_40 rfl ?_
    refine mj_aload_n 0 dX11_lays_41 rfl ?_
    refine mj_getP p0_71_6 (by decide) fl_X11_178 rfl s0_71 a0_71 dX11_lays_42 ?_
    refine mj_iload_n 2 dX11_lays_45 rfl ?_
    obtain ⟨z2, hf⟩ := mj_ck hf
    refine mj_ialdv (x := r75) rfl s0_75 a0_75 z2 dX11_lays_46 ?_
    obtain ⟨o3, ho3, hf⟩ := mj_bd hf
    refine mj_callVd (I2 := (mj_rows I [(71, r71), (73, r73), (75, r75), (80, r80), (81, r81), (82, r82), (83, r83), (84, r84), (85, r85), (86, r86), (87, r87)])) (L2 := L) (s1 := [.int o3]) (st := []) [.int x1, .int x2, .int (r75 x2.toNatClampNeg)] (cmX11_with X.2.1 G F x1 x2 (r75 x2.toNatClampNeg) _ _ r87 rfl o3 ho3) (mj_rr rfl) rfl cw_X11_260 s0_71 a0_71 (by decide) rfl rfl (Nat.le_of_ble_eq_true rfl) ⟨Nat.zero_le _, Nat.zero_le _⟩ dX11_lays_47 rfl ?_
    refine mj_istore_n [(1, .int o3), (0, .ref 71), (2, .int x2)] dX11_lays_50 rfl (by decide) rfl ?_
    refine mj_iinc 2 [(2, .int (x2 + (1))), (1, .int o3), (0, .ref 71)] dX11_lays_51 rfl (kz_1 _) (by decide) rfl ?_
    refine mj_goto 32 dX11_lays_54 (by decide) ?_
    refine mj_sub [2, 1, 0] [(0, .ref 71), (1, .int o3), (2, .int (x2 + (1)))] rfl ?_
    obtain rfl := Option.some.inj hf
    have hZ := hc (o3, (x2 + (1))) rfl
    replace hZ := mj_u2p hZ
    exact hZ
set_option maxRecDepth 100000 in
set_option maxHeartbeats 4000000 in
theorem lpX11_lays_66 {X : mj_XT} {l : Launch} {G : mj_GT} {ad : Nat → Nat} {Qn : Option Value → mj_IT → mj_LT → Prop} (hR : mj_R X l G mj_P0 mj_S0 98 ad 0 0 Qn) (F : Nat) (I : mj_IT) (L : mj_LT) (r71 : Nat → Int32) (r73 : Nat → Int32) (r75 : Nat → Int32) (r80 : Nat → Int32) (r81 : Nat → Int32) (r82 : Nat → Int32) (r83 : Nat → Int32) (r84 : Nat → Int32) (r85 : Nat → Int32) (r86 : Nat → Int32) (r87 : Nat → Int32) : ∀ (n : Nat) (s : ((Int32) × (Nat → Int32) × (Nat → Int32) × (Nat → Int32) × (Nat → Int32) × (Nat → Int32) × (Nat → Int32) × (Nat → Int32))) (e : ((Nat → Int32) × (Nat → Int32) × (Nat → Int32) × (Nat → Int32) × (Nat → Int32) × (Nat → Int32) × (Nat → Int32))), mj_it (mj_u2 (fun z0 => (mj_u2 (fun z1 => (mj_u2 (fun z2 => (mj_u2 (fun z3 => (mj_u2 (fun z4 => (mj_u2 (fun z5 => (mj_u2 (fun z6 z7 => bdX11_lays_66 F r73 r87 z0 z1 z2 z3 z4 z5 z6 z7)))))))))))))) n s = some e → (mj_u2 (fun r71 => (mj_u2 (fun r80 => (mj_u2 (fun r81 => (mj_u2 (fun r82 => (mj_u2 (fun r83 => (mj_u2 (fun r84 r85 => mj_W X G RX11 "lays" cX11_lays 5 6 none mj_P0 mj_S0 98 ad 0 0 112 [(0, .ref 71)] [] (mj_rows I [(71, r71), (73, r73), (75, r75), (80, r80), (81, r81), (82, r82), (83, r83), (84, r84), (85, r85), (86, r86), (87, r87)]) L)))))))))))) e → (mj_u2 (fun x2 => (mj_u2 (fun r71 => (mj_u2 (fun r80 => (mj_u2 (fun r81 => (mj_u2 (fun r82 => (mj_u2 (fun r83 => (mj_u2 (fun r84 r85 => mj_W X G RX11 "lays" cX11_lays 5 6 none mj_P0 mj_S0 98 ad 0 0 66 [(0, .ref 71), (2, .int x2)] [] (mj_rows I [(71, r71), (73, r73), (75, r75), (80, r80), (81, r81), (82, r82), (83, r83), (84, r84), (85, r85), (86, r86), (87, r87)]) L)))))))))))))) s := by
  refine mj_loop (fun s o hf hc hx => ?_)
  obtain ⟨x2, r71, r80, r81, r82, r83, r84, r85⟩ := s
  replace hf := mj_u2e hf
  refine mj_u2q ?_
  replace hf := mj_u2e hf
  refine mj_u2q ?_
  replace hf := mj_u2e hf
  refine mj_u2q ?_
  replace hf := mj_u2e hf
  refine mj_u2q ?_
  replace hf := mj_u2e hf
  refine mj_u2q ?_
  replace hf := mj_u2e hf
  refine mj_u2q ?_
  replace hf := mj_u2e hf
  refine mj_u2q ?_
  unfold bdX11_lays_66 at hf
  refine mj_iload_n 1 dX11_lays_66 rfl ?_
  refine mj_aload_n 0 dX11_lays_67 rfl ?_
  refine mj_getIv (v := (r71 24)) rfl fl_X11_227 rfl s0_71 a0_71 dX11_lays_68 ?_
  refine mj_icmp_ge 112 dX11_lays_71 (by decide) (fun c4 => ?_) (fun c4 => ?_)
  · replace hf := mj_pos c4 hf
    refine mj_sub [0] [(0, .ref 71)] rfl ?_
    obtain rfl := Option.some.inj hf
    have hZ := hx (r71, r80, r81, r82, r83, r84, r85) rfl
    replace hZ := mj_u2p hZ
    replace hZ := mj_u2p hZ
    replace hZ := mj_u2p hZ
    replace hZ := mj_u2p hZ
    replace hZ := mj_u2p hZ
    replace hZ := mj_u2p hZ
    exact hZ
  · replace hf := mj_neg c4 hf
    refine mj_aload_n 0 dX11_lays_74 rfl ?_
    refine mj_getIv (v := (r71 21)) rfl fl_X11_236 rfl s0_71 a0_71 dX11_lays_75 ?_
    refine mj_if_ne 112 dX11_lays_78 (by decide) (fun c5 => ?_) (fun c5 => ?_)
    · replace hf := mj_neg c5 hf
      refine mj_sub [0] [(0, .ref 71)] rfl ?_
      obtain rfl := Option.some.inj hf
      have hZ := hx (r71, r80, r81, r82, r83, r84, r85) rfl
      replace hZ := mj_u2p hZ
      replace hZ := mj_u2p hZ
      replace hZ := mj_u2p hZ
      replace hZ := mj_u2p hZ
      replace hZ := mj_u2p hZ
      replace hZ := mj_u2p hZ
      exact hZ
    · replace hf := mj_pos c5 hf
      refine mj_aload_n 0 dX11_lays_81 rfl ?_
      refine mj_getP p0_71_30 (by decide) fl_X11_251 rfl s0_71 a0_71 dX11_lays_82 ?_
      refine mj_iload_n 1 dX11_lays_85 rfl ?_
      refine mj_iconst dX11_lays_86 kc_iconst_0 ?_
      obtain ⟨z6, hf⟩ := mj_ck hf
      refine mj_iastr [(71, r71), (73, r73), (75, r75), (80, r80), (81, r81), (82, r82), (83, (upd r83 x2.toNatClampNeg (0 : Int32))), (84, r84), (85, r85), (86, r86), (87, r87)] rfl s0_83 a0_83 z6 dX11_lays_87 ?_
      refine mj_aload_n 0 dX11_lays_88 rfl ?_
      refine mj_getP p0_71_27 (by decide) fl_X11_230 rfl s0_71 a0_71 dX11_lays_89 ?_
      refine mj_iload_n 1 dX11_lays_92 rfl ?_
      obtain ⟨z7, hf⟩ := mj_ck hf
      refine mj_ialdv (x := r80) rfl s0_80 a0_80 z7 dX11_lays_93 ?_
      refine mj_aload_n 0 dX11_lays_94 rfl ?_
      refine mj_getIv (v := (r71 4)) rfl fl_X11_172 rfl s0_71 a0_71 dX11_lays_95 ?_
      refine mj_icmp_ge 106 dX11_lays_98 (by decide) (fun c8 => ?_) (fun c8 => ?_)
      · replace hf := mj_pos c8 hf
        refine mj_iinc 1 [(2, .int (x2 + (1))), (0, .ref 71)] dX11_lays_106 rfl (kz_1 _) (by decide) rfl ?_
        refine mj_goto 66 dX11_lays_109 (by decide) ?_
        refine mj_sub [1, 0] [(0, .ref 71), (2, .int (x2 + (1)))] rfl ?_
        obtain rfl := Option.some.inj hf
        have hZ := hc ((x2 + (1)), r71, r80, r81, r82, (upd r83 x2.toNatClampNeg (0 : Int32)), r84, r85) rfl
        replace hZ := mj_u2p hZ
        replace hZ := mj_u2p hZ
        replace hZ := mj_u2p hZ
        replace hZ := mj_u2p hZ
        replace hZ := mj_u2p hZ
        replace hZ := mj_u2p hZ
        replace hZ := mj_u2p hZ
        exact hZ
      · replace hf := mj_neg c8 hf
        refine mj_aload_n 0 dX11_lays_101 rfl ?_
        refine mj_iload_n 1 dX11_lays_102 rfl ?_
        obtain ⟨o9, ho9, hf⟩ := mj_bd hf
        refine mj_callVd (I2 := (mj_rows I [(71, o9.1), (73, r73), (75, r75), (80, o9.2.1), (81, o9.2.2.1), (82, o9.2.2.2.1), (83, o9.2.2.2.2.1), (84, o9.2.2.2.2.2.1), (85, o9.2.2.2.2.2.2), (86, r86), (87, r87)])) (L2 := L) (s1 := []) (st := []) [.int x2] (cmX11_goesOn X.2.1 G F x2 _ _ r71 r73 r80 r81 r82 (upd r83 x2.toNatClampNeg (0 : Int32)) r84 r85 r87 rfl rfl rfl rfl rfl rfl rfl rfl rfl o9 ho9) (mj_rr rfl) rfl cw_X11_272 s0_71 a0_71 (by decide) rfl rfl (Nat.le_of_ble_eq_true rfl) ⟨Nat.zero_le _, Nat.zero_le _⟩ dX11_lays_103 rfl ?_
        refine mj_iinc 1 [(2, .int (x2 + (1))), (0, .ref 71)] dX11_lays_106 rfl (kz_1 _) (by decide) rfl ?_
        refine mj_goto 66 dX11_lays_109 (by decide) ?_
        refine mj_sub [1, 0] [(0, .ref 71), (2, .int (x2 + (1)))] rfl ?_
        obtain rfl := Option.some.inj hf
        have hZ := hc ((x2 + (1)), o9.1, o9.2.1, o9.2.2.1, o9.2.2.2.1, o9.2.2.2.2.1, o9.2.2.2.2.2.1, o9.2.2.2.2.2.2) rfl
        replace hZ := mj_u2p hZ
        replace hZ := mj_u2p hZ
        replace hZ := mj_u2p hZ
        replace hZ := mj_u2p hZ
        replace hZ := mj_u2p hZ
        replace hZ := mj_u2p hZ
        replace hZ := mj_u2p hZ
        exact hZ
set_option maxRecDepth 100000 in
set_option maxHeartbeats 4000000 in
theorem lpX11_lays_114 {X : mj_XT} {l : Launch} {G : mj_GT} {ad : Nat → Nat} {Qn : Option Value → mj_IT → mj_LT → Prop} (hR : mj_R X l G mj_P0 mj_S0 98 ad 0 0 Qn) (F : Nat) (I : mj_IT) (L : mj_LT) (r71 : Nat → Int32) (r73 : Nat → Int32) (r75 : Nat → Int32) (r80 : Nat → Int32) (r81 : Nat → Int32) (r82 : Nat → Int32) (r83 : Nat → Int32) (r84 : Nat → Int32) (r85 : Nat → Int32) (r86 : Nat → Int32) (r87 : Nat → Int32) : ∀ (n : Nat) (s : ((Int32) × (Nat → Int32))) (e : ((Nat → Int32))), mj_it (mj_u2 (fun z0 z1 => bdX11_lays_114 F r71 r80 z0 z1)) n s = some e → (fun r86 => mj_W X G RX11 "lays" cX11_lays 5 6 none mj_P0 mj_S0 98 ad 0 0 152 [(0, .ref 71)] [] (mj_rows I [(71, r71), (73, r73), (75, r75), (80, r80), (81, r81), (82, r82), (83, r83), (84, r84), (85, r85), (86, r86), (87, r87)]) L) e → (mj_u2 (fun x2 r86 => mj_W X G RX11 "lays" cX11_lays 5 6 none mj_P0 mj_S0 98 ad 0 0 114 [(0, .ref 71), (2, .int x2)] [] (mj_rows I [(71, r71), (73, r73), (75, r75), (80, r80), (81, r81), (82, r82), (83, r83), (84, r84), (85, r85), (86, r86), (87, r87)]) L)) s := by
  refine mj_loop (fun s o hf hc hx => ?_)
  obtain ⟨x2, r86⟩ := s
  replace hf := mj_u2e hf
  refine mj_u2q ?_
  unfold bdX11_lays_114 at hf
  refine mj_iload_n 1 dX11_lays_114 rfl ?_
  refine mj_aload_n 0 dX11_lays_115 rfl ?_
  refine mj_getIv (v := (r71 24)) rfl fl_X11_227 rfl s0_71 a0_71 dX11_lays_116 ?_
  refine mj_icmp_ge 152 dX11_lays_119 (by decide) (fun c10 => ?_) (fun c10 => ?_)
  · replace hf := mj_pos c10 hf
    refine mj_sub [0] [(0, .ref 71)] rfl ?_
    obtain rfl := Option.some.inj hf
    have hZ := hx r86 rfl
    exact hZ
  · replace hf := mj_neg c10 hf
    refine mj_aload_n 0 dX11_lays_122 rfl ?_
    refine mj_getP p0_71_33 (by decide) fl_X11_275 rfl s0_71 a0_71 dX11_lays_123 ?_
    refine mj_iload_n 1 dX11_lays_126 rfl ?_
    refine mj_aload_n 0 dX11_lays_127 rfl ?_
    refine mj_getP p0_71_27 (by decide) fl_X11_230 rfl s0_71 a0_71 dX11_lays_128 ?_
    refine mj_iload_n 1 dX11_lays_131 rfl ?_
    obtain ⟨z11, hf⟩ := mj_ck hf
    refine mj_ialdv (x := r80) rfl s0_80 a0_80 z11 dX11_lays_132 ?_
    refine mj_aload_n 0 dX11_lays_133 rfl ?_
    refine mj_getIv (v := (r71 4)) rfl fl_X11_172 rfl s0_71 a0_71 dX11_lays_134 ?_
    refine mj_icmp_lt 144 dX11_lays_137 (by decide) (fun c12 => ?_) (fun c12 => ?_)
    · replace hf := mj_pos c12 hf
      refine mj_iconst dX11_lays_144 kc_iconst_0 ?_
      obtain ⟨z13, hf⟩ := mj_ck hf
      refine mj_zastr [(71, r71), (73, r73), (75, r75), (80, r80), (81, r81), (82, r82), (83, r83), (84, r84), (85, r85), (86, (upd r86 x2.toNatClampNeg (vp_nar .boolean (0 : Int32)))), (87, r87)] rfl s0_86 a0_86 z13 dX11_lays_145 ?_
      refine mj_iinc 1 [(2, .int (x2 + (1))), (0, .ref 71)] dX11_lays_146 rfl (kz_1 _) (by decide) rfl ?_
      refine mj_goto 114 dX11_lays_149 (by decide) ?_
      refine mj_sub [1, 0] [(0, .ref 71), (2, .int (x2 + (1)))] rfl ?_
      obtain rfl := Option.some.inj hf
      have hZ := hc ((x2 + (1)), (upd r86 x2.toNatClampNeg (vp_nar .boolean (0 : Int32)))) rfl
      replace hZ := mj_u2p hZ
      exact hZ
    · replace hf := mj_neg c12 hf
      refine mj_iconst dX11_lays_140 kc_iconst_1 ?_
      refine mj_goto 145 dX11_lays_141 (by decide) ?_
      obtain ⟨z14, hf⟩ := mj_ck hf
      refine mj_zastr [(71, r71), (73, r73), (75, r75), (80, r80), (81, r81), (82, r82), (83, r83), (84, r84), (85, r85), (86, (upd r86 x2.toNatClampNeg (vp_nar .boolean (1 : Int32)))), (87, r87)] rfl s0_86 a0_86 z14 dX11_lays_145 ?_
      refine mj_iinc 1 [(2, .int (x2 + (1))), (0, .ref 71)] dX11_lays_146 rfl (kz_1 _) (by decide) rfl ?_
      refine mj_goto 114 dX11_lays_149 (by decide) ?_
      refine mj_sub [1, 0] [(0, .ref 71), (2, .int (x2 + (1)))] rfl ?_
      obtain rfl := Option.some.inj hf
      have hZ := hc ((x2 + (1)), (upd r86 x2.toNatClampNeg (vp_nar .boolean (1 : Int32)))) rfl
      replace hZ := mj_u2p hZ
      exact hZ
set_option maxRecDepth 100000 in
set_option maxHeartbeats 4000000 in
theorem lpX11_lays_184 {X : mj_XT} {l : Launch} {G : mj_GT} {ad : Nat → Nat} {Qn : Option Value → mj_IT → mj_LT → Prop} (hR : mj_R X l G mj_P0 mj_S0 98 ad 0 0 Qn) (F : Nat) (I : mj_IT) (L : mj_LT) (r71 : Nat → Int32) (r73 : Nat → Int32) (r75 : Nat → Int32) (r80 : Nat → Int32) (r81 : Nat → Int32) (r82 : Nat → Int32) (r83 : Nat → Int32) (r84 : Nat → Int32) (r85 : Nat → Int32) (r86 : Nat → Int32) (r87 : Nat → Int32) (x3 : Int32) : ∀ (n : Nat) (s : ((Int32) × (Int32) × (Nat → Int32))) (e : ((Int32) × (Nat → Int32))), mj_it (mj_u2 (fun z0 => (mj_u2 (fun z1 z2 => bdX11_lays_184 F r83 r84 x3 z0 z1 z2)))) n s = some e → (mj_u2 (fun x2 r86 => mj_W X G RX11 "lays" cX11_lays 5 6 none mj_P0 mj_S0 98 ad 0 0 242 [(0, .ref 71), (2, .int x2), (3, .int x3)] [] (mj_rows I [(71, r71), (73, r73), (75, r75), (80, r80), (81, r81), (82, r82), (83, r83), (84, r84), (85, r85), (86, r86), (87, r87)]) L)) e → (mj_u2 (fun x2 => (mj_u2 (fun x4 r86 => mj_W X G RX11 "lays" cX11_lays 5 6 none mj_P0 mj_S0 98 ad 0 0 184 [(0, .ref 71), (2, .int x2), (3, .int x3), (4, .int x4)] [] (mj_rows I [(71, r71), (73, r73), (75, r75), (80, r80), (81, r81), (82, r82), (83, r83), (84, r84), (85, r85), (86, r86), (87, r87)]) L)))) s := by
  refine mj_loop (fun s o hf hc hx => ?_)
  obtain ⟨x2, x4, r86⟩ := s
  replace hf := mj_u2e hf
  refine mj_u2q ?_
  replace hf := mj_u2e hf
  refine mj_u2q ?_
  unfold bdX11_lays_184 at hf
  refine mj_iload 3 dX11_lays_184 rfl ?_
  refine mj_aload_n 0 dX11_lays_186 rfl ?_
  refine mj_getP p0_71_30 (by decide) fl_X11_251 rfl s0_71 a0_71 dX11_lays_187 ?_
  refine mj_iload_n 2 dX11_lays_190 rfl ?_
  obtain ⟨z15, hf⟩ := mj_ck hf
  refine mj_ialdv (x := r83) rfl s0_83 a0_83 z15 dX11_lays_191 ?_
  refine mj_icmp_ge 242 dX11_lays_192 (by decide) (fun c16 => ?_) (fun c16 => ?_)
  · replace hf := mj_pos c16 hf
    refine mj_sub [0, 1, 2] [(0, .ref 71), (2, .int x2), (3, .int x3)] rfl ?_
    obtain rfl := Option.some.inj hf
    have hZ := hx (x2, r86) rfl
    replace hZ := mj_u2p hZ
    exact hZ
  · replace hf := mj_neg c16 hf
    refine mj_aload_n 0 dX11_lays_195 rfl ?_
    refine mj_getP p0_71_33 (by decide) fl_X11_275 rfl s0_71 a0_71 dX11_lays_196 ?_
    refine mj_iload_n 2 dX11_lays_199 rfl ?_
    obtain ⟨z17, hf⟩ := mj_ck hf
    refine mj_zaldv (x := r86) rfl s0_86 a0_86 z17 dX11_lays_200 ?_
    refine mj_if_ne 236 dX11_lays_201 (by decide) (fun c18 => ?_) (fun c18 => ?_)
    · replace hf := mj_neg c18 hf
      refine mj_iinc 3 [(4, .int (x4 + (1))), (0, .ref 71), (2, .int x2), (3, .int x3)] dX11_lays_236 rfl (kz_1 _) (by decide) rfl ?_
      refine mj_goto 184 dX11_lays_239 (by decide) ?_
      refine mj_sub [1, 2, 3, 0] [(0, .ref 71), (2, .int x2), (3, .int x3), (4, .int (x4 + (1)))] rfl ?_
      obtain rfl := Option.some.inj hf
      have hZ := hc (x2, (x4 + (1)), r86) rfl
      replace hZ := mj_u2p hZ
      replace hZ := mj_u2p hZ
      exact hZ
    · replace hf := mj_pos c18 hf
      refine mj_aload_n 0 dX11_lays_204 rfl ?_
      refine mj_getP p0_71_33 (by decide) fl_X11_275 rfl s0_71 a0_71 dX11_lays_205 ?_
      refine mj_aload_n 0 dX11_lays_208 rfl ?_
      refine mj_getP p0_71_31 (by decide) fl_X11_248 rfl s0_71 a0_71 dX11_lays_209 ?_
      refine mj_bipush dX11_lays_212 kc_bipush_10 ?_
      refine mj_iload_n 2 dX11_lays_214 rfl ?_
      refine mj_imul dX11_lays_215 ?_
      refine mj_iload 3 dX11_lays_216 rfl ?_
      refine mj_iadd dX11_lays_218 ?_
      obtain ⟨z19, hf⟩ := mj_ck hf
      refine mj_ialdv (x := r84) rfl s0_84 a0_84 z19 dX11_lays_219 ?_
      obtain ⟨z20, hf⟩ := mj_ck hf
      refine mj_zaldv (x := r86) rfl s0_86 a0_86 z20 dX11_lays_220 ?_
      refine mj_if_ne 227 dX11_lays_221 (by decide) (fun c21 => ?_) (fun c21 => ?_)
      · replace hf := mj_neg c21 hf
        refine mj_aload_n 0 dX11_lays_227 rfl ?_
        refine mj_getP p0_71_33 (by decide) fl_X11_275 rfl s0_71 a0_71 dX11_lays_228 ?_
        refine mj_iload_n 2 dX11_lays_231 rfl ?_
        refine mj_iconst dX11_lays_232 kc_iconst_1 ?_
        obtain ⟨z22, hf⟩ := mj_ck hf
        refine mj_zastr [(71, r71), (73, r73), (75, r75), (80, r80), (81, r81), (82, r82), (83, r83), (84, r84), (85, r85), (86, (upd r86 x3.toNatClampNeg (vp_nar .boolean (1 : Int32)))), (87, r87)] rfl s0_86 a0_86 z22 dX11_lays_233 ?_
        refine mj_iconst dX11_lays_234 kc_iconst_1 ?_
        refine mj_istore_n [(2, .int (1 : Int32)), (0, .ref 71), (3, .int x3), (4, .int x4)] dX11_lays_235 rfl (by decide) rfl ?_
        refine mj_iinc 3 [(4, .int (x4 + (1))), (2, .int (1 : Int32)), (0, .ref 71), (3, .int x3)] dX11_lays_236 rfl (kz_1 _) (by decide) rfl ?_
        refine mj_goto 184 dX11_lays_239 (by decide) ?_
        refine mj_sub [2, 1, 3, 0] [(0, .ref 71), (2, .int (1 : Int32)), (3, .int x3), (4, .int (x4 + (1)))] rfl ?_
        obtain rfl := Option.some.inj hf
        have hZ := hc ((1 : Int32), (x4 + (1)), (upd r86 x3.toNatClampNeg (vp_nar .boolean (1 : Int32)))) rfl
        replace hZ := mj_u2p hZ
        replace hZ := mj_u2p hZ
        exact hZ
      · replace hf := mj_pos c21 hf
        refine mj_goto 236 dX11_lays_224 (by decide) ?_
        refine mj_iinc 3 [(4, .int (x4 + (1))), (0, .ref 71), (2, .int x2), (3, .int x3)] dX11_lays_236 rfl (kz_1 _) (by decide) rfl ?_
        refine mj_goto 184 dX11_lays_239 (by decide) ?_
        refine mj_sub [1, 2, 3, 0] [(0, .ref 71), (2, .int x2), (3, .int x3), (4, .int (x4 + (1)))] rfl ?_
        obtain rfl := Option.some.inj hf
        have hZ := hc (x2, (x4 + (1)), r86) rfl
        replace hZ := mj_u2p hZ
        replace hZ := mj_u2p hZ
        exact hZ
set_option maxRecDepth 100000 in
set_option maxHeartbeats 4000000 in
theorem lpX11_lays_173 {X : mj_XT} {l : Launch} {G : mj_GT} {ad : Nat → Nat} {Qn : Option Value → mj_IT → mj_LT → Prop} (hR : mj_R X l G mj_P0 mj_S0 98 ad 0 0 Qn) (F : Nat) (I : mj_IT) (L : mj_LT) (r71 : Nat → Int32) (r73 : Nat → Int32) (r75 : Nat → Int32) (r80 : Nat → Int32) (r81 : Nat → Int32) (r82 : Nat → Int32) (r83 : Nat → Int32) (r84 : Nat → Int32) (r85 : Nat → Int32) (r86 : Nat → Int32) (r87 : Nat → Int32) : ∀ (n : Nat) (s : ((Int32) × (Int32) × (Nat → Int32))) (e : ((Int32) × (Nat → Int32))), mj_it (mj_u2 (fun z0 => (mj_u2 (fun z1 z2 => bdX11_lays_173 F r71 r83 r84 z0 z1 z2)))) n s = some e → (mj_u2 (fun x2 r86 => mj_W X G RX11 "lays" cX11_lays 5 6 none mj_P0 mj_S0 98 ad 0 0 248 [(0, .ref 71), (2, .int x2)] [] (mj_rows I [(71, r71), (73, r73), (75, r75), (80, r80), (81, r81), (82, r82), (83, r83), (84, r84), (85, r85), (86, r86), (87, r87)]) L)) e → (mj_u2 (fun x2 => (mj_u2 (fun x3 r86 => mj_W X G RX11 "lays" cX11_lays 5 6 none mj_P0 mj_S0 98 ad 0 0 173 [(0, .ref 71), (2, .int x2), (3, .int x3)] [] (mj_rows I [(71, r71), (73, r73), (75, r75), (80, r80), (81, r81), (82, r82), (83, r83), (84, r84), (85, r85), (86, r86), (87, r87)]) L)))) s := by
  refine mj_loop (fun s o hf hc hx => ?_)
  obtain ⟨x2, x3, r86⟩ := s
  replace hf := mj_u2e hf
  refine mj_u2q ?_
  replace hf := mj_u2e hf
  refine mj_u2q ?_
  unfold bdX11_lays_173 at hf
  refine mj_iload_n 2 dX11_lays_173 rfl ?_
  refine mj_aload_n 0 dX11_lays_174 rfl ?_
  refine mj_getIv (v := (r71 24)) rfl fl_X11_227 rfl s0_71 a0_71 dX11_lays_175 ?_
  refine mj_icmp_ge 248 dX11_lays_178 (by decide) (fun c23 => ?_) (fun c23 => ?_)
  · replace hf := mj_pos c23 hf
    refine mj_sub [0, 1] [(0, .ref 71), (2, .int x2)] rfl ?_
    obtain rfl := Option.some.inj hf
    have hZ := hx (x2, r86) rfl
    replace hZ := mj_u2p hZ
    exact hZ
  · replace hf := mj_neg c23 hf
    refine mj_iconst dX11_lays_181 kc_iconst_0 ?_
    refine mj_istore [(4, .int (0 : Int32)), (0, .ref 71), (2, .int x2), (3, .int x3)] dX11_lays_182 (by decide) rfl ?_
    refine mj_sub [1, 2, 3, 0] [(0, .ref 71), (2, .int x2), (3, .int x3), (4, .int (0 : Int32))] rfl ?_
    obtain ⟨e24, ho24, hf⟩ := mj_bd hf
    refine lpX11_lays_184 hR F I L r71 r73 r75 r80 r81 r82 r83 r84 r85 r86 r87 x3 F (x2, (0 : Int32), r86) e24 ho24 ?_
    obtain ⟨x2_24, r86_24⟩ := e24
    replace hf := mj_u2e hf
    refine ?_
    refine mj_u2q ?_
    refine mj_iinc 2 [(3, .int (x3 + (1))), (0, .ref 71), (2, .int x2_24)] dX11_lays_242 rfl (kz_1 _) (by decide) rfl ?_
    refine mj_goto 173 dX11_lays_245 (by decide) ?_
    refine mj_sub [1, 2, 0] [(0, .ref 71), (2, .int x2_24), (3, .int (x3 + (1)))] rfl ?_
    obtain rfl := Option.some.inj hf
    have hZ := hc (x2_24, (x3 + (1)), r86_24) rfl
    replace hZ := mj_u2p hZ
    replace hZ := mj_u2p hZ
    exact hZ
set_option maxRecDepth 100000 in
set_option maxHeartbeats 4000000 in
theorem lpX11_lays_165 {X : mj_XT} {l : Launch} {G : mj_GT} {ad : Nat → Nat} {Qn : Option Value → mj_IT → mj_LT → Prop} (hR : mj_R X l G mj_P0 mj_S0 98 ad 0 0 Qn) (F : Nat) (I : mj_IT) (L : mj_LT) (r71 : Nat → Int32) (r73 : Nat → Int32) (r75 : Nat → Int32) (r80 : Nat → Int32) (r81 : Nat → Int32) (r82 : Nat → Int32) (r83 : Nat → Int32) (r84 : Nat → Int32) (r85 : Nat → Int32) (r86 : Nat → Int32) (r87 : Nat → Int32) : ∀ (n : Nat) (s : ((Int32) × (Nat → Int32))) (e : ((Nat → Int32))), mj_it (mj_u2 (fun z0 z1 => bdX11_lays_165 F r71 r83 r84 z0 z1)) n s = some e → (fun r86 => mj_W X G RX11 "lays" cX11_lays 5 6 none mj_P0 mj_S0 98 ad 0 0 251 [] [] (mj_rows I [(71, r71), (73, r73), (75, r75), (80, r80), (81, r81), (82, r82), (83, r83), (84, r84), (85, r85), (86, r86), (87, r87)]) L) e → (mj_u2 (fun x2 r86 => mj_W X G RX11 "lays" cX11_lays 5 6 none mj_P0 mj_S0 98 ad 0 0 165 [(0, .ref 71), (2, .int x2)] [] (mj_rows I [(71, r71), (73, r73), (75, r75), (80, r80), (81, r81), (82, r82), (83, r83), (84, r84), (85, r85), (86, r86), (87, r87)]) L)) s := by
  refine mj_loop (fun s o hf hc hx => ?_)
  obtain ⟨x2, r86⟩ := s
  replace hf := mj_u2e hf
  refine mj_u2q ?_
  unfold bdX11_lays_165 at hf
  refine mj_iload_n 1 dX11_lays_165 rfl ?_
  refine mj_if_eq 251 dX11_lays_166 (by decide) (fun c25 => ?_) (fun c25 => ?_)
  · replace hf := mj_pos c25 hf
    refine mj_sub [] [] rfl ?_
    obtain rfl := Option.some.inj hf
    have hZ := hx r86 rfl
    exact hZ
  · replace hf := mj_neg c25 hf
    refine mj_iconst dX11_lays_169 kc_iconst_0 ?_
    refine mj_istore_n [(2, .int (0 : Int32)), (0, .ref 71)] dX11_lays_170 rfl (by decide) rfl ?_
    refine mj_iconst dX11_lays_171 kc_iconst_0 ?_
    refine mj_istore_n [(3, .int (0 : Int32)), (2, .int (0 : Int32)), (0, .ref 71)] dX11_lays_172 rfl (by decide) rfl ?_
    refine mj_sub [2, 1, 0] [(0, .ref 71), (2, .int (0 : Int32)), (3, .int (0 : Int32))] rfl ?_
    obtain ⟨e26, ho26, hf⟩ := mj_bd hf
    refine lpX11_lays_173 hR F I L r71 r73 r75 r80 r81 r82 r83 r84 r85 r86 r87 F ((0 : Int32), (0 : Int32), r86) e26 ho26 ?_
    obtain ⟨x2_26, r86_26⟩ := e26
    replace hf := mj_u2e hf
    refine ?_
    refine mj_u2q ?_
    refine mj_goto 165 dX11_lays_248 (by decide) ?_
    obtain rfl := Option.some.inj hf
    have hZ := hc (x2_26, r86_26) rfl
    replace hZ := mj_u2p hZ
    exact hZ
set_option maxRecDepth 100000 in
set_option maxHeartbeats 4000000 in
theorem jtX11_lays_164 {X : mj_XT} {l : Launch} {G : mj_GT} {ad : Nat → Nat} {Qn : Option Value → mj_IT → mj_LT → Prop} (hR : mj_R X l G mj_P0 mj_S0 98 ad 0 0 Qn) (F : Nat) (I : mj_IT) (L : mj_LT) (r71 : Nat → Int32) (r73 : Nat → Int32) (r75 : Nat → Int32) (r80 : Nat → Int32) (r81 : Nat → Int32) (r82 : Nat → Int32) (r83 : Nat → Int32) (r84 : Nat → Int32) (r85 : Nat → Int32) (r86 : Nat → Int32) (r87 : Nat → Int32) (t0 : Int32) (o : ((Nat → Int32) × (Nat → Int32) × (Nat → Int32) × (Nat → Int32) × (Nat → Int32) × (Nat → Int32) × (Nat → Int32) × (Nat → Int32))) (hf : jnX11_lays_164 F r73 r75 r87 t0 r71 r80 r81 r82 r83 r84 r85 r86 = some o) (hq : (mj_u2 (fun r71 => (mj_u2 (fun r80 => (mj_u2 (fun r81 => (mj_u2 (fun r82 => (mj_u2 (fun r83 => (mj_u2 (fun r84 => (mj_u2 (fun r85 r86 => Qn none (mj_rows I [(71, r71), (73, r73), (75, r75), (80, r80), (81, r81), (82, r82), (83, r83), (84, r84), (85, r85), (86, r86), (87, r87)]) L)))))))))))))) o) : mj_W X G RX11 "lays" cX11_lays 5 6 none mj_P0 mj_S0 98 ad 0 0 164 [(0, .ref 71)] [.int t0] (mj_rows I [(71, r71), (73, r73), (75, r75), (80, r80), (81, r81), (82, r82), (83, r83), (84, r84), (85, r85), (86, r86), (87, r87)]) L := by
  unfold jnX11_lays_164 at hf
  refine mj_istore_n [(2, .int t0), (0, .ref 71)] dX11_lays_164 rfl (by decide) rfl ?_
  refine mj_sub [1, 0] [(0, .ref 71), (2, .int t0)] rfl ?_
  obtain ⟨r86_27, ho27, hf⟩ := mj_bd hf
  refine lpX11_lays_165 hR F I L r71 r73 r75 r80 r81 r82 r83 r84 r85 r86 r87 F (t0, r86) r86_27 ho27 ?_
  refine ?_
  obtain rfl := Option.some.inj hf
  have hZ := hq
  replace hZ := mj_u2p hZ
  replace hZ := mj_u2p hZ
  replace hZ := mj_u2p hZ
  replace hZ := mj_u2p hZ
  replace hZ := mj_u2p hZ
  replace hZ := mj_u2p hZ
  replace hZ := mj_u2p hZ
  exact mj_vret hR ⟨Nat.le_refl _, Nat.le_refl _⟩ rfl dX11_lays_251 hZ
set_option maxRecDepth 100000 in
set_option maxHeartbeats 4000000 in
theorem mtX11_lays {X : mj_XT} {l : Launch} {G : mj_GT} {ad : Nat → Nat} {Qn : Option Value → mj_IT → mj_LT → Prop} (hR : mj_R X l G mj_P0 mj_S0 98 ad 0 0 Qn) (F : Nat) (I : mj_IT) (L : mj_LT) (r71 : Nat → Int32) (r73 : Nat → Int32) (r75 : Nat → Int32) (r80 : Nat → Int32) (r81 : Nat → Int32) (r82 : Nat → Int32) (r83 : Nat → Int32) (r84 : Nat → Int32) (r85 : Nat → Int32) (r86 : Nat → Int32) (r87 : Nat → Int32) (o : ((Nat → Int32) × (Nat → Int32) × (Nat → Int32) × (Nat → Int32) × (Nat → Int32) × (Nat → Int32) × (Nat → Int32) × (Nat → Int32))) (hf : fnX11_lays F r71 r73 r75 r80 r81 r82 r83 r84 r85 r86 r87 = some o) (hq : (mj_u2 (fun r71 => (mj_u2 (fun r80 => (mj_u2 (fun r81 => (mj_u2 (fun r82 => (mj_u2 (fun r83 => (mj_u2 (fun r84 => (mj_u2 (fun r85 r86 => Qn none (mj_rows I [(71, r71), (73, r73), (75, r75), (80, r80), (81, r81), (82, r82), (83, r83), (84, r84), (85, r85), (86, r86), (87, r87)]) L)))))))))))))) o) : mj_W X G RX11 "lays" cX11_lays 5 6 none mj_P0 mj_S0 98 ad 0 0 0 [(0, .ref 71)] [] (mj_rows I [(71, r71), (73, r73), (75, r75), (80, r80), (81, r81), (82, r82), (83, r83), (84, r84), (85, r85), (86, r86), (87, r87)]) L := by
  unfold fnX11_lays at hf
  refine mj_aload_n 0 dX11_lays_0 rfl ?_
  refine mj_getIv (v := (r71 20)) rfl fl_X11_208 rfl s0_71 a0_71 dX11_lays_1 ?_
  refine mj_if_eq 8 dX11_lays_4 (by decide) (fun c28 => ?_) (fun c28 => ?_)
  · replace hf := mj_pos c28 hf
    refine mj_aload_n 0 dX11_lays_8 rfl ?_
    refine mj_iconst dX11_lays_9 kc_iconst_1 ?_
    refine mj_putIr (ci := 9) (j := 20) [(71, (upd r71 20 (1 : Int32))), (73, r73), (75, r75), (80, r80), (81, r81), (82, r82), (83, r83), (84, r84), (85, r85), (86, r86), (87, r87)] rfl (by decide) fl_X11_208 rfl rfl s0_71 a0_71 dX11_lays_10 ?_
    refine mj_aload_n 0 dX11_lays_13 rfl ?_
    refine mj_iconst dX11_lays_14 kc_iconst_0 ?_
    refine mj_putIr (ci := 9) (j := 21) [(71, (upd (upd r71 20 (1 : Int32)) 21 (0 : Int32))), (73, r73), (75, r75), (80, r80), (81, r81), (82, r82), (83, r83), (84, r84), (85, r85), (86, r86), (87, r87)] rfl (by decide) fl_X11_236 rfl rfl s0_71 a0_71 dX11_lays_15 ?_
    refine mj_aload_n 0 dX11_lays_18 rfl ?_
    refine mj_iconst dX11_lays_19 kc_iconst_0 ?_
    refine mj_putIr (ci := 9) (j := 24) [(71, (upd (upd (upd r71 20 (1 : Int32)) 21 (0 : Int32)) 24 (0 : Int32))), (73, r73), (75, r75), (80, r80), (81, r81), (82, r82), (83, r83), (84, r84), (85, r85), (86, r86), (87, r87)] rfl ⟨rfl, rfl⟩ fl_X11_227 rfl rfl s0_71 a0_71 dX11_lays_20 ?_
    refine mj_aload_n 0 dX11_lays_23 rfl ?_
    refine mj_iconst dX11_lays_24 kc_iconst_0 ?_
    refine mj_putIr (ci := 9) (j := 25) [(71, (upd (upd (upd (upd r71 20 (1 : Int32)) 21 (0 : Int32)) 24 (0 : Int32)) 25 (0 : Int32))), (73, r73), (75, r75), (80, r80), (81, r81), (82, r82), (83, r83), (84, r84), (85, r85), (86, r86), (87, r87)] rfl ⟨rfl, rfl⟩ fl_X11_257 rfl rfl s0_71 a0_71 dX11_lays_25 ?_
    refine mj_iconst dX11_lays_28 kc_iconst_0 ?_
    refine mj_istore_n [(1, .int (0 : Int32)), (0, .ref 71)] dX11_lays_29 rfl (by decide) rfl ?_
    refine mj_iconst dX11_lays_30 kc_iconst_0 ?_
    refine mj_istore_n [(2, .int (0 : Int32)), (1, .int (0 : Int32)), (0, .ref 71)] dX11_lays_31 rfl (by decide) rfl ?_
    refine mj_sub [2, 1, 0] [(0, .ref 71), (1, .int (0 : Int32)), (2, .int (0 : Int32))] rfl ?_
    obtain ⟨x1_29, ho29, hf⟩ := mj_bd hf
    refine lpX11_lays_32 hR F I L (upd (upd (upd (upd r71 20 (1 : Int32)) 21 (0 : Int32)) 24 (0 : Int32)) 25 (0 : Int32)) r73 r75 r80 r81 r82 r83 r84 r85 r86 r87 F ((0 : Int32), (0 : Int32)) x1_29 ho29 ?_
    refine ?_
    refine mj_aload_n 0 dX11_lays_57 rfl ?_
    refine mj_iconst dX11_lays_58 kc_iconst_0 ?_
    refine mj_iload_n 1 dX11_lays_59 rfl ?_
    obtain ⟨o30, ho30, hf⟩ := mj_bd hf
    refine mj_callVd (I2 := (mj_rows I [(71, o30.2.1), (73, r73), (75, r75), (80, o30.2.2.1), (81, o30.2.2.2.1), (82, o30.2.2.2.2), (83, r83), (84, r84), (85, r85), (86, r86), (87, r87)])) (L2 := L) (s1 := [.int o30.1]) (st := []) [.int (0 : Int32), .int x1_29] (cmX11_stateFor X.2.1 G F (0 : Int32) x1_29 _ _ (upd (upd (upd (upd r71 20 (1 : Int32)) 21 (0 : Int32)) 24 (0 : Int32)) 25 (0 : Int32)) r80 r81 r82 rfl rfl rfl rfl o30 ho30) (mj_rr rfl) rfl cw_X11_245 s0_71 a0_71 (by decide) rfl rfl (Nat.le_of_ble_eq_true rfl) ⟨Nat.zero_le _, Nat.zero_le _⟩ dX11_lays_60 rfl ?_
    refine mj_pop dX11_lays_63 rfl ?_
    refine mj_iconst dX11_lays_64 kc_iconst_0 ?_
    refine mj_istore_n [(2, .int (0 : Int32)), (0, .ref 71), (1, .int x1_29)] dX11_lays_65 rfl (by decide) rfl ?_
    refine mj_sub [1, 0] [(0, .ref 71), (2, .int (0 : Int32))] rfl ?_
    obtain ⟨e31, ho31, hf⟩ := mj_bd hf
    refine lpX11_lays_66 hR F I L o30.2.1 r73 r75 o30.2.2.1 o30.2.2.2.1 o30.2.2.2.2 r83 r84 r85 r86 r87 F ((0 : Int32), o30.2.1, o30.2.2.1, o30.2.2.2.1, o30.2.2.2.2, r83, r84, r85) e31 ho31 ?_
    obtain ⟨r71_31, r80_31, r81_31, r82_31, r83_31, r84_31, r85_31⟩ := e31
    replace hf := mj_u2e hf
    replace hf := mj_u2e hf
    replace hf := mj_u2e hf
    replace hf := mj_u2e hf
    replace hf := mj_u2e hf
    replace hf := mj_u2e hf
    refine ?_
    refine mj_u2q ?_
    refine mj_u2q ?_
    refine mj_u2q ?_
    refine mj_u2q ?_
    refine mj_u2q ?_
    refine mj_u2q ?_
    refine mj_iconst dX11_lays_112 kc_iconst_0 ?_
    refine mj_istore_n [(2, .int (0 : Int32)), (0, .ref 71)] dX11_lays_113 rfl (by decide) rfl ?_
    refine mj_sub [1, 0] [(0, .ref 71), (2, .int (0 : Int32))] rfl ?_
    obtain ⟨r86_32, ho32, hf⟩ := mj_bd hf
    refine lpX11_lays_114 hR F I L r71_31 r73 r75 r80_31 r81_31 r82_31 r83_31 r84_31 r85_31 r86 r87 F ((0 : Int32), r86) r86_32 ho32 ?_
    refine ?_
    refine mj_aload_n 0 dX11_lays_152 rfl ?_
    refine mj_getIv (v := (r71_31 21)) rfl fl_X11_236 rfl s0_71 a0_71 dX11_lays_153 ?_
    refine mj_if_ne 163 dX11_lays_156 (by decide) (fun c33 => ?_) (fun c33 => ?_)
    · replace hf := mj_neg c33 hf
      refine mj_iconst dX11_lays_163 kc_iconst_0 ?_
      exact jtX11_lays_164 hR F I L r71_31 r73 r75 r80_31 r81_31 r82_31 r83_31 r84_31 r85_31 r86_32 r87 (0 : Int32) o hf hq
    · replace hf := mj_pos c33 hf
      refine mj_iconst dX11_lays_159 kc_iconst_1 ?_
      refine mj_goto 164 dX11_lays_160 (by decide) ?_
      exact jtX11_lays_164 hR F I L r71_31 r73 r75 r80_31 r81_31 r82_31 r83_31 r84_31 r85_31 r86_32 r87 (1 : Int32) o hf hq
  · replace hf := mj_neg c28 hf
    obtain rfl := Option.some.inj hf
    have hZ := hq
    replace hZ := mj_u2p hZ
    replace hZ := mj_u2p hZ
    replace hZ := mj_u2p hZ
    replace hZ := mj_u2p hZ
    replace hZ := mj_u2p hZ
    replace hZ := mj_u2p hZ
    replace hZ := mj_u2p hZ
    exact mj_vret hR ⟨Nat.le_refl _, Nat.le_refl _⟩ rfl dX11_lays_7 hZ
set_option maxRecDepth 100000 in
set_option maxHeartbeats 4000000 in
theorem cmX11_lays (l : Launch) (G : mj_GT) (F : Nat) (I : mj_IT) (L : mj_LT) (r71 : Nat → Int32) (r73 : Nat → Int32) (r75 : Nat → Int32) (r80 : Nat → Int32) (r81 : Nat → Int32) (r82 : Nat → Int32) (r83 : Nat → Int32) (r84 : Nat → Int32) (r85 : Nat → Int32) (r86 : Nat → Int32) (r87 : Nat → Int32) (hr71 : I 71 = r71) (hr73 : I 73 = r73) (hr75 : I 75 = r75) (hr80 : I 80 = r80) (hr81 : I 81 = r81) (hr82 : I 82 = r82) (hr83 : I 83 = r83) (hr84 : I 84 = r84) (hr85 : I 85 = r85) (hr86 : I 86 = r86) (hr87 : I 87 = r87) (o : ((Nat → Int32) × (Nat → Int32) × (Nat → Int32) × (Nat → Int32) × (Nat → Int32) × (Nat → Int32) × (Nat → Int32) × (Nat → Int32))) (hf : fnX11_lays F r71 r73 r75 r80 r81 r82 r83 r84 r85 r86 r87 = some o) : mj_M l G yX11_lays cX11_lays 5 6 none 0 0 mj_P0 mj_S0 98 [.ref 71] I L (mj_qd none (mj_rows I [(71, o.1), (73, r73), (75, r75), (80, o.2.1), (81, o.2.2.1), (82, o.2.2.2.1), (83, o.2.2.2.2.1), (84, o.2.2.2.2.2.1), (85, o.2.2.2.2.2.2.1), (86, o.2.2.2.2.2.2.2), (87, r87)]) L) := by
  refine mj_in RX11 "lays" [(0, .ref 71)] rfl rfl rfl (by decide) (Nat.le_of_ble_eq_true rfl) (fun X ad hR => ?_)
  refine mj_toI [(71, r71), (73, r73), (75, r75), (80, r80), (81, r81), (82, r82), (83, r83), (84, r84), (85, r85), (86, r86), (87, r87)] (by intro q hq; simp only [List.mem_cons, List.not_mem_nil, or_false] at hq; rcases hq with rfl | rfl | rfl | rfl | rfl | rfl | rfl | rfl | rfl | rfl | rfl <;> assumption) ?_
  refine mtX11_lays hR F I L r71 r73 r75 r80 r81 r82 r83 r84 r85 r86 r87 o hf ?_
  obtain ⟨w0, w1, w2, w3, w4, w5, w6, w7⟩ := o
  refine mj_u2q ?_
  refine mj_u2q ?_
  refine mj_u2q ?_
  refine mj_u2q ?_
  refine mj_u2q ?_
  refine mj_u2q ?_
  refine mj_u2q ?_
  exact ⟨rfl, rfl, rfl⟩

-- X11_isEnd
def fnX11_isEnd (F : Nat) (r71 : Nat → Int32) (r80 : Nat → Int32) (x1 : Int32) : Option ((Int32)) := (if mj_ib x1 200 = true then (if (r80 x1.toNatClampNeg) = (r71 4) then some (1 : Int32) else some (0 : Int32)) else none)
set_option maxRecDepth 100000 in
set_option maxHeartbeats 4000000 in
theorem mtX11_isEnd {X : mj_XT} {l : Launch} {G : mj_GT} {ad : Nat → Nat} {Qn : Option Value → mj_IT → mj_LT → Prop} (hR : mj_R X l G mj_P0 mj_S0 98 ad 0 0 Qn) (F : Nat) (I : mj_IT) (L : mj_LT) (r71 : Nat → Int32) (r80 : Nat → Int32) (x1 : Int32) (o : ((Int32))) (hf : fnX11_isEnd F r71 r80 x1 = some o) (hq : (fun ov => Qn (some (.int ov)) (mj_rows I [(71, r71), (80, r80)]) L) o) : mj_W X G RX11 "isEnd" cX11_isEnd 2 1 (some .boolean) mj_P0 mj_S0 98 ad 0 0 0 [(0, .ref 71), (1, .int x1)] [] (mj_rows I [(71, r71), (80, r80)]) L := by
  unfold fnX11_isEnd at hf
  refine mj_aload_n 0 dX11_isEnd_0 rfl ?_
  refine mj_getP p0_71_27 (by decide) fl_X11_230 rfl s0_71 a0_71 dX11_isEnd_1 ?_
  refine mj_iload_n 1 dX11_isEnd_4 rfl ?_
  obtain ⟨z1, hf⟩ := mj_ck hf
  refine mj_ialdv (x := r80) rfl s0_80 a0_80 z1 dX11_isEnd_5 ?_
  refine mj_aload_n 0 dX11_isEnd_6 rfl ?_
  refine mj_getIv (v := (r71 4)) rfl fl_X11_172 rfl s0_71 a0_71 dX11_isEnd_7 ?_
  refine mj_icmp_ne 17 dX11_isEnd_10 (by decide) (fun c2 => ?_) (fun c2 => ?_)
  · replace hf := mj_neg c2 hf
    refine mj_iconst dX11_isEnd_17 kc_iconst_0 ?_
    obtain rfl := Option.some.inj hf
    have hZ := hq
    exact mj_iret hR ⟨Nat.le_refl _, Nat.le_refl _⟩ rfl (by decide) dX11_isEnd_18 hZ
  · replace hf := mj_pos c2 hf
    refine mj_iconst dX11_isEnd_13 kc_iconst_1 ?_
    refine mj_goto 18 dX11_isEnd_14 (by decide) ?_
    obtain rfl := Option.some.inj hf
    have hZ := hq
    exact mj_iret hR ⟨Nat.le_refl _, Nat.le_refl _⟩ rfl (by decide) dX11_isEnd_18 hZ
set_option maxRecDepth 100000 in
set_option maxHeartbeats 4000000 in
theorem cmX11_isEnd (l : Launch) (G : mj_GT) (F : Nat) (x1 : Int32) (I : mj_IT) (L : mj_LT) (r71 : Nat → Int32) (r80 : Nat → Int32) (hr71 : I 71 = r71) (hr80 : I 80 = r80) (o : ((Int32))) (hf : fnX11_isEnd F r71 r80 x1 = some o) : mj_M l G yX11_isEnd cX11_isEnd 2 1 (some .boolean) 0 0 mj_P0 mj_S0 98 [.ref 71, .int x1] I L (mj_qd (some (.int o)) (mj_rows I [(71, r71), (80, r80)]) L) := by
  refine mj_in RX11 "isEnd" [(0, .ref 71), (1, .int x1)] rfl rfl rfl (by decide) (Nat.le_of_ble_eq_true rfl) (fun X ad hR => ?_)
  refine mj_toI [(71, r71), (80, r80)] (by intro q hq; simp only [List.mem_cons, List.not_mem_nil, or_false] at hq; rcases hq with rfl | rfl <;> assumption) ?_
  refine mtX11_isEnd hR F I L r71 r80 x1 o hf ?_
  exact ⟨rfl, rfl, rfl⟩

-- X11_power
def bdX11_power_13 (F : Nat) (x4 : Int64) (x6 : Int64) (x8 : Int64) : Option (((Int64) × (Int64) × (Int64)) ⊕ ((Int64))) := (if x8 ≤ (0 : Int64) then some (.inr x4) else (if (x8 - x8 / (2 : Int64) * (2 : Int64)) = (1 : Int64) then some (.inl (((x4 * x6) - (x4 * x6) / (998244353 : Int64) * (998244353 : Int64)), ((x6 * x6) - (x6 * x6) / (998244353 : Int64) * (998244353 : Int64)), (x8 / (2 : Int64)))) else some (.inl (x4, ((x6 * x6) - (x6 * x6) / (998244353 : Int64) * (998244353 : Int64)), (x8 / (2 : Int64))))))
def fnX11_power (F : Nat) (x0 : Int64) (x2 : Int64) : Option ((Int64)) := (mj_it (mj_u2 (fun z0 => (mj_u2 (fun z1 z2 => bdX11_power_13 F z0 z1 z2)))) F ((1 : Int64), (x0 - x0 / (998244353 : Int64) * (998244353 : Int64)), x2)).bind (fun x4_3 => some x4_3)
set_option maxRecDepth 100000 in
set_option maxHeartbeats 4000000 in
theorem lpX11_power_13 {X : mj_XT} {l : Launch} {G : mj_GT} {ad : Nat → Nat} {Qn : Option Value → mj_IT → mj_LT → Prop} (hR : mj_R X l G mj_P0 mj_S0 98 ad 0 0 Qn) (F : Nat) (I : mj_IT) (L : mj_LT) : ∀ (n : Nat) (s : ((Int64) × (Int64) × (Int64))) (e : ((Int64))), mj_it (mj_u2 (fun z0 => (mj_u2 (fun z1 z2 => bdX11_power_13 F z0 z1 z2)))) n s = some e → (fun x4 => mj_W X G RX11 "power" cX11_power 10 1 (some .long) mj_P0 mj_S0 98 ad 0 0 64 [(4, .long x4)] [] I L) e → (mj_u2 (fun x4 => (mj_u2 (fun x6 x8 => mj_W X G RX11 "power" cX11_power 10 1 (some .long) mj_P0 mj_S0 98 ad 0 0 13 [(4, .long x4), (6, .long x6), (8, .long x8)] [] I L)))) s := by
  refine mj_loop (fun s o hf hc hx => ?_)
  obtain ⟨x4, x6, x8⟩ := s
  replace hf := mj_u2e hf
  refine mj_u2q ?_
  replace hf := mj_u2e hf
  refine mj_u2q ?_
  unfold bdX11_power_13 at hf
  refine mj_lload 2 dX11_power_13 rfl ?_
  refine mj_lconst (v := 0) dX11_power_15 (by decide) ?_
  refine mj_lc_le 64 dX11_power_16 dX11_power_17 (by decide) (fun c1 => ?_) (fun c1 => ?_)
  · replace hf := mj_pos c1 hf
    refine mj_sub [0] [(4, .long x4)] rfl ?_
    obtain rfl := Option.some.inj hf
    have hZ := hx x4 rfl
    exact hZ
  · replace hf := mj_neg c1 hf
    refine mj_lload 2 dX11_power_20 rfl ?_
    refine mj_ldc2 kk_X11_281 dX11_power_22 ?_
    refine mj_lrem dX11_power_25 (by decide) ?_
    refine mj_lconst (v := 1) dX11_power_26 (by decide) ?_
    refine mj_lc_ne 42 dX11_power_27 dX11_power_28 (by decide) (fun c2 => ?_) (fun c2 => ?_)
    · replace hf := mj_neg c2 hf
      refine mj_lload 1 dX11_power_42 rfl ?_
      refine mj_lload 1 dX11_power_44 rfl ?_
      refine mj_lmul dX11_power_46 ?_
      refine mj_ldc2 kk_X11_279 dX11_power_47 ?_
      refine mj_lrem dX11_power_50 (by decide) ?_
      refine mj_lstore [(6, .long ((x6 * x6) - (x6 * x6) / (998244353 : Int64) * (998244353 : Int64))), (4, .long x4), (8, .long x8)] dX11_power_51 (by decide) rfl ?_
      refine mj_lload 2 dX11_power_53 rfl ?_
      refine mj_ldc2 kk_X11_281 dX11_power_55 ?_
      refine mj_ldiv dX11_power_58 (by decide) ?_
      refine mj_lstore [(8, .long (x8 / (2 : Int64))), (6, .long ((x6 * x6) - (x6 * x6) / (998244353 : Int64) * (998244353 : Int64))), (4, .long x4)] dX11_power_59 (by decide) rfl ?_
      refine mj_goto 13 dX11_power_61 (by decide) ?_
      refine mj_sub [2, 1, 0] [(4, .long x4), (6, .long ((x6 * x6) - (x6 * x6) / (998244353 : Int64) * (998244353 : Int64))), (8, .long (x8 / (2 : Int64)))] rfl ?_
      obtain rfl := Option.some.inj hf
      have hZ := hc (x4, ((x6 * x6) - (x6 * x6) / (998244353 : Int64) * (998244353 : Int64)), (x8 / (2 : Int64))) rfl
      replace hZ := mj_u2p hZ
      replace hZ := mj_u2p hZ
      exact hZ
    · replace hf := mj_pos c2 hf
      refine mj_lload 0 dX11_power_31 rfl ?_
      refine mj_lload 1 dX11_power_33 rfl ?_
      refine mj_lmul dX11_power_35 ?_
      refine mj_ldc2 kk_X11_279 dX11_power_36 ?_
      refine mj_lrem dX11_power_39 (by decide) ?_
      refine mj_lstore [(4, .long ((x4 * x6) - (x4 * x6) / (998244353 : Int64) * (998244353 : Int64))), (6, .long x6), (8, .long x8)] dX11_power_40 (by decide) rfl ?_
      refine mj_lload 1 dX11_power_42 rfl ?_
      refine mj_lload 1 dX11_power_44 rfl ?_
      refine mj_lmul dX11_power_46 ?_
      refine mj_ldc2 kk_X11_279 dX11_power_47 ?_
      refine mj_lrem dX11_power_50 (by decide) ?_
      refine mj_lstore [(6, .long ((x6 * x6) - (x6 * x6) / (998244353 : Int64) * (998244353 : Int64))), (4, .long ((x4 * x6) - (x4 * x6) / (998244353 : Int64) * (998244353 : Int64))), (8, .long x8)] dX11_power_51 (by decide) rfl ?_
      refine mj_lload 2 dX11_power_53 rfl ?_
      refine mj_ldc2 kk_X11_281 dX11_power_55 ?_
      refine mj_ldiv dX11_power_58 (by decide) ?_
      refine mj_lstore [(8, .long (x8 / (2 : Int64))), (6, .long ((x6 * x6) - (x6 * x6) / (998244353 : Int64) * (998244353 : Int64))), (4, .long ((x4 * x6) - (x4 * x6) / (998244353 : Int64) * (998244353 : Int64)))] dX11_power_59 (by decide) rfl ?_
      refine mj_goto 13 dX11_power_61 (by decide) ?_
      refine mj_sub [2, 1, 0] [(4, .long ((x4 * x6) - (x4 * x6) / (998244353 : Int64) * (998244353 : Int64))), (6, .long ((x6 * x6) - (x6 * x6) / (998244353 : Int64) * (998244353 : Int64))), (8, .long (x8 / (2 : Int64)))] rfl ?_
      obtain rfl := Option.some.inj hf
      have hZ := hc (((x4 * x6) - (x4 * x6) / (998244353 : Int64) * (998244353 : Int64)), ((x6 * x6) - (x6 * x6) / (998244353 : Int64) * (998244353 : Int64)), (x8 / (2 : Int64))) rfl
      replace hZ := mj_u2p hZ
      replace hZ := mj_u2p hZ
      exact hZ
set_option maxRecDepth 100000 in
set_option maxHeartbeats 4000000 in
theorem mtX11_power {X : mj_XT} {l : Launch} {G : mj_GT} {ad : Nat → Nat} {Qn : Option Value → mj_IT → mj_LT → Prop} (hR : mj_R X l G mj_P0 mj_S0 98 ad 0 0 Qn) (F : Nat) (I : mj_IT) (L : mj_LT) (x0 : Int64) (x2 : Int64) (o : ((Int64))) (hf : fnX11_power F x0 x2 = some o) (hq : (fun ov => Qn (some (.long ov)) I L) o) : mj_W X G RX11 "power" cX11_power 10 1 (some .long) mj_P0 mj_S0 98 ad 0 0 0 [(0, .long x0), (2, .long x2)] [] I L := by
  unfold fnX11_power at hf
  refine mj_lconst (v := 1) dX11_power_0 (by decide) ?_
  refine mj_lstore [(4, .long (1 : Int64)), (0, .long x0), (2, .long x2)] dX11_power_1 (by decide) rfl ?_
  refine mj_lload_n 1 dX11_power_3 rfl ?_
  refine mj_ldc2 kk_X11_279 dX11_power_4 ?_
  refine mj_lrem dX11_power_7 (by decide) ?_
  refine mj_lstore [(6, .long (x0 - x0 / (998244353 : Int64) * (998244353 : Int64))), (4, .long (1 : Int64)), (0, .long x0), (2, .long x2)] dX11_power_8 (by decide) rfl ?_
  refine mj_lload_n 3 dX11_power_10 rfl ?_
  refine mj_lstore [(8, .long x2), (6, .long (x0 - x0 / (998244353 : Int64) * (998244353 : Int64))), (4, .long (1 : Int64)), (0, .long x0), (2, .long x2)] dX11_power_11 (by decide) rfl ?_
  refine mj_sub [2, 1, 0] [(4, .long (1 : Int64)), (6, .long (x0 - x0 / (998244353 : Int64) * (998244353 : Int64))), (8, .long x2)] rfl ?_
  obtain ⟨x4_3, ho3, hf⟩ := mj_bd hf
  refine lpX11_power_13 hR F I L  F ((1 : Int64), (x0 - x0 / (998244353 : Int64) * (998244353 : Int64)), x2) x4_3 ho3 ?_
  refine ?_
  refine mj_lload 0 dX11_power_64 rfl ?_
  obtain rfl := Option.some.inj hf
  have hZ := hq
  exact mj_lret hR ⟨Nat.le_refl _, Nat.le_refl _⟩ rfl dX11_power_66 hZ
set_option maxRecDepth 100000 in
set_option maxHeartbeats 4000000 in
theorem cmX11_power (l : Launch) (G : mj_GT) (F : Nat) (x0 : Int64) (x2 : Int64) (I : mj_IT) (L : mj_LT) (o : ((Int64))) (hf : fnX11_power F x0 x2 = some o) : mj_M l G yX11_power cX11_power 10 1 (some .long) 0 0 mj_P0 mj_S0 98 [.long x0, .long x2] I L (mj_qd (some (.long o)) I L) := by
  refine mj_in RX11 "power" [(0, .long x0), (2, .long x2)] rfl rfl rfl (by decide) (Nat.le_of_ble_eq_true rfl) (fun X ad hR => ?_)
  refine mtX11_power hR F I L x0 x2 o hf ?_
  exact ⟨rfl, rfl, rfl⟩

-- X11_inverse
def fnX11_inverse (F : Nat) (x0 : Int64) : Option ((Int64)) := (fnX11_power F x0 (998244351 : Int64)).bind (fun o1 => some o1)
set_option maxRecDepth 100000 in
set_option maxHeartbeats 4000000 in
theorem mtX11_inverse {X : mj_XT} {l : Launch} {G : mj_GT} {ad : Nat → Nat} {Qn : Option Value → mj_IT → mj_LT → Prop} (hR : mj_R X l G mj_P0 mj_S0 98 ad 0 0 Qn) (F : Nat) (I : mj_IT) (L : mj_LT) (x0 : Int64) (o : ((Int64))) (hf : fnX11_inverse F x0 = some o) (hq : (fun ov => Qn (some (.long ov)) I L) o) : mj_W X G RX11 "inverse" cX11_inverse 2 2 (some .long) mj_P0 mj_S0 98 ad 0 0 0 [(0, .long x0)] [] I L := by
  unfold fnX11_inverse at hf
  refine mj_lload_n 0 dX11_inverse_0 rfl ?_
  refine mj_ldc2 kk_X11_283 dX11_inverse_1 ?_
  obtain ⟨o1, ho1, hf⟩ := mj_bd hf
  refine mj_callSd (I2 := I) (L2 := L) (s1 := [.long o1]) (st := []) [.long x0, .long (998244351 : Int64)] (cmX11_power X.2.1 G F x0 (998244351 : Int64) _ _   o1 ho1) rfl rfl cw_X11_285 (by decide) rfl rfl (Nat.le_of_ble_eq_true rfl) ⟨Nat.zero_le _, Nat.zero_le _⟩ dX11_inverse_4 rfl ?_
  obtain rfl := Option.some.inj hf
  have hZ := hq
  exact mj_lret hR ⟨Nat.le_refl _, Nat.le_refl _⟩ rfl dX11_inverse_7 hZ
set_option maxRecDepth 100000 in
set_option maxHeartbeats 4000000 in
theorem cmX11_inverse (l : Launch) (G : mj_GT) (F : Nat) (x0 : Int64) (I : mj_IT) (L : mj_LT) (o : ((Int64))) (hf : fnX11_inverse F x0 = some o) : mj_M l G yX11_inverse cX11_inverse 2 2 (some .long) 0 0 mj_P0 mj_S0 98 [.long x0] I L (mj_qd (some (.long o)) I L) := by
  refine mj_in RX11 "inverse" [(0, .long x0)] rfl rfl rfl (by decide) (Nat.le_of_ble_eq_true rfl) (fun X ad hR => ?_)
  refine mtX11_inverse hR F I L x0 o hf ?_
  exact ⟨rfl, rfl, rfl⟩

-- X11_odds
def fnX11_odds (F : Nat) (x0 : Int32) : Option ((Int64)) := (fnX11_inverse F (60 : Int64)).bind (fun o1 => some ((x0.toInt64 * o1) - (x0.toInt64 * o1) / (998244353 : Int64) * (998244353 : Int64)))
set_option maxRecDepth 100000 in
set_option maxHeartbeats 4000000 in
theorem mtX11_odds {X : mj_XT} {l : Launch} {G : mj_GT} {ad : Nat → Nat} {Qn : Option Value → mj_IT → mj_LT → Prop} (hR : mj_R X l G mj_P0 mj_S0 98 ad 0 0 Qn) (F : Nat) (I : mj_IT) (L : mj_LT) (x0 : Int32) (o : ((Int64))) (hf : fnX11_odds F x0 = some o) (hq : (fun ov => Qn (some (.long ov)) I L) o) : mj_W X G RX11 "odds" cX11_odds 1 3 (some .long) mj_P0 mj_S0 98 ad 0 0 0 [(0, .int x0)] [] I L := by
  unfold fnX11_odds at hf
  refine mj_iload_n 0 dX11_odds_0 rfl ?_
  refine mj_i2l dX11_odds_1 ?_
  refine mj_ldc2 kk_X11_206 dX11_odds_2 ?_
  obtain ⟨o1, ho1, hf⟩ := mj_bd hf
  refine mj_callSd (I2 := I) (L2 := L) (s1 := [.long o1, .long x0.toInt64]) (st := [.long x0.toInt64]) [.long (60 : Int64)] (cmX11_inverse X.2.1 G F (60 : Int64) _ _   o1 ho1) rfl rfl cw_X11_289 (by decide) rfl rfl (Nat.le_of_ble_eq_true rfl) ⟨Nat.zero_le _, Nat.zero_le _⟩ dX11_odds_5 rfl ?_
  refine mj_lmul dX11_odds_8 ?_
  refine mj_ldc2 kk_X11_279 dX11_odds_9 ?_
  refine mj_lrem dX11_odds_12 (by decide) ?_
  obtain rfl := Option.some.inj hf
  have hZ := hq
  exact mj_lret hR ⟨Nat.le_refl _, Nat.le_refl _⟩ rfl dX11_odds_13 hZ
set_option maxRecDepth 100000 in
set_option maxHeartbeats 4000000 in
theorem cmX11_odds (l : Launch) (G : mj_GT) (F : Nat) (x0 : Int32) (I : mj_IT) (L : mj_LT) (o : ((Int64))) (hf : fnX11_odds F x0 = some o) : mj_M l G yX11_odds cX11_odds 1 3 (some .long) 0 0 mj_P0 mj_S0 98 [.int x0] I L (mj_qd (some (.long o)) I L) := by
  refine mj_in RX11 "odds" [(0, .int x0)] rfl rfl rfl (by decide) (Nat.le_of_ble_eq_true rfl) (fun X ad hR => ?_)
  refine mtX11_odds hR F I L x0 o hf ?_
  exact ⟨rfl, rfl, rfl⟩

