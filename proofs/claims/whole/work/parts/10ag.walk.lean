-- X7_link
def bdX7_link_2 (F : Nat) (r18 : Nat → Int32) (r19 : Nat → Int32) (r27 : Nat → Int32) (x1 : Int32) (r28 : Nat → Int32) : Option (((Int32) × (Nat → Int32)) ⊕ ((Nat → Int32))) := (if (r18 0) ≤ x1 then some (.inr r28) else (fnX7_placeBehind F r18 r19 r27 r28 x1).bind (fun o2 => (if mj_ib x1 40 = true then some (.inl ((x1 + (1)), (upd r28 x1.toNatClampNeg o2))) else none)))
def jnX7_link_94 (F : Nat) (r18 : Nat → Int32) (r19 : Nat → Int32) (r28 : Nat → Int32) (x1 : Int32) (x2 : Int32) (r25 : Nat → Int32) (r26 : Nat → Int32) : Option (((Int32) × (Nat → Int32) × (Nat → Int32)) ⊕ ((Nat → Int32) × (Nat → Int32))) := (if x2 = (5 : Int32) then (if mj_ib x1 40 = true then some (.inl ((x1 + (1)), r25, (upd r26 x1.toNatClampNeg ((r18 0) + (1 : Int32))))) else none) else (if mj_ib x1 40 = true then (if (r26 x1.toNatClampNeg) = (-1 : Int32) then (if x2 = (2 : Int32) then (if mj_ib x1 40 = true then (if mj_ib x1 40 = true then some (.inl ((x1 + (1)), r25, (upd r26 x1.toNatClampNeg (r28 x1.toNatClampNeg)))) else none) else none) else (if x2 = (3 : Int32) then (if mj_ib x1 40 = true then (if mj_ib x1 40 = true then some (.inl ((x1 + (1)), r25, (upd r26 x1.toNatClampNeg (r28 x1.toNatClampNeg)))) else none) else none) else (if x2 = (4 : Int32) then (if mj_ib x1 40 = true then (if mj_ib x1 40 = true then some (.inl ((x1 + (1)), r25, (upd r26 x1.toNatClampNeg (r28 x1.toNatClampNeg)))) else none) else none) else some (.inl ((x1 + (1)), r25, r26))))) else some (.inl ((x1 + (1)), r25, r26))) else none))
def jnX7_link_93 (F : Nat) (r18 : Nat → Int32) (r19 : Nat → Int32) (r28 : Nat → Int32) (x1 : Int32) (x2 : Int32) (t1 : Int32) (t2 : Int32) (r25 : Nat → Int32) (r26 : Nat → Int32) : Option (((Int32) × (Nat → Int32) × (Nat → Int32)) ⊕ ((Nat → Int32) × (Nat → Int32))) := (if mj_ib t1 40 = true then jnX7_link_94 F r18 r19 r28 x1 x2 (upd r25 t1.toNatClampNeg t2) r26 else none)
def bdX7_link_29 (F : Nat) (r18 : Nat → Int32) (r19 : Nat → Int32) (r28 : Nat → Int32) (x1 : Int32) (r25 : Nat → Int32) (r26 : Nat → Int32) : Option (((Int32) × (Nat → Int32) × (Nat → Int32)) ⊕ ((Nat → Int32) × (Nat → Int32))) := (if (r18 0) ≤ x1 then some (.inr (r25, r26)) else (if mj_ib x1 40 = true then (if (r19 x1.toNatClampNeg) = (6 : Int32) then (if mj_ib x1 40 = true then jnX7_link_94 F r18 r19 r28 x1 (r19 x1.toNatClampNeg) (upd r25 x1.toNatClampNeg (r18 0)) r26 else none) else (if mj_ib x1 40 = true then (if (r25 x1.toNatClampNeg) = (-1 : Int32) then (if (r19 x1.toNatClampNeg) = (4 : Int32) then jnX7_link_93 F r18 r19 r28 x1 (r19 x1.toNatClampNeg) x1 x1 r25 r26 else (if mj_ib x1 40 = true then jnX7_link_93 F r18 r19 r28 x1 (r19 x1.toNatClampNeg) x1 (r28 x1.toNatClampNeg) r25 r26 else none)) else jnX7_link_94 F r18 r19 r28 x1 (r19 x1.toNatClampNeg) r25 r26) else none)) else none))
def fnX7_link (F : Nat) (r18 : Nat → Int32) (r19 : Nat → Int32) (r25 : Nat → Int32) (r26 : Nat → Int32) (r27 : Nat → Int32) (r28 : Nat → Int32) : Option ((Nat → Int32) × (Nat → Int32) × (Nat → Int32)) := (mj_it (mj_u2 (fun z0 z1 => bdX7_link_2 F r18 r19 r27 z0 z1)) F ((0 : Int32), r28)).bind (fun r28_26 => (mj_it (mj_u2 (fun z0 => (mj_u2 (fun z1 z2 => bdX7_link_29 F r18 r19 r28_26 z0 z1 z2)))) F ((0 : Int32), r25, r26)).bind (mj_u2 (fun r25_27 r26_27 => some (r25_27, r26_27, r28_26))))
set_option maxRecDepth 100000 in
set_option maxHeartbeats 4000000 in
theorem lpX7_link_2 {X : mj_XT} {l : Launch} {G : mj_GT} {ad : Nat → Nat} {Qn : Option Value → mj_IT → mj_LT → Prop} (hR : mj_R X l G mj_P0 mj_S0 98 ad 0 0 Qn) (F : Nat) (I : mj_IT) (L : mj_LT) (r18 : Nat → Int32) (r19 : Nat → Int32) (r25 : Nat → Int32) (r26 : Nat → Int32) (r27 : Nat → Int32) (r28 : Nat → Int32) : ∀ (n : Nat) (s : ((Int32) × (Nat → Int32))) (e : ((Nat → Int32))), mj_it (mj_u2 (fun z0 z1 => bdX7_link_2 F r18 r19 r27 z0 z1)) n s = some e → (fun r28 => mj_W X G RX7 "link" cX7_link 3 2 none mj_P0 mj_S0 98 ad 0 0 27 [(0, .ref 18)] [] (mj_rows I [(18, r18), (19, r19), (25, r25), (26, r26), (27, r27), (28, r28)]) L) e → (mj_u2 (fun x1 r28 => mj_W X G RX7 "link" cX7_link 3 2 none mj_P0 mj_S0 98 ad 0 0 2 [(0, .ref 18), (1, .int x1)] [] (mj_rows I [(18, r18), (19, r19), (25, r25), (26, r26), (27, r27), (28, r28)]) L)) s := by
  refine mj_loop (fun s o hf hc hx => ?_)
  obtain ⟨x1, r28⟩ := s
  replace hf := mj_u2e hf
  refine mj_u2q ?_
  unfold bdX7_link_2 at hf
  refine mj_iload_n 1 dX7_link_2 rfl ?_
  refine mj_aload_n 0 dX7_link_3 rfl ?_
  refine mj_getIv (v := (r18 0)) rfl fl_X7_42 rfl s0_18 a0_18 dX7_link_4 ?_
  refine mj_icmp_ge 27 dX7_link_7 (by decide) (fun c1 => ?_) (fun c1 => ?_)
  · replace hf := mj_pos c1 hf
    refine mj_sub [0] [(0, .ref 18)] rfl ?_
    obtain rfl := Option.some.inj hf
    have hZ := hx r28 rfl
    exact hZ
  · replace hf := mj_neg c1 hf
    refine mj_aload_n 0 dX7_link_10 rfl ?_
    refine mj_getP p0_18_10 (by decide) fl_X7_39 rfl s0_18 a0_18 dX7_link_11 ?_
    refine mj_iload_n 1 dX7_link_14 rfl ?_
    refine mj_aload_n 0 dX7_link_15 rfl ?_
    refine mj_iload_n 1 dX7_link_16 rfl ?_
    obtain ⟨o2, ho2, hf⟩ := mj_bd hf
    refine mj_callVd (I2 := (mj_rows I [(18, r18), (19, r19), (25, r25), (26, r26), (27, r27), (28, r28)])) (L2 := L) (s1 := [.int o2, .int x1, .ref 28]) (st := [.int x1, .ref 28]) [.int x1] (cmX7_placeBehind X.2.1 G F x1 _ _ r18 r19 r27 r28 rfl rfl rfl rfl o2 ho2) (mj_rr rfl) rfl cw_X7_46 s0_18 a0_18 (by decide) rfl rfl (Nat.le_of_ble_eq_true rfl) ⟨Nat.zero_le _, Nat.zero_le _⟩ dX7_link_17 rfl ?_
    obtain ⟨z3, hf⟩ := mj_ck hf
    refine mj_iastr [(18, r18), (19, r19), (25, r25), (26, r26), (27, r27), (28, (upd r28 x1.toNatClampNeg o2))] rfl s0_28 a0_28 z3 dX7_link_20 ?_
    refine mj_iinc 1 [(1, .int (x1 + (1))), (0, .ref 18)] dX7_link_21 rfl (kz_1 _) (by decide) rfl ?_
    refine mj_goto 2 dX7_link_24 (by decide) ?_
    refine mj_sub [1, 0] [(0, .ref 18), (1, .int (x1 + (1)))] rfl ?_
    obtain rfl := Option.some.inj hf
    have hZ := hc ((x1 + (1)), (upd r28 x1.toNatClampNeg o2)) rfl
    replace hZ := mj_u2p hZ
    exact hZ
set_option maxRecDepth 100000 in
set_option maxHeartbeats 4000000 in
theorem jtX7_link_94 {X : mj_XT} {l : Launch} {G : mj_GT} {ad : Nat → Nat} {Qn : Option Value → mj_IT → mj_LT → Prop} (hR : mj_R X l G mj_P0 mj_S0 98 ad 0 0 Qn) (F : Nat) (I : mj_IT) (L : mj_LT) (r18 : Nat → Int32) (r19 : Nat → Int32) (r25 : Nat → Int32) (r26 : Nat → Int32) (r27 : Nat → Int32) (r28 : Nat → Int32) (x1 : Int32) (x2 : Int32) (o : (((Int32) × (Nat → Int32) × (Nat → Int32)) ⊕ ((Nat → Int32) × (Nat → Int32)))) (hf : jnX7_link_94 F r18 r19 r28 x1 x2 r25 r26 = some o) (hc : ∀ s2 : ((Int32) × (Nat → Int32) × (Nat → Int32)), o = .inl s2 → (mj_u2 (fun x1 => (mj_u2 (fun r25 r26 => mj_W X G RX7 "link" cX7_link 3 2 none mj_P0 mj_S0 98 ad 0 0 29 [(0, .ref 18), (1, .int x1)] [] (mj_rows I [(18, r18), (19, r19), (25, r25), (26, r26), (27, r27), (28, r28)]) L)))) s2) (hx : ∀ e2 : ((Nat → Int32) × (Nat → Int32)), o = .inr e2 → (mj_u2 (fun r25 r26 => mj_W X G RX7 "link" cX7_link 3 2 none mj_P0 mj_S0 98 ad 0 0 157 [] [] (mj_rows I [(18, r18), (19, r19), (25, r25), (26, r26), (27, r27), (28, r28)]) L)) e2) : mj_W X G RX7 "link" cX7_link 3 2 none mj_P0 mj_S0 98 ad 0 0 94 [(0, .ref 18), (1, .int x1), (2, .int x2)] [] (mj_rows I [(18, r18), (19, r19), (25, r25), (26, r26), (27, r27), (28, r28)]) L := by
  unfold jnX7_link_94 at hf
  refine mj_iload_n 2 dX7_link_94 rfl ?_
  refine mj_iconst dX7_link_95 kc_iconst_5 ?_
  refine mj_icmp_ne 114 dX7_link_96 (by decide) (fun c4 => ?_) (fun c4 => ?_)
  · replace hf := mj_neg c4 hf
    refine mj_aload_n 0 dX7_link_114 rfl ?_
    refine mj_getP p0_18_8 (by decide) fl_X7_33 rfl s0_18 a0_18 dX7_link_115 ?_
    refine mj_iload_n 1 dX7_link_118 rfl ?_
    obtain ⟨z5, hf⟩ := mj_ck hf
    refine mj_ialdv (x := r26) rfl s0_26 a0_26 z5 dX7_link_119 ?_
    refine mj_iconst dX7_link_120 kc_iconst_m1 ?_
    refine mj_icmp_ne 151 dX7_link_121 (by decide) (fun c6 => ?_) (fun c6 => ?_)
    · replace hf := mj_neg c6 hf
      refine mj_iinc 1 [(1, .int (x1 + (1))), (0, .ref 18), (2, .int x2)] dX7_link_151 rfl (kz_1 _) (by decide) rfl ?_
      refine mj_goto 29 dX7_link_154 (by decide) ?_
      refine mj_sub [1, 0] [(0, .ref 18), (1, .int (x1 + (1)))] rfl ?_
      obtain rfl := Option.some.inj hf
      have hZ := hc ((x1 + (1)), r25, r26) rfl
      replace hZ := mj_u2p hZ
      replace hZ := mj_u2p hZ
      exact hZ
    · replace hf := mj_pos c6 hf
      refine mj_iload_n 2 dX7_link_124 rfl ?_
      refine mj_iconst dX7_link_125 kc_iconst_2 ?_
      refine mj_icmp_eq 139 dX7_link_126 (by decide) (fun c7 => ?_) (fun c7 => ?_)
      · replace hf := mj_pos c7 hf
        refine mj_aload_n 0 dX7_link_139 rfl ?_
        refine mj_getP p0_18_8 (by decide) fl_X7_33 rfl s0_18 a0_18 dX7_link_140 ?_
        refine mj_iload_n 1 dX7_link_143 rfl ?_
        refine mj_aload_n 0 dX7_link_144 rfl ?_
        refine mj_getP p0_18_10 (by decide) fl_X7_39 rfl s0_18 a0_18 dX7_link_145 ?_
        refine mj_iload_n 1 dX7_link_148 rfl ?_
        obtain ⟨z8, hf⟩ := mj_ck hf
        refine mj_ialdv (x := r28) rfl s0_28 a0_28 z8 dX7_link_149 ?_
        obtain ⟨z9, hf⟩ := mj_ck hf
        refine mj_iastr [(18, r18), (19, r19), (25, r25), (26, (upd r26 x1.toNatClampNeg (r28 x1.toNatClampNeg))), (27, r27), (28, r28)] rfl s0_26 a0_26 z9 dX7_link_150 ?_
        refine mj_iinc 1 [(1, .int (x1 + (1))), (0, .ref 18), (2, .int x2)] dX7_link_151 rfl (kz_1 _) (by decide) rfl ?_
        refine mj_goto 29 dX7_link_154 (by decide) ?_
        refine mj_sub [1, 0] [(0, .ref 18), (1, .int (x1 + (1)))] rfl ?_
        obtain rfl := Option.some.inj hf
        have hZ := hc ((x1 + (1)), r25, (upd r26 x1.toNatClampNeg (r28 x1.toNatClampNeg))) rfl
        replace hZ := mj_u2p hZ
        replace hZ := mj_u2p hZ
        exact hZ
      · replace hf := mj_neg c7 hf
        refine mj_iload_n 2 dX7_link_129 rfl ?_
        refine mj_iconst dX7_link_130 kc_iconst_3 ?_
        refine mj_icmp_eq 139 dX7_link_131 (by decide) (fun c10 => ?_) (fun c10 => ?_)
        · replace hf := mj_pos c10 hf
          refine mj_aload_n 0 dX7_link_139 rfl ?_
          refine mj_getP p0_18_8 (by decide) fl_X7_33 rfl s0_18 a0_18 dX7_link_140 ?_
          refine mj_iload_n 1 dX7_link_143 rfl ?_
          refine mj_aload_n 0 dX7_link_144 rfl ?_
          refine mj_getP p0_18_10 (by decide) fl_X7_39 rfl s0_18 a0_18 dX7_link_145 ?_
          refine mj_iload_n 1 dX7_link_148 rfl ?_
          obtain ⟨z11, hf⟩ := mj_ck hf
          refine mj_ialdv (x := r28) rfl s0_28 a0_28 z11 dX7_link_149 ?_
          obtain ⟨z12, hf⟩ := mj_ck hf
          refine mj_iastr [(18, r18), (19, r19), (25, r25), (26, (upd r26 x1.toNatClampNeg (r28 x1.toNatClampNeg))), (27, r27), (28, r28)] rfl s0_26 a0_26 z12 dX7_link_150 ?_
          refine mj_iinc 1 [(1, .int (x1 + (1))), (0, .ref 18), (2, .int x2)] dX7_link_151 rfl (kz_1 _) (by decide) rfl ?_
          refine mj_goto 29 dX7_link_154 (by decide) ?_
          refine mj_sub [1, 0] [(0, .ref 18), (1, .int (x1 + (1)))] rfl ?_
          obtain rfl := Option.some.inj hf
          have hZ := hc ((x1 + (1)), r25, (upd r26 x1.toNatClampNeg (r28 x1.toNatClampNeg))) rfl
          replace hZ := mj_u2p hZ
          replace hZ := mj_u2p hZ
          exact hZ
        · replace hf := mj_neg c10 hf
          refine mj_iload_n 2 dX7_link_134 rfl ?_
          refine mj_iconst dX7_link_135 kc_iconst_4 ?_
          refine mj_icmp_ne 151 dX7_link_136 (by decide) (fun c13 => ?_) (fun c13 => ?_)
          · replace hf := mj_neg c13 hf
            refine mj_iinc 1 [(1, .int (x1 + (1))), (0, .ref 18), (2, .int x2)] dX7_link_151 rfl (kz_1 _) (by decide) rfl ?_
            refine mj_goto 29 dX7_link_154 (by decide) ?_
            refine mj_sub [1, 0] [(0, .ref 18), (1, .int (x1 + (1)))] rfl ?_
            obtain rfl := Option.some.inj hf
            have hZ := hc ((x1 + (1)), r25, r26) rfl
            replace hZ := mj_u2p hZ
            replace hZ := mj_u2p hZ
            exact hZ
          · replace hf := mj_pos c13 hf
            refine mj_aload_n 0 dX7_link_139 rfl ?_
            refine mj_getP p0_18_8 (by decide) fl_X7_33 rfl s0_18 a0_18 dX7_link_140 ?_
            refine mj_iload_n 1 dX7_link_143 rfl ?_
            refine mj_aload_n 0 dX7_link_144 rfl ?_
            refine mj_getP p0_18_10 (by decide) fl_X7_39 rfl s0_18 a0_18 dX7_link_145 ?_
            refine mj_iload_n 1 dX7_link_148 rfl ?_
            obtain ⟨z14, hf⟩ := mj_ck hf
            refine mj_ialdv (x := r28) rfl s0_28 a0_28 z14 dX7_link_149 ?_
            obtain ⟨z15, hf⟩ := mj_ck hf
            refine mj_iastr [(18, r18), (19, r19), (25, r25), (26, (upd r26 x1.toNatClampNeg (r28 x1.toNatClampNeg))), (27, r27), (28, r28)] rfl s0_26 a0_26 z15 dX7_link_150 ?_
            refine mj_iinc 1 [(1, .int (x1 + (1))), (0, .ref 18), (2, .int x2)] dX7_link_151 rfl (kz_1 _) (by decide) rfl ?_
            refine mj_goto 29 dX7_link_154 (by decide) ?_
            refine mj_sub [1, 0] [(0, .ref 18), (1, .int (x1 + (1)))] rfl ?_
            obtain rfl := Option.some.inj hf
            have hZ := hc ((x1 + (1)), r25, (upd r26 x1.toNatClampNeg (r28 x1.toNatClampNeg))) rfl
            replace hZ := mj_u2p hZ
            replace hZ := mj_u2p hZ
            exact hZ
  · replace hf := mj_pos c4 hf
    refine mj_aload_n 0 dX7_link_99 rfl ?_
    refine mj_getP p0_18_8 (by decide) fl_X7_33 rfl s0_18 a0_18 dX7_link_100 ?_
    refine mj_iload_n 1 dX7_link_103 rfl ?_
    refine mj_aload_n 0 dX7_link_104 rfl ?_
    refine mj_getIv (v := (r18 0)) rfl fl_X7_42 rfl s0_18 a0_18 dX7_link_105 ?_
    refine mj_iconst dX7_link_108 kc_iconst_1 ?_
    refine mj_iadd dX7_link_109 ?_
    obtain ⟨z16, hf⟩ := mj_ck hf
    refine mj_iastr [(18, r18), (19, r19), (25, r25), (26, (upd r26 x1.toNatClampNeg ((r18 0) + (1 : Int32)))), (27, r27), (28, r28)] rfl s0_26 a0_26 z16 dX7_link_110 ?_
    refine mj_goto 151 dX7_link_111 (by decide) ?_
    refine mj_iinc 1 [(1, .int (x1 + (1))), (0, .ref 18), (2, .int x2)] dX7_link_151 rfl (kz_1 _) (by decide) rfl ?_
    refine mj_goto 29 dX7_link_154 (by decide) ?_
    refine mj_sub [1, 0] [(0, .ref 18), (1, .int (x1 + (1)))] rfl ?_
    obtain rfl := Option.some.inj hf
    have hZ := hc ((x1 + (1)), r25, (upd r26 x1.toNatClampNeg ((r18 0) + (1 : Int32)))) rfl
    replace hZ := mj_u2p hZ
    replace hZ := mj_u2p hZ
    exact hZ
set_option maxRecDepth 100000 in
set_option maxHeartbeats 4000000 in
theorem jtX7_link_93 {X : mj_XT} {l : Launch} {G : mj_GT} {ad : Nat → Nat} {Qn : Option Value → mj_IT → mj_LT → Prop} (hR : mj_R X l G mj_P0 mj_S0 98 ad 0 0 Qn) (F : Nat) (I : mj_IT) (L : mj_LT) (r18 : Nat → Int32) (r19 : Nat → Int32) (r25 : Nat → Int32) (r26 : Nat → Int32) (r27 : Nat → Int32) (r28 : Nat → Int32) (x1 : Int32) (x2 : Int32) (t1 : Int32) (t2 : Int32) (o : (((Int32) × (Nat → Int32) × (Nat → Int32)) ⊕ ((Nat → Int32) × (Nat → Int32)))) (hf : jnX7_link_93 F r18 r19 r28 x1 x2 t1 t2 r25 r26 = some o) (hc : ∀ s2 : ((Int32) × (Nat → Int32) × (Nat → Int32)), o = .inl s2 → (mj_u2 (fun x1 => (mj_u2 (fun r25 r26 => mj_W X G RX7 "link" cX7_link 3 2 none mj_P0 mj_S0 98 ad 0 0 29 [(0, .ref 18), (1, .int x1)] [] (mj_rows I [(18, r18), (19, r19), (25, r25), (26, r26), (27, r27), (28, r28)]) L)))) s2) (hx : ∀ e2 : ((Nat → Int32) × (Nat → Int32)), o = .inr e2 → (mj_u2 (fun r25 r26 => mj_W X G RX7 "link" cX7_link 3 2 none mj_P0 mj_S0 98 ad 0 0 157 [] [] (mj_rows I [(18, r18), (19, r19), (25, r25), (26, r26), (27, r27), (28, r28)]) L)) e2) : mj_W X G RX7 "link" cX7_link 3 2 none mj_P0 mj_S0 98 ad 0 0 93 [(0, .ref 18), (1, .int x1), (2, .int x2)] [.int t2, .int t1, .ref 25] (mj_rows I [(18, r18), (19, r19), (25, r25), (26, r26), (27, r27), (28, r28)]) L := by
  unfold jnX7_link_93 at hf
  obtain ⟨z17, hf⟩ := mj_ck hf
  refine mj_iastr [(18, r18), (19, r19), (25, (upd r25 t1.toNatClampNeg t2)), (26, r26), (27, r27), (28, r28)] rfl s0_25 a0_25 z17 dX7_link_93 ?_
  exact jtX7_link_94 hR F I L r18 r19 (upd r25 t1.toNatClampNeg t2) r26 r27 r28 x1 x2 o hf hc hx
set_option maxRecDepth 100000 in
set_option maxHeartbeats 4000000 in
theorem lpX7_link_29 {X : mj_XT} {l : Launch} {G : mj_GT} {ad : Nat → Nat} {Qn : Option Value → mj_IT → mj_LT → Prop} (hR : mj_R X l G mj_P0 mj_S0 98 ad 0 0 Qn) (F : Nat) (I : mj_IT) (L : mj_LT) (r18 : Nat → Int32) (r19 : Nat → Int32) (r25 : Nat → Int32) (r26 : Nat → Int32) (r27 : Nat → Int32) (r28 : Nat → Int32) : ∀ (n : Nat) (s : ((Int32) × (Nat → Int32) × (Nat → Int32))) (e : ((Nat → Int32) × (Nat → Int32))), mj_it (mj_u2 (fun z0 => (mj_u2 (fun z1 z2 => bdX7_link_29 F r18 r19 r28 z0 z1 z2)))) n s = some e → (mj_u2 (fun r25 r26 => mj_W X G RX7 "link" cX7_link 3 2 none mj_P0 mj_S0 98 ad 0 0 157 [] [] (mj_rows I [(18, r18), (19, r19), (25, r25), (26, r26), (27, r27), (28, r28)]) L)) e → (mj_u2 (fun x1 => (mj_u2 (fun r25 r26 => mj_W X G RX7 "link" cX7_link 3 2 none mj_P0 mj_S0 98 ad 0 0 29 [(0, .ref 18), (1, .int x1)] [] (mj_rows I [(18, r18), (19, r19), (25, r25), (26, r26), (27, r27), (28, r28)]) L)))) s := by
  refine mj_loop (fun s o hf hc hx => ?_)
  obtain ⟨x1, r25, r26⟩ := s
  replace hf := mj_u2e hf
  refine mj_u2q ?_
  replace hf := mj_u2e hf
  refine mj_u2q ?_
  unfold bdX7_link_29 at hf
  refine mj_iload_n 1 dX7_link_29 rfl ?_
  refine mj_aload_n 0 dX7_link_30 rfl ?_
  refine mj_getIv (v := (r18 0)) rfl fl_X7_42 rfl s0_18 a0_18 dX7_link_31 ?_
  refine mj_icmp_ge 157 dX7_link_34 (by decide) (fun c18 => ?_) (fun c18 => ?_)
  · replace hf := mj_pos c18 hf
    refine mj_sub [] [] rfl ?_
    obtain rfl := Option.some.inj hf
    have hZ := hx (r25, r26) rfl
    replace hZ := mj_u2p hZ
    exact hZ
  · replace hf := mj_neg c18 hf
    refine mj_aload_n 0 dX7_link_37 rfl ?_
    refine mj_getP p0_18_1 (by decide) fl_X7_9 rfl s0_18 a0_18 dX7_link_38 ?_
    refine mj_iload_n 1 dX7_link_41 rfl ?_
    obtain ⟨z19, hf⟩ := mj_ck hf
    refine mj_ialdv (x := r19) rfl s0_19 a0_19 z19 dX7_link_42 ?_
    refine mj_istore_n [(2, .int (r19 x1.toNatClampNeg)), (0, .ref 18), (1, .int x1)] dX7_link_43 rfl (by decide) rfl ?_
    refine mj_iload_n 0 dX7_link_44 rfl ?_
    refine mj_bipush dX7_link_45 kc_bipush_6 ?_
    refine mj_icmp_ne 63 dX7_link_47 (by decide) (fun c20 => ?_) (fun c20 => ?_)
    · replace hf := mj_neg c20 hf
      refine mj_aload_n 1 dX7_link_63 rfl ?_
      refine mj_getP p0_18_7 (by decide) fl_X7_30 rfl s0_18 a0_18 dX7_link_64 ?_
      refine mj_iload_n 2 dX7_link_67 rfl ?_
      obtain ⟨z21, hf⟩ := mj_ck hf
      refine mj_ialdv (x := r25) rfl s0_25 a0_25 z21 dX7_link_68 ?_
      refine mj_iconst dX7_link_69 kc_iconst_m1 ?_
      refine mj_icmp_ne 94 dX7_link_70 (by decide) (fun c22 => ?_) (fun c22 => ?_)
      · replace hf := mj_neg c22 hf
        refine mj_sub [1, 2, 0] [(0, .ref 18), (1, .int x1), (2, .int (r19 x1.toNatClampNeg))] rfl ?_
        exact jtX7_link_94 hR F I L r18 r19 r25 r26 r27 r28 x1 (r19 x1.toNatClampNeg) o hf hc hx
      · replace hf := mj_pos c22 hf
        refine mj_aload_n 1 dX7_link_73 rfl ?_
        refine mj_getP p0_18_7 (by decide) fl_X7_30 rfl s0_18 a0_18 dX7_link_74 ?_
        refine mj_iload_n 2 dX7_link_77 rfl ?_
        refine mj_iload_n 0 dX7_link_78 rfl ?_
        refine mj_iconst dX7_link_79 kc_iconst_4 ?_
        refine mj_icmp_ne 87 dX7_link_80 (by decide) (fun c23 => ?_) (fun c23 => ?_)
        · replace hf := mj_neg c23 hf
          refine mj_aload_n 1 dX7_link_87 rfl ?_
          refine mj_getP p0_18_10 (by decide) fl_X7_39 rfl s0_18 a0_18 dX7_link_88 ?_
          refine mj_iload_n 2 dX7_link_91 rfl ?_
          obtain ⟨z24, hf⟩ := mj_ck hf
          refine mj_ialdv (x := r28) rfl s0_28 a0_28 z24 dX7_link_92 ?_
          refine mj_sub [1, 2, 0] [(0, .ref 18), (1, .int x1), (2, .int (r19 x1.toNatClampNeg))] rfl ?_
          exact jtX7_link_93 hR F I L r18 r19 r25 r26 r27 r28 x1 (r19 x1.toNatClampNeg) x1 (r28 x1.toNatClampNeg) o hf hc hx
        · replace hf := mj_pos c23 hf
          refine mj_iload_n 2 dX7_link_83 rfl ?_
          refine mj_goto 93 dX7_link_84 (by decide) ?_
          refine mj_sub [1, 2, 0] [(0, .ref 18), (1, .int x1), (2, .int (r19 x1.toNatClampNeg))] rfl ?_
          exact jtX7_link_93 hR F I L r18 r19 r25 r26 r27 r28 x1 (r19 x1.toNatClampNeg) x1 x1 o hf hc hx
    · replace hf := mj_pos c20 hf
      refine mj_aload_n 1 dX7_link_50 rfl ?_
      refine mj_getP p0_18_7 (by decide) fl_X7_30 rfl s0_18 a0_18 dX7_link_51 ?_
      refine mj_iload_n 2 dX7_link_54 rfl ?_
      refine mj_aload_n 1 dX7_link_55 rfl ?_
      refine mj_getIv (v := (r18 0)) rfl fl_X7_42 rfl s0_18 a0_18 dX7_link_56 ?_
      obtain ⟨z25, hf⟩ := mj_ck hf
      refine mj_iastr [(18, r18), (19, r19), (25, (upd r25 x1.toNatClampNeg (r18 0))), (26, r26), (27, r27), (28, r28)] rfl s0_25 a0_25 z25 dX7_link_59 ?_
      refine mj_goto 94 dX7_link_60 (by decide) ?_
      refine mj_sub [1, 2, 0] [(0, .ref 18), (1, .int x1), (2, .int (r19 x1.toNatClampNeg))] rfl ?_
      exact jtX7_link_94 hR F I L r18 r19 (upd r25 x1.toNatClampNeg (r18 0)) r26 r27 r28 x1 (r19 x1.toNatClampNeg) o hf hc hx
set_option maxRecDepth 100000 in
set_option maxHeartbeats 4000000 in
theorem mtX7_link {X : mj_XT} {l : Launch} {G : mj_GT} {ad : Nat → Nat} {Qn : Option Value → mj_IT → mj_LT → Prop} (hR : mj_R X l G mj_P0 mj_S0 98 ad 0 0 Qn) (F : Nat) (I : mj_IT) (L : mj_LT) (r18 : Nat → Int32) (r19 : Nat → Int32) (r25 : Nat → Int32) (r26 : Nat → Int32) (r27 : Nat → Int32) (r28 : Nat → Int32) (o : ((Nat → Int32) × (Nat → Int32) × (Nat → Int32))) (hf : fnX7_link F r18 r19 r25 r26 r27 r28 = some o) (hq : (mj_u2 (fun r25 => (mj_u2 (fun r26 r28 => Qn none (mj_rows I [(18, r18), (19, r19), (25, r25), (26, r26), (27, r27), (28, r28)]) L)))) o) : mj_W X G RX7 "link" cX7_link 3 2 none mj_P0 mj_S0 98 ad 0 0 0 [(0, .ref 18)] [] (mj_rows I [(18, r18), (19, r19), (25, r25), (26, r26), (27, r27), (28, r28)]) L := by
  unfold fnX7_link at hf
  refine mj_iconst dX7_link_0 kc_iconst_0 ?_
  refine mj_istore_n [(1, .int (0 : Int32)), (0, .ref 18)] dX7_link_1 rfl (by decide) rfl ?_
  refine mj_sub [1, 0] [(0, .ref 18), (1, .int (0 : Int32))] rfl ?_
  obtain ⟨r28_26, ho26, hf⟩ := mj_bd hf
  refine lpX7_link_2 hR F I L r18 r19 r25 r26 r27 r28 F ((0 : Int32), r28) r28_26 ho26 ?_
  refine ?_
  refine mj_iconst dX7_link_27 kc_iconst_0 ?_
  refine mj_istore_n [(1, .int (0 : Int32)), (0, .ref 18)] dX7_link_28 rfl (by decide) rfl ?_
  refine mj_sub [1, 0] [(0, .ref 18), (1, .int (0 : Int32))] rfl ?_
  obtain ⟨e27, ho27, hf⟩ := mj_bd hf
  refine lpX7_link_29 hR F I L r18 r19 r25 r26 r27 r28_26 F ((0 : Int32), r25, r26) e27 ho27 ?_
  obtain ⟨r25_27, r26_27⟩ := e27
  replace hf := mj_u2e hf
  refine ?_
  refine mj_u2q ?_
  obtain rfl := Option.some.inj hf
  have hZ := hq
  replace hZ := mj_u2p hZ
  replace hZ := mj_u2p hZ
  exact mj_vret hR ⟨Nat.le_refl _, Nat.le_refl _⟩ rfl dX7_link_157 hZ
set_option maxRecDepth 100000 in
set_option maxHeartbeats 4000000 in
theorem cmX7_link (l : Launch) (G : mj_GT) (F : Nat) (I : mj_IT) (L : mj_LT) (r18 : Nat → Int32) (r19 : Nat → Int32) (r25 : Nat → Int32) (r26 : Nat → Int32) (r27 : Nat → Int32) (r28 : Nat → Int32) (hr18 : I 18 = r18) (hr19 : I 19 = r19) (hr25 : I 25 = r25) (hr26 : I 26 = r26) (hr27 : I 27 = r27) (hr28 : I 28 = r28) (o : ((Nat → Int32) × (Nat → Int32) × (Nat → Int32))) (hf : fnX7_link F r18 r19 r25 r26 r27 r28 = some o) : mj_M l G yX7_link cX7_link 3 2 none 0 0 mj_P0 mj_S0 98 [.ref 18] I L (mj_qd none (mj_rows I [(18, r18), (19, r19), (25, o.1), (26, o.2.1), (27, r27), (28, o.2.2)]) L) := by
  refine mj_in RX7 "link" [(0, .ref 18)] rfl rfl rfl (by decide) (Nat.le_of_ble_eq_true rfl) (fun X ad hR => ?_)
  refine mj_toI [(18, r18), (19, r19), (25, r25), (26, r26), (27, r27), (28, r28)] (by intro q hq; simp only [List.mem_cons, List.not_mem_nil, or_false] at hq; rcases hq with rfl | rfl | rfl | rfl | rfl | rfl <;> assumption) ?_
  refine mtX7_link hR F I L r18 r19 r25 r26 r27 r28 o hf ?_
  obtain ⟨w0, w1, w2⟩ := o
  refine mj_u2q ?_
  refine mj_u2q ?_
  exact ⟨rfl, rfl, rfl⟩

-- X8_put
def bdX8_put_3 (F : Nat) (x1 : Int32) (x2 : Int32) (r2 : Nat → Int32) (r3 : Nat → Int32) : Option (((Int32) × (Nat → Int32) × (Nat → Int32)) ⊕ ((Nat → Int32) × (Nat → Int32))) := (if x2 < 0 then some (.inr (r2, r3)) else (if (400 : Int32) ≤ (r2 0) then some (.inr (r2, r3)) else (if mj_ib (r2 0) 400 = true then some (.inl ((x2 + (-8)), (upd r2 0 ((r2 0) + (1 : Int32))), (upd r3 ((r2 0).toNatClampNeg) ((x1 >>> (x2 &&& 31)) &&& (255 : Int32))))) else none)))
def fnX8_put (F : Nat) (r2 : Nat → Int32) (r3 : Nat → Int32) (x1 : Int32) : Option ((Nat → Int32) × (Nat → Int32)) := (mj_it (mj_u2 (fun z0 => (mj_u2 (fun z1 z2 => bdX8_put_3 F x1 z0 z1 z2)))) F ((24 : Int32), r2, r3)).bind (mj_u2 (fun r2_4 r3_4 => some (r2_4, r3_4)))
set_option maxRecDepth 100000 in
set_option maxHeartbeats 4000000 in
theorem lpX8_put_3 {X : mj_XT} {l : Launch} {G : mj_GT} {ad : Nat → Nat} {Qn : Option Value → mj_IT → mj_LT → Prop} (hR : mj_R X l G mj_P0 mj_S0 98 ad 0 0 Qn) (F : Nat) (I : mj_IT) (L : mj_LT) (r2 : Nat → Int32) (r3 : Nat → Int32) (x1 : Int32) : ∀ (n : Nat) (s : ((Int32) × (Nat → Int32) × (Nat → Int32))) (e : ((Nat → Int32) × (Nat → Int32))), mj_it (mj_u2 (fun z0 => (mj_u2 (fun z1 z2 => bdX8_put_3 F x1 z0 z1 z2)))) n s = some e → (mj_u2 (fun r2 r3 => mj_W X G RX8 "put" cX8_put 3 1 none mj_P0 mj_S0 98 ad 0 0 49 [] [] (mj_rows I [(2, r2), (3, r3)]) L)) e → (mj_u2 (fun x2 => (mj_u2 (fun r2 r3 => mj_W X G RX8 "put" cX8_put 3 1 none mj_P0 mj_S0 98 ad 0 0 3 [(0, .ref 2), (1, .int x1), (2, .int x2)] [] (mj_rows I [(2, r2), (3, r3)]) L)))) s := by
  refine mj_loop (fun s o hf hc hx => ?_)
  obtain ⟨x2, r2, r3⟩ := s
  replace hf := mj_u2e hf
  refine mj_u2q ?_
  replace hf := mj_u2e hf
  refine mj_u2q ?_
  unfold bdX8_put_3 at hf
  refine mj_iload_n 2 dX8_put_3 rfl ?_
  refine mj_if_lt 49 dX8_put_4 (by decide) (fun c1 => ?_) (fun c1 => ?_)
  · replace hf := mj_pos c1 hf
    refine mj_sub [] [] rfl ?_
    obtain rfl := Option.some.inj hf
    have hZ := hx (r2, r3) rfl
    replace hZ := mj_u2p hZ
    exact hZ
  · replace hf := mj_neg c1 hf
    refine mj_aload_n 0 dX8_put_7 rfl ?_
    refine mj_getIv (v := (r2 0)) rfl fl_X8_36 rfl s0_2 a0_2 dX8_put_8 ?_
    refine mj_sipush dX8_put_11 kc_sipush_400 ?_
    refine mj_icmp_ge 49 dX8_put_14 (by decide) (fun c2 => ?_) (fun c2 => ?_)
    · replace hf := mj_pos c2 hf
      refine mj_sub [] [] rfl ?_
      obtain rfl := Option.some.inj hf
      have hZ := hx (r2, r3) rfl
      replace hZ := mj_u2p hZ
      exact hZ
    · replace hf := mj_neg c2 hf
      refine mj_aload_n 0 dX8_put_17 rfl ?_
      refine mj_getP p0_2_1 (by decide) fl_X8_9 rfl s0_2 a0_2 dX8_put_18 ?_
      refine mj_aload_n 0 dX8_put_21 rfl ?_
      refine mj_getIv (v := (r2 0)) rfl fl_X8_36 rfl s0_2 a0_2 dX8_put_22 ?_
      refine mj_iload_n 1 dX8_put_25 rfl ?_
      refine mj_iload_n 2 dX8_put_26 rfl ?_
      refine mj_ishr dX8_put_27 ?_
      refine mj_sipush dX8_put_28 kc_sipush_255 ?_
      refine mj_iand dX8_put_31 ?_
      obtain ⟨z3, hf⟩ := mj_ck hf
      refine mj_iastr [(2, r2), (3, (upd r3 ((r2 0).toNatClampNeg) ((x1 >>> (x2 &&& 31)) &&& (255 : Int32))))] rfl s0_3 a0_3 z3 dX8_put_32 ?_
      refine mj_aload_n 0 dX8_put_33 rfl ?_
      refine mj_dup dX8_put_34 rfl ?_
      refine mj_getIv (v := (r2 0)) rfl fl_X8_36 rfl s0_2 a0_2 dX8_put_35 ?_
      refine mj_iconst dX8_put_38 kc_iconst_1 ?_
      refine mj_iadd dX8_put_39 ?_
      refine mj_putIr (ci := 6) (j := 0) [(2, (upd r2 0 ((r2 0) + (1 : Int32)))), (3, (upd r3 ((r2 0).toNatClampNeg) ((x1 >>> (x2 &&& 31)) &&& (255 : Int32))))] rfl ⟨rfl, rfl⟩ fl_X8_36 rfl rfl s0_2 a0_2 dX8_put_40 ?_
      refine mj_iinc 2 [(2, .int (x2 + (-8))), (0, .ref 2), (1, .int x1)] dX8_put_43 rfl (kz_m8 _) (by decide) rfl ?_
      refine mj_goto 3 dX8_put_46 (by decide) ?_
      refine mj_sub [1, 2, 0] [(0, .ref 2), (1, .int x1), (2, .int (x2 + (-8)))] rfl ?_
      obtain rfl := Option.some.inj hf
      have hZ := hc ((x2 + (-8)), (upd r2 0 ((r2 0) + (1 : Int32))), (upd r3 ((r2 0).toNatClampNeg) ((x1 >>> (x2 &&& 31)) &&& (255 : Int32)))) rfl
      replace hZ := mj_u2p hZ
      replace hZ := mj_u2p hZ
      exact hZ
set_option maxRecDepth 100000 in
set_option maxHeartbeats 4000000 in
theorem mtX8_put {X : mj_XT} {l : Launch} {G : mj_GT} {ad : Nat → Nat} {Qn : Option Value → mj_IT → mj_LT → Prop} (hR : mj_R X l G mj_P0 mj_S0 98 ad 0 0 Qn) (F : Nat) (I : mj_IT) (L : mj_LT) (r2 : Nat → Int32) (r3 : Nat → Int32) (x1 : Int32) (o : ((Nat → Int32) × (Nat → Int32))) (hf : fnX8_put F r2 r3 x1 = some o) (hq : (mj_u2 (fun r2 r3 => Qn none (mj_rows I [(2, r2), (3, r3)]) L)) o) : mj_W X G RX8 "put" cX8_put 3 1 none mj_P0 mj_S0 98 ad 0 0 0 [(0, .ref 2), (1, .int x1)] [] (mj_rows I [(2, r2), (3, r3)]) L := by
  unfold fnX8_put at hf
  refine mj_bipush dX8_put_0 kc_bipush_24 ?_
  refine mj_istore_n [(2, .int (24 : Int32)), (0, .ref 2), (1, .int x1)] dX8_put_2 rfl (by decide) rfl ?_
  refine mj_sub [1, 2, 0] [(0, .ref 2), (1, .int x1), (2, .int (24 : Int32))] rfl ?_
  obtain ⟨e4, ho4, hf⟩ := mj_bd hf
  refine lpX8_put_3 hR F I L r2 r3 x1 F ((24 : Int32), r2, r3) e4 ho4 ?_
  obtain ⟨r2_4, r3_4⟩ := e4
  replace hf := mj_u2e hf
  refine ?_
  refine mj_u2q ?_
  obtain rfl := Option.some.inj hf
  have hZ := hq
  replace hZ := mj_u2p hZ
  exact mj_vret hR ⟨Nat.le_refl _, Nat.le_refl _⟩ rfl dX8_put_49 hZ
set_option maxRecDepth 100000 in
set_option maxHeartbeats 4000000 in
theorem cmX8_put (l : Launch) (G : mj_GT) (F : Nat) (x1 : Int32) (I : mj_IT) (L : mj_LT) (r2 : Nat → Int32) (r3 : Nat → Int32) (hr2 : I 2 = r2) (hr3 : I 3 = r3) (o : ((Nat → Int32) × (Nat → Int32))) (hf : fnX8_put F r2 r3 x1 = some o) : mj_M l G yX8_put cX8_put 3 1 none 0 0 mj_P0 mj_S0 98 [.ref 2, .int x1] I L (mj_qd none (mj_rows I [(2, o.1), (3, o.2)]) L) := by
  refine mj_in RX8 "put" [(0, .ref 2), (1, .int x1)] rfl rfl rfl (by decide) (Nat.le_of_ble_eq_true rfl) (fun X ad hR => ?_)
  refine mj_toI [(2, r2), (3, r3)] (by intro q hq; simp only [List.mem_cons, List.not_mem_nil, or_false] at hq; rcases hq with rfl | rfl <;> assumption) ?_
  refine mtX8_put hR F I L r2 r3 x1 o hf ?_
  obtain ⟨w0, w1⟩ := o
  refine mj_u2q ?_
  exact ⟨rfl, rfl, rfl⟩

-- X7_clear_4
def fnX7_clear_4 (F : Nat) (r4 : Nat → Int32) : Option ((Nat → Int32)) := some (upd r4 0 (0 : Int32))
set_option maxRecDepth 100000 in
set_option maxHeartbeats 4000000 in
theorem mtX7_clear_4 {X : mj_XT} {l : Launch} {G : mj_GT} {ad : Nat → Nat} {Qn : Option Value → mj_IT → mj_LT → Prop} (hR : mj_R X l G mj_P0 mj_S0 98 ad 0 0 Qn) (F : Nat) (I : mj_IT) (L : mj_LT) (r4 : Nat → Int32) (o : ((Nat → Int32))) (hf : fnX7_clear_4 F r4 = some o) (hq : (fun r4 => Qn none (mj_rows I [(4, r4)]) L) o) : mj_W X G RX7 "clear" cX7_clear 1 1 none mj_P0 mj_S0 98 ad 0 0 0 [(0, .ref 4)] [] (mj_rows I [(4, r4)]) L := by
  unfold fnX7_clear_4 at hf
  refine mj_aload_n 0 dX7_clear_0 rfl ?_
  refine mj_iconst dX7_clear_1 kc_iconst_0 ?_
  refine mj_putIr (ci := 5) (j := 0) [(4, (upd r4 0 (0 : Int32)))] rfl ⟨rfl, rfl⟩ fl_X7_42 rfl rfl s0_4 a0_4 dX7_clear_2 ?_
  obtain rfl := Option.some.inj hf
  have hZ := hq
  exact mj_vret hR ⟨Nat.le_refl _, Nat.le_refl _⟩ rfl dX7_clear_5 hZ
set_option maxRecDepth 100000 in
set_option maxHeartbeats 4000000 in
theorem cmX7_clear_4 (l : Launch) (G : mj_GT) (F : Nat) (I : mj_IT) (L : mj_LT) (r4 : Nat → Int32) (hr4 : I 4 = r4) (o : ((Nat → Int32))) (hf : fnX7_clear_4 F r4 = some o) : mj_M l G yX7_clear cX7_clear 1 1 none 0 0 mj_P0 mj_S0 98 [.ref 4] I L (mj_qd none (mj_rows I [(4, o)]) L) := by
  refine mj_in RX7 "clear" [(0, .ref 4)] rfl rfl rfl (by decide) (Nat.le_of_ble_eq_true rfl) (fun X ad hR => ?_)
  refine mj_toI [(4, r4)] (by intro q hq; simp only [List.mem_cons, List.not_mem_nil, or_false] at hq; rcases hq with rfl <;> assumption) ?_
  refine mtX7_clear_4 hR F I L r4 o hf ?_
  exact ⟨rfl, rfl, rfl⟩

-- X8_goOn
def bdX8_goOn_16 (F : Nat) (r3 : Nat → Int32) (r2 : Nat → Int32) : Option (((Nat → Int32)) ⊕ ((Nat → Int32))) := (if (r2 3) ≤ (r2 5) then some (.inr r2) else (if mj_ib (r2 5) 400 = true then (if (r3 ((r2 5).toNatClampNeg)) = (32 : Int32) then some (.inl (upd r2 5 ((r2 5) + (1 : Int32)))) else some (.inr r2)) else none))
def bdX8_goOn_72 (F : Nat) (r3 : Nat → Int32) (r2 : Nat → Int32) : Option (((Nat → Int32)) ⊕ ((Nat → Int32))) := (if (r2 3) ≤ (r2 6) then some (.inr r2) else (if mj_ib (r2 6) 400 = true then (if (r3 ((r2 6).toNatClampNeg)) < (97 : Int32) then some (.inr r2) else (if mj_ib (r2 6) 400 = true then (if (122 : Int32) < (r3 ((r2 6).toNatClampNeg)) then some (.inr r2) else some (.inl (upd (upd r2 4 (1 : Int32)) 6 ((r2 6) + (1 : Int32))))) else none)) else none))
def bdX8_goOn_129 (F : Nat) (r3 : Nat → Int32) (r2 : Nat → Int32) : Option (((Nat → Int32)) ⊕ ((Nat → Int32))) := (if (r2 4) = (1 : Int32) then some (.inr r2) else (if (r2 3) ≤ (r2 6) then some (.inr r2) else (if mj_ib (r2 6) 400 = true then (if (r3 ((r2 6).toNatClampNeg)) < (48 : Int32) then some (.inr r2) else (if mj_ib (r2 6) 400 = true then (if (57 : Int32) < (r3 ((r2 6).toNatClampNeg)) then some (.inr r2) else (if (1000 : Int32) ≤ (r2 7) then some (.inl (upd (upd (upd r2 4 (2 : Int32)) 7 (1000 : Int32)) 6 ((r2 6) + (1 : Int32)))) else (if mj_ib (r2 6) 400 = true then some (.inl (upd (upd (upd r2 4 (2 : Int32)) 7 ((((10 : Int32) * (r2 7)) + (r3 ((r2 6).toNatClampNeg))) - (48 : Int32))) 6 ((r2 6) + (1 : Int32)))) else none))) else none)) else none)))
def fnX8_goOn (F : Nat) (r2 : Nat → Int32) (r3 : Nat → Int32) : Option ((Nat → Int32)) := (if (r2 8) = 0 then (mj_it (bdX8_goOn_16 F r3) F (upd r2 5 (r2 6))).bind (fun r2_18 => (mj_it (bdX8_goOn_72 F r3) F (upd (upd (upd r2_18 6 (r2_18 5)) 7 (0 : Int32)) 4 (0 : Int32))).bind (fun r2_19 => (mj_it (bdX8_goOn_129 F r3) F r2_19).bind (fun r2_20 => (if (r2_20 4) = 0 then (if (r2_20 3) ≤ (r2_20 6) then some r2_20 else some (upd (upd r2_20 4 (3 : Int32)) 6 ((r2_20 6) + (1 : Int32)))) else some r2_20)))) else some r2)
set_option maxRecDepth 100000 in
set_option maxHeartbeats 4000000 in
theorem lpX8_goOn_16 {X : mj_XT} {l : Launch} {G : mj_GT} {ad : Nat → Nat} {Qn : Option Value → mj_IT → mj_LT → Prop} (hR : mj_R X l G mj_P0 mj_S0 98 ad 0 0 Qn) (F : Nat) (I : mj_IT) (L : mj_LT) (r2 : Nat → Int32) (r3 : Nat → Int32) : ∀ (n : Nat) (s : ((Nat → Int32))) (e : ((Nat → Int32))), mj_it (bdX8_goOn_16 F r3) n s = some e → (fun r2 => mj_W X G RX8 "goOn" cX8_goOn 1 1 none mj_P0 mj_S0 98 ad 0 0 54 [(0, .ref 2)] [] (mj_rows I [(2, r2), (3, r3)]) L) e → (fun r2 => mj_W X G RX8 "goOn" cX8_goOn 1 1 none mj_P0 mj_S0 98 ad 0 0 16 [(0, .ref 2)] [] (mj_rows I [(2, r2), (3, r3)]) L) s := by
  refine mj_loop (fun r2 o hf hc hx => ?_)
  unfold bdX8_goOn_16 at hf
  refine mj_aload_n 0 dX8_goOn_16 rfl ?_
  refine mj_getIv (v := (r2 5)) rfl fl_X8_79 rfl s0_2 a0_2 dX8_goOn_17 ?_
  refine mj_aload_n 0 dX8_goOn_20 rfl ?_
  refine mj_getIv (v := (r2 3)) rfl fl_X8_45 rfl s0_2 a0_2 dX8_goOn_21 ?_
  refine mj_icmp_ge 54 dX8_goOn_24 (by decide) (fun c1 => ?_) (fun c1 => ?_)
  · replace hf := mj_pos c1 hf
    obtain rfl := Option.some.inj hf
    have hZ := hx r2 rfl
    exact hZ
  · replace hf := mj_neg c1 hf
    refine mj_aload_n 0 dX8_goOn_27 rfl ?_
    refine mj_getP p0_2_1 (by decide) fl_X8_9 rfl s0_2 a0_2 dX8_goOn_28 ?_
    refine mj_aload_n 0 dX8_goOn_31 rfl ?_
    refine mj_getIv (v := (r2 5)) rfl fl_X8_79 rfl s0_2 a0_2 dX8_goOn_32 ?_
    obtain ⟨z2, hf⟩ := mj_ck hf
    refine mj_ialdv (x := r3) rfl s0_3 a0_3 z2 dX8_goOn_35 ?_
    refine mj_bipush dX8_goOn_36 kc_bipush_32 ?_
    refine mj_icmp_ne 54 dX8_goOn_38 (by decide) (fun c3 => ?_) (fun c3 => ?_)
    · replace hf := mj_neg c3 hf
      obtain rfl := Option.some.inj hf
      have hZ := hx r2 rfl
      exact hZ
    · replace hf := mj_pos c3 hf
      refine mj_aload_n 0 dX8_goOn_41 rfl ?_
      refine mj_dup dX8_goOn_42 rfl ?_
      refine mj_getIv (v := (r2 5)) rfl fl_X8_79 rfl s0_2 a0_2 dX8_goOn_43 ?_
      refine mj_iconst dX8_goOn_46 kc_iconst_1 ?_
      refine mj_iadd dX8_goOn_47 ?_
      refine mj_putIr (ci := 6) (j := 5) [(2, (upd r2 5 ((r2 5) + (1 : Int32)))), (3, r3)] rfl ⟨rfl, rfl⟩ fl_X8_79 rfl rfl s0_2 a0_2 dX8_goOn_48 ?_
      refine mj_goto 16 dX8_goOn_51 (by decide) ?_
      obtain rfl := Option.some.inj hf
      have hZ := hc (upd r2 5 ((r2 5) + (1 : Int32))) rfl
      exact hZ
set_option maxRecDepth 100000 in
set_option maxHeartbeats 4000000 in
theorem lpX8_goOn_72 {X : mj_XT} {l : Launch} {G : mj_GT} {ad : Nat → Nat} {Qn : Option Value → mj_IT → mj_LT → Prop} (hR : mj_R X l G mj_P0 mj_S0 98 ad 0 0 Qn) (F : Nat) (I : mj_IT) (L : mj_LT) (r2 : Nat → Int32) (r3 : Nat → Int32) : ∀ (n : Nat) (s : ((Nat → Int32))) (e : ((Nat → Int32))), mj_it (bdX8_goOn_72 F r3) n s = some e → (fun r2 => mj_W X G RX8 "goOn" cX8_goOn 1 1 none mj_P0 mj_S0 98 ad 0 0 129 [(0, .ref 2)] [] (mj_rows I [(2, r2), (3, r3)]) L) e → (fun r2 => mj_W X G RX8 "goOn" cX8_goOn 1 1 none mj_P0 mj_S0 98 ad 0 0 72 [(0, .ref 2)] [] (mj_rows I [(2, r2), (3, r3)]) L) s := by
  refine mj_loop (fun r2 o hf hc hx => ?_)
  unfold bdX8_goOn_72 at hf
  refine mj_aload_n 0 dX8_goOn_72 rfl ?_
  refine mj_getIv (v := (r2 6)) rfl fl_X8_48 rfl s0_2 a0_2 dX8_goOn_73 ?_
  refine mj_aload_n 0 dX8_goOn_76 rfl ?_
  refine mj_getIv (v := (r2 3)) rfl fl_X8_45 rfl s0_2 a0_2 dX8_goOn_77 ?_
  refine mj_icmp_ge 129 dX8_goOn_80 (by decide) (fun c4 => ?_) (fun c4 => ?_)
  · replace hf := mj_pos c4 hf
    obtain rfl := Option.some.inj hf
    have hZ := hx r2 rfl
    exact hZ
  · replace hf := mj_neg c4 hf
    refine mj_aload_n 0 dX8_goOn_83 rfl ?_
    refine mj_getP p0_2_1 (by decide) fl_X8_9 rfl s0_2 a0_2 dX8_goOn_84 ?_
    refine mj_aload_n 0 dX8_goOn_87 rfl ?_
    refine mj_getIv (v := (r2 6)) rfl fl_X8_48 rfl s0_2 a0_2 dX8_goOn_88 ?_
    obtain ⟨z5, hf⟩ := mj_ck hf
    refine mj_ialdv (x := r3) rfl s0_3 a0_3 z5 dX8_goOn_91 ?_
    refine mj_bipush dX8_goOn_92 kc_bipush_97 ?_
    refine mj_icmp_lt 129 dX8_goOn_94 (by decide) (fun c6 => ?_) (fun c6 => ?_)
    · replace hf := mj_pos c6 hf
      obtain rfl := Option.some.inj hf
      have hZ := hx r2 rfl
      exact hZ
    · replace hf := mj_neg c6 hf
      refine mj_aload_n 0 dX8_goOn_97 rfl ?_
      refine mj_getP p0_2_1 (by decide) fl_X8_9 rfl s0_2 a0_2 dX8_goOn_98 ?_
      refine mj_aload_n 0 dX8_goOn_101 rfl ?_
      refine mj_getIv (v := (r2 6)) rfl fl_X8_48 rfl s0_2 a0_2 dX8_goOn_102 ?_
      obtain ⟨z7, hf⟩ := mj_ck hf
      refine mj_ialdv (x := r3) rfl s0_3 a0_3 z7 dX8_goOn_105 ?_
      refine mj_bipush dX8_goOn_106 kc_bipush_122 ?_
      refine mj_icmp_gt 129 dX8_goOn_108 (by decide) (fun c8 => ?_) (fun c8 => ?_)
      · replace hf := mj_pos c8 hf
        obtain rfl := Option.some.inj hf
        have hZ := hx r2 rfl
        exact hZ
      · replace hf := mj_neg c8 hf
        refine mj_aload_n 0 dX8_goOn_111 rfl ?_
        refine mj_iconst dX8_goOn_112 kc_iconst_1 ?_
        refine mj_putIr (ci := 6) (j := 4) [(2, (upd r2 4 (1 : Int32))), (3, r3)] rfl ⟨rfl, rfl⟩ fl_X8_63 rfl rfl s0_2 a0_2 dX8_goOn_113 ?_
        refine mj_aload_n 0 dX8_goOn_116 rfl ?_
        refine mj_dup dX8_goOn_117 rfl ?_
        refine mj_getIv (v := (r2 6)) rfl fl_X8_48 rfl s0_2 a0_2 dX8_goOn_118 ?_
        refine mj_iconst dX8_goOn_121 kc_iconst_1 ?_
        refine mj_iadd dX8_goOn_122 ?_
        refine mj_putIr (ci := 6) (j := 6) [(2, (upd (upd r2 4 (1 : Int32)) 6 ((r2 6) + (1 : Int32)))), (3, r3)] rfl ⟨rfl, rfl⟩ fl_X8_48 rfl rfl s0_2 a0_2 dX8_goOn_123 ?_
        refine mj_goto 72 dX8_goOn_126 (by decide) ?_
        obtain rfl := Option.some.inj hf
        have hZ := hc (upd (upd r2 4 (1 : Int32)) 6 ((r2 6) + (1 : Int32))) rfl
        exact hZ
set_option maxRecDepth 100000 in
set_option maxHeartbeats 4000000 in
theorem lpX8_goOn_129 {X : mj_XT} {l : Launch} {G : mj_GT} {ad : Nat → Nat} {Qn : Option Value → mj_IT → mj_LT → Prop} (hR : mj_R X l G mj_P0 mj_S0 98 ad 0 0 Qn) (F : Nat) (I : mj_IT) (L : mj_LT) (r2 : Nat → Int32) (r3 : Nat → Int32) : ∀ (n : Nat) (s : ((Nat → Int32))) (e : ((Nat → Int32))), mj_it (bdX8_goOn_129 F r3) n s = some e → (fun r2 => mj_W X G RX8 "goOn" cX8_goOn 1 1 none mj_P0 mj_S0 98 ad 0 0 234 [(0, .ref 2)] [] (mj_rows I [(2, r2), (3, r3)]) L) e → (fun r2 => mj_W X G RX8 "goOn" cX8_goOn 1 1 none mj_P0 mj_S0 98 ad 0 0 129 [(0, .ref 2)] [] (mj_rows I [(2, r2), (3, r3)]) L) s := by
  refine mj_loop (fun r2 o hf hc hx => ?_)
  unfold bdX8_goOn_129 at hf
  refine mj_aload_n 0 dX8_goOn_129 rfl ?_
  refine mj_getIv (v := (r2 4)) rfl fl_X8_63 rfl s0_2 a0_2 dX8_goOn_130 ?_
  refine mj_iconst dX8_goOn_133 kc_iconst_1 ?_
  refine mj_icmp_eq 234 dX8_goOn_134 (by decide) (fun c9 => ?_) (fun c9 => ?_)
  · replace hf := mj_pos c9 hf
    obtain rfl := Option.some.inj hf
    have hZ := hx r2 rfl
    exact hZ
  · replace hf := mj_neg c9 hf
    refine mj_aload_n 0 dX8_goOn_137 rfl ?_
    refine mj_getIv (v := (r2 6)) rfl fl_X8_48 rfl s0_2 a0_2 dX8_goOn_138 ?_
    refine mj_aload_n 0 dX8_goOn_141 rfl ?_
    refine mj_getIv (v := (r2 3)) rfl fl_X8_45 rfl s0_2 a0_2 dX8_goOn_142 ?_
    refine mj_icmp_ge 234 dX8_goOn_145 (by decide) (fun c10 => ?_) (fun c10 => ?_)
    · replace hf := mj_pos c10 hf
      obtain rfl := Option.some.inj hf
      have hZ := hx r2 rfl
      exact hZ
    · replace hf := mj_neg c10 hf
      refine mj_aload_n 0 dX8_goOn_148 rfl ?_
      refine mj_getP p0_2_1 (by decide) fl_X8_9 rfl s0_2 a0_2 dX8_goOn_149 ?_
      refine mj_aload_n 0 dX8_goOn_152 rfl ?_
      refine mj_getIv (v := (r2 6)) rfl fl_X8_48 rfl s0_2 a0_2 dX8_goOn_153 ?_
      obtain ⟨z11, hf⟩ := mj_ck hf
      refine mj_ialdv (x := r3) rfl s0_3 a0_3 z11 dX8_goOn_156 ?_
      refine mj_bipush dX8_goOn_157 kc_bipush_48 ?_
      refine mj_icmp_lt 234 dX8_goOn_159 (by decide) (fun c12 => ?_) (fun c12 => ?_)
      · replace hf := mj_pos c12 hf
        obtain rfl := Option.some.inj hf
        have hZ := hx r2 rfl
        exact hZ
      · replace hf := mj_neg c12 hf
        refine mj_aload_n 0 dX8_goOn_162 rfl ?_
        refine mj_getP p0_2_1 (by decide) fl_X8_9 rfl s0_2 a0_2 dX8_goOn_163 ?_
        refine mj_aload_n 0 dX8_goOn_166 rfl ?_
        refine mj_getIv (v := (r2 6)) rfl fl_X8_48 rfl s0_2 a0_2 dX8_goOn_167 ?_
        obtain ⟨z13, hf⟩ := mj_ck hf
        refine mj_ialdv (x := r3) rfl s0_3 a0_3 z13 dX8_goOn_170 ?_
        refine mj_bipush dX8_goOn_171 kc_bipush_57 ?_
        refine mj_icmp_gt 234 dX8_goOn_173 (by decide) (fun c14 => ?_) (fun c14 => ?_)
        · replace hf := mj_pos c14 hf
          obtain rfl := Option.some.inj hf
          have hZ := hx r2 rfl
          exact hZ
        · replace hf := mj_neg c14 hf
          refine mj_aload_n 0 dX8_goOn_176 rfl ?_
          refine mj_iconst dX8_goOn_177 kc_iconst_2 ?_
          refine mj_putIr (ci := 6) (j := 4) [(2, (upd r2 4 (2 : Int32))), (3, r3)] rfl ⟨rfl, rfl⟩ fl_X8_63 rfl rfl s0_2 a0_2 dX8_goOn_178 ?_
          refine mj_aload_n 0 dX8_goOn_181 rfl ?_
          refine mj_aload_n 0 dX8_goOn_182 rfl ?_
          refine mj_getIv (v := (r2 7)) rfl fl_X8_82 rfl s0_2 a0_2 dX8_goOn_183 ?_
          refine mj_sipush dX8_goOn_186 kc_sipush_1000 ?_
          refine mj_icmp_ge 215 dX8_goOn_189 (by decide) (fun c15 => ?_) (fun c15 => ?_)
          · replace hf := mj_pos c15 hf
            refine mj_sipush dX8_goOn_215 kc_sipush_1000 ?_
            refine mj_putIr (ci := 6) (j := 7) [(2, (upd (upd r2 4 (2 : Int32)) 7 (1000 : Int32))), (3, r3)] rfl ⟨rfl, rfl⟩ fl_X8_82 rfl rfl s0_2 a0_2 dX8_goOn_218 ?_
            refine mj_aload_n 0 dX8_goOn_221 rfl ?_
            refine mj_dup dX8_goOn_222 rfl ?_
            refine mj_getIv (v := (r2 6)) rfl fl_X8_48 rfl s0_2 a0_2 dX8_goOn_223 ?_
            refine mj_iconst dX8_goOn_226 kc_iconst_1 ?_
            refine mj_iadd dX8_goOn_227 ?_
            refine mj_putIr (ci := 6) (j := 6) [(2, (upd (upd (upd r2 4 (2 : Int32)) 7 (1000 : Int32)) 6 ((r2 6) + (1 : Int32)))), (3, r3)] rfl ⟨rfl, rfl⟩ fl_X8_48 rfl rfl s0_2 a0_2 dX8_goOn_228 ?_
            refine mj_goto 129 dX8_goOn_231 (by decide) ?_
            obtain rfl := Option.some.inj hf
            have hZ := hc (upd (upd (upd r2 4 (2 : Int32)) 7 (1000 : Int32)) 6 ((r2 6) + (1 : Int32))) rfl
            exact hZ
          · replace hf := mj_neg c15 hf
            refine mj_bipush dX8_goOn_192 kc_bipush_10 ?_
            refine mj_aload_n 0 dX8_goOn_194 rfl ?_
            refine mj_getIv (v := (r2 7)) rfl fl_X8_82 rfl s0_2 a0_2 dX8_goOn_195 ?_
            refine mj_imul dX8_goOn_198 ?_
            refine mj_aload_n 0 dX8_goOn_199 rfl ?_
            refine mj_getP p0_2_1 (by decide) fl_X8_9 rfl s0_2 a0_2 dX8_goOn_200 ?_
            refine mj_aload_n 0 dX8_goOn_203 rfl ?_
            refine mj_getIv (v := (r2 6)) rfl fl_X8_48 rfl s0_2 a0_2 dX8_goOn_204 ?_
            obtain ⟨z16, hf⟩ := mj_ck hf
            refine mj_ialdv (x := r3) rfl s0_3 a0_3 z16 dX8_goOn_207 ?_
            refine mj_iadd dX8_goOn_208 ?_
            refine mj_bipush dX8_goOn_209 kc_bipush_48 ?_
            refine mj_isub dX8_goOn_211 ?_
            refine mj_goto 218 dX8_goOn_212 (by decide) ?_
            refine mj_putIr (ci := 6) (j := 7) [(2, (upd (upd r2 4 (2 : Int32)) 7 ((((10 : Int32) * (r2 7)) + (r3 ((r2 6).toNatClampNeg))) - (48 : Int32)))), (3, r3)] rfl ⟨rfl, rfl⟩ fl_X8_82 rfl rfl s0_2 a0_2 dX8_goOn_218 ?_
            refine mj_aload_n 0 dX8_goOn_221 rfl ?_
            refine mj_dup dX8_goOn_222 rfl ?_
            refine mj_getIv (v := (r2 6)) rfl fl_X8_48 rfl s0_2 a0_2 dX8_goOn_223 ?_
            refine mj_iconst dX8_goOn_226 kc_iconst_1 ?_
            refine mj_iadd dX8_goOn_227 ?_
            refine mj_putIr (ci := 6) (j := 6) [(2, (upd (upd (upd r2 4 (2 : Int32)) 7 ((((10 : Int32) * (r2 7)) + (r3 ((r2 6).toNatClampNeg))) - (48 : Int32))) 6 ((r2 6) + (1 : Int32)))), (3, r3)] rfl ⟨rfl, rfl⟩ fl_X8_48 rfl rfl s0_2 a0_2 dX8_goOn_228 ?_
            refine mj_goto 129 dX8_goOn_231 (by decide) ?_
            obtain rfl := Option.some.inj hf
            have hZ := hc (upd (upd (upd r2 4 (2 : Int32)) 7 ((((10 : Int32) * (r2 7)) + (r3 ((r2 6).toNatClampNeg))) - (48 : Int32))) 6 ((r2 6) + (1 : Int32))) rfl
            exact hZ
set_option maxRecDepth 100000 in
set_option maxHeartbeats 4000000 in
theorem mtX8_goOn {X : mj_XT} {l : Launch} {G : mj_GT} {ad : Nat → Nat} {Qn : Option Value → mj_IT → mj_LT → Prop} (hR : mj_R X l G mj_P0 mj_S0 98 ad 0 0 Qn) (F : Nat) (I : mj_IT) (L : mj_LT) (r2 : Nat → Int32) (r3 : Nat → Int32) (o : ((Nat → Int32))) (hf : fnX8_goOn F r2 r3 = some o) (hq : (fun r2 => Qn none (mj_rows I [(2, r2), (3, r3)]) L) o) : mj_W X G RX8 "goOn" cX8_goOn 1 1 none mj_P0 mj_S0 98 ad 0 0 0 [(0, .ref 2)] [] (mj_rows I [(2, r2), (3, r3)]) L := by
  unfold fnX8_goOn at hf
  refine mj_aload_n 0 dX8_goOn_0 rfl ?_
  refine mj_getIv (v := (r2 8)) rfl fl_X8_51 rfl s0_2 a0_2 dX8_goOn_1 ?_
  refine mj_if_eq 8 dX8_goOn_4 (by decide) (fun c17 => ?_) (fun c17 => ?_)
  · replace hf := mj_pos c17 hf
    refine mj_aload_n 0 dX8_goOn_8 rfl ?_
    refine mj_aload_n 0 dX8_goOn_9 rfl ?_
    refine mj_getIv (v := (r2 6)) rfl fl_X8_48 rfl s0_2 a0_2 dX8_goOn_10 ?_
    refine mj_putIr (ci := 6) (j := 5) [(2, (upd r2 5 (r2 6))), (3, r3)] rfl ⟨rfl, rfl⟩ fl_X8_79 rfl rfl s0_2 a0_2 dX8_goOn_13 ?_
    obtain ⟨r2_18, ho18, hf⟩ := mj_bd hf
    refine lpX8_goOn_16 hR F I L (upd r2 5 (r2 6)) r3 F (upd r2 5 (r2 6)) r2_18 ho18 ?_
    refine ?_
    refine mj_aload_n 0 dX8_goOn_54 rfl ?_
    refine mj_aload_n 0 dX8_goOn_55 rfl ?_
    refine mj_getIv (v := (r2_18 5)) rfl fl_X8_79 rfl s0_2 a0_2 dX8_goOn_56 ?_
    refine mj_putIr (ci := 6) (j := 6) [(2, (upd r2_18 6 (r2_18 5))), (3, r3)] rfl ⟨rfl, rfl⟩ fl_X8_48 rfl rfl s0_2 a0_2 dX8_goOn_59 ?_
    refine mj_aload_n 0 dX8_goOn_62 rfl ?_
    refine mj_iconst dX8_goOn_63 kc_iconst_0 ?_
    refine mj_putIr (ci := 6) (j := 7) [(2, (upd (upd r2_18 6 (r2_18 5)) 7 (0 : Int32))), (3, r3)] rfl ⟨rfl, rfl⟩ fl_X8_82 rfl rfl s0_2 a0_2 dX8_goOn_64 ?_
    refine mj_aload_n 0 dX8_goOn_67 rfl ?_
    refine mj_iconst dX8_goOn_68 kc_iconst_0 ?_
    refine mj_putIr (ci := 6) (j := 4) [(2, (upd (upd (upd r2_18 6 (r2_18 5)) 7 (0 : Int32)) 4 (0 : Int32))), (3, r3)] rfl ⟨rfl, rfl⟩ fl_X8_63 rfl rfl s0_2 a0_2 dX8_goOn_69 ?_
    obtain ⟨r2_19, ho19, hf⟩ := mj_bd hf
    refine lpX8_goOn_72 hR F I L (upd (upd (upd r2_18 6 (r2_18 5)) 7 (0 : Int32)) 4 (0 : Int32)) r3 F (upd (upd (upd r2_18 6 (r2_18 5)) 7 (0 : Int32)) 4 (0 : Int32)) r2_19 ho19 ?_
    refine ?_
    obtain ⟨r2_20, ho20, hf⟩ := mj_bd hf
    refine lpX8_goOn_129 hR F I L r2_19 r3 F r2_19 r2_20 ho20 ?_
    refine ?_
    refine mj_aload_n 0 dX8_goOn_234 rfl ?_
    refine mj_getIv (v := (r2_20 4)) rfl fl_X8_63 rfl s0_2 a0_2 dX8_goOn_235 ?_
    refine mj_if_ne 267 dX8_goOn_238 (by decide) (fun c21 => ?_) (fun c21 => ?_)
    · replace hf := mj_neg c21 hf
      obtain rfl := Option.some.inj hf
      have hZ := hq
      exact mj_vret hR ⟨Nat.le_refl _, Nat.le_refl _⟩ rfl dX8_goOn_267 hZ
    · replace hf := mj_pos c21 hf
      refine mj_aload_n 0 dX8_goOn_241 rfl ?_
      refine mj_getIv (v := (r2_20 6)) rfl fl_X8_48 rfl s0_2 a0_2 dX8_goOn_242 ?_
      refine mj_aload_n 0 dX8_goOn_245 rfl ?_
      refine mj_getIv (v := (r2_20 3)) rfl fl_X8_45 rfl s0_2 a0_2 dX8_goOn_246 ?_
      refine mj_icmp_ge 267 dX8_goOn_249 (by decide) (fun c22 => ?_) (fun c22 => ?_)
      · replace hf := mj_pos c22 hf
        obtain rfl := Option.some.inj hf
        have hZ := hq
        exact mj_vret hR ⟨Nat.le_refl _, Nat.le_refl _⟩ rfl dX8_goOn_267 hZ
      · replace hf := mj_neg c22 hf
        refine mj_aload_n 0 dX8_goOn_252 rfl ?_
        refine mj_iconst dX8_goOn_253 kc_iconst_3 ?_
        refine mj_putIr (ci := 6) (j := 4) [(2, (upd r2_20 4 (3 : Int32))), (3, r3)] rfl ⟨rfl, rfl⟩ fl_X8_63 rfl rfl s0_2 a0_2 dX8_goOn_254 ?_
        refine mj_aload_n 0 dX8_goOn_257 rfl ?_
        refine mj_dup dX8_goOn_258 rfl ?_
        refine mj_getIv (v := (r2_20 6)) rfl fl_X8_48 rfl s0_2 a0_2 dX8_goOn_259 ?_
        refine mj_iconst dX8_goOn_262 kc_iconst_1 ?_
        refine mj_iadd dX8_goOn_263 ?_
        refine mj_putIr (ci := 6) (j := 6) [(2, (upd (upd r2_20 4 (3 : Int32)) 6 ((r2_20 6) + (1 : Int32)))), (3, r3)] rfl ⟨rfl, rfl⟩ fl_X8_48 rfl rfl s0_2 a0_2 dX8_goOn_264 ?_
        obtain rfl := Option.some.inj hf
        have hZ := hq
        exact mj_vret hR ⟨Nat.le_refl _, Nat.le_refl _⟩ rfl dX8_goOn_267 hZ
  · replace hf := mj_neg c17 hf
    obtain rfl := Option.some.inj hf
    have hZ := hq
    exact mj_vret hR ⟨Nat.le_refl _, Nat.le_refl _⟩ rfl dX8_goOn_7 hZ
set_option maxRecDepth 100000 in
set_option maxHeartbeats 4000000 in
theorem cmX8_goOn (l : Launch) (G : mj_GT) (F : Nat) (I : mj_IT) (L : mj_LT) (r2 : Nat → Int32) (r3 : Nat → Int32) (hr2 : I 2 = r2) (hr3 : I 3 = r3) (o : ((Nat → Int32))) (hf : fnX8_goOn F r2 r3 = some o) : mj_M l G yX8_goOn cX8_goOn 1 1 none 0 0 mj_P0 mj_S0 98 [.ref 2] I L (mj_qd none (mj_rows I [(2, o), (3, r3)]) L) := by
  refine mj_in RX8 "goOn" [(0, .ref 2)] rfl rfl rfl (by decide) (Nat.le_of_ble_eq_true rfl) (fun X ad hR => ?_)
  refine mj_toI [(2, r2), (3, r3)] (by intro q hq; simp only [List.mem_cons, List.not_mem_nil, or_false] at hq; rcases hq with rfl | rfl <;> assumption) ?_
  refine mtX8_goOn hR F I L r2 r3 o hf ?_
  exact ⟨rfl, rfl, rfl⟩

-- X8_isSign
def fnX8_isSign (F : Nat) (r2 : Nat → Int32) (r3 : Nat → Int32) (x1 : Int32) : Option ((Int32)) := (if (r2 4) = (3 : Int32) then (if mj_ib (r2 5) 400 = true then (if (r3 ((r2 5).toNatClampNeg)) = x1 then some (1 : Int32) else some (0 : Int32)) else none) else some (0 : Int32))
set_option maxRecDepth 100000 in
set_option maxHeartbeats 4000000 in
theorem mtX8_isSign {X : mj_XT} {l : Launch} {G : mj_GT} {ad : Nat → Nat} {Qn : Option Value → mj_IT → mj_LT → Prop} (hR : mj_R X l G mj_P0 mj_S0 98 ad 0 0 Qn) (F : Nat) (I : mj_IT) (L : mj_LT) (r2 : Nat → Int32) (r3 : Nat → Int32) (x1 : Int32) (o : ((Int32))) (hf : fnX8_isSign F r2 r3 x1 = some o) (hq : (fun ov => Qn (some (.int ov)) (mj_rows I [(2, r2), (3, r3)]) L) o) : mj_W X G RX8 "isSign" cX8_isSign 2 1 (some .boolean) mj_P0 mj_S0 98 ad 0 0 0 [(0, .ref 2), (1, .int x1)] [] (mj_rows I [(2, r2), (3, r3)]) L := by
  unfold fnX8_isSign at hf
  refine mj_aload_n 0 dX8_isSign_0 rfl ?_
  refine mj_getIv (v := (r2 4)) rfl fl_X8_63 rfl s0_2 a0_2 dX8_isSign_1 ?_
  refine mj_iconst dX8_isSign_4 kc_iconst_3 ?_
  refine mj_icmp_ne 25 dX8_isSign_5 (by decide) (fun c1 => ?_) (fun c1 => ?_)
  · replace hf := mj_neg c1 hf
    refine mj_iconst dX8_isSign_25 kc_iconst_0 ?_
    obtain rfl := Option.some.inj hf
    have hZ := hq
    exact mj_iret hR ⟨Nat.le_refl _, Nat.le_refl _⟩ rfl (by decide) dX8_isSign_26 hZ
  · replace hf := mj_pos c1 hf
    refine mj_aload_n 0 dX8_isSign_8 rfl ?_
    refine mj_getP p0_2_1 (by decide) fl_X8_9 rfl s0_2 a0_2 dX8_isSign_9 ?_
    refine mj_aload_n 0 dX8_isSign_12 rfl ?_
    refine mj_getIv (v := (r2 5)) rfl fl_X8_79 rfl s0_2 a0_2 dX8_isSign_13 ?_
    obtain ⟨z2, hf⟩ := mj_ck hf
    refine mj_ialdv (x := r3) rfl s0_3 a0_3 z2 dX8_isSign_16 ?_
    refine mj_iload_n 1 dX8_isSign_17 rfl ?_
    refine mj_icmp_ne 25 dX8_isSign_18 (by decide) (fun c3 => ?_) (fun c3 => ?_)
    · replace hf := mj_neg c3 hf
      refine mj_iconst dX8_isSign_25 kc_iconst_0 ?_
      obtain rfl := Option.some.inj hf
      have hZ := hq
      exact mj_iret hR ⟨Nat.le_refl _, Nat.le_refl _⟩ rfl (by decide) dX8_isSign_26 hZ
    · replace hf := mj_pos c3 hf
      refine mj_iconst dX8_isSign_21 kc_iconst_1 ?_
      refine mj_goto 26 dX8_isSign_22 (by decide) ?_
      obtain rfl := Option.some.inj hf
      have hZ := hq
      exact mj_iret hR ⟨Nat.le_refl _, Nat.le_refl _⟩ rfl (by decide) dX8_isSign_26 hZ
set_option maxRecDepth 100000 in
set_option maxHeartbeats 4000000 in
theorem cmX8_isSign (l : Launch) (G : mj_GT) (F : Nat) (x1 : Int32) (I : mj_IT) (L : mj_LT) (r2 : Nat → Int32) (r3 : Nat → Int32) (hr2 : I 2 = r2) (hr3 : I 3 = r3) (o : ((Int32))) (hf : fnX8_isSign F r2 r3 x1 = some o) : mj_M l G yX8_isSign cX8_isSign 2 1 (some .boolean) 0 0 mj_P0 mj_S0 98 [.ref 2, .int x1] I L (mj_qd (some (.int o)) (mj_rows I [(2, r2), (3, r3)]) L) := by
  refine mj_in RX8 "isSign" [(0, .ref 2), (1, .int x1)] rfl rfl rfl (by decide) (Nat.le_of_ble_eq_true rfl) (fun X ad hR => ?_)
  refine mj_toI [(2, r2), (3, r3)] (by intro q hq; simp only [List.mem_cons, List.not_mem_nil, or_false] at hq; rcases hq with rfl | rfl <;> assumption) ?_
  refine mtX8_isSign hR F I L r2 r3 x1 o hf ?_
  exact ⟨rfl, rfl, rfl⟩

-- X8_isWord_2_2007
def bdX8_isWord_2_2007_28 (F : Nat) (r2 : Nat → Int32) (r3 : Nat → Int32) (x2 : Int32) : Option (((Int32)) ⊕ (Unit ⊕ Unit)) := (if (4 : Int32) ≤ x2 then some (.inr (.inl ())) else (if mj_ib ((r2 5) + x2) 400 = true then (if mj_ib x2 4 = true then (if (r3 (((r2 5) + x2).toNatClampNeg)) = (mj_ch 6 x2.toNatClampNeg) then some (.inl (x2 + (1))) else some (.inr (.inr ()))) else none) else none))
def fnX8_isWord_2_2007 (F : Nat) (r2 : Nat → Int32) (r3 : Nat → Int32) : Option ((Int32)) := (if (r2 4) = (1 : Int32) then (if ((r2 6) - (r2 5)) = (4 : Int32) then (mj_it (bdX8_isWord_2_2007_28 F r2 r3) F (0 : Int32)).bind (Sum.elim (fun _ => some (1 : Int32)) (fun _ => some (0 : Int32))) else some (0 : Int32)) else some (0 : Int32))
set_option maxRecDepth 100000 in
set_option maxHeartbeats 4000000 in
theorem lpX8_isWord_2_2007_28 {X : mj_XT} {l : Launch} {G : mj_GT} {ad : Nat → Nat} {Qn : Option Value → mj_IT → mj_LT → Prop} (hR : mj_R X l G mj_P0 mj_S0 98 ad 0 0 Qn) (F : Nat) (I : mj_IT) (L : mj_LT) (r2 : Nat → Int32) (r3 : Nat → Int32) : ∀ (n : Nat) (s : ((Int32))) (e : (Unit ⊕ Unit)), mj_it (bdX8_isWord_2_2007_28 F r2 r3) n s = some e → (Sum.elim (fun _ => mj_W X G RX8 "isWord" cX8_isWord 3 5 (some .boolean) mj_P0 mj_S0 98 ad 0 0 63 [] [] (mj_rows I [(2, r2), (3, r3)]) L) (fun _ => mj_W X G RX8 "isWord" cX8_isWord 3 5 (some .boolean) mj_P0 mj_S0 98 ad 0 0 55 [] [] (mj_rows I [(2, r2), (3, r3)]) L)) e → (fun x2 => mj_W X G RX8 "isWord" cX8_isWord 3 5 (some .boolean) mj_P0 mj_S0 98 ad 0 0 28 [(0, .ref 2), (1, .ref 2007), (2, .int x2)] [] (mj_rows I [(2, r2), (3, r3)]) L) s := by
  refine mj_loop (fun x2 o hf hc hx => ?_)
  unfold bdX8_isWord_2_2007_28 at hf
  refine mj_iload_n 2 dX8_isWord_28 rfl ?_
  refine mj_aload_n 1 dX8_isWord_29 rfl ?_
  refine mj_callVs (i := 6) (I2 := (mj_rows I [(2, r2), (3, r3)])) (L2 := L) (s1 := [.int (4 : Int32), .int x2]) (st := [.int x2]) [] (cmJ0_length X.2.1 G 6 2007 rfl (by decide) _ _) rfl rfl cw_X8_85 rfl (by decide) (by decide) rfl rfl (Nat.le_of_ble_eq_true rfl) ⟨Nat.zero_le _, Nat.zero_le _⟩ dX8_isWord_30 rfl ?_
  refine mj_icmp_ge 63 dX8_isWord_33 (by decide) (fun c2 => ?_) (fun c2 => ?_)
  · replace hf := mj_pos c2 hf
    refine mj_sub [] [] rfl ?_
    obtain rfl := Option.some.inj hf
    have hZ := hx (.inl ()) rfl
    replace hZ := mj_el hZ
    exact hZ
  · replace hf := mj_neg c2 hf
    refine mj_aload_n 0 dX8_isWord_36 rfl ?_
    refine mj_getP p0_2_1 (by decide) fl_X8_9 rfl s0_2 a0_2 dX8_isWord_37 ?_
    refine mj_aload_n 0 dX8_isWord_40 rfl ?_
    refine mj_getIv (v := (r2 5)) rfl fl_X8_79 rfl s0_2 a0_2 dX8_isWord_41 ?_
    refine mj_iload_n 2 dX8_isWord_44 rfl ?_
    refine mj_iadd dX8_isWord_45 ?_
    obtain ⟨z3, hf⟩ := mj_ck hf
    refine mj_ialdv (x := r3) rfl s0_3 a0_3 z3 dX8_isWord_46 ?_
    refine mj_aload_n 1 dX8_isWord_47 rfl ?_
    refine mj_iload_n 2 dX8_isWord_48 rfl ?_
    obtain ⟨z4, hf⟩ := mj_ck hf
    refine mj_callVs (i := 6) (I2 := (mj_rows I [(2, r2), (3, r3)])) (L2 := L) (s1 := [.int (mj_ch 6 x2.toNatClampNeg), .int (r3 (((r2 5) + x2).toNatClampNeg))]) (st := [.int (r3 (((r2 5) + x2).toNatClampNeg))]) [.int x2] (cmJ0_charAt X.2.1 G 6 2007 rfl (by decide) x2 _ _ z4) rfl rfl cw_X8_90 rfl (by decide) (by decide) rfl rfl (Nat.le_of_ble_eq_true rfl) ⟨Nat.zero_le _, Nat.zero_le _⟩ dX8_isWord_49 rfl ?_
    refine mj_icmp_eq 57 dX8_isWord_52 (by decide) (fun c5 => ?_) (fun c5 => ?_)
    · replace hf := mj_pos c5 hf
      refine mj_iinc 2 [(2, .int (x2 + (1))), (0, .ref 2), (1, .ref 2007)] dX8_isWord_57 rfl (kz_1 _) (by decide) rfl ?_
      refine mj_goto 28 dX8_isWord_60 (by decide) ?_
      refine mj_sub [1, 2, 0] [(0, .ref 2), (1, .ref 2007), (2, .int (x2 + (1)))] rfl ?_
      obtain rfl := Option.some.inj hf
      have hZ := hc (x2 + (1)) rfl
      exact hZ
    · replace hf := mj_neg c5 hf
      refine mj_sub [] [] rfl ?_
      obtain rfl := Option.some.inj hf
      have hZ := hx (.inr ()) rfl
      replace hZ := mj_er hZ
      exact hZ
set_option maxRecDepth 100000 in
set_option maxHeartbeats 4000000 in
theorem mtX8_isWord_2_2007 {X : mj_XT} {l : Launch} {G : mj_GT} {ad : Nat → Nat} {Qn : Option Value → mj_IT → mj_LT → Prop} (hR : mj_R X l G mj_P0 mj_S0 98 ad 0 0 Qn) (F : Nat) (I : mj_IT) (L : mj_LT) (r2 : Nat → Int32) (r3 : Nat → Int32) (o : ((Int32))) (hf : fnX8_isWord_2_2007 F r2 r3 = some o) (hq : (fun ov => Qn (some (.int ov)) (mj_rows I [(2, r2), (3, r3)]) L) o) : mj_W X G RX8 "isWord" cX8_isWord 3 5 (some .boolean) mj_P0 mj_S0 98 ad 0 0 0 [(0, .ref 2), (1, .ref 2007)] [] (mj_rows I [(2, r2), (3, r3)]) L := by
  unfold fnX8_isWord_2_2007 at hf
  refine mj_aload_n 0 dX8_isWord_0 rfl ?_
  refine mj_getIv (v := (r2 4)) rfl fl_X8_63 rfl s0_2 a0_2 dX8_isWord_1 ?_
  refine mj_iconst dX8_isWord_4 kc_iconst_1 ?_
  refine mj_icmp_ne 24 dX8_isWord_5 (by decide) (fun c6 => ?_) (fun c6 => ?_)
  · replace hf := mj_neg c6 hf
    refine mj_iconst dX8_isWord_24 kc_iconst_0 ?_
    obtain rfl := Option.some.inj hf
    have hZ := hq
    exact mj_iret hR ⟨Nat.le_refl _, Nat.le_refl _⟩ rfl (by decide) dX8_isWord_25 hZ
  · replace hf := mj_pos c6 hf
    refine mj_aload_n 0 dX8_isWord_8 rfl ?_
    refine mj_getIv (v := (r2 6)) rfl fl_X8_48 rfl s0_2 a0_2 dX8_isWord_9 ?_
    refine mj_aload_n 0 dX8_isWord_12 rfl ?_
    refine mj_getIv (v := (r2 5)) rfl fl_X8_79 rfl s0_2 a0_2 dX8_isWord_13 ?_
    refine mj_isub dX8_isWord_16 ?_
    refine mj_aload_n 1 dX8_isWord_17 rfl ?_
    refine mj_callVs (i := 6) (I2 := (mj_rows I [(2, r2), (3, r3)])) (L2 := L) (s1 := [.int (4 : Int32), .int ((r2 6) - (r2 5))]) (st := [.int ((r2 6) - (r2 5))]) [] (cmJ0_length X.2.1 G 6 2007 rfl (by decide) _ _) rfl rfl cw_X8_85 rfl (by decide) (by decide) rfl rfl (Nat.le_of_ble_eq_true rfl) ⟨Nat.zero_le _, Nat.zero_le _⟩ dX8_isWord_18 rfl ?_
    refine mj_icmp_eq 26 dX8_isWord_21 (by decide) (fun c8 => ?_) (fun c8 => ?_)
    · replace hf := mj_pos c8 hf
      refine mj_iconst dX8_isWord_26 kc_iconst_0 ?_
      refine mj_istore_n [(2, .int (0 : Int32)), (0, .ref 2), (1, .ref 2007)] dX8_isWord_27 rfl (by decide) rfl ?_
      refine mj_sub [1, 2, 0] [(0, .ref 2), (1, .ref 2007), (2, .int (0 : Int32))] rfl ?_
      obtain ⟨e9, ho9, hf⟩ := mj_bd hf
      refine lpX8_isWord_2_2007_28 hR F I L r2 r3 F (0 : Int32) e9 ho9 ?_
      rcases e9 with e9 | e9
      · replace hf := mj_ele hf
        refine mj_elq (?_)
        refine mj_iconst dX8_isWord_63 kc_iconst_1 ?_
        obtain rfl := Option.some.inj hf
        have hZ := hq
        exact mj_iret hR ⟨Nat.le_refl _, Nat.le_refl _⟩ rfl (by decide) dX8_isWord_64 hZ
      · replace hf := mj_ere hf
        refine mj_erq (?_)
        refine mj_iconst dX8_isWord_55 kc_iconst_0 ?_
        obtain rfl := Option.some.inj hf
        have hZ := hq
        exact mj_iret hR ⟨Nat.le_refl _, Nat.le_refl _⟩ rfl (by decide) dX8_isWord_56 hZ
    · replace hf := mj_neg c8 hf
      refine mj_iconst dX8_isWord_24 kc_iconst_0 ?_
      obtain rfl := Option.some.inj hf
      have hZ := hq
      exact mj_iret hR ⟨Nat.le_refl _, Nat.le_refl _⟩ rfl (by decide) dX8_isWord_25 hZ
set_option maxRecDepth 100000 in
set_option maxHeartbeats 4000000 in
theorem cmX8_isWord_2_2007 (l : Launch) (G : mj_GT) (F : Nat) (I : mj_IT) (L : mj_LT) (r2 : Nat → Int32) (r3 : Nat → Int32) (hr2 : I 2 = r2) (hr3 : I 3 = r3) (o : ((Int32))) (hf : fnX8_isWord_2_2007 F r2 r3 = some o) : mj_M l G yX8_isWord cX8_isWord 3 5 (some .boolean) 0 0 mj_P0 mj_S0 98 [.ref 2, .ref 2007] I L (mj_qd (some (.int o)) (mj_rows I [(2, r2), (3, r3)]) L) := by
  refine mj_in RX8 "isWord" [(0, .ref 2), (1, .ref 2007)] rfl rfl rfl (by decide) (Nat.le_of_ble_eq_true rfl) (fun X ad hR => ?_)
  refine mj_toI [(2, r2), (3, r3)] (by intro q hq; simp only [List.mem_cons, List.not_mem_nil, or_false] at hq; rcases hq with rfl | rfl <;> assumption) ?_
  refine mtX8_isWord_2_2007 hR F I L r2 r3 o hf ?_
  exact ⟨rfl, rfl, rfl⟩

-- X8_fail
def fnX8_fail (F : Nat) (r2 : Nat → Int32) (x1 : Int32) : Option ((Nat → Int32)) := (if (r2 8) = 0 then some (upd (upd r2 8 x1) 9 (r2 5)) else some r2)
set_option maxRecDepth 100000 in
set_option maxHeartbeats 4000000 in
theorem mtX8_fail {X : mj_XT} {l : Launch} {G : mj_GT} {ad : Nat → Nat} {Qn : Option Value → mj_IT → mj_LT → Prop} (hR : mj_R X l G mj_P0 mj_S0 98 ad 0 0 Qn) (F : Nat) (I : mj_IT) (L : mj_LT) (r2 : Nat → Int32) (x1 : Int32) (o : ((Nat → Int32))) (hf : fnX8_fail F r2 x1 = some o) (hq : (fun r2 => Qn none (mj_rows I [(2, r2)]) L) o) : mj_W X G RX8 "fail" cX8_fail 2 1 none mj_P0 mj_S0 98 ad 0 0 0 [(0, .ref 2), (1, .int x1)] [] (mj_rows I [(2, r2)]) L := by
  unfold fnX8_fail at hf
  refine mj_aload_n 0 dX8_fail_0 rfl ?_
  refine mj_getIv (v := (r2 8)) rfl fl_X8_51 rfl s0_2 a0_2 dX8_fail_1 ?_
  refine mj_if_ne 20 dX8_fail_4 (by decide) (fun c1 => ?_) (fun c1 => ?_)
  · replace hf := mj_neg c1 hf
    obtain rfl := Option.some.inj hf
    have hZ := hq
    exact mj_vret hR ⟨Nat.le_refl _, Nat.le_refl _⟩ rfl dX8_fail_20 hZ
  · replace hf := mj_pos c1 hf
    refine mj_aload_n 0 dX8_fail_7 rfl ?_
    refine mj_iload_n 1 dX8_fail_8 rfl ?_
    refine mj_putIr (ci := 6) (j := 8) [(2, (upd r2 8 x1))] rfl ⟨rfl, rfl⟩ fl_X8_51 rfl rfl s0_2 a0_2 dX8_fail_9 ?_
    refine mj_aload_n 0 dX8_fail_12 rfl ?_
    refine mj_aload_n 0 dX8_fail_13 rfl ?_
    refine mj_getIv (v := (r2 5)) rfl fl_X8_79 rfl s0_2 a0_2 dX8_fail_14 ?_
    refine mj_putIr (ci := 6) (j := 9) [(2, (upd (upd r2 8 x1) 9 (r2 5)))] rfl ⟨rfl, rfl⟩ fl_X8_22 rfl rfl s0_2 a0_2 dX8_fail_17 ?_
    obtain rfl := Option.some.inj hf
    have hZ := hq
    exact mj_vret hR ⟨Nat.le_refl _, Nat.le_refl _⟩ rfl dX8_fail_20 hZ
set_option maxRecDepth 100000 in
set_option maxHeartbeats 4000000 in
theorem cmX8_fail (l : Launch) (G : mj_GT) (F : Nat) (x1 : Int32) (I : mj_IT) (L : mj_LT) (r2 : Nat → Int32) (hr2 : I 2 = r2) (o : ((Nat → Int32))) (hf : fnX8_fail F r2 x1 = some o) : mj_M l G yX8_fail cX8_fail 2 1 none 0 0 mj_P0 mj_S0 98 [.ref 2, .int x1] I L (mj_qd none (mj_rows I [(2, o)]) L) := by
  refine mj_in RX8 "fail" [(0, .ref 2), (1, .int x1)] rfl rfl rfl (by decide) (Nat.le_of_ble_eq_true rfl) (fun X ad hR => ?_)
  refine mj_toI [(2, r2)] (by intro q hq; simp only [List.mem_cons, List.not_mem_nil, or_false] at hq; rcases hq with rfl <;> assumption) ?_
  refine mtX8_fail hR F I L r2 x1 o hf ?_
  exact ⟨rfl, rfl, rfl⟩

-- X8_readSign
def fnX8_readSign (F : Nat) (r2 : Nat → Int32) (r3 : Nat → Int32) (x1 : Int32) : Option ((Nat → Int32)) := (fnX8_isSign F r2 r3 x1).bind (fun o1 => (if o1 = 0 then (fnX8_fail F r2 (1 : Int32)).bind (fun o3 => some o3) else (fnX8_goOn F r2 r3).bind (fun o4 => some o4)))
set_option maxRecDepth 100000 in
set_option maxHeartbeats 4000000 in
theorem mtX8_readSign {X : mj_XT} {l : Launch} {G : mj_GT} {ad : Nat → Nat} {Qn : Option Value → mj_IT → mj_LT → Prop} (hR : mj_R X l G mj_P0 mj_S0 98 ad 0 0 Qn) (F : Nat) (I : mj_IT) (L : mj_LT) (r2 : Nat → Int32) (r3 : Nat → Int32) (x1 : Int32) (o : ((Nat → Int32))) (hf : fnX8_readSign F r2 r3 x1 = some o) (hq : (fun r2 => Qn none (mj_rows I [(2, r2), (3, r3)]) L) o) : mj_W X G RX8 "readSign" cX8_readSign 2 2 none mj_P0 mj_S0 98 ad 0 0 0 [(0, .ref 2), (1, .int x1)] [] (mj_rows I [(2, r2), (3, r3)]) L := by
  unfold fnX8_readSign at hf
  refine mj_aload_n 0 dX8_readSign_0 rfl ?_
  refine mj_iload_n 1 dX8_readSign_1 rfl ?_
  obtain ⟨o1, ho1, hf⟩ := mj_bd hf
  refine mj_callVd (I2 := (mj_rows I [(2, r2), (3, r3)])) (L2 := L) (s1 := [.int o1]) (st := []) [.int x1] (cmX8_isSign X.2.1 G F x1 _ _ r2 r3 rfl rfl o1 ho1) (mj_rr rfl) rfl cw_X8_66 s0_2 a0_2 (by decide) rfl rfl (Nat.le_of_ble_eq_true rfl) ⟨Nat.zero_le _, Nat.zero_le _⟩ dX8_readSign_2 rfl ?_
  refine mj_if_eq 15 dX8_readSign_5 (by decide) (fun c2 => ?_) (fun c2 => ?_)
  · replace hf := mj_pos c2 hf
    refine mj_aload_n 0 dX8_readSign_15 rfl ?_
    refine mj_iconst dX8_readSign_16 kc_iconst_1 ?_
    obtain ⟨o3, ho3, hf⟩ := mj_bd hf
    refine mj_callVd (I2 := (mj_rows I [(2, o3), (3, r3)])) (L2 := L) (s1 := []) (st := []) [.int (1 : Int32)] (cmX8_fail X.2.1 G F (1 : Int32) _ _ r2 rfl o3 ho3) (mj_rr rfl) rfl cw_X8_116 s0_2 a0_2 (by decide) rfl rfl (Nat.le_of_ble_eq_true rfl) ⟨Nat.zero_le _, Nat.zero_le _⟩ dX8_readSign_17 rfl ?_
    obtain rfl := Option.some.inj hf
    have hZ := hq
    exact mj_vret hR ⟨Nat.le_refl _, Nat.le_refl _⟩ rfl dX8_readSign_20 hZ
  · replace hf := mj_neg c2 hf
    refine mj_aload_n 0 dX8_readSign_8 rfl ?_
    obtain ⟨o4, ho4, hf⟩ := mj_bd hf
    refine mj_callVd (I2 := (mj_rows I [(2, o4), (3, r3)])) (L2 := L) (s1 := []) (st := []) [] (cmX8_goOn X.2.1 G F  _ _ r2 r3 rfl rfl o4 ho4) (mj_rr rfl) rfl cw_X8_60 s0_2 a0_2 (by decide) rfl rfl (Nat.le_of_ble_eq_true rfl) ⟨Nat.zero_le _, Nat.zero_le _⟩ dX8_readSign_9 rfl ?_
    refine mj_goto 20 dX8_readSign_12 (by decide) ?_
    obtain rfl := Option.some.inj hf
    have hZ := hq
    exact mj_vret hR ⟨Nat.le_refl _, Nat.le_refl _⟩ rfl dX8_readSign_20 hZ
set_option maxRecDepth 100000 in
set_option maxHeartbeats 4000000 in
theorem cmX8_readSign (l : Launch) (G : mj_GT) (F : Nat) (x1 : Int32) (I : mj_IT) (L : mj_LT) (r2 : Nat → Int32) (r3 : Nat → Int32) (hr2 : I 2 = r2) (hr3 : I 3 = r3) (o : ((Nat → Int32))) (hf : fnX8_readSign F r2 r3 x1 = some o) : mj_M l G yX8_readSign cX8_readSign 2 2 none 0 0 mj_P0 mj_S0 98 [.ref 2, .int x1] I L (mj_qd none (mj_rows I [(2, o), (3, r3)]) L) := by
  refine mj_in RX8 "readSign" [(0, .ref 2), (1, .int x1)] rfl rfl rfl (by decide) (Nat.le_of_ble_eq_true rfl) (fun X ad hR => ?_)
  refine mj_toI [(2, r2), (3, r3)] (by intro q hq; simp only [List.mem_cons, List.not_mem_nil, or_false] at hq; rcases hq with rfl | rfl <;> assumption) ?_
  refine mtX8_readSign hR F I L r2 r3 x1 o hf ?_
  exact ⟨rfl, rfl, rfl⟩

-- X8_openBlock
def jnX8_openBlock_23 (F : Nat) (r3 : Nat → Int32) (x1 : Int32) (x2 : Int32) (r2 : Nat → Int32) (r15 : Nat → Int32) (r16 : Nat → Int32) (r17 : Nat → Int32) : Option ((Nat → Int32) × (Nat → Int32) × (Nat → Int32) × (Nat → Int32)) := (fnX8_readSign F r2 r3 (123 : Int32)).bind (fun o1 => (if (o1 8) = 0 then (if mj_ib ((o1 10) + (1 : Int32)) 7 = true then (if mj_ib ((o1 10) + (1 : Int32)) 7 = true then (if mj_ib ((o1 10) + (1 : Int32)) 7 = true then some ((upd o1 10 ((o1 10) + (1 : Int32))), (upd r15 (((o1 10) + (1 : Int32)).toNatClampNeg) x1), (upd r16 (((o1 10) + (1 : Int32)).toNatClampNeg) (-1 : Int32)), (upd r17 (((o1 10) + (1 : Int32)).toNatClampNeg) (vp_nar .boolean x2))) else none) else none) else none) else some (o1, r15, r16, r17)))
def fnX8_openBlock (F : Nat) (r2 : Nat → Int32) (r3 : Nat → Int32) (r15 : Nat → Int32) (r16 : Nat → Int32) (r17 : Nat → Int32) (x1 : Int32) (x2 : Int32) : Option ((Nat → Int32) × (Nat → Int32) × (Nat → Int32) × (Nat → Int32)) := (fnX8_isSign F r2 r3 (123 : Int32)).bind (fun o6 => (if o6 = 0 then jnX8_openBlock_23 F r3 x1 x2 r2 r15 r16 r17 else (if (r2 10) < (6 : Int32) then jnX8_openBlock_23 F r3 x1 x2 r2 r15 r16 r17 else (fnX8_fail F r2 (3 : Int32)).bind (fun o9 => jnX8_openBlock_23 F r3 x1 x2 o9 r15 r16 r17))))
set_option maxRecDepth 100000 in
set_option maxHeartbeats 4000000 in
theorem jtX8_openBlock_23 {X : mj_XT} {l : Launch} {G : mj_GT} {ad : Nat → Nat} {Qn : Option Value → mj_IT → mj_LT → Prop} (hR : mj_R X l G mj_P0 mj_S0 98 ad 0 0 Qn) (F : Nat) (I : mj_IT) (L : mj_LT) (r2 : Nat → Int32) (r3 : Nat → Int32) (r15 : Nat → Int32) (r16 : Nat → Int32) (r17 : Nat → Int32) (x1 : Int32) (x2 : Int32) (o : ((Nat → Int32) × (Nat → Int32) × (Nat → Int32) × (Nat → Int32))) (hf : jnX8_openBlock_23 F r3 x1 x2 r2 r15 r16 r17 = some o) (hq : (mj_u2 (fun r2 => (mj_u2 (fun r15 => (mj_u2 (fun r16 r17 => Qn none (mj_rows I [(2, r2), (3, r3), (15, r15), (16, r16), (17, r17)]) L)))))) o) : mj_W X G RX8 "openBlock" cX8_openBlock 3 3 none mj_P0 mj_S0 98 ad 0 0 23 [(0, .ref 2), (1, .int x1), (2, .int x2)] [] (mj_rows I [(2, r2), (3, r3), (15, r15), (16, r16), (17, r17)]) L := by
  unfold jnX8_openBlock_23 at hf
  refine mj_aload_n 0 dX8_openBlock_23 rfl ?_
  refine mj_bipush dX8_openBlock_24 kc_bipush_123 ?_
  obtain ⟨o1, ho1, hf⟩ := mj_bd hf
  refine mj_callVd (I2 := (mj_rows I [(2, o1), (3, r3), (15, r15), (16, r16), (17, r17)])) (L2 := L) (s1 := []) (st := []) [.int (123 : Int32)] (cmX8_readSign X.2.1 G F (123 : Int32) _ _ r2 r3 rfl rfl o1 ho1) (mj_rr rfl) rfl cw_X8_134 s0_2 a0_2 (by decide) rfl rfl (Nat.le_of_ble_eq_true rfl) ⟨Nat.zero_le _, Nat.zero_le _⟩ dX8_openBlock_26 rfl ?_
  refine mj_aload_n 0 dX8_openBlock_29 rfl ?_
  refine mj_getIv (v := (o1 8)) rfl fl_X8_51 rfl s0_2 a0_2 dX8_openBlock_30 ?_
  refine mj_if_ne 76 dX8_openBlock_33 (by decide) (fun c2 => ?_) (fun c2 => ?_)
  · replace hf := mj_neg c2 hf
    obtain rfl := Option.some.inj hf
    have hZ := hq
    replace hZ := mj_u2p hZ
    replace hZ := mj_u2p hZ
    replace hZ := mj_u2p hZ
    exact mj_vret hR ⟨Nat.le_refl _, Nat.le_refl _⟩ rfl dX8_openBlock_76 hZ
  · replace hf := mj_pos c2 hf
    refine mj_aload_n 0 dX8_openBlock_36 rfl ?_
    refine mj_dup dX8_openBlock_37 rfl ?_
    refine mj_getIv (v := (o1 10)) rfl fl_X8_54 rfl s0_2 a0_2 dX8_openBlock_38 ?_
    refine mj_iconst dX8_openBlock_41 kc_iconst_1 ?_
    refine mj_iadd dX8_openBlock_42 ?_
    refine mj_putIr (ci := 6) (j := 10) [(2, (upd o1 10 ((o1 10) + (1 : Int32)))), (3, r3), (15, r15), (16, r16), (17, r17)] rfl ⟨rfl, rfl⟩ fl_X8_54 rfl rfl s0_2 a0_2 dX8_openBlock_43 ?_
    refine mj_aload_n 0 dX8_openBlock_46 rfl ?_
    refine mj_getP p0_2_11 (by decide) fl_X8_26 rfl s0_2 a0_2 dX8_openBlock_47 ?_
    refine mj_aload_n 0 dX8_openBlock_50 rfl ?_
    refine mj_getIv (v := ((o1 10) + (1 : Int32))) rfl fl_X8_54 rfl s0_2 a0_2 dX8_openBlock_51 ?_
    refine mj_iload_n 1 dX8_openBlock_54 rfl ?_
    obtain ⟨z3, hf⟩ := mj_ck hf
    refine mj_iastr [(2, (upd o1 10 ((o1 10) + (1 : Int32)))), (3, r3), (15, (upd r15 (((o1 10) + (1 : Int32)).toNatClampNeg) x1)), (16, r16), (17, r17)] rfl s0_15 a0_15 z3 dX8_openBlock_55 ?_
    refine mj_aload_n 0 dX8_openBlock_56 rfl ?_
    refine mj_getP p0_2_12 (by decide) fl_X8_29 rfl s0_2 a0_2 dX8_openBlock_57 ?_
    refine mj_aload_n 0 dX8_openBlock_60 rfl ?_
    refine mj_getIv (v := ((o1 10) + (1 : Int32))) rfl fl_X8_54 rfl s0_2 a0_2 dX8_openBlock_61 ?_
    refine mj_iconst dX8_openBlock_64 kc_iconst_m1 ?_
    obtain ⟨z4, hf⟩ := mj_ck hf
    refine mj_iastr [(2, (upd o1 10 ((o1 10) + (1 : Int32)))), (3, r3), (15, (upd r15 (((o1 10) + (1 : Int32)).toNatClampNeg) x1)), (16, (upd r16 (((o1 10) + (1 : Int32)).toNatClampNeg) (-1 : Int32))), (17, r17)] rfl s0_16 a0_16 z4 dX8_openBlock_65 ?_
    refine mj_aload_n 0 dX8_openBlock_66 rfl ?_
    refine mj_getP p0_2_13 (by decide) fl_X8_32 rfl s0_2 a0_2 dX8_openBlock_67 ?_
    refine mj_aload_n 0 dX8_openBlock_70 rfl ?_
    refine mj_getIv (v := ((o1 10) + (1 : Int32))) rfl fl_X8_54 rfl s0_2 a0_2 dX8_openBlock_71 ?_
    refine mj_iload_n 2 dX8_openBlock_74 rfl ?_
    obtain ⟨z5, hf⟩ := mj_ck hf
    refine mj_zastr [(2, (upd o1 10 ((o1 10) + (1 : Int32)))), (3, r3), (15, (upd r15 (((o1 10) + (1 : Int32)).toNatClampNeg) x1)), (16, (upd r16 (((o1 10) + (1 : Int32)).toNatClampNeg) (-1 : Int32))), (17, (upd r17 (((o1 10) + (1 : Int32)).toNatClampNeg) (vp_nar .boolean x2)))] rfl s0_17 a0_17 z5 dX8_openBlock_75 ?_
    obtain rfl := Option.some.inj hf
    have hZ := hq
    replace hZ := mj_u2p hZ
    replace hZ := mj_u2p hZ
    replace hZ := mj_u2p hZ
    exact mj_vret hR ⟨Nat.le_refl _, Nat.le_refl _⟩ rfl dX8_openBlock_76 hZ
set_option maxRecDepth 100000 in
set_option maxHeartbeats 4000000 in
theorem mtX8_openBlock {X : mj_XT} {l : Launch} {G : mj_GT} {ad : Nat → Nat} {Qn : Option Value → mj_IT → mj_LT → Prop} (hR : mj_R X l G mj_P0 mj_S0 98 ad 0 0 Qn) (F : Nat) (I : mj_IT) (L : mj_LT) (r2 : Nat → Int32) (r3 : Nat → Int32) (r15 : Nat → Int32) (r16 : Nat → Int32) (r17 : Nat → Int32) (x1 : Int32) (x2 : Int32) (o : ((Nat → Int32) × (Nat → Int32) × (Nat → Int32) × (Nat → Int32))) (hf : fnX8_openBlock F r2 r3 r15 r16 r17 x1 x2 = some o) (hq : (mj_u2 (fun r2 => (mj_u2 (fun r15 => (mj_u2 (fun r16 r17 => Qn none (mj_rows I [(2, r2), (3, r3), (15, r15), (16, r16), (17, r17)]) L)))))) o) : mj_W X G RX8 "openBlock" cX8_openBlock 3 3 none mj_P0 mj_S0 98 ad 0 0 0 [(0, .ref 2), (1, .int x1), (2, .int x2)] [] (mj_rows I [(2, r2), (3, r3), (15, r15), (16, r16), (17, r17)]) L := by
  unfold fnX8_openBlock at hf
  refine mj_aload_n 0 dX8_openBlock_0 rfl ?_
  refine mj_bipush dX8_openBlock_1 kc_bipush_123 ?_
  obtain ⟨o6, ho6, hf⟩ := mj_bd hf
  refine mj_callVd (I2 := (mj_rows I [(2, r2), (3, r3), (15, r15), (16, r16), (17, r17)])) (L2 := L) (s1 := [.int o6]) (st := []) [.int (123 : Int32)] (cmX8_isSign X.2.1 G F (123 : Int32) _ _ r2 r3 rfl rfl o6 ho6) (mj_rr rfl) rfl cw_X8_66 s0_2 a0_2 (by decide) rfl rfl (Nat.le_of_ble_eq_true rfl) ⟨Nat.zero_le _, Nat.zero_le _⟩ dX8_openBlock_3 rfl ?_
  refine mj_if_eq 23 dX8_openBlock_6 (by decide) (fun c7 => ?_) (fun c7 => ?_)
  · replace hf := mj_pos c7 hf
    exact jtX8_openBlock_23 hR F I L r2 r3 r15 r16 r17 x1 x2 o hf hq
  · replace hf := mj_neg c7 hf
    refine mj_aload_n 0 dX8_openBlock_9 rfl ?_
    refine mj_getIv (v := (r2 10)) rfl fl_X8_54 rfl s0_2 a0_2 dX8_openBlock_10 ?_
    refine mj_bipush dX8_openBlock_13 kc_bipush_6 ?_
    refine mj_icmp_lt 23 dX8_openBlock_15 (by decide) (fun c8 => ?_) (fun c8 => ?_)
    · replace hf := mj_pos c8 hf
      exact jtX8_openBlock_23 hR F I L r2 r3 r15 r16 r17 x1 x2 o hf hq
    · replace hf := mj_neg c8 hf
      refine mj_aload_n 0 dX8_openBlock_18 rfl ?_
      refine mj_iconst dX8_openBlock_19 kc_iconst_3 ?_
      obtain ⟨o9, ho9, hf⟩ := mj_bd hf
      refine mj_callVd (I2 := (mj_rows I [(2, o9), (3, r3), (15, r15), (16, r16), (17, r17)])) (L2 := L) (s1 := []) (st := []) [.int (3 : Int32)] (cmX8_fail X.2.1 G F (3 : Int32) _ _ r2 rfl o9 ho9) (mj_rr rfl) rfl cw_X8_116 s0_2 a0_2 (by decide) rfl rfl (Nat.le_of_ble_eq_true rfl) ⟨Nat.zero_le _, Nat.zero_le _⟩ dX8_openBlock_20 rfl ?_
      exact jtX8_openBlock_23 hR F I L o9 r3 r15 r16 r17 x1 x2 o hf hq
set_option maxRecDepth 100000 in
set_option maxHeartbeats 4000000 in
theorem cmX8_openBlock (l : Launch) (G : mj_GT) (F : Nat) (x1 : Int32) (x2 : Int32) (I : mj_IT) (L : mj_LT) (r2 : Nat → Int32) (r3 : Nat → Int32) (r15 : Nat → Int32) (r16 : Nat → Int32) (r17 : Nat → Int32) (hr2 : I 2 = r2) (hr3 : I 3 = r3) (hr15 : I 15 = r15) (hr16 : I 16 = r16) (hr17 : I 17 = r17) (o : ((Nat → Int32) × (Nat → Int32) × (Nat → Int32) × (Nat → Int32))) (hf : fnX8_openBlock F r2 r3 r15 r16 r17 x1 x2 = some o) : mj_M l G yX8_openBlock cX8_openBlock 3 3 none 0 0 mj_P0 mj_S0 98 [.ref 2, .int x1, .int x2] I L (mj_qd none (mj_rows I [(2, o.1), (3, r3), (15, o.2.1), (16, o.2.2.1), (17, o.2.2.2)]) L) := by
  refine mj_in RX8 "openBlock" [(0, .ref 2), (1, .int x1), (2, .int x2)] rfl rfl rfl (by decide) (Nat.le_of_ble_eq_true rfl) (fun X ad hR => ?_)
  refine mj_toI [(2, r2), (3, r3), (15, r15), (16, r16), (17, r17)] (by intro q hq; simp only [List.mem_cons, List.not_mem_nil, or_false] at hq; rcases hq with rfl | rfl | rfl | rfl | rfl <;> assumption) ?_
  refine mtX8_openBlock hR F I L r2 r3 r15 r16 r17 x1 x2 o hf ?_
  obtain ⟨w0, w1, w2, w3⟩ := o
  refine mj_u2q ?_
  refine mj_u2q ?_
  refine mj_u2q ?_
  exact ⟨rfl, rfl, rfl⟩

-- X8_closeBlock
def jnX8_closeBlock_40 (F : Nat) (r3 : Nat → Int32) (r5 : Nat → Int32) (x1 : Int32) (t0 : Int32) (r2 : Nat → Int32) (r15 : Nat → Int32) (r16 : Nat → Int32) (r17 : Nat → Int32) : Option ((Nat → Int32) × (Nat → Int32) × (Nat → Int32) × (Nat → Int32)) := (fnX8_goOn F (upd r2 10 ((r2 10) - (1 : Int32))) r3).bind (fun o1 => (if t0 = 0 then some (o1, r15, r16, r17) else (fnX8_isWord_2_2007 F o1 r3).bind (fun o3 => (if o3 = 0 then some (o1, r15, r16, r17) else (fnX8_goOn F o1 r3).bind (fun o5 => (fnX8_openBlock F o5 r3 r15 r16 r17 x1 (1 : Int32)).bind (fun o6 => some (o6.1, o6.2.1, o6.2.2.1, o6.2.2.2)))))))
def jnX8_closeBlock_39 (F : Nat) (r3 : Nat → Int32) (r5 : Nat → Int32) (x1 : Int32) (r2 : Nat → Int32) (r15 : Nat → Int32) (r16 : Nat → Int32) (r17 : Nat → Int32) : Option ((Nat → Int32) × (Nat → Int32) × (Nat → Int32) × (Nat → Int32)) := jnX8_closeBlock_40 F r3 r5 x1 (0 : Int32) r2 r15 r16 r17
def fnX8_closeBlock (F : Nat) (r2 : Nat → Int32) (r3 : Nat → Int32) (r5 : Nat → Int32) (r15 : Nat → Int32) (r16 : Nat → Int32) (r17 : Nat → Int32) : Option ((Nat → Int32) × (Nat → Int32) × (Nat → Int32) × (Nat → Int32)) := (if mj_ib (r2 10) 7 = true then (if mj_ib (r2 10) 7 = true then (if (r17 ((r2 10).toNatClampNeg)) = 0 then (if mj_ib (r15 ((r2 10).toNatClampNeg)) 40 = true then (if (r5 ((r15 ((r2 10).toNatClampNeg)).toNatClampNeg)) = (4 : Int32) then jnX8_closeBlock_39 F r3 r5 (r15 ((r2 10).toNatClampNeg)) r2 r15 r16 r17 else jnX8_closeBlock_40 F r3 r5 (r15 ((r2 10).toNatClampNeg)) (1 : Int32) r2 r15 r16 r17) else none) else jnX8_closeBlock_39 F r3 r5 (r15 ((r2 10).toNatClampNeg)) r2 r15 r16 r17) else none) else none)
set_option maxRecDepth 100000 in
set_option maxHeartbeats 4000000 in
theorem jtX8_closeBlock_40 {X : mj_XT} {l : Launch} {G : mj_GT} {ad : Nat → Nat} {Qn : Option Value → mj_IT → mj_LT → Prop} (hR : mj_R X l G mj_P0 mj_S0 98 ad 0 0 Qn) (F : Nat) (I : mj_IT) (L : mj_LT) (r2 : Nat → Int32) (r3 : Nat → Int32) (r5 : Nat → Int32) (r15 : Nat → Int32) (r16 : Nat → Int32) (r17 : Nat → Int32) (x1 : Int32) (t0 : Int32) (o : ((Nat → Int32) × (Nat → Int32) × (Nat → Int32) × (Nat → Int32))) (hf : jnX8_closeBlock_40 F r3 r5 x1 t0 r2 r15 r16 r17 = some o) (hq : (mj_u2 (fun r2 => (mj_u2 (fun r15 => (mj_u2 (fun r16 r17 => Qn none (mj_rows I [(2, r2), (3, r3), (5, r5), (15, r15), (16, r16), (17, r17)]) L)))))) o) : mj_W X G RX8 "closeBlock" cX8_closeBlock 3 6 none mj_P0 mj_S0 98 ad 0 0 40 [(0, .ref 2), (1, .int x1)] [.int t0] (mj_rows I [(2, r2), (3, r3), (5, r5), (15, r15), (16, r16), (17, r17)]) L := by
  unfold jnX8_closeBlock_40 at hf
  refine mj_istore_n [(2, .int t0), (0, .ref 2), (1, .int x1)] dX8_closeBlock_40 rfl (by decide) rfl ?_
  refine mj_aload_n 1 dX8_closeBlock_41 rfl ?_
  refine mj_dup dX8_closeBlock_42 rfl ?_
  refine mj_getIv (v := (r2 10)) rfl fl_X8_54 rfl s0_2 a0_2 dX8_closeBlock_43 ?_
  refine mj_iconst dX8_closeBlock_46 kc_iconst_1 ?_
  refine mj_isub dX8_closeBlock_47 ?_
  refine mj_putIr (ci := 6) (j := 10) [(2, (upd r2 10 ((r2 10) - (1 : Int32)))), (3, r3), (5, r5), (15, r15), (16, r16), (17, r17)] rfl ⟨rfl, rfl⟩ fl_X8_54 rfl rfl s0_2 a0_2 dX8_closeBlock_48 ?_
  refine mj_aload_n 1 dX8_closeBlock_51 rfl ?_
  obtain ⟨o1, ho1, hf⟩ := mj_bd hf
  refine mj_callVd (I2 := (mj_rows I [(2, o1), (3, r3), (5, r5), (15, r15), (16, r16), (17, r17)])) (L2 := L) (s1 := []) (st := []) [] (cmX8_goOn X.2.1 G F  _ _ (upd r2 10 ((r2 10) - (1 : Int32))) r3 rfl rfl o1 ho1) (mj_rr rfl) rfl cw_X8_60 s0_2 a0_2 (by decide) rfl rfl (Nat.le_of_ble_eq_true rfl) ⟨Nat.zero_le _, Nat.zero_le _⟩ dX8_closeBlock_52 rfl ?_
  refine mj_iload_n 0 dX8_closeBlock_55 rfl ?_
  refine mj_if_eq 78 dX8_closeBlock_56 (by decide) (fun c2 => ?_) (fun c2 => ?_)
  · replace hf := mj_pos c2 hf
    obtain rfl := Option.some.inj hf
    have hZ := hq
    replace hZ := mj_u2p hZ
    replace hZ := mj_u2p hZ
    replace hZ := mj_u2p hZ
    exact mj_vret hR ⟨Nat.le_refl _, Nat.le_refl _⟩ rfl dX8_closeBlock_78 hZ
  · replace hf := mj_neg c2 hf
    refine mj_aload_n 1 dX8_closeBlock_59 rfl ?_
    refine mj_ldcS (b := 2007) (List.mem_of_getElem? (i := 6) rfl) rfl dX8_closeBlock_60 ?_
    obtain ⟨o3, ho3, hf⟩ := mj_bd hf
    refine mj_callVd (I2 := (mj_rows I [(2, o1), (3, r3), (5, r5), (15, r15), (16, r16), (17, r17)])) (L2 := L) (s1 := [.int o3]) (st := []) [.ref 2007] (cmX8_isWord_2_2007 X.2.1 G F  _ _ o1 r3 rfl rfl o3 ho3) (mj_rr rfl) rfl cw_X8_99 s0_2 a0_2 (by decide) rfl rfl (Nat.le_of_ble_eq_true rfl) ⟨Nat.zero_le _, Nat.zero_le _⟩ dX8_closeBlock_62 rfl ?_
    refine mj_if_eq 78 dX8_closeBlock_65 (by decide) (fun c4 => ?_) (fun c4 => ?_)
    · replace hf := mj_pos c4 hf
      obtain rfl := Option.some.inj hf
      have hZ := hq
      replace hZ := mj_u2p hZ
      replace hZ := mj_u2p hZ
      replace hZ := mj_u2p hZ
      exact mj_vret hR ⟨Nat.le_refl _, Nat.le_refl _⟩ rfl dX8_closeBlock_78 hZ
    · replace hf := mj_neg c4 hf
      refine mj_aload_n 1 dX8_closeBlock_68 rfl ?_
      obtain ⟨o5, ho5, hf⟩ := mj_bd hf
      refine mj_callVd (I2 := (mj_rows I [(2, o5), (3, r3), (5, r5), (15, r15), (16, r16), (17, r17)])) (L2 := L) (s1 := []) (st := []) [] (cmX8_goOn X.2.1 G F  _ _ o1 r3 rfl rfl o5 ho5) (mj_rr rfl) rfl cw_X8_60 s0_2 a0_2 (by decide) rfl rfl (Nat.le_of_ble_eq_true rfl) ⟨Nat.zero_le _, Nat.zero_le _⟩ dX8_closeBlock_69 rfl ?_
      refine mj_aload_n 1 dX8_closeBlock_72 rfl ?_
      refine mj_iload_n 2 dX8_closeBlock_73 rfl ?_
      refine mj_iconst dX8_closeBlock_74 kc_iconst_1 ?_
      obtain ⟨o6, ho6, hf⟩ := mj_bd hf
      refine mj_callVd (I2 := (mj_rows I [(2, o6.1), (3, r3), (5, r5), (15, o6.2.1), (16, o6.2.2.1), (17, o6.2.2.2)])) (L2 := L) (s1 := []) (st := []) [.int x1, .int (1 : Int32)] (cmX8_openBlock X.2.1 G F x1 (1 : Int32) _ _ o5 r3 r15 r16 r17 rfl rfl rfl rfl rfl o6 ho6) (mj_rr rfl) rfl cw_X8_147 s0_2 a0_2 (by decide) rfl rfl (Nat.le_of_ble_eq_true rfl) ⟨Nat.zero_le _, Nat.zero_le _⟩ dX8_closeBlock_75 rfl ?_
      obtain rfl := Option.some.inj hf
      have hZ := hq
      replace hZ := mj_u2p hZ
      replace hZ := mj_u2p hZ
      replace hZ := mj_u2p hZ
      exact mj_vret hR ⟨Nat.le_refl _, Nat.le_refl _⟩ rfl dX8_closeBlock_78 hZ
set_option maxRecDepth 100000 in
set_option maxHeartbeats 4000000 in
theorem jtX8_closeBlock_39 {X : mj_XT} {l : Launch} {G : mj_GT} {ad : Nat → Nat} {Qn : Option Value → mj_IT → mj_LT → Prop} (hR : mj_R X l G mj_P0 mj_S0 98 ad 0 0 Qn) (F : Nat) (I : mj_IT) (L : mj_LT) (r2 : Nat → Int32) (r3 : Nat → Int32) (r5 : Nat → Int32) (r15 : Nat → Int32) (r16 : Nat → Int32) (r17 : Nat → Int32) (x1 : Int32) (o : ((Nat → Int32) × (Nat → Int32) × (Nat → Int32) × (Nat → Int32))) (hf : jnX8_closeBlock_39 F r3 r5 x1 r2 r15 r16 r17 = some o) (hq : (mj_u2 (fun r2 => (mj_u2 (fun r15 => (mj_u2 (fun r16 r17 => Qn none (mj_rows I [(2, r2), (3, r3), (5, r5), (15, r15), (16, r16), (17, r17)]) L)))))) o) : mj_W X G RX8 "closeBlock" cX8_closeBlock 3 6 none mj_P0 mj_S0 98 ad 0 0 39 [(0, .ref 2), (1, .int x1)] [] (mj_rows I [(2, r2), (3, r3), (5, r5), (15, r15), (16, r16), (17, r17)]) L := by
  unfold jnX8_closeBlock_39 at hf
  refine mj_iconst dX8_closeBlock_39 kc_iconst_0 ?_
  exact jtX8_closeBlock_40 hR F I L r2 r3 r5 r15 r16 r17 x1 (0 : Int32) o hf hq
set_option maxRecDepth 100000 in
set_option maxHeartbeats 4000000 in
theorem mtX8_closeBlock {X : mj_XT} {l : Launch} {G : mj_GT} {ad : Nat → Nat} {Qn : Option Value → mj_IT → mj_LT → Prop} (hR : mj_R X l G mj_P0 mj_S0 98 ad 0 0 Qn) (F : Nat) (I : mj_IT) (L : mj_LT) (r2 : Nat → Int32) (r3 : Nat → Int32) (r5 : Nat → Int32) (r15 : Nat → Int32) (r16 : Nat → Int32) (r17 : Nat → Int32) (o : ((Nat → Int32) × (Nat → Int32) × (Nat → Int32) × (Nat → Int32))) (hf : fnX8_closeBlock F r2 r3 r5 r15 r16 r17 = some o) (hq : (mj_u2 (fun r2 => (mj_u2 (fun r15 => (mj_u2 (fun r16 r17 => Qn none (mj_rows I [(2, r2), (3, r3), (5, r5), (15, r15), (16, r16), (17, r17)]) L)))))) o) : mj_W X G RX8 "closeBlock" cX8_closeBlock 3 6 none mj_P0 mj_S0 98 ad 0 0 0 [(0, .ref 2)] [] (mj_rows I [(2, r2), (3, r3), (5, r5), (15, r15), (16, r16), (17, r17)]) L := by
  unfold fnX8_closeBlock at hf
  refine mj_aload_n 0 dX8_closeBlock_0 rfl ?_
  refine mj_getP p0_2_11 (by decide) fl_X8_26 rfl s0_2 a0_2 dX8_closeBlock_1 ?_
  refine mj_aload_n 0 dX8_closeBlock_4 rfl ?_
  refine mj_getIv (v := (r2 10)) rfl fl_X8_54 rfl s0_2 a0_2 dX8_closeBlock_5 ?_
  obtain ⟨z7, hf⟩ := mj_ck hf
  refine mj_ialdv (x := r15) rfl s0_15 a0_15 z7 dX8_closeBlock_8 ?_
  refine mj_istore_n [(1, .int (r15 ((r2 10).toNatClampNeg))), (0, .ref 2)] dX8_closeBlock_9 rfl (by decide) rfl ?_
  refine mj_aload_n 1 dX8_closeBlock_10 rfl ?_
  refine mj_getP p0_2_13 (by decide) fl_X8_32 rfl s0_2 a0_2 dX8_closeBlock_11 ?_
  refine mj_aload_n 1 dX8_closeBlock_14 rfl ?_
  refine mj_getIv (v := (r2 10)) rfl fl_X8_54 rfl s0_2 a0_2 dX8_closeBlock_15 ?_
  obtain ⟨z8, hf⟩ := mj_ck hf
  refine mj_zaldv (x := r17) rfl s0_17 a0_17 z8 dX8_closeBlock_18 ?_
  refine mj_if_ne 39 dX8_closeBlock_19 (by decide) (fun c9 => ?_) (fun c9 => ?_)
  · replace hf := mj_neg c9 hf
    refine mj_sub [1, 0] [(0, .ref 2), (1, .int (r15 ((r2 10).toNatClampNeg)))] rfl ?_
    exact jtX8_closeBlock_39 hR F I L r2 r3 r5 r15 r16 r17 (r15 ((r2 10).toNatClampNeg)) o hf hq
  · replace hf := mj_pos c9 hf
    refine mj_aload_n 1 dX8_closeBlock_22 rfl ?_
    refine mj_getP p0_2_2 (by decide) fl_X8_18 rfl s0_2 a0_2 dX8_closeBlock_23 ?_
    refine mj_getP p0_4_1 (by decide) fl_X8_167 rfl s0_4 a0_4 dX8_closeBlock_26 ?_
    refine mj_iload_n 0 dX8_closeBlock_29 rfl ?_
    obtain ⟨z10, hf⟩ := mj_ck hf
    refine mj_ialdv (x := r5) rfl s0_5 a0_5 z10 dX8_closeBlock_30 ?_
    refine mj_iconst dX8_closeBlock_31 kc_iconst_4 ?_
    refine mj_icmp_eq 39 dX8_closeBlock_32 (by decide) (fun c11 => ?_) (fun c11 => ?_)
    · replace hf := mj_pos c11 hf
      refine mj_sub [1, 0] [(0, .ref 2), (1, .int (r15 ((r2 10).toNatClampNeg)))] rfl ?_
      exact jtX8_closeBlock_39 hR F I L r2 r3 r5 r15 r16 r17 (r15 ((r2 10).toNatClampNeg)) o hf hq
    · replace hf := mj_neg c11 hf
      refine mj_iconst dX8_closeBlock_35 kc_iconst_1 ?_
      refine mj_goto 40 dX8_closeBlock_36 (by decide) ?_
      refine mj_sub [1, 0] [(0, .ref 2), (1, .int (r15 ((r2 10).toNatClampNeg)))] rfl ?_
      exact jtX8_closeBlock_40 hR F I L r2 r3 r5 r15 r16 r17 (r15 ((r2 10).toNatClampNeg)) (1 : Int32) o hf hq
set_option maxRecDepth 100000 in
set_option maxHeartbeats 4000000 in
theorem cmX8_closeBlock (l : Launch) (G : mj_GT) (F : Nat) (I : mj_IT) (L : mj_LT) (r2 : Nat → Int32) (r3 : Nat → Int32) (r5 : Nat → Int32) (r15 : Nat → Int32) (r16 : Nat → Int32) (r17 : Nat → Int32) (hr2 : I 2 = r2) (hr3 : I 3 = r3) (hr5 : I 5 = r5) (hr15 : I 15 = r15) (hr16 : I 16 = r16) (hr17 : I 17 = r17) (o : ((Nat → Int32) × (Nat → Int32) × (Nat → Int32) × (Nat → Int32))) (hf : fnX8_closeBlock F r2 r3 r5 r15 r16 r17 = some o) : mj_M l G yX8_closeBlock cX8_closeBlock 3 6 none 0 0 mj_P0 mj_S0 98 [.ref 2] I L (mj_qd none (mj_rows I [(2, o.1), (3, r3), (5, r5), (15, o.2.1), (16, o.2.2.1), (17, o.2.2.2)]) L) := by
  refine mj_in RX8 "closeBlock" [(0, .ref 2)] rfl rfl rfl (by decide) (Nat.le_of_ble_eq_true rfl) (fun X ad hR => ?_)
  refine mj_toI [(2, r2), (3, r3), (5, r5), (15, r15), (16, r16), (17, r17)] (by intro q hq; simp only [List.mem_cons, List.not_mem_nil, or_false] at hq; rcases hq with rfl | rfl | rfl | rfl | rfl | rfl <;> assumption) ?_
  refine mtX8_closeBlock hR F I L r2 r3 r5 r15 r16 r17 o hf ?_
  obtain ⟨w0, w1, w2, w3⟩ := o
  refine mj_u2q ?_
  refine mj_u2q ?_
  refine mj_u2q ?_
  exact ⟨rfl, rfl, rfl⟩

-- X8_variableHere
def fnX8_variableHere (F : Nat) (r2 : Nat → Int32) (r3 : Nat → Int32) : Option ((Int32)) := (if (r2 4) = (1 : Int32) then (if ((r2 6) - (r2 5)) = (1 : Int32) then (if mj_ib (r2 5) 400 = true then (if (102 : Int32) < (r3 ((r2 5).toNatClampNeg)) then some (-1 : Int32) else (if mj_ib (r2 5) 400 = true then some ((r3 ((r2 5).toNatClampNeg)) - (97 : Int32)) else none)) else none) else some (-1 : Int32)) else some (-1 : Int32))
set_option maxRecDepth 100000 in
set_option maxHeartbeats 4000000 in
theorem mtX8_variableHere {X : mj_XT} {l : Launch} {G : mj_GT} {ad : Nat → Nat} {Qn : Option Value → mj_IT → mj_LT → Prop} (hR : mj_R X l G mj_P0 mj_S0 98 ad 0 0 Qn) (F : Nat) (I : mj_IT) (L : mj_LT) (r2 : Nat → Int32) (r3 : Nat → Int32) (o : ((Int32))) (hf : fnX8_variableHere F r2 r3 = some o) (hq : (fun ov => Qn (some (.int ov)) (mj_rows I [(2, r2), (3, r3)]) L) o) : mj_W X G RX8 "variableHere" cX8_variableHere 1 1 (some .int) mj_P0 mj_S0 98 ad 0 0 0 [(0, .ref 2)] [] (mj_rows I [(2, r2), (3, r3)]) L := by
  unfold fnX8_variableHere at hf
  refine mj_aload_n 0 dX8_variableHere_0 rfl ?_
  refine mj_getIv (v := (r2 4)) rfl fl_X8_63 rfl s0_2 a0_2 dX8_variableHere_1 ?_
  refine mj_iconst dX8_variableHere_4 kc_iconst_1 ?_
  refine mj_icmp_ne 50 dX8_variableHere_5 (by decide) (fun c1 => ?_) (fun c1 => ?_)
  · replace hf := mj_neg c1 hf
    refine mj_iconst dX8_variableHere_50 kc_iconst_m1 ?_
    obtain rfl := Option.some.inj hf
    have hZ := hq
    exact mj_iret hR ⟨Nat.le_refl _, Nat.le_refl _⟩ rfl rfl dX8_variableHere_51 hZ
  · replace hf := mj_pos c1 hf
    refine mj_aload_n 0 dX8_variableHere_8 rfl ?_
    refine mj_getIv (v := (r2 6)) rfl fl_X8_48 rfl s0_2 a0_2 dX8_variableHere_9 ?_
    refine mj_aload_n 0 dX8_variableHere_12 rfl ?_
    refine mj_getIv (v := (r2 5)) rfl fl_X8_79 rfl s0_2 a0_2 dX8_variableHere_13 ?_
    refine mj_isub dX8_variableHere_16 ?_
    refine mj_iconst dX8_variableHere_17 kc_iconst_1 ?_
    refine mj_icmp_ne 50 dX8_variableHere_18 (by decide) (fun c2 => ?_) (fun c2 => ?_)
    · replace hf := mj_neg c2 hf
      refine mj_iconst dX8_variableHere_50 kc_iconst_m1 ?_
      obtain rfl := Option.some.inj hf
      have hZ := hq
      exact mj_iret hR ⟨Nat.le_refl _, Nat.le_refl _⟩ rfl rfl dX8_variableHere_51 hZ
    · replace hf := mj_pos c2 hf
      refine mj_aload_n 0 dX8_variableHere_21 rfl ?_
      refine mj_getP p0_2_1 (by decide) fl_X8_9 rfl s0_2 a0_2 dX8_variableHere_22 ?_
      refine mj_aload_n 0 dX8_variableHere_25 rfl ?_
      refine mj_getIv (v := (r2 5)) rfl fl_X8_79 rfl s0_2 a0_2 dX8_variableHere_26 ?_
      obtain ⟨z3, hf⟩ := mj_ck hf
      refine mj_ialdv (x := r3) rfl s0_3 a0_3 z3 dX8_variableHere_29 ?_
      refine mj_bipush dX8_variableHere_30 kc_bipush_102 ?_
      refine mj_icmp_gt 50 dX8_variableHere_32 (by decide) (fun c4 => ?_) (fun c4 => ?_)
      · replace hf := mj_pos c4 hf
        refine mj_iconst dX8_variableHere_50 kc_iconst_m1 ?_
        obtain rfl := Option.some.inj hf
        have hZ := hq
        exact mj_iret hR ⟨Nat.le_refl _, Nat.le_refl _⟩ rfl rfl dX8_variableHere_51 hZ
      · replace hf := mj_neg c4 hf
        refine mj_aload_n 0 dX8_variableHere_35 rfl ?_
        refine mj_getP p0_2_1 (by decide) fl_X8_9 rfl s0_2 a0_2 dX8_variableHere_36 ?_
        refine mj_aload_n 0 dX8_variableHere_39 rfl ?_
        refine mj_getIv (v := (r2 5)) rfl fl_X8_79 rfl s0_2 a0_2 dX8_variableHere_40 ?_
        obtain ⟨z5, hf⟩ := mj_ck hf
        refine mj_ialdv (x := r3) rfl s0_3 a0_3 z5 dX8_variableHere_43 ?_
        refine mj_bipush dX8_variableHere_44 kc_bipush_97 ?_
        refine mj_isub dX8_variableHere_46 ?_
        refine mj_goto 51 dX8_variableHere_47 (by decide) ?_
        obtain rfl := Option.some.inj hf
        have hZ := hq
        exact mj_iret hR ⟨Nat.le_refl _, Nat.le_refl _⟩ rfl rfl dX8_variableHere_51 hZ
set_option maxRecDepth 100000 in
set_option maxHeartbeats 4000000 in
theorem cmX8_variableHere (l : Launch) (G : mj_GT) (F : Nat) (I : mj_IT) (L : mj_LT) (r2 : Nat → Int32) (r3 : Nat → Int32) (hr2 : I 2 = r2) (hr3 : I 3 = r3) (o : ((Int32))) (hf : fnX8_variableHere F r2 r3 = some o) : mj_M l G yX8_variableHere cX8_variableHere 1 1 (some .int) 0 0 mj_P0 mj_S0 98 [.ref 2] I L (mj_qd (some (.int o)) (mj_rows I [(2, r2), (3, r3)]) L) := by
  refine mj_in RX8 "variableHere" [(0, .ref 2)] rfl rfl rfl (by decide) (Nat.le_of_ble_eq_true rfl) (fun X ad hR => ?_)
  refine mj_toI [(2, r2), (3, r3)] (by intro q hq; simp only [List.mem_cons, List.not_mem_nil, or_false] at hq; rcases hq with rfl | rfl <;> assumption) ?_
  refine mtX8_variableHere hR F I L r2 r3 o hf ?_
  exact ⟨rfl, rfl, rfl⟩

-- X8_isWord_2_2001
def bdX8_isWord_2_2001_28 (F : Nat) (r2 : Nat → Int32) (r3 : Nat → Int32) (x2 : Int32) : Option (((Int32)) ⊕ (Unit ⊕ Unit)) := (if (4 : Int32) ≤ x2 then some (.inr (.inl ())) else (if mj_ib ((r2 5) + x2) 400 = true then (if mj_ib x2 4 = true then (if (r3 (((r2 5) + x2).toNatClampNeg)) = (mj_ch 0 x2.toNatClampNeg) then some (.inl (x2 + (1))) else some (.inr (.inr ()))) else none) else none))
def fnX8_isWord_2_2001 (F : Nat) (r2 : Nat → Int32) (r3 : Nat → Int32) : Option ((Int32)) := (if (r2 4) = (1 : Int32) then (if ((r2 6) - (r2 5)) = (4 : Int32) then (mj_it (bdX8_isWord_2_2001_28 F r2 r3) F (0 : Int32)).bind (Sum.elim (fun _ => some (1 : Int32)) (fun _ => some (0 : Int32))) else some (0 : Int32)) else some (0 : Int32))
set_option maxRecDepth 100000 in
set_option maxHeartbeats 4000000 in
theorem lpX8_isWord_2_2001_28 {X : mj_XT} {l : Launch} {G : mj_GT} {ad : Nat → Nat} {Qn : Option Value → mj_IT → mj_LT → Prop} (hR : mj_R X l G mj_P0 mj_S0 98 ad 0 0 Qn) (F : Nat) (I : mj_IT) (L : mj_LT) (r2 : Nat → Int32) (r3 : Nat → Int32) : ∀ (n : Nat) (s : ((Int32))) (e : (Unit ⊕ Unit)), mj_it (bdX8_isWord_2_2001_28 F r2 r3) n s = some e → (Sum.elim (fun _ => mj_W X G RX8 "isWord" cX8_isWord 3 5 (some .boolean) mj_P0 mj_S0 98 ad 0 0 63 [] [] (mj_rows I [(2, r2), (3, r3)]) L) (fun _ => mj_W X G RX8 "isWord" cX8_isWord 3 5 (some .boolean) mj_P0 mj_S0 98 ad 0 0 55 [] [] (mj_rows I [(2, r2), (3, r3)]) L)) e → (fun x2 => mj_W X G RX8 "isWord" cX8_isWord 3 5 (some .boolean) mj_P0 mj_S0 98 ad 0 0 28 [(0, .ref 2), (1, .ref 2001), (2, .int x2)] [] (mj_rows I [(2, r2), (3, r3)]) L) s := by
  refine mj_loop (fun x2 o hf hc hx => ?_)
  unfold bdX8_isWord_2_2001_28 at hf
  refine mj_iload_n 2 dX8_isWord_28 rfl ?_
  refine mj_aload_n 1 dX8_isWord_29 rfl ?_
  refine mj_callVs (i := 0) (I2 := (mj_rows I [(2, r2), (3, r3)])) (L2 := L) (s1 := [.int (4 : Int32), .int x2]) (st := [.int x2]) [] (cmJ0_length X.2.1 G 0 2001 rfl (by decide) _ _) rfl rfl cw_X8_85 rfl (by decide) (by decide) rfl rfl (Nat.le_of_ble_eq_true rfl) ⟨Nat.zero_le _, Nat.zero_le _⟩ dX8_isWord_30 rfl ?_
  refine mj_icmp_ge 63 dX8_isWord_33 (by decide) (fun c2 => ?_) (fun c2 => ?_)
  · replace hf := mj_pos c2 hf
    refine mj_sub [] [] rfl ?_
    obtain rfl := Option.some.inj hf
    have hZ := hx (.inl ()) rfl
    replace hZ := mj_el hZ
    exact hZ
  · replace hf := mj_neg c2 hf
    refine mj_aload_n 0 dX8_isWord_36 rfl ?_
    refine mj_getP p0_2_1 (by decide) fl_X8_9 rfl s0_2 a0_2 dX8_isWord_37 ?_
    refine mj_aload_n 0 dX8_isWord_40 rfl ?_
    refine mj_getIv (v := (r2 5)) rfl fl_X8_79 rfl s0_2 a0_2 dX8_isWord_41 ?_
    refine mj_iload_n 2 dX8_isWord_44 rfl ?_
    refine mj_iadd dX8_isWord_45 ?_
    obtain ⟨z3, hf⟩ := mj_ck hf
    refine mj_ialdv (x := r3) rfl s0_3 a0_3 z3 dX8_isWord_46 ?_
    refine mj_aload_n 1 dX8_isWord_47 rfl ?_
    refine mj_iload_n 2 dX8_isWord_48 rfl ?_
    obtain ⟨z4, hf⟩ := mj_ck hf
    refine mj_callVs (i := 0) (I2 := (mj_rows I [(2, r2), (3, r3)])) (L2 := L) (s1 := [.int (mj_ch 0 x2.toNatClampNeg), .int (r3 (((r2 5) + x2).toNatClampNeg))]) (st := [.int (r3 (((r2 5) + x2).toNatClampNeg))]) [.int x2] (cmJ0_charAt X.2.1 G 0 2001 rfl (by decide) x2 _ _ z4) rfl rfl cw_X8_90 rfl (by decide) (by decide) rfl rfl (Nat.le_of_ble_eq_true rfl) ⟨Nat.zero_le _, Nat.zero_le _⟩ dX8_isWord_49 rfl ?_
    refine mj_icmp_eq 57 dX8_isWord_52 (by decide) (fun c5 => ?_) (fun c5 => ?_)
    · replace hf := mj_pos c5 hf
      refine mj_iinc 2 [(2, .int (x2 + (1))), (0, .ref 2), (1, .ref 2001)] dX8_isWord_57 rfl (kz_1 _) (by decide) rfl ?_
      refine mj_goto 28 dX8_isWord_60 (by decide) ?_
      refine mj_sub [1, 2, 0] [(0, .ref 2), (1, .ref 2001), (2, .int (x2 + (1)))] rfl ?_
      obtain rfl := Option.some.inj hf
      have hZ := hc (x2 + (1)) rfl
      exact hZ
    · replace hf := mj_neg c5 hf
      refine mj_sub [] [] rfl ?_
      obtain rfl := Option.some.inj hf
      have hZ := hx (.inr ()) rfl
      replace hZ := mj_er hZ
      exact hZ
set_option maxRecDepth 100000 in
set_option maxHeartbeats 4000000 in
theorem mtX8_isWord_2_2001 {X : mj_XT} {l : Launch} {G : mj_GT} {ad : Nat → Nat} {Qn : Option Value → mj_IT → mj_LT → Prop} (hR : mj_R X l G mj_P0 mj_S0 98 ad 0 0 Qn) (F : Nat) (I : mj_IT) (L : mj_LT) (r2 : Nat → Int32) (r3 : Nat → Int32) (o : ((Int32))) (hf : fnX8_isWord_2_2001 F r2 r3 = some o) (hq : (fun ov => Qn (some (.int ov)) (mj_rows I [(2, r2), (3, r3)]) L) o) : mj_W X G RX8 "isWord" cX8_isWord 3 5 (some .boolean) mj_P0 mj_S0 98 ad 0 0 0 [(0, .ref 2), (1, .ref 2001)] [] (mj_rows I [(2, r2), (3, r3)]) L := by
  unfold fnX8_isWord_2_2001 at hf
  refine mj_aload_n 0 dX8_isWord_0 rfl ?_
  refine mj_getIv (v := (r2 4)) rfl fl_X8_63 rfl s0_2 a0_2 dX8_isWord_1 ?_
  refine mj_iconst dX8_isWord_4 kc_iconst_1 ?_
  refine mj_icmp_ne 24 dX8_isWord_5 (by decide) (fun c6 => ?_) (fun c6 => ?_)
  · replace hf := mj_neg c6 hf
    refine mj_iconst dX8_isWord_24 kc_iconst_0 ?_
    obtain rfl := Option.some.inj hf
    have hZ := hq
    exact mj_iret hR ⟨Nat.le_refl _, Nat.le_refl _⟩ rfl (by decide) dX8_isWord_25 hZ
  · replace hf := mj_pos c6 hf
    refine mj_aload_n 0 dX8_isWord_8 rfl ?_
    refine mj_getIv (v := (r2 6)) rfl fl_X8_48 rfl s0_2 a0_2 dX8_isWord_9 ?_
    refine mj_aload_n 0 dX8_isWord_12 rfl ?_
    refine mj_getIv (v := (r2 5)) rfl fl_X8_79 rfl s0_2 a0_2 dX8_isWord_13 ?_
    refine mj_isub dX8_isWord_16 ?_
    refine mj_aload_n 1 dX8_isWord_17 rfl ?_
    refine mj_callVs (i := 0) (I2 := (mj_rows I [(2, r2), (3, r3)])) (L2 := L) (s1 := [.int (4 : Int32), .int ((r2 6) - (r2 5))]) (st := [.int ((r2 6) - (r2 5))]) [] (cmJ0_length X.2.1 G 0 2001 rfl (by decide) _ _) rfl rfl cw_X8_85 rfl (by decide) (by decide) rfl rfl (Nat.le_of_ble_eq_true rfl) ⟨Nat.zero_le _, Nat.zero_le _⟩ dX8_isWord_18 rfl ?_
    refine mj_icmp_eq 26 dX8_isWord_21 (by decide) (fun c8 => ?_) (fun c8 => ?_)
    · replace hf := mj_pos c8 hf
      refine mj_iconst dX8_isWord_26 kc_iconst_0 ?_
      refine mj_istore_n [(2, .int (0 : Int32)), (0, .ref 2), (1, .ref 2001)] dX8_isWord_27 rfl (by decide) rfl ?_
      refine mj_sub [1, 2, 0] [(0, .ref 2), (1, .ref 2001), (2, .int (0 : Int32))] rfl ?_
      obtain ⟨e9, ho9, hf⟩ := mj_bd hf
      refine lpX8_isWord_2_2001_28 hR F I L r2 r3 F (0 : Int32) e9 ho9 ?_
      rcases e9 with e9 | e9
      · replace hf := mj_ele hf
        refine mj_elq (?_)
        refine mj_iconst dX8_isWord_63 kc_iconst_1 ?_
        obtain rfl := Option.some.inj hf
        have hZ := hq
        exact mj_iret hR ⟨Nat.le_refl _, Nat.le_refl _⟩ rfl (by decide) dX8_isWord_64 hZ
      · replace hf := mj_ere hf
        refine mj_erq (?_)
        refine mj_iconst dX8_isWord_55 kc_iconst_0 ?_
        obtain rfl := Option.some.inj hf
        have hZ := hq
        exact mj_iret hR ⟨Nat.le_refl _, Nat.le_refl _⟩ rfl (by decide) dX8_isWord_56 hZ
    · replace hf := mj_neg c8 hf
      refine mj_iconst dX8_isWord_24 kc_iconst_0 ?_
      obtain rfl := Option.some.inj hf
      have hZ := hq
      exact mj_iret hR ⟨Nat.le_refl _, Nat.le_refl _⟩ rfl (by decide) dX8_isWord_25 hZ
set_option maxRecDepth 100000 in
set_option maxHeartbeats 4000000 in
theorem cmX8_isWord_2_2001 (l : Launch) (G : mj_GT) (F : Nat) (I : mj_IT) (L : mj_LT) (r2 : Nat → Int32) (r3 : Nat → Int32) (hr2 : I 2 = r2) (hr3 : I 3 = r3) (o : ((Int32))) (hf : fnX8_isWord_2_2001 F r2 r3 = some o) : mj_M l G yX8_isWord cX8_isWord 3 5 (some .boolean) 0 0 mj_P0 mj_S0 98 [.ref 2, .ref 2001] I L (mj_qd (some (.int o)) (mj_rows I [(2, r2), (3, r3)]) L) := by
  refine mj_in RX8 "isWord" [(0, .ref 2), (1, .ref 2001)] rfl rfl rfl (by decide) (Nat.le_of_ble_eq_true rfl) (fun X ad hR => ?_)
  refine mj_toI [(2, r2), (3, r3)] (by intro q hq; simp only [List.mem_cons, List.not_mem_nil, or_false] at hq; rcases hq with rfl | rfl <;> assumption) ?_
  refine mtX8_isWord_2_2001 hR F I L r2 r3 o hf ?_
  exact ⟨rfl, rfl, rfl⟩

-- X8_isWord_2_2002
def bdX8_isWord_2_2002_28 (F : Nat) (r2 : Nat → Int32) (r3 : Nat → Int32) (x2 : Int32) : Option (((Int32)) ⊕ (Unit ⊕ Unit)) := (if (4 : Int32) ≤ x2 then some (.inr (.inl ())) else (if mj_ib ((r2 5) + x2) 400 = true then (if mj_ib x2 4 = true then (if (r3 (((r2 5) + x2).toNatClampNeg)) = (mj_ch 1 x2.toNatClampNeg) then some (.inl (x2 + (1))) else some (.inr (.inr ()))) else none) else none))
def fnX8_isWord_2_2002 (F : Nat) (r2 : Nat → Int32) (r3 : Nat → Int32) : Option ((Int32)) := (if (r2 4) = (1 : Int32) then (if ((r2 6) - (r2 5)) = (4 : Int32) then (mj_it (bdX8_isWord_2_2002_28 F r2 r3) F (0 : Int32)).bind (Sum.elim (fun _ => some (1 : Int32)) (fun _ => some (0 : Int32))) else some (0 : Int32)) else some (0 : Int32))
set_option maxRecDepth 100000 in
set_option maxHeartbeats 4000000 in
theorem lpX8_isWord_2_2002_28 {X : mj_XT} {l : Launch} {G : mj_GT} {ad : Nat → Nat} {Qn : Option Value → mj_IT → mj_LT → Prop} (hR : mj_R X l G mj_P0 mj_S0 98 ad 0 0 Qn) (F : Nat) (I : mj_IT) (L : mj_LT) (r2 : Nat → Int32) (r3 : Nat → Int32) : ∀ (n : Nat) (s : ((Int32))) (e : (Unit ⊕ Unit)), mj_it (bdX8_isWord_2_2002_28 F r2 r3) n s = some e → (Sum.elim (fun _ => mj_W X G RX8 "isWord" cX8_isWord 3 5 (some .boolean) mj_P0 mj_S0 98 ad 0 0 63 [] [] (mj_rows I [(2, r2), (3, r3)]) L) (fun _ => mj_W X G RX8 "isWord" cX8_isWord 3 5 (some .boolean) mj_P0 mj_S0 98 ad 0 0 55 [] [] (mj_rows I [(2, r2), (3, r3)]) L)) e → (fun x2 => mj_W X G RX8 "isWord" cX8_isWord 3 5 (some .boolean) mj_P0 mj_S0 98 ad 0 0 28 [(0, .ref 2), (1, .ref 2002), (2, .int x2)] [] (mj_rows I [(2, r2), (3, r3)]) L) s := by
  refine mj_loop (fun x2 o hf hc hx => ?_)
  unfold bdX8_isWord_2_2002_28 at hf
  refine mj_iload_n 2 dX8_isWord_28 rfl ?_
  refine mj_aload_n 1 dX8_isWord_29 rfl ?_
  refine mj_callVs (i := 1) (I2 := (mj_rows I [(2, r2), (3, r3)])) (L2 := L) (s1 := [.int (4 : Int32), .int x2]) (st := [.int x2]) [] (cmJ0_length X.2.1 G 1 2002 rfl (by decide) _ _) rfl rfl cw_X8_85 rfl (by decide) (by decide) rfl rfl (Nat.le_of_ble_eq_true rfl) ⟨Nat.zero_le _, Nat.zero_le _⟩ dX8_isWord_30 rfl ?_
  refine mj_icmp_ge 63 dX8_isWord_33 (by decide) (fun c2 => ?_) (fun c2 => ?_)
  · replace hf := mj_pos c2 hf
    refine mj_sub [] [] rfl ?_
    obtain rfl := Option.some.inj hf
    have hZ := hx (.inl ()) rfl
    replace hZ := mj_el hZ
    exact hZ
  · replace hf := mj_neg c2 hf
    refine mj_aload_n 0 dX8_isWord_36 rfl ?_
    refine mj_getP p0_2_1 (by decide) fl_X8_9 rfl s0_2 a0_2 dX8_isWord_37 ?_
    refine mj_aload_n 0 dX8_isWord_40 rfl ?_
    refine mj_getIv (v := (r2 5)) rfl fl_X8_79 rfl s0_2 a0_2 dX8_isWord_41 ?_
    refine mj_iload_n 2 dX8_isWord_44 rfl ?_
    refine mj_iadd dX8_isWord_45 ?_
    obtain ⟨z3, hf⟩ := mj_ck hf
    refine mj_ialdv (x := r3) rfl s0_3 a0_3 z3 dX8_isWord_46 ?_
    refine mj_aload_n 1 dX8_isWord_47 rfl ?_
    refine mj_iload_n 2 dX8_isWord_48 rfl ?_
    obtain ⟨z4, hf⟩ := mj_ck hf
    refine mj_callVs (i := 1) (I2 := (mj_rows I [(2, r2), (3, r3)])) (L2 := L) (s1 := [.int (mj_ch 1 x2.toNatClampNeg), .int (r3 (((r2 5) + x2).toNatClampNeg))]) (st := [.int (r3 (((r2 5) + x2).toNatClampNeg))]) [.int x2] (cmJ0_charAt X.2.1 G 1 2002 rfl (by decide) x2 _ _ z4) rfl rfl cw_X8_90 rfl (by decide) (by decide) rfl rfl (Nat.le_of_ble_eq_true rfl) ⟨Nat.zero_le _, Nat.zero_le _⟩ dX8_isWord_49 rfl ?_
    refine mj_icmp_eq 57 dX8_isWord_52 (by decide) (fun c5 => ?_) (fun c5 => ?_)
    · replace hf := mj_pos c5 hf
      refine mj_iinc 2 [(2, .int (x2 + (1))), (0, .ref 2), (1, .ref 2002)] dX8_isWord_57 rfl (kz_1 _) (by decide) rfl ?_
      refine mj_goto 28 dX8_isWord_60 (by decide) ?_
      refine mj_sub [1, 2, 0] [(0, .ref 2), (1, .ref 2002), (2, .int (x2 + (1)))] rfl ?_
      obtain rfl := Option.some.inj hf
      have hZ := hc (x2 + (1)) rfl
      exact hZ
    · replace hf := mj_neg c5 hf
      refine mj_sub [] [] rfl ?_
      obtain rfl := Option.some.inj hf
      have hZ := hx (.inr ()) rfl
      replace hZ := mj_er hZ
      exact hZ
set_option maxRecDepth 100000 in
set_option maxHeartbeats 4000000 in
theorem mtX8_isWord_2_2002 {X : mj_XT} {l : Launch} {G : mj_GT} {ad : Nat → Nat} {Qn : Option Value → mj_IT → mj_LT → Prop} (hR : mj_R X l G mj_P0 mj_S0 98 ad 0 0 Qn) (F : Nat) (I : mj_IT) (L : mj_LT) (r2 : Nat → Int32) (r3 : Nat → Int32) (o : ((Int32))) (hf : fnX8_isWord_2_2002 F r2 r3 = some o) (hq : (fun ov => Qn (some (.int ov)) (mj_rows I [(2, r2), (3, r3)]) L) o) : mj_W X G RX8 "isWord" cX8_isWord 3 5 (some .boolean) mj_P0 mj_S0 98 ad 0 0 0 [(0, .ref 2), (1, .ref 2002)] [] (mj_rows I [(2, r2), (3, r3)]) L := by
  unfold fnX8_isWord_2_2002 at hf
  refine mj_aload_n 0 dX8_isWord_0 rfl ?_
  refine mj_getIv (v := (r2 4)) rfl fl_X8_63 rfl s0_2 a0_2 dX8_isWord_1 ?_
  refine mj_iconst dX8_isWord_4 kc_iconst_1 ?_
  refine mj_icmp_ne 24 dX8_isWord_5 (by decide) (fun c6 => ?_) (fun c6 => ?_)
  · replace hf := mj_neg c6 hf
    refine mj_iconst dX8_isWord_24 kc_iconst_0 ?_
    obtain rfl := Option.some.inj hf
    have hZ := hq
    exact mj_iret hR ⟨Nat.le_refl _, Nat.le_refl _⟩ rfl (by decide) dX8_isWord_25 hZ
  · replace hf := mj_pos c6 hf
    refine mj_aload_n 0 dX8_isWord_8 rfl ?_
    refine mj_getIv (v := (r2 6)) rfl fl_X8_48 rfl s0_2 a0_2 dX8_isWord_9 ?_
    refine mj_aload_n 0 dX8_isWord_12 rfl ?_
    refine mj_getIv (v := (r2 5)) rfl fl_X8_79 rfl s0_2 a0_2 dX8_isWord_13 ?_
    refine mj_isub dX8_isWord_16 ?_
    refine mj_aload_n 1 dX8_isWord_17 rfl ?_
    refine mj_callVs (i := 1) (I2 := (mj_rows I [(2, r2), (3, r3)])) (L2 := L) (s1 := [.int (4 : Int32), .int ((r2 6) - (r2 5))]) (st := [.int ((r2 6) - (r2 5))]) [] (cmJ0_length X.2.1 G 1 2002 rfl (by decide) _ _) rfl rfl cw_X8_85 rfl (by decide) (by decide) rfl rfl (Nat.le_of_ble_eq_true rfl) ⟨Nat.zero_le _, Nat.zero_le _⟩ dX8_isWord_18 rfl ?_
    refine mj_icmp_eq 26 dX8_isWord_21 (by decide) (fun c8 => ?_) (fun c8 => ?_)
    · replace hf := mj_pos c8 hf
      refine mj_iconst dX8_isWord_26 kc_iconst_0 ?_
      refine mj_istore_n [(2, .int (0 : Int32)), (0, .ref 2), (1, .ref 2002)] dX8_isWord_27 rfl (by decide) rfl ?_
      refine mj_sub [1, 2, 0] [(0, .ref 2), (1, .ref 2002), (2, .int (0 : Int32))] rfl ?_
      obtain ⟨e9, ho9, hf⟩ := mj_bd hf
      refine lpX8_isWord_2_2002_28 hR F I L r2 r3 F (0 : Int32) e9 ho9 ?_
      rcases e9 with e9 | e9
      · replace hf := mj_ele hf
        refine mj_elq (?_)
        refine mj_iconst dX8_isWord_63 kc_iconst_1 ?_
        obtain rfl := Option.some.inj hf
        have hZ := hq
        exact mj_iret hR ⟨Nat.le_refl _, Nat.le_refl _⟩ rfl (by decide) dX8_isWord_64 hZ
      · replace hf := mj_ere hf
        refine mj_erq (?_)
        refine mj_iconst dX8_isWord_55 kc_iconst_0 ?_
        obtain rfl := Option.some.inj hf
        have hZ := hq
        exact mj_iret hR ⟨Nat.le_refl _, Nat.le_refl _⟩ rfl (by decide) dX8_isWord_56 hZ
    · replace hf := mj_neg c8 hf
      refine mj_iconst dX8_isWord_24 kc_iconst_0 ?_
      obtain rfl := Option.some.inj hf
      have hZ := hq
      exact mj_iret hR ⟨Nat.le_refl _, Nat.le_refl _⟩ rfl (by decide) dX8_isWord_25 hZ
set_option maxRecDepth 100000 in
set_option maxHeartbeats 4000000 in
theorem cmX8_isWord_2_2002 (l : Launch) (G : mj_GT) (F : Nat) (I : mj_IT) (L : mj_LT) (r2 : Nat → Int32) (r3 : Nat → Int32) (hr2 : I 2 = r2) (hr3 : I 3 = r3) (o : ((Int32))) (hf : fnX8_isWord_2_2002 F r2 r3 = some o) : mj_M l G yX8_isWord cX8_isWord 3 5 (some .boolean) 0 0 mj_P0 mj_S0 98 [.ref 2, .ref 2002] I L (mj_qd (some (.int o)) (mj_rows I [(2, r2), (3, r3)]) L) := by
  refine mj_in RX8 "isWord" [(0, .ref 2), (1, .ref 2002)] rfl rfl rfl (by decide) (Nat.le_of_ble_eq_true rfl) (fun X ad hR => ?_)
  refine mj_toI [(2, r2), (3, r3)] (by intro q hq; simp only [List.mem_cons, List.not_mem_nil, or_false] at hq; rcases hq with rfl | rfl <;> assumption) ?_
  refine mtX8_isWord_2_2002 hR F I L r2 r3 o hf ?_
  exact ⟨rfl, rfl, rfl⟩

-- X8_isWord_2_2003
def bdX8_isWord_2_2003_28 (F : Nat) (r2 : Nat → Int32) (r3 : Nat → Int32) (x2 : Int32) : Option (((Int32)) ⊕ (Unit ⊕ Unit)) := (if (2 : Int32) ≤ x2 then some (.inr (.inl ())) else (if mj_ib ((r2 5) + x2) 400 = true then (if mj_ib x2 2 = true then (if (r3 (((r2 5) + x2).toNatClampNeg)) = (mj_ch 2 x2.toNatClampNeg) then some (.inl (x2 + (1))) else some (.inr (.inr ()))) else none) else none))
def fnX8_isWord_2_2003 (F : Nat) (r2 : Nat → Int32) (r3 : Nat → Int32) : Option ((Int32)) := (if (r2 4) = (1 : Int32) then (if ((r2 6) - (r2 5)) = (2 : Int32) then (mj_it (bdX8_isWord_2_2003_28 F r2 r3) F (0 : Int32)).bind (Sum.elim (fun _ => some (1 : Int32)) (fun _ => some (0 : Int32))) else some (0 : Int32)) else some (0 : Int32))
set_option maxRecDepth 100000 in
set_option maxHeartbeats 4000000 in
theorem lpX8_isWord_2_2003_28 {X : mj_XT} {l : Launch} {G : mj_GT} {ad : Nat → Nat} {Qn : Option Value → mj_IT → mj_LT → Prop} (hR : mj_R X l G mj_P0 mj_S0 98 ad 0 0 Qn) (F : Nat) (I : mj_IT) (L : mj_LT) (r2 : Nat → Int32) (r3 : Nat → Int32) : ∀ (n : Nat) (s : ((Int32))) (e : (Unit ⊕ Unit)), mj_it (bdX8_isWord_2_2003_28 F r2 r3) n s = some e → (Sum.elim (fun _ => mj_W X G RX8 "isWord" cX8_isWord 3 5 (some .boolean) mj_P0 mj_S0 98 ad 0 0 63 [] [] (mj_rows I [(2, r2), (3, r3)]) L) (fun _ => mj_W X G RX8 "isWord" cX8_isWord 3 5 (some .boolean) mj_P0 mj_S0 98 ad 0 0 55 [] [] (mj_rows I [(2, r2), (3, r3)]) L)) e → (fun x2 => mj_W X G RX8 "isWord" cX8_isWord 3 5 (some .boolean) mj_P0 mj_S0 98 ad 0 0 28 [(0, .ref 2), (1, .ref 2003), (2, .int x2)] [] (mj_rows I [(2, r2), (3, r3)]) L) s := by
  refine mj_loop (fun x2 o hf hc hx => ?_)
  unfold bdX8_isWord_2_2003_28 at hf
  refine mj_iload_n 2 dX8_isWord_28 rfl ?_
  refine mj_aload_n 1 dX8_isWord_29 rfl ?_
  refine mj_callVs (i := 2) (I2 := (mj_rows I [(2, r2), (3, r3)])) (L2 := L) (s1 := [.int (2 : Int32), .int x2]) (st := [.int x2]) [] (cmJ0_length X.2.1 G 2 2003 rfl (by decide) _ _) rfl rfl cw_X8_85 rfl (by decide) (by decide) rfl rfl (Nat.le_of_ble_eq_true rfl) ⟨Nat.zero_le _, Nat.zero_le _⟩ dX8_isWord_30 rfl ?_
  refine mj_icmp_ge 63 dX8_isWord_33 (by decide) (fun c2 => ?_) (fun c2 => ?_)
  · replace hf := mj_pos c2 hf
    refine mj_sub [] [] rfl ?_
    obtain rfl := Option.some.inj hf
    have hZ := hx (.inl ()) rfl
    replace hZ := mj_el hZ
    exact hZ
  · replace hf := mj_neg c2 hf
    refine mj_aload_n 0 dX8_isWord_36 rfl ?_
    refine mj_getP p0_2_1 (by decide) fl_X8_9 rfl s0_2 a0_2 dX8_isWord_37 ?_
    refine mj_aload_n 0 dX8_isWord_40 rfl ?_
    refine mj_getIv (v := (r2 5)) rfl fl_X8_79 rfl s0_2 a0_2 dX8_isWord_41 ?_
    refine mj_iload_n 2 dX8_isWord_44 rfl ?_
    refine mj_iadd dX8_isWord_45 ?_
    obtain ⟨z3, hf⟩ := mj_ck hf
    refine mj_ialdv (x := r3) rfl s0_3 a0_3 z3 dX8_isWord_46 ?_
    refine mj_aload_n 1 dX8_isWord_47 rfl ?_
    refine mj_iload_n 2 dX8_isWord_48 rfl ?_
    obtain ⟨z4, hf⟩ := mj_ck hf
    refine mj_callVs (i := 2) (I2 := (mj_rows I [(2, r2), (3, r3)])) (L2 := L) (s1 := [.int (mj_ch 2 x2.toNatClampNeg), .int (r3 (((r2 5) + x2).toNatClampNeg))]) (st := [.int (r3 (((r2 5) + x2).toNatClampNeg))]) [.int x2] (cmJ0_charAt X.2.1 G 2 2003 rfl (by decide) x2 _ _ z4) rfl rfl cw_X8_90 rfl (by decide) (by decide) rfl rfl (Nat.le_of_ble_eq_true rfl) ⟨Nat.zero_le _, Nat.zero_le _⟩ dX8_isWord_49 rfl ?_
    refine mj_icmp_eq 57 dX8_isWord_52 (by decide) (fun c5 => ?_) (fun c5 => ?_)
    · replace hf := mj_pos c5 hf
      refine mj_iinc 2 [(2, .int (x2 + (1))), (0, .ref 2), (1, .ref 2003)] dX8_isWord_57 rfl (kz_1 _) (by decide) rfl ?_
      refine mj_goto 28 dX8_isWord_60 (by decide) ?_
      refine mj_sub [1, 2, 0] [(0, .ref 2), (1, .ref 2003), (2, .int (x2 + (1)))] rfl ?_
      obtain rfl := Option.some.inj hf
      have hZ := hc (x2 + (1)) rfl
      exact hZ
    · replace hf := mj_neg c5 hf
      refine mj_sub [] [] rfl ?_
      obtain rfl := Option.some.inj hf
      have hZ := hx (.inr ()) rfl
      replace hZ := mj_er hZ
      exact hZ
set_option maxRecDepth 100000 in
set_option maxHeartbeats 4000000 in
theorem mtX8_isWord_2_2003 {X : mj_XT} {l : Launch} {G : mj_GT} {ad : Nat → Nat} {Qn : Option Value → mj_IT → mj_LT → Prop} (hR : mj_R X l G mj_P0 mj_S0 98 ad 0 0 Qn) (F : Nat) (I : mj_IT) (L : mj_LT) (r2 : Nat → Int32) (r3 : Nat → Int32) (o : ((Int32))) (hf : fnX8_isWord_2_2003 F r2 r3 = some o) (hq : (fun ov => Qn (some (.int ov)) (mj_rows I [(2, r2), (3, r3)]) L) o) : mj_W X G RX8 "isWord" cX8_isWord 3 5 (some .boolean) mj_P0 mj_S0 98 ad 0 0 0 [(0, .ref 2), (1, .ref 2003)] [] (mj_rows I [(2, r2), (3, r3)]) L := by
  unfold fnX8_isWord_2_2003 at hf
  refine mj_aload_n 0 dX8_isWord_0 rfl ?_
  refine mj_getIv (v := (r2 4)) rfl fl_X8_63 rfl s0_2 a0_2 dX8_isWord_1 ?_
  refine mj_iconst dX8_isWord_4 kc_iconst_1 ?_
  refine mj_icmp_ne 24 dX8_isWord_5 (by decide) (fun c6 => ?_) (fun c6 => ?_)
  · replace hf := mj_neg c6 hf
    refine mj_iconst dX8_isWord_24 kc_iconst_0 ?_
    obtain rfl := Option.some.inj hf
    have hZ := hq
    exact mj_iret hR ⟨Nat.le_refl _, Nat.le_refl _⟩ rfl (by decide) dX8_isWord_25 hZ
  · replace hf := mj_pos c6 hf
    refine mj_aload_n 0 dX8_isWord_8 rfl ?_
    refine mj_getIv (v := (r2 6)) rfl fl_X8_48 rfl s0_2 a0_2 dX8_isWord_9 ?_
    refine mj_aload_n 0 dX8_isWord_12 rfl ?_
    refine mj_getIv (v := (r2 5)) rfl fl_X8_79 rfl s0_2 a0_2 dX8_isWord_13 ?_
    refine mj_isub dX8_isWord_16 ?_
    refine mj_aload_n 1 dX8_isWord_17 rfl ?_
    refine mj_callVs (i := 2) (I2 := (mj_rows I [(2, r2), (3, r3)])) (L2 := L) (s1 := [.int (2 : Int32), .int ((r2 6) - (r2 5))]) (st := [.int ((r2 6) - (r2 5))]) [] (cmJ0_length X.2.1 G 2 2003 rfl (by decide) _ _) rfl rfl cw_X8_85 rfl (by decide) (by decide) rfl rfl (Nat.le_of_ble_eq_true rfl) ⟨Nat.zero_le _, Nat.zero_le _⟩ dX8_isWord_18 rfl ?_
    refine mj_icmp_eq 26 dX8_isWord_21 (by decide) (fun c8 => ?_) (fun c8 => ?_)
    · replace hf := mj_pos c8 hf
      refine mj_iconst dX8_isWord_26 kc_iconst_0 ?_
      refine mj_istore_n [(2, .int (0 : Int32)), (0, .ref 2), (1, .ref 2003)] dX8_isWord_27 rfl (by decide) rfl ?_
      refine mj_sub [1, 2, 0] [(0, .ref 2), (1, .ref 2003), (2, .int (0 : Int32))] rfl ?_
      obtain ⟨e9, ho9, hf⟩ := mj_bd hf
      refine lpX8_isWord_2_2003_28 hR F I L r2 r3 F (0 : Int32) e9 ho9 ?_
      rcases e9 with e9 | e9
      · replace hf := mj_ele hf
        refine mj_elq (?_)
        refine mj_iconst dX8_isWord_63 kc_iconst_1 ?_
        obtain rfl := Option.some.inj hf
        have hZ := hq
        exact mj_iret hR ⟨Nat.le_refl _, Nat.le_refl _⟩ rfl (by decide) dX8_isWord_64 hZ
      · replace hf := mj_ere hf
        refine mj_erq (?_)
        refine mj_iconst dX8_isWord_55 kc_iconst_0 ?_
        obtain rfl := Option.some.inj hf
        have hZ := hq
        exact mj_iret hR ⟨Nat.le_refl _, Nat.le_refl _⟩ rfl (by decide) dX8_isWord_56 hZ
    · replace hf := mj_neg c8 hf
      refine mj_iconst dX8_isWord_24 kc_iconst_0 ?_
      obtain rfl := Option.some.inj hf
      have hZ := hq
      exact mj_iret hR ⟨Nat.le_refl _, Nat.le_refl _⟩ rfl (by decide) dX8_isWord_25 hZ
set_option maxRecDepth 100000 in
set_option maxHeartbeats 4000000 in
theorem cmX8_isWord_2_2003 (l : Launch) (G : mj_GT) (F : Nat) (I : mj_IT) (L : mj_LT) (r2 : Nat → Int32) (r3 : Nat → Int32) (hr2 : I 2 = r2) (hr3 : I 3 = r3) (o : ((Int32))) (hf : fnX8_isWord_2_2003 F r2 r3 = some o) : mj_M l G yX8_isWord cX8_isWord 3 5 (some .boolean) 0 0 mj_P0 mj_S0 98 [.ref 2, .ref 2003] I L (mj_qd (some (.int o)) (mj_rows I [(2, r2), (3, r3)]) L) := by
  refine mj_in RX8 "isWord" [(0, .ref 2), (1, .ref 2003)] rfl rfl rfl (by decide) (Nat.le_of_ble_eq_true rfl) (fun X ad hR => ?_)
  refine mj_toI [(2, r2), (3, r3)] (by intro q hq; simp only [List.mem_cons, List.not_mem_nil, or_false] at hq; rcases hq with rfl | rfl <;> assumption) ?_
  refine mtX8_isWord_2_2003 hR F I L r2 r3 o hf ?_
  exact ⟨rfl, rfl, rfl⟩

