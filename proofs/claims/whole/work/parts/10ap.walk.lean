-- X11_told
def bdX11_told_104 (F : Nat) (r71 : Nat → Int32) (r80 : Nat → Int32) (x2 : Int32) (x3 : Int32) : Option (((Int32) × (Int32)) ⊕ ((Int32))) := (if (r71 24) ≤ x3 then some (.inr x2) else (fnX11_isEnd F r71 r80 x3).bind (fun o2 => (if o2 = 0 then some (.inl ((x2 + (0 : Int32)), (x3 + (1)))) else some (.inl ((x2 + (1 : Int32)), (x3 + (1)))))))
def bdX11_told_138 (F : Nat) (r71 : Nat → Int32) (r86 : Nat → Int32) (x2 : Int32) (x3 : Int32) : Option (((Int32) × (Int32)) ⊕ ((Int32))) := (if (r71 24) ≤ x3 then some (.inr x2) else (if mj_ib x3 200 = true then (if (r86 x3.toNatClampNeg) = 0 then some (.inl ((x2 + (1 : Int32)), (x3 + (1)))) else some (.inl ((x2 + (0 : Int32)), (x3 + (1))))) else none))
def jnX11_told_48 (F : Nat) (r73 : Nat → Int32) (r75 : Nat → Int32) (r87 : Nat → Int32) (x1 : Int32) (r71 : Nat → Int32) (r72 : Nat → Int32) (r80 : Nat → Int32) (r81 : Nat → Int32) (r82 : Nat → Int32) (r83 : Nat → Int32) (r84 : Nat → Int32) (r85 : Nat → Int32) (r86 : Nat → Int32) : Option ((Int32) × (Nat → Int32) × (Nat → Int32) × (Nat → Int32) × (Nat → Int32) × (Nat → Int32) × (Nat → Int32) × (Nat → Int32) × (Nat → Int32) × (Nat → Int32)) := (if x1 = (0 : Int32) then some ((r71 4), r71, r72, r80, r81, r82, r83, r84, r85, r86) else (if x1 = (1 : Int32) then some ((r71 24), r71, r72, r80, r81, r82, r83, r84, r85, r86) else (if x1 = (2 : Int32) then (mj_it (mj_u2 (fun z0 z1 => bdX11_told_104 F r71 r80 z0 z1)) F ((0 : Int32), (0 : Int32))).bind (fun x2_8 => some (x2_8, r71, r72, r80, r81, r82, r83, r84, r85, r86)) else (if x1 = (3 : Int32) then (mj_it (mj_u2 (fun z0 z1 => bdX11_told_138 F r71 r86 z0 z1)) F ((0 : Int32), (0 : Int32))).bind (fun x2_9 => some (x2_9, r71, r72, r80, r81, r82, r83, r84, r85, r86)) else (if x1 = (4 : Int32) then some ((r71 25), r71, r72, r80, r81, r82, r83, r84, r85, r86) else (if x1 = (5 : Int32) then (if mj_ib ((r71 24) - (1 : Int32)) 200 = true then some ((r82 (((r71 24) - (1 : Int32)).toNatClampNeg)), r71, r72, r80, r81, r82, r83, r84, r85, r86) else none) else (if x1 = (6 : Int32) then some ((r71 9), r71, r72, r80, r81, r82, r83, r84, r85, r86) else some ((r71 17), r71, r72, r80, r81, r82, r83, r84, r85, r86))))))))
def fnX11_told (F : Nat) (r71 : Nat → Int32) (r72 : Nat → Int32) (r73 : Nat → Int32) (r75 : Nat → Int32) (r80 : Nat → Int32) (r81 : Nat → Int32) (r82 : Nat → Int32) (r83 : Nat → Int32) (r84 : Nat → Int32) (r85 : Nat → Int32) (r86 : Nat → Int32) (r87 : Nat → Int32) (x1 : Int32) : Option ((Int32) × (Nat → Int32) × (Nat → Int32) × (Nat → Int32) × (Nat → Int32) × (Nat → Int32) × (Nat → Int32) × (Nat → Int32) × (Nat → Int32) × (Nat → Int32)) := (fnX11_lies F x1.toInt64 (0 : Int64) (7 : Int64)).bind (fun o11 => (fnX11_isFine F (upd r71 0 (0 : Int32)) r72 o11 (1 : Int32) (1 : Int32)).bind (fun o12 => (if o12.1 = 0 then some ((0 : Int32), o12.2.1, o12.2.2, r80, r81, r82, r83, r84, r85, r86) else (fnX11_lays F o12.2.1 r73 r75 r80 r81 r82 r83 r84 r85 r86 r87).bind (fun o14 => (if x1 ≤ 0 then jnX11_told_48 F r73 r75 r87 x1 o14.1 o12.2.2 o14.2.1 o14.2.2.1 o14.2.2.2.1 o14.2.2.2.2.1 o14.2.2.2.2.2.1 o14.2.2.2.2.2.2.1 o14.2.2.2.2.2.2.2 else (if (6 : Int32) ≤ x1 then jnX11_told_48 F r73 r75 r87 x1 o14.1 o12.2.2 o14.2.1 o14.2.2.1 o14.2.2.2.1 o14.2.2.2.2.1 o14.2.2.2.2.2.1 o14.2.2.2.2.2.2.1 o14.2.2.2.2.2.2.2 else (if (o14.1 21) = 0 then jnX11_told_48 F r73 r75 r87 x1 o14.1 o12.2.2 o14.2.1 o14.2.2.1 o14.2.2.2.1 o14.2.2.2.2.1 o14.2.2.2.2.2.1 o14.2.2.2.2.2.2.1 o14.2.2.2.2.2.2.2 else some ((-1 : Int32), o14.1, o12.2.2, o14.2.1, o14.2.2.1, o14.2.2.2.1, o14.2.2.2.2.1, o14.2.2.2.2.2.1, o14.2.2.2.2.2.2.1, o14.2.2.2.2.2.2.2))))))))
set_option maxRecDepth 100000 in
set_option maxHeartbeats 4000000 in
theorem lpX11_told_104 {X : mj_XT} {l : Launch} {G : mj_GT} {ad : Nat → Nat} {Qn : Option Value → mj_IT → mj_LT → Prop} (hR : mj_R X l G mj_P0 mj_S0 98 ad 0 0 Qn) (F : Nat) (I : mj_IT) (L : mj_LT) (r71 : Nat → Int32) (r72 : Nat → Int32) (r73 : Nat → Int32) (r75 : Nat → Int32) (r80 : Nat → Int32) (r81 : Nat → Int32) (r82 : Nat → Int32) (r83 : Nat → Int32) (r84 : Nat → Int32) (r85 : Nat → Int32) (r86 : Nat → Int32) (r87 : Nat → Int32) : ∀ (n : Nat) (s : ((Int32) × (Int32))) (e : ((Int32))), mj_it (mj_u2 (fun z0 z1 => bdX11_told_104 F r71 r80 z0 z1)) n s = some e → (fun x2 => mj_W X G RX11 "told" cX11_told 4 7 (some .int) mj_P0 mj_S0 98 ad 0 0 134 [(2, .int x2)] [] (mj_rows I [(71, r71), (72, r72), (73, r73), (75, r75), (80, r80), (81, r81), (82, r82), (83, r83), (84, r84), (85, r85), (86, r86), (87, r87)]) L) e → (mj_u2 (fun x2 x3 => mj_W X G RX11 "told" cX11_told 4 7 (some .int) mj_P0 mj_S0 98 ad 0 0 104 [(0, .ref 71), (2, .int x2), (3, .int x3)] [] (mj_rows I [(71, r71), (72, r72), (73, r73), (75, r75), (80, r80), (81, r81), (82, r82), (83, r83), (84, r84), (85, r85), (86, r86), (87, r87)]) L)) s := by
  refine mj_loop (fun s o hf hc hx => ?_)
  obtain ⟨x2, x3⟩ := s
  replace hf := mj_u2e hf
  refine mj_u2q ?_
  unfold bdX11_told_104 at hf
  refine mj_iload_n 2 dX11_told_104 rfl ?_
  refine mj_aload_n 0 dX11_told_105 rfl ?_
  refine mj_getIv (v := (r71 24)) rfl fl_X11_227 rfl s0_71 a0_71 dX11_told_106 ?_
  refine mj_icmp_ge 134 dX11_told_109 (by decide) (fun c1 => ?_) (fun c1 => ?_)
  · replace hf := mj_pos c1 hf
    refine mj_sub [1] [(2, .int x2)] rfl ?_
    obtain rfl := Option.some.inj hf
    have hZ := hx x2 rfl
    exact hZ
  · replace hf := mj_neg c1 hf
    refine mj_iload_n 1 dX11_told_112 rfl ?_
    refine mj_aload_n 0 dX11_told_113 rfl ?_
    refine mj_iload_n 2 dX11_told_114 rfl ?_
    obtain ⟨o2, ho2, hf⟩ := mj_bd hf
    refine mj_callVd (I2 := (mj_rows I [(71, r71), (72, r72), (73, r73), (75, r75), (80, r80), (81, r81), (82, r82), (83, r83), (84, r84), (85, r85), (86, r86), (87, r87)])) (L2 := L) (s1 := [.int o2, .int x2]) (st := [.int x2]) [.int x3] (cmX11_isEnd X.2.1 G F x3 _ _ r71 r80 rfl rfl o2 ho2) (mj_rr rfl) rfl cw_X11_330 s0_71 a0_71 (by decide) rfl rfl (Nat.le_of_ble_eq_true rfl) ⟨Nat.zero_le _, Nat.zero_le _⟩ dX11_told_115 rfl ?_
    refine mj_if_eq 125 dX11_told_118 (by decide) (fun c3 => ?_) (fun c3 => ?_)
    · replace hf := mj_pos c3 hf
      refine mj_iconst dX11_told_125 kc_iconst_0 ?_
      refine mj_iadd dX11_told_126 ?_
      refine mj_istore_n [(2, .int (x2 + (0 : Int32))), (0, .ref 71), (3, .int x3)] dX11_told_127 rfl (by decide) rfl ?_
      refine mj_iinc 2 [(3, .int (x3 + (1))), (2, .int (x2 + (0 : Int32))), (0, .ref 71)] dX11_told_128 rfl (kz_1 _) (by decide) rfl ?_
      refine mj_goto 104 dX11_told_131 (by decide) ?_
      refine mj_sub [2, 1, 0] [(0, .ref 71), (2, .int (x2 + (0 : Int32))), (3, .int (x3 + (1)))] rfl ?_
      obtain rfl := Option.some.inj hf
      have hZ := hc ((x2 + (0 : Int32)), (x3 + (1))) rfl
      replace hZ := mj_u2p hZ
      exact hZ
    · replace hf := mj_neg c3 hf
      refine mj_iconst dX11_told_121 kc_iconst_1 ?_
      refine mj_goto 126 dX11_told_122 (by decide) ?_
      refine mj_iadd dX11_told_126 ?_
      refine mj_istore_n [(2, .int (x2 + (1 : Int32))), (0, .ref 71), (3, .int x3)] dX11_told_127 rfl (by decide) rfl ?_
      refine mj_iinc 2 [(3, .int (x3 + (1))), (2, .int (x2 + (1 : Int32))), (0, .ref 71)] dX11_told_128 rfl (kz_1 _) (by decide) rfl ?_
      refine mj_goto 104 dX11_told_131 (by decide) ?_
      refine mj_sub [2, 1, 0] [(0, .ref 71), (2, .int (x2 + (1 : Int32))), (3, .int (x3 + (1)))] rfl ?_
      obtain rfl := Option.some.inj hf
      have hZ := hc ((x2 + (1 : Int32)), (x3 + (1))) rfl
      replace hZ := mj_u2p hZ
      exact hZ
set_option maxRecDepth 100000 in
set_option maxHeartbeats 4000000 in
theorem lpX11_told_138 {X : mj_XT} {l : Launch} {G : mj_GT} {ad : Nat → Nat} {Qn : Option Value → mj_IT → mj_LT → Prop} (hR : mj_R X l G mj_P0 mj_S0 98 ad 0 0 Qn) (F : Nat) (I : mj_IT) (L : mj_LT) (r71 : Nat → Int32) (r72 : Nat → Int32) (r73 : Nat → Int32) (r75 : Nat → Int32) (r80 : Nat → Int32) (r81 : Nat → Int32) (r82 : Nat → Int32) (r83 : Nat → Int32) (r84 : Nat → Int32) (r85 : Nat → Int32) (r86 : Nat → Int32) (r87 : Nat → Int32) : ∀ (n : Nat) (s : ((Int32) × (Int32))) (e : ((Int32))), mj_it (mj_u2 (fun z0 z1 => bdX11_told_138 F r71 r86 z0 z1)) n s = some e → (fun x2 => mj_W X G RX11 "told" cX11_told 4 7 (some .int) mj_P0 mj_S0 98 ad 0 0 169 [(2, .int x2)] [] (mj_rows I [(71, r71), (72, r72), (73, r73), (75, r75), (80, r80), (81, r81), (82, r82), (83, r83), (84, r84), (85, r85), (86, r86), (87, r87)]) L) e → (mj_u2 (fun x2 x3 => mj_W X G RX11 "told" cX11_told 4 7 (some .int) mj_P0 mj_S0 98 ad 0 0 138 [(0, .ref 71), (2, .int x2), (3, .int x3)] [] (mj_rows I [(71, r71), (72, r72), (73, r73), (75, r75), (80, r80), (81, r81), (82, r82), (83, r83), (84, r84), (85, r85), (86, r86), (87, r87)]) L)) s := by
  refine mj_loop (fun s o hf hc hx => ?_)
  obtain ⟨x2, x3⟩ := s
  replace hf := mj_u2e hf
  refine mj_u2q ?_
  unfold bdX11_told_138 at hf
  refine mj_iload_n 2 dX11_told_138 rfl ?_
  refine mj_aload_n 0 dX11_told_139 rfl ?_
  refine mj_getIv (v := (r71 24)) rfl fl_X11_227 rfl s0_71 a0_71 dX11_told_140 ?_
  refine mj_icmp_ge 169 dX11_told_143 (by decide) (fun c4 => ?_) (fun c4 => ?_)
  · replace hf := mj_pos c4 hf
    refine mj_sub [1] [(2, .int x2)] rfl ?_
    obtain rfl := Option.some.inj hf
    have hZ := hx x2 rfl
    exact hZ
  · replace hf := mj_neg c4 hf
    refine mj_iload_n 1 dX11_told_146 rfl ?_
    refine mj_aload_n 0 dX11_told_147 rfl ?_
    refine mj_getP p0_71_33 (by decide) fl_X11_275 rfl s0_71 a0_71 dX11_told_148 ?_
    refine mj_iload_n 2 dX11_told_151 rfl ?_
    obtain ⟨z5, hf⟩ := mj_ck hf
    refine mj_zaldv (x := r86) rfl s0_86 a0_86 z5 dX11_told_152 ?_
    refine mj_if_eq 160 dX11_told_153 (by decide) (fun c6 => ?_) (fun c6 => ?_)
    · replace hf := mj_pos c6 hf
      refine mj_iconst dX11_told_160 kc_iconst_1 ?_
      refine mj_iadd dX11_told_161 ?_
      refine mj_istore_n [(2, .int (x2 + (1 : Int32))), (0, .ref 71), (3, .int x3)] dX11_told_162 rfl (by decide) rfl ?_
      refine mj_iinc 2 [(3, .int (x3 + (1))), (2, .int (x2 + (1 : Int32))), (0, .ref 71)] dX11_told_163 rfl (kz_1 _) (by decide) rfl ?_
      refine mj_goto 138 dX11_told_166 (by decide) ?_
      refine mj_sub [2, 1, 0] [(0, .ref 71), (2, .int (x2 + (1 : Int32))), (3, .int (x3 + (1)))] rfl ?_
      obtain rfl := Option.some.inj hf
      have hZ := hc ((x2 + (1 : Int32)), (x3 + (1))) rfl
      replace hZ := mj_u2p hZ
      exact hZ
    · replace hf := mj_neg c6 hf
      refine mj_iconst dX11_told_156 kc_iconst_0 ?_
      refine mj_goto 161 dX11_told_157 (by decide) ?_
      refine mj_iadd dX11_told_161 ?_
      refine mj_istore_n [(2, .int (x2 + (0 : Int32))), (0, .ref 71), (3, .int x3)] dX11_told_162 rfl (by decide) rfl ?_
      refine mj_iinc 2 [(3, .int (x3 + (1))), (2, .int (x2 + (0 : Int32))), (0, .ref 71)] dX11_told_163 rfl (kz_1 _) (by decide) rfl ?_
      refine mj_goto 138 dX11_told_166 (by decide) ?_
      refine mj_sub [2, 1, 0] [(0, .ref 71), (2, .int (x2 + (0 : Int32))), (3, .int (x3 + (1)))] rfl ?_
      obtain rfl := Option.some.inj hf
      have hZ := hc ((x2 + (0 : Int32)), (x3 + (1))) rfl
      replace hZ := mj_u2p hZ
      exact hZ
set_option maxRecDepth 100000 in
set_option maxHeartbeats 4000000 in
theorem jtX11_told_48 {X : mj_XT} {l : Launch} {G : mj_GT} {ad : Nat → Nat} {Qn : Option Value → mj_IT → mj_LT → Prop} (hR : mj_R X l G mj_P0 mj_S0 98 ad 0 0 Qn) (F : Nat) (I : mj_IT) (L : mj_LT) (r71 : Nat → Int32) (r72 : Nat → Int32) (r73 : Nat → Int32) (r75 : Nat → Int32) (r80 : Nat → Int32) (r81 : Nat → Int32) (r82 : Nat → Int32) (r83 : Nat → Int32) (r84 : Nat → Int32) (r85 : Nat → Int32) (r86 : Nat → Int32) (r87 : Nat → Int32) (x1 : Int32) (o : ((Int32) × (Nat → Int32) × (Nat → Int32) × (Nat → Int32) × (Nat → Int32) × (Nat → Int32) × (Nat → Int32) × (Nat → Int32) × (Nat → Int32) × (Nat → Int32))) (hf : jnX11_told_48 F r73 r75 r87 x1 r71 r72 r80 r81 r82 r83 r84 r85 r86 = some o) (hq : (mj_u2 (fun ov => (mj_u2 (fun r71 => (mj_u2 (fun r72 => (mj_u2 (fun r80 => (mj_u2 (fun r81 => (mj_u2 (fun r82 => (mj_u2 (fun r83 => (mj_u2 (fun r84 => (mj_u2 (fun r85 r86 => Qn (some (.int ov)) (mj_rows I [(71, r71), (72, r72), (73, r73), (75, r75), (80, r80), (81, r81), (82, r82), (83, r83), (84, r84), (85, r85), (86, r86), (87, r87)]) L)))))))))))))))))) o) : mj_W X G RX11 "told" cX11_told 4 7 (some .int) mj_P0 mj_S0 98 ad 0 0 48 [(0, .ref 71), (1, .int x1)] [] (mj_rows I [(71, r71), (72, r72), (73, r73), (75, r75), (80, r80), (81, r81), (82, r82), (83, r83), (84, r84), (85, r85), (86, r86), (87, r87)]) L := by
  unfold jnX11_told_48 at hf
  refine mj_iconst dX11_told_48 kc_iconst_0 ?_
  refine mj_istore_n [(2, .int (0 : Int32)), (0, .ref 71), (1, .int x1)] dX11_told_49 rfl (by decide) rfl ?_
  refine mj_iload_n 2 dX11_told_50 rfl ?_
  by_cases c7_0 : x1 = (0 : Int32)
  · replace hf := mj_pos c7_0 hf
    refine mj_tsI (off := 41) 92 c7_0 dX11_told_51 (by decide) (by decide) (by decide) (by decide) ?_
    refine mj_aload_n 1 dX11_told_92 rfl ?_
    refine mj_getIv (v := (r71 4)) rfl fl_X11_172 rfl s0_71 a0_71 dX11_told_93 ?_
    obtain rfl := Option.some.inj hf
    have hZ := hq
    replace hZ := mj_u2p hZ
    replace hZ := mj_u2p hZ
    replace hZ := mj_u2p hZ
    replace hZ := mj_u2p hZ
    replace hZ := mj_u2p hZ
    replace hZ := mj_u2p hZ
    replace hZ := mj_u2p hZ
    replace hZ := mj_u2p hZ
    replace hZ := mj_u2p hZ
    exact mj_iret hR ⟨Nat.le_refl _, Nat.le_refl _⟩ rfl rfl dX11_told_96 hZ
  · replace hf := mj_neg c7_0 hf
    by_cases c7_1 : x1 = (1 : Int32)
    · replace hf := mj_pos c7_1 hf
      refine mj_tsI (off := 46) 97 c7_1 dX11_told_51 (by decide) (by decide) (by decide) (by decide) ?_
      refine mj_aload_n 1 dX11_told_97 rfl ?_
      refine mj_getIv (v := (r71 24)) rfl fl_X11_227 rfl s0_71 a0_71 dX11_told_98 ?_
      obtain rfl := Option.some.inj hf
      have hZ := hq
      replace hZ := mj_u2p hZ
      replace hZ := mj_u2p hZ
      replace hZ := mj_u2p hZ
      replace hZ := mj_u2p hZ
      replace hZ := mj_u2p hZ
      replace hZ := mj_u2p hZ
      replace hZ := mj_u2p hZ
      replace hZ := mj_u2p hZ
      replace hZ := mj_u2p hZ
      exact mj_iret hR ⟨Nat.le_refl _, Nat.le_refl _⟩ rfl rfl dX11_told_101 hZ
    · replace hf := mj_neg c7_1 hf
      by_cases c7_2 : x1 = (2 : Int32)
      · replace hf := mj_pos c7_2 hf
        refine mj_tsI (off := 51) 102 c7_2 dX11_told_51 (by decide) (by decide) (by decide) (by decide) ?_
        refine mj_iconst dX11_told_102 kc_iconst_0 ?_
        refine mj_istore_n [(3, .int (0 : Int32)), (2, .int (0 : Int32)), (0, .ref 71), (1, .int x1)] dX11_told_103 rfl (by decide) rfl ?_
        refine mj_sub [2, 1, 0] [(0, .ref 71), (2, .int (0 : Int32)), (3, .int (0 : Int32))] rfl ?_
        obtain ⟨x2_8, ho8, hf⟩ := mj_bd hf
        refine lpX11_told_104 hR F I L r71 r72 r73 r75 r80 r81 r82 r83 r84 r85 r86 r87 F ((0 : Int32), (0 : Int32)) x2_8 ho8 ?_
        refine ?_
        refine mj_iload_n 0 dX11_told_134 rfl ?_
        obtain rfl := Option.some.inj hf
        have hZ := hq
        replace hZ := mj_u2p hZ
        replace hZ := mj_u2p hZ
        replace hZ := mj_u2p hZ
        replace hZ := mj_u2p hZ
        replace hZ := mj_u2p hZ
        replace hZ := mj_u2p hZ
        replace hZ := mj_u2p hZ
        replace hZ := mj_u2p hZ
        replace hZ := mj_u2p hZ
        exact mj_iret hR ⟨Nat.le_refl _, Nat.le_refl _⟩ rfl rfl dX11_told_135 hZ
      · replace hf := mj_neg c7_2 hf
        by_cases c7_3 : x1 = (3 : Int32)
        · replace hf := mj_pos c7_3 hf
          refine mj_tsI (off := 85) 136 c7_3 dX11_told_51 (by decide) (by decide) (by decide) (by decide) ?_
          refine mj_iconst dX11_told_136 kc_iconst_0 ?_
          refine mj_istore_n [(3, .int (0 : Int32)), (2, .int (0 : Int32)), (0, .ref 71), (1, .int x1)] dX11_told_137 rfl (by decide) rfl ?_
          refine mj_sub [2, 1, 0] [(0, .ref 71), (2, .int (0 : Int32)), (3, .int (0 : Int32))] rfl ?_
          obtain ⟨x2_9, ho9, hf⟩ := mj_bd hf
          refine lpX11_told_138 hR F I L r71 r72 r73 r75 r80 r81 r82 r83 r84 r85 r86 r87 F ((0 : Int32), (0 : Int32)) x2_9 ho9 ?_
          refine ?_
          refine mj_iload_n 0 dX11_told_169 rfl ?_
          obtain rfl := Option.some.inj hf
          have hZ := hq
          replace hZ := mj_u2p hZ
          replace hZ := mj_u2p hZ
          replace hZ := mj_u2p hZ
          replace hZ := mj_u2p hZ
          replace hZ := mj_u2p hZ
          replace hZ := mj_u2p hZ
          replace hZ := mj_u2p hZ
          replace hZ := mj_u2p hZ
          replace hZ := mj_u2p hZ
          exact mj_iret hR ⟨Nat.le_refl _, Nat.le_refl _⟩ rfl rfl dX11_told_170 hZ
        · replace hf := mj_neg c7_3 hf
          by_cases c7_4 : x1 = (4 : Int32)
          · replace hf := mj_pos c7_4 hf
            refine mj_tsI (off := 120) 171 c7_4 dX11_told_51 (by decide) (by decide) (by decide) (by decide) ?_
            refine mj_aload_n 1 dX11_told_171 rfl ?_
            refine mj_getIv (v := (r71 25)) rfl fl_X11_257 rfl s0_71 a0_71 dX11_told_172 ?_
            obtain rfl := Option.some.inj hf
            have hZ := hq
            replace hZ := mj_u2p hZ
            replace hZ := mj_u2p hZ
            replace hZ := mj_u2p hZ
            replace hZ := mj_u2p hZ
            replace hZ := mj_u2p hZ
            replace hZ := mj_u2p hZ
            replace hZ := mj_u2p hZ
            replace hZ := mj_u2p hZ
            replace hZ := mj_u2p hZ
            exact mj_iret hR ⟨Nat.le_refl _, Nat.le_refl _⟩ rfl rfl dX11_told_175 hZ
          · replace hf := mj_neg c7_4 hf
            by_cases c7_5 : x1 = (5 : Int32)
            · replace hf := mj_pos c7_5 hf
              refine mj_tsI (off := 125) 176 c7_5 dX11_told_51 (by decide) (by decide) (by decide) (by decide) ?_
              refine mj_aload_n 1 dX11_told_176 rfl ?_
              refine mj_getP p0_71_29 (by decide) fl_X11_239 rfl s0_71 a0_71 dX11_told_177 ?_
              refine mj_aload_n 1 dX11_told_180 rfl ?_
              refine mj_getIv (v := (r71 24)) rfl fl_X11_227 rfl s0_71 a0_71 dX11_told_181 ?_
              refine mj_iconst dX11_told_184 kc_iconst_1 ?_
              refine mj_isub dX11_told_185 ?_
              obtain ⟨z10, hf⟩ := mj_ck hf
              refine mj_ialdv (x := r82) rfl s0_82 a0_82 z10 dX11_told_186 ?_
              obtain rfl := Option.some.inj hf
              have hZ := hq
              replace hZ := mj_u2p hZ
              replace hZ := mj_u2p hZ
              replace hZ := mj_u2p hZ
              replace hZ := mj_u2p hZ
              replace hZ := mj_u2p hZ
              replace hZ := mj_u2p hZ
              replace hZ := mj_u2p hZ
              replace hZ := mj_u2p hZ
              replace hZ := mj_u2p hZ
              exact mj_iret hR ⟨Nat.le_refl _, Nat.le_refl _⟩ rfl rfl dX11_told_187 hZ
            · replace hf := mj_neg c7_5 hf
              by_cases c7_6 : x1 = (6 : Int32)
              · replace hf := mj_pos c7_6 hf
                refine mj_tsI (off := 137) 188 c7_6 dX11_told_51 (by decide) (by decide) (by decide) (by decide) ?_
                refine mj_aload_n 1 dX11_told_188 rfl ?_
                refine mj_getIv (v := (r71 9)) rfl fl_X11_14 rfl s0_71 a0_71 dX11_told_189 ?_
                obtain rfl := Option.some.inj hf
                have hZ := hq
                replace hZ := mj_u2p hZ
                replace hZ := mj_u2p hZ
                replace hZ := mj_u2p hZ
                replace hZ := mj_u2p hZ
                replace hZ := mj_u2p hZ
                replace hZ := mj_u2p hZ
                replace hZ := mj_u2p hZ
                replace hZ := mj_u2p hZ
                replace hZ := mj_u2p hZ
                exact mj_iret hR ⟨Nat.le_refl _, Nat.le_refl _⟩ rfl rfl dX11_told_192 hZ
              · replace hf := mj_neg c7_6 hf
                refine mj_tsO 193 (ts_0_6 _ c7_0 c7_1 c7_2 c7_3 c7_4 c7_5 c7_6) dX11_told_51 (by decide) ?_
                refine mj_aload_n 1 dX11_told_193 rfl ?_
                refine mj_getIv (v := (r71 17)) rfl fl_X11_181 rfl s0_71 a0_71 dX11_told_194 ?_
                obtain rfl := Option.some.inj hf
                have hZ := hq
                replace hZ := mj_u2p hZ
                replace hZ := mj_u2p hZ
                replace hZ := mj_u2p hZ
                replace hZ := mj_u2p hZ
                replace hZ := mj_u2p hZ
                replace hZ := mj_u2p hZ
                replace hZ := mj_u2p hZ
                replace hZ := mj_u2p hZ
                replace hZ := mj_u2p hZ
                exact mj_iret hR ⟨Nat.le_refl _, Nat.le_refl _⟩ rfl rfl dX11_told_197 hZ
set_option maxRecDepth 100000 in
set_option maxHeartbeats 4000000 in
theorem mtX11_told {X : mj_XT} {l : Launch} {G : mj_GT} {ad : Nat → Nat} {Qn : Option Value → mj_IT → mj_LT → Prop} (hR : mj_R X l G mj_P0 mj_S0 98 ad 0 0 Qn) (F : Nat) (I : mj_IT) (L : mj_LT) (r71 : Nat → Int32) (r72 : Nat → Int32) (r73 : Nat → Int32) (r75 : Nat → Int32) (r80 : Nat → Int32) (r81 : Nat → Int32) (r82 : Nat → Int32) (r83 : Nat → Int32) (r84 : Nat → Int32) (r85 : Nat → Int32) (r86 : Nat → Int32) (r87 : Nat → Int32) (x1 : Int32) (o : ((Int32) × (Nat → Int32) × (Nat → Int32) × (Nat → Int32) × (Nat → Int32) × (Nat → Int32) × (Nat → Int32) × (Nat → Int32) × (Nat → Int32) × (Nat → Int32))) (hf : fnX11_told F r71 r72 r73 r75 r80 r81 r82 r83 r84 r85 r86 r87 x1 = some o) (hq : (mj_u2 (fun ov => (mj_u2 (fun r71 => (mj_u2 (fun r72 => (mj_u2 (fun r80 => (mj_u2 (fun r81 => (mj_u2 (fun r82 => (mj_u2 (fun r83 => (mj_u2 (fun r84 => (mj_u2 (fun r85 r86 => Qn (some (.int ov)) (mj_rows I [(71, r71), (72, r72), (73, r73), (75, r75), (80, r80), (81, r81), (82, r82), (83, r83), (84, r84), (85, r85), (86, r86), (87, r87)]) L)))))))))))))))))) o) : mj_W X G RX11 "told" cX11_told 4 7 (some .int) mj_P0 mj_S0 98 ad 0 0 0 [(0, .ref 71), (1, .int x1)] [] (mj_rows I [(71, r71), (72, r72), (73, r73), (75, r75), (80, r80), (81, r81), (82, r82), (83, r83), (84, r84), (85, r85), (86, r86), (87, r87)]) L := by
  unfold fnX11_told at hf
  refine mj_aload_n 0 dX11_told_0 rfl ?_
  refine mj_iconst dX11_told_1 kc_iconst_0 ?_
  refine mj_putIr (ci := 9) (j := 0) [(71, (upd r71 0 (0 : Int32))), (72, r72), (73, r73), (75, r75), (80, r80), (81, r81), (82, r82), (83, r83), (84, r84), (85, r85), (86, r86), (87, r87)] rfl ⟨rfl, rfl⟩ fl_X11_1 rfl rfl s0_71 a0_71 dX11_told_2 ?_
  refine mj_aload_n 0 dX11_told_5 rfl ?_
  refine mj_iload_n 1 dX11_told_6 rfl ?_
  refine mj_i2l dX11_told_7 ?_
  refine mj_lconst (v := 0) dX11_told_8 (by decide) ?_
  refine mj_ldc2 kk_X11_328 dX11_told_9 ?_
  obtain ⟨o11, ho11, hf⟩ := mj_bd hf
  refine mj_callSd (I2 := (mj_rows I [(71, (upd r71 0 (0 : Int32))), (72, r72), (73, r73), (75, r75), (80, r80), (81, r81), (82, r82), (83, r83), (84, r84), (85, r85), (86, r86), (87, r87)])) (L2 := L) (s1 := [.int o11, .ref 71]) (st := [.ref 71]) [.long x1.toInt64, .long (0 : Int64), .long (7 : Int64)] (cmX11_lies X.2.1 G F x1.toInt64 (0 : Int64) (7 : Int64) _ _   o11 ho11) rfl rfl cw_X11_157 (by decide) rfl rfl (Nat.le_of_ble_eq_true rfl) ⟨Nat.zero_le _, Nat.zero_le _⟩ dX11_told_12 rfl ?_
  refine mj_iconst dX11_told_15 kc_iconst_1 ?_
  refine mj_iconst dX11_told_16 kc_iconst_1 ?_
  obtain ⟨o12, ho12, hf⟩ := mj_bd hf
  refine mj_callVd (I2 := (mj_rows I [(71, o12.2.1), (72, o12.2.2), (73, r73), (75, r75), (80, r80), (81, r81), (82, r82), (83, r83), (84, r84), (85, r85), (86, r86), (87, r87)])) (L2 := L) (s1 := [.int o12.1]) (st := []) [.int o11, .int (1 : Int32), .int (1 : Int32)] (cmX11_isFine X.2.1 G F o11 (1 : Int32) (1 : Int32) _ _ (upd r71 0 (0 : Int32)) r72 rfl rfl o12 ho12) (mj_rr rfl) rfl cw_X11_161 s0_71 a0_71 (by decide) rfl rfl (Nat.le_of_ble_eq_true rfl) ⟨Nat.zero_le _, Nat.zero_le _⟩ dX11_told_17 rfl ?_
  refine mj_if_ne 25 dX11_told_20 (by decide) (fun c13 => ?_) (fun c13 => ?_)
  · replace hf := mj_neg c13 hf
    refine mj_aload_n 0 dX11_told_25 rfl ?_
    obtain ⟨o14, ho14, hf⟩ := mj_bd hf
    refine mj_callVd (I2 := (mj_rows I [(71, o14.1), (72, o12.2.2), (73, r73), (75, r75), (80, o14.2.1), (81, o14.2.2.1), (82, o14.2.2.2.1), (83, o14.2.2.2.2.1), (84, o14.2.2.2.2.2.1), (85, o14.2.2.2.2.2.2.1), (86, o14.2.2.2.2.2.2.2), (87, r87)])) (L2 := L) (s1 := []) (st := []) [] (cmX11_lays X.2.1 G F  _ _ o12.2.1 r73 r75 r80 r81 r82 r83 r84 r85 r86 r87 rfl rfl rfl rfl rfl rfl rfl rfl rfl rfl rfl o14 ho14) (mj_rr rfl) rfl cw_X11_325 s0_71 a0_71 (by decide) rfl rfl (Nat.le_of_ble_eq_true rfl) ⟨Nat.zero_le _, Nat.zero_le _⟩ dX11_told_26 rfl ?_
    refine mj_iload_n 1 dX11_told_29 rfl ?_
    refine mj_if_le 48 dX11_told_30 (by decide) (fun c15 => ?_) (fun c15 => ?_)
    · replace hf := mj_pos c15 hf
      exact jtX11_told_48 hR F I L o14.1 o12.2.2 r73 r75 o14.2.1 o14.2.2.1 o14.2.2.2.1 o14.2.2.2.2.1 o14.2.2.2.2.2.1 o14.2.2.2.2.2.2.1 o14.2.2.2.2.2.2.2 r87 x1 o hf hq
    · replace hf := mj_neg c15 hf
      refine mj_iload_n 1 dX11_told_33 rfl ?_
      refine mj_bipush dX11_told_34 kc_bipush_6 ?_
      refine mj_icmp_ge 48 dX11_told_36 (by decide) (fun c16 => ?_) (fun c16 => ?_)
      · replace hf := mj_pos c16 hf
        exact jtX11_told_48 hR F I L o14.1 o12.2.2 r73 r75 o14.2.1 o14.2.2.1 o14.2.2.2.1 o14.2.2.2.2.1 o14.2.2.2.2.2.1 o14.2.2.2.2.2.2.1 o14.2.2.2.2.2.2.2 r87 x1 o hf hq
      · replace hf := mj_neg c16 hf
        refine mj_aload_n 0 dX11_told_39 rfl ?_
        refine mj_getIv (v := (o14.1 21)) rfl fl_X11_236 rfl s0_71 a0_71 dX11_told_40 ?_
        refine mj_if_eq 48 dX11_told_43 (by decide) (fun c17 => ?_) (fun c17 => ?_)
        · replace hf := mj_pos c17 hf
          exact jtX11_told_48 hR F I L o14.1 o12.2.2 r73 r75 o14.2.1 o14.2.2.1 o14.2.2.2.1 o14.2.2.2.2.1 o14.2.2.2.2.2.1 o14.2.2.2.2.2.2.1 o14.2.2.2.2.2.2.2 r87 x1 o hf hq
        · replace hf := mj_neg c17 hf
          refine mj_iconst dX11_told_46 kc_iconst_m1 ?_
          obtain rfl := Option.some.inj hf
          have hZ := hq
          replace hZ := mj_u2p hZ
          replace hZ := mj_u2p hZ
          replace hZ := mj_u2p hZ
          replace hZ := mj_u2p hZ
          replace hZ := mj_u2p hZ
          replace hZ := mj_u2p hZ
          replace hZ := mj_u2p hZ
          replace hZ := mj_u2p hZ
          replace hZ := mj_u2p hZ
          exact mj_iret hR ⟨Nat.le_refl _, Nat.le_refl _⟩ rfl rfl dX11_told_47 hZ
  · replace hf := mj_pos c13 hf
    refine mj_iconst dX11_told_23 kc_iconst_0 ?_
    obtain rfl := Option.some.inj hf
    have hZ := hq
    replace hZ := mj_u2p hZ
    replace hZ := mj_u2p hZ
    replace hZ := mj_u2p hZ
    replace hZ := mj_u2p hZ
    replace hZ := mj_u2p hZ
    replace hZ := mj_u2p hZ
    replace hZ := mj_u2p hZ
    replace hZ := mj_u2p hZ
    replace hZ := mj_u2p hZ
    exact mj_iret hR ⟨Nat.le_refl _, Nat.le_refl _⟩ rfl rfl dX11_told_24 hZ
set_option maxRecDepth 100000 in
set_option maxHeartbeats 4000000 in
theorem cmX11_told (l : Launch) (G : mj_GT) (F : Nat) (x1 : Int32) (I : mj_IT) (L : mj_LT) (r71 : Nat → Int32) (r72 : Nat → Int32) (r73 : Nat → Int32) (r75 : Nat → Int32) (r80 : Nat → Int32) (r81 : Nat → Int32) (r82 : Nat → Int32) (r83 : Nat → Int32) (r84 : Nat → Int32) (r85 : Nat → Int32) (r86 : Nat → Int32) (r87 : Nat → Int32) (hr71 : I 71 = r71) (hr72 : I 72 = r72) (hr73 : I 73 = r73) (hr75 : I 75 = r75) (hr80 : I 80 = r80) (hr81 : I 81 = r81) (hr82 : I 82 = r82) (hr83 : I 83 = r83) (hr84 : I 84 = r84) (hr85 : I 85 = r85) (hr86 : I 86 = r86) (hr87 : I 87 = r87) (o : ((Int32) × (Nat → Int32) × (Nat → Int32) × (Nat → Int32) × (Nat → Int32) × (Nat → Int32) × (Nat → Int32) × (Nat → Int32) × (Nat → Int32) × (Nat → Int32))) (hf : fnX11_told F r71 r72 r73 r75 r80 r81 r82 r83 r84 r85 r86 r87 x1 = some o) : mj_M l G yX11_told cX11_told 4 7 (some .int) 0 0 mj_P0 mj_S0 98 [.ref 71, .int x1] I L (mj_qd (some (.int o.1)) (mj_rows I [(71, o.2.1), (72, o.2.2.1), (73, r73), (75, r75), (80, o.2.2.2.1), (81, o.2.2.2.2.1), (82, o.2.2.2.2.2.1), (83, o.2.2.2.2.2.2.1), (84, o.2.2.2.2.2.2.2.1), (85, o.2.2.2.2.2.2.2.2.1), (86, o.2.2.2.2.2.2.2.2.2), (87, r87)]) L) := by
  refine mj_in RX11 "told" [(0, .ref 71), (1, .int x1)] rfl rfl rfl (by decide) (Nat.le_of_ble_eq_true rfl) (fun X ad hR => ?_)
  refine mj_toI [(71, r71), (72, r72), (73, r73), (75, r75), (80, r80), (81, r81), (82, r82), (83, r83), (84, r84), (85, r85), (86, r86), (87, r87)] (by intro q hq; simp only [List.mem_cons, List.not_mem_nil, or_false] at hq; rcases hq with rfl | rfl | rfl | rfl | rfl | rfl | rfl | rfl | rfl | rfl | rfl | rfl <;> assumption) ?_
  refine mtX11_told hR F I L r71 r72 r73 r75 r80 r81 r82 r83 r84 r85 r86 r87 x1 o hf ?_
  obtain ⟨w0, w1, w2, w3, w4, w5, w6, w7, w8, w9⟩ := o
  refine mj_u2q ?_
  refine mj_u2q ?_
  refine mj_u2q ?_
  refine mj_u2q ?_
  refine mj_u2q ?_
  refine mj_u2q ?_
  refine mj_u2q ?_
  refine mj_u2q ?_
  refine mj_u2q ?_
  exact ⟨rfl, rfl, rfl⟩

-- X11_statement
def fnX11_statement (F : Nat) (r71 : Nat → Int32) (r72 : Nat → Int32) (r73 : Nat → Int32) (x1 : Int32) (x2 : Int32) : Option ((Int32) × (Nat → Int32) × (Nat → Int32)) := (fnX11_isStatement F (upd r71 0 (0 : Int32)) x1).bind (fun o1 => (fnX11_isFine F (upd r71 0 (0 : Int32)) r72 o1 (1 : Int32) (0 : Int32)).bind (fun o2 => (if o2.1 = 0 then some ((0 : Int32), o2.2.1, o2.2.2) else (fnX11_lies F x2.toInt64 (0 : Int64) (4 : Int64)).bind (fun o4 => (fnX11_isFine F o2.2.1 o2.2.2 o4 (2 : Int32) (1 : Int32)).bind (fun o5 => (if o5.1 = 0 then some ((0 : Int32), o5.2.1, o5.2.2) else (fnX11_of F r73 x1 x2).bind (fun o7 => some (o7, o5.2.1, o5.2.2))))))))
set_option maxRecDepth 100000 in
set_option maxHeartbeats 4000000 in
theorem mtX11_statement {X : mj_XT} {l : Launch} {G : mj_GT} {ad : Nat → Nat} {Qn : Option Value → mj_IT → mj_LT → Prop} (hR : mj_R X l G mj_P0 mj_S0 98 ad 0 0 Qn) (F : Nat) (I : mj_IT) (L : mj_LT) (r71 : Nat → Int32) (r72 : Nat → Int32) (r73 : Nat → Int32) (x1 : Int32) (x2 : Int32) (o : ((Int32) × (Nat → Int32) × (Nat → Int32))) (hf : fnX11_statement F r71 r72 r73 x1 x2 = some o) (hq : (mj_u2 (fun ov => (mj_u2 (fun r71 r72 => Qn (some (.int ov)) (mj_rows I [(71, r71), (72, r72), (73, r73)]) L)))) o) : mj_W X G RX11 "statement" cX11_statement 3 3 (some .int) mj_P0 mj_S0 98 ad 0 0 0 [(0, .ref 71), (1, .int x1), (2, .int x2)] [] (mj_rows I [(71, r71), (72, r72), (73, r73)]) L := by
  unfold fnX11_statement at hf
  refine mj_aload_n 0 dX11_statement_0 rfl ?_
  refine mj_iconst dX11_statement_1 kc_iconst_0 ?_
  refine mj_putIr (ci := 9) (j := 0) [(71, (upd r71 0 (0 : Int32))), (72, r72), (73, r73)] rfl ⟨rfl, rfl⟩ fl_X11_1 rfl rfl s0_71 a0_71 dX11_statement_2 ?_
  refine mj_aload_n 0 dX11_statement_5 rfl ?_
  refine mj_aload_n 0 dX11_statement_6 rfl ?_
  refine mj_iload_n 1 dX11_statement_7 rfl ?_
  obtain ⟨o1, ho1, hf⟩ := mj_bd hf
  refine mj_callVd (I2 := (mj_rows I [(71, (upd r71 0 (0 : Int32))), (72, r72), (73, r73)])) (L2 := L) (s1 := [.int o1, .ref 71]) (st := [.ref 71]) [.int x1] (cmX11_isStatement X.2.1 G F x1 _ _ (upd r71 0 (0 : Int32)) rfl o1 ho1) (mj_rr rfl) rfl cw_X11_203 s0_71 a0_71 (by decide) rfl rfl (Nat.le_of_ble_eq_true rfl) ⟨Nat.zero_le _, Nat.zero_le _⟩ dX11_statement_8 rfl ?_
  refine mj_iconst dX11_statement_11 kc_iconst_1 ?_
  refine mj_iconst dX11_statement_12 kc_iconst_0 ?_
  obtain ⟨o2, ho2, hf⟩ := mj_bd hf
  refine mj_callVd (I2 := (mj_rows I [(71, o2.2.1), (72, o2.2.2), (73, r73)])) (L2 := L) (s1 := [.int o2.1]) (st := []) [.int o1, .int (1 : Int32), .int (0 : Int32)] (cmX11_isFine X.2.1 G F o1 (1 : Int32) (0 : Int32) _ _ (upd r71 0 (0 : Int32)) r72 rfl rfl o2 ho2) (mj_rr rfl) rfl cw_X11_161 s0_71 a0_71 (by decide) rfl rfl (Nat.le_of_ble_eq_true rfl) ⟨Nat.zero_le _, Nat.zero_le _⟩ dX11_statement_13 rfl ?_
  refine mj_if_eq 37 dX11_statement_16 (by decide) (fun c3 => ?_) (fun c3 => ?_)
  · replace hf := mj_pos c3 hf
    refine mj_iconst dX11_statement_37 kc_iconst_0 ?_
    obtain rfl := Option.some.inj hf
    have hZ := hq
    replace hZ := mj_u2p hZ
    replace hZ := mj_u2p hZ
    exact mj_iret hR ⟨Nat.le_refl _, Nat.le_refl _⟩ rfl rfl dX11_statement_38 hZ
  · replace hf := mj_neg c3 hf
    refine mj_aload_n 0 dX11_statement_19 rfl ?_
    refine mj_iload_n 2 dX11_statement_20 rfl ?_
    refine mj_i2l dX11_statement_21 ?_
    refine mj_lconst (v := 0) dX11_statement_22 (by decide) ?_
    refine mj_ldc2 kk_X11_333 dX11_statement_23 ?_
    obtain ⟨o4, ho4, hf⟩ := mj_bd hf
    refine mj_callSd (I2 := (mj_rows I [(71, o2.2.1), (72, o2.2.2), (73, r73)])) (L2 := L) (s1 := [.int o4, .ref 71]) (st := [.ref 71]) [.long x2.toInt64, .long (0 : Int64), .long (4 : Int64)] (cmX11_lies X.2.1 G F x2.toInt64 (0 : Int64) (4 : Int64) _ _   o4 ho4) rfl rfl cw_X11_157 (by decide) rfl rfl (Nat.le_of_ble_eq_true rfl) ⟨Nat.zero_le _, Nat.zero_le _⟩ dX11_statement_26 rfl ?_
    refine mj_iconst dX11_statement_29 kc_iconst_2 ?_
    refine mj_iconst dX11_statement_30 kc_iconst_1 ?_
    obtain ⟨o5, ho5, hf⟩ := mj_bd hf
    refine mj_callVd (I2 := (mj_rows I [(71, o5.2.1), (72, o5.2.2), (73, r73)])) (L2 := L) (s1 := [.int o5.1]) (st := []) [.int o4, .int (2 : Int32), .int (1 : Int32)] (cmX11_isFine X.2.1 G F o4 (2 : Int32) (1 : Int32) _ _ o2.2.1 o2.2.2 rfl rfl o5 ho5) (mj_rr rfl) rfl cw_X11_161 s0_71 a0_71 (by decide) rfl rfl (Nat.le_of_ble_eq_true rfl) ⟨Nat.zero_le _, Nat.zero_le _⟩ dX11_statement_31 rfl ?_
    refine mj_if_ne 39 dX11_statement_34 (by decide) (fun c6 => ?_) (fun c6 => ?_)
    · replace hf := mj_neg c6 hf
      refine mj_aload_n 0 dX11_statement_39 rfl ?_
      refine mj_iload_n 1 dX11_statement_40 rfl ?_
      refine mj_iload_n 2 dX11_statement_41 rfl ?_
      obtain ⟨o7, ho7, hf⟩ := mj_bd hf
      refine mj_callVd (I2 := (mj_rows I [(71, o5.2.1), (72, o5.2.2), (73, r73)])) (L2 := L) (s1 := [.int o7]) (st := []) [.int x1, .int x2] (cmX11_of X.2.1 G F x1 x2 _ _ r73 rfl o7 ho7) (mj_rr rfl) rfl cw_X11_175 s0_71 a0_71 (by decide) rfl rfl (Nat.le_of_ble_eq_true rfl) ⟨Nat.zero_le _, Nat.zero_le _⟩ dX11_statement_42 rfl ?_
      obtain rfl := Option.some.inj hf
      have hZ := hq
      replace hZ := mj_u2p hZ
      replace hZ := mj_u2p hZ
      exact mj_iret hR ⟨Nat.le_refl _, Nat.le_refl _⟩ rfl rfl dX11_statement_45 hZ
    · replace hf := mj_pos c6 hf
      refine mj_iconst dX11_statement_37 kc_iconst_0 ?_
      obtain rfl := Option.some.inj hf
      have hZ := hq
      replace hZ := mj_u2p hZ
      replace hZ := mj_u2p hZ
      exact mj_iret hR ⟨Nat.le_refl _, Nat.le_refl _⟩ rfl rfl dX11_statement_38 hZ
set_option maxRecDepth 100000 in
set_option maxHeartbeats 4000000 in
theorem cmX11_statement (l : Launch) (G : mj_GT) (F : Nat) (x1 : Int32) (x2 : Int32) (I : mj_IT) (L : mj_LT) (r71 : Nat → Int32) (r72 : Nat → Int32) (r73 : Nat → Int32) (hr71 : I 71 = r71) (hr72 : I 72 = r72) (hr73 : I 73 = r73) (o : ((Int32) × (Nat → Int32) × (Nat → Int32))) (hf : fnX11_statement F r71 r72 r73 x1 x2 = some o) : mj_M l G yX11_statement cX11_statement 3 3 (some .int) 0 0 mj_P0 mj_S0 98 [.ref 71, .int x1, .int x2] I L (mj_qd (some (.int o.1)) (mj_rows I [(71, o.2.1), (72, o.2.2), (73, r73)]) L) := by
  refine mj_in RX11 "statement" [(0, .ref 71), (1, .int x1), (2, .int x2)] rfl rfl rfl (by decide) (Nat.le_of_ble_eq_true rfl) (fun X ad hR => ?_)
  refine mj_toI [(71, r71), (72, r72), (73, r73)] (by intro q hq; simp only [List.mem_cons, List.not_mem_nil, or_false] at hq; rcases hq with rfl | rfl | rfl <;> assumption) ?_
  refine mtX11_statement hR F I L r71 r72 r73 x1 x2 o hf ?_
  obtain ⟨w0, w1, w2⟩ := o
  refine mj_u2q ?_
  refine mj_u2q ?_
  exact ⟨rfl, rfl, rfl⟩

-- X11_firstOf
def fnX11_firstOf (F : Nat) (r71 : Nat → Int32) (r72 : Nat → Int32) (r75 : Nat → Int32) (x1 : Int32) : Option ((Int32) × (Nat → Int32) × (Nat → Int32)) := (fnX11_isName F x1).bind (fun o1 => (fnX11_isFine F (upd r71 0 (0 : Int32)) r72 o1 (1 : Int32) (0 : Int32)).bind (fun o2 => (if o2.1 = 0 then some ((0 : Int32), o2.2.1, o2.2.2) else (if mj_ib x1 6 = true then some ((r75 x1.toNatClampNeg), o2.2.1, o2.2.2) else none))))
set_option maxRecDepth 100000 in
set_option maxHeartbeats 4000000 in
theorem mtX11_firstOf {X : mj_XT} {l : Launch} {G : mj_GT} {ad : Nat → Nat} {Qn : Option Value → mj_IT → mj_LT → Prop} (hR : mj_R X l G mj_P0 mj_S0 98 ad 0 0 Qn) (F : Nat) (I : mj_IT) (L : mj_LT) (r71 : Nat → Int32) (r72 : Nat → Int32) (r75 : Nat → Int32) (x1 : Int32) (o : ((Int32) × (Nat → Int32) × (Nat → Int32))) (hf : fnX11_firstOf F r71 r72 r75 x1 = some o) (hq : (mj_u2 (fun ov => (mj_u2 (fun r71 r72 => Qn (some (.int ov)) (mj_rows I [(71, r71), (72, r72), (75, r75)]) L)))) o) : mj_W X G RX11 "firstOf" cX11_firstOf 2 3 (some .int) mj_P0 mj_S0 98 ad 0 0 0 [(0, .ref 71), (1, .int x1)] [] (mj_rows I [(71, r71), (72, r72), (75, r75)]) L := by
  unfold fnX11_firstOf at hf
  refine mj_aload_n 0 dX11_firstOf_0 rfl ?_
  refine mj_iconst dX11_firstOf_1 kc_iconst_0 ?_
  refine mj_putIr (ci := 9) (j := 0) [(71, (upd r71 0 (0 : Int32))), (72, r72), (75, r75)] rfl ⟨rfl, rfl⟩ fl_X11_1 rfl rfl s0_71 a0_71 dX11_firstOf_2 ?_
  refine mj_aload_n 0 dX11_firstOf_5 rfl ?_
  refine mj_aload_n 0 dX11_firstOf_6 rfl ?_
  refine mj_iload_n 1 dX11_firstOf_7 rfl ?_
  obtain ⟨o1, ho1, hf⟩ := mj_bd hf
  refine mj_callVd (I2 := (mj_rows I [(71, (upd r71 0 (0 : Int32))), (72, r72), (75, r75)])) (L2 := L) (s1 := [.int o1, .ref 71]) (st := [.ref 71]) [.int x1] (cmX11_isName X.2.1 G F x1 _ _   o1 ho1) rfl rfl cw_X11_195 s0_71 a0_71 (by decide) rfl rfl (Nat.le_of_ble_eq_true rfl) ⟨Nat.zero_le _, Nat.zero_le _⟩ dX11_firstOf_8 rfl ?_
  refine mj_iconst dX11_firstOf_11 kc_iconst_1 ?_
  refine mj_iconst dX11_firstOf_12 kc_iconst_0 ?_
  obtain ⟨o2, ho2, hf⟩ := mj_bd hf
  refine mj_callVd (I2 := (mj_rows I [(71, o2.2.1), (72, o2.2.2), (75, r75)])) (L2 := L) (s1 := [.int o2.1]) (st := []) [.int o1, .int (1 : Int32), .int (0 : Int32)] (cmX11_isFine X.2.1 G F o1 (1 : Int32) (0 : Int32) _ _ (upd r71 0 (0 : Int32)) r72 rfl rfl o2 ho2) (mj_rr rfl) rfl cw_X11_161 s0_71 a0_71 (by decide) rfl rfl (Nat.le_of_ble_eq_true rfl) ⟨Nat.zero_le _, Nat.zero_le _⟩ dX11_firstOf_13 rfl ?_
  refine mj_if_eq 28 dX11_firstOf_16 (by decide) (fun c3 => ?_) (fun c3 => ?_)
  · replace hf := mj_pos c3 hf
    refine mj_iconst dX11_firstOf_28 kc_iconst_0 ?_
    obtain rfl := Option.some.inj hf
    have hZ := hq
    replace hZ := mj_u2p hZ
    replace hZ := mj_u2p hZ
    exact mj_iret hR ⟨Nat.le_refl _, Nat.le_refl _⟩ rfl rfl dX11_firstOf_29 hZ
  · replace hf := mj_neg c3 hf
    refine mj_aload_n 0 dX11_firstOf_19 rfl ?_
    refine mj_getP p0_71_6 (by decide) fl_X11_178 rfl s0_71 a0_71 dX11_firstOf_20 ?_
    refine mj_iload_n 1 dX11_firstOf_23 rfl ?_
    obtain ⟨z4, hf⟩ := mj_ck hf
    refine mj_ialdv (x := r75) rfl s0_75 a0_75 z4 dX11_firstOf_24 ?_
    refine mj_goto 29 dX11_firstOf_25 (by decide) ?_
    obtain rfl := Option.some.inj hf
    have hZ := hq
    replace hZ := mj_u2p hZ
    replace hZ := mj_u2p hZ
    exact mj_iret hR ⟨Nat.le_refl _, Nat.le_refl _⟩ rfl rfl dX11_firstOf_29 hZ
set_option maxRecDepth 100000 in
set_option maxHeartbeats 4000000 in
theorem cmX11_firstOf (l : Launch) (G : mj_GT) (F : Nat) (x1 : Int32) (I : mj_IT) (L : mj_LT) (r71 : Nat → Int32) (r72 : Nat → Int32) (r75 : Nat → Int32) (hr71 : I 71 = r71) (hr72 : I 72 = r72) (hr75 : I 75 = r75) (o : ((Int32) × (Nat → Int32) × (Nat → Int32))) (hf : fnX11_firstOf F r71 r72 r75 x1 = some o) : mj_M l G yX11_firstOf cX11_firstOf 2 3 (some .int) 0 0 mj_P0 mj_S0 98 [.ref 71, .int x1] I L (mj_qd (some (.int o.1)) (mj_rows I [(71, o.2.1), (72, o.2.2), (75, r75)]) L) := by
  refine mj_in RX11 "firstOf" [(0, .ref 71), (1, .int x1)] rfl rfl rfl (by decide) (Nat.le_of_ble_eq_true rfl) (fun X ad hR => ?_)
  refine mj_toI [(71, r71), (72, r72), (75, r75)] (by intro q hq; simp only [List.mem_cons, List.not_mem_nil, or_false] at hq; rcases hq with rfl | rfl | rfl <;> assumption) ?_
  refine mtX11_firstOf hR F I L r71 r72 r75 x1 o hf ?_
  obtain ⟨w0, w1, w2⟩ := o
  refine mj_u2q ?_
  refine mj_u2q ?_
  exact ⟨rfl, rfl, rfl⟩

-- X11_isState
def fnX11_isState (F : Nat) (r71 : Nat → Int32) (x1 : Int32) : Option ((Int32)) := (fnX11_lies F x1.toInt64 (0 : Int64) (((r71 24) - (1 : Int32)).toInt64)).bind (fun o1 => (if mj_bb o1 = true then some o1 else none))
set_option maxRecDepth 100000 in
set_option maxHeartbeats 4000000 in
theorem mtX11_isState {X : mj_XT} {l : Launch} {G : mj_GT} {ad : Nat → Nat} {Qn : Option Value → mj_IT → mj_LT → Prop} (hR : mj_R X l G mj_P0 mj_S0 98 ad 0 0 Qn) (F : Nat) (I : mj_IT) (L : mj_LT) (r71 : Nat → Int32) (x1 : Int32) (o : ((Int32))) (hf : fnX11_isState F r71 x1 = some o) (hq : (fun ov => Qn (some (.int ov)) (mj_rows I [(71, r71)]) L) o) : mj_W X G RX11 "isState" cX11_isState 2 2 (some .boolean) mj_P0 mj_S0 98 ad 0 0 0 [(0, .ref 71), (1, .int x1)] [] (mj_rows I [(71, r71)]) L := by
  unfold fnX11_isState at hf
  refine mj_iload_n 1 dX11_isState_0 rfl ?_
  refine mj_i2l dX11_isState_1 ?_
  refine mj_lconst (v := 0) dX11_isState_2 (by decide) ?_
  refine mj_aload_n 0 dX11_isState_3 rfl ?_
  refine mj_getIv (v := (r71 24)) rfl fl_X11_227 rfl s0_71 a0_71 dX11_isState_4 ?_
  refine mj_iconst dX11_isState_7 kc_iconst_1 ?_
  refine mj_isub dX11_isState_8 ?_
  refine mj_i2l dX11_isState_9 ?_
  obtain ⟨o1, ho1, hf⟩ := mj_bd hf
  refine mj_callSd (I2 := (mj_rows I [(71, r71)])) (L2 := L) (s1 := [.int o1]) (st := []) [.long x1.toInt64, .long (0 : Int64), .long (((r71 24) - (1 : Int32)).toInt64)] (cmX11_lies X.2.1 G F x1.toInt64 (0 : Int64) (((r71 24) - (1 : Int32)).toInt64) _ _   o1 ho1) rfl rfl cw_X11_157 (by decide) rfl rfl (Nat.le_of_ble_eq_true rfl) ⟨Nat.zero_le _, Nat.zero_le _⟩ dX11_isState_10 rfl ?_
  obtain ⟨z2, hf⟩ := mj_ck hf
  obtain rfl := Option.some.inj hf
  have hZ := hq
  exact mj_iret hR ⟨Nat.le_refl _, Nat.le_refl _⟩ rfl (mj_bb_n z2).1 dX11_isState_13 hZ
set_option maxRecDepth 100000 in
set_option maxHeartbeats 4000000 in
theorem cmX11_isState (l : Launch) (G : mj_GT) (F : Nat) (x1 : Int32) (I : mj_IT) (L : mj_LT) (r71 : Nat → Int32) (hr71 : I 71 = r71) (o : ((Int32))) (hf : fnX11_isState F r71 x1 = some o) : mj_M l G yX11_isState cX11_isState 2 2 (some .boolean) 0 0 mj_P0 mj_S0 98 [.ref 71, .int x1] I L (mj_qd (some (.int o)) (mj_rows I [(71, r71)]) L) := by
  refine mj_in RX11 "isState" [(0, .ref 71), (1, .int x1)] rfl rfl rfl (by decide) (Nat.le_of_ble_eq_true rfl) (fun X ad hR => ?_)
  refine mj_toI [(71, r71)] (by intro q hq; simp only [List.mem_cons, List.not_mem_nil, or_false] at hq; rcases hq with rfl <;> assumption) ?_
  refine mtX11_isState hR F I L r71 x1 o hf ?_
  exact ⟨rfl, rfl, rfl⟩

-- X11_state
def fnX11_state (F : Nat) (r71 : Nat → Int32) (r72 : Nat → Int32) (r73 : Nat → Int32) (r75 : Nat → Int32) (r80 : Nat → Int32) (r81 : Nat → Int32) (r82 : Nat → Int32) (r83 : Nat → Int32) (r84 : Nat → Int32) (r85 : Nat → Int32) (r86 : Nat → Int32) (r87 : Nat → Int32) (x1 : Int32) (x2 : Int32) : Option ((Int32) × (Nat → Int32) × (Nat → Int32) × (Nat → Int32) × (Nat → Int32) × (Nat → Int32) × (Nat → Int32) × (Nat → Int32) × (Nat → Int32) × (Nat → Int32)) := (fnX11_isFew F (upd r71 0 (0 : Int32)) r72 r73 r75 r80 r81 r82 r83 r84 r85 r86 r87).bind (fun o1 => (if o1.1 = 0 then some ((0 : Int32), o1.2.1, o1.2.2.1, o1.2.2.2.1, o1.2.2.2.2.1, o1.2.2.2.2.2.1, o1.2.2.2.2.2.2.1, o1.2.2.2.2.2.2.2.1, o1.2.2.2.2.2.2.2.2.1, o1.2.2.2.2.2.2.2.2.2) else (fnX11_isState F o1.2.1 x1).bind (fun o3 => (fnX11_isFine F o1.2.1 o1.2.2.1 o3 (2 : Int32) (0 : Int32)).bind (fun o4 => (if o4.1 = 0 then some ((0 : Int32), o4.2.1, o4.2.2, o1.2.2.2.1, o1.2.2.2.2.1, o1.2.2.2.2.2.1, o1.2.2.2.2.2.2.1, o1.2.2.2.2.2.2.2.1, o1.2.2.2.2.2.2.2.2.1, o1.2.2.2.2.2.2.2.2.2) else (fnX11_lies F x2.toInt64 (0 : Int64) (9 : Int64)).bind (fun o6 => (fnX11_isFine F o4.2.1 o4.2.2 o6 (3 : Int32) (1 : Int32)).bind (fun o7 => (if o7.1 = 0 then some ((0 : Int32), o7.2.1, o7.2.2, o1.2.2.2.1, o1.2.2.2.2.1, o1.2.2.2.2.2.1, o1.2.2.2.2.2.2.1, o1.2.2.2.2.2.2.2.1, o1.2.2.2.2.2.2.2.2.1, o1.2.2.2.2.2.2.2.2.2) else (if x2 = 0 then (if mj_ib x1 200 = true then some ((o1.2.2.2.1 x1.toNatClampNeg), o7.2.1, o7.2.2, o1.2.2.2.1, o1.2.2.2.2.1, o1.2.2.2.2.2.1, o1.2.2.2.2.2.2.1, o1.2.2.2.2.2.2.2.1, o1.2.2.2.2.2.2.2.2.1, o1.2.2.2.2.2.2.2.2.2) else none) else (if (7 : Int32) ≤ x2 then (if x2 = (7 : Int32) then (if mj_ib x1 200 = true then some ((o1.2.2.2.2.2.1 x1.toNatClampNeg), o7.2.1, o7.2.2, o1.2.2.2.1, o1.2.2.2.2.1, o1.2.2.2.2.2.1, o1.2.2.2.2.2.2.1, o1.2.2.2.2.2.2.2.1, o1.2.2.2.2.2.2.2.2.1, o1.2.2.2.2.2.2.2.2.2) else none) else (if x2 = (8 : Int32) then (if mj_ib x1 200 = true then (if (o1.2.2.2.2.2.2.2.2.2 x1.toNatClampNeg) = 0 then some ((1 : Int32), o7.2.1, o7.2.2, o1.2.2.2.1, o1.2.2.2.2.1, o1.2.2.2.2.2.1, o1.2.2.2.2.2.2.1, o1.2.2.2.2.2.2.2.1, o1.2.2.2.2.2.2.2.2.1, o1.2.2.2.2.2.2.2.2.2) else some ((0 : Int32), o7.2.1, o7.2.2, o1.2.2.2.1, o1.2.2.2.2.1, o1.2.2.2.2.2.1, o1.2.2.2.2.2.2.1, o1.2.2.2.2.2.2.2.1, o1.2.2.2.2.2.2.2.2.1, o1.2.2.2.2.2.2.2.2.2)) else none) else (if mj_ib x1 200 = true then some ((o1.2.2.2.2.2.2.1 x1.toNatClampNeg), o7.2.1, o7.2.2, o1.2.2.2.1, o1.2.2.2.2.1, o1.2.2.2.2.2.1, o1.2.2.2.2.2.2.1, o1.2.2.2.2.2.2.2.1, o1.2.2.2.2.2.2.2.2.1, o1.2.2.2.2.2.2.2.2.2) else none))) else (if mj_ib x1 200 = true then (fnX11_valueIn F r87 (o1.2.2.2.2.1 x1.toNatClampNeg) (x2 - (1 : Int32))).bind (fun o18 => some (o18, o7.2.1, o7.2.2, o1.2.2.2.1, o1.2.2.2.2.1, o1.2.2.2.2.2.1, o1.2.2.2.2.2.2.1, o1.2.2.2.2.2.2.2.1, o1.2.2.2.2.2.2.2.2.1, o1.2.2.2.2.2.2.2.2.2)) else none)))))))))))
set_option maxRecDepth 100000 in
set_option maxHeartbeats 4000000 in
theorem mtX11_state {X : mj_XT} {l : Launch} {G : mj_GT} {ad : Nat → Nat} {Qn : Option Value → mj_IT → mj_LT → Prop} (hR : mj_R X l G mj_P0 mj_S0 98 ad 0 0 Qn) (F : Nat) (I : mj_IT) (L : mj_LT) (r71 : Nat → Int32) (r72 : Nat → Int32) (r73 : Nat → Int32) (r75 : Nat → Int32) (r80 : Nat → Int32) (r81 : Nat → Int32) (r82 : Nat → Int32) (r83 : Nat → Int32) (r84 : Nat → Int32) (r85 : Nat → Int32) (r86 : Nat → Int32) (r87 : Nat → Int32) (x1 : Int32) (x2 : Int32) (o : ((Int32) × (Nat → Int32) × (Nat → Int32) × (Nat → Int32) × (Nat → Int32) × (Nat → Int32) × (Nat → Int32) × (Nat → Int32) × (Nat → Int32) × (Nat → Int32))) (hf : fnX11_state F r71 r72 r73 r75 r80 r81 r82 r83 r84 r85 r86 r87 x1 x2 = some o) (hq : (mj_u2 (fun ov => (mj_u2 (fun r71 => (mj_u2 (fun r72 => (mj_u2 (fun r80 => (mj_u2 (fun r81 => (mj_u2 (fun r82 => (mj_u2 (fun r83 => (mj_u2 (fun r84 => (mj_u2 (fun r85 r86 => Qn (some (.int ov)) (mj_rows I [(71, r71), (72, r72), (73, r73), (75, r75), (80, r80), (81, r81), (82, r82), (83, r83), (84, r84), (85, r85), (86, r86), (87, r87)]) L)))))))))))))))))) o) : mj_W X G RX11 "state" cX11_state 3 8 (some .int) mj_P0 mj_S0 98 ad 0 0 0 [(0, .ref 71), (1, .int x1), (2, .int x2)] [] (mj_rows I [(71, r71), (72, r72), (73, r73), (75, r75), (80, r80), (81, r81), (82, r82), (83, r83), (84, r84), (85, r85), (86, r86), (87, r87)]) L := by
  unfold fnX11_state at hf
  refine mj_aload_n 0 dX11_state_0 rfl ?_
  refine mj_iconst dX11_state_1 kc_iconst_0 ?_
  refine mj_putIr (ci := 9) (j := 0) [(71, (upd r71 0 (0 : Int32))), (72, r72), (73, r73), (75, r75), (80, r80), (81, r81), (82, r82), (83, r83), (84, r84), (85, r85), (86, r86), (87, r87)] rfl ⟨rfl, rfl⟩ fl_X11_1 rfl rfl s0_71 a0_71 dX11_state_2 ?_
  refine mj_aload_n 0 dX11_state_5 rfl ?_
  obtain ⟨o1, ho1, hf⟩ := mj_bd hf
  refine mj_callVd (I2 := (mj_rows I [(71, o1.2.1), (72, o1.2.2.1), (73, r73), (75, r75), (80, o1.2.2.2.1), (81, o1.2.2.2.2.1), (82, o1.2.2.2.2.2.1), (83, o1.2.2.2.2.2.2.1), (84, o1.2.2.2.2.2.2.2.1), (85, o1.2.2.2.2.2.2.2.2.1), (86, o1.2.2.2.2.2.2.2.2.2), (87, r87)])) (L2 := L) (s1 := [.int o1.1]) (st := []) [] (cmX11_isFew X.2.1 G F  _ _ (upd r71 0 (0 : Int32)) r72 r73 r75 r80 r81 r82 r83 r84 r85 r86 r87 rfl rfl rfl rfl rfl rfl rfl rfl rfl rfl rfl rfl o1 ho1) (mj_rr rfl) rfl cw_X11_335 s0_71 a0_71 (by decide) rfl rfl (Nat.le_of_ble_eq_true rfl) ⟨Nat.zero_le _, Nat.zero_le _⟩ dX11_state_6 rfl ?_
  refine mj_if_eq 44 dX11_state_9 (by decide) (fun c2 => ?_) (fun c2 => ?_)
  · replace hf := mj_pos c2 hf
    refine mj_iconst dX11_state_44 kc_iconst_0 ?_
    obtain rfl := Option.some.inj hf
    have hZ := hq
    replace hZ := mj_u2p hZ
    replace hZ := mj_u2p hZ
    replace hZ := mj_u2p hZ
    replace hZ := mj_u2p hZ
    replace hZ := mj_u2p hZ
    replace hZ := mj_u2p hZ
    replace hZ := mj_u2p hZ
    replace hZ := mj_u2p hZ
    replace hZ := mj_u2p hZ
    exact mj_iret hR ⟨Nat.le_refl _, Nat.le_refl _⟩ rfl rfl dX11_state_45 hZ
  · replace hf := mj_neg c2 hf
    refine mj_aload_n 0 dX11_state_12 rfl ?_
    refine mj_aload_n 0 dX11_state_13 rfl ?_
    refine mj_iload_n 1 dX11_state_14 rfl ?_
    obtain ⟨o3, ho3, hf⟩ := mj_bd hf
    refine mj_callVd (I2 := (mj_rows I [(71, o1.2.1), (72, o1.2.2.1), (73, r73), (75, r75), (80, o1.2.2.2.1), (81, o1.2.2.2.2.1), (82, o1.2.2.2.2.2.1), (83, o1.2.2.2.2.2.2.1), (84, o1.2.2.2.2.2.2.2.1), (85, o1.2.2.2.2.2.2.2.2.1), (86, o1.2.2.2.2.2.2.2.2.2), (87, r87)])) (L2 := L) (s1 := [.int o3, .ref 71]) (st := [.ref 71]) [.int x1] (cmX11_isState X.2.1 G F x1 _ _ o1.2.1 rfl o3 ho3) (mj_rr rfl) rfl cw_X11_338 s0_71 a0_71 (by decide) rfl rfl (Nat.le_of_ble_eq_true rfl) ⟨Nat.zero_le _, Nat.zero_le _⟩ dX11_state_15 rfl ?_
    refine mj_iconst dX11_state_18 kc_iconst_2 ?_
    refine mj_iconst dX11_state_19 kc_iconst_0 ?_
    obtain ⟨o4, ho4, hf⟩ := mj_bd hf
    refine mj_callVd (I2 := (mj_rows I [(71, o4.2.1), (72, o4.2.2), (73, r73), (75, r75), (80, o1.2.2.2.1), (81, o1.2.2.2.2.1), (82, o1.2.2.2.2.2.1), (83, o1.2.2.2.2.2.2.1), (84, o1.2.2.2.2.2.2.2.1), (85, o1.2.2.2.2.2.2.2.2.1), (86, o1.2.2.2.2.2.2.2.2.2), (87, r87)])) (L2 := L) (s1 := [.int o4.1]) (st := []) [.int o3, .int (2 : Int32), .int (0 : Int32)] (cmX11_isFine X.2.1 G F o3 (2 : Int32) (0 : Int32) _ _ o1.2.1 o1.2.2.1 rfl rfl o4 ho4) (mj_rr rfl) rfl cw_X11_161 s0_71 a0_71 (by decide) rfl rfl (Nat.le_of_ble_eq_true rfl) ⟨Nat.zero_le _, Nat.zero_le _⟩ dX11_state_20 rfl ?_
    refine mj_if_eq 44 dX11_state_23 (by decide) (fun c5 => ?_) (fun c5 => ?_)
    · replace hf := mj_pos c5 hf
      refine mj_iconst dX11_state_44 kc_iconst_0 ?_
      obtain rfl := Option.some.inj hf
      have hZ := hq
      replace hZ := mj_u2p hZ
      replace hZ := mj_u2p hZ
      replace hZ := mj_u2p hZ
      replace hZ := mj_u2p hZ
      replace hZ := mj_u2p hZ
      replace hZ := mj_u2p hZ
      replace hZ := mj_u2p hZ
      replace hZ := mj_u2p hZ
      replace hZ := mj_u2p hZ
      exact mj_iret hR ⟨Nat.le_refl _, Nat.le_refl _⟩ rfl rfl dX11_state_45 hZ
    · replace hf := mj_neg c5 hf
      refine mj_aload_n 0 dX11_state_26 rfl ?_
      refine mj_iload_n 2 dX11_state_27 rfl ?_
      refine mj_i2l dX11_state_28 ?_
      refine mj_lconst (v := 0) dX11_state_29 (by decide) ?_
      refine mj_ldc2 kk_X11_198 dX11_state_30 ?_
      obtain ⟨o6, ho6, hf⟩ := mj_bd hf
      refine mj_callSd (I2 := (mj_rows I [(71, o4.2.1), (72, o4.2.2), (73, r73), (75, r75), (80, o1.2.2.2.1), (81, o1.2.2.2.2.1), (82, o1.2.2.2.2.2.1), (83, o1.2.2.2.2.2.2.1), (84, o1.2.2.2.2.2.2.2.1), (85, o1.2.2.2.2.2.2.2.2.1), (86, o1.2.2.2.2.2.2.2.2.2), (87, r87)])) (L2 := L) (s1 := [.int o6, .ref 71]) (st := [.ref 71]) [.long x2.toInt64, .long (0 : Int64), .long (9 : Int64)] (cmX11_lies X.2.1 G F x2.toInt64 (0 : Int64) (9 : Int64) _ _   o6 ho6) rfl rfl cw_X11_157 (by decide) rfl rfl (Nat.le_of_ble_eq_true rfl) ⟨Nat.zero_le _, Nat.zero_le _⟩ dX11_state_33 rfl ?_
      refine mj_iconst dX11_state_36 kc_iconst_3 ?_
      refine mj_iconst dX11_state_37 kc_iconst_1 ?_
      obtain ⟨o7, ho7, hf⟩ := mj_bd hf
      refine mj_callVd (I2 := (mj_rows I [(71, o7.2.1), (72, o7.2.2), (73, r73), (75, r75), (80, o1.2.2.2.1), (81, o1.2.2.2.2.1), (82, o1.2.2.2.2.2.1), (83, o1.2.2.2.2.2.2.1), (84, o1.2.2.2.2.2.2.2.1), (85, o1.2.2.2.2.2.2.2.2.1), (86, o1.2.2.2.2.2.2.2.2.2), (87, r87)])) (L2 := L) (s1 := [.int o7.1]) (st := []) [.int o6, .int (3 : Int32), .int (1 : Int32)] (cmX11_isFine X.2.1 G F o6 (3 : Int32) (1 : Int32) _ _ o4.2.1 o4.2.2 rfl rfl o7 ho7) (mj_rr rfl) rfl cw_X11_161 s0_71 a0_71 (by decide) rfl rfl (Nat.le_of_ble_eq_true rfl) ⟨Nat.zero_le _, Nat.zero_le _⟩ dX11_state_38 rfl ?_
      refine mj_if_ne 46 dX11_state_41 (by decide) (fun c8 => ?_) (fun c8 => ?_)
      · replace hf := mj_neg c8 hf
        refine mj_iload_n 2 dX11_state_46 rfl ?_
        refine mj_if_ne 57 dX11_state_47 (by decide) (fun c9 => ?_) (fun c9 => ?_)
        · replace hf := mj_neg c9 hf
          refine mj_iload_n 2 dX11_state_57 rfl ?_
          refine mj_bipush dX11_state_58 kc_bipush_7 ?_
          refine mj_icmp_ge 77 dX11_state_60 (by decide) (fun c10 => ?_) (fun c10 => ?_)
          · replace hf := mj_pos c10 hf
            refine mj_iload_n 2 dX11_state_77 rfl ?_
            refine mj_bipush dX11_state_78 kc_bipush_7 ?_
            refine mj_icmp_ne 92 dX11_state_80 (by decide) (fun c11 => ?_) (fun c11 => ?_)
            · replace hf := mj_neg c11 hf
              refine mj_iload_n 2 dX11_state_92 rfl ?_
              refine mj_bipush dX11_state_93 kc_bipush_8 ?_
              refine mj_icmp_ne 115 dX11_state_95 (by decide) (fun c12 => ?_) (fun c12 => ?_)
              · replace hf := mj_neg c12 hf
                refine mj_aload_n 0 dX11_state_115 rfl ?_
                refine mj_getP p0_71_30 (by decide) fl_X11_251 rfl s0_71 a0_71 dX11_state_116 ?_
                refine mj_iload_n 1 dX11_state_119 rfl ?_
                obtain ⟨z13, hf⟩ := mj_ck hf
                refine mj_ialdv (x := o1.2.2.2.2.2.2.1) rfl s0_83 a0_83 z13 dX11_state_120 ?_
                obtain rfl := Option.some.inj hf
                have hZ := hq
                replace hZ := mj_u2p hZ
                replace hZ := mj_u2p hZ
                replace hZ := mj_u2p hZ
                replace hZ := mj_u2p hZ
                replace hZ := mj_u2p hZ
                replace hZ := mj_u2p hZ
                replace hZ := mj_u2p hZ
                replace hZ := mj_u2p hZ
                replace hZ := mj_u2p hZ
                exact mj_iret hR ⟨Nat.le_refl _, Nat.le_refl _⟩ rfl rfl dX11_state_121 hZ
              · replace hf := mj_pos c12 hf
                refine mj_aload_n 0 dX11_state_98 rfl ?_
                refine mj_getP p0_71_33 (by decide) fl_X11_275 rfl s0_71 a0_71 dX11_state_99 ?_
                refine mj_iload_n 1 dX11_state_102 rfl ?_
                obtain ⟨z14, hf⟩ := mj_ck hf
                refine mj_zaldv (x := o1.2.2.2.2.2.2.2.2.2) rfl s0_86 a0_86 z14 dX11_state_103 ?_
                refine mj_if_eq 111 dX11_state_104 (by decide) (fun c15 => ?_) (fun c15 => ?_)
                · replace hf := mj_pos c15 hf
                  refine mj_iconst dX11_state_111 kc_iconst_1 ?_
                  refine mj_goto 121 dX11_state_112 (by decide) ?_
                  obtain rfl := Option.some.inj hf
                  have hZ := hq
                  replace hZ := mj_u2p hZ
                  replace hZ := mj_u2p hZ
                  replace hZ := mj_u2p hZ
                  replace hZ := mj_u2p hZ
                  replace hZ := mj_u2p hZ
                  replace hZ := mj_u2p hZ
                  replace hZ := mj_u2p hZ
                  replace hZ := mj_u2p hZ
                  replace hZ := mj_u2p hZ
                  exact mj_iret hR ⟨Nat.le_refl _, Nat.le_refl _⟩ rfl rfl dX11_state_121 hZ
                · replace hf := mj_neg c15 hf
                  refine mj_iconst dX11_state_107 kc_iconst_0 ?_
                  refine mj_goto 121 dX11_state_108 (by decide) ?_
                  obtain rfl := Option.some.inj hf
                  have hZ := hq
                  replace hZ := mj_u2p hZ
                  replace hZ := mj_u2p hZ
                  replace hZ := mj_u2p hZ
                  replace hZ := mj_u2p hZ
                  replace hZ := mj_u2p hZ
                  replace hZ := mj_u2p hZ
                  replace hZ := mj_u2p hZ
                  replace hZ := mj_u2p hZ
                  replace hZ := mj_u2p hZ
                  exact mj_iret hR ⟨Nat.le_refl _, Nat.le_refl _⟩ rfl rfl dX11_state_121 hZ
            · replace hf := mj_pos c11 hf
              refine mj_aload_n 0 dX11_state_83 rfl ?_
              refine mj_getP p0_71_29 (by decide) fl_X11_239 rfl s0_71 a0_71 dX11_state_84 ?_
              refine mj_iload_n 1 dX11_state_87 rfl ?_
              obtain ⟨z16, hf⟩ := mj_ck hf
              refine mj_ialdv (x := o1.2.2.2.2.2.1) rfl s0_82 a0_82 z16 dX11_state_88 ?_
              refine mj_goto 121 dX11_state_89 (by decide) ?_
              obtain rfl := Option.some.inj hf
              have hZ := hq
              replace hZ := mj_u2p hZ
              replace hZ := mj_u2p hZ
              replace hZ := mj_u2p hZ
              replace hZ := mj_u2p hZ
              replace hZ := mj_u2p hZ
              replace hZ := mj_u2p hZ
              replace hZ := mj_u2p hZ
              replace hZ := mj_u2p hZ
              replace hZ := mj_u2p hZ
              exact mj_iret hR ⟨Nat.le_refl _, Nat.le_refl _⟩ rfl rfl dX11_state_121 hZ
          · replace hf := mj_neg c10 hf
            refine mj_aload_n 0 dX11_state_63 rfl ?_
            refine mj_aload_n 0 dX11_state_64 rfl ?_
            refine mj_getP p0_71_28 (by decide) fl_X11_233 rfl s0_71 a0_71 dX11_state_65 ?_
            refine mj_iload_n 1 dX11_state_68 rfl ?_
            obtain ⟨z17, hf⟩ := mj_ck hf
            refine mj_ialdv (x := o1.2.2.2.2.1) rfl s0_81 a0_81 z17 dX11_state_69 ?_
            refine mj_iload_n 2 dX11_state_70 rfl ?_
            refine mj_iconst dX11_state_71 kc_iconst_1 ?_
            refine mj_isub dX11_state_72 ?_
            obtain ⟨o18, ho18, hf⟩ := mj_bd hf
            refine mj_callVd (I2 := (mj_rows I [(71, o7.2.1), (72, o7.2.2), (73, r73), (75, r75), (80, o1.2.2.2.1), (81, o1.2.2.2.2.1), (82, o1.2.2.2.2.2.1), (83, o1.2.2.2.2.2.2.1), (84, o1.2.2.2.2.2.2.2.1), (85, o1.2.2.2.2.2.2.2.2.1), (86, o1.2.2.2.2.2.2.2.2.2), (87, r87)])) (L2 := L) (s1 := [.int o18]) (st := []) [.int (o1.2.2.2.2.1 x1.toNatClampNeg), .int (x2 - (1 : Int32))] (cmX11_valueIn X.2.1 G F (o1.2.2.2.2.1 x1.toNatClampNeg) (x2 - (1 : Int32)) _ _ r87 rfl o18 ho18) (mj_rr rfl) rfl cw_X11_218 s0_71 a0_71 (by decide) rfl rfl (Nat.le_of_ble_eq_true rfl) ⟨Nat.zero_le _, Nat.zero_le _⟩ dX11_state_73 rfl ?_
            obtain rfl := Option.some.inj hf
            have hZ := hq
            replace hZ := mj_u2p hZ
            replace hZ := mj_u2p hZ
            replace hZ := mj_u2p hZ
            replace hZ := mj_u2p hZ
            replace hZ := mj_u2p hZ
            replace hZ := mj_u2p hZ
            replace hZ := mj_u2p hZ
            replace hZ := mj_u2p hZ
            replace hZ := mj_u2p hZ
            exact mj_iret hR ⟨Nat.le_refl _, Nat.le_refl _⟩ rfl rfl dX11_state_76 hZ
        · replace hf := mj_pos c9 hf
          refine mj_aload_n 0 dX11_state_50 rfl ?_
          refine mj_getP p0_71_27 (by decide) fl_X11_230 rfl s0_71 a0_71 dX11_state_51 ?_
          refine mj_iload_n 1 dX11_state_54 rfl ?_
          obtain ⟨z19, hf⟩ := mj_ck hf
          refine mj_ialdv (x := o1.2.2.2.1) rfl s0_80 a0_80 z19 dX11_state_55 ?_
          obtain rfl := Option.some.inj hf
          have hZ := hq
          replace hZ := mj_u2p hZ
          replace hZ := mj_u2p hZ
          replace hZ := mj_u2p hZ
          replace hZ := mj_u2p hZ
          replace hZ := mj_u2p hZ
          replace hZ := mj_u2p hZ
          replace hZ := mj_u2p hZ
          replace hZ := mj_u2p hZ
          replace hZ := mj_u2p hZ
          exact mj_iret hR ⟨Nat.le_refl _, Nat.le_refl _⟩ rfl rfl dX11_state_56 hZ
      · replace hf := mj_pos c8 hf
        refine mj_iconst dX11_state_44 kc_iconst_0 ?_
        obtain rfl := Option.some.inj hf
        have hZ := hq
        replace hZ := mj_u2p hZ
        replace hZ := mj_u2p hZ
        replace hZ := mj_u2p hZ
        replace hZ := mj_u2p hZ
        replace hZ := mj_u2p hZ
        replace hZ := mj_u2p hZ
        replace hZ := mj_u2p hZ
        replace hZ := mj_u2p hZ
        replace hZ := mj_u2p hZ
        exact mj_iret hR ⟨Nat.le_refl _, Nat.le_refl _⟩ rfl rfl dX11_state_45 hZ
set_option maxRecDepth 100000 in
set_option maxHeartbeats 4000000 in
theorem cmX11_state (l : Launch) (G : mj_GT) (F : Nat) (x1 : Int32) (x2 : Int32) (I : mj_IT) (L : mj_LT) (r71 : Nat → Int32) (r72 : Nat → Int32) (r73 : Nat → Int32) (r75 : Nat → Int32) (r80 : Nat → Int32) (r81 : Nat → Int32) (r82 : Nat → Int32) (r83 : Nat → Int32) (r84 : Nat → Int32) (r85 : Nat → Int32) (r86 : Nat → Int32) (r87 : Nat → Int32) (hr71 : I 71 = r71) (hr72 : I 72 = r72) (hr73 : I 73 = r73) (hr75 : I 75 = r75) (hr80 : I 80 = r80) (hr81 : I 81 = r81) (hr82 : I 82 = r82) (hr83 : I 83 = r83) (hr84 : I 84 = r84) (hr85 : I 85 = r85) (hr86 : I 86 = r86) (hr87 : I 87 = r87) (o : ((Int32) × (Nat → Int32) × (Nat → Int32) × (Nat → Int32) × (Nat → Int32) × (Nat → Int32) × (Nat → Int32) × (Nat → Int32) × (Nat → Int32) × (Nat → Int32))) (hf : fnX11_state F r71 r72 r73 r75 r80 r81 r82 r83 r84 r85 r86 r87 x1 x2 = some o) : mj_M l G yX11_state cX11_state 3 8 (some .int) 0 0 mj_P0 mj_S0 98 [.ref 71, .int x1, .int x2] I L (mj_qd (some (.int o.1)) (mj_rows I [(71, o.2.1), (72, o.2.2.1), (73, r73), (75, r75), (80, o.2.2.2.1), (81, o.2.2.2.2.1), (82, o.2.2.2.2.2.1), (83, o.2.2.2.2.2.2.1), (84, o.2.2.2.2.2.2.2.1), (85, o.2.2.2.2.2.2.2.2.1), (86, o.2.2.2.2.2.2.2.2.2), (87, r87)]) L) := by
  refine mj_in RX11 "state" [(0, .ref 71), (1, .int x1), (2, .int x2)] rfl rfl rfl (by decide) (Nat.le_of_ble_eq_true rfl) (fun X ad hR => ?_)
  refine mj_toI [(71, r71), (72, r72), (73, r73), (75, r75), (80, r80), (81, r81), (82, r82), (83, r83), (84, r84), (85, r85), (86, r86), (87, r87)] (by intro q hq; simp only [List.mem_cons, List.not_mem_nil, or_false] at hq; rcases hq with rfl | rfl | rfl | rfl | rfl | rfl | rfl | rfl | rfl | rfl | rfl | rfl <;> assumption) ?_
  refine mtX11_state hR F I L r71 r72 r73 r75 r80 r81 r82 r83 r84 r85 r86 r87 x1 x2 o hf ?_
  obtain ⟨w0, w1, w2, w3, w4, w5, w6, w7, w8, w9⟩ := o
  refine mj_u2q ?_
  refine mj_u2q ?_
  refine mj_u2q ?_
  refine mj_u2q ?_
  refine mj_u2q ?_
  refine mj_u2q ?_
  refine mj_u2q ?_
  refine mj_u2q ?_
  refine mj_u2q ?_
  exact ⟨rfl, rfl, rfl⟩

-- X11_arc
def jnX11_arc_56 (F : Nat) (r73 : Nat → Int32) (r75 : Nat → Int32) (r87 : Nat → Int32) (x1 : Int32) (x2 : Int32) (x3 : Int32) (t1 : Int32) (r71 : Nat → Int32) (r72 : Nat → Int32) (r80 : Nat → Int32) (r81 : Nat → Int32) (r82 : Nat → Int32) (r83 : Nat → Int32) (r84 : Nat → Int32) (r85 : Nat → Int32) (r86 : Nat → Int32) : Option ((Int32) × (Nat → Int32) × (Nat → Int32) × (Nat → Int32) × (Nat → Int32) × (Nat → Int32) × (Nat → Int32) × (Nat → Int32) × (Nat → Int32) × (Nat → Int32)) := (fnX11_isFine F r71 r72 t1 (2 : Int32) (0 : Int32)).bind (fun o1 => (if o1.1 = 0 then some ((0 : Int32), o1.2.1, o1.2.2, r80, r81, r82, r83, r84, r85, r86) else (fnX11_lies F x3.toInt64 (0 : Int64) (1 : Int64)).bind (fun o3 => (fnX11_isFine F o1.2.1 o1.2.2 o3 (3 : Int32) (1 : Int32)).bind (fun o4 => (if o4.1 = 0 then some ((0 : Int32), o4.2.1, o4.2.2, r80, r81, r82, r83, r84, r85, r86) else (if x3 = 0 then (if mj_ib (((10 : Int32) * x1) + x2) 2000 = true then some ((r84 ((((10 : Int32) * x1) + x2).toNatClampNeg)), o4.2.1, o4.2.2, r80, r81, r82, r83, r84, r85, r86) else none) else (if mj_ib (((10 : Int32) * x1) + x2) 2000 = true then some ((r85 ((((10 : Int32) * x1) + x2).toNatClampNeg)), o4.2.1, o4.2.2, r80, r81, r82, r83, r84, r85, r86) else none)))))))
def jnX11_arc_55 (F : Nat) (r73 : Nat → Int32) (r75 : Nat → Int32) (r87 : Nat → Int32) (x1 : Int32) (x2 : Int32) (x3 : Int32) (r71 : Nat → Int32) (r72 : Nat → Int32) (r80 : Nat → Int32) (r81 : Nat → Int32) (r82 : Nat → Int32) (r83 : Nat → Int32) (r84 : Nat → Int32) (r85 : Nat → Int32) (r86 : Nat → Int32) : Option ((Int32) × (Nat → Int32) × (Nat → Int32) × (Nat → Int32) × (Nat → Int32) × (Nat → Int32) × (Nat → Int32) × (Nat → Int32) × (Nat → Int32) × (Nat → Int32)) := jnX11_arc_56 F r73 r75 r87 x1 x2 x3 (0 : Int32) r71 r72 r80 r81 r82 r83 r84 r85 r86
def jnX11_arc_41 (F : Nat) (r73 : Nat → Int32) (r75 : Nat → Int32) (r87 : Nat → Int32) (x1 : Int32) (x2 : Int32) (x3 : Int32) (t1 : Int64) (t2 : Int64) (t4 : Int32) (r71 : Nat → Int32) (r72 : Nat → Int32) (r80 : Nat → Int32) (r81 : Nat → Int32) (r82 : Nat → Int32) (r83 : Nat → Int32) (r84 : Nat → Int32) (r85 : Nat → Int32) (r86 : Nat → Int32) : Option ((Int32) × (Nat → Int32) × (Nat → Int32) × (Nat → Int32) × (Nat → Int32) × (Nat → Int32) × (Nat → Int32) × (Nat → Int32) × (Nat → Int32) × (Nat → Int32)) := (if mj_ib t4 200 = true then (fnX11_lies F t1 t2 (((r83 t4.toNatClampNeg) - (1 : Int32)).toInt64)).bind (fun o10 => (if o10 = 0 then jnX11_arc_55 F r73 r75 r87 x1 x2 x3 r71 r72 r80 r81 r82 r83 r84 r85 r86 else jnX11_arc_56 F r73 r75 r87 x1 x2 x3 (1 : Int32) r71 r72 r80 r81 r82 r83 r84 r85 r86)) else none)
def fnX11_arc (F : Nat) (r71 : Nat → Int32) (r72 : Nat → Int32) (r73 : Nat → Int32) (r75 : Nat → Int32) (r80 : Nat → Int32) (r81 : Nat → Int32) (r82 : Nat → Int32) (r83 : Nat → Int32) (r84 : Nat → Int32) (r85 : Nat → Int32) (r86 : Nat → Int32) (r87 : Nat → Int32) (x1 : Int32) (x2 : Int32) (x3 : Int32) : Option ((Int32) × (Nat → Int32) × (Nat → Int32) × (Nat → Int32) × (Nat → Int32) × (Nat → Int32) × (Nat → Int32) × (Nat → Int32) × (Nat → Int32) × (Nat → Int32)) := (fnX11_isFew F (upd r71 0 (0 : Int32)) r72 r73 r75 r80 r81 r82 r83 r84 r85 r86 r87).bind (fun o12 => (if o12.1 = 0 then some ((0 : Int32), o12.2.1, o12.2.2.1, o12.2.2.2.1, o12.2.2.2.2.1, o12.2.2.2.2.2.1, o12.2.2.2.2.2.2.1, o12.2.2.2.2.2.2.2.1, o12.2.2.2.2.2.2.2.2.1, o12.2.2.2.2.2.2.2.2.2) else (fnX11_isState F o12.2.1 x1).bind (fun o14 => (if o14 = 0 then jnX11_arc_55 F r73 r75 r87 x1 x2 x3 o12.2.1 o12.2.2.1 o12.2.2.2.1 o12.2.2.2.2.1 o12.2.2.2.2.2.1 o12.2.2.2.2.2.2.1 o12.2.2.2.2.2.2.2.1 o12.2.2.2.2.2.2.2.2.1 o12.2.2.2.2.2.2.2.2.2 else (fnX11_isState F o12.2.1 x1).bind (fun o16 => (if o16 = 0 then jnX11_arc_41 F r73 r75 r87 x1 x2 x3 x2.toInt64 (0 : Int64) (0 : Int32) o12.2.1 o12.2.2.1 o12.2.2.2.1 o12.2.2.2.2.1 o12.2.2.2.2.2.1 o12.2.2.2.2.2.2.1 o12.2.2.2.2.2.2.2.1 o12.2.2.2.2.2.2.2.2.1 o12.2.2.2.2.2.2.2.2.2 else jnX11_arc_41 F r73 r75 r87 x1 x2 x3 x2.toInt64 (0 : Int64) x1 o12.2.1 o12.2.2.1 o12.2.2.2.1 o12.2.2.2.2.1 o12.2.2.2.2.2.1 o12.2.2.2.2.2.2.1 o12.2.2.2.2.2.2.2.1 o12.2.2.2.2.2.2.2.2.1 o12.2.2.2.2.2.2.2.2.2))))))
set_option maxRecDepth 100000 in
set_option maxHeartbeats 4000000 in
theorem jtX11_arc_56 {X : mj_XT} {l : Launch} {G : mj_GT} {ad : Nat → Nat} {Qn : Option Value → mj_IT → mj_LT → Prop} (hR : mj_R X l G mj_P0 mj_S0 98 ad 0 0 Qn) (F : Nat) (I : mj_IT) (L : mj_LT) (r71 : Nat → Int32) (r72 : Nat → Int32) (r73 : Nat → Int32) (r75 : Nat → Int32) (r80 : Nat → Int32) (r81 : Nat → Int32) (r82 : Nat → Int32) (r83 : Nat → Int32) (r84 : Nat → Int32) (r85 : Nat → Int32) (r86 : Nat → Int32) (r87 : Nat → Int32) (x1 : Int32) (x2 : Int32) (x3 : Int32) (t1 : Int32) (o : ((Int32) × (Nat → Int32) × (Nat → Int32) × (Nat → Int32) × (Nat → Int32) × (Nat → Int32) × (Nat → Int32) × (Nat → Int32) × (Nat → Int32) × (Nat → Int32))) (hf : jnX11_arc_56 F r73 r75 r87 x1 x2 x3 t1 r71 r72 r80 r81 r82 r83 r84 r85 r86 = some o) (hq : (mj_u2 (fun ov => (mj_u2 (fun r71 => (mj_u2 (fun r72 => (mj_u2 (fun r80 => (mj_u2 (fun r81 => (mj_u2 (fun r82 => (mj_u2 (fun r83 => (mj_u2 (fun r84 => (mj_u2 (fun r85 r86 => Qn (some (.int ov)) (mj_rows I [(71, r71), (72, r72), (73, r73), (75, r75), (80, r80), (81, r81), (82, r82), (83, r83), (84, r84), (85, r85), (86, r86), (87, r87)]) L)))))))))))))))))) o) : mj_W X G RX11 "arc" cX11_arc 4 8 (some .int) mj_P0 mj_S0 98 ad 0 0 56 [(0, .ref 71), (1, .int x1), (2, .int x2), (3, .int x3)] [.int t1, .ref 71] (mj_rows I [(71, r71), (72, r72), (73, r73), (75, r75), (80, r80), (81, r81), (82, r82), (83, r83), (84, r84), (85, r85), (86, r86), (87, r87)]) L := by
  unfold jnX11_arc_56 at hf
  refine mj_iconst dX11_arc_56 kc_iconst_2 ?_
  refine mj_iconst dX11_arc_57 kc_iconst_0 ?_
  obtain ⟨o1, ho1, hf⟩ := mj_bd hf
  refine mj_callVd (I2 := (mj_rows I [(71, o1.2.1), (72, o1.2.2), (73, r73), (75, r75), (80, r80), (81, r81), (82, r82), (83, r83), (84, r84), (85, r85), (86, r86), (87, r87)])) (L2 := L) (s1 := [.int o1.1]) (st := []) [.int t1, .int (2 : Int32), .int (0 : Int32)] (cmX11_isFine X.2.1 G F t1 (2 : Int32) (0 : Int32) _ _ r71 r72 rfl rfl o1 ho1) (mj_rr rfl) rfl cw_X11_161 s0_71 a0_71 (by decide) rfl rfl (Nat.le_of_ble_eq_true rfl) ⟨Nat.zero_le _, Nat.zero_le _⟩ dX11_arc_58 rfl ?_
  refine mj_if_eq 80 dX11_arc_61 (by decide) (fun c2 => ?_) (fun c2 => ?_)
  · replace hf := mj_pos c2 hf
    refine mj_iconst dX11_arc_80 kc_iconst_0 ?_
    obtain rfl := Option.some.inj hf
    have hZ := hq
    replace hZ := mj_u2p hZ
    replace hZ := mj_u2p hZ
    replace hZ := mj_u2p hZ
    replace hZ := mj_u2p hZ
    replace hZ := mj_u2p hZ
    replace hZ := mj_u2p hZ
    replace hZ := mj_u2p hZ
    replace hZ := mj_u2p hZ
    replace hZ := mj_u2p hZ
    exact mj_iret hR ⟨Nat.le_refl _, Nat.le_refl _⟩ rfl rfl dX11_arc_81 hZ
  · replace hf := mj_neg c2 hf
    refine mj_aload_n 0 dX11_arc_64 rfl ?_
    refine mj_iload_n 3 dX11_arc_65 rfl ?_
    refine mj_i2l dX11_arc_66 ?_
    refine mj_lconst (v := 0) dX11_arc_67 (by decide) ?_
    refine mj_lconst (v := 1) dX11_arc_68 (by decide) ?_
    obtain ⟨o3, ho3, hf⟩ := mj_bd hf
    refine mj_callSd (I2 := (mj_rows I [(71, o1.2.1), (72, o1.2.2), (73, r73), (75, r75), (80, r80), (81, r81), (82, r82), (83, r83), (84, r84), (85, r85), (86, r86), (87, r87)])) (L2 := L) (s1 := [.int o3, .ref 71]) (st := [.ref 71]) [.long x3.toInt64, .long (0 : Int64), .long (1 : Int64)] (cmX11_lies X.2.1 G F x3.toInt64 (0 : Int64) (1 : Int64) _ _   o3 ho3) rfl rfl cw_X11_157 (by decide) rfl rfl (Nat.le_of_ble_eq_true rfl) ⟨Nat.zero_le _, Nat.zero_le _⟩ dX11_arc_69 rfl ?_
    refine mj_iconst dX11_arc_72 kc_iconst_3 ?_
    refine mj_iconst dX11_arc_73 kc_iconst_1 ?_
    obtain ⟨o4, ho4, hf⟩ := mj_bd hf
    refine mj_callVd (I2 := (mj_rows I [(71, o4.2.1), (72, o4.2.2), (73, r73), (75, r75), (80, r80), (81, r81), (82, r82), (83, r83), (84, r84), (85, r85), (86, r86), (87, r87)])) (L2 := L) (s1 := [.int o4.1]) (st := []) [.int o3, .int (3 : Int32), .int (1 : Int32)] (cmX11_isFine X.2.1 G F o3 (3 : Int32) (1 : Int32) _ _ o1.2.1 o1.2.2 rfl rfl o4 ho4) (mj_rr rfl) rfl cw_X11_161 s0_71 a0_71 (by decide) rfl rfl (Nat.le_of_ble_eq_true rfl) ⟨Nat.zero_le _, Nat.zero_le _⟩ dX11_arc_74 rfl ?_
    refine mj_if_ne 82 dX11_arc_77 (by decide) (fun c5 => ?_) (fun c5 => ?_)
    · replace hf := mj_neg c5 hf
      refine mj_iload_n 3 dX11_arc_82 rfl ?_
      refine mj_if_ne 100 dX11_arc_83 (by decide) (fun c6 => ?_) (fun c6 => ?_)
      · replace hf := mj_neg c6 hf
        refine mj_aload_n 0 dX11_arc_100 rfl ?_
        refine mj_getP p0_71_32 (by decide) fl_X11_254 rfl s0_71 a0_71 dX11_arc_101 ?_
        refine mj_bipush dX11_arc_104 kc_bipush_10 ?_
        refine mj_iload_n 1 dX11_arc_106 rfl ?_
        refine mj_imul dX11_arc_107 ?_
        refine mj_iload_n 2 dX11_arc_108 rfl ?_
        refine mj_iadd dX11_arc_109 ?_
        obtain ⟨z7, hf⟩ := mj_ck hf
        refine mj_ialdv (x := r85) rfl s0_85 a0_85 z7 dX11_arc_110 ?_
        obtain rfl := Option.some.inj hf
        have hZ := hq
        replace hZ := mj_u2p hZ
        replace hZ := mj_u2p hZ
        replace hZ := mj_u2p hZ
        replace hZ := mj_u2p hZ
        replace hZ := mj_u2p hZ
        replace hZ := mj_u2p hZ
        replace hZ := mj_u2p hZ
        replace hZ := mj_u2p hZ
        replace hZ := mj_u2p hZ
        exact mj_iret hR ⟨Nat.le_refl _, Nat.le_refl _⟩ rfl rfl dX11_arc_111 hZ
      · replace hf := mj_pos c6 hf
        refine mj_aload_n 0 dX11_arc_86 rfl ?_
        refine mj_getP p0_71_31 (by decide) fl_X11_248 rfl s0_71 a0_71 dX11_arc_87 ?_
        refine mj_bipush dX11_arc_90 kc_bipush_10 ?_
        refine mj_iload_n 1 dX11_arc_92 rfl ?_
        refine mj_imul dX11_arc_93 ?_
        refine mj_iload_n 2 dX11_arc_94 rfl ?_
        refine mj_iadd dX11_arc_95 ?_
        obtain ⟨z8, hf⟩ := mj_ck hf
        refine mj_ialdv (x := r84) rfl s0_84 a0_84 z8 dX11_arc_96 ?_
        refine mj_goto 111 dX11_arc_97 (by decide) ?_
        obtain rfl := Option.some.inj hf
        have hZ := hq
        replace hZ := mj_u2p hZ
        replace hZ := mj_u2p hZ
        replace hZ := mj_u2p hZ
        replace hZ := mj_u2p hZ
        replace hZ := mj_u2p hZ
        replace hZ := mj_u2p hZ
        replace hZ := mj_u2p hZ
        replace hZ := mj_u2p hZ
        replace hZ := mj_u2p hZ
        exact mj_iret hR ⟨Nat.le_refl _, Nat.le_refl _⟩ rfl rfl dX11_arc_111 hZ
    · replace hf := mj_pos c5 hf
      refine mj_iconst dX11_arc_80 kc_iconst_0 ?_
      obtain rfl := Option.some.inj hf
      have hZ := hq
      replace hZ := mj_u2p hZ
      replace hZ := mj_u2p hZ
      replace hZ := mj_u2p hZ
      replace hZ := mj_u2p hZ
      replace hZ := mj_u2p hZ
      replace hZ := mj_u2p hZ
      replace hZ := mj_u2p hZ
      replace hZ := mj_u2p hZ
      replace hZ := mj_u2p hZ
      exact mj_iret hR ⟨Nat.le_refl _, Nat.le_refl _⟩ rfl rfl dX11_arc_81 hZ
set_option maxRecDepth 100000 in
set_option maxHeartbeats 4000000 in
theorem jtX11_arc_55 {X : mj_XT} {l : Launch} {G : mj_GT} {ad : Nat → Nat} {Qn : Option Value → mj_IT → mj_LT → Prop} (hR : mj_R X l G mj_P0 mj_S0 98 ad 0 0 Qn) (F : Nat) (I : mj_IT) (L : mj_LT) (r71 : Nat → Int32) (r72 : Nat → Int32) (r73 : Nat → Int32) (r75 : Nat → Int32) (r80 : Nat → Int32) (r81 : Nat → Int32) (r82 : Nat → Int32) (r83 : Nat → Int32) (r84 : Nat → Int32) (r85 : Nat → Int32) (r86 : Nat → Int32) (r87 : Nat → Int32) (x1 : Int32) (x2 : Int32) (x3 : Int32) (o : ((Int32) × (Nat → Int32) × (Nat → Int32) × (Nat → Int32) × (Nat → Int32) × (Nat → Int32) × (Nat → Int32) × (Nat → Int32) × (Nat → Int32) × (Nat → Int32))) (hf : jnX11_arc_55 F r73 r75 r87 x1 x2 x3 r71 r72 r80 r81 r82 r83 r84 r85 r86 = some o) (hq : (mj_u2 (fun ov => (mj_u2 (fun r71 => (mj_u2 (fun r72 => (mj_u2 (fun r80 => (mj_u2 (fun r81 => (mj_u2 (fun r82 => (mj_u2 (fun r83 => (mj_u2 (fun r84 => (mj_u2 (fun r85 r86 => Qn (some (.int ov)) (mj_rows I [(71, r71), (72, r72), (73, r73), (75, r75), (80, r80), (81, r81), (82, r82), (83, r83), (84, r84), (85, r85), (86, r86), (87, r87)]) L)))))))))))))))))) o) : mj_W X G RX11 "arc" cX11_arc 4 8 (some .int) mj_P0 mj_S0 98 ad 0 0 55 [(0, .ref 71), (1, .int x1), (2, .int x2), (3, .int x3)] [.ref 71] (mj_rows I [(71, r71), (72, r72), (73, r73), (75, r75), (80, r80), (81, r81), (82, r82), (83, r83), (84, r84), (85, r85), (86, r86), (87, r87)]) L := by
  unfold jnX11_arc_55 at hf
  refine mj_iconst dX11_arc_55 kc_iconst_0 ?_
  exact jtX11_arc_56 hR F I L r71 r72 r73 r75 r80 r81 r82 r83 r84 r85 r86 r87 x1 x2 x3 (0 : Int32) o hf hq
set_option maxRecDepth 100000 in
set_option maxHeartbeats 4000000 in
theorem jtX11_arc_41 {X : mj_XT} {l : Launch} {G : mj_GT} {ad : Nat → Nat} {Qn : Option Value → mj_IT → mj_LT → Prop} (hR : mj_R X l G mj_P0 mj_S0 98 ad 0 0 Qn) (F : Nat) (I : mj_IT) (L : mj_LT) (r71 : Nat → Int32) (r72 : Nat → Int32) (r73 : Nat → Int32) (r75 : Nat → Int32) (r80 : Nat → Int32) (r81 : Nat → Int32) (r82 : Nat → Int32) (r83 : Nat → Int32) (r84 : Nat → Int32) (r85 : Nat → Int32) (r86 : Nat → Int32) (r87 : Nat → Int32) (x1 : Int32) (x2 : Int32) (x3 : Int32) (t1 : Int64) (t2 : Int64) (t4 : Int32) (o : ((Int32) × (Nat → Int32) × (Nat → Int32) × (Nat → Int32) × (Nat → Int32) × (Nat → Int32) × (Nat → Int32) × (Nat → Int32) × (Nat → Int32) × (Nat → Int32))) (hf : jnX11_arc_41 F r73 r75 r87 x1 x2 x3 t1 t2 t4 r71 r72 r80 r81 r82 r83 r84 r85 r86 = some o) (hq : (mj_u2 (fun ov => (mj_u2 (fun r71 => (mj_u2 (fun r72 => (mj_u2 (fun r80 => (mj_u2 (fun r81 => (mj_u2 (fun r82 => (mj_u2 (fun r83 => (mj_u2 (fun r84 => (mj_u2 (fun r85 r86 => Qn (some (.int ov)) (mj_rows I [(71, r71), (72, r72), (73, r73), (75, r75), (80, r80), (81, r81), (82, r82), (83, r83), (84, r84), (85, r85), (86, r86), (87, r87)]) L)))))))))))))))))) o) : mj_W X G RX11 "arc" cX11_arc 4 8 (some .int) mj_P0 mj_S0 98 ad 0 0 41 [(0, .ref 71), (1, .int x1), (2, .int x2), (3, .int x3)] [.int t4, .ref 83, .long t2, .long t1, .ref 71] (mj_rows I [(71, r71), (72, r72), (73, r73), (75, r75), (80, r80), (81, r81), (82, r82), (83, r83), (84, r84), (85, r85), (86, r86), (87, r87)]) L := by
  unfold jnX11_arc_41 at hf
  obtain ⟨z9, hf⟩ := mj_ck hf
  refine mj_ialdv (x := r83) rfl s0_83 a0_83 z9 dX11_arc_41 ?_
  refine mj_iconst dX11_arc_42 kc_iconst_1 ?_
  refine mj_isub dX11_arc_43 ?_
  refine mj_i2l dX11_arc_44 ?_
  obtain ⟨o10, ho10, hf⟩ := mj_bd hf
  refine mj_callSd (I2 := (mj_rows I [(71, r71), (72, r72), (73, r73), (75, r75), (80, r80), (81, r81), (82, r82), (83, r83), (84, r84), (85, r85), (86, r86), (87, r87)])) (L2 := L) (s1 := [.int o10, .ref 71]) (st := [.ref 71]) [.long t1, .long t2, .long (((r83 t4.toNatClampNeg) - (1 : Int32)).toInt64)] (cmX11_lies X.2.1 G F t1 t2 (((r83 t4.toNatClampNeg) - (1 : Int32)).toInt64) _ _   o10 ho10) rfl rfl cw_X11_157 (by decide) rfl rfl (Nat.le_of_ble_eq_true rfl) ⟨Nat.zero_le _, Nat.zero_le _⟩ dX11_arc_45 rfl ?_
  refine mj_if_eq 55 dX11_arc_48 (by decide) (fun c11 => ?_) (fun c11 => ?_)
  · replace hf := mj_pos c11 hf
    exact jtX11_arc_55 hR F I L r71 r72 r73 r75 r80 r81 r82 r83 r84 r85 r86 r87 x1 x2 x3 o hf hq
  · replace hf := mj_neg c11 hf
    refine mj_iconst dX11_arc_51 kc_iconst_1 ?_
    refine mj_goto 56 dX11_arc_52 (by decide) ?_
    exact jtX11_arc_56 hR F I L r71 r72 r73 r75 r80 r81 r82 r83 r84 r85 r86 r87 x1 x2 x3 (1 : Int32) o hf hq
set_option maxRecDepth 100000 in
set_option maxHeartbeats 4000000 in
theorem mtX11_arc {X : mj_XT} {l : Launch} {G : mj_GT} {ad : Nat → Nat} {Qn : Option Value → mj_IT → mj_LT → Prop} (hR : mj_R X l G mj_P0 mj_S0 98 ad 0 0 Qn) (F : Nat) (I : mj_IT) (L : mj_LT) (r71 : Nat → Int32) (r72 : Nat → Int32) (r73 : Nat → Int32) (r75 : Nat → Int32) (r80 : Nat → Int32) (r81 : Nat → Int32) (r82 : Nat → Int32) (r83 : Nat → Int32) (r84 : Nat → Int32) (r85 : Nat → Int32) (r86 : Nat → Int32) (r87 : Nat → Int32) (x1 : Int32) (x2 : Int32) (x3 : Int32) (o : ((Int32) × (Nat → Int32) × (Nat → Int32) × (Nat → Int32) × (Nat → Int32) × (Nat → Int32) × (Nat → Int32) × (Nat → Int32) × (Nat → Int32) × (Nat → Int32))) (hf : fnX11_arc F r71 r72 r73 r75 r80 r81 r82 r83 r84 r85 r86 r87 x1 x2 x3 = some o) (hq : (mj_u2 (fun ov => (mj_u2 (fun r71 => (mj_u2 (fun r72 => (mj_u2 (fun r80 => (mj_u2 (fun r81 => (mj_u2 (fun r82 => (mj_u2 (fun r83 => (mj_u2 (fun r84 => (mj_u2 (fun r85 r86 => Qn (some (.int ov)) (mj_rows I [(71, r71), (72, r72), (73, r73), (75, r75), (80, r80), (81, r81), (82, r82), (83, r83), (84, r84), (85, r85), (86, r86), (87, r87)]) L)))))))))))))))))) o) : mj_W X G RX11 "arc" cX11_arc 4 8 (some .int) mj_P0 mj_S0 98 ad 0 0 0 [(0, .ref 71), (1, .int x1), (2, .int x2), (3, .int x3)] [] (mj_rows I [(71, r71), (72, r72), (73, r73), (75, r75), (80, r80), (81, r81), (82, r82), (83, r83), (84, r84), (85, r85), (86, r86), (87, r87)]) L := by
  unfold fnX11_arc at hf
  refine mj_aload_n 0 dX11_arc_0 rfl ?_
  refine mj_iconst dX11_arc_1 kc_iconst_0 ?_
  refine mj_putIr (ci := 9) (j := 0) [(71, (upd r71 0 (0 : Int32))), (72, r72), (73, r73), (75, r75), (80, r80), (81, r81), (82, r82), (83, r83), (84, r84), (85, r85), (86, r86), (87, r87)] rfl ⟨rfl, rfl⟩ fl_X11_1 rfl rfl s0_71 a0_71 dX11_arc_2 ?_
  refine mj_aload_n 0 dX11_arc_5 rfl ?_
  obtain ⟨o12, ho12, hf⟩ := mj_bd hf
  refine mj_callVd (I2 := (mj_rows I [(71, o12.2.1), (72, o12.2.2.1), (73, r73), (75, r75), (80, o12.2.2.2.1), (81, o12.2.2.2.2.1), (82, o12.2.2.2.2.2.1), (83, o12.2.2.2.2.2.2.1), (84, o12.2.2.2.2.2.2.2.1), (85, o12.2.2.2.2.2.2.2.2.1), (86, o12.2.2.2.2.2.2.2.2.2), (87, r87)])) (L2 := L) (s1 := [.int o12.1]) (st := []) [] (cmX11_isFew X.2.1 G F  _ _ (upd r71 0 (0 : Int32)) r72 r73 r75 r80 r81 r82 r83 r84 r85 r86 r87 rfl rfl rfl rfl rfl rfl rfl rfl rfl rfl rfl rfl o12 ho12) (mj_rr rfl) rfl cw_X11_335 s0_71 a0_71 (by decide) rfl rfl (Nat.le_of_ble_eq_true rfl) ⟨Nat.zero_le _, Nat.zero_le _⟩ dX11_arc_6 rfl ?_
  refine mj_if_eq 80 dX11_arc_9 (by decide) (fun c13 => ?_) (fun c13 => ?_)
  · replace hf := mj_pos c13 hf
    refine mj_iconst dX11_arc_80 kc_iconst_0 ?_
    obtain rfl := Option.some.inj hf
    have hZ := hq
    replace hZ := mj_u2p hZ
    replace hZ := mj_u2p hZ
    replace hZ := mj_u2p hZ
    replace hZ := mj_u2p hZ
    replace hZ := mj_u2p hZ
    replace hZ := mj_u2p hZ
    replace hZ := mj_u2p hZ
    replace hZ := mj_u2p hZ
    replace hZ := mj_u2p hZ
    exact mj_iret hR ⟨Nat.le_refl _, Nat.le_refl _⟩ rfl rfl dX11_arc_81 hZ
  · replace hf := mj_neg c13 hf
    refine mj_aload_n 0 dX11_arc_12 rfl ?_
    refine mj_aload_n 0 dX11_arc_13 rfl ?_
    refine mj_iload_n 1 dX11_arc_14 rfl ?_
    obtain ⟨o14, ho14, hf⟩ := mj_bd hf
    refine mj_callVd (I2 := (mj_rows I [(71, o12.2.1), (72, o12.2.2.1), (73, r73), (75, r75), (80, o12.2.2.2.1), (81, o12.2.2.2.2.1), (82, o12.2.2.2.2.2.1), (83, o12.2.2.2.2.2.2.1), (84, o12.2.2.2.2.2.2.2.1), (85, o12.2.2.2.2.2.2.2.2.1), (86, o12.2.2.2.2.2.2.2.2.2), (87, r87)])) (L2 := L) (s1 := [.int o14, .ref 71]) (st := [.ref 71]) [.int x1] (cmX11_isState X.2.1 G F x1 _ _ o12.2.1 rfl o14 ho14) (mj_rr rfl) rfl cw_X11_338 s0_71 a0_71 (by decide) rfl rfl (Nat.le_of_ble_eq_true rfl) ⟨Nat.zero_le _, Nat.zero_le _⟩ dX11_arc_15 rfl ?_
    refine mj_if_eq 55 dX11_arc_18 (by decide) (fun c15 => ?_) (fun c15 => ?_)
    · replace hf := mj_pos c15 hf
      exact jtX11_arc_55 hR F I L o12.2.1 o12.2.2.1 r73 r75 o12.2.2.2.1 o12.2.2.2.2.1 o12.2.2.2.2.2.1 o12.2.2.2.2.2.2.1 o12.2.2.2.2.2.2.2.1 o12.2.2.2.2.2.2.2.2.1 o12.2.2.2.2.2.2.2.2.2 r87 x1 x2 x3 o hf hq
    · replace hf := mj_neg c15 hf
      refine mj_iload_n 2 dX11_arc_21 rfl ?_
      refine mj_i2l dX11_arc_22 ?_
      refine mj_lconst (v := 0) dX11_arc_23 (by decide) ?_
      refine mj_aload_n 0 dX11_arc_24 rfl ?_
      refine mj_getP p0_71_30 (by decide) fl_X11_251 rfl s0_71 a0_71 dX11_arc_25 ?_
      refine mj_aload_n 0 dX11_arc_28 rfl ?_
      refine mj_iload_n 1 dX11_arc_29 rfl ?_
      obtain ⟨o16, ho16, hf⟩ := mj_bd hf
      refine mj_callVd (I2 := (mj_rows I [(71, o12.2.1), (72, o12.2.2.1), (73, r73), (75, r75), (80, o12.2.2.2.1), (81, o12.2.2.2.2.1), (82, o12.2.2.2.2.2.1), (83, o12.2.2.2.2.2.2.1), (84, o12.2.2.2.2.2.2.2.1), (85, o12.2.2.2.2.2.2.2.2.1), (86, o12.2.2.2.2.2.2.2.2.2), (87, r87)])) (L2 := L) (s1 := [.int o16, .ref 83, .long (0 : Int64), .long x2.toInt64, .ref 71]) (st := [.ref 83, .long (0 : Int64), .long x2.toInt64, .ref 71]) [.int x1] (cmX11_isState X.2.1 G F x1 _ _ o12.2.1 rfl o16 ho16) (mj_rr rfl) rfl cw_X11_338 s0_71 a0_71 (by decide) rfl rfl (Nat.le_of_ble_eq_true rfl) ⟨Nat.zero_le _, Nat.zero_le _⟩ dX11_arc_30 rfl ?_
      refine mj_if_eq 40 dX11_arc_33 (by decide) (fun c17 => ?_) (fun c17 => ?_)
      · replace hf := mj_pos c17 hf
        refine mj_iconst dX11_arc_40 kc_iconst_0 ?_
        exact jtX11_arc_41 hR F I L o12.2.1 o12.2.2.1 r73 r75 o12.2.2.2.1 o12.2.2.2.2.1 o12.2.2.2.2.2.1 o12.2.2.2.2.2.2.1 o12.2.2.2.2.2.2.2.1 o12.2.2.2.2.2.2.2.2.1 o12.2.2.2.2.2.2.2.2.2 r87 x1 x2 x3 x2.toInt64 (0 : Int64) (0 : Int32) o hf hq
      · replace hf := mj_neg c17 hf
        refine mj_iload_n 1 dX11_arc_36 rfl ?_
        refine mj_goto 41 dX11_arc_37 (by decide) ?_
        exact jtX11_arc_41 hR F I L o12.2.1 o12.2.2.1 r73 r75 o12.2.2.2.1 o12.2.2.2.2.1 o12.2.2.2.2.2.1 o12.2.2.2.2.2.2.1 o12.2.2.2.2.2.2.2.1 o12.2.2.2.2.2.2.2.2.1 o12.2.2.2.2.2.2.2.2.2 r87 x1 x2 x3 x2.toInt64 (0 : Int64) x1 o hf hq
set_option maxRecDepth 100000 in
set_option maxHeartbeats 4000000 in
theorem cmX11_arc (l : Launch) (G : mj_GT) (F : Nat) (x1 : Int32) (x2 : Int32) (x3 : Int32) (I : mj_IT) (L : mj_LT) (r71 : Nat → Int32) (r72 : Nat → Int32) (r73 : Nat → Int32) (r75 : Nat → Int32) (r80 : Nat → Int32) (r81 : Nat → Int32) (r82 : Nat → Int32) (r83 : Nat → Int32) (r84 : Nat → Int32) (r85 : Nat → Int32) (r86 : Nat → Int32) (r87 : Nat → Int32) (hr71 : I 71 = r71) (hr72 : I 72 = r72) (hr73 : I 73 = r73) (hr75 : I 75 = r75) (hr80 : I 80 = r80) (hr81 : I 81 = r81) (hr82 : I 82 = r82) (hr83 : I 83 = r83) (hr84 : I 84 = r84) (hr85 : I 85 = r85) (hr86 : I 86 = r86) (hr87 : I 87 = r87) (o : ((Int32) × (Nat → Int32) × (Nat → Int32) × (Nat → Int32) × (Nat → Int32) × (Nat → Int32) × (Nat → Int32) × (Nat → Int32) × (Nat → Int32) × (Nat → Int32))) (hf : fnX11_arc F r71 r72 r73 r75 r80 r81 r82 r83 r84 r85 r86 r87 x1 x2 x3 = some o) : mj_M l G yX11_arc cX11_arc 4 8 (some .int) 0 0 mj_P0 mj_S0 98 [.ref 71, .int x1, .int x2, .int x3] I L (mj_qd (some (.int o.1)) (mj_rows I [(71, o.2.1), (72, o.2.2.1), (73, r73), (75, r75), (80, o.2.2.2.1), (81, o.2.2.2.2.1), (82, o.2.2.2.2.2.1), (83, o.2.2.2.2.2.2.1), (84, o.2.2.2.2.2.2.2.1), (85, o.2.2.2.2.2.2.2.2.1), (86, o.2.2.2.2.2.2.2.2.2), (87, r87)]) L) := by
  refine mj_in RX11 "arc" [(0, .ref 71), (1, .int x1), (2, .int x2), (3, .int x3)] rfl rfl rfl (by decide) (Nat.le_of_ble_eq_true rfl) (fun X ad hR => ?_)
  refine mj_toI [(71, r71), (72, r72), (73, r73), (75, r75), (80, r80), (81, r81), (82, r82), (83, r83), (84, r84), (85, r85), (86, r86), (87, r87)] (by intro q hq; simp only [List.mem_cons, List.not_mem_nil, or_false] at hq; rcases hq with rfl | rfl | rfl | rfl | rfl | rfl | rfl | rfl | rfl | rfl | rfl | rfl <;> assumption) ?_
  refine mtX11_arc hR F I L r71 r72 r73 r75 r80 r81 r82 r83 r84 r85 r86 r87 x1 x2 x3 o hf ?_
  obtain ⟨w0, w1, w2, w3, w4, w5, w6, w7, w8, w9⟩ := o
  refine mj_u2q ?_
  refine mj_u2q ?_
  refine mj_u2q ?_
  refine mj_u2q ?_
  refine mj_u2q ?_
  refine mj_u2q ?_
  refine mj_u2q ?_
  refine mj_u2q ?_
  refine mj_u2q ?_
  exact ⟨rfl, rfl, rfl⟩

-- X11_total
def jnX11_total_38 (F : Nat) (r73 : Nat → Int32) (r75 : Nat → Int32) (r87 : Nat → Int32) (q97 : Nat → Int64) (x1 : Int32) (x2 : Int32) (t1 : Int32) (r71 : Nat → Int32) (r72 : Nat → Int32) (r80 : Nat → Int32) (r81 : Nat → Int32) (r82 : Nat → Int32) (r83 : Nat → Int32) (r84 : Nat → Int32) (r85 : Nat → Int32) (r86 : Nat → Int32) (r88 : Nat → Int32) (q89 : Nat → Int64) (q90 : Nat → Int64) : Option ((Int32) × (Nat → Int32) × (Nat → Int32) × (Nat → Int32) × (Nat → Int32) × (Nat → Int32) × (Nat → Int32) × (Nat → Int32) × (Nat → Int32) × (Nat → Int32) × (Nat → Int32) × (Nat → Int64) × (Nat → Int64)) := (fnX11_isFine F r71 r72 t1 (2 : Int32) (1 : Int32)).bind (fun o1 => (if o1.1 = 0 then some ((0 : Int32), o1.2.1, o1.2.2, r80, r81, r82, r83, r84, r85, r86, r88, q89, q90) else (fnX11_solves F o1.2.1 r83 r84 r85 r86 r88 q89 q90 q97).bind (fun o3 => (if o3.1 = 0 then some ((-3 : Int32), o3.2.1, o1.2.2, r80, r81, r82, r83, r84, r85, r86, o3.2.2.1, o3.2.2.2.1, o3.2.2.2.2) else (fnX11_ended F o3.2.1 r80 o3.2.2.2.2).bind (fun o5 => (fnX11_sumAt F o3.2.1 r80 o3.2.2.2.2 ((o3.2.1 4) + (1 : Int32))).bind (fun o6 => (if x1 = 0 then (fnX11_formed F o5 x2).bind (fun o11 => some (o11, o3.2.1, o1.2.2, r80, r81, r82, r83, r84, r85, r86, o3.2.2.1, o3.2.2.2.1, o3.2.2.2.2)) else (if x1 = (1 : Int32) then (fnX11_formed F o6 x2).bind (fun o10 => some (o10, o3.2.1, o1.2.2, r80, r81, r82, r83, r84, r85, r86, o3.2.2.1, o3.2.2.2.1, o3.2.2.2.2)) else (fnX11_formed F ((((1996488707 : Int64) - o5) - o6) - (((1996488707 : Int64) - o5) - o6) / (998244353 : Int64) * (998244353 : Int64)) x2).bind (fun o9 => some (o9, o3.2.1, o1.2.2, r80, r81, r82, r83, r84, r85, r86, o3.2.2.1, o3.2.2.2.1, o3.2.2.2.2))))))))))
def jnX11_total_37 (F : Nat) (r73 : Nat → Int32) (r75 : Nat → Int32) (r87 : Nat → Int32) (q97 : Nat → Int64) (x1 : Int32) (x2 : Int32) (r71 : Nat → Int32) (r72 : Nat → Int32) (r80 : Nat → Int32) (r81 : Nat → Int32) (r82 : Nat → Int32) (r83 : Nat → Int32) (r84 : Nat → Int32) (r85 : Nat → Int32) (r86 : Nat → Int32) (r88 : Nat → Int32) (q89 : Nat → Int64) (q90 : Nat → Int64) : Option ((Int32) × (Nat → Int32) × (Nat → Int32) × (Nat → Int32) × (Nat → Int32) × (Nat → Int32) × (Nat → Int32) × (Nat → Int32) × (Nat → Int32) × (Nat → Int32) × (Nat → Int32) × (Nat → Int64) × (Nat → Int64)) := jnX11_total_38 F r73 r75 r87 q97 x1 x2 (0 : Int32) r71 r72 r80 r81 r82 r83 r84 r85 r86 r88 q89 q90
def fnX11_total (F : Nat) (r71 : Nat → Int32) (r72 : Nat → Int32) (r73 : Nat → Int32) (r75 : Nat → Int32) (r80 : Nat → Int32) (r81 : Nat → Int32) (r82 : Nat → Int32) (r83 : Nat → Int32) (r84 : Nat → Int32) (r85 : Nat → Int32) (r86 : Nat → Int32) (r87 : Nat → Int32) (r88 : Nat → Int32) (q89 : Nat → Int64) (q90 : Nat → Int64) (q97 : Nat → Int64) (x1 : Int32) (x2 : Int32) : Option ((Int32) × (Nat → Int32) × (Nat → Int32) × (Nat → Int32) × (Nat → Int32) × (Nat → Int32) × (Nat → Int32) × (Nat → Int32) × (Nat → Int32) × (Nat → Int32) × (Nat → Int32) × (Nat → Int64) × (Nat → Int64)) := (fnX11_isFew F (upd r71 0 (0 : Int32)) r72 r73 r75 r80 r81 r82 r83 r84 r85 r86 r87).bind (fun o12 => (if o12.1 = 0 then some ((0 : Int32), o12.2.1, o12.2.2.1, o12.2.2.2.1, o12.2.2.2.2.1, o12.2.2.2.2.2.1, o12.2.2.2.2.2.2.1, o12.2.2.2.2.2.2.2.1, o12.2.2.2.2.2.2.2.2.1, o12.2.2.2.2.2.2.2.2.2, r88, q89, q90) else (fnX11_lies F x1.toInt64 (0 : Int64) (2 : Int64)).bind (fun o14 => (if o14 = 0 then jnX11_total_37 F r73 r75 r87 q97 x1 x2 o12.2.1 o12.2.2.1 o12.2.2.2.1 o12.2.2.2.2.1 o12.2.2.2.2.2.1 o12.2.2.2.2.2.2.1 o12.2.2.2.2.2.2.2.1 o12.2.2.2.2.2.2.2.2.1 o12.2.2.2.2.2.2.2.2.2 r88 q89 q90 else (fnX11_isForm F x2).bind (fun o16 => (if o16 = 0 then jnX11_total_37 F r73 r75 r87 q97 x1 x2 o12.2.1 o12.2.2.1 o12.2.2.2.1 o12.2.2.2.2.1 o12.2.2.2.2.2.1 o12.2.2.2.2.2.2.1 o12.2.2.2.2.2.2.2.1 o12.2.2.2.2.2.2.2.2.1 o12.2.2.2.2.2.2.2.2.2 r88 q89 q90 else jnX11_total_38 F r73 r75 r87 q97 x1 x2 (1 : Int32) o12.2.1 o12.2.2.1 o12.2.2.2.1 o12.2.2.2.2.1 o12.2.2.2.2.2.1 o12.2.2.2.2.2.2.1 o12.2.2.2.2.2.2.2.1 o12.2.2.2.2.2.2.2.2.1 o12.2.2.2.2.2.2.2.2.2 r88 q89 q90))))))
set_option maxRecDepth 100000 in
set_option maxHeartbeats 4000000 in
theorem jtX11_total_38 {X : mj_XT} {l : Launch} {G : mj_GT} {ad : Nat → Nat} {Qn : Option Value → mj_IT → mj_LT → Prop} (hR : mj_R X l G mj_P0 mj_S0 98 ad 0 0 Qn) (F : Nat) (I : mj_IT) (L : mj_LT) (r71 : Nat → Int32) (r72 : Nat → Int32) (r73 : Nat → Int32) (r75 : Nat → Int32) (r80 : Nat → Int32) (r81 : Nat → Int32) (r82 : Nat → Int32) (r83 : Nat → Int32) (r84 : Nat → Int32) (r85 : Nat → Int32) (r86 : Nat → Int32) (r87 : Nat → Int32) (r88 : Nat → Int32) (q89 : Nat → Int64) (q90 : Nat → Int64) (q97 : Nat → Int64) (x1 : Int32) (x2 : Int32) (t1 : Int32) (o : ((Int32) × (Nat → Int32) × (Nat → Int32) × (Nat → Int32) × (Nat → Int32) × (Nat → Int32) × (Nat → Int32) × (Nat → Int32) × (Nat → Int32) × (Nat → Int32) × (Nat → Int32) × (Nat → Int64) × (Nat → Int64))) (hf : jnX11_total_38 F r73 r75 r87 q97 x1 x2 t1 r71 r72 r80 r81 r82 r83 r84 r85 r86 r88 q89 q90 = some o) (hq : (mj_u2 (fun ov => (mj_u2 (fun r71 => (mj_u2 (fun r72 => (mj_u2 (fun r80 => (mj_u2 (fun r81 => (mj_u2 (fun r82 => (mj_u2 (fun r83 => (mj_u2 (fun r84 => (mj_u2 (fun r85 => (mj_u2 (fun r86 => (mj_u2 (fun r88 => (mj_u2 (fun q89 q90 => Qn (some (.int ov)) (mj_rows I [(71, r71), (72, r72), (73, r73), (75, r75), (80, r80), (81, r81), (82, r82), (83, r83), (84, r84), (85, r85), (86, r86), (87, r87), (88, r88)]) (mj_rows L [(89, q89), (90, q90), (97, q97)]))))))))))))))))))))))))) o) : mj_W X G RX11 "total" cX11_total 7 8 (some .int) mj_P0 mj_S0 98 ad 0 0 38 [(0, .ref 71), (1, .int x1), (2, .int x2)] [.int t1, .ref 71] (mj_rows I [(71, r71), (72, r72), (73, r73), (75, r75), (80, r80), (81, r81), (82, r82), (83, r83), (84, r84), (85, r85), (86, r86), (87, r87), (88, r88)]) (mj_rows L [(89, q89), (90, q90), (97, q97)]) := by
  unfold jnX11_total_38 at hf
  refine mj_iconst dX11_total_38 kc_iconst_2 ?_
  refine mj_iconst dX11_total_39 kc_iconst_1 ?_
  obtain ⟨o1, ho1, hf⟩ := mj_bd hf
  refine mj_callVd (I2 := (mj_rows I [(71, o1.2.1), (72, o1.2.2), (73, r73), (75, r75), (80, r80), (81, r81), (82, r82), (83, r83), (84, r84), (85, r85), (86, r86), (87, r87), (88, r88)])) (L2 := (mj_rows L [(89, q89), (90, q90), (97, q97)])) (s1 := [.int o1.1]) (st := []) [.int t1, .int (2 : Int32), .int (1 : Int32)] (cmX11_isFine X.2.1 G F t1 (2 : Int32) (1 : Int32) _ _ r71 r72 rfl rfl o1 ho1) (mj_rr rfl) rfl cw_X11_161 s0_71 a0_71 (by decide) rfl rfl (Nat.le_of_ble_eq_true rfl) ⟨Nat.zero_le _, Nat.zero_le _⟩ dX11_total_40 rfl ?_
  refine mj_if_ne 48 dX11_total_43 (by decide) (fun c2 => ?_) (fun c2 => ?_)
  · replace hf := mj_neg c2 hf
    refine mj_aload_n 0 dX11_total_48 rfl ?_
    obtain ⟨o3, ho3, hf⟩ := mj_bd hf
    refine mj_callVd (I2 := (mj_rows I [(71, o3.2.1), (72, o1.2.2), (73, r73), (75, r75), (80, r80), (81, r81), (82, r82), (83, r83), (84, r84), (85, r85), (86, r86), (87, r87), (88, o3.2.2.1)])) (L2 := (mj_rows L [(89, o3.2.2.2.1), (90, o3.2.2.2.2), (97, q97)])) (s1 := [.int o3.1]) (st := []) [] (cmX11_solves X.2.1 G F  _ _ o1.2.1 r83 r84 r85 r86 r88 q89 q90 q97 rfl rfl rfl rfl rfl rfl rfl rfl rfl o3 ho3) (mj_rr rfl) (mj_rr rfl) cw_X11_344 s0_71 a0_71 (by decide) rfl rfl (Nat.le_of_ble_eq_true rfl) ⟨Nat.zero_le _, Nat.zero_le _⟩ dX11_total_49 rfl ?_
    refine mj_if_ne 58 dX11_total_52 (by decide) (fun c4 => ?_) (fun c4 => ?_)
    · replace hf := mj_neg c4 hf
      refine mj_aload_n 0 dX11_total_58 rfl ?_
      obtain ⟨o5, ho5, hf⟩ := mj_bd hf
      refine mj_callVd (I2 := (mj_rows I [(71, o3.2.1), (72, o1.2.2), (73, r73), (75, r75), (80, r80), (81, r81), (82, r82), (83, r83), (84, r84), (85, r85), (86, r86), (87, r87), (88, o3.2.2.1)])) (L2 := (mj_rows L [(89, o3.2.2.2.1), (90, o3.2.2.2.2), (97, q97)])) (s1 := [.long o5]) (st := []) [] (cmX11_ended X.2.1 G F  _ _ o3.2.1 r80 o3.2.2.2.2 rfl rfl rfl o5 ho5) (mj_rr rfl) (mj_rr rfl) cw_X11_347 s0_71 a0_71 (by decide) rfl rfl (Nat.le_of_ble_eq_true rfl) ⟨Nat.zero_le _, Nat.zero_le _⟩ dX11_total_59 rfl ?_
      refine mj_lstore_n [(3, .long o5), (0, .ref 71), (1, .int x1), (2, .int x2)] dX11_total_62 rfl (by decide) rfl ?_
      refine mj_aload_n 1 dX11_total_63 rfl ?_
      refine mj_aload_n 1 dX11_total_64 rfl ?_
      refine mj_getIv (v := (o3.2.1 4)) rfl fl_X11_172 rfl s0_71 a0_71 dX11_total_65 ?_
      refine mj_iconst dX11_total_68 kc_iconst_1 ?_
      refine mj_iadd dX11_total_69 ?_
      obtain ⟨o6, ho6, hf⟩ := mj_bd hf
      refine mj_callVd (I2 := (mj_rows I [(71, o3.2.1), (72, o1.2.2), (73, r73), (75, r75), (80, r80), (81, r81), (82, r82), (83, r83), (84, r84), (85, r85), (86, r86), (87, r87), (88, o3.2.2.1)])) (L2 := (mj_rows L [(89, o3.2.2.2.1), (90, o3.2.2.2.2), (97, q97)])) (s1 := [.long o6]) (st := []) [.int ((o3.2.1 4) + (1 : Int32))] (cmX11_sumAt X.2.1 G F ((o3.2.1 4) + (1 : Int32)) _ _ o3.2.1 r80 o3.2.2.2.2 rfl rfl rfl o6 ho6) (mj_rr rfl) (mj_rr rfl) cw_X11_319 s0_71 a0_71 (by decide) rfl rfl (Nat.le_of_ble_eq_true rfl) ⟨Nat.zero_le _, Nat.zero_le _⟩ dX11_total_70 rfl ?_
      refine mj_lstore [(5, .long o6), (3, .long o5), (0, .ref 71), (1, .int x1), (2, .int x2)] dX11_total_73 (by decide) rfl ?_
      refine mj_iload_n 3 dX11_total_75 rfl ?_
      refine mj_if_ne 83 dX11_total_76 (by decide) (fun c7 => ?_) (fun c7 => ?_)
      · replace hf := mj_neg c7 hf
        refine mj_iload_n 3 dX11_total_83 rfl ?_
        refine mj_iconst dX11_total_84 kc_iconst_1 ?_
        refine mj_icmp_ne 93 dX11_total_85 (by decide) (fun c8 => ?_) (fun c8 => ?_)
        · replace hf := mj_neg c8 hf
          refine mj_ldc2 kk_X11_351 dX11_total_93 ?_
          refine mj_lload_n 1 dX11_total_96 rfl ?_
          refine mj_lsub dX11_total_97 ?_
          refine mj_lload 0 dX11_total_98 rfl ?_
          refine mj_lsub dX11_total_100 ?_
          refine mj_ldc2 kk_X11_279 dX11_total_101 ?_
          refine mj_lrem dX11_total_104 (by decide) ?_
          refine mj_iload_n 4 dX11_total_105 rfl ?_
          obtain ⟨o9, ho9, hf⟩ := mj_bd hf
          refine mj_callSd (I2 := (mj_rows I [(71, o3.2.1), (72, o1.2.2), (73, r73), (75, r75), (80, r80), (81, r81), (82, r82), (83, r83), (84, r84), (85, r85), (86, r86), (87, r87), (88, o3.2.2.1)])) (L2 := (mj_rows L [(89, o3.2.2.2.1), (90, o3.2.2.2.2), (97, q97)])) (s1 := [.int o9]) (st := []) [.long ((((1996488707 : Int64) - o5) - o6) - (((1996488707 : Int64) - o5) - o6) / (998244353 : Int64) * (998244353 : Int64)), .int x2] (cmX11_formed X.2.1 G F ((((1996488707 : Int64) - o5) - o6) - (((1996488707 : Int64) - o5) - o6) / (998244353 : Int64) * (998244353 : Int64)) x2 _ _   o9 ho9) rfl rfl cw_X11_353 (by decide) rfl rfl (Nat.le_of_ble_eq_true rfl) ⟨Nat.zero_le _, Nat.zero_le _⟩ dX11_total_106 rfl ?_
          obtain rfl := Option.some.inj hf
          have hZ := hq
          replace hZ := mj_u2p hZ
          replace hZ := mj_u2p hZ
          replace hZ := mj_u2p hZ
          replace hZ := mj_u2p hZ
          replace hZ := mj_u2p hZ
          replace hZ := mj_u2p hZ
          replace hZ := mj_u2p hZ
          replace hZ := mj_u2p hZ
          replace hZ := mj_u2p hZ
          replace hZ := mj_u2p hZ
          replace hZ := mj_u2p hZ
          replace hZ := mj_u2p hZ
          exact mj_iret hR ⟨Nat.le_refl _, Nat.le_refl _⟩ rfl rfl dX11_total_109 hZ
        · replace hf := mj_pos c8 hf
          refine mj_lload 0 dX11_total_88 rfl ?_
          refine mj_goto 105 dX11_total_90 (by decide) ?_
          refine mj_iload_n 4 dX11_total_105 rfl ?_
          obtain ⟨o10, ho10, hf⟩ := mj_bd hf
          refine mj_callSd (I2 := (mj_rows I [(71, o3.2.1), (72, o1.2.2), (73, r73), (75, r75), (80, r80), (81, r81), (82, r82), (83, r83), (84, r84), (85, r85), (86, r86), (87, r87), (88, o3.2.2.1)])) (L2 := (mj_rows L [(89, o3.2.2.2.1), (90, o3.2.2.2.2), (97, q97)])) (s1 := [.int o10]) (st := []) [.long o6, .int x2] (cmX11_formed X.2.1 G F o6 x2 _ _   o10 ho10) rfl rfl cw_X11_353 (by decide) rfl rfl (Nat.le_of_ble_eq_true rfl) ⟨Nat.zero_le _, Nat.zero_le _⟩ dX11_total_106 rfl ?_
          obtain rfl := Option.some.inj hf
          have hZ := hq
          replace hZ := mj_u2p hZ
          replace hZ := mj_u2p hZ
          replace hZ := mj_u2p hZ
          replace hZ := mj_u2p hZ
          replace hZ := mj_u2p hZ
          replace hZ := mj_u2p hZ
          replace hZ := mj_u2p hZ
          replace hZ := mj_u2p hZ
          replace hZ := mj_u2p hZ
          replace hZ := mj_u2p hZ
          replace hZ := mj_u2p hZ
          replace hZ := mj_u2p hZ
          exact mj_iret hR ⟨Nat.le_refl _, Nat.le_refl _⟩ rfl rfl dX11_total_109 hZ
      · replace hf := mj_pos c7 hf
        refine mj_lload_n 1 dX11_total_79 rfl ?_
        refine mj_goto 105 dX11_total_80 (by decide) ?_
        refine mj_iload_n 4 dX11_total_105 rfl ?_
        obtain ⟨o11, ho11, hf⟩ := mj_bd hf
        refine mj_callSd (I2 := (mj_rows I [(71, o3.2.1), (72, o1.2.2), (73, r73), (75, r75), (80, r80), (81, r81), (82, r82), (83, r83), (84, r84), (85, r85), (86, r86), (87, r87), (88, o3.2.2.1)])) (L2 := (mj_rows L [(89, o3.2.2.2.1), (90, o3.2.2.2.2), (97, q97)])) (s1 := [.int o11]) (st := []) [.long o5, .int x2] (cmX11_formed X.2.1 G F o5 x2 _ _   o11 ho11) rfl rfl cw_X11_353 (by decide) rfl rfl (Nat.le_of_ble_eq_true rfl) ⟨Nat.zero_le _, Nat.zero_le _⟩ dX11_total_106 rfl ?_
        obtain rfl := Option.some.inj hf
        have hZ := hq
        replace hZ := mj_u2p hZ
        replace hZ := mj_u2p hZ
        replace hZ := mj_u2p hZ
        replace hZ := mj_u2p hZ
        replace hZ := mj_u2p hZ
        replace hZ := mj_u2p hZ
        replace hZ := mj_u2p hZ
        replace hZ := mj_u2p hZ
        replace hZ := mj_u2p hZ
        replace hZ := mj_u2p hZ
        replace hZ := mj_u2p hZ
        replace hZ := mj_u2p hZ
        exact mj_iret hR ⟨Nat.le_refl _, Nat.le_refl _⟩ rfl rfl dX11_total_109 hZ
    · replace hf := mj_pos c4 hf
      refine mj_bipush dX11_total_55 kc_bipush_m3 ?_
      obtain rfl := Option.some.inj hf
      have hZ := hq
      replace hZ := mj_u2p hZ
      replace hZ := mj_u2p hZ
      replace hZ := mj_u2p hZ
      replace hZ := mj_u2p hZ
      replace hZ := mj_u2p hZ
      replace hZ := mj_u2p hZ
      replace hZ := mj_u2p hZ
      replace hZ := mj_u2p hZ
      replace hZ := mj_u2p hZ
      replace hZ := mj_u2p hZ
      replace hZ := mj_u2p hZ
      replace hZ := mj_u2p hZ
      exact mj_iret hR ⟨Nat.le_refl _, Nat.le_refl _⟩ rfl rfl dX11_total_57 hZ
  · replace hf := mj_pos c2 hf
    refine mj_iconst dX11_total_46 kc_iconst_0 ?_
    obtain rfl := Option.some.inj hf
    have hZ := hq
    replace hZ := mj_u2p hZ
    replace hZ := mj_u2p hZ
    replace hZ := mj_u2p hZ
    replace hZ := mj_u2p hZ
    replace hZ := mj_u2p hZ
    replace hZ := mj_u2p hZ
    replace hZ := mj_u2p hZ
    replace hZ := mj_u2p hZ
    replace hZ := mj_u2p hZ
    replace hZ := mj_u2p hZ
    replace hZ := mj_u2p hZ
    replace hZ := mj_u2p hZ
    exact mj_iret hR ⟨Nat.le_refl _, Nat.le_refl _⟩ rfl rfl dX11_total_47 hZ
set_option maxRecDepth 100000 in
set_option maxHeartbeats 4000000 in
theorem jtX11_total_37 {X : mj_XT} {l : Launch} {G : mj_GT} {ad : Nat → Nat} {Qn : Option Value → mj_IT → mj_LT → Prop} (hR : mj_R X l G mj_P0 mj_S0 98 ad 0 0 Qn) (F : Nat) (I : mj_IT) (L : mj_LT) (r71 : Nat → Int32) (r72 : Nat → Int32) (r73 : Nat → Int32) (r75 : Nat → Int32) (r80 : Nat → Int32) (r81 : Nat → Int32) (r82 : Nat → Int32) (r83 : Nat → Int32) (r84 : Nat → Int32) (r85 : Nat → Int32) (r86 : Nat → Int32) (r87 : Nat → Int32) (r88 : Nat → Int32) (q89 : Nat → Int64) (q90 : Nat → Int64) (q97 : Nat → Int64) (x1 : Int32) (x2 : Int32) (o : ((Int32) × (Nat → Int32) × (Nat → Int32) × (Nat → Int32) × (Nat → Int32) × (Nat → Int32) × (Nat → Int32) × (Nat → Int32) × (Nat → Int32) × (Nat → Int32) × (Nat → Int32) × (Nat → Int64) × (Nat → Int64))) (hf : jnX11_total_37 F r73 r75 r87 q97 x1 x2 r71 r72 r80 r81 r82 r83 r84 r85 r86 r88 q89 q90 = some o) (hq : (mj_u2 (fun ov => (mj_u2 (fun r71 => (mj_u2 (fun r72 => (mj_u2 (fun r80 => (mj_u2 (fun r81 => (mj_u2 (fun r82 => (mj_u2 (fun r83 => (mj_u2 (fun r84 => (mj_u2 (fun r85 => (mj_u2 (fun r86 => (mj_u2 (fun r88 => (mj_u2 (fun q89 q90 => Qn (some (.int ov)) (mj_rows I [(71, r71), (72, r72), (73, r73), (75, r75), (80, r80), (81, r81), (82, r82), (83, r83), (84, r84), (85, r85), (86, r86), (87, r87), (88, r88)]) (mj_rows L [(89, q89), (90, q90), (97, q97)]))))))))))))))))))))))))) o) : mj_W X G RX11 "total" cX11_total 7 8 (some .int) mj_P0 mj_S0 98 ad 0 0 37 [(0, .ref 71), (1, .int x1), (2, .int x2)] [.ref 71] (mj_rows I [(71, r71), (72, r72), (73, r73), (75, r75), (80, r80), (81, r81), (82, r82), (83, r83), (84, r84), (85, r85), (86, r86), (87, r87), (88, r88)]) (mj_rows L [(89, q89), (90, q90), (97, q97)]) := by
  unfold jnX11_total_37 at hf
  refine mj_iconst dX11_total_37 kc_iconst_0 ?_
  exact jtX11_total_38 hR F I L r71 r72 r73 r75 r80 r81 r82 r83 r84 r85 r86 r87 r88 q89 q90 q97 x1 x2 (0 : Int32) o hf hq
set_option maxRecDepth 100000 in
set_option maxHeartbeats 4000000 in
theorem mtX11_total {X : mj_XT} {l : Launch} {G : mj_GT} {ad : Nat → Nat} {Qn : Option Value → mj_IT → mj_LT → Prop} (hR : mj_R X l G mj_P0 mj_S0 98 ad 0 0 Qn) (F : Nat) (I : mj_IT) (L : mj_LT) (r71 : Nat → Int32) (r72 : Nat → Int32) (r73 : Nat → Int32) (r75 : Nat → Int32) (r80 : Nat → Int32) (r81 : Nat → Int32) (r82 : Nat → Int32) (r83 : Nat → Int32) (r84 : Nat → Int32) (r85 : Nat → Int32) (r86 : Nat → Int32) (r87 : Nat → Int32) (r88 : Nat → Int32) (q89 : Nat → Int64) (q90 : Nat → Int64) (q97 : Nat → Int64) (x1 : Int32) (x2 : Int32) (o : ((Int32) × (Nat → Int32) × (Nat → Int32) × (Nat → Int32) × (Nat → Int32) × (Nat → Int32) × (Nat → Int32) × (Nat → Int32) × (Nat → Int32) × (Nat → Int32) × (Nat → Int32) × (Nat → Int64) × (Nat → Int64))) (hf : fnX11_total F r71 r72 r73 r75 r80 r81 r82 r83 r84 r85 r86 r87 r88 q89 q90 q97 x1 x2 = some o) (hq : (mj_u2 (fun ov => (mj_u2 (fun r71 => (mj_u2 (fun r72 => (mj_u2 (fun r80 => (mj_u2 (fun r81 => (mj_u2 (fun r82 => (mj_u2 (fun r83 => (mj_u2 (fun r84 => (mj_u2 (fun r85 => (mj_u2 (fun r86 => (mj_u2 (fun r88 => (mj_u2 (fun q89 q90 => Qn (some (.int ov)) (mj_rows I [(71, r71), (72, r72), (73, r73), (75, r75), (80, r80), (81, r81), (82, r82), (83, r83), (84, r84), (85, r85), (86, r86), (87, r87), (88, r88)]) (mj_rows L [(89, q89), (90, q90), (97, q97)]))))))))))))))))))))))))) o) : mj_W X G RX11 "total" cX11_total 7 8 (some .int) mj_P0 mj_S0 98 ad 0 0 0 [(0, .ref 71), (1, .int x1), (2, .int x2)] [] (mj_rows I [(71, r71), (72, r72), (73, r73), (75, r75), (80, r80), (81, r81), (82, r82), (83, r83), (84, r84), (85, r85), (86, r86), (87, r87), (88, r88)]) (mj_rows L [(89, q89), (90, q90), (97, q97)]) := by
  unfold fnX11_total at hf
  refine mj_aload_n 0 dX11_total_0 rfl ?_
  refine mj_iconst dX11_total_1 kc_iconst_0 ?_
  refine mj_putIr (ci := 9) (j := 0) [(71, (upd r71 0 (0 : Int32))), (72, r72), (73, r73), (75, r75), (80, r80), (81, r81), (82, r82), (83, r83), (84, r84), (85, r85), (86, r86), (87, r87), (88, r88)] rfl ⟨rfl, rfl⟩ fl_X11_1 rfl rfl s0_71 a0_71 dX11_total_2 ?_
  refine mj_aload_n 0 dX11_total_5 rfl ?_
  obtain ⟨o12, ho12, hf⟩ := mj_bd hf
  refine mj_callVd (I2 := (mj_rows I [(71, o12.2.1), (72, o12.2.2.1), (73, r73), (75, r75), (80, o12.2.2.2.1), (81, o12.2.2.2.2.1), (82, o12.2.2.2.2.2.1), (83, o12.2.2.2.2.2.2.1), (84, o12.2.2.2.2.2.2.2.1), (85, o12.2.2.2.2.2.2.2.2.1), (86, o12.2.2.2.2.2.2.2.2.2), (87, r87), (88, r88)])) (L2 := (mj_rows L [(89, q89), (90, q90), (97, q97)])) (s1 := [.int o12.1]) (st := []) [] (cmX11_isFew X.2.1 G F  _ _ (upd r71 0 (0 : Int32)) r72 r73 r75 r80 r81 r82 r83 r84 r85 r86 r87 rfl rfl rfl rfl rfl rfl rfl rfl rfl rfl rfl rfl o12 ho12) (mj_rr rfl) rfl cw_X11_335 s0_71 a0_71 (by decide) rfl rfl (Nat.le_of_ble_eq_true rfl) ⟨Nat.zero_le _, Nat.zero_le _⟩ dX11_total_6 rfl ?_
  refine mj_if_eq 46 dX11_total_9 (by decide) (fun c13 => ?_) (fun c13 => ?_)
  · replace hf := mj_pos c13 hf
    refine mj_iconst dX11_total_46 kc_iconst_0 ?_
    obtain rfl := Option.some.inj hf
    have hZ := hq
    replace hZ := mj_u2p hZ
    replace hZ := mj_u2p hZ
    replace hZ := mj_u2p hZ
    replace hZ := mj_u2p hZ
    replace hZ := mj_u2p hZ
    replace hZ := mj_u2p hZ
    replace hZ := mj_u2p hZ
    replace hZ := mj_u2p hZ
    replace hZ := mj_u2p hZ
    replace hZ := mj_u2p hZ
    replace hZ := mj_u2p hZ
    replace hZ := mj_u2p hZ
    exact mj_iret hR ⟨Nat.le_refl _, Nat.le_refl _⟩ rfl rfl dX11_total_47 hZ
  · replace hf := mj_neg c13 hf
    refine mj_aload_n 0 dX11_total_12 rfl ?_
    refine mj_iload_n 1 dX11_total_13 rfl ?_
    refine mj_i2l dX11_total_14 ?_
    refine mj_lconst (v := 0) dX11_total_15 (by decide) ?_
    refine mj_ldc2 kk_X11_281 dX11_total_16 ?_
    obtain ⟨o14, ho14, hf⟩ := mj_bd hf
    refine mj_callSd (I2 := (mj_rows I [(71, o12.2.1), (72, o12.2.2.1), (73, r73), (75, r75), (80, o12.2.2.2.1), (81, o12.2.2.2.2.1), (82, o12.2.2.2.2.2.1), (83, o12.2.2.2.2.2.2.1), (84, o12.2.2.2.2.2.2.2.1), (85, o12.2.2.2.2.2.2.2.2.1), (86, o12.2.2.2.2.2.2.2.2.2), (87, r87), (88, r88)])) (L2 := (mj_rows L [(89, q89), (90, q90), (97, q97)])) (s1 := [.int o14, .ref 71]) (st := [.ref 71]) [.long x1.toInt64, .long (0 : Int64), .long (2 : Int64)] (cmX11_lies X.2.1 G F x1.toInt64 (0 : Int64) (2 : Int64) _ _   o14 ho14) rfl rfl cw_X11_157 (by decide) rfl rfl (Nat.le_of_ble_eq_true rfl) ⟨Nat.zero_le _, Nat.zero_le _⟩ dX11_total_19 rfl ?_
    refine mj_if_eq 37 dX11_total_22 (by decide) (fun c15 => ?_) (fun c15 => ?_)
    · replace hf := mj_pos c15 hf
      exact jtX11_total_37 hR F I L o12.2.1 o12.2.2.1 r73 r75 o12.2.2.2.1 o12.2.2.2.2.1 o12.2.2.2.2.2.1 o12.2.2.2.2.2.2.1 o12.2.2.2.2.2.2.2.1 o12.2.2.2.2.2.2.2.2.1 o12.2.2.2.2.2.2.2.2.2 r87 r88 q89 q90 q97 x1 x2 o hf hq
    · replace hf := mj_neg c15 hf
      refine mj_aload_n 0 dX11_total_25 rfl ?_
      refine mj_iload_n 2 dX11_total_26 rfl ?_
      obtain ⟨o16, ho16, hf⟩ := mj_bd hf
      refine mj_callVd (I2 := (mj_rows I [(71, o12.2.1), (72, o12.2.2.1), (73, r73), (75, r75), (80, o12.2.2.2.1), (81, o12.2.2.2.2.1), (82, o12.2.2.2.2.2.1), (83, o12.2.2.2.2.2.2.1), (84, o12.2.2.2.2.2.2.2.1), (85, o12.2.2.2.2.2.2.2.2.1), (86, o12.2.2.2.2.2.2.2.2.2), (87, r87), (88, r88)])) (L2 := (mj_rows L [(89, q89), (90, q90), (97, q97)])) (s1 := [.int o16, .ref 71]) (st := [.ref 71]) [.int x2] (cmX11_isForm X.2.1 G F x2 _ _   o16 ho16) rfl rfl cw_X11_341 s0_71 a0_71 (by decide) rfl rfl (Nat.le_of_ble_eq_true rfl) ⟨Nat.zero_le _, Nat.zero_le _⟩ dX11_total_27 rfl ?_
      refine mj_if_eq 37 dX11_total_30 (by decide) (fun c17 => ?_) (fun c17 => ?_)
      · replace hf := mj_pos c17 hf
        exact jtX11_total_37 hR F I L o12.2.1 o12.2.2.1 r73 r75 o12.2.2.2.1 o12.2.2.2.2.1 o12.2.2.2.2.2.1 o12.2.2.2.2.2.2.1 o12.2.2.2.2.2.2.2.1 o12.2.2.2.2.2.2.2.2.1 o12.2.2.2.2.2.2.2.2.2 r87 r88 q89 q90 q97 x1 x2 o hf hq
      · replace hf := mj_neg c17 hf
        refine mj_iconst dX11_total_33 kc_iconst_1 ?_
        refine mj_goto 38 dX11_total_34 (by decide) ?_
        exact jtX11_total_38 hR F I L o12.2.1 o12.2.2.1 r73 r75 o12.2.2.2.1 o12.2.2.2.2.1 o12.2.2.2.2.2.1 o12.2.2.2.2.2.2.1 o12.2.2.2.2.2.2.2.1 o12.2.2.2.2.2.2.2.2.1 o12.2.2.2.2.2.2.2.2.2 r87 r88 q89 q90 q97 x1 x2 (1 : Int32) o hf hq
set_option maxRecDepth 100000 in
set_option maxHeartbeats 4000000 in
theorem cmX11_total (l : Launch) (G : mj_GT) (F : Nat) (x1 : Int32) (x2 : Int32) (I : mj_IT) (L : mj_LT) (r71 : Nat → Int32) (r72 : Nat → Int32) (r73 : Nat → Int32) (r75 : Nat → Int32) (r80 : Nat → Int32) (r81 : Nat → Int32) (r82 : Nat → Int32) (r83 : Nat → Int32) (r84 : Nat → Int32) (r85 : Nat → Int32) (r86 : Nat → Int32) (r87 : Nat → Int32) (r88 : Nat → Int32) (q89 : Nat → Int64) (q90 : Nat → Int64) (q97 : Nat → Int64) (hr71 : I 71 = r71) (hr72 : I 72 = r72) (hr73 : I 73 = r73) (hr75 : I 75 = r75) (hr80 : I 80 = r80) (hr81 : I 81 = r81) (hr82 : I 82 = r82) (hr83 : I 83 = r83) (hr84 : I 84 = r84) (hr85 : I 85 = r85) (hr86 : I 86 = r86) (hr87 : I 87 = r87) (hr88 : I 88 = r88) (hq89 : L 89 = q89) (hq90 : L 90 = q90) (hq97 : L 97 = q97) (o : ((Int32) × (Nat → Int32) × (Nat → Int32) × (Nat → Int32) × (Nat → Int32) × (Nat → Int32) × (Nat → Int32) × (Nat → Int32) × (Nat → Int32) × (Nat → Int32) × (Nat → Int32) × (Nat → Int64) × (Nat → Int64))) (hf : fnX11_total F r71 r72 r73 r75 r80 r81 r82 r83 r84 r85 r86 r87 r88 q89 q90 q97 x1 x2 = some o) : mj_M l G yX11_total cX11_total 7 8 (some .int) 0 0 mj_P0 mj_S0 98 [.ref 71, .int x1, .int x2] I L (mj_qd (some (.int o.1)) (mj_rows I [(71, o.2.1), (72, o.2.2.1), (73, r73), (75, r75), (80, o.2.2.2.1), (81, o.2.2.2.2.1), (82, o.2.2.2.2.2.1), (83, o.2.2.2.2.2.2.1), (84, o.2.2.2.2.2.2.2.1), (85, o.2.2.2.2.2.2.2.2.1), (86, o.2.2.2.2.2.2.2.2.2.1), (87, r87), (88, o.2.2.2.2.2.2.2.2.2.2.1)]) (mj_rows L [(89, o.2.2.2.2.2.2.2.2.2.2.2.1), (90, o.2.2.2.2.2.2.2.2.2.2.2.2), (97, q97)])) := by
  refine mj_in RX11 "total" [(0, .ref 71), (1, .int x1), (2, .int x2)] rfl rfl rfl (by decide) (Nat.le_of_ble_eq_true rfl) (fun X ad hR => ?_)
  refine mj_toI [(71, r71), (72, r72), (73, r73), (75, r75), (80, r80), (81, r81), (82, r82), (83, r83), (84, r84), (85, r85), (86, r86), (87, r87), (88, r88)] (by intro q hq; simp only [List.mem_cons, List.not_mem_nil, or_false] at hq; rcases hq with rfl | rfl | rfl | rfl | rfl | rfl | rfl | rfl | rfl | rfl | rfl | rfl | rfl <;> assumption) ?_
  refine mj_toL [(89, q89), (90, q90), (97, q97)] (by intro q hq; simp only [List.mem_cons, List.not_mem_nil, or_false] at hq; rcases hq with rfl | rfl | rfl <;> assumption) ?_
  refine mtX11_total hR F I L r71 r72 r73 r75 r80 r81 r82 r83 r84 r85 r86 r87 r88 q89 q90 q97 x1 x2 o hf ?_
  obtain ⟨w0, w1, w2, w3, w4, w5, w6, w7, w8, w9, w10, w11, w12⟩ := o
  refine mj_u2q ?_
  refine mj_u2q ?_
  refine mj_u2q ?_
  refine mj_u2q ?_
  refine mj_u2q ?_
  refine mj_u2q ?_
  refine mj_u2q ?_
  refine mj_u2q ?_
  refine mj_u2q ?_
  refine mj_u2q ?_
  refine mj_u2q ?_
  refine mj_u2q ?_
  exact ⟨rfl, rfl, rfl⟩

-- X11_hasEnd
def bdX11_hasEnd_4 (F : Nat) (r71 : Nat → Int32) (r80 : Nat → Int32) (x1 : Int32) (x2 : Int32) : Option (((Int32) × (Int32)) ⊕ ((Int32))) := (if (r71 24) ≤ x2 then some (.inr x1) else (if x1 = 0 then (fnX11_isEnd F r71 r80 x2).bind (fun o3 => (if o3 = 0 then some (.inl ((0 : Int32), (x2 + (1)))) else some (.inl ((1 : Int32), (x2 + (1)))))) else some (.inl ((1 : Int32), (x2 + (1))))))
def fnX11_hasEnd (F : Nat) (r71 : Nat → Int32) (r72 : Nat → Int32) (r80 : Nat → Int32) : Option ((Int32) × (Nat → Int32) × (Nat → Int32)) := (mj_it (mj_u2 (fun z0 z1 => bdX11_hasEnd_4 F r71 r80 z0 z1)) F ((0 : Int32), (0 : Int32))).bind (fun x1_5 => (fnX11_isFine F r71 r72 x1_5 (1 : Int32) (2 : Int32)).bind (fun o6 => (if mj_bb o6.1 = true then some (o6.1, o6.2.1, o6.2.2) else none)))
set_option maxRecDepth 100000 in
set_option maxHeartbeats 4000000 in
theorem lpX11_hasEnd_4 {X : mj_XT} {l : Launch} {G : mj_GT} {ad : Nat → Nat} {Qn : Option Value → mj_IT → mj_LT → Prop} (hR : mj_R X l G mj_P0 mj_S0 98 ad 0 0 Qn) (F : Nat) (I : mj_IT) (L : mj_LT) (r71 : Nat → Int32) (r72 : Nat → Int32) (r80 : Nat → Int32) : ∀ (n : Nat) (s : ((Int32) × (Int32))) (e : ((Int32))), mj_it (mj_u2 (fun z0 z1 => bdX11_hasEnd_4 F r71 r80 z0 z1)) n s = some e → (fun x1 => mj_W X G RX11 "hasEnd" cX11_hasEnd 3 2 (some .boolean) mj_P0 mj_S0 98 ad 0 0 36 [(0, .ref 71), (1, .int x1)] [] (mj_rows I [(71, r71), (72, r72), (80, r80)]) L) e → (mj_u2 (fun x1 x2 => mj_W X G RX11 "hasEnd" cX11_hasEnd 3 2 (some .boolean) mj_P0 mj_S0 98 ad 0 0 4 [(0, .ref 71), (1, .int x1), (2, .int x2)] [] (mj_rows I [(71, r71), (72, r72), (80, r80)]) L)) s := by
  refine mj_loop (fun s o hf hc hx => ?_)
  obtain ⟨x1, x2⟩ := s
  replace hf := mj_u2e hf
  refine mj_u2q ?_
  unfold bdX11_hasEnd_4 at hf
  refine mj_iload_n 2 dX11_hasEnd_4 rfl ?_
  refine mj_aload_n 0 dX11_hasEnd_5 rfl ?_
  refine mj_getIv (v := (r71 24)) rfl fl_X11_227 rfl s0_71 a0_71 dX11_hasEnd_6 ?_
  refine mj_icmp_ge 36 dX11_hasEnd_9 (by decide) (fun c1 => ?_) (fun c1 => ?_)
  · replace hf := mj_pos c1 hf
    refine mj_sub [0, 1] [(0, .ref 71), (1, .int x1)] rfl ?_
    obtain rfl := Option.some.inj hf
    have hZ := hx x1 rfl
    exact hZ
  · replace hf := mj_neg c1 hf
    refine mj_iload_n 1 dX11_hasEnd_12 rfl ?_
    refine mj_if_ne 24 dX11_hasEnd_13 (by decide) (fun c2 => ?_) (fun c2 => ?_)
    · replace hf := mj_neg c2 hf
      refine mj_iconst dX11_hasEnd_24 kc_iconst_1 ?_
      refine mj_goto 29 dX11_hasEnd_25 (by decide) ?_
      refine mj_istore_n [(1, .int (1 : Int32)), (0, .ref 71), (2, .int x2)] dX11_hasEnd_29 rfl (by decide) rfl ?_
      refine mj_iinc 2 [(2, .int (x2 + (1))), (1, .int (1 : Int32)), (0, .ref 71)] dX11_hasEnd_30 rfl (kz_1 _) (by decide) rfl ?_
      refine mj_goto 4 dX11_hasEnd_33 (by decide) ?_
      refine mj_sub [2, 1, 0] [(0, .ref 71), (1, .int (1 : Int32)), (2, .int (x2 + (1)))] rfl ?_
      obtain rfl := Option.some.inj hf
      have hZ := hc ((1 : Int32), (x2 + (1))) rfl
      replace hZ := mj_u2p hZ
      exact hZ
    · replace hf := mj_pos c2 hf
      refine mj_aload_n 0 dX11_hasEnd_16 rfl ?_
      refine mj_iload_n 2 dX11_hasEnd_17 rfl ?_
      obtain ⟨o3, ho3, hf⟩ := mj_bd hf
      refine mj_callVd (I2 := (mj_rows I [(71, r71), (72, r72), (80, r80)])) (L2 := L) (s1 := [.int o3]) (st := []) [.int x2] (cmX11_isEnd X.2.1 G F x2 _ _ r71 r80 rfl rfl o3 ho3) (mj_rr rfl) rfl cw_X11_330 s0_71 a0_71 (by decide) rfl rfl (Nat.le_of_ble_eq_true rfl) ⟨Nat.zero_le _, Nat.zero_le _⟩ dX11_hasEnd_18 rfl ?_
      refine mj_if_eq 28 dX11_hasEnd_21 (by decide) (fun c4 => ?_) (fun c4 => ?_)
      · replace hf := mj_pos c4 hf
        refine mj_iconst dX11_hasEnd_28 kc_iconst_0 ?_
        refine mj_istore_n [(1, .int (0 : Int32)), (0, .ref 71), (2, .int x2)] dX11_hasEnd_29 rfl (by decide) rfl ?_
        refine mj_iinc 2 [(2, .int (x2 + (1))), (1, .int (0 : Int32)), (0, .ref 71)] dX11_hasEnd_30 rfl (kz_1 _) (by decide) rfl ?_
        refine mj_goto 4 dX11_hasEnd_33 (by decide) ?_
        refine mj_sub [2, 1, 0] [(0, .ref 71), (1, .int (0 : Int32)), (2, .int (x2 + (1)))] rfl ?_
        obtain rfl := Option.some.inj hf
        have hZ := hc ((0 : Int32), (x2 + (1))) rfl
        replace hZ := mj_u2p hZ
        exact hZ
      · replace hf := mj_neg c4 hf
        refine mj_iconst dX11_hasEnd_24 kc_iconst_1 ?_
        refine mj_goto 29 dX11_hasEnd_25 (by decide) ?_
        refine mj_istore_n [(1, .int (1 : Int32)), (0, .ref 71), (2, .int x2)] dX11_hasEnd_29 rfl (by decide) rfl ?_
        refine mj_iinc 2 [(2, .int (x2 + (1))), (1, .int (1 : Int32)), (0, .ref 71)] dX11_hasEnd_30 rfl (kz_1 _) (by decide) rfl ?_
        refine mj_goto 4 dX11_hasEnd_33 (by decide) ?_
        refine mj_sub [2, 1, 0] [(0, .ref 71), (1, .int (1 : Int32)), (2, .int (x2 + (1)))] rfl ?_
        obtain rfl := Option.some.inj hf
        have hZ := hc ((1 : Int32), (x2 + (1))) rfl
        replace hZ := mj_u2p hZ
        exact hZ
set_option maxRecDepth 100000 in
set_option maxHeartbeats 4000000 in
theorem mtX11_hasEnd {X : mj_XT} {l : Launch} {G : mj_GT} {ad : Nat → Nat} {Qn : Option Value → mj_IT → mj_LT → Prop} (hR : mj_R X l G mj_P0 mj_S0 98 ad 0 0 Qn) (F : Nat) (I : mj_IT) (L : mj_LT) (r71 : Nat → Int32) (r72 : Nat → Int32) (r80 : Nat → Int32) (o : ((Int32) × (Nat → Int32) × (Nat → Int32))) (hf : fnX11_hasEnd F r71 r72 r80 = some o) (hq : (mj_u2 (fun ov => (mj_u2 (fun r71 r72 => Qn (some (.int ov)) (mj_rows I [(71, r71), (72, r72), (80, r80)]) L)))) o) : mj_W X G RX11 "hasEnd" cX11_hasEnd 3 2 (some .boolean) mj_P0 mj_S0 98 ad 0 0 0 [(0, .ref 71)] [] (mj_rows I [(71, r71), (72, r72), (80, r80)]) L := by
  unfold fnX11_hasEnd at hf
  refine mj_iconst dX11_hasEnd_0 kc_iconst_0 ?_
  refine mj_istore_n [(1, .int (0 : Int32)), (0, .ref 71)] dX11_hasEnd_1 rfl (by decide) rfl ?_
  refine mj_iconst dX11_hasEnd_2 kc_iconst_0 ?_
  refine mj_istore_n [(2, .int (0 : Int32)), (1, .int (0 : Int32)), (0, .ref 71)] dX11_hasEnd_3 rfl (by decide) rfl ?_
  refine mj_sub [2, 1, 0] [(0, .ref 71), (1, .int (0 : Int32)), (2, .int (0 : Int32))] rfl ?_
  obtain ⟨x1_5, ho5, hf⟩ := mj_bd hf
  refine lpX11_hasEnd_4 hR F I L r71 r72 r80 F ((0 : Int32), (0 : Int32)) x1_5 ho5 ?_
  refine ?_
  refine mj_aload_n 0 dX11_hasEnd_36 rfl ?_
  refine mj_iload_n 1 dX11_hasEnd_37 rfl ?_
  refine mj_iconst dX11_hasEnd_38 kc_iconst_1 ?_
  refine mj_iconst dX11_hasEnd_39 kc_iconst_2 ?_
  obtain ⟨o6, ho6, hf⟩ := mj_bd hf
  refine mj_callVd (I2 := (mj_rows I [(71, o6.2.1), (72, o6.2.2), (80, r80)])) (L2 := L) (s1 := [.int o6.1]) (st := []) [.int x1_5, .int (1 : Int32), .int (2 : Int32)] (cmX11_isFine X.2.1 G F x1_5 (1 : Int32) (2 : Int32) _ _ r71 r72 rfl rfl o6 ho6) (mj_rr rfl) rfl cw_X11_161 s0_71 a0_71 (by decide) rfl rfl (Nat.le_of_ble_eq_true rfl) ⟨Nat.zero_le _, Nat.zero_le _⟩ dX11_hasEnd_40 rfl ?_
  obtain ⟨z7, hf⟩ := mj_ck hf
  obtain rfl := Option.some.inj hf
  have hZ := hq
  replace hZ := mj_u2p hZ
  replace hZ := mj_u2p hZ
  exact mj_iret hR ⟨Nat.le_refl _, Nat.le_refl _⟩ rfl (mj_bb_n z7).1 dX11_hasEnd_43 hZ
set_option maxRecDepth 100000 in
set_option maxHeartbeats 4000000 in
theorem cmX11_hasEnd (l : Launch) (G : mj_GT) (F : Nat) (I : mj_IT) (L : mj_LT) (r71 : Nat → Int32) (r72 : Nat → Int32) (r80 : Nat → Int32) (hr71 : I 71 = r71) (hr72 : I 72 = r72) (hr80 : I 80 = r80) (o : ((Int32) × (Nat → Int32) × (Nat → Int32))) (hf : fnX11_hasEnd F r71 r72 r80 = some o) : mj_M l G yX11_hasEnd cX11_hasEnd 3 2 (some .boolean) 0 0 mj_P0 mj_S0 98 [.ref 71] I L (mj_qd (some (.int o.1)) (mj_rows I [(71, o.2.1), (72, o.2.2), (80, r80)]) L) := by
  refine mj_in RX11 "hasEnd" [(0, .ref 71)] rfl rfl rfl (by decide) (Nat.le_of_ble_eq_true rfl) (fun X ad hR => ?_)
  refine mj_toI [(71, r71), (72, r72), (80, r80)] (by intro q hq; simp only [List.mem_cons, List.not_mem_nil, or_false] at hq; rcases hq with rfl | rfl | rfl <;> assumption) ?_
  refine mtX11_hasEnd hR F I L r71 r72 r80 o hf ?_
  obtain ⟨w0, w1, w2⟩ := o
  refine mj_u2q ?_
  refine mj_u2q ?_
  exact ⟨rfl, rfl, rfl⟩

