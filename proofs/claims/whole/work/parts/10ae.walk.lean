-- X5_weigh
def bdX5_weigh_61 (F : Nat) (r37 : Nat → Int32) (r38 : Nat → Int32) (r39 : Nat → Int32) (r67 : Nat → Int32) (x2 : Int32) (x6 : Int32) (x7 : Int32) (r69 : Nat → Int32) (q68 : Nat → Int64) : Option (((Int32) × (Nat → Int32) × (Nat → Int64)) ⊕ ((Nat → Int32) × (Nat → Int64))) := (if mj_ib (x2 + (1 : Int32)) 201 = true then (if (r37 ((x2 + (1 : Int32)).toNatClampNeg)) ≤ x7 then some (.inr (r69, q68)) else (if mj_ib x7 2000 = true then (if mj_ib (r38 x7.toNatClampNeg) 200 = true then (if (r67 ((r38 x7.toNatClampNeg).toNatClampNeg)) = (-1 : Int32) then some (.inl ((x7 + (1)), r69, q68)) else (if mj_ib x7 2000 = true then (if mj_ib (((x6 - (200 : Int32)) - x2) + (r67 ((r38 x7.toNatClampNeg).toNatClampNeg))) 2200 = true then (if mj_ib (((x6 - (200 : Int32)) - x2) + (r67 ((r38 x7.toNatClampNeg).toNatClampNeg))) 2200 = true then (if mj_ib x6 2200 = true then (if (q68 x6.toNatClampNeg) < (((r39 x7.toNatClampNeg).toInt64) * (q68 ((((x6 - (200 : Int32)) - x2) + (r67 ((r38 x7.toNatClampNeg).toNatClampNeg))).toNatClampNeg))) then (if mj_ib x6 2200 = true then (if mj_ib x6 2200 = true then some (.inl ((x7 + (1)), (upd r69 x6.toNatClampNeg ((r69 ((((x6 - (200 : Int32)) - x2) + (r67 ((r38 x7.toNatClampNeg).toNatClampNeg))).toNatClampNeg)) + (1 : Int32))), (vp_updL q68 x6.toNatClampNeg (((r39 x7.toNatClampNeg).toInt64) * (q68 ((((x6 - (200 : Int32)) - x2) + (r67 ((r38 x7.toNatClampNeg).toNatClampNeg))).toNatClampNeg)))))) else none) else none) else (if (((r39 x7.toNatClampNeg).toInt64) * (q68 ((((x6 - (200 : Int32)) - x2) + (r67 ((r38 x7.toNatClampNeg).toNatClampNeg))).toNatClampNeg))) ≤ (0 : Int64) then some (.inl ((x7 + (1)), r69, q68)) else (if mj_ib x6 2200 = true then (if (((r39 x7.toNatClampNeg).toInt64) * (q68 ((((x6 - (200 : Int32)) - x2) + (r67 ((r38 x7.toNatClampNeg).toNatClampNeg))).toNatClampNeg))) = (q68 x6.toNatClampNeg) then (if mj_ib x6 2200 = true then (if (r69 x6.toNatClampNeg) ≤ ((r69 ((((x6 - (200 : Int32)) - x2) + (r67 ((r38 x7.toNatClampNeg).toNatClampNeg))).toNatClampNeg)) + (1 : Int32)) then some (.inl ((x7 + (1)), r69, q68)) else (if mj_ib x6 2200 = true then (if mj_ib x6 2200 = true then some (.inl ((x7 + (1)), (upd r69 x6.toNatClampNeg ((r69 ((((x6 - (200 : Int32)) - x2) + (r67 ((r38 x7.toNatClampNeg).toNatClampNeg))).toNatClampNeg)) + (1 : Int32))), (vp_updL q68 x6.toNatClampNeg (((r39 x7.toNatClampNeg).toInt64) * (q68 ((((x6 - (200 : Int32)) - x2) + (r67 ((r38 x7.toNatClampNeg).toNatClampNeg))).toNatClampNeg)))))) else none) else none)) else none) else some (.inl ((x7 + (1)), r69, q68))) else none))) else none) else none) else none) else none)) else none) else none)) else none)
def jnX5_weigh_29 (F : Nat) (r32 : Nat → Int32) (r33 : Nat → Int32) (r37 : Nat → Int32) (r38 : Nat → Int32) (r39 : Nat → Int32) (r67 : Nat → Int32) (x2 : Int32) (x3 : Int32) (x6 : Int32) (t1 : Int32) (t2 : Int64) (r69 : Nat → Int32) (q68 : Nat → Int64) : Option ((Nat → Int32) × (Nat → Int64)) := (if mj_ib t1 2200 = true then (if mj_ib x6 2200 = true then (if mj_ib x2 200 = true then (if (r67 x2.toNatClampNeg) = x2 then (if x3 = 0 then some ((upd r69 x6.toNatClampNeg (0 : Int32)), (vp_updL q68 t1.toNatClampNeg t2)) else (if mj_ib x2 201 = true then (mj_it (mj_u2 (fun z0 => (mj_u2 (fun z1 z2 => bdX5_weigh_61 F r37 r38 r39 r67 x2 x6 z0 z1 z2)))) F ((r37 x2.toNatClampNeg), (upd r69 x6.toNatClampNeg (0 : Int32)), (vp_updL q68 t1.toNatClampNeg t2))).bind (mj_u2 (fun r69_26 q68_26 => some (r69_26, q68_26))) else none)) else some ((upd r69 x6.toNatClampNeg (0 : Int32)), (vp_updL q68 t1.toNatClampNeg t2))) else none) else none) else none)
def fnX5_weigh (F : Nat) (r32 : Nat → Int32) (r33 : Nat → Int32) (r37 : Nat → Int32) (r38 : Nat → Int32) (r39 : Nat → Int32) (r67 : Nat → Int32) (r69 : Nat → Int32) (q68 : Nat → Int64) (x2 : Int32) (x3 : Int32) (x4 : Int64) : Option ((Nat → Int32) × (Nat → Int64)) := (fnX4_isEnd F r32 r33 x2).bind (fun o27 => (if o27 = 0 then jnX5_weigh_29 F r32 r33 r37 r38 r39 r67 x2 x3 ((x3 * (200 : Int32)) + x2) ((x3 * (200 : Int32)) + x2) (0 : Int64) r69 q68 else jnX5_weigh_29 F r32 r33 r37 r38 r39 r67 x2 x3 ((x3 * (200 : Int32)) + x2) ((x3 * (200 : Int32)) + x2) x4 r69 q68))
set_option maxRecDepth 100000 in
set_option maxHeartbeats 4000000 in
theorem lpX5_weigh_61 {X : mj_XT} {l : Launch} {G : mj_GT} {ad : Nat → Nat} {Qn : Option Value → mj_IT → mj_LT → Prop} (hR : mj_R X l G mj_P0 mj_S0 98 ad 0 0 Qn) (F : Nat) (I : mj_IT) (L : mj_LT) (r32 : Nat → Int32) (r33 : Nat → Int32) (r37 : Nat → Int32) (r38 : Nat → Int32) (r39 : Nat → Int32) (r67 : Nat → Int32) (r69 : Nat → Int32) (q68 : Nat → Int64) (x2 : Int32) (x6 : Int32) : ∀ (n : Nat) (s : ((Int32) × (Nat → Int32) × (Nat → Int64))) (e : ((Nat → Int32) × (Nat → Int64))), mj_it (mj_u2 (fun z0 => (mj_u2 (fun z1 z2 => bdX5_weigh_61 F r37 r38 r39 r67 x2 x6 z0 z1 z2)))) n s = some e → (mj_u2 (fun r69 q68 => mj_W X G RX5 "weigh" cX5_weigh 13 2 none mj_P0 mj_S0 98 ad 0 0 205 [] [] (mj_rows I [(32, r32), (33, r33), (37, r37), (38, r38), (39, r39), (67, r67), (69, r69)]) (mj_rows L [(68, q68)]))) e → (mj_u2 (fun x7 => (mj_u2 (fun r69 q68 => mj_W X G RX5 "weigh" cX5_weigh 13 2 none mj_P0 mj_S0 98 ad 0 0 61 [(0, .ref 65), (1, .ref 32), (2, .int x2), (6, .int x6), (7, .int x7)] [] (mj_rows I [(32, r32), (33, r33), (37, r37), (38, r38), (39, r39), (67, r67), (69, r69)]) (mj_rows L [(68, q68)]))))) s := by
  refine mj_loop (fun s o hf hc hx => ?_)
  obtain ⟨x7, r69, q68⟩ := s
  replace hf := mj_u2e hf
  refine mj_u2q ?_
  replace hf := mj_u2e hf
  refine mj_u2q ?_
  unfold bdX5_weigh_61 at hf
  refine mj_iload 4 dX5_weigh_61 rfl ?_
  refine mj_aload_n 1 dX5_weigh_63 rfl ?_
  refine mj_getP p0_32_12 (by decide) fl_X5_69 rfl s0_32 a0_32 dX5_weigh_64 ?_
  refine mj_iload_n 2 dX5_weigh_67 rfl ?_
  refine mj_iconst dX5_weigh_68 kc_iconst_1 ?_
  refine mj_iadd dX5_weigh_69 ?_
  obtain ⟨z1, hf⟩ := mj_ck hf
  refine mj_ialdv (x := r37) rfl s0_37 a0_37 z1 dX5_weigh_70 ?_
  refine mj_icmp_ge 205 dX5_weigh_71 (by decide) (fun c2 => ?_) (fun c2 => ?_)
  · replace hf := mj_pos c2 hf
    refine mj_sub [] [] rfl ?_
    obtain rfl := Option.some.inj hf
    have hZ := hx (r69, q68) rfl
    replace hZ := mj_u2p hZ
    exact hZ
  · replace hf := mj_neg c2 hf
    refine mj_aload_n 0 dX5_weigh_74 rfl ?_
    refine mj_getP p0_65_4 (by decide) fl_X5_15 rfl s0_65 a0_65 dX5_weigh_75 ?_
    refine mj_aload_n 1 dX5_weigh_78 rfl ?_
    refine mj_getP p0_32_13 (by decide) fl_X5_66 rfl s0_32 a0_32 dX5_weigh_79 ?_
    refine mj_iload 4 dX5_weigh_82 rfl ?_
    obtain ⟨z3, hf⟩ := mj_ck hf
    refine mj_ialdv (x := r38) rfl s0_38 a0_38 z3 dX5_weigh_84 ?_
    obtain ⟨z4, hf⟩ := mj_ck hf
    refine mj_ialdv (x := r67) rfl s0_67 a0_67 z4 dX5_weigh_85 ?_
    refine mj_istore [(8, .int (r67 ((r38 x7.toNatClampNeg).toNatClampNeg))), (0, .ref 65), (1, .ref 32), (2, .int x2), (6, .int x6), (7, .int x7)] dX5_weigh_86 (by decide) rfl ?_
    refine mj_iload 0 dX5_weigh_88 rfl ?_
    refine mj_iconst dX5_weigh_90 kc_iconst_m1 ?_
    refine mj_icmp_eq 199 dX5_weigh_91 (by decide) (fun c5 => ?_) (fun c5 => ?_)
    · replace hf := mj_pos c5 hf
      refine mj_iinc 5 [(7, .int (x7 + (1))), (8, .int (r67 ((r38 x7.toNatClampNeg).toNatClampNeg))), (0, .ref 65), (1, .ref 32), (2, .int x2), (6, .int x6)] dX5_weigh_199 rfl (kz_1 _) (by decide) rfl ?_
      refine mj_goto 61 dX5_weigh_202 (by decide) ?_
      refine mj_sub [2, 3, 4, 5, 0] [(0, .ref 65), (1, .ref 32), (2, .int x2), (6, .int x6), (7, .int (x7 + (1)))] rfl ?_
      obtain rfl := Option.some.inj hf
      have hZ := hc ((x7 + (1)), r69, q68) rfl
      replace hZ := mj_u2p hZ
      replace hZ := mj_u2p hZ
      exact hZ
    · replace hf := mj_neg c5 hf
      refine mj_iload 4 dX5_weigh_94 rfl ?_
      refine mj_sipush dX5_weigh_96 kc_sipush_200 ?_
      refine mj_isub dX5_weigh_99 ?_
      refine mj_iload_n 3 dX5_weigh_100 rfl ?_
      refine mj_isub dX5_weigh_101 ?_
      refine mj_iload 0 dX5_weigh_102 rfl ?_
      refine mj_iadd dX5_weigh_104 ?_
      refine mj_istore [(9, .int (((x6 - (200 : Int32)) - x2) + (r67 ((r38 x7.toNatClampNeg).toNatClampNeg)))), (8, .int (r67 ((r38 x7.toNatClampNeg).toNatClampNeg))), (0, .ref 65), (1, .ref 32), (2, .int x2), (6, .int x6), (7, .int x7)] dX5_weigh_105 (by decide) rfl ?_
      refine mj_aload_n 3 dX5_weigh_107 rfl ?_
      refine mj_getP p0_32_14 (by decide) fl_X5_81 rfl s0_32 a0_32 dX5_weigh_108 ?_
      refine mj_iload 6 dX5_weigh_111 rfl ?_
      obtain ⟨z6, hf⟩ := mj_ck hf
      refine mj_ialdv (x := r39) rfl s0_39 a0_39 z6 dX5_weigh_113 ?_
      refine mj_i2l dX5_weigh_114 ?_
      refine mj_aload_n 2 dX5_weigh_115 rfl ?_
      refine mj_getP p0_65_5 (by decide) fl_X5_18 rfl s0_65 a0_65 dX5_weigh_116 ?_
      refine mj_iload 0 dX5_weigh_119 rfl ?_
      obtain ⟨z7, hf⟩ := mj_ck hf
      refine mj_laldv (x := q68) rfl s0_68 a0_68 z7 dX5_weigh_121 ?_
      refine mj_lmul dX5_weigh_122 ?_
      refine mj_lstore [(10, .long (((r39 x7.toNatClampNeg).toInt64) * (q68 ((((x6 - (200 : Int32)) - x2) + (r67 ((r38 x7.toNatClampNeg).toNatClampNeg))).toNatClampNeg)))), (9, .int (((x6 - (200 : Int32)) - x2) + (r67 ((r38 x7.toNatClampNeg).toNatClampNeg)))), (8, .int (r67 ((r38 x7.toNatClampNeg).toNatClampNeg))), (0, .ref 65), (1, .ref 32), (2, .int x2), (6, .int x6), (7, .int x7)] dX5_weigh_123 (by decide) rfl ?_
      refine mj_aload_n 3 dX5_weigh_125 rfl ?_
      refine mj_getP p0_65_6 (by decide) fl_X5_22 rfl s0_65 a0_65 dX5_weigh_126 ?_
      refine mj_iload 1 dX5_weigh_129 rfl ?_
      obtain ⟨z8, hf⟩ := mj_ck hf
      refine mj_ialdv (x := r69) rfl s0_69 a0_69 z8 dX5_weigh_131 ?_
      refine mj_iconst dX5_weigh_132 kc_iconst_1 ?_
      refine mj_iadd dX5_weigh_133 ?_
      refine mj_istore [(12, .int ((r69 ((((x6 - (200 : Int32)) - x2) + (r67 ((r38 x7.toNatClampNeg).toNatClampNeg))).toNatClampNeg)) + (1 : Int32))), (10, .long (((r39 x7.toNatClampNeg).toInt64) * (q68 ((((x6 - (200 : Int32)) - x2) + (r67 ((r38 x7.toNatClampNeg).toNatClampNeg))).toNatClampNeg)))), (9, .int (((x6 - (200 : Int32)) - x2) + (r67 ((r38 x7.toNatClampNeg).toNatClampNeg)))), (8, .int (r67 ((r38 x7.toNatClampNeg).toNatClampNeg))), (0, .ref 65), (1, .ref 32), (2, .int x2), (6, .int x6), (7, .int x7)] dX5_weigh_134 (by decide) rfl ?_
      refine mj_lload 1 dX5_weigh_136 rfl ?_
      refine mj_aload_n 4 dX5_weigh_138 rfl ?_
      refine mj_getP p0_65_5 (by decide) fl_X5_18 rfl s0_65 a0_65 dX5_weigh_139 ?_
      refine mj_iload 7 dX5_weigh_142 rfl ?_
      obtain ⟨z9, hf⟩ := mj_ck hf
      refine mj_laldv (x := q68) rfl s0_68 a0_68 z9 dX5_weigh_144 ?_
      refine mj_lc_gt 181 dX5_weigh_145 dX5_weigh_146 (by decide) (fun c10 => ?_) (fun c10 => ?_)
      · replace hf := mj_pos c10 hf
        refine mj_aload_n 4 dX5_weigh_181 rfl ?_
        refine mj_getP p0_65_5 (by decide) fl_X5_18 rfl s0_65 a0_65 dX5_weigh_182 ?_
        refine mj_iload 7 dX5_weigh_185 rfl ?_
        refine mj_lload 1 dX5_weigh_187 rfl ?_
        obtain ⟨z11, hf⟩ := mj_ck hf
        refine mj_lastr [(68, (vp_updL q68 x6.toNatClampNeg (((r39 x7.toNatClampNeg).toInt64) * (q68 ((((x6 - (200 : Int32)) - x2) + (r67 ((r38 x7.toNatClampNeg).toNatClampNeg))).toNatClampNeg)))))] rfl s0_68 a0_68 z11 dX5_weigh_189 ?_
        refine mj_aload_n 4 dX5_weigh_190 rfl ?_
        refine mj_getP p0_65_6 (by decide) fl_X5_22 rfl s0_65 a0_65 dX5_weigh_191 ?_
        refine mj_iload 7 dX5_weigh_194 rfl ?_
        refine mj_iload 0 dX5_weigh_196 rfl ?_
        obtain ⟨z12, hf⟩ := mj_ck hf
        refine mj_iastr [(32, r32), (33, r33), (37, r37), (38, r38), (39, r39), (67, r67), (69, (upd r69 x6.toNatClampNeg ((r69 ((((x6 - (200 : Int32)) - x2) + (r67 ((r38 x7.toNatClampNeg).toNatClampNeg))).toNatClampNeg)) + (1 : Int32))))] rfl s0_69 a0_69 z12 dX5_weigh_198 ?_
        refine mj_iinc 8 [(7, .int (x7 + (1))), (12, .int ((r69 ((((x6 - (200 : Int32)) - x2) + (r67 ((r38 x7.toNatClampNeg).toNatClampNeg))).toNatClampNeg)) + (1 : Int32))), (10, .long (((r39 x7.toNatClampNeg).toInt64) * (q68 ((((x6 - (200 : Int32)) - x2) + (r67 ((r38 x7.toNatClampNeg).toNatClampNeg))).toNatClampNeg)))), (9, .int (((x6 - (200 : Int32)) - x2) + (r67 ((r38 x7.toNatClampNeg).toNatClampNeg)))), (8, .int (r67 ((r38 x7.toNatClampNeg).toNatClampNeg))), (0, .ref 65), (1, .ref 32), (2, .int x2), (6, .int x6)] dX5_weigh_199 rfl (kz_1 _) (by decide) rfl ?_
        refine mj_goto 61 dX5_weigh_202 (by decide) ?_
        refine mj_sub [5, 6, 7, 8, 0] [(0, .ref 65), (1, .ref 32), (2, .int x2), (6, .int x6), (7, .int (x7 + (1)))] rfl ?_
        obtain rfl := Option.some.inj hf
        have hZ := hc ((x7 + (1)), (upd r69 x6.toNatClampNeg ((r69 ((((x6 - (200 : Int32)) - x2) + (r67 ((r38 x7.toNatClampNeg).toNatClampNeg))).toNatClampNeg)) + (1 : Int32))), (vp_updL q68 x6.toNatClampNeg (((r39 x7.toNatClampNeg).toInt64) * (q68 ((((x6 - (200 : Int32)) - x2) + (r67 ((r38 x7.toNatClampNeg).toNatClampNeg))).toNatClampNeg))))) rfl
        replace hZ := mj_u2p hZ
        replace hZ := mj_u2p hZ
        exact hZ
      · replace hf := mj_neg c10 hf
        refine mj_lload 1 dX5_weigh_149 rfl ?_
        refine mj_lconst (v := 0) dX5_weigh_151 (by decide) ?_
        refine mj_lc_le 199 dX5_weigh_152 dX5_weigh_153 (by decide) (fun c13 => ?_) (fun c13 => ?_)
        · replace hf := mj_pos c13 hf
          refine mj_iinc 8 [(7, .int (x7 + (1))), (12, .int ((r69 ((((x6 - (200 : Int32)) - x2) + (r67 ((r38 x7.toNatClampNeg).toNatClampNeg))).toNatClampNeg)) + (1 : Int32))), (10, .long (((r39 x7.toNatClampNeg).toInt64) * (q68 ((((x6 - (200 : Int32)) - x2) + (r67 ((r38 x7.toNatClampNeg).toNatClampNeg))).toNatClampNeg)))), (9, .int (((x6 - (200 : Int32)) - x2) + (r67 ((r38 x7.toNatClampNeg).toNatClampNeg)))), (8, .int (r67 ((r38 x7.toNatClampNeg).toNatClampNeg))), (0, .ref 65), (1, .ref 32), (2, .int x2), (6, .int x6)] dX5_weigh_199 rfl (kz_1 _) (by decide) rfl ?_
          refine mj_goto 61 dX5_weigh_202 (by decide) ?_
          refine mj_sub [5, 6, 7, 8, 0] [(0, .ref 65), (1, .ref 32), (2, .int x2), (6, .int x6), (7, .int (x7 + (1)))] rfl ?_
          obtain rfl := Option.some.inj hf
          have hZ := hc ((x7 + (1)), r69, q68) rfl
          replace hZ := mj_u2p hZ
          replace hZ := mj_u2p hZ
          exact hZ
        · replace hf := mj_neg c13 hf
          refine mj_lload 1 dX5_weigh_156 rfl ?_
          refine mj_aload_n 4 dX5_weigh_158 rfl ?_
          refine mj_getP p0_65_5 (by decide) fl_X5_18 rfl s0_65 a0_65 dX5_weigh_159 ?_
          refine mj_iload 7 dX5_weigh_162 rfl ?_
          obtain ⟨z14, hf⟩ := mj_ck hf
          refine mj_laldv (x := q68) rfl s0_68 a0_68 z14 dX5_weigh_164 ?_
          refine mj_lc_ne 199 dX5_weigh_165 dX5_weigh_166 (by decide) (fun c15 => ?_) (fun c15 => ?_)
          · replace hf := mj_neg c15 hf
            refine mj_iinc 8 [(7, .int (x7 + (1))), (12, .int ((r69 ((((x6 - (200 : Int32)) - x2) + (r67 ((r38 x7.toNatClampNeg).toNatClampNeg))).toNatClampNeg)) + (1 : Int32))), (10, .long (((r39 x7.toNatClampNeg).toInt64) * (q68 ((((x6 - (200 : Int32)) - x2) + (r67 ((r38 x7.toNatClampNeg).toNatClampNeg))).toNatClampNeg)))), (9, .int (((x6 - (200 : Int32)) - x2) + (r67 ((r38 x7.toNatClampNeg).toNatClampNeg)))), (8, .int (r67 ((r38 x7.toNatClampNeg).toNatClampNeg))), (0, .ref 65), (1, .ref 32), (2, .int x2), (6, .int x6)] dX5_weigh_199 rfl (kz_1 _) (by decide) rfl ?_
            refine mj_goto 61 dX5_weigh_202 (by decide) ?_
            refine mj_sub [5, 6, 7, 8, 0] [(0, .ref 65), (1, .ref 32), (2, .int x2), (6, .int x6), (7, .int (x7 + (1)))] rfl ?_
            obtain rfl := Option.some.inj hf
            have hZ := hc ((x7 + (1)), r69, q68) rfl
            replace hZ := mj_u2p hZ
            replace hZ := mj_u2p hZ
            exact hZ
          · replace hf := mj_pos c15 hf
            refine mj_iload 0 dX5_weigh_169 rfl ?_
            refine mj_aload_n 4 dX5_weigh_171 rfl ?_
            refine mj_getP p0_65_6 (by decide) fl_X5_22 rfl s0_65 a0_65 dX5_weigh_172 ?_
            refine mj_iload 7 dX5_weigh_175 rfl ?_
            obtain ⟨z16, hf⟩ := mj_ck hf
            refine mj_ialdv (x := r69) rfl s0_69 a0_69 z16 dX5_weigh_177 ?_
            refine mj_icmp_ge 199 dX5_weigh_178 (by decide) (fun c17 => ?_) (fun c17 => ?_)
            · replace hf := mj_pos c17 hf
              refine mj_iinc 8 [(7, .int (x7 + (1))), (12, .int ((r69 ((((x6 - (200 : Int32)) - x2) + (r67 ((r38 x7.toNatClampNeg).toNatClampNeg))).toNatClampNeg)) + (1 : Int32))), (10, .long (((r39 x7.toNatClampNeg).toInt64) * (q68 ((((x6 - (200 : Int32)) - x2) + (r67 ((r38 x7.toNatClampNeg).toNatClampNeg))).toNatClampNeg)))), (9, .int (((x6 - (200 : Int32)) - x2) + (r67 ((r38 x7.toNatClampNeg).toNatClampNeg)))), (8, .int (r67 ((r38 x7.toNatClampNeg).toNatClampNeg))), (0, .ref 65), (1, .ref 32), (2, .int x2), (6, .int x6)] dX5_weigh_199 rfl (kz_1 _) (by decide) rfl ?_
              refine mj_goto 61 dX5_weigh_202 (by decide) ?_
              refine mj_sub [5, 6, 7, 8, 0] [(0, .ref 65), (1, .ref 32), (2, .int x2), (6, .int x6), (7, .int (x7 + (1)))] rfl ?_
              obtain rfl := Option.some.inj hf
              have hZ := hc ((x7 + (1)), r69, q68) rfl
              replace hZ := mj_u2p hZ
              replace hZ := mj_u2p hZ
              exact hZ
            · replace hf := mj_neg c17 hf
              refine mj_aload_n 4 dX5_weigh_181 rfl ?_
              refine mj_getP p0_65_5 (by decide) fl_X5_18 rfl s0_65 a0_65 dX5_weigh_182 ?_
              refine mj_iload 7 dX5_weigh_185 rfl ?_
              refine mj_lload 1 dX5_weigh_187 rfl ?_
              obtain ⟨z18, hf⟩ := mj_ck hf
              refine mj_lastr [(68, (vp_updL q68 x6.toNatClampNeg (((r39 x7.toNatClampNeg).toInt64) * (q68 ((((x6 - (200 : Int32)) - x2) + (r67 ((r38 x7.toNatClampNeg).toNatClampNeg))).toNatClampNeg)))))] rfl s0_68 a0_68 z18 dX5_weigh_189 ?_
              refine mj_aload_n 4 dX5_weigh_190 rfl ?_
              refine mj_getP p0_65_6 (by decide) fl_X5_22 rfl s0_65 a0_65 dX5_weigh_191 ?_
              refine mj_iload 7 dX5_weigh_194 rfl ?_
              refine mj_iload 0 dX5_weigh_196 rfl ?_
              obtain ⟨z19, hf⟩ := mj_ck hf
              refine mj_iastr [(32, r32), (33, r33), (37, r37), (38, r38), (39, r39), (67, r67), (69, (upd r69 x6.toNatClampNeg ((r69 ((((x6 - (200 : Int32)) - x2) + (r67 ((r38 x7.toNatClampNeg).toNatClampNeg))).toNatClampNeg)) + (1 : Int32))))] rfl s0_69 a0_69 z19 dX5_weigh_198 ?_
              refine mj_iinc 8 [(7, .int (x7 + (1))), (12, .int ((r69 ((((x6 - (200 : Int32)) - x2) + (r67 ((r38 x7.toNatClampNeg).toNatClampNeg))).toNatClampNeg)) + (1 : Int32))), (10, .long (((r39 x7.toNatClampNeg).toInt64) * (q68 ((((x6 - (200 : Int32)) - x2) + (r67 ((r38 x7.toNatClampNeg).toNatClampNeg))).toNatClampNeg)))), (9, .int (((x6 - (200 : Int32)) - x2) + (r67 ((r38 x7.toNatClampNeg).toNatClampNeg)))), (8, .int (r67 ((r38 x7.toNatClampNeg).toNatClampNeg))), (0, .ref 65), (1, .ref 32), (2, .int x2), (6, .int x6)] dX5_weigh_199 rfl (kz_1 _) (by decide) rfl ?_
              refine mj_goto 61 dX5_weigh_202 (by decide) ?_
              refine mj_sub [5, 6, 7, 8, 0] [(0, .ref 65), (1, .ref 32), (2, .int x2), (6, .int x6), (7, .int (x7 + (1)))] rfl ?_
              obtain rfl := Option.some.inj hf
              have hZ := hc ((x7 + (1)), (upd r69 x6.toNatClampNeg ((r69 ((((x6 - (200 : Int32)) - x2) + (r67 ((r38 x7.toNatClampNeg).toNatClampNeg))).toNatClampNeg)) + (1 : Int32))), (vp_updL q68 x6.toNatClampNeg (((r39 x7.toNatClampNeg).toInt64) * (q68 ((((x6 - (200 : Int32)) - x2) + (r67 ((r38 x7.toNatClampNeg).toNatClampNeg))).toNatClampNeg))))) rfl
              replace hZ := mj_u2p hZ
              replace hZ := mj_u2p hZ
              exact hZ
set_option maxRecDepth 100000 in
set_option maxHeartbeats 4000000 in
theorem jtX5_weigh_29 {X : mj_XT} {l : Launch} {G : mj_GT} {ad : Nat → Nat} {Qn : Option Value → mj_IT → mj_LT → Prop} (hR : mj_R X l G mj_P0 mj_S0 98 ad 0 0 Qn) (F : Nat) (I : mj_IT) (L : mj_LT) (r32 : Nat → Int32) (r33 : Nat → Int32) (r37 : Nat → Int32) (r38 : Nat → Int32) (r39 : Nat → Int32) (r67 : Nat → Int32) (r69 : Nat → Int32) (q68 : Nat → Int64) (x2 : Int32) (x3 : Int32) (x6 : Int32) (t1 : Int32) (t2 : Int64) (o : ((Nat → Int32) × (Nat → Int64))) (hf : jnX5_weigh_29 F r32 r33 r37 r38 r39 r67 x2 x3 x6 t1 t2 r69 q68 = some o) (hq : (mj_u2 (fun r69 q68 => Qn none (mj_rows I [(32, r32), (33, r33), (37, r37), (38, r38), (39, r39), (67, r67), (69, r69)]) (mj_rows L [(68, q68)]))) o) : mj_W X G RX5 "weigh" cX5_weigh 13 2 none mj_P0 mj_S0 98 ad 0 0 29 [(0, .ref 65), (1, .ref 32), (2, .int x2), (3, .int x3), (6, .int x6)] [.long t2, .int t1, .ref 68] (mj_rows I [(32, r32), (33, r33), (37, r37), (38, r38), (39, r39), (67, r67), (69, r69)]) (mj_rows L [(68, q68)]) := by
  unfold jnX5_weigh_29 at hf
  obtain ⟨z20, hf⟩ := mj_ck hf
  refine mj_lastr [(68, (vp_updL q68 t1.toNatClampNeg t2))] rfl s0_68 a0_68 z20 dX5_weigh_29 ?_
  refine mj_aload_n 0 dX5_weigh_30 rfl ?_
  refine mj_getP p0_65_6 (by decide) fl_X5_22 rfl s0_65 a0_65 dX5_weigh_31 ?_
  refine mj_iload 4 dX5_weigh_34 rfl ?_
  refine mj_iconst dX5_weigh_36 kc_iconst_0 ?_
  obtain ⟨z21, hf⟩ := mj_ck hf
  refine mj_iastr [(32, r32), (33, r33), (37, r37), (38, r38), (39, r39), (67, r67), (69, (upd r69 x6.toNatClampNeg (0 : Int32)))] rfl s0_69 a0_69 z21 dX5_weigh_37 ?_
  refine mj_aload_n 0 dX5_weigh_38 rfl ?_
  refine mj_getP p0_65_4 (by decide) fl_X5_15 rfl s0_65 a0_65 dX5_weigh_39 ?_
  refine mj_iload_n 2 dX5_weigh_42 rfl ?_
  obtain ⟨z22, hf⟩ := mj_ck hf
  refine mj_ialdv (x := r67) rfl s0_67 a0_67 z22 dX5_weigh_43 ?_
  refine mj_iload_n 2 dX5_weigh_44 rfl ?_
  refine mj_icmp_ne 52 dX5_weigh_45 (by decide) (fun c23 => ?_) (fun c23 => ?_)
  · replace hf := mj_neg c23 hf
    obtain rfl := Option.some.inj hf
    have hZ := hq
    replace hZ := mj_u2p hZ
    exact mj_vret hR ⟨Nat.le_refl _, Nat.le_refl _⟩ rfl dX5_weigh_52 hZ
  · replace hf := mj_pos c23 hf
    refine mj_iload_n 3 dX5_weigh_48 rfl ?_
    refine mj_if_ne 53 dX5_weigh_49 (by decide) (fun c24 => ?_) (fun c24 => ?_)
    · replace hf := mj_neg c24 hf
      refine mj_aload_n 1 dX5_weigh_53 rfl ?_
      refine mj_getP p0_32_12 (by decide) fl_X5_69 rfl s0_32 a0_32 dX5_weigh_54 ?_
      refine mj_iload_n 2 dX5_weigh_57 rfl ?_
      obtain ⟨z25, hf⟩ := mj_ck hf
      refine mj_ialdv (x := r37) rfl s0_37 a0_37 z25 dX5_weigh_58 ?_
      refine mj_istore [(7, .int (r37 x2.toNatClampNeg)), (0, .ref 65), (1, .ref 32), (2, .int x2), (3, .int x3), (6, .int x6)] dX5_weigh_59 (by decide) rfl ?_
      refine mj_sub [1, 2, 3, 5, 0] [(0, .ref 65), (1, .ref 32), (2, .int x2), (6, .int x6), (7, .int (r37 x2.toNatClampNeg))] rfl ?_
      obtain ⟨e26, ho26, hf⟩ := mj_bd hf
      refine lpX5_weigh_61 hR F I L r32 r33 r37 r38 r39 r67 (upd r69 x6.toNatClampNeg (0 : Int32)) (vp_updL q68 t1.toNatClampNeg t2) x2 x6 F ((r37 x2.toNatClampNeg), (upd r69 x6.toNatClampNeg (0 : Int32)), (vp_updL q68 t1.toNatClampNeg t2)) e26 ho26 ?_
      obtain ⟨r69_26, q68_26⟩ := e26
      replace hf := mj_u2e hf
      refine ?_
      refine mj_u2q ?_
      obtain rfl := Option.some.inj hf
      have hZ := hq
      replace hZ := mj_u2p hZ
      exact mj_vret hR ⟨Nat.le_refl _, Nat.le_refl _⟩ rfl dX5_weigh_205 hZ
    · replace hf := mj_pos c24 hf
      obtain rfl := Option.some.inj hf
      have hZ := hq
      replace hZ := mj_u2p hZ
      exact mj_vret hR ⟨Nat.le_refl _, Nat.le_refl _⟩ rfl dX5_weigh_52 hZ
set_option maxRecDepth 100000 in
set_option maxHeartbeats 4000000 in
theorem mtX5_weigh {X : mj_XT} {l : Launch} {G : mj_GT} {ad : Nat → Nat} {Qn : Option Value → mj_IT → mj_LT → Prop} (hR : mj_R X l G mj_P0 mj_S0 98 ad 0 0 Qn) (F : Nat) (I : mj_IT) (L : mj_LT) (r32 : Nat → Int32) (r33 : Nat → Int32) (r37 : Nat → Int32) (r38 : Nat → Int32) (r39 : Nat → Int32) (r67 : Nat → Int32) (r69 : Nat → Int32) (q68 : Nat → Int64) (x2 : Int32) (x3 : Int32) (x4 : Int64) (o : ((Nat → Int32) × (Nat → Int64))) (hf : fnX5_weigh F r32 r33 r37 r38 r39 r67 r69 q68 x2 x3 x4 = some o) (hq : (mj_u2 (fun r69 q68 => Qn none (mj_rows I [(32, r32), (33, r33), (37, r37), (38, r38), (39, r39), (67, r67), (69, r69)]) (mj_rows L [(68, q68)]))) o) : mj_W X G RX5 "weigh" cX5_weigh 13 2 none mj_P0 mj_S0 98 ad 0 0 0 [(0, .ref 65), (1, .ref 32), (2, .int x2), (3, .int x3), (4, .long x4)] [] (mj_rows I [(32, r32), (33, r33), (37, r37), (38, r38), (39, r39), (67, r67), (69, r69)]) (mj_rows L [(68, q68)]) := by
  unfold fnX5_weigh at hf
  refine mj_iload_n 3 dX5_weigh_0 rfl ?_
  refine mj_sipush dX5_weigh_1 kc_sipush_200 ?_
  refine mj_imul dX5_weigh_4 ?_
  refine mj_iload_n 2 dX5_weigh_5 rfl ?_
  refine mj_iadd dX5_weigh_6 ?_
  refine mj_istore [(6, .int ((x3 * (200 : Int32)) + x2)), (0, .ref 65), (1, .ref 32), (2, .int x2), (3, .int x3), (4, .long x4)] dX5_weigh_7 (by decide) rfl ?_
  refine mj_aload_n 1 dX5_weigh_9 rfl ?_
  refine mj_getP p0_65_5 (by decide) fl_X5_18 rfl s0_65 a0_65 dX5_weigh_10 ?_
  refine mj_iload 0 dX5_weigh_13 rfl ?_
  refine mj_aload_n 2 dX5_weigh_15 rfl ?_
  refine mj_iload_n 3 dX5_weigh_16 rfl ?_
  obtain ⟨o27, ho27, hf⟩ := mj_bd hf
  refine mj_callVd (I2 := (mj_rows I [(32, r32), (33, r33), (37, r37), (38, r38), (39, r39), (67, r67), (69, r69)])) (L2 := (mj_rows L [(68, q68)])) (s1 := [.int o27, .int ((x3 * (200 : Int32)) + x2), .ref 68]) (st := [.int ((x3 * (200 : Int32)) + x2), .ref 68]) [.int x2] (cmX4_isEnd X.2.1 G F x2 _ _ r32 r33 rfl rfl o27 ho27) (mj_rr rfl) rfl cw_X5_54 s0_32 a0_32 (by decide) rfl rfl (Nat.le_of_ble_eq_true rfl) ⟨Nat.zero_le _, Nat.zero_le _⟩ dX5_weigh_17 rfl ?_
  refine mj_if_eq 28 dX5_weigh_20 (by decide) (fun c28 => ?_) (fun c28 => ?_)
  · replace hf := mj_pos c28 hf
    refine mj_lconst (v := 0) dX5_weigh_28 (by decide) ?_
    refine mj_sub [1, 2, 3, 4, 0] [(0, .ref 65), (1, .ref 32), (2, .int x2), (3, .int x3), (6, .int ((x3 * (200 : Int32)) + x2))] rfl ?_
    exact jtX5_weigh_29 hR F I L r32 r33 r37 r38 r39 r67 r69 q68 x2 x3 ((x3 * (200 : Int32)) + x2) ((x3 * (200 : Int32)) + x2) (0 : Int64) o hf hq
  · replace hf := mj_neg c28 hf
    refine mj_lload 5 dX5_weigh_23 rfl ?_
    refine mj_goto 29 dX5_weigh_25 (by decide) ?_
    refine mj_sub [1, 2, 3, 4, 0] [(0, .ref 65), (1, .ref 32), (2, .int x2), (3, .int x3), (6, .int ((x3 * (200 : Int32)) + x2))] rfl ?_
    exact jtX5_weigh_29 hR F I L r32 r33 r37 r38 r39 r67 r69 q68 x2 x3 ((x3 * (200 : Int32)) + x2) ((x3 * (200 : Int32)) + x2) x4 o hf hq
set_option maxRecDepth 100000 in
set_option maxHeartbeats 4000000 in
theorem cmX5_weigh (l : Launch) (G : mj_GT) (F : Nat) (x2 : Int32) (x3 : Int32) (x4 : Int64) (I : mj_IT) (L : mj_LT) (r32 : Nat → Int32) (r33 : Nat → Int32) (r37 : Nat → Int32) (r38 : Nat → Int32) (r39 : Nat → Int32) (r67 : Nat → Int32) (r69 : Nat → Int32) (q68 : Nat → Int64) (hr32 : I 32 = r32) (hr33 : I 33 = r33) (hr37 : I 37 = r37) (hr38 : I 38 = r38) (hr39 : I 39 = r39) (hr67 : I 67 = r67) (hr69 : I 69 = r69) (hq68 : L 68 = q68) (o : ((Nat → Int32) × (Nat → Int64))) (hf : fnX5_weigh F r32 r33 r37 r38 r39 r67 r69 q68 x2 x3 x4 = some o) : mj_M l G yX5_weigh cX5_weigh 13 2 none 0 0 mj_P0 mj_S0 98 [.ref 65, .ref 32, .int x2, .int x3, .long x4] I L (mj_qd none (mj_rows I [(32, r32), (33, r33), (37, r37), (38, r38), (39, r39), (67, r67), (69, o.1)]) (mj_rows L [(68, o.2)])) := by
  refine mj_in RX5 "weigh" [(0, .ref 65), (1, .ref 32), (2, .int x2), (3, .int x3), (4, .long x4)] rfl rfl rfl (by decide) (Nat.le_of_ble_eq_true rfl) (fun X ad hR => ?_)
  refine mj_toI [(32, r32), (33, r33), (37, r37), (38, r38), (39, r39), (67, r67), (69, r69)] (by intro q hq; simp only [List.mem_cons, List.not_mem_nil, or_false] at hq; rcases hq with rfl | rfl | rfl | rfl | rfl | rfl | rfl <;> assumption) ?_
  refine mj_toL [(68, q68)] (by intro q hq; simp only [List.mem_cons, List.not_mem_nil, or_false] at hq; rcases hq with rfl <;> assumption) ?_
  refine mtX5_weigh hR F I L r32 r33 r37 r38 r39 r67 r69 q68 x2 x3 x4 o hf ?_
  obtain ⟨w0, w1⟩ := o
  refine mj_u2q ?_
  exact ⟨rfl, rfl, rfl⟩

-- X5_drawn
def fnX5_drawn (F : Nat) (r19 : Nat → Int32) (r21 : Nat → Int32) (r33 : Nat → Int32) (x2 : Int32) (x3 : Int32) : Option ((Int32)) := (if mj_ib x2 200 = true then (if mj_ib (r33 x2.toNatClampNeg) 40 = true then (if (r19 ((r33 x2.toNatClampNeg).toNatClampNeg)) = (1 : Int32) then some x3 else (if x3 = 0 then (if mj_ib (r33 x2.toNatClampNeg) 40 = true then (if (r21 ((r33 x2.toNatClampNeg).toNatClampNeg)) ≤ 0 then some (0 : Int32) else some (1 : Int32)) else none) else some (0 : Int32))) else none) else none)
set_option maxRecDepth 100000 in
set_option maxHeartbeats 4000000 in
theorem mtX5_drawn {X : mj_XT} {l : Launch} {G : mj_GT} {ad : Nat → Nat} {Qn : Option Value → mj_IT → mj_LT → Prop} (hR : mj_R X l G mj_P0 mj_S0 98 ad 0 0 Qn) (F : Nat) (I : mj_IT) (L : mj_LT) (r19 : Nat → Int32) (r21 : Nat → Int32) (r33 : Nat → Int32) (x2 : Int32) (x3 : Int32) (o : ((Int32))) (hf : fnX5_drawn F r19 r21 r33 x2 x3 = some o) (hq : (fun ov => Qn (some (.int ov)) (mj_rows I [(19, r19), (21, r21), (33, r33)]) L) o) : mj_W X G RX5 "drawn" cX5_drawn 5 1 (some .int) mj_P0 mj_S0 98 ad 0 0 0 [(0, .ref 32), (1, .ref 18), (2, .int x2), (3, .int x3)] [] (mj_rows I [(19, r19), (21, r21), (33, r33)]) L := by
  unfold fnX5_drawn at hf
  refine mj_aload_n 0 dX5_drawn_0 rfl ?_
  refine mj_getP p0_32_8 (by decide) fl_X5_72 rfl s0_32 a0_32 dX5_drawn_1 ?_
  refine mj_iload_n 2 dX5_drawn_4 rfl ?_
  obtain ⟨z1, hf⟩ := mj_ck hf
  refine mj_ialdv (x := r33) rfl s0_33 a0_33 z1 dX5_drawn_5 ?_
  refine mj_istore [(4, .int (r33 x2.toNatClampNeg)), (0, .ref 32), (1, .ref 18), (2, .int x2), (3, .int x3)] dX5_drawn_6 (by decide) rfl ?_
  refine mj_aload_n 2 dX5_drawn_8 rfl ?_
  refine mj_getP p0_18_1 (by decide) fl_X5_78 rfl s0_18 a0_18 dX5_drawn_9 ?_
  refine mj_iload 0 dX5_drawn_12 rfl ?_
  obtain ⟨z2, hf⟩ := mj_ck hf
  refine mj_ialdv (x := r19) rfl s0_19 a0_19 z2 dX5_drawn_14 ?_
  refine mj_iconst dX5_drawn_15 kc_iconst_1 ?_
  refine mj_icmp_ne 21 dX5_drawn_16 (by decide) (fun c3 => ?_) (fun c3 => ?_)
  · replace hf := mj_neg c3 hf
    refine mj_iload_n 4 dX5_drawn_21 rfl ?_
    refine mj_if_ne 39 dX5_drawn_22 (by decide) (fun c4 => ?_) (fun c4 => ?_)
    · replace hf := mj_neg c4 hf
      refine mj_iconst dX5_drawn_39 kc_iconst_0 ?_
      obtain rfl := Option.some.inj hf
      have hZ := hq
      exact mj_iret hR ⟨Nat.le_refl _, Nat.le_refl _⟩ rfl rfl dX5_drawn_40 hZ
    · replace hf := mj_pos c4 hf
      refine mj_aload_n 2 dX5_drawn_25 rfl ?_
      refine mj_getP p0_18_3 (by decide) fl_X5_88 rfl s0_18 a0_18 dX5_drawn_26 ?_
      refine mj_iload 0 dX5_drawn_29 rfl ?_
      obtain ⟨z5, hf⟩ := mj_ck hf
      refine mj_ialdv (x := r21) rfl s0_21 a0_21 z5 dX5_drawn_31 ?_
      refine mj_if_le 39 dX5_drawn_32 (by decide) (fun c6 => ?_) (fun c6 => ?_)
      · replace hf := mj_pos c6 hf
        refine mj_iconst dX5_drawn_39 kc_iconst_0 ?_
        obtain rfl := Option.some.inj hf
        have hZ := hq
        exact mj_iret hR ⟨Nat.le_refl _, Nat.le_refl _⟩ rfl rfl dX5_drawn_40 hZ
      · replace hf := mj_neg c6 hf
        refine mj_iconst dX5_drawn_35 kc_iconst_1 ?_
        refine mj_goto 40 dX5_drawn_36 (by decide) ?_
        obtain rfl := Option.some.inj hf
        have hZ := hq
        exact mj_iret hR ⟨Nat.le_refl _, Nat.le_refl _⟩ rfl rfl dX5_drawn_40 hZ
  · replace hf := mj_pos c3 hf
    refine mj_iload_n 4 dX5_drawn_19 rfl ?_
    obtain rfl := Option.some.inj hf
    have hZ := hq
    exact mj_iret hR ⟨Nat.le_refl _, Nat.le_refl _⟩ rfl rfl dX5_drawn_20 hZ
set_option maxRecDepth 100000 in
set_option maxHeartbeats 4000000 in
theorem cmX5_drawn (l : Launch) (G : mj_GT) (F : Nat) (x2 : Int32) (x3 : Int32) (I : mj_IT) (L : mj_LT) (r19 : Nat → Int32) (r21 : Nat → Int32) (r33 : Nat → Int32) (hr19 : I 19 = r19) (hr21 : I 21 = r21) (hr33 : I 33 = r33) (o : ((Int32))) (hf : fnX5_drawn F r19 r21 r33 x2 x3 = some o) : mj_M l G yX5_drawn cX5_drawn 5 1 (some .int) 0 0 mj_P0 mj_S0 98 [.ref 32, .ref 18, .int x2, .int x3] I L (mj_qd (some (.int o)) (mj_rows I [(19, r19), (21, r21), (33, r33)]) L) := by
  refine mj_in RX5 "drawn" [(0, .ref 32), (1, .ref 18), (2, .int x2), (3, .int x3)] rfl rfl rfl (by decide) (Nat.le_of_ble_eq_true rfl) (fun X ad hR => ?_)
  refine mj_toI [(19, r19), (21, r21), (33, r33)] (by intro q hq; simp only [List.mem_cons, List.not_mem_nil, or_false] at hq; rcases hq with rfl | rfl | rfl <;> assumption) ?_
  refine mtX5_drawn hR F I L r19 r21 r33 x2 x3 o hf ?_
  exact ⟨rfl, rfl, rfl⟩

-- X5_trace
def bdX5_trace_45 (F : Nat) (r37 : Nat → Int32) (r38 : Nat → Int32) (r39 : Nat → Int32) (r67 : Nat → Int32) (r69 : Nat → Int32) (q68 : Nat → Int64) (x3 : Int32) (x4 : Int32) (x5 : Int32) (x6 : Int32) (x7 : Int32) : Option (((Int32) × (Int32)) ⊕ ((Int32))) := (if mj_ib (x3 + (1 : Int32)) 201 = true then (if (r37 ((x3 + (1 : Int32)).toNatClampNeg)) ≤ x7 then some (.inr x6) else (if x6 = (-1 : Int32) then (if mj_ib x7 2000 = true then (if mj_ib (r38 x7.toNatClampNeg) 200 = true then (if (r67 ((r38 x7.toNatClampNeg).toNatClampNeg)) = (-1 : Int32) then some (.inl (x6, (x7 + (1)))) else (if mj_ib x7 2000 = true then (if mj_ib (((x5 - (200 : Int32)) - x3) + (r67 ((r38 x7.toNatClampNeg).toNatClampNeg))) 2200 = true then (if mj_ib x5 2200 = true then (if (((r39 x7.toNatClampNeg).toInt64) * (q68 ((((x5 - (200 : Int32)) - x3) + (r67 ((r38 x7.toNatClampNeg).toNatClampNeg))).toNatClampNeg))) = (q68 x5.toNatClampNeg) then (if mj_ib (((x5 - (200 : Int32)) - x3) + (r67 ((r38 x7.toNatClampNeg).toNatClampNeg))) 2200 = true then (if mj_ib x5 2200 = true then (if ((r69 ((((x5 - (200 : Int32)) - x3) + (r67 ((r38 x7.toNatClampNeg).toNatClampNeg))).toNatClampNeg)) + (1 : Int32)) = (r69 x5.toNatClampNeg) then some (.inl (x7, (x7 + (1)))) else some (.inl (x6, (x7 + (1))))) else none) else none) else some (.inl (x6, (x7 + (1))))) else none) else none) else none)) else none) else none) else some (.inr x6))) else none)
def bdX5_trace_11 (F : Nat) (r19 : Nat → Int32) (r21 : Nat → Int32) (r32 : Nat → Int32) (r33 : Nat → Int32) (r37 : Nat → Int32) (r38 : Nat → Int32) (r39 : Nat → Int32) (r67 : Nat → Int32) (r69 : Nat → Int32) (q68 : Nat → Int64) (x3 : Int32) (x4 : Int32) (r65 : Nat → Int32) (r66 : Nat → Int32) : Option (((Int32) × (Int32) × (Nat → Int32) × (Nat → Int32)) ⊕ (((Nat → Int32) × (Nat → Int32)) ⊕ ((Nat → Int32) × (Nat → Int32)))) := (if x4 ≤ 0 then some (.inr (.inl (r65, r66))) else (fnX4_isEnd F r32 r33 x3).bind (fun o15 => (if o15 = 0 then (if mj_ib x3 201 = true then (mj_it (mj_u2 (fun z0 z1 => bdX5_trace_45 F r37 r38 r39 r67 r69 q68 x3 x4 ((x4 * (200 : Int32)) + x3) z0 z1)) F ((-1 : Int32), (r37 x3.toNatClampNeg))).bind (fun x6_18 => (if x6_18 = (-1 : Int32) then some (.inr (.inr (r65, r66))) else (if mj_ib x3 201 = true then (fnX5_drawn F r19 r21 r33 x3 (x6_18 - (r37 x3.toNatClampNeg))).bind (fun o21 => (if mj_ib (r65 2) 10 = true then (if mj_ib x6_18 2000 = true then (if mj_ib (r38 x6_18.toNatClampNeg) 200 = true then some (.inl ((r67 ((r38 x6_18.toNatClampNeg).toNatClampNeg)), (x4 + (-1)), (upd r65 2 ((r65 2) + (1 : Int32))), (upd r66 ((r65 2).toNatClampNeg) o21))) else none) else none) else none)) else none))) else none) else some (.inr (.inl (r65, r66))))))
def fnX5_trace (F : Nat) (r19 : Nat → Int32) (r21 : Nat → Int32) (r32 : Nat → Int32) (r33 : Nat → Int32) (r37 : Nat → Int32) (r38 : Nat → Int32) (r39 : Nat → Int32) (r65 : Nat → Int32) (r66 : Nat → Int32) (r67 : Nat → Int32) (r69 : Nat → Int32) (q68 : Nat → Int64) : Option ((Nat → Int32) × (Nat → Int32)) := (if mj_ib (0 : Int32) 200 = true then (mj_it (mj_u2 (fun z0 => (mj_u2 (fun z1 => (mj_u2 (fun z2 z3 => bdX5_trace_11 F r19 r21 r32 r33 r37 r38 r39 r67 r69 q68 z0 z1 z2 z3)))))) F ((r67 ((0 : Int32).toNatClampNeg)), (10 : Int32), r65, r66)).bind (Sum.elim (mj_u2 (fun r65_26 r66_26 => some (r65_26, r66_26))) (mj_u2 (fun r65_26 r66_26 => some (r65_26, r66_26)))) else none)
set_option maxRecDepth 100000 in
set_option maxHeartbeats 4000000 in
theorem lpX5_trace_45 {X : mj_XT} {l : Launch} {G : mj_GT} {ad : Nat → Nat} {Qn : Option Value → mj_IT → mj_LT → Prop} (hR : mj_R X l G mj_P0 mj_S0 98 ad 0 0 Qn) (F : Nat) (I : mj_IT) (L : mj_LT) (r19 : Nat → Int32) (r21 : Nat → Int32) (r32 : Nat → Int32) (r33 : Nat → Int32) (r37 : Nat → Int32) (r38 : Nat → Int32) (r39 : Nat → Int32) (r65 : Nat → Int32) (r66 : Nat → Int32) (r67 : Nat → Int32) (r69 : Nat → Int32) (q68 : Nat → Int64) (x3 : Int32) (x4 : Int32) (x5 : Int32) : ∀ (n : Nat) (s : ((Int32) × (Int32))) (e : ((Int32))), mj_it (mj_u2 (fun z0 z1 => bdX5_trace_45 F r37 r38 r39 r67 r69 q68 x3 x4 x5 z0 z1)) n s = some e → (fun x6 => mj_W X G RX5 "trace" cX5_trace 10 2 none mj_P0 mj_S0 98 ad 0 0 153 [(0, .ref 65), (1, .ref 32), (2, .ref 18), (3, .int x3), (4, .int x4), (6, .int x6)] [] (mj_rows I [(19, r19), (21, r21), (32, r32), (33, r33), (37, r37), (38, r38), (39, r39), (65, r65), (66, r66), (67, r67), (69, r69)]) (mj_rows L [(68, q68)])) e → (mj_u2 (fun x6 x7 => mj_W X G RX5 "trace" cX5_trace 10 2 none mj_P0 mj_S0 98 ad 0 0 45 [(0, .ref 65), (1, .ref 32), (2, .ref 18), (3, .int x3), (4, .int x4), (5, .int x5), (6, .int x6), (7, .int x7)] [] (mj_rows I [(19, r19), (21, r21), (32, r32), (33, r33), (37, r37), (38, r38), (39, r39), (65, r65), (66, r66), (67, r67), (69, r69)]) (mj_rows L [(68, q68)]))) s := by
  refine mj_loop (fun s o hf hc hx => ?_)
  obtain ⟨x6, x7⟩ := s
  replace hf := mj_u2e hf
  refine mj_u2q ?_
  unfold bdX5_trace_45 at hf
  refine mj_iload 7 dX5_trace_45 rfl ?_
  refine mj_aload_n 1 dX5_trace_47 rfl ?_
  refine mj_getP p0_32_12 (by decide) fl_X5_69 rfl s0_32 a0_32 dX5_trace_48 ?_
  refine mj_iload_n 3 dX5_trace_51 rfl ?_
  refine mj_iconst dX5_trace_52 kc_iconst_1 ?_
  refine mj_iadd dX5_trace_53 ?_
  obtain ⟨z1, hf⟩ := mj_ck hf
  refine mj_ialdv (x := r37) rfl s0_37 a0_37 z1 dX5_trace_54 ?_
  refine mj_icmp_ge 153 dX5_trace_55 (by decide) (fun c2 => ?_) (fun c2 => ?_)
  · replace hf := mj_pos c2 hf
    refine mj_sub [0, 1, 2, 3, 4, 6] [(0, .ref 65), (1, .ref 32), (2, .ref 18), (3, .int x3), (4, .int x4), (6, .int x6)] rfl ?_
    obtain rfl := Option.some.inj hf
    have hZ := hx x6 rfl
    exact hZ
  · replace hf := mj_neg c2 hf
    refine mj_iload 6 dX5_trace_58 rfl ?_
    refine mj_iconst dX5_trace_60 kc_iconst_m1 ?_
    refine mj_icmp_ne 153 dX5_trace_61 (by decide) (fun c3 => ?_) (fun c3 => ?_)
    · replace hf := mj_neg c3 hf
      refine mj_sub [0, 1, 2, 3, 4, 6] [(0, .ref 65), (1, .ref 32), (2, .ref 18), (3, .int x3), (4, .int x4), (6, .int x6)] rfl ?_
      obtain rfl := Option.some.inj hf
      have hZ := hx x6 rfl
      exact hZ
    · replace hf := mj_pos c3 hf
      refine mj_aload_n 0 dX5_trace_64 rfl ?_
      refine mj_getP p0_65_4 (by decide) fl_X5_15 rfl s0_65 a0_65 dX5_trace_65 ?_
      refine mj_aload_n 1 dX5_trace_68 rfl ?_
      refine mj_getP p0_32_13 (by decide) fl_X5_66 rfl s0_32 a0_32 dX5_trace_69 ?_
      refine mj_iload 7 dX5_trace_72 rfl ?_
      obtain ⟨z4, hf⟩ := mj_ck hf
      refine mj_ialdv (x := r38) rfl s0_38 a0_38 z4 dX5_trace_74 ?_
      obtain ⟨z5, hf⟩ := mj_ck hf
      refine mj_ialdv (x := r67) rfl s0_67 a0_67 z5 dX5_trace_75 ?_
      refine mj_istore [(8, .int (r67 ((r38 x7.toNatClampNeg).toNatClampNeg))), (0, .ref 65), (1, .ref 32), (2, .ref 18), (3, .int x3), (4, .int x4), (5, .int x5), (6, .int x6), (7, .int x7)] dX5_trace_76 (by decide) rfl ?_
      refine mj_iload 6 dX5_trace_78 rfl ?_
      refine mj_sipush dX5_trace_80 kc_sipush_200 ?_
      refine mj_isub dX5_trace_83 ?_
      refine mj_iload_n 4 dX5_trace_84 rfl ?_
      refine mj_isub dX5_trace_85 ?_
      refine mj_iload 0 dX5_trace_86 rfl ?_
      refine mj_iadd dX5_trace_88 ?_
      refine mj_istore [(9, .int (((x5 - (200 : Int32)) - x3) + (r67 ((r38 x7.toNatClampNeg).toNatClampNeg)))), (8, .int (r67 ((r38 x7.toNatClampNeg).toNatClampNeg))), (0, .ref 65), (1, .ref 32), (2, .ref 18), (3, .int x3), (4, .int x4), (5, .int x5), (6, .int x6), (7, .int x7)] dX5_trace_89 (by decide) rfl ?_
      refine mj_iload 1 dX5_trace_91 rfl ?_
      refine mj_iconst dX5_trace_93 kc_iconst_m1 ?_
      refine mj_icmp_eq 147 dX5_trace_94 (by decide) (fun c6 => ?_) (fun c6 => ?_)
      · replace hf := mj_pos c6 hf
        refine mj_iinc 9 [(7, .int (x7 + (1))), (9, .int (((x5 - (200 : Int32)) - x3) + (r67 ((r38 x7.toNatClampNeg).toNatClampNeg)))), (8, .int (r67 ((r38 x7.toNatClampNeg).toNatClampNeg))), (0, .ref 65), (1, .ref 32), (2, .ref 18), (3, .int x3), (4, .int x4), (5, .int x5), (6, .int x6)] dX5_trace_147 rfl (kz_1 _) (by decide) rfl ?_
        refine mj_goto 45 dX5_trace_150 (by decide) ?_
        refine mj_sub [3, 4, 5, 6, 7, 8, 9, 0] [(0, .ref 65), (1, .ref 32), (2, .ref 18), (3, .int x3), (4, .int x4), (5, .int x5), (6, .int x6), (7, .int (x7 + (1)))] rfl ?_
        obtain rfl := Option.some.inj hf
        have hZ := hc (x6, (x7 + (1))) rfl
        replace hZ := mj_u2p hZ
        exact hZ
      · replace hf := mj_neg c6 hf
        refine mj_aload_n 3 dX5_trace_97 rfl ?_
        refine mj_getP p0_32_14 (by decide) fl_X5_81 rfl s0_32 a0_32 dX5_trace_98 ?_
        refine mj_iload 9 dX5_trace_101 rfl ?_
        obtain ⟨z7, hf⟩ := mj_ck hf
        refine mj_ialdv (x := r39) rfl s0_39 a0_39 z7 dX5_trace_103 ?_
        refine mj_i2l dX5_trace_104 ?_
        refine mj_aload_n 2 dX5_trace_105 rfl ?_
        refine mj_getP p0_65_5 (by decide) fl_X5_18 rfl s0_65 a0_65 dX5_trace_106 ?_
        refine mj_iload 0 dX5_trace_109 rfl ?_
        obtain ⟨z8, hf⟩ := mj_ck hf
        refine mj_laldv (x := q68) rfl s0_68 a0_68 z8 dX5_trace_111 ?_
        refine mj_lmul dX5_trace_112 ?_
        refine mj_aload_n 2 dX5_trace_113 rfl ?_
        refine mj_getP p0_65_5 (by decide) fl_X5_18 rfl s0_65 a0_65 dX5_trace_114 ?_
        refine mj_iload 7 dX5_trace_117 rfl ?_
        obtain ⟨z9, hf⟩ := mj_ck hf
        refine mj_laldv (x := q68) rfl s0_68 a0_68 z9 dX5_trace_119 ?_
        refine mj_lc_ne 147 dX5_trace_120 dX5_trace_121 (by decide) (fun c10 => ?_) (fun c10 => ?_)
        · replace hf := mj_neg c10 hf
          refine mj_iinc 9 [(7, .int (x7 + (1))), (9, .int (((x5 - (200 : Int32)) - x3) + (r67 ((r38 x7.toNatClampNeg).toNatClampNeg)))), (8, .int (r67 ((r38 x7.toNatClampNeg).toNatClampNeg))), (0, .ref 65), (1, .ref 32), (2, .ref 18), (3, .int x3), (4, .int x4), (5, .int x5), (6, .int x6)] dX5_trace_147 rfl (kz_1 _) (by decide) rfl ?_
          refine mj_goto 45 dX5_trace_150 (by decide) ?_
          refine mj_sub [3, 4, 5, 6, 7, 8, 9, 0] [(0, .ref 65), (1, .ref 32), (2, .ref 18), (3, .int x3), (4, .int x4), (5, .int x5), (6, .int x6), (7, .int (x7 + (1)))] rfl ?_
          obtain rfl := Option.some.inj hf
          have hZ := hc (x6, (x7 + (1))) rfl
          replace hZ := mj_u2p hZ
          exact hZ
        · replace hf := mj_pos c10 hf
          refine mj_aload_n 2 dX5_trace_124 rfl ?_
          refine mj_getP p0_65_6 (by decide) fl_X5_22 rfl s0_65 a0_65 dX5_trace_125 ?_
          refine mj_iload 0 dX5_trace_128 rfl ?_
          obtain ⟨z11, hf⟩ := mj_ck hf
          refine mj_ialdv (x := r69) rfl s0_69 a0_69 z11 dX5_trace_130 ?_
          refine mj_iconst dX5_trace_131 kc_iconst_1 ?_
          refine mj_iadd dX5_trace_132 ?_
          refine mj_aload_n 2 dX5_trace_133 rfl ?_
          refine mj_getP p0_65_6 (by decide) fl_X5_22 rfl s0_65 a0_65 dX5_trace_134 ?_
          refine mj_iload 7 dX5_trace_137 rfl ?_
          obtain ⟨z12, hf⟩ := mj_ck hf
          refine mj_ialdv (x := r69) rfl s0_69 a0_69 z12 dX5_trace_139 ?_
          refine mj_icmp_ne 147 dX5_trace_140 (by decide) (fun c13 => ?_) (fun c13 => ?_)
          · replace hf := mj_neg c13 hf
            refine mj_iinc 9 [(7, .int (x7 + (1))), (9, .int (((x5 - (200 : Int32)) - x3) + (r67 ((r38 x7.toNatClampNeg).toNatClampNeg)))), (8, .int (r67 ((r38 x7.toNatClampNeg).toNatClampNeg))), (0, .ref 65), (1, .ref 32), (2, .ref 18), (3, .int x3), (4, .int x4), (5, .int x5), (6, .int x6)] dX5_trace_147 rfl (kz_1 _) (by decide) rfl ?_
            refine mj_goto 45 dX5_trace_150 (by decide) ?_
            refine mj_sub [3, 4, 5, 6, 7, 8, 9, 0] [(0, .ref 65), (1, .ref 32), (2, .ref 18), (3, .int x3), (4, .int x4), (5, .int x5), (6, .int x6), (7, .int (x7 + (1)))] rfl ?_
            obtain rfl := Option.some.inj hf
            have hZ := hc (x6, (x7 + (1))) rfl
            replace hZ := mj_u2p hZ
            exact hZ
          · replace hf := mj_pos c13 hf
            refine mj_iload 9 dX5_trace_143 rfl ?_
            refine mj_istore [(6, .int x7), (9, .int (((x5 - (200 : Int32)) - x3) + (r67 ((r38 x7.toNatClampNeg).toNatClampNeg)))), (8, .int (r67 ((r38 x7.toNatClampNeg).toNatClampNeg))), (0, .ref 65), (1, .ref 32), (2, .ref 18), (3, .int x3), (4, .int x4), (5, .int x5), (7, .int x7)] dX5_trace_145 (by decide) rfl ?_
            refine mj_iinc 9 [(7, .int (x7 + (1))), (6, .int x7), (9, .int (((x5 - (200 : Int32)) - x3) + (r67 ((r38 x7.toNatClampNeg).toNatClampNeg)))), (8, .int (r67 ((r38 x7.toNatClampNeg).toNatClampNeg))), (0, .ref 65), (1, .ref 32), (2, .ref 18), (3, .int x3), (4, .int x4), (5, .int x5)] dX5_trace_147 rfl (kz_1 _) (by decide) rfl ?_
            refine mj_goto 45 dX5_trace_150 (by decide) ?_
            refine mj_sub [4, 5, 6, 7, 8, 9, 1, 0] [(0, .ref 65), (1, .ref 32), (2, .ref 18), (3, .int x3), (4, .int x4), (5, .int x5), (6, .int x7), (7, .int (x7 + (1)))] rfl ?_
            obtain rfl := Option.some.inj hf
            have hZ := hc (x7, (x7 + (1))) rfl
            replace hZ := mj_u2p hZ
            exact hZ
set_option maxRecDepth 100000 in
set_option maxHeartbeats 4000000 in
theorem lpX5_trace_11 {X : mj_XT} {l : Launch} {G : mj_GT} {ad : Nat → Nat} {Qn : Option Value → mj_IT → mj_LT → Prop} (hR : mj_R X l G mj_P0 mj_S0 98 ad 0 0 Qn) (F : Nat) (I : mj_IT) (L : mj_LT) (r19 : Nat → Int32) (r21 : Nat → Int32) (r32 : Nat → Int32) (r33 : Nat → Int32) (r37 : Nat → Int32) (r38 : Nat → Int32) (r39 : Nat → Int32) (r65 : Nat → Int32) (r66 : Nat → Int32) (r67 : Nat → Int32) (r69 : Nat → Int32) (q68 : Nat → Int64) : ∀ (n : Nat) (s : ((Int32) × (Int32) × (Nat → Int32) × (Nat → Int32))) (e : (((Nat → Int32) × (Nat → Int32)) ⊕ ((Nat → Int32) × (Nat → Int32)))), mj_it (mj_u2 (fun z0 => (mj_u2 (fun z1 => (mj_u2 (fun z2 z3 => bdX5_trace_11 F r19 r21 r32 r33 r37 r38 r39 r67 r69 q68 z0 z1 z2 z3)))))) n s = some e → (Sum.elim (mj_u2 (fun r65 r66 => mj_W X G RX5 "trace" cX5_trace 10 2 none mj_P0 mj_S0 98 ad 0 0 213 [] [] (mj_rows I [(19, r19), (21, r21), (32, r32), (33, r33), (37, r37), (38, r38), (39, r39), (65, r65), (66, r66), (67, r67), (69, r69)]) (mj_rows L [(68, q68)]))) (mj_u2 (fun r65 r66 => mj_W X G RX5 "trace" cX5_trace 10 2 none mj_P0 mj_S0 98 ad 0 0 159 [] [] (mj_rows I [(19, r19), (21, r21), (32, r32), (33, r33), (37, r37), (38, r38), (39, r39), (65, r65), (66, r66), (67, r67), (69, r69)]) (mj_rows L [(68, q68)])))) e → (mj_u2 (fun x3 => (mj_u2 (fun x4 => (mj_u2 (fun r65 r66 => mj_W X G RX5 "trace" cX5_trace 10 2 none mj_P0 mj_S0 98 ad 0 0 11 [(0, .ref 65), (1, .ref 32), (2, .ref 18), (3, .int x3), (4, .int x4)] [] (mj_rows I [(19, r19), (21, r21), (32, r32), (33, r33), (37, r37), (38, r38), (39, r39), (65, r65), (66, r66), (67, r67), (69, r69)]) (mj_rows L [(68, q68)]))))))) s := by
  refine mj_loop (fun s o hf hc hx => ?_)
  obtain ⟨x3, x4, r65, r66⟩ := s
  replace hf := mj_u2e hf
  refine mj_u2q ?_
  replace hf := mj_u2e hf
  refine mj_u2q ?_
  replace hf := mj_u2e hf
  refine mj_u2q ?_
  unfold bdX5_trace_11 at hf
  refine mj_iload 4 dX5_trace_11 rfl ?_
  refine mj_if_le 213 dX5_trace_13 (by decide) (fun c14 => ?_) (fun c14 => ?_)
  · replace hf := mj_pos c14 hf
    refine mj_sub [] [] rfl ?_
    obtain rfl := Option.some.inj hf
    have hZ := hx (.inl (r65, r66)) rfl
    replace hZ := mj_el hZ
    replace hZ := mj_u2p hZ
    exact hZ
  · replace hf := mj_neg c14 hf
    refine mj_aload_n 1 dX5_trace_16 rfl ?_
    refine mj_iload_n 3 dX5_trace_17 rfl ?_
    obtain ⟨o15, ho15, hf⟩ := mj_bd hf
    refine mj_callVd (I2 := (mj_rows I [(19, r19), (21, r21), (32, r32), (33, r33), (37, r37), (38, r38), (39, r39), (65, r65), (66, r66), (67, r67), (69, r69)])) (L2 := (mj_rows L [(68, q68)])) (s1 := [.int o15]) (st := []) [.int x3] (cmX4_isEnd X.2.1 G F x3 _ _ r32 r33 rfl rfl o15 ho15) (mj_rr rfl) rfl cw_X5_54 s0_32 a0_32 (by decide) rfl rfl (Nat.le_of_ble_eq_true rfl) ⟨Nat.zero_le _, Nat.zero_le _⟩ dX5_trace_18 rfl ?_
    refine mj_if_ne 213 dX5_trace_21 (by decide) (fun c16 => ?_) (fun c16 => ?_)
    · replace hf := mj_neg c16 hf
      refine mj_sub [] [] rfl ?_
      obtain rfl := Option.some.inj hf
      have hZ := hx (.inl (r65, r66)) rfl
      replace hZ := mj_el hZ
      replace hZ := mj_u2p hZ
      exact hZ
    · replace hf := mj_pos c16 hf
      refine mj_iload 4 dX5_trace_24 rfl ?_
      refine mj_sipush dX5_trace_26 kc_sipush_200 ?_
      refine mj_imul dX5_trace_29 ?_
      refine mj_iload_n 3 dX5_trace_30 rfl ?_
      refine mj_iadd dX5_trace_31 ?_
      refine mj_istore [(5, .int ((x4 * (200 : Int32)) + x3)), (0, .ref 65), (1, .ref 32), (2, .ref 18), (3, .int x3), (4, .int x4)] dX5_trace_32 (by decide) rfl ?_
      refine mj_iconst dX5_trace_34 kc_iconst_m1 ?_
      refine mj_istore [(6, .int (-1 : Int32)), (5, .int ((x4 * (200 : Int32)) + x3)), (0, .ref 65), (1, .ref 32), (2, .ref 18), (3, .int x3), (4, .int x4)] dX5_trace_35 (by decide) rfl ?_
      refine mj_aload_n 3 dX5_trace_37 rfl ?_
      refine mj_getP p0_32_12 (by decide) fl_X5_69 rfl s0_32 a0_32 dX5_trace_38 ?_
      refine mj_iload_n 5 dX5_trace_41 rfl ?_
      obtain ⟨z17, hf⟩ := mj_ck hf
      refine mj_ialdv (x := r37) rfl s0_37 a0_37 z17 dX5_trace_42 ?_
      refine mj_istore [(7, .int (r37 x3.toNatClampNeg)), (6, .int (-1 : Int32)), (5, .int ((x4 * (200 : Int32)) + x3)), (0, .ref 65), (1, .ref 32), (2, .ref 18), (3, .int x3), (4, .int x4)] dX5_trace_43 (by decide) rfl ?_
      refine mj_sub [3, 4, 5, 6, 7, 2, 1, 0] [(0, .ref 65), (1, .ref 32), (2, .ref 18), (3, .int x3), (4, .int x4), (5, .int ((x4 * (200 : Int32)) + x3)), (6, .int (-1 : Int32)), (7, .int (r37 x3.toNatClampNeg))] rfl ?_
      obtain ⟨x6_18, ho18, hf⟩ := mj_bd hf
      refine lpX5_trace_45 hR F I L r19 r21 r32 r33 r37 r38 r39 r65 r66 r67 r69 q68 x3 x4 ((x4 * (200 : Int32)) + x3) F ((-1 : Int32), (r37 x3.toNatClampNeg)) x6_18 ho18 ?_
      refine ?_
      refine mj_iload 5 dX5_trace_153 rfl ?_
      refine mj_iconst dX5_trace_155 kc_iconst_m1 ?_
      refine mj_icmp_ne 160 dX5_trace_156 (by decide) (fun c19 => ?_) (fun c19 => ?_)
      · replace hf := mj_neg c19 hf
        refine mj_aload_n 0 dX5_trace_160 rfl ?_
        refine mj_getP p0_65_3 (by decide) fl_X5_9 rfl s0_65 a0_65 dX5_trace_161 ?_
        refine mj_aload_n 0 dX5_trace_164 rfl ?_
        refine mj_getIv (v := (r65 2)) rfl fl_X5_36 rfl s0_65 a0_65 dX5_trace_165 ?_
        refine mj_aload_n 1 dX5_trace_168 rfl ?_
        refine mj_aload_n 2 dX5_trace_169 rfl ?_
        refine mj_iload_n 3 dX5_trace_170 rfl ?_
        refine mj_iload 5 dX5_trace_171 rfl ?_
        refine mj_aload_n 1 dX5_trace_173 rfl ?_
        refine mj_getP p0_32_12 (by decide) fl_X5_69 rfl s0_32 a0_32 dX5_trace_174 ?_
        refine mj_iload_n 3 dX5_trace_177 rfl ?_
        obtain ⟨z20, hf⟩ := mj_ck hf
        refine mj_ialdv (x := r37) rfl s0_37 a0_37 z20 dX5_trace_178 ?_
        refine mj_isub dX5_trace_179 ?_
        obtain ⟨o21, ho21, hf⟩ := mj_bd hf
        refine mj_callSd (I2 := (mj_rows I [(19, r19), (21, r21), (32, r32), (33, r33), (37, r37), (38, r38), (39, r39), (65, r65), (66, r66), (67, r67), (69, r69)])) (L2 := (mj_rows L [(68, q68)])) (s1 := [.int o21, .int (r65 2), .ref 66]) (st := [.int (r65 2), .ref 66]) [.ref 32, .ref 18, .int x3, .int (x6_18 - (r37 x3.toNatClampNeg))] (cmX5_drawn X.2.1 G F x3 (x6_18 - (r37 x3.toNatClampNeg)) _ _ r19 r21 r33 rfl rfl rfl o21 ho21) (mj_rr rfl) rfl cw_X5_84 (by decide) rfl rfl (Nat.le_of_ble_eq_true rfl) ⟨Nat.zero_le _, Nat.zero_le _⟩ dX5_trace_180 rfl ?_
        obtain ⟨z22, hf⟩ := mj_ck hf
        refine mj_iastr [(19, r19), (21, r21), (32, r32), (33, r33), (37, r37), (38, r38), (39, r39), (65, r65), (66, (upd r66 ((r65 2).toNatClampNeg) o21)), (67, r67), (69, r69)] rfl s0_66 a0_66 z22 dX5_trace_183 ?_
        refine mj_aload_n 0 dX5_trace_184 rfl ?_
        refine mj_dup dX5_trace_185 rfl ?_
        refine mj_getIv (v := (r65 2)) rfl fl_X5_36 rfl s0_65 a0_65 dX5_trace_186 ?_
        refine mj_iconst dX5_trace_189 kc_iconst_1 ?_
        refine mj_iadd dX5_trace_190 ?_
        refine mj_putIr (ci := 3) (j := 2) [(19, r19), (21, r21), (32, r32), (33, r33), (37, r37), (38, r38), (39, r39), (65, (upd r65 2 ((r65 2) + (1 : Int32)))), (66, (upd r66 ((r65 2).toNatClampNeg) o21)), (67, r67), (69, r69)] rfl ⟨rfl, rfl⟩ fl_X5_36 rfl rfl s0_65 a0_65 dX5_trace_191 ?_
        refine mj_aload_n 0 dX5_trace_194 rfl ?_
        refine mj_getP p0_65_4 (by decide) fl_X5_15 rfl s0_65 a0_65 dX5_trace_195 ?_
        refine mj_aload_n 1 dX5_trace_198 rfl ?_
        refine mj_getP p0_32_13 (by decide) fl_X5_66 rfl s0_32 a0_32 dX5_trace_199 ?_
        refine mj_iload 5 dX5_trace_202 rfl ?_
        obtain ⟨z23, hf⟩ := mj_ck hf
        refine mj_ialdv (x := r38) rfl s0_38 a0_38 z23 dX5_trace_204 ?_
        obtain ⟨z24, hf⟩ := mj_ck hf
        refine mj_ialdv (x := r67) rfl s0_67 a0_67 z24 dX5_trace_205 ?_
        refine mj_istore_n [(3, .int (r67 ((r38 x6_18.toNatClampNeg).toNatClampNeg))), (0, .ref 65), (1, .ref 32), (2, .ref 18), (4, .int x4), (6, .int x6_18)] dX5_trace_206 rfl (by decide) rfl ?_
        refine mj_iinc 4 [(4, .int (x4 + (-1))), (3, .int (r67 ((r38 x6_18.toNatClampNeg).toNatClampNeg))), (0, .ref 65), (1, .ref 32), (2, .ref 18), (6, .int x6_18)] dX5_trace_207 rfl (kz_m1 _) (by decide) rfl ?_
        refine mj_goto 11 dX5_trace_210 (by decide) ?_
        refine mj_sub [2, 3, 4, 1, 0] [(0, .ref 65), (1, .ref 32), (2, .ref 18), (3, .int (r67 ((r38 x6_18.toNatClampNeg).toNatClampNeg))), (4, .int (x4 + (-1)))] rfl ?_
        obtain rfl := Option.some.inj hf
        have hZ := hc ((r67 ((r38 x6_18.toNatClampNeg).toNatClampNeg)), (x4 + (-1)), (upd r65 2 ((r65 2) + (1 : Int32))), (upd r66 ((r65 2).toNatClampNeg) o21)) rfl
        replace hZ := mj_u2p hZ
        replace hZ := mj_u2p hZ
        replace hZ := mj_u2p hZ
        exact hZ
      · replace hf := mj_pos c19 hf
        refine mj_sub [] [] rfl ?_
        obtain rfl := Option.some.inj hf
        have hZ := hx (.inr (r65, r66)) rfl
        replace hZ := mj_er hZ
        replace hZ := mj_u2p hZ
        exact hZ
set_option maxRecDepth 100000 in
set_option maxHeartbeats 4000000 in
theorem mtX5_trace {X : mj_XT} {l : Launch} {G : mj_GT} {ad : Nat → Nat} {Qn : Option Value → mj_IT → mj_LT → Prop} (hR : mj_R X l G mj_P0 mj_S0 98 ad 0 0 Qn) (F : Nat) (I : mj_IT) (L : mj_LT) (r19 : Nat → Int32) (r21 : Nat → Int32) (r32 : Nat → Int32) (r33 : Nat → Int32) (r37 : Nat → Int32) (r38 : Nat → Int32) (r39 : Nat → Int32) (r65 : Nat → Int32) (r66 : Nat → Int32) (r67 : Nat → Int32) (r69 : Nat → Int32) (q68 : Nat → Int64) (o : ((Nat → Int32) × (Nat → Int32))) (hf : fnX5_trace F r19 r21 r32 r33 r37 r38 r39 r65 r66 r67 r69 q68 = some o) (hq : (mj_u2 (fun r65 r66 => Qn none (mj_rows I [(19, r19), (21, r21), (32, r32), (33, r33), (37, r37), (38, r38), (39, r39), (65, r65), (66, r66), (67, r67), (69, r69)]) (mj_rows L [(68, q68)]))) o) : mj_W X G RX5 "trace" cX5_trace 10 2 none mj_P0 mj_S0 98 ad 0 0 0 [(0, .ref 65), (1, .ref 32), (2, .ref 18)] [] (mj_rows I [(19, r19), (21, r21), (32, r32), (33, r33), (37, r37), (38, r38), (39, r39), (65, r65), (66, r66), (67, r67), (69, r69)]) (mj_rows L [(68, q68)]) := by
  unfold fnX5_trace at hf
  refine mj_aload_n 0 dX5_trace_0 rfl ?_
  refine mj_getP p0_65_4 (by decide) fl_X5_15 rfl s0_65 a0_65 dX5_trace_1 ?_
  refine mj_iconst dX5_trace_4 kc_iconst_0 ?_
  obtain ⟨z25, hf⟩ := mj_ck hf
  refine mj_ialdv (x := r67) rfl s0_67 a0_67 z25 dX5_trace_5 ?_
  refine mj_istore_n [(3, .int (r67 ((0 : Int32).toNatClampNeg))), (0, .ref 65), (1, .ref 32), (2, .ref 18)] dX5_trace_6 rfl (by decide) rfl ?_
  refine mj_bipush dX5_trace_7 kc_bipush_10 ?_
  refine mj_istore [(4, .int (10 : Int32)), (3, .int (r67 ((0 : Int32).toNatClampNeg))), (0, .ref 65), (1, .ref 32), (2, .ref 18)] dX5_trace_9 (by decide) rfl ?_
  refine mj_sub [2, 3, 4, 1, 0] [(0, .ref 65), (1, .ref 32), (2, .ref 18), (3, .int (r67 ((0 : Int32).toNatClampNeg))), (4, .int (10 : Int32))] rfl ?_
  obtain ⟨e26, ho26, hf⟩ := mj_bd hf
  refine lpX5_trace_11 hR F I L r19 r21 r32 r33 r37 r38 r39 r65 r66 r67 r69 q68 F ((r67 ((0 : Int32).toNatClampNeg)), (10 : Int32), r65, r66) e26 ho26 ?_
  rcases e26 with e26 | e26
  · replace hf := mj_ele hf
    obtain ⟨r65_26, r66_26⟩ := e26
    replace hf := mj_u2e hf
    refine mj_elq (?_)
    refine mj_u2q ?_
    obtain rfl := Option.some.inj hf
    have hZ := hq
    replace hZ := mj_u2p hZ
    exact mj_vret hR ⟨Nat.le_refl _, Nat.le_refl _⟩ rfl dX5_trace_213 hZ
  · replace hf := mj_ere hf
    obtain ⟨r65_26, r66_26⟩ := e26
    replace hf := mj_u2e hf
    refine mj_erq (?_)
    refine mj_u2q ?_
    obtain rfl := Option.some.inj hf
    have hZ := hq
    replace hZ := mj_u2p hZ
    exact mj_vret hR ⟨Nat.le_refl _, Nat.le_refl _⟩ rfl dX5_trace_159 hZ
set_option maxRecDepth 100000 in
set_option maxHeartbeats 4000000 in
theorem cmX5_trace (l : Launch) (G : mj_GT) (F : Nat) (I : mj_IT) (L : mj_LT) (r19 : Nat → Int32) (r21 : Nat → Int32) (r32 : Nat → Int32) (r33 : Nat → Int32) (r37 : Nat → Int32) (r38 : Nat → Int32) (r39 : Nat → Int32) (r65 : Nat → Int32) (r66 : Nat → Int32) (r67 : Nat → Int32) (r69 : Nat → Int32) (q68 : Nat → Int64) (hr19 : I 19 = r19) (hr21 : I 21 = r21) (hr32 : I 32 = r32) (hr33 : I 33 = r33) (hr37 : I 37 = r37) (hr38 : I 38 = r38) (hr39 : I 39 = r39) (hr65 : I 65 = r65) (hr66 : I 66 = r66) (hr67 : I 67 = r67) (hr69 : I 69 = r69) (hq68 : L 68 = q68) (o : ((Nat → Int32) × (Nat → Int32))) (hf : fnX5_trace F r19 r21 r32 r33 r37 r38 r39 r65 r66 r67 r69 q68 = some o) : mj_M l G yX5_trace cX5_trace 10 2 none 0 0 mj_P0 mj_S0 98 [.ref 65, .ref 32, .ref 18] I L (mj_qd none (mj_rows I [(19, r19), (21, r21), (32, r32), (33, r33), (37, r37), (38, r38), (39, r39), (65, o.1), (66, o.2), (67, r67), (69, r69)]) (mj_rows L [(68, q68)])) := by
  refine mj_in RX5 "trace" [(0, .ref 65), (1, .ref 32), (2, .ref 18)] rfl rfl rfl (by decide) (Nat.le_of_ble_eq_true rfl) (fun X ad hR => ?_)
  refine mj_toI [(19, r19), (21, r21), (32, r32), (33, r33), (37, r37), (38, r38), (39, r39), (65, r65), (66, r66), (67, r67), (69, r69)] (by intro q hq; simp only [List.mem_cons, List.not_mem_nil, or_false] at hq; rcases hq with rfl | rfl | rfl | rfl | rfl | rfl | rfl | rfl | rfl | rfl | rfl <;> assumption) ?_
  refine mj_toL [(68, q68)] (by intro q hq; simp only [List.mem_cons, List.not_mem_nil, or_false] at hq; rcases hq with rfl <;> assumption) ?_
  refine mtX5_trace hR F I L r19 r21 r32 r33 r37 r38 r39 r65 r66 r67 r69 q68 o hf ?_
  obtain ⟨w0, w1⟩ := o
  refine mj_u2q ?_
  exact ⟨rfl, rfl, rfl⟩

-- X5_find
def bdX5_find_32 (F : Nat) (r18 : Nat → Int32) (r19 : Nat → Int32) (r32 : Nat → Int32) (r33 : Nat → Int32) (r37 : Nat → Int32) (r38 : Nat → Int32) (x3 : Int32) (r67 : Nat → Int32) : Option (((Int32) × (Nat → Int32)) ⊕ ((Nat → Int32))) := (if (r32 2) ≤ x3 then some (.inr r67) else (fnX5_stopFrom F r18 r19 r32 r33 r37 r38 x3).bind (fun o2 => (if mj_ib x3 200 = true then some (.inl ((x3 + (1)), (upd r67 x3.toNatClampNeg o2))) else none)))
def bdX5_find_73 (F : Nat) (r32 : Nat → Int32) (r33 : Nat → Int32) (r37 : Nat → Int32) (r38 : Nat → Int32) (r39 : Nat → Int32) (r67 : Nat → Int32) (x3 : Int64) (x5 : Int32) (x6 : Int32) (r69 : Nat → Int32) (q68 : Nat → Int64) : Option (((Int32) × (Nat → Int32) × (Nat → Int64)) ⊕ ((Nat → Int32) × (Nat → Int64))) := (if (r32 2) ≤ x6 then some (.inr (r69, q68)) else (fnX5_weigh F r32 r33 r37 r38 r39 r67 r69 q68 x6 x5 x3).bind (fun o5 => some (.inl ((x6 + (1)), o5.1, o5.2))))
def bdX5_find_63 (F : Nat) (r32 : Nat → Int32) (r33 : Nat → Int32) (r37 : Nat → Int32) (r38 : Nat → Int32) (r39 : Nat → Int32) (r67 : Nat → Int32) (x3 : Int64) (x5 : Int32) (r69 : Nat → Int32) (q68 : Nat → Int64) : Option (((Int64) × (Int32) × (Nat → Int32) × (Nat → Int64)) ⊕ ((Nat → Int32) × (Nat → Int64))) := (if (10 : Int32) < x5 then some (.inr (r69, q68)) else (mj_it (mj_u2 (fun z0 => (mj_u2 (fun z1 z2 => bdX5_find_73 F r32 r33 r37 r38 r39 r67 x3 x5 z0 z1 z2)))) F ((0 : Int32), r69, q68)).bind (mj_u2 (fun r69_7 q68_7 => some (.inl ((x3 * (60 : Int64)), (x5 + (1)), r69_7, q68_7)))))
def fnX5_find (F : Nat) (r18 : Nat → Int32) (r19 : Nat → Int32) (r21 : Nat → Int32) (r32 : Nat → Int32) (r33 : Nat → Int32) (r37 : Nat → Int32) (r38 : Nat → Int32) (r39 : Nat → Int32) (r65 : Nat → Int32) (r66 : Nat → Int32) (r67 : Nat → Int32) (r69 : Nat → Int32) (q65 : Nat → Int64) (q68 : Nat → Int64) : Option ((Nat → Int32) × (Nat → Int32) × (Nat → Int32) × (Nat → Int32) × (Nat → Int64) × (Nat → Int64)) := (if (r65 0) = (r32 0) then some (r65, r66, r67, r69, q65, q68) else (mj_it (mj_u2 (fun z0 z1 => bdX5_find_32 F r18 r19 r32 r33 r37 r38 z0 z1)) F ((0 : Int32), r67)).bind (fun r67_9 => (mj_it (mj_u2 (fun z0 => (mj_u2 (fun z1 => (mj_u2 (fun z2 z3 => bdX5_find_63 F r32 r33 r37 r38 r39 r67_9 z0 z1 z2 z3)))))) F ((1 : Int64), (0 : Int32), r69, q68)).bind (mj_u2 (fun r69_10 q68_10 => (if mj_ib (0 : Int32) 200 = true then (if (r67_9 ((0 : Int32).toNatClampNeg)) = (-1 : Int32) then (if (0 : Int64) ≤ (0 : Int64) then some ((upd (upd r65 0 (r32 0)) 2 (0 : Int32)), r66, r67_9, r69_10, (vp_updL q65 1 (0 : Int64)), q68_10) else (fnX5_trace F r19 r21 r32 r33 r37 r38 r39 (upd (upd r65 0 (r32 0)) 2 (0 : Int32)) r66 r67_9 r69_10 q68_10).bind (fun o14 => some (o14.1, o14.2, r67_9, r69_10, (vp_updL q65 1 (0 : Int64)), q68_10))) else (if mj_ib (0 : Int32) 200 = true then (if mj_ib ((2000 : Int32) + (r67_9 ((0 : Int32).toNatClampNeg))) 2200 = true then (if (q68_10 (((2000 : Int32) + (r67_9 ((0 : Int32).toNatClampNeg))).toNatClampNeg)) ≤ (0 : Int64) then some ((upd (upd r65 0 (r32 0)) 2 (0 : Int32)), r66, r67_9, r69_10, (vp_updL (vp_updL q65 1 (0 : Int64)) 1 (q68_10 (((2000 : Int32) + (r67_9 ((0 : Int32).toNatClampNeg))).toNatClampNeg))), q68_10) else (fnX5_trace F r19 r21 r32 r33 r37 r38 r39 (upd (upd r65 0 (r32 0)) 2 (0 : Int32)) r66 r67_9 r69_10 q68_10).bind (fun o18 => some (o18.1, o18.2, r67_9, r69_10, (vp_updL (vp_updL q65 1 (0 : Int64)) 1 (q68_10 (((2000 : Int32) + (r67_9 ((0 : Int32).toNatClampNeg))).toNatClampNeg))), q68_10))) else none) else none)) else none)))))
set_option maxRecDepth 100000 in
set_option maxHeartbeats 4000000 in
theorem lpX5_find_32 {X : mj_XT} {l : Launch} {G : mj_GT} {ad : Nat → Nat} {Qn : Option Value → mj_IT → mj_LT → Prop} (hR : mj_R X l G mj_P0 mj_S0 98 ad 0 0 Qn) (F : Nat) (I : mj_IT) (L : mj_LT) (r18 : Nat → Int32) (r19 : Nat → Int32) (r21 : Nat → Int32) (r32 : Nat → Int32) (r33 : Nat → Int32) (r37 : Nat → Int32) (r38 : Nat → Int32) (r39 : Nat → Int32) (r65 : Nat → Int32) (r66 : Nat → Int32) (r67 : Nat → Int32) (r69 : Nat → Int32) (q65 : Nat → Int64) (q68 : Nat → Int64) : ∀ (n : Nat) (s : ((Int32) × (Nat → Int32))) (e : ((Nat → Int32))), mj_it (mj_u2 (fun z0 z1 => bdX5_find_32 F r18 r19 r32 r33 r37 r38 z0 z1)) n s = some e → (fun r67 => mj_W X G RX5 "find" cX5_find 7 3 none mj_P0 mj_S0 98 ad 0 0 58 [(0, .ref 65), (1, .ref 32), (2, .ref 18)] [] (mj_rows I [(18, r18), (19, r19), (21, r21), (32, r32), (33, r33), (37, r37), (38, r38), (39, r39), (65, r65), (66, r66), (67, r67), (69, r69)]) (mj_rows L [(65, q65), (68, q68)])) e → (mj_u2 (fun x3 r67 => mj_W X G RX5 "find" cX5_find 7 3 none mj_P0 mj_S0 98 ad 0 0 32 [(0, .ref 65), (1, .ref 32), (2, .ref 18), (3, .int x3)] [] (mj_rows I [(18, r18), (19, r19), (21, r21), (32, r32), (33, r33), (37, r37), (38, r38), (39, r39), (65, r65), (66, r66), (67, r67), (69, r69)]) (mj_rows L [(65, q65), (68, q68)]))) s := by
  refine mj_loop (fun s o hf hc hx => ?_)
  obtain ⟨x3, r67⟩ := s
  replace hf := mj_u2e hf
  refine mj_u2q ?_
  unfold bdX5_find_32 at hf
  refine mj_iload_n 3 dX5_find_32 rfl ?_
  refine mj_aload_n 1 dX5_find_33 rfl ?_
  refine mj_getIv (v := (r32 2)) rfl fl_X5_39 rfl s0_32 a0_32 dX5_find_34 ?_
  refine mj_icmp_ge 58 dX5_find_37 (by decide) (fun c1 => ?_) (fun c1 => ?_)
  · replace hf := mj_pos c1 hf
    refine mj_sub [0, 1, 2] [(0, .ref 65), (1, .ref 32), (2, .ref 18)] rfl ?_
    obtain rfl := Option.some.inj hf
    have hZ := hx r67 rfl
    exact hZ
  · replace hf := mj_neg c1 hf
    refine mj_aload_n 0 dX5_find_40 rfl ?_
    refine mj_getP p0_65_4 (by decide) fl_X5_15 rfl s0_65 a0_65 dX5_find_41 ?_
    refine mj_iload_n 3 dX5_find_44 rfl ?_
    refine mj_aload_n 1 dX5_find_45 rfl ?_
    refine mj_aload_n 2 dX5_find_46 rfl ?_
    refine mj_iload_n 3 dX5_find_47 rfl ?_
    obtain ⟨o2, ho2, hf⟩ := mj_bd hf
    refine mj_callSd (I2 := (mj_rows I [(18, r18), (19, r19), (21, r21), (32, r32), (33, r33), (37, r37), (38, r38), (39, r39), (65, r65), (66, r66), (67, r67), (69, r69)])) (L2 := (mj_rows L [(65, q65), (68, q68)])) (s1 := [.int o2, .int x3, .ref 67]) (st := [.int x3, .ref 67]) [.ref 32, .ref 18, .int x3] (cmX5_stopFrom X.2.1 G F x3 _ _ r18 r19 r32 r33 r37 r38 rfl rfl rfl rfl rfl rfl o2 ho2) (mj_rr rfl) rfl cw_X5_40 (by decide) rfl rfl (Nat.le_of_ble_eq_true rfl) ⟨Nat.zero_le _, Nat.zero_le _⟩ dX5_find_48 rfl ?_
    obtain ⟨z3, hf⟩ := mj_ck hf
    refine mj_iastr [(18, r18), (19, r19), (21, r21), (32, r32), (33, r33), (37, r37), (38, r38), (39, r39), (65, r65), (66, r66), (67, (upd r67 x3.toNatClampNeg o2)), (69, r69)] rfl s0_67 a0_67 z3 dX5_find_51 ?_
    refine mj_iinc 3 [(3, .int (x3 + (1))), (0, .ref 65), (1, .ref 32), (2, .ref 18)] dX5_find_52 rfl (kz_1 _) (by decide) rfl ?_
    refine mj_goto 32 dX5_find_55 (by decide) ?_
    refine mj_sub [1, 2, 3, 0] [(0, .ref 65), (1, .ref 32), (2, .ref 18), (3, .int (x3 + (1)))] rfl ?_
    obtain rfl := Option.some.inj hf
    have hZ := hc ((x3 + (1)), (upd r67 x3.toNatClampNeg o2)) rfl
    replace hZ := mj_u2p hZ
    exact hZ
set_option maxRecDepth 100000 in
set_option maxHeartbeats 4000000 in
theorem lpX5_find_73 {X : mj_XT} {l : Launch} {G : mj_GT} {ad : Nat → Nat} {Qn : Option Value → mj_IT → mj_LT → Prop} (hR : mj_R X l G mj_P0 mj_S0 98 ad 0 0 Qn) (F : Nat) (I : mj_IT) (L : mj_LT) (r18 : Nat → Int32) (r19 : Nat → Int32) (r21 : Nat → Int32) (r32 : Nat → Int32) (r33 : Nat → Int32) (r37 : Nat → Int32) (r38 : Nat → Int32) (r39 : Nat → Int32) (r65 : Nat → Int32) (r66 : Nat → Int32) (r67 : Nat → Int32) (r69 : Nat → Int32) (q65 : Nat → Int64) (q68 : Nat → Int64) (x3 : Int64) (x5 : Int32) : ∀ (n : Nat) (s : ((Int32) × (Nat → Int32) × (Nat → Int64))) (e : ((Nat → Int32) × (Nat → Int64))), mj_it (mj_u2 (fun z0 => (mj_u2 (fun z1 z2 => bdX5_find_73 F r32 r33 r37 r38 r39 r67 x3 x5 z0 z1 z2)))) n s = some e → (mj_u2 (fun r69 q68 => mj_W X G RX5 "find" cX5_find 7 3 none mj_P0 mj_S0 98 ad 0 0 98 [(0, .ref 65), (1, .ref 32), (2, .ref 18), (3, .long x3), (5, .int x5)] [] (mj_rows I [(18, r18), (19, r19), (21, r21), (32, r32), (33, r33), (37, r37), (38, r38), (39, r39), (65, r65), (66, r66), (67, r67), (69, r69)]) (mj_rows L [(65, q65), (68, q68)]))) e → (mj_u2 (fun x6 => (mj_u2 (fun r69 q68 => mj_W X G RX5 "find" cX5_find 7 3 none mj_P0 mj_S0 98 ad 0 0 73 [(0, .ref 65), (1, .ref 32), (2, .ref 18), (3, .long x3), (5, .int x5), (6, .int x6)] [] (mj_rows I [(18, r18), (19, r19), (21, r21), (32, r32), (33, r33), (37, r37), (38, r38), (39, r39), (65, r65), (66, r66), (67, r67), (69, r69)]) (mj_rows L [(65, q65), (68, q68)]))))) s := by
  refine mj_loop (fun s o hf hc hx => ?_)
  obtain ⟨x6, r69, q68⟩ := s
  replace hf := mj_u2e hf
  refine mj_u2q ?_
  replace hf := mj_u2e hf
  refine mj_u2q ?_
  unfold bdX5_find_73 at hf
  refine mj_iload 5 dX5_find_73 rfl ?_
  refine mj_aload_n 1 dX5_find_75 rfl ?_
  refine mj_getIv (v := (r32 2)) rfl fl_X5_39 rfl s0_32 a0_32 dX5_find_76 ?_
  refine mj_icmp_ge 98 dX5_find_79 (by decide) (fun c4 => ?_) (fun c4 => ?_)
  · replace hf := mj_pos c4 hf
    refine mj_sub [0, 1, 2, 3, 4] [(0, .ref 65), (1, .ref 32), (2, .ref 18), (3, .long x3), (5, .int x5)] rfl ?_
    obtain rfl := Option.some.inj hf
    have hZ := hx (r69, q68) rfl
    replace hZ := mj_u2p hZ
    exact hZ
  · replace hf := mj_neg c4 hf
    refine mj_aload_n 0 dX5_find_82 rfl ?_
    refine mj_aload_n 1 dX5_find_83 rfl ?_
    refine mj_iload 5 dX5_find_84 rfl ?_
    refine mj_iload 4 dX5_find_86 rfl ?_
    refine mj_lload_n 3 dX5_find_88 rfl ?_
    obtain ⟨o5, ho5, hf⟩ := mj_bd hf
    refine mj_callVd (I2 := (mj_rows I [(18, r18), (19, r19), (21, r21), (32, r32), (33, r33), (37, r37), (38, r38), (39, r39), (65, r65), (66, r66), (67, r67), (69, o5.1)])) (L2 := (mj_rows L [(65, q65), (68, o5.2)])) (s1 := []) (st := []) [.ref 32, .int x6, .int x5, .long x3] (cmX5_weigh X.2.1 G F x6 x5 x3 _ _ r32 r33 r37 r38 r39 r67 r69 q68 rfl rfl rfl rfl rfl rfl rfl rfl o5 ho5) (mj_rr rfl) (mj_rr rfl) cw_X5_44 s0_65 a0_65 (by decide) rfl rfl (Nat.le_of_ble_eq_true rfl) ⟨Nat.zero_le _, Nat.zero_le _⟩ dX5_find_89 rfl ?_
    refine mj_iinc 5 [(6, .int (x6 + (1))), (0, .ref 65), (1, .ref 32), (2, .ref 18), (3, .long x3), (5, .int x5)] dX5_find_92 rfl (kz_1 _) (by decide) rfl ?_
    refine mj_goto 73 dX5_find_95 (by decide) ?_
    refine mj_sub [1, 2, 3, 4, 5, 0] [(0, .ref 65), (1, .ref 32), (2, .ref 18), (3, .long x3), (5, .int x5), (6, .int (x6 + (1)))] rfl ?_
    obtain rfl := Option.some.inj hf
    have hZ := hc ((x6 + (1)), o5.1, o5.2) rfl
    replace hZ := mj_u2p hZ
    replace hZ := mj_u2p hZ
    exact hZ
set_option maxRecDepth 100000 in
set_option maxHeartbeats 4000000 in
theorem lpX5_find_63 {X : mj_XT} {l : Launch} {G : mj_GT} {ad : Nat → Nat} {Qn : Option Value → mj_IT → mj_LT → Prop} (hR : mj_R X l G mj_P0 mj_S0 98 ad 0 0 Qn) (F : Nat) (I : mj_IT) (L : mj_LT) (r18 : Nat → Int32) (r19 : Nat → Int32) (r21 : Nat → Int32) (r32 : Nat → Int32) (r33 : Nat → Int32) (r37 : Nat → Int32) (r38 : Nat → Int32) (r39 : Nat → Int32) (r65 : Nat → Int32) (r66 : Nat → Int32) (r67 : Nat → Int32) (r69 : Nat → Int32) (q65 : Nat → Int64) (q68 : Nat → Int64) : ∀ (n : Nat) (s : ((Int64) × (Int32) × (Nat → Int32) × (Nat → Int64))) (e : ((Nat → Int32) × (Nat → Int64))), mj_it (mj_u2 (fun z0 => (mj_u2 (fun z1 => (mj_u2 (fun z2 z3 => bdX5_find_63 F r32 r33 r37 r38 r39 r67 z0 z1 z2 z3)))))) n s = some e → (mj_u2 (fun r69 q68 => mj_W X G RX5 "find" cX5_find 7 3 none mj_P0 mj_S0 98 ad 0 0 110 [(0, .ref 65), (1, .ref 32), (2, .ref 18)] [] (mj_rows I [(18, r18), (19, r19), (21, r21), (32, r32), (33, r33), (37, r37), (38, r38), (39, r39), (65, r65), (66, r66), (67, r67), (69, r69)]) (mj_rows L [(65, q65), (68, q68)]))) e → (mj_u2 (fun x3 => (mj_u2 (fun x5 => (mj_u2 (fun r69 q68 => mj_W X G RX5 "find" cX5_find 7 3 none mj_P0 mj_S0 98 ad 0 0 63 [(0, .ref 65), (1, .ref 32), (2, .ref 18), (3, .long x3), (5, .int x5)] [] (mj_rows I [(18, r18), (19, r19), (21, r21), (32, r32), (33, r33), (37, r37), (38, r38), (39, r39), (65, r65), (66, r66), (67, r67), (69, r69)]) (mj_rows L [(65, q65), (68, q68)]))))))) s := by
  refine mj_loop (fun s o hf hc hx => ?_)
  obtain ⟨x3, x5, r69, q68⟩ := s
  replace hf := mj_u2e hf
  refine mj_u2q ?_
  replace hf := mj_u2e hf
  refine mj_u2q ?_
  replace hf := mj_u2e hf
  refine mj_u2q ?_
  unfold bdX5_find_63 at hf
  refine mj_iload 4 dX5_find_63 rfl ?_
  refine mj_bipush dX5_find_65 kc_bipush_10 ?_
  refine mj_icmp_gt 110 dX5_find_67 (by decide) (fun c6 => ?_) (fun c6 => ?_)
  · replace hf := mj_pos c6 hf
    refine mj_sub [0, 1, 2] [(0, .ref 65), (1, .ref 32), (2, .ref 18)] rfl ?_
    obtain rfl := Option.some.inj hf
    have hZ := hx (r69, q68) rfl
    replace hZ := mj_u2p hZ
    exact hZ
  · replace hf := mj_neg c6 hf
    refine mj_iconst dX5_find_70 kc_iconst_0 ?_
    refine mj_istore [(6, .int (0 : Int32)), (0, .ref 65), (1, .ref 32), (2, .ref 18), (3, .long x3), (5, .int x5)] dX5_find_71 (by decide) rfl ?_
    refine mj_sub [1, 2, 3, 4, 5, 0] [(0, .ref 65), (1, .ref 32), (2, .ref 18), (3, .long x3), (5, .int x5), (6, .int (0 : Int32))] rfl ?_
    obtain ⟨e7, ho7, hf⟩ := mj_bd hf
    refine lpX5_find_73 hR F I L r18 r19 r21 r32 r33 r37 r38 r39 r65 r66 r67 r69 q65 q68 x3 x5 F ((0 : Int32), r69, q68) e7 ho7 ?_
    obtain ⟨r69_7, q68_7⟩ := e7
    replace hf := mj_u2e hf
    refine ?_
    refine mj_u2q ?_
    refine mj_lload_n 3 dX5_find_98 rfl ?_
    refine mj_ldc2 kk_X5_48 dX5_find_99 ?_
    refine mj_lmul dX5_find_102 ?_
    refine mj_lstore_n [(3, .long (x3 * (60 : Int64))), (0, .ref 65), (1, .ref 32), (2, .ref 18), (5, .int x5)] dX5_find_103 rfl (by decide) rfl ?_
    refine mj_iinc 4 [(5, .int (x5 + (1))), (3, .long (x3 * (60 : Int64))), (0, .ref 65), (1, .ref 32), (2, .ref 18)] dX5_find_104 rfl (kz_1 _) (by decide) rfl ?_
    refine mj_goto 63 dX5_find_107 (by decide) ?_
    refine mj_sub [2, 3, 4, 1, 0] [(0, .ref 65), (1, .ref 32), (2, .ref 18), (3, .long (x3 * (60 : Int64))), (5, .int (x5 + (1)))] rfl ?_
    obtain rfl := Option.some.inj hf
    have hZ := hc ((x3 * (60 : Int64)), (x5 + (1)), r69_7, q68_7) rfl
    replace hZ := mj_u2p hZ
    replace hZ := mj_u2p hZ
    replace hZ := mj_u2p hZ
    exact hZ
set_option maxRecDepth 100000 in
set_option maxHeartbeats 4000000 in
theorem mtX5_find {X : mj_XT} {l : Launch} {G : mj_GT} {ad : Nat → Nat} {Qn : Option Value → mj_IT → mj_LT → Prop} (hR : mj_R X l G mj_P0 mj_S0 98 ad 0 0 Qn) (F : Nat) (I : mj_IT) (L : mj_LT) (r18 : Nat → Int32) (r19 : Nat → Int32) (r21 : Nat → Int32) (r32 : Nat → Int32) (r33 : Nat → Int32) (r37 : Nat → Int32) (r38 : Nat → Int32) (r39 : Nat → Int32) (r65 : Nat → Int32) (r66 : Nat → Int32) (r67 : Nat → Int32) (r69 : Nat → Int32) (q65 : Nat → Int64) (q68 : Nat → Int64) (o : ((Nat → Int32) × (Nat → Int32) × (Nat → Int32) × (Nat → Int32) × (Nat → Int64) × (Nat → Int64))) (hf : fnX5_find F r18 r19 r21 r32 r33 r37 r38 r39 r65 r66 r67 r69 q65 q68 = some o) (hq : (mj_u2 (fun r65 => (mj_u2 (fun r66 => (mj_u2 (fun r67 => (mj_u2 (fun r69 => (mj_u2 (fun q65 q68 => Qn none (mj_rows I [(18, r18), (19, r19), (21, r21), (32, r32), (33, r33), (37, r37), (38, r38), (39, r39), (65, r65), (66, r66), (67, r67), (69, r69)]) (mj_rows L [(65, q65), (68, q68)]))))))))))) o) : mj_W X G RX5 "find" cX5_find 7 3 none mj_P0 mj_S0 98 ad 0 0 0 [(0, .ref 65), (1, .ref 32), (2, .ref 18)] [] (mj_rows I [(18, r18), (19, r19), (21, r21), (32, r32), (33, r33), (37, r37), (38, r38), (39, r39), (65, r65), (66, r66), (67, r67), (69, r69)]) (mj_rows L [(65, q65), (68, q68)]) := by
  unfold fnX5_find at hf
  refine mj_aload_n 0 dX5_find_0 rfl ?_
  refine mj_getIv (v := (r65 0)) rfl fl_X5_29 rfl s0_65 a0_65 dX5_find_1 ?_
  refine mj_aload_n 1 dX5_find_4 rfl ?_
  refine mj_getIv (v := (r32 0)) rfl fl_X5_33 rfl s0_32 a0_32 dX5_find_5 ?_
  refine mj_icmp_ne 12 dX5_find_8 (by decide) (fun c8 => ?_) (fun c8 => ?_)
  · replace hf := mj_neg c8 hf
    refine mj_aload_n 0 dX5_find_12 rfl ?_
    refine mj_aload_n 1 dX5_find_13 rfl ?_
    refine mj_getIv (v := (r32 0)) rfl fl_X5_33 rfl s0_32 a0_32 dX5_find_14 ?_
    refine mj_putIr (ci := 3) (j := 0) [(18, r18), (19, r19), (21, r21), (32, r32), (33, r33), (37, r37), (38, r38), (39, r39), (65, (upd r65 0 (r32 0))), (66, r66), (67, r67), (69, r69)] rfl ⟨rfl, rfl⟩ fl_X5_29 rfl rfl s0_65 a0_65 dX5_find_17 ?_
    refine mj_aload_n 0 dX5_find_20 rfl ?_
    refine mj_lconst (v := 0) dX5_find_21 (by decide) ?_
    refine mj_putLr (ci := 3) (j := 1) [(65, (vp_updL q65 1 (0 : Int64))), (68, q68)] rfl rfl fl_X5_25 rfl rfl s0_65 a0_65 dX5_find_22 ?_
    refine mj_aload_n 0 dX5_find_25 rfl ?_
    refine mj_iconst dX5_find_26 kc_iconst_0 ?_
    refine mj_putIr (ci := 3) (j := 2) [(18, r18), (19, r19), (21, r21), (32, r32), (33, r33), (37, r37), (38, r38), (39, r39), (65, (upd (upd r65 0 (r32 0)) 2 (0 : Int32))), (66, r66), (67, r67), (69, r69)] rfl ⟨rfl, rfl⟩ fl_X5_36 rfl rfl s0_65 a0_65 dX5_find_27 ?_
    refine mj_iconst dX5_find_30 kc_iconst_0 ?_
    refine mj_istore_n [(3, .int (0 : Int32)), (0, .ref 65), (1, .ref 32), (2, .ref 18)] dX5_find_31 rfl (by decide) rfl ?_
    refine mj_sub [1, 2, 3, 0] [(0, .ref 65), (1, .ref 32), (2, .ref 18), (3, .int (0 : Int32))] rfl ?_
    obtain ⟨r67_9, ho9, hf⟩ := mj_bd hf
    refine lpX5_find_32 hR F I L r18 r19 r21 r32 r33 r37 r38 r39 (upd (upd r65 0 (r32 0)) 2 (0 : Int32)) r66 r67 r69 (vp_updL q65 1 (0 : Int64)) q68 F ((0 : Int32), r67) r67_9 ho9 ?_
    refine ?_
    refine mj_lconst (v := 1) dX5_find_58 (by decide) ?_
    refine mj_lstore_n [(3, .long (1 : Int64)), (0, .ref 65), (1, .ref 32), (2, .ref 18)] dX5_find_59 rfl (by decide) rfl ?_
    refine mj_iconst dX5_find_60 kc_iconst_0 ?_
    refine mj_istore [(5, .int (0 : Int32)), (3, .long (1 : Int64)), (0, .ref 65), (1, .ref 32), (2, .ref 18)] dX5_find_61 (by decide) rfl ?_
    refine mj_sub [2, 3, 4, 1, 0] [(0, .ref 65), (1, .ref 32), (2, .ref 18), (3, .long (1 : Int64)), (5, .int (0 : Int32))] rfl ?_
    obtain ⟨e10, ho10, hf⟩ := mj_bd hf
    refine lpX5_find_63 hR F I L r18 r19 r21 r32 r33 r37 r38 r39 (upd (upd r65 0 (r32 0)) 2 (0 : Int32)) r66 r67_9 r69 (vp_updL q65 1 (0 : Int64)) q68 F ((1 : Int64), (0 : Int32), r69, q68) e10 ho10 ?_
    obtain ⟨r69_10, q68_10⟩ := e10
    replace hf := mj_u2e hf
    refine ?_
    refine mj_u2q ?_
    refine mj_aload_n 0 dX5_find_110 rfl ?_
    refine mj_getP p0_65_4 (by decide) fl_X5_15 rfl s0_65 a0_65 dX5_find_111 ?_
    refine mj_iconst dX5_find_114 kc_iconst_0 ?_
    obtain ⟨z11, hf⟩ := mj_ck hf
    refine mj_ialdv (x := r67_9) rfl s0_67 a0_67 z11 dX5_find_115 ?_
    refine mj_iconst dX5_find_116 kc_iconst_m1 ?_
    refine mj_icmp_eq 139 dX5_find_117 (by decide) (fun c12 => ?_) (fun c12 => ?_)
    · replace hf := mj_pos c12 hf
      refine mj_aload_n 0 dX5_find_139 rfl ?_
      refine mj_getLv (v := (0 : Int64)) rfl fl_X5_25 rfl s0_65 a0_65 dX5_find_140 ?_
      refine mj_lconst (v := 0) dX5_find_143 (by decide) ?_
      refine mj_lc_le 154 dX5_find_144 dX5_find_145 (by decide) (fun c13 => ?_) (fun c13 => ?_)
      · replace hf := mj_pos c13 hf
        obtain rfl := Option.some.inj hf
        have hZ := hq
        replace hZ := mj_u2p hZ
        replace hZ := mj_u2p hZ
        replace hZ := mj_u2p hZ
        replace hZ := mj_u2p hZ
        replace hZ := mj_u2p hZ
        exact mj_vret hR ⟨Nat.le_refl _, Nat.le_refl _⟩ rfl dX5_find_154 hZ
      · replace hf := mj_neg c13 hf
        refine mj_aload_n 0 dX5_find_148 rfl ?_
        refine mj_aload_n 1 dX5_find_149 rfl ?_
        refine mj_aload_n 2 dX5_find_150 rfl ?_
        obtain ⟨o14, ho14, hf⟩ := mj_bd hf
        refine mj_callVd (I2 := (mj_rows I [(18, r18), (19, r19), (21, r21), (32, r32), (33, r33), (37, r37), (38, r38), (39, r39), (65, o14.1), (66, o14.2), (67, r67_9), (69, r69_10)])) (L2 := (mj_rows L [(65, (vp_updL q65 1 (0 : Int64))), (68, q68_10)])) (s1 := []) (st := []) [.ref 32, .ref 18] (cmX5_trace X.2.1 G F  _ _ r19 r21 r32 r33 r37 r38 r39 (upd (upd r65 0 (r32 0)) 2 (0 : Int32)) r66 r67_9 r69_10 q68_10 rfl rfl rfl rfl rfl rfl rfl rfl rfl rfl rfl rfl o14 ho14) (mj_rr rfl) (mj_rr rfl) cw_X5_50 s0_65 a0_65 (by decide) rfl rfl (Nat.le_of_ble_eq_true rfl) ⟨Nat.zero_le _, Nat.zero_le _⟩ dX5_find_151 rfl ?_
        obtain rfl := Option.some.inj hf
        have hZ := hq
        replace hZ := mj_u2p hZ
        replace hZ := mj_u2p hZ
        replace hZ := mj_u2p hZ
        replace hZ := mj_u2p hZ
        replace hZ := mj_u2p hZ
        exact mj_vret hR ⟨Nat.le_refl _, Nat.le_refl _⟩ rfl dX5_find_154 hZ
    · replace hf := mj_neg c12 hf
      refine mj_aload_n 0 dX5_find_120 rfl ?_
      refine mj_aload_n 0 dX5_find_121 rfl ?_
      refine mj_getP p0_65_5 (by decide) fl_X5_18 rfl s0_65 a0_65 dX5_find_122 ?_
      refine mj_sipush dX5_find_125 kc_sipush_2000 ?_
      refine mj_aload_n 0 dX5_find_128 rfl ?_
      refine mj_getP p0_65_4 (by decide) fl_X5_15 rfl s0_65 a0_65 dX5_find_129 ?_
      refine mj_iconst dX5_find_132 kc_iconst_0 ?_
      obtain ⟨z15, hf⟩ := mj_ck hf
      refine mj_ialdv (x := r67_9) rfl s0_67 a0_67 z15 dX5_find_133 ?_
      refine mj_iadd dX5_find_134 ?_
      obtain ⟨z16, hf⟩ := mj_ck hf
      refine mj_laldv (x := q68_10) rfl s0_68 a0_68 z16 dX5_find_135 ?_
      refine mj_putLr (ci := 3) (j := 1) [(65, (vp_updL (vp_updL q65 1 (0 : Int64)) 1 (q68_10 (((2000 : Int32) + (r67_9 ((0 : Int32).toNatClampNeg))).toNatClampNeg)))), (68, q68_10)] rfl rfl fl_X5_25 rfl rfl s0_65 a0_65 dX5_find_136 ?_
      refine mj_aload_n 0 dX5_find_139 rfl ?_
      refine mj_getLv (v := (q68_10 (((2000 : Int32) + (r67_9 ((0 : Int32).toNatClampNeg))).toNatClampNeg))) rfl fl_X5_25 rfl s0_65 a0_65 dX5_find_140 ?_
      refine mj_lconst (v := 0) dX5_find_143 (by decide) ?_
      refine mj_lc_le 154 dX5_find_144 dX5_find_145 (by decide) (fun c17 => ?_) (fun c17 => ?_)
      · replace hf := mj_pos c17 hf
        obtain rfl := Option.some.inj hf
        have hZ := hq
        replace hZ := mj_u2p hZ
        replace hZ := mj_u2p hZ
        replace hZ := mj_u2p hZ
        replace hZ := mj_u2p hZ
        replace hZ := mj_u2p hZ
        exact mj_vret hR ⟨Nat.le_refl _, Nat.le_refl _⟩ rfl dX5_find_154 hZ
      · replace hf := mj_neg c17 hf
        refine mj_aload_n 0 dX5_find_148 rfl ?_
        refine mj_aload_n 1 dX5_find_149 rfl ?_
        refine mj_aload_n 2 dX5_find_150 rfl ?_
        obtain ⟨o18, ho18, hf⟩ := mj_bd hf
        refine mj_callVd (I2 := (mj_rows I [(18, r18), (19, r19), (21, r21), (32, r32), (33, r33), (37, r37), (38, r38), (39, r39), (65, o18.1), (66, o18.2), (67, r67_9), (69, r69_10)])) (L2 := (mj_rows L [(65, (vp_updL (vp_updL q65 1 (0 : Int64)) 1 (q68_10 (((2000 : Int32) + (r67_9 ((0 : Int32).toNatClampNeg))).toNatClampNeg)))), (68, q68_10)])) (s1 := []) (st := []) [.ref 32, .ref 18] (cmX5_trace X.2.1 G F  _ _ r19 r21 r32 r33 r37 r38 r39 (upd (upd r65 0 (r32 0)) 2 (0 : Int32)) r66 r67_9 r69_10 q68_10 rfl rfl rfl rfl rfl rfl rfl rfl rfl rfl rfl rfl o18 ho18) (mj_rr rfl) (mj_rr rfl) cw_X5_50 s0_65 a0_65 (by decide) rfl rfl (Nat.le_of_ble_eq_true rfl) ⟨Nat.zero_le _, Nat.zero_le _⟩ dX5_find_151 rfl ?_
        obtain rfl := Option.some.inj hf
        have hZ := hq
        replace hZ := mj_u2p hZ
        replace hZ := mj_u2p hZ
        replace hZ := mj_u2p hZ
        replace hZ := mj_u2p hZ
        replace hZ := mj_u2p hZ
        exact mj_vret hR ⟨Nat.le_refl _, Nat.le_refl _⟩ rfl dX5_find_154 hZ
  · replace hf := mj_pos c8 hf
    obtain rfl := Option.some.inj hf
    have hZ := hq
    replace hZ := mj_u2p hZ
    replace hZ := mj_u2p hZ
    replace hZ := mj_u2p hZ
    replace hZ := mj_u2p hZ
    replace hZ := mj_u2p hZ
    exact mj_vret hR ⟨Nat.le_refl _, Nat.le_refl _⟩ rfl dX5_find_11 hZ
set_option maxRecDepth 100000 in
set_option maxHeartbeats 4000000 in
theorem cmX5_find (l : Launch) (G : mj_GT) (F : Nat) (I : mj_IT) (L : mj_LT) (r18 : Nat → Int32) (r19 : Nat → Int32) (r21 : Nat → Int32) (r32 : Nat → Int32) (r33 : Nat → Int32) (r37 : Nat → Int32) (r38 : Nat → Int32) (r39 : Nat → Int32) (r65 : Nat → Int32) (r66 : Nat → Int32) (r67 : Nat → Int32) (r69 : Nat → Int32) (q65 : Nat → Int64) (q68 : Nat → Int64) (hr18 : I 18 = r18) (hr19 : I 19 = r19) (hr21 : I 21 = r21) (hr32 : I 32 = r32) (hr33 : I 33 = r33) (hr37 : I 37 = r37) (hr38 : I 38 = r38) (hr39 : I 39 = r39) (hr65 : I 65 = r65) (hr66 : I 66 = r66) (hr67 : I 67 = r67) (hr69 : I 69 = r69) (hq65 : L 65 = q65) (hq68 : L 68 = q68) (o : ((Nat → Int32) × (Nat → Int32) × (Nat → Int32) × (Nat → Int32) × (Nat → Int64) × (Nat → Int64))) (hf : fnX5_find F r18 r19 r21 r32 r33 r37 r38 r39 r65 r66 r67 r69 q65 q68 = some o) : mj_M l G yX5_find cX5_find 7 3 none 0 0 mj_P0 mj_S0 98 [.ref 65, .ref 32, .ref 18] I L (mj_qd none (mj_rows I [(18, r18), (19, r19), (21, r21), (32, r32), (33, r33), (37, r37), (38, r38), (39, r39), (65, o.1), (66, o.2.1), (67, o.2.2.1), (69, o.2.2.2.1)]) (mj_rows L [(65, o.2.2.2.2.1), (68, o.2.2.2.2.2)])) := by
  refine mj_in RX5 "find" [(0, .ref 65), (1, .ref 32), (2, .ref 18)] rfl rfl rfl (by decide) (Nat.le_of_ble_eq_true rfl) (fun X ad hR => ?_)
  refine mj_toI [(18, r18), (19, r19), (21, r21), (32, r32), (33, r33), (37, r37), (38, r38), (39, r39), (65, r65), (66, r66), (67, r67), (69, r69)] (by intro q hq; simp only [List.mem_cons, List.not_mem_nil, or_false] at hq; rcases hq with rfl | rfl | rfl | rfl | rfl | rfl | rfl | rfl | rfl | rfl | rfl | rfl <;> assumption) ?_
  refine mj_toL [(65, q65), (68, q68)] (by intro q hq; simp only [List.mem_cons, List.not_mem_nil, or_false] at hq; rcases hq with rfl | rfl <;> assumption) ?_
  refine mtX5_find hR F I L r18 r19 r21 r32 r33 r37 r38 r39 r65 r66 r67 r69 q65 q68 o hf ?_
  obtain ⟨w0, w1, w2, w3, w4, w5⟩ := o
  refine mj_u2q ?_
  refine mj_u2q ?_
  refine mj_u2q ?_
  refine mj_u2q ?_
  refine mj_u2q ?_
  exact ⟨rfl, rfl, rfl⟩

-- X6_countBy
def fnX6_countBy (F : Nat) (r57 : Nat → Int32) (x1 : Int32) : Option ((Int32)) := (if mj_ib x1 6 = true then some (r57 x1.toNatClampNeg) else none)
set_option maxRecDepth 100000 in
set_option maxHeartbeats 4000000 in
theorem mtX6_countBy {X : mj_XT} {l : Launch} {G : mj_GT} {ad : Nat → Nat} {Qn : Option Value → mj_IT → mj_LT → Prop} (hR : mj_R X l G mj_P0 mj_S0 98 ad 0 0 Qn) (F : Nat) (I : mj_IT) (L : mj_LT) (r57 : Nat → Int32) (x1 : Int32) (o : ((Int32))) (hf : fnX6_countBy F r57 x1 = some o) (hq : (fun ov => Qn (some (.int ov)) (mj_rows I [(57, r57)]) L) o) : mj_W X G RX6 "countBy" cX6_countBy 2 1 (some .int) mj_P0 mj_S0 98 ad 0 0 0 [(0, .ref 55), (1, .int x1)] [] (mj_rows I [(57, r57)]) L := by
  unfold fnX6_countBy at hf
  refine mj_aload_n 0 dX6_countBy_0 rfl ?_
  refine mj_getP p0_55_1 (by decide) fl_X6_15 rfl s0_55 a0_55 dX6_countBy_1 ?_
  refine mj_iload_n 1 dX6_countBy_4 rfl ?_
  obtain ⟨z1, hf⟩ := mj_ck hf
  refine mj_ialdv (x := r57) rfl s0_57 a0_57 z1 dX6_countBy_5 ?_
  obtain rfl := Option.some.inj hf
  have hZ := hq
  exact mj_iret hR ⟨Nat.le_refl _, Nat.le_refl _⟩ rfl rfl dX6_countBy_6 hZ
set_option maxRecDepth 100000 in
set_option maxHeartbeats 4000000 in
theorem cmX6_countBy (l : Launch) (G : mj_GT) (F : Nat) (x1 : Int32) (I : mj_IT) (L : mj_LT) (r57 : Nat → Int32) (hr57 : I 57 = r57) (o : ((Int32))) (hf : fnX6_countBy F r57 x1 = some o) : mj_M l G yX6_countBy cX6_countBy 2 1 (some .int) 0 0 mj_P0 mj_S0 98 [.ref 55, .int x1] I L (mj_qd (some (.int o)) (mj_rows I [(57, r57)]) L) := by
  refine mj_in RX6 "countBy" [(0, .ref 55), (1, .int x1)] rfl rfl rfl (by decide) (Nat.le_of_ble_eq_true rfl) (fun X ad hR => ?_)
  refine mj_toI [(57, r57)] (by intro q hq; simp only [List.mem_cons, List.not_mem_nil, or_false] at hq; rcases hq with rfl <;> assumption) ?_
  refine mtX6_countBy hR F I L r57 x1 o hf ?_
  exact ⟨rfl, rfl, rfl⟩

-- X6_labelBy
def fnX6_labelBy (F : Nat) (r58 : Nat → Int32) (x1 : Int32) (x2 : Int32) : Option ((Int32)) := (if mj_ib ((x1 * (200 : Int32)) + x2) 1200 = true then some (r58 (((x1 * (200 : Int32)) + x2).toNatClampNeg)) else none)
set_option maxRecDepth 100000 in
set_option maxHeartbeats 4000000 in
theorem mtX6_labelBy {X : mj_XT} {l : Launch} {G : mj_GT} {ad : Nat → Nat} {Qn : Option Value → mj_IT → mj_LT → Prop} (hR : mj_R X l G mj_P0 mj_S0 98 ad 0 0 Qn) (F : Nat) (I : mj_IT) (L : mj_LT) (r58 : Nat → Int32) (x1 : Int32) (x2 : Int32) (o : ((Int32))) (hf : fnX6_labelBy F r58 x1 x2 = some o) (hq : (fun ov => Qn (some (.int ov)) (mj_rows I [(58, r58)]) L) o) : mj_W X G RX6 "labelBy" cX6_labelBy 3 1 (some .int) mj_P0 mj_S0 98 ad 0 0 0 [(0, .ref 55), (1, .int x1), (2, .int x2)] [] (mj_rows I [(58, r58)]) L := by
  unfold fnX6_labelBy at hf
  refine mj_aload_n 0 dX6_labelBy_0 rfl ?_
  refine mj_getP p0_55_2 (by decide) fl_X6_18 rfl s0_55 a0_55 dX6_labelBy_1 ?_
  refine mj_iload_n 1 dX6_labelBy_4 rfl ?_
  refine mj_sipush dX6_labelBy_5 kc_sipush_200 ?_
  refine mj_imul dX6_labelBy_8 ?_
  refine mj_iload_n 2 dX6_labelBy_9 rfl ?_
  refine mj_iadd dX6_labelBy_10 ?_
  obtain ⟨z1, hf⟩ := mj_ck hf
  refine mj_ialdv (x := r58) rfl s0_58 a0_58 z1 dX6_labelBy_11 ?_
  obtain rfl := Option.some.inj hf
  have hZ := hq
  exact mj_iret hR ⟨Nat.le_refl _, Nat.le_refl _⟩ rfl rfl dX6_labelBy_12 hZ
set_option maxRecDepth 100000 in
set_option maxHeartbeats 4000000 in
theorem cmX6_labelBy (l : Launch) (G : mj_GT) (F : Nat) (x1 : Int32) (x2 : Int32) (I : mj_IT) (L : mj_LT) (r58 : Nat → Int32) (hr58 : I 58 = r58) (o : ((Int32))) (hf : fnX6_labelBy F r58 x1 x2 = some o) : mj_M l G yX6_labelBy cX6_labelBy 3 1 (some .int) 0 0 mj_P0 mj_S0 98 [.ref 55, .int x1, .int x2] I L (mj_qd (some (.int o)) (mj_rows I [(58, r58)]) L) := by
  refine mj_in RX6 "labelBy" [(0, .ref 55), (1, .int x1), (2, .int x2)] rfl rfl rfl (by decide) (Nat.le_of_ble_eq_true rfl) (fun X ad hR => ?_)
  refine mj_toI [(58, r58)] (by intro q hq; simp only [List.mem_cons, List.not_mem_nil, or_false] at hq; rcases hq with rfl <;> assumption) ?_
  refine mtX6_labelBy hR F I L r58 x1 x2 o hf ?_
  exact ⟨rfl, rfl, rfl⟩

-- J7_fill_fda19_61
def bdJ7_fill_fda19_61_10 (F : Nat) (x2 : Int32) (x3 : Int32) (x4 : Int32) (r61 : Nat → Int32) : Option (((Int32) × (Nat → Int32)) ⊕ ((Nat → Int32))) := (if x2 ≤ x4 then some (.inr r61) else (if mj_ib x4 200 = true then some (.inl ((x4 + (1)), (upd r61 x4.toNatClampNeg x3))) else none))
def fnJ7_fill_fda19_61 (F : Nat) (r61 : Nat → Int32) (x1 : Int32) (x2 : Int32) (x3 : Int32) : Option ((Nat → Int32)) := (fnJ7_rangeCheck_23922 F (200 : Int32) x1 x2).bind (fun o3 => (mj_it (mj_u2 (fun z0 z1 => bdJ7_fill_fda19_61_10 F x2 x3 z0 z1)) F (x1, r61)).bind (fun r61_4 => some r61_4))
set_option maxRecDepth 100000 in
set_option maxHeartbeats 4000000 in
theorem lpJ7_fill_fda19_61_10 {X : mj_XT} {l : Launch} {G : mj_GT} {ad : Nat → Nat} {Qn : Option Value → mj_IT → mj_LT → Prop} (hR : mj_R X l G mj_P0 mj_S0 98 ad 0 0 Qn) (F : Nat) (I : mj_IT) (L : mj_LT) (r61 : Nat → Int32) (x2 : Int32) (x3 : Int32) : ∀ (n : Nat) (s : ((Int32) × (Nat → Int32))) (e : ((Nat → Int32))), mj_it (mj_u2 (fun z0 z1 => bdJ7_fill_fda19_61_10 F x2 x3 z0 z1)) n s = some e → (fun r61 => mj_W X G RJ7 "fill" cJ7_fill_fda19 5 2 none mj_P0 mj_S0 98 ad 0 0 27 [] [] (mj_rows I [(61, r61)]) L) e → (mj_u2 (fun x4 r61 => mj_W X G RJ7 "fill" cJ7_fill_fda19 5 2 none mj_P0 mj_S0 98 ad 0 0 10 [(0, .ref 61), (2, .int x2), (3, .int x3), (4, .int x4)] [] (mj_rows I [(61, r61)]) L)) s := by
  refine mj_loop (fun s o hf hc hx => ?_)
  obtain ⟨x4, r61⟩ := s
  replace hf := mj_u2e hf
  refine mj_u2q ?_
  unfold bdJ7_fill_fda19_61_10 at hf
  refine mj_iload 3 dJ7_fill_fda19_10 rfl ?_
  refine mj_iload_n 1 dJ7_fill_fda19_12 rfl ?_
  refine mj_icmp_ge 27 dJ7_fill_fda19_13 (by decide) (fun c1 => ?_) (fun c1 => ?_)
  · replace hf := mj_pos c1 hf
    refine mj_sub [] [] rfl ?_
    obtain rfl := Option.some.inj hf
    have hZ := hx r61 rfl
    exact hZ
  · replace hf := mj_neg c1 hf
    refine mj_aload_n 0 dJ7_fill_fda19_16 rfl ?_
    refine mj_iload 3 dJ7_fill_fda19_17 rfl ?_
    refine mj_iload_n 2 dJ7_fill_fda19_19 rfl ?_
    obtain ⟨z2, hf⟩ := mj_ck hf
    refine mj_iastr [(61, (upd r61 x4.toNatClampNeg x3))] rfl s0_61 a0_61 z2 dJ7_fill_fda19_20 ?_
    refine mj_iinc 3 [(4, .int (x4 + (1))), (0, .ref 61), (2, .int x2), (3, .int x3)] dJ7_fill_fda19_21 rfl (kz_1 _) (by decide) rfl ?_
    refine mj_goto 10 dJ7_fill_fda19_24 (by decide) ?_
    refine mj_sub [1, 2, 3, 0] [(0, .ref 61), (2, .int x2), (3, .int x3), (4, .int (x4 + (1)))] rfl ?_
    obtain rfl := Option.some.inj hf
    have hZ := hc ((x4 + (1)), (upd r61 x4.toNatClampNeg x3)) rfl
    replace hZ := mj_u2p hZ
    exact hZ
set_option maxRecDepth 100000 in
set_option maxHeartbeats 4000000 in
theorem mtJ7_fill_fda19_61 {X : mj_XT} {l : Launch} {G : mj_GT} {ad : Nat → Nat} {Qn : Option Value → mj_IT → mj_LT → Prop} (hR : mj_R X l G mj_P0 mj_S0 98 ad 0 0 Qn) (F : Nat) (I : mj_IT) (L : mj_LT) (r61 : Nat → Int32) (x1 : Int32) (x2 : Int32) (x3 : Int32) (o : ((Nat → Int32))) (hf : fnJ7_fill_fda19_61 F r61 x1 x2 x3 = some o) (hq : (fun r61 => Qn none (mj_rows I [(61, r61)]) L) o) : mj_W X G RJ7 "fill" cJ7_fill_fda19 5 2 none mj_P0 mj_S0 98 ad 0 0 0 [(0, .ref 61), (1, .int x1), (2, .int x2), (3, .int x3)] [] (mj_rows I [(61, r61)]) L := by
  unfold fnJ7_fill_fda19_61 at hf
  refine mj_aload_n 0 dJ7_fill_fda19_0 rfl ?_
  refine mj_alen (v := 200) s0_61 (by decide) a0_61 (by decide +kernel) dJ7_fill_fda19_1 ?_
  refine mj_iload_n 1 dJ7_fill_fda19_2 rfl ?_
  refine mj_iload_n 2 dJ7_fill_fda19_3 rfl ?_
  obtain ⟨o3, ho3, hf⟩ := mj_bd hf
  refine mj_callSd (I2 := (mj_rows I [(61, r61)])) (L2 := L) (s1 := []) (st := []) [.int (200 : Int32), .int x1, .int x2] (cmJ7_rangeCheck_23922 X.2.1 G F (200 : Int32) x1 x2 _ _   o3 ho3) rfl rfl cw_J7_13 (by decide) rfl rfl (Nat.le_of_ble_eq_true rfl) ⟨Nat.zero_le _, Nat.zero_le _⟩ dJ7_fill_fda19_4 rfl ?_
  refine mj_iload_n 1 dJ7_fill_fda19_7 rfl ?_
  refine mj_istore [(4, .int x1), (0, .ref 61), (1, .int x1), (2, .int x2), (3, .int x3)] dJ7_fill_fda19_8 (by decide) rfl ?_
  refine mj_sub [1, 3, 4, 0] [(0, .ref 61), (2, .int x2), (3, .int x3), (4, .int x1)] rfl ?_
  obtain ⟨r61_4, ho4, hf⟩ := mj_bd hf
  refine lpJ7_fill_fda19_61_10 hR F I L r61 x2 x3 F (x1, r61) r61_4 ho4 ?_
  refine ?_
  obtain rfl := Option.some.inj hf
  have hZ := hq
  exact mj_vret hR ⟨Nat.le_refl _, Nat.le_refl _⟩ rfl dJ7_fill_fda19_27 hZ
set_option maxRecDepth 100000 in
set_option maxHeartbeats 4000000 in
theorem cmJ7_fill_fda19_61 (l : Launch) (G : mj_GT) (F : Nat) (x1 : Int32) (x2 : Int32) (x3 : Int32) (I : mj_IT) (L : mj_LT) (r61 : Nat → Int32) (hr61 : I 61 = r61) (o : ((Nat → Int32))) (hf : fnJ7_fill_fda19_61 F r61 x1 x2 x3 = some o) : mj_M l G yJ7_fill_fda19 cJ7_fill_fda19 5 2 none 0 0 mj_P0 mj_S0 98 [.ref 61, .int x1, .int x2, .int x3] I L (mj_qd none (mj_rows I [(61, o)]) L) := by
  refine mj_in RJ7 "fill" [(0, .ref 61), (1, .int x1), (2, .int x2), (3, .int x3)] rfl rfl rfl (by decide) (Nat.le_of_ble_eq_true rfl) (fun X ad hR => ?_)
  refine mj_toI [(61, r61)] (by intro q hq; simp only [List.mem_cons, List.not_mem_nil, or_false] at hq; rcases hq with rfl <;> assumption) ?_
  refine mtJ7_fill_fda19_61 hR F I L r61 x1 x2 x3 o hf ?_
  exact ⟨rfl, rfl, rfl⟩

-- X6_labelKinds
def jnX6_labelKinds_67 (F : Nat) (r32 : Nat → Int32) (r33 : Nat → Int32) (r34 : Nat → Int32) (x2 : Int32) (x3 : Int32) (x4 : Int32) (x5 : Int32) (r59 : Nat → Int32) (r61 : Nat → Int32) : Option (((Int32) × (Int32) × (Nat → Int32) × (Nat → Int32)) ⊕ ((Int32) × (Nat → Int32) × (Nat → Int32))) := (if mj_ib x5 200 = true then (if (r61 x5.toNatClampNeg) = (-1 : Int32) then (if mj_ib x5 200 = true then (if mj_ib x5 200 = true then (if mj_ib x4 200 = true then some (.inl ((x3 + (1)), (x4 + (1)), (upd r59 x4.toNatClampNeg ((upd r61 x5.toNatClampNeg x3) x5.toNatClampNeg)), (upd r61 x5.toNatClampNeg x3))) else none) else none) else none) else (if mj_ib x5 200 = true then (if mj_ib x4 200 = true then some (.inl (x3, (x4 + (1)), (upd r59 x4.toNatClampNeg (r61 x5.toNatClampNeg)), r61)) else none) else none)) else none)
def bdX6_labelKinds_16 (F : Nat) (r32 : Nat → Int32) (r33 : Nat → Int32) (r34 : Nat → Int32) (x2 : Int32) (x3 : Int32) (x4 : Int32) (r59 : Nat → Int32) (r61 : Nat → Int32) : Option (((Int32) × (Int32) × (Nat → Int32) × (Nat → Int32)) ⊕ ((Int32) × (Nat → Int32) × (Nat → Int32))) := (if (r32 2) ≤ x4 then some (.inr (x3, r59, r61)) else (fnX4_isEnd F r32 r33 x4).bind (fun o9 => (if o9 = 0 then (fnX4_isBroken F r32 r33 x4).bind (fun o11 => (if o11 = 0 then jnX6_labelKinds_67 F r32 r33 r34 x2 x3 x4 (11 : Int32) r59 r61 else jnX6_labelKinds_67 F r32 r33 r34 x2 x3 x4 (10 : Int32) r59 r61)) else (if mj_ib x4 200 = true then (fnX1_get F (r34 x4.toNatClampNeg) x2).bind (fun o14 => jnX6_labelKinds_67 F r32 r33 r34 x2 x3 x4 o14 r59 r61) else none))))
def fnX6_labelKinds (F : Nat) (r32 : Nat → Int32) (r33 : Nat → Int32) (r34 : Nat → Int32) (r59 : Nat → Int32) (r61 : Nat → Int32) (x2 : Int32) : Option ((Int32) × (Nat → Int32) × (Nat → Int32)) := (fnJ7_fill_fda19_61 F r61 (0 : Int32) (12 : Int32) (-1 : Int32)).bind (fun o15 => (mj_it (mj_u2 (fun z0 => (mj_u2 (fun z1 => (mj_u2 (fun z2 z3 => bdX6_labelKinds_16 F r32 r33 r34 x2 z0 z1 z2 z3)))))) F ((0 : Int32), (0 : Int32), r59, o15)).bind (mj_u2 (fun x3_16 => (mj_u2 (fun r59_16 r61_16 => some (x3_16, r59_16, r61_16))))))
set_option maxRecDepth 100000 in
set_option maxHeartbeats 4000000 in
theorem jtX6_labelKinds_67 {X : mj_XT} {l : Launch} {G : mj_GT} {ad : Nat → Nat} {Qn : Option Value → mj_IT → mj_LT → Prop} (hR : mj_R X l G mj_P0 mj_S0 98 ad 0 0 Qn) (F : Nat) (I : mj_IT) (L : mj_LT) (r32 : Nat → Int32) (r33 : Nat → Int32) (r34 : Nat → Int32) (r59 : Nat → Int32) (r61 : Nat → Int32) (x2 : Int32) (x3 : Int32) (x4 : Int32) (x5 : Int32) (o : (((Int32) × (Int32) × (Nat → Int32) × (Nat → Int32)) ⊕ ((Int32) × (Nat → Int32) × (Nat → Int32)))) (hf : jnX6_labelKinds_67 F r32 r33 r34 x2 x3 x4 x5 r59 r61 = some o) (hc : ∀ s2 : ((Int32) × (Int32) × (Nat → Int32) × (Nat → Int32)), o = .inl s2 → (mj_u2 (fun x3 => (mj_u2 (fun x4 => (mj_u2 (fun r59 r61 => mj_W X G RX6 "labelKinds" cX6_labelKinds 6 3 (some .int) mj_P0 mj_S0 98 ad 0 0 16 [(0, .ref 55), (1, .ref 32), (2, .int x2), (3, .int x3), (4, .int x4)] [] (mj_rows I [(32, r32), (33, r33), (34, r34), (59, r59), (61, r61)]) L)))))) s2) (hx : ∀ e2 : ((Int32) × (Nat → Int32) × (Nat → Int32)), o = .inr e2 → (mj_u2 (fun x3 => (mj_u2 (fun r59 r61 => mj_W X G RX6 "labelKinds" cX6_labelKinds 6 3 (some .int) mj_P0 mj_S0 98 ad 0 0 109 [(3, .int x3)] [] (mj_rows I [(32, r32), (33, r33), (34, r34), (59, r59), (61, r61)]) L)))) e2) : mj_W X G RX6 "labelKinds" cX6_labelKinds 6 3 (some .int) mj_P0 mj_S0 98 ad 0 0 67 [(0, .ref 55), (1, .ref 32), (2, .int x2), (3, .int x3), (4, .int x4), (5, .int x5)] [] (mj_rows I [(32, r32), (33, r33), (34, r34), (59, r59), (61, r61)]) L := by
  unfold jnX6_labelKinds_67 at hf
  refine mj_aload_n 0 dX6_labelKinds_67 rfl ?_
  refine mj_getP p0_55_5 (by decide) fl_X6_27 rfl s0_55 a0_55 dX6_labelKinds_68 ?_
  refine mj_iload 5 dX6_labelKinds_71 rfl ?_
  obtain ⟨z1, hf⟩ := mj_ck hf
  refine mj_ialdv (x := r61) rfl s0_61 a0_61 z1 dX6_labelKinds_73 ?_
  refine mj_iconst dX6_labelKinds_74 kc_iconst_m1 ?_
  refine mj_icmp_ne 89 dX6_labelKinds_75 (by decide) (fun c2 => ?_) (fun c2 => ?_)
  · replace hf := mj_neg c2 hf
    refine mj_aload_n 0 dX6_labelKinds_89 rfl ?_
    refine mj_getP p0_55_3 (by decide) fl_X6_21 rfl s0_55 a0_55 dX6_labelKinds_90 ?_
    refine mj_iload 4 dX6_labelKinds_93 rfl ?_
    refine mj_aload_n 0 dX6_labelKinds_95 rfl ?_
    refine mj_getP p0_55_5 (by decide) fl_X6_27 rfl s0_55 a0_55 dX6_labelKinds_96 ?_
    refine mj_iload 5 dX6_labelKinds_99 rfl ?_
    obtain ⟨z3, hf⟩ := mj_ck hf
    refine mj_ialdv (x := r61) rfl s0_61 a0_61 z3 dX6_labelKinds_101 ?_
    obtain ⟨z4, hf⟩ := mj_ck hf
    refine mj_iastr [(32, r32), (33, r33), (34, r34), (59, (upd r59 x4.toNatClampNeg (r61 x5.toNatClampNeg))), (61, r61)] rfl s0_59 a0_59 z4 dX6_labelKinds_102 ?_
    refine mj_iinc 4 [(4, .int (x4 + (1))), (0, .ref 55), (1, .ref 32), (2, .int x2), (3, .int x3), (5, .int x5)] dX6_labelKinds_103 rfl (kz_1 _) (by decide) rfl ?_
    refine mj_goto 16 dX6_labelKinds_106 (by decide) ?_
    refine mj_sub [1, 2, 3, 4, 0] [(0, .ref 55), (1, .ref 32), (2, .int x2), (3, .int x3), (4, .int (x4 + (1)))] rfl ?_
    obtain rfl := Option.some.inj hf
    have hZ := hc (x3, (x4 + (1)), (upd r59 x4.toNatClampNeg (r61 x5.toNatClampNeg)), r61) rfl
    replace hZ := mj_u2p hZ
    replace hZ := mj_u2p hZ
    replace hZ := mj_u2p hZ
    exact hZ
  · replace hf := mj_pos c2 hf
    refine mj_aload_n 0 dX6_labelKinds_78 rfl ?_
    refine mj_getP p0_55_5 (by decide) fl_X6_27 rfl s0_55 a0_55 dX6_labelKinds_79 ?_
    refine mj_iload 5 dX6_labelKinds_82 rfl ?_
    refine mj_iload_n 3 dX6_labelKinds_84 rfl ?_
    obtain ⟨z5, hf⟩ := mj_ck hf
    refine mj_iastr [(32, r32), (33, r33), (34, r34), (59, r59), (61, (upd r61 x5.toNatClampNeg x3))] rfl s0_61 a0_61 z5 dX6_labelKinds_85 ?_
    refine mj_iinc 3 [(3, .int (x3 + (1))), (0, .ref 55), (1, .ref 32), (2, .int x2), (4, .int x4), (5, .int x5)] dX6_labelKinds_86 rfl (kz_1 _) (by decide) rfl ?_
    refine mj_aload_n 1 dX6_labelKinds_89 rfl ?_
    refine mj_getP p0_55_3 (by decide) fl_X6_21 rfl s0_55 a0_55 dX6_labelKinds_90 ?_
    refine mj_iload 4 dX6_labelKinds_93 rfl ?_
    refine mj_aload_n 1 dX6_labelKinds_95 rfl ?_
    refine mj_getP p0_55_5 (by decide) fl_X6_27 rfl s0_55 a0_55 dX6_labelKinds_96 ?_
    refine mj_iload 5 dX6_labelKinds_99 rfl ?_
    obtain ⟨z6, hf⟩ := mj_ck hf
    refine mj_ialdv (x := (upd r61 x5.toNatClampNeg x3)) rfl s0_61 a0_61 z6 dX6_labelKinds_101 ?_
    obtain ⟨z7, hf⟩ := mj_ck hf
    refine mj_iastr [(32, r32), (33, r33), (34, r34), (59, (upd r59 x4.toNatClampNeg ((upd r61 x5.toNatClampNeg x3) x5.toNatClampNeg))), (61, (upd r61 x5.toNatClampNeg x3))] rfl s0_59 a0_59 z7 dX6_labelKinds_102 ?_
    refine mj_iinc 4 [(4, .int (x4 + (1))), (3, .int (x3 + (1))), (0, .ref 55), (1, .ref 32), (2, .int x2), (5, .int x5)] dX6_labelKinds_103 rfl (kz_1 _) (by decide) rfl ?_
    refine mj_goto 16 dX6_labelKinds_106 (by decide) ?_
    refine mj_sub [2, 3, 4, 1, 0] [(0, .ref 55), (1, .ref 32), (2, .int x2), (3, .int (x3 + (1))), (4, .int (x4 + (1)))] rfl ?_
    obtain rfl := Option.some.inj hf
    have hZ := hc ((x3 + (1)), (x4 + (1)), (upd r59 x4.toNatClampNeg ((upd r61 x5.toNatClampNeg x3) x5.toNatClampNeg)), (upd r61 x5.toNatClampNeg x3)) rfl
    replace hZ := mj_u2p hZ
    replace hZ := mj_u2p hZ
    replace hZ := mj_u2p hZ
    exact hZ
set_option maxRecDepth 100000 in
set_option maxHeartbeats 4000000 in
theorem lpX6_labelKinds_16 {X : mj_XT} {l : Launch} {G : mj_GT} {ad : Nat → Nat} {Qn : Option Value → mj_IT → mj_LT → Prop} (hR : mj_R X l G mj_P0 mj_S0 98 ad 0 0 Qn) (F : Nat) (I : mj_IT) (L : mj_LT) (r32 : Nat → Int32) (r33 : Nat → Int32) (r34 : Nat → Int32) (r59 : Nat → Int32) (r61 : Nat → Int32) (x2 : Int32) : ∀ (n : Nat) (s : ((Int32) × (Int32) × (Nat → Int32) × (Nat → Int32))) (e : ((Int32) × (Nat → Int32) × (Nat → Int32))), mj_it (mj_u2 (fun z0 => (mj_u2 (fun z1 => (mj_u2 (fun z2 z3 => bdX6_labelKinds_16 F r32 r33 r34 x2 z0 z1 z2 z3)))))) n s = some e → (mj_u2 (fun x3 => (mj_u2 (fun r59 r61 => mj_W X G RX6 "labelKinds" cX6_labelKinds 6 3 (some .int) mj_P0 mj_S0 98 ad 0 0 109 [(3, .int x3)] [] (mj_rows I [(32, r32), (33, r33), (34, r34), (59, r59), (61, r61)]) L)))) e → (mj_u2 (fun x3 => (mj_u2 (fun x4 => (mj_u2 (fun r59 r61 => mj_W X G RX6 "labelKinds" cX6_labelKinds 6 3 (some .int) mj_P0 mj_S0 98 ad 0 0 16 [(0, .ref 55), (1, .ref 32), (2, .int x2), (3, .int x3), (4, .int x4)] [] (mj_rows I [(32, r32), (33, r33), (34, r34), (59, r59), (61, r61)]) L)))))) s := by
  refine mj_loop (fun s o hf hc hx => ?_)
  obtain ⟨x3, x4, r59, r61⟩ := s
  replace hf := mj_u2e hf
  refine mj_u2q ?_
  replace hf := mj_u2e hf
  refine mj_u2q ?_
  replace hf := mj_u2e hf
  refine mj_u2q ?_
  unfold bdX6_labelKinds_16 at hf
  refine mj_iload 4 dX6_labelKinds_16 rfl ?_
  refine mj_aload_n 1 dX6_labelKinds_18 rfl ?_
  refine mj_getIv (v := (r32 2)) rfl fl_X6_52 rfl s0_32 a0_32 dX6_labelKinds_19 ?_
  refine mj_icmp_ge 109 dX6_labelKinds_22 (by decide) (fun c8 => ?_) (fun c8 => ?_)
  · replace hf := mj_pos c8 hf
    refine mj_sub [3] [(3, .int x3)] rfl ?_
    obtain rfl := Option.some.inj hf
    have hZ := hx (x3, r59, r61) rfl
    replace hZ := mj_u2p hZ
    replace hZ := mj_u2p hZ
    exact hZ
  · replace hf := mj_neg c8 hf
    refine mj_bipush dX6_labelKinds_25 kc_bipush_11 ?_
    refine mj_istore [(5, .int (11 : Int32)), (0, .ref 55), (1, .ref 32), (2, .int x2), (3, .int x3), (4, .int x4)] dX6_labelKinds_27 (by decide) rfl ?_
    refine mj_aload_n 2 dX6_labelKinds_29 rfl ?_
    refine mj_iload 5 dX6_labelKinds_30 rfl ?_
    obtain ⟨o9, ho9, hf⟩ := mj_bd hf
    refine mj_callVd (I2 := (mj_rows I [(32, r32), (33, r33), (34, r34), (59, r59), (61, r61)])) (L2 := L) (s1 := [.int o9]) (st := []) [.int x4] (cmX4_isEnd X.2.1 G F x4 _ _ r32 r33 rfl rfl o9 ho9) (mj_rr rfl) rfl cw_X6_67 s0_32 a0_32 (by decide) rfl rfl (Nat.le_of_ble_eq_true rfl) ⟨Nat.zero_le _, Nat.zero_le _⟩ dX6_labelKinds_32 rfl ?_
    refine mj_if_eq 54 dX6_labelKinds_35 (by decide) (fun c10 => ?_) (fun c10 => ?_)
    · replace hf := mj_pos c10 hf
      refine mj_aload_n 2 dX6_labelKinds_54 rfl ?_
      refine mj_iload 5 dX6_labelKinds_55 rfl ?_
      obtain ⟨o11, ho11, hf⟩ := mj_bd hf
      refine mj_callVd (I2 := (mj_rows I [(32, r32), (33, r33), (34, r34), (59, r59), (61, r61)])) (L2 := L) (s1 := [.int o11]) (st := []) [.int x4] (cmX4_isBroken X.2.1 G F x4 _ _ r32 r33 rfl rfl o11 ho11) (mj_rr rfl) rfl cw_X6_80 s0_32 a0_32 (by decide) rfl rfl (Nat.le_of_ble_eq_true rfl) ⟨Nat.zero_le _, Nat.zero_le _⟩ dX6_labelKinds_57 rfl ?_
      refine mj_if_eq 67 dX6_labelKinds_60 (by decide) (fun c12 => ?_) (fun c12 => ?_)
      · replace hf := mj_pos c12 hf
        refine mj_sub [1, 2, 3, 4, 5, 0] [(0, .ref 55), (1, .ref 32), (2, .int x2), (3, .int x3), (4, .int x4), (5, .int (11 : Int32))] rfl ?_
        exact jtX6_labelKinds_67 hR F I L r32 r33 r34 r59 r61 x2 x3 x4 (11 : Int32) o hf hc hx
      · replace hf := mj_neg c12 hf
        refine mj_bipush dX6_labelKinds_63 kc_bipush_10 ?_
        refine mj_istore [(5, .int (10 : Int32)), (0, .ref 55), (1, .ref 32), (2, .int x2), (3, .int x3), (4, .int x4)] dX6_labelKinds_65 (by decide) rfl ?_
        refine mj_sub [1, 2, 3, 4, 5, 0] [(0, .ref 55), (1, .ref 32), (2, .int x2), (3, .int x3), (4, .int x4), (5, .int (10 : Int32))] rfl ?_
        exact jtX6_labelKinds_67 hR F I L r32 r33 r34 r59 r61 x2 x3 x4 (10 : Int32) o hf hc hx
    · replace hf := mj_neg c10 hf
      refine mj_aload_n 2 dX6_labelKinds_38 rfl ?_
      refine mj_getP p0_32_9 (by decide) fl_X6_71 rfl s0_32 a0_32 dX6_labelKinds_39 ?_
      refine mj_iload 5 dX6_labelKinds_42 rfl ?_
      obtain ⟨z13, hf⟩ := mj_ck hf
      refine mj_ialdv (x := r34) rfl s0_34 a0_34 z13 dX6_labelKinds_44 ?_
      refine mj_iload_n 3 dX6_labelKinds_45 rfl ?_
      obtain ⟨o14, ho14, hf⟩ := mj_bd hf
      refine mj_callSd (I2 := (mj_rows I [(32, r32), (33, r33), (34, r34), (59, r59), (61, r61)])) (L2 := L) (s1 := [.int o14]) (st := []) [.int (r34 x4.toNatClampNeg), .int x2] (cmX1_get X.2.1 G F (r34 x4.toNatClampNeg) x2 _ _   o14 ho14) rfl rfl cw_X6_74 (by decide) rfl rfl (Nat.le_of_ble_eq_true rfl) ⟨Nat.zero_le _, Nat.zero_le _⟩ dX6_labelKinds_46 rfl ?_
      refine mj_istore [(5, .int o14), (0, .ref 55), (1, .ref 32), (2, .int x2), (3, .int x3), (4, .int x4)] dX6_labelKinds_49 (by decide) rfl ?_
      refine mj_goto 67 dX6_labelKinds_51 (by decide) ?_
      refine mj_sub [1, 2, 3, 4, 5, 0] [(0, .ref 55), (1, .ref 32), (2, .int x2), (3, .int x3), (4, .int x4), (5, .int o14)] rfl ?_
      exact jtX6_labelKinds_67 hR F I L r32 r33 r34 r59 r61 x2 x3 x4 o14 o hf hc hx
set_option maxRecDepth 100000 in
set_option maxHeartbeats 4000000 in
theorem mtX6_labelKinds {X : mj_XT} {l : Launch} {G : mj_GT} {ad : Nat → Nat} {Qn : Option Value → mj_IT → mj_LT → Prop} (hR : mj_R X l G mj_P0 mj_S0 98 ad 0 0 Qn) (F : Nat) (I : mj_IT) (L : mj_LT) (r32 : Nat → Int32) (r33 : Nat → Int32) (r34 : Nat → Int32) (r59 : Nat → Int32) (r61 : Nat → Int32) (x2 : Int32) (o : ((Int32) × (Nat → Int32) × (Nat → Int32))) (hf : fnX6_labelKinds F r32 r33 r34 r59 r61 x2 = some o) (hq : (mj_u2 (fun ov => (mj_u2 (fun r59 r61 => Qn (some (.int ov)) (mj_rows I [(32, r32), (33, r33), (34, r34), (59, r59), (61, r61)]) L)))) o) : mj_W X G RX6 "labelKinds" cX6_labelKinds 6 3 (some .int) mj_P0 mj_S0 98 ad 0 0 0 [(0, .ref 55), (1, .ref 32), (2, .int x2)] [] (mj_rows I [(32, r32), (33, r33), (34, r34), (59, r59), (61, r61)]) L := by
  unfold fnX6_labelKinds at hf
  refine mj_aload_n 0 dX6_labelKinds_0 rfl ?_
  refine mj_getP p0_55_5 (by decide) fl_X6_27 rfl s0_55 a0_55 dX6_labelKinds_1 ?_
  refine mj_iconst dX6_labelKinds_4 kc_iconst_0 ?_
  refine mj_bipush dX6_labelKinds_5 kc_bipush_12 ?_
  refine mj_iconst dX6_labelKinds_7 kc_iconst_m1 ?_
  obtain ⟨o15, ho15, hf⟩ := mj_bd hf
  refine mj_callSd (I2 := (mj_rows I [(32, r32), (33, r33), (34, r34), (59, r59), (61, o15)])) (L2 := L) (s1 := []) (st := []) [.ref 61, .int (0 : Int32), .int (12 : Int32), .int (-1 : Int32)] (cmJ7_fill_fda19_61 X.2.1 G F (0 : Int32) (12 : Int32) (-1 : Int32) _ _ r61 rfl o15 ho15) (mj_rr rfl) rfl cw_X6_61 (by decide) rfl rfl (Nat.le_of_ble_eq_true rfl) ⟨Nat.zero_le _, Nat.zero_le _⟩ dX6_labelKinds_8 rfl ?_
  refine mj_iconst dX6_labelKinds_11 kc_iconst_0 ?_
  refine mj_istore_n [(3, .int (0 : Int32)), (0, .ref 55), (1, .ref 32), (2, .int x2)] dX6_labelKinds_12 rfl (by decide) rfl ?_
  refine mj_iconst dX6_labelKinds_13 kc_iconst_0 ?_
  refine mj_istore [(4, .int (0 : Int32)), (3, .int (0 : Int32)), (0, .ref 55), (1, .ref 32), (2, .int x2)] dX6_labelKinds_14 (by decide) rfl ?_
  refine mj_sub [2, 3, 4, 1, 0] [(0, .ref 55), (1, .ref 32), (2, .int x2), (3, .int (0 : Int32)), (4, .int (0 : Int32))] rfl ?_
  obtain ⟨e16, ho16, hf⟩ := mj_bd hf
  refine lpX6_labelKinds_16 hR F I L r32 r33 r34 r59 o15 x2 F ((0 : Int32), (0 : Int32), r59, o15) e16 ho16 ?_
  obtain ⟨x3_16, r59_16, r61_16⟩ := e16
  replace hf := mj_u2e hf
  replace hf := mj_u2e hf
  refine ?_
  refine mj_u2q ?_
  refine mj_u2q ?_
  refine mj_iload_n 0 dX6_labelKinds_109 rfl ?_
  obtain rfl := Option.some.inj hf
  have hZ := hq
  replace hZ := mj_u2p hZ
  replace hZ := mj_u2p hZ
  exact mj_iret hR ⟨Nat.le_refl _, Nat.le_refl _⟩ rfl rfl dX6_labelKinds_110 hZ
set_option maxRecDepth 100000 in
set_option maxHeartbeats 4000000 in
theorem cmX6_labelKinds (l : Launch) (G : mj_GT) (F : Nat) (x2 : Int32) (I : mj_IT) (L : mj_LT) (r32 : Nat → Int32) (r33 : Nat → Int32) (r34 : Nat → Int32) (r59 : Nat → Int32) (r61 : Nat → Int32) (hr32 : I 32 = r32) (hr33 : I 33 = r33) (hr34 : I 34 = r34) (hr59 : I 59 = r59) (hr61 : I 61 = r61) (o : ((Int32) × (Nat → Int32) × (Nat → Int32))) (hf : fnX6_labelKinds F r32 r33 r34 r59 r61 x2 = some o) : mj_M l G yX6_labelKinds cX6_labelKinds 6 3 (some .int) 0 0 mj_P0 mj_S0 98 [.ref 55, .ref 32, .int x2] I L (mj_qd (some (.int o.1)) (mj_rows I [(32, r32), (33, r33), (34, r34), (59, o.2.1), (61, o.2.2)]) L) := by
  refine mj_in RX6 "labelKinds" [(0, .ref 55), (1, .ref 32), (2, .int x2)] rfl rfl rfl (by decide) (Nat.le_of_ble_eq_true rfl) (fun X ad hR => ?_)
  refine mj_toI [(32, r32), (33, r33), (34, r34), (59, r59), (61, r61)] (by intro q hq; simp only [List.mem_cons, List.not_mem_nil, or_false] at hq; rcases hq with rfl | rfl | rfl | rfl | rfl <;> assumption) ?_
  refine mtX6_labelKinds hR F I L r32 r33 r34 r59 r61 x2 o hf ?_
  obtain ⟨w0, w1, w2⟩ := o
  refine mj_u2q ?_
  refine mj_u2q ?_
  exact ⟨rfl, rfl, rfl⟩

-- X6_addFlow
def bdX6_addFlow_8 (F : Nat) (r37 : Nat → Int32) (r38 : Nat → Int32) (r39 : Nat → Int32) (r59 : Nat → Int32) (x2 : Int32) (x3 : Int32) (x4 : Int32) (r64 : Nat → Int32) : Option (((Int32) × (Nat → Int32)) ⊕ ((Nat → Int32))) := (if mj_ib (x2 + (1 : Int32)) 201 = true then (if (r37 ((x2 + (1 : Int32)).toNatClampNeg)) ≤ x4 then some (.inr r64) else (if mj_ib x4 2000 = true then (if mj_ib (r38 x4.toNatClampNeg) 200 = true then (if mj_ib (r59 ((r38 x4.toNatClampNeg).toNatClampNeg)) 200 = true then (if mj_ib x4 2000 = true then (if mj_ib (r59 ((r38 x4.toNatClampNeg).toNatClampNeg)) 200 = true then some (.inl ((x4 + (1)), (upd r64 ((r59 ((r38 x4.toNatClampNeg).toNatClampNeg)).toNatClampNeg) ((r64 ((r59 ((r38 x4.toNatClampNeg).toNatClampNeg)).toNatClampNeg)) + (x3 * (r39 x4.toNatClampNeg)))))) else none) else none) else none) else none) else none)) else none)
def fnX6_addFlow (F : Nat) (r37 : Nat → Int32) (r38 : Nat → Int32) (r39 : Nat → Int32) (r59 : Nat → Int32) (r64 : Nat → Int32) (x2 : Int32) (x3 : Int32) : Option ((Nat → Int32)) := (if mj_ib x2 201 = true then (mj_it (mj_u2 (fun z0 z1 => bdX6_addFlow_8 F r37 r38 r39 r59 x2 x3 z0 z1)) F ((r37 x2.toNatClampNeg), r64)).bind (fun r64_9 => some r64_9) else none)
set_option maxRecDepth 100000 in
set_option maxHeartbeats 4000000 in
theorem lpX6_addFlow_8 {X : mj_XT} {l : Launch} {G : mj_GT} {ad : Nat → Nat} {Qn : Option Value → mj_IT → mj_LT → Prop} (hR : mj_R X l G mj_P0 mj_S0 98 ad 0 0 Qn) (F : Nat) (I : mj_IT) (L : mj_LT) (r37 : Nat → Int32) (r38 : Nat → Int32) (r39 : Nat → Int32) (r59 : Nat → Int32) (r64 : Nat → Int32) (x2 : Int32) (x3 : Int32) : ∀ (n : Nat) (s : ((Int32) × (Nat → Int32))) (e : ((Nat → Int32))), mj_it (mj_u2 (fun z0 z1 => bdX6_addFlow_8 F r37 r38 r39 r59 x2 x3 z0 z1)) n s = some e → (fun r64 => mj_W X G RX6 "addFlow" cX6_addFlow 5 1 none mj_P0 mj_S0 98 ad 0 0 56 [] [] (mj_rows I [(37, r37), (38, r38), (39, r39), (59, r59), (64, r64)]) L) e → (mj_u2 (fun x4 r64 => mj_W X G RX6 "addFlow" cX6_addFlow 5 1 none mj_P0 mj_S0 98 ad 0 0 8 [(0, .ref 55), (1, .ref 32), (2, .int x2), (3, .int x3), (4, .int x4)] [] (mj_rows I [(37, r37), (38, r38), (39, r39), (59, r59), (64, r64)]) L)) s := by
  refine mj_loop (fun s o hf hc hx => ?_)
  obtain ⟨x4, r64⟩ := s
  replace hf := mj_u2e hf
  refine mj_u2q ?_
  unfold bdX6_addFlow_8 at hf
  refine mj_iload 4 dX6_addFlow_8 rfl ?_
  refine mj_aload_n 1 dX6_addFlow_10 rfl ?_
  refine mj_getP p0_32_12 (by decide) fl_X6_91 rfl s0_32 a0_32 dX6_addFlow_11 ?_
  refine mj_iload_n 2 dX6_addFlow_14 rfl ?_
  refine mj_iconst dX6_addFlow_15 kc_iconst_1 ?_
  refine mj_iadd dX6_addFlow_16 ?_
  obtain ⟨z1, hf⟩ := mj_ck hf
  refine mj_ialdv (x := r37) rfl s0_37 a0_37 z1 dX6_addFlow_17 ?_
  refine mj_icmp_ge 56 dX6_addFlow_18 (by decide) (fun c2 => ?_) (fun c2 => ?_)
  · replace hf := mj_pos c2 hf
    refine mj_sub [] [] rfl ?_
    obtain rfl := Option.some.inj hf
    have hZ := hx r64 rfl
    exact hZ
  · replace hf := mj_neg c2 hf
    refine mj_aload_n 0 dX6_addFlow_21 rfl ?_
    refine mj_getP p0_55_8 (by decide) fl_X6_36 rfl s0_55 a0_55 dX6_addFlow_22 ?_
    refine mj_aload_n 0 dX6_addFlow_25 rfl ?_
    refine mj_getP p0_55_3 (by decide) fl_X6_21 rfl s0_55 a0_55 dX6_addFlow_26 ?_
    refine mj_aload_n 1 dX6_addFlow_29 rfl ?_
    refine mj_getP p0_32_13 (by decide) fl_X6_94 rfl s0_32 a0_32 dX6_addFlow_30 ?_
    refine mj_iload 4 dX6_addFlow_33 rfl ?_
    obtain ⟨z3, hf⟩ := mj_ck hf
    refine mj_ialdv (x := r38) rfl s0_38 a0_38 z3 dX6_addFlow_35 ?_
    obtain ⟨z4, hf⟩ := mj_ck hf
    refine mj_ialdv (x := r59) rfl s0_59 a0_59 z4 dX6_addFlow_36 ?_
    refine mj_dup2 dX6_addFlow_37 rfl rfl ?_
    obtain ⟨z5, hf⟩ := mj_ck hf
    refine mj_ialdv (x := r64) rfl s0_64 a0_64 z5 dX6_addFlow_38 ?_
    refine mj_iload_n 3 dX6_addFlow_39 rfl ?_
    refine mj_aload_n 1 dX6_addFlow_40 rfl ?_
    refine mj_getP p0_32_14 (by decide) fl_X6_97 rfl s0_32 a0_32 dX6_addFlow_41 ?_
    refine mj_iload 4 dX6_addFlow_44 rfl ?_
    obtain ⟨z6, hf⟩ := mj_ck hf
    refine mj_ialdv (x := r39) rfl s0_39 a0_39 z6 dX6_addFlow_46 ?_
    refine mj_imul dX6_addFlow_47 ?_
    refine mj_iadd dX6_addFlow_48 ?_
    obtain ⟨z7, hf⟩ := mj_ck hf
    refine mj_iastr [(37, r37), (38, r38), (39, r39), (59, r59), (64, (upd r64 ((r59 ((r38 x4.toNatClampNeg).toNatClampNeg)).toNatClampNeg) ((r64 ((r59 ((r38 x4.toNatClampNeg).toNatClampNeg)).toNatClampNeg)) + (x3 * (r39 x4.toNatClampNeg)))))] rfl s0_64 a0_64 z7 dX6_addFlow_49 ?_
    refine mj_iinc 4 [(4, .int (x4 + (1))), (0, .ref 55), (1, .ref 32), (2, .int x2), (3, .int x3)] dX6_addFlow_50 rfl (kz_1 _) (by decide) rfl ?_
    refine mj_goto 8 dX6_addFlow_53 (by decide) ?_
    refine mj_sub [1, 2, 3, 4, 0] [(0, .ref 55), (1, .ref 32), (2, .int x2), (3, .int x3), (4, .int (x4 + (1)))] rfl ?_
    obtain rfl := Option.some.inj hf
    have hZ := hc ((x4 + (1)), (upd r64 ((r59 ((r38 x4.toNatClampNeg).toNatClampNeg)).toNatClampNeg) ((r64 ((r59 ((r38 x4.toNatClampNeg).toNatClampNeg)).toNatClampNeg)) + (x3 * (r39 x4.toNatClampNeg))))) rfl
    replace hZ := mj_u2p hZ
    exact hZ
set_option maxRecDepth 100000 in
set_option maxHeartbeats 4000000 in
theorem mtX6_addFlow {X : mj_XT} {l : Launch} {G : mj_GT} {ad : Nat → Nat} {Qn : Option Value → mj_IT → mj_LT → Prop} (hR : mj_R X l G mj_P0 mj_S0 98 ad 0 0 Qn) (F : Nat) (I : mj_IT) (L : mj_LT) (r37 : Nat → Int32) (r38 : Nat → Int32) (r39 : Nat → Int32) (r59 : Nat → Int32) (r64 : Nat → Int32) (x2 : Int32) (x3 : Int32) (o : ((Nat → Int32))) (hf : fnX6_addFlow F r37 r38 r39 r59 r64 x2 x3 = some o) (hq : (fun r64 => Qn none (mj_rows I [(37, r37), (38, r38), (39, r39), (59, r59), (64, r64)]) L) o) : mj_W X G RX6 "addFlow" cX6_addFlow 5 1 none mj_P0 mj_S0 98 ad 0 0 0 [(0, .ref 55), (1, .ref 32), (2, .int x2), (3, .int x3)] [] (mj_rows I [(37, r37), (38, r38), (39, r39), (59, r59), (64, r64)]) L := by
  unfold fnX6_addFlow at hf
  refine mj_aload_n 1 dX6_addFlow_0 rfl ?_
  refine mj_getP p0_32_12 (by decide) fl_X6_91 rfl s0_32 a0_32 dX6_addFlow_1 ?_
  refine mj_iload_n 2 dX6_addFlow_4 rfl ?_
  obtain ⟨z8, hf⟩ := mj_ck hf
  refine mj_ialdv (x := r37) rfl s0_37 a0_37 z8 dX6_addFlow_5 ?_
  refine mj_istore [(4, .int (r37 x2.toNatClampNeg)), (0, .ref 55), (1, .ref 32), (2, .int x2), (3, .int x3)] dX6_addFlow_6 (by decide) rfl ?_
  refine mj_sub [1, 2, 3, 4, 0] [(0, .ref 55), (1, .ref 32), (2, .int x2), (3, .int x3), (4, .int (r37 x2.toNatClampNeg))] rfl ?_
  obtain ⟨r64_9, ho9, hf⟩ := mj_bd hf
  refine lpX6_addFlow_8 hR F I L r37 r38 r39 r59 r64 x2 x3 F ((r37 x2.toNatClampNeg), r64) r64_9 ho9 ?_
  refine ?_
  obtain rfl := Option.some.inj hf
  have hZ := hq
  exact mj_vret hR ⟨Nat.le_refl _, Nat.le_refl _⟩ rfl dX6_addFlow_56 hZ
set_option maxRecDepth 100000 in
set_option maxHeartbeats 4000000 in
theorem cmX6_addFlow (l : Launch) (G : mj_GT) (F : Nat) (x2 : Int32) (x3 : Int32) (I : mj_IT) (L : mj_LT) (r37 : Nat → Int32) (r38 : Nat → Int32) (r39 : Nat → Int32) (r59 : Nat → Int32) (r64 : Nat → Int32) (hr37 : I 37 = r37) (hr38 : I 38 = r38) (hr39 : I 39 = r39) (hr59 : I 59 = r59) (hr64 : I 64 = r64) (o : ((Nat → Int32))) (hf : fnX6_addFlow F r37 r38 r39 r59 r64 x2 x3 = some o) : mj_M l G yX6_addFlow cX6_addFlow 5 1 none 0 0 mj_P0 mj_S0 98 [.ref 55, .ref 32, .int x2, .int x3] I L (mj_qd none (mj_rows I [(37, r37), (38, r38), (39, r39), (59, r59), (64, o)]) L) := by
  refine mj_in RX6 "addFlow" [(0, .ref 55), (1, .ref 32), (2, .int x2), (3, .int x3)] rfl rfl rfl (by decide) (Nat.le_of_ble_eq_true rfl) (fun X ad hR => ?_)
  refine mj_toI [(37, r37), (38, r38), (39, r39), (59, r59), (64, r64)] (by intro q hq; simp only [List.mem_cons, List.not_mem_nil, or_false] at hq; rcases hq with rfl | rfl | rfl | rfl | rfl <;> assumption) ?_
  refine mtX6_addFlow hR F I L r37 r38 r39 r59 r64 x2 x3 o hf ?_
  exact ⟨rfl, rfl, rfl⟩

