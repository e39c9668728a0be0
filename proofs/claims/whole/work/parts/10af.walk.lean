-- X6_flowAlike
def jnX6_flowAlike_68 (F : Nat) (r37 : Nat → Int32) (r38 : Nat → Int32) (r59 : Nat → Int32) (x2 : Int32) (x3 : Int32) (x5 : Int32) (t0 : Int32) (r64 : Nat → Int32) : Option (((Int32) × (Int32) × (Nat → Int32)) ⊕ ((Int32) × (Nat → Int32))) := (if mj_ib x5 2000 = true then (if mj_ib (r38 x5.toNatClampNeg) 200 = true then (if mj_ib (r59 ((r38 x5.toNatClampNeg).toNatClampNeg)) 200 = true then some (.inl (t0, (x5 + (1)), (upd r64 ((r59 ((r38 x5.toNatClampNeg).toNatClampNeg)).toNatClampNeg) (0 : Int32)))) else none) else none) else none)
def jnX6_flowAlike_67 (F : Nat) (r37 : Nat → Int32) (r38 : Nat → Int32) (r59 : Nat → Int32) (x2 : Int32) (x3 : Int32) (x5 : Int32) (r64 : Nat → Int32) : Option (((Int32) × (Int32) × (Nat → Int32)) ⊕ ((Int32) × (Nat → Int32))) := jnX6_flowAlike_68 F r37 r38 r59 x2 x3 x5 (0 : Int32) r64
def bdX6_flowAlike_25 (F : Nat) (r37 : Nat → Int32) (r38 : Nat → Int32) (r59 : Nat → Int32) (x2 : Int32) (x3 : Int32) (x4 : Int32) (x5 : Int32) (r64 : Nat → Int32) : Option (((Int32) × (Int32) × (Nat → Int32)) ⊕ ((Int32) × (Nat → Int32))) := (if mj_ib (x2 + (1 : Int32)) 201 = true then (if (r37 ((x2 + (1 : Int32)).toNatClampNeg)) ≤ x5 then some (.inr (x4, r64)) else (if x4 = 0 then jnX6_flowAlike_67 F r37 r38 r59 x2 x3 x5 r64 else (if mj_ib x5 2000 = true then (if mj_ib (r38 x5.toNatClampNeg) 200 = true then (if mj_ib (r59 ((r38 x5.toNatClampNeg).toNatClampNeg)) 200 = true then (if (r64 ((r59 ((r38 x5.toNatClampNeg).toNatClampNeg)).toNatClampNeg)) = 0 then jnX6_flowAlike_68 F r37 r38 r59 x2 x3 x5 (1 : Int32) r64 else jnX6_flowAlike_67 F r37 r38 r59 x2 x3 x5 r64) else none) else none) else none))) else none)
def jnX6_flowAlike_145 (F : Nat) (r37 : Nat → Int32) (r38 : Nat → Int32) (r59 : Nat → Int32) (x3 : Int32) (x5 : Int32) (t0 : Int32) (r64 : Nat → Int32) : Option (((Int32) × (Int32) × (Nat → Int32)) ⊕ ((Int32) × (Nat → Int32))) := (if mj_ib x5 2000 = true then (if mj_ib (r38 x5.toNatClampNeg) 200 = true then (if mj_ib (r59 ((r38 x5.toNatClampNeg).toNatClampNeg)) 200 = true then some (.inl (t0, (x5 + (1)), (upd r64 ((r59 ((r38 x5.toNatClampNeg).toNatClampNeg)).toNatClampNeg) (0 : Int32)))) else none) else none) else none)
def jnX6_flowAlike_144 (F : Nat) (r37 : Nat → Int32) (r38 : Nat → Int32) (r59 : Nat → Int32) (x3 : Int32) (x5 : Int32) (r64 : Nat → Int32) : Option (((Int32) × (Int32) × (Nat → Int32)) ⊕ ((Int32) × (Nat → Int32))) := jnX6_flowAlike_145 F r37 r38 r59 x3 x5 (0 : Int32) r64
def bdX6_flowAlike_102 (F : Nat) (r37 : Nat → Int32) (r38 : Nat → Int32) (r59 : Nat → Int32) (x3 : Int32) (x4 : Int32) (x5 : Int32) (r64 : Nat → Int32) : Option (((Int32) × (Int32) × (Nat → Int32)) ⊕ ((Int32) × (Nat → Int32))) := (if mj_ib (x3 + (1 : Int32)) 201 = true then (if (r37 ((x3 + (1 : Int32)).toNatClampNeg)) ≤ x5 then some (.inr (x4, r64)) else (if x4 = 0 then jnX6_flowAlike_144 F r37 r38 r59 x3 x5 r64 else (if mj_ib x5 2000 = true then (if mj_ib (r38 x5.toNatClampNeg) 200 = true then (if mj_ib (r59 ((r38 x5.toNatClampNeg).toNatClampNeg)) 200 = true then (if (r64 ((r59 ((r38 x5.toNatClampNeg).toNatClampNeg)).toNatClampNeg)) = 0 then jnX6_flowAlike_145 F r37 r38 r59 x3 x5 (1 : Int32) r64 else jnX6_flowAlike_144 F r37 r38 r59 x3 x5 r64) else none) else none) else none))) else none)
def fnX6_flowAlike (F : Nat) (r37 : Nat → Int32) (r38 : Nat → Int32) (r39 : Nat → Int32) (r59 : Nat → Int32) (r64 : Nat → Int32) (x2 : Int32) (x3 : Int32) : Option ((Int32) × (Nat → Int32)) := (fnX6_addFlow F r37 r38 r39 r59 r64 x2 (1 : Int32)).bind (fun o21 => (fnX6_addFlow F r37 r38 r39 r59 o21 x3 (-1 : Int32)).bind (fun o22 => (if mj_ib x2 201 = true then (mj_it (mj_u2 (fun z0 => (mj_u2 (fun z1 z2 => bdX6_flowAlike_25 F r37 r38 r59 x2 x3 z0 z1 z2)))) F ((1 : Int32), (r37 x2.toNatClampNeg), o22)).bind (mj_u2 (fun x4_24 r64_24 => (if mj_ib x3 201 = true then (mj_it (mj_u2 (fun z0 => (mj_u2 (fun z1 z2 => bdX6_flowAlike_102 F r37 r38 r59 x3 z0 z1 z2)))) F (x4_24, (r37 x3.toNatClampNeg), r64_24)).bind (mj_u2 (fun x4_26 r64_26 => (if mj_bb x4_26 = true then some (x4_26, r64_26) else none))) else none))) else none)))
set_option maxRecDepth 100000 in
set_option maxHeartbeats 4000000 in
theorem jtX6_flowAlike_68 {X : mj_XT} {l : Launch} {G : mj_GT} {ad : Nat → Nat} {Qn : Option Value → mj_IT → mj_LT → Prop} (hR : mj_R X l G mj_P0 mj_S0 98 ad 0 0 Qn) (F : Nat) (I : mj_IT) (L : mj_LT) (r37 : Nat → Int32) (r38 : Nat → Int32) (r39 : Nat → Int32) (r59 : Nat → Int32) (r64 : Nat → Int32) (x2 : Int32) (x3 : Int32) (x5 : Int32) (t0 : Int32) (o : (((Int32) × (Int32) × (Nat → Int32)) ⊕ ((Int32) × (Nat → Int32)))) (hf : jnX6_flowAlike_68 F r37 r38 r59 x2 x3 x5 t0 r64 = some o) (hc : ∀ s2 : ((Int32) × (Int32) × (Nat → Int32)), o = .inl s2 → (mj_u2 (fun x4 => (mj_u2 (fun x5 r64 => mj_W X G RX6 "flowAlike" cX6_flowAlike 6 2 (some .boolean) mj_P0 mj_S0 98 ad 0 0 25 [(0, .ref 55), (1, .ref 32), (2, .int x2), (3, .int x3), (4, .int x4), (5, .int x5)] [] (mj_rows I [(37, r37), (38, r38), (39, r39), (59, r59), (64, r64)]) L)))) s2) (hx : ∀ e2 : ((Int32) × (Nat → Int32)), o = .inr e2 → (mj_u2 (fun x4 r64 => mj_W X G RX6 "flowAlike" cX6_flowAlike 6 2 (some .boolean) mj_P0 mj_S0 98 ad 0 0 94 [(0, .ref 55), (1, .ref 32), (3, .int x3), (4, .int x4)] [] (mj_rows I [(37, r37), (38, r38), (39, r39), (59, r59), (64, r64)]) L)) e2) : mj_W X G RX6 "flowAlike" cX6_flowAlike 6 2 (some .boolean) mj_P0 mj_S0 98 ad 0 0 68 [(0, .ref 55), (1, .ref 32), (2, .int x2), (3, .int x3), (5, .int x5)] [.int t0] (mj_rows I [(37, r37), (38, r38), (39, r39), (59, r59), (64, r64)]) L := by
  unfold jnX6_flowAlike_68 at hf
  refine mj_istore [(4, .int t0), (0, .ref 55), (1, .ref 32), (2, .int x2), (3, .int x3), (5, .int x5)] dX6_flowAlike_68 (by decide) rfl ?_
  refine mj_aload_n 1 dX6_flowAlike_70 rfl ?_
  refine mj_getP p0_55_8 (by decide) fl_X6_36 rfl s0_55 a0_55 dX6_flowAlike_71 ?_
  refine mj_aload_n 1 dX6_flowAlike_74 rfl ?_
  refine mj_getP p0_55_3 (by decide) fl_X6_21 rfl s0_55 a0_55 dX6_flowAlike_75 ?_
  refine mj_aload_n 2 dX6_flowAlike_78 rfl ?_
  refine mj_getP p0_32_13 (by decide) fl_X6_94 rfl s0_32 a0_32 dX6_flowAlike_79 ?_
  refine mj_iload 5 dX6_flowAlike_82 rfl ?_
  obtain ⟨z1, hf⟩ := mj_ck hf
  refine mj_ialdv (x := r38) rfl s0_38 a0_38 z1 dX6_flowAlike_84 ?_
  obtain ⟨z2, hf⟩ := mj_ck hf
  refine mj_ialdv (x := r59) rfl s0_59 a0_59 z2 dX6_flowAlike_85 ?_
  refine mj_iconst dX6_flowAlike_86 kc_iconst_0 ?_
  obtain ⟨z3, hf⟩ := mj_ck hf
  refine mj_iastr [(37, r37), (38, r38), (39, r39), (59, r59), (64, (upd r64 ((r59 ((r38 x5.toNatClampNeg).toNatClampNeg)).toNatClampNeg) (0 : Int32)))] rfl s0_64 a0_64 z3 dX6_flowAlike_87 ?_
  refine mj_iinc 5 [(5, .int (x5 + (1))), (4, .int t0), (0, .ref 55), (1, .ref 32), (2, .int x2), (3, .int x3)] dX6_flowAlike_88 rfl (kz_1 _) (by decide) rfl ?_
  refine mj_goto 25 dX6_flowAlike_91 (by decide) ?_
  refine mj_sub [2, 3, 4, 5, 1, 0] [(0, .ref 55), (1, .ref 32), (2, .int x2), (3, .int x3), (4, .int t0), (5, .int (x5 + (1)))] rfl ?_
  obtain rfl := Option.some.inj hf
  have hZ := hc (t0, (x5 + (1)), (upd r64 ((r59 ((r38 x5.toNatClampNeg).toNatClampNeg)).toNatClampNeg) (0 : Int32))) rfl
  replace hZ := mj_u2p hZ
  replace hZ := mj_u2p hZ
  exact hZ
set_option maxRecDepth 100000 in
set_option maxHeartbeats 4000000 in
theorem jtX6_flowAlike_67 {X : mj_XT} {l : Launch} {G : mj_GT} {ad : Nat → Nat} {Qn : Option Value → mj_IT → mj_LT → Prop} (hR : mj_R X l G mj_P0 mj_S0 98 ad 0 0 Qn) (F : Nat) (I : mj_IT) (L : mj_LT) (r37 : Nat → Int32) (r38 : Nat → Int32) (r39 : Nat → Int32) (r59 : Nat → Int32) (r64 : Nat → Int32) (x2 : Int32) (x3 : Int32) (x5 : Int32) (o : (((Int32) × (Int32) × (Nat → Int32)) ⊕ ((Int32) × (Nat → Int32)))) (hf : jnX6_flowAlike_67 F r37 r38 r59 x2 x3 x5 r64 = some o) (hc : ∀ s2 : ((Int32) × (Int32) × (Nat → Int32)), o = .inl s2 → (mj_u2 (fun x4 => (mj_u2 (fun x5 r64 => mj_W X G RX6 "flowAlike" cX6_flowAlike 6 2 (some .boolean) mj_P0 mj_S0 98 ad 0 0 25 [(0, .ref 55), (1, .ref 32), (2, .int x2), (3, .int x3), (4, .int x4), (5, .int x5)] [] (mj_rows I [(37, r37), (38, r38), (39, r39), (59, r59), (64, r64)]) L)))) s2) (hx : ∀ e2 : ((Int32) × (Nat → Int32)), o = .inr e2 → (mj_u2 (fun x4 r64 => mj_W X G RX6 "flowAlike" cX6_flowAlike 6 2 (some .boolean) mj_P0 mj_S0 98 ad 0 0 94 [(0, .ref 55), (1, .ref 32), (3, .int x3), (4, .int x4)] [] (mj_rows I [(37, r37), (38, r38), (39, r39), (59, r59), (64, r64)]) L)) e2) : mj_W X G RX6 "flowAlike" cX6_flowAlike 6 2 (some .boolean) mj_P0 mj_S0 98 ad 0 0 67 [(0, .ref 55), (1, .ref 32), (2, .int x2), (3, .int x3), (5, .int x5)] [] (mj_rows I [(37, r37), (38, r38), (39, r39), (59, r59), (64, r64)]) L := by
  unfold jnX6_flowAlike_67 at hf
  refine mj_iconst dX6_flowAlike_67 kc_iconst_0 ?_
  exact jtX6_flowAlike_68 hR F I L r37 r38 r39 r59 r64 x2 x3 x5 (0 : Int32) o hf hc hx
set_option maxRecDepth 100000 in
set_option maxHeartbeats 4000000 in
theorem lpX6_flowAlike_25 {X : mj_XT} {l : Launch} {G : mj_GT} {ad : Nat → Nat} {Qn : Option Value → mj_IT → mj_LT → Prop} (hR : mj_R X l G mj_P0 mj_S0 98 ad 0 0 Qn) (F : Nat) (I : mj_IT) (L : mj_LT) (r37 : Nat → Int32) (r38 : Nat → Int32) (r39 : Nat → Int32) (r59 : Nat → Int32) (r64 : Nat → Int32) (x2 : Int32) (x3 : Int32) : ∀ (n : Nat) (s : ((Int32) × (Int32) × (Nat → Int32))) (e : ((Int32) × (Nat → Int32))), mj_it (mj_u2 (fun z0 => (mj_u2 (fun z1 z2 => bdX6_flowAlike_25 F r37 r38 r59 x2 x3 z0 z1 z2)))) n s = some e → (mj_u2 (fun x4 r64 => mj_W X G RX6 "flowAlike" cX6_flowAlike 6 2 (some .boolean) mj_P0 mj_S0 98 ad 0 0 94 [(0, .ref 55), (1, .ref 32), (3, .int x3), (4, .int x4)] [] (mj_rows I [(37, r37), (38, r38), (39, r39), (59, r59), (64, r64)]) L)) e → (mj_u2 (fun x4 => (mj_u2 (fun x5 r64 => mj_W X G RX6 "flowAlike" cX6_flowAlike 6 2 (some .boolean) mj_P0 mj_S0 98 ad 0 0 25 [(0, .ref 55), (1, .ref 32), (2, .int x2), (3, .int x3), (4, .int x4), (5, .int x5)] [] (mj_rows I [(37, r37), (38, r38), (39, r39), (59, r59), (64, r64)]) L)))) s := by
  refine mj_loop (fun s o hf hc hx => ?_)
  obtain ⟨x4, x5, r64⟩ := s
  replace hf := mj_u2e hf
  refine mj_u2q ?_
  replace hf := mj_u2e hf
  refine mj_u2q ?_
  unfold bdX6_flowAlike_25 at hf
  refine mj_iload 5 dX6_flowAlike_25 rfl ?_
  refine mj_aload_n 1 dX6_flowAlike_27 rfl ?_
  refine mj_getP p0_32_12 (by decide) fl_X6_91 rfl s0_32 a0_32 dX6_flowAlike_28 ?_
  refine mj_iload_n 2 dX6_flowAlike_31 rfl ?_
  refine mj_iconst dX6_flowAlike_32 kc_iconst_1 ?_
  refine mj_iadd dX6_flowAlike_33 ?_
  obtain ⟨z4, hf⟩ := mj_ck hf
  refine mj_ialdv (x := r37) rfl s0_37 a0_37 z4 dX6_flowAlike_34 ?_
  refine mj_icmp_ge 94 dX6_flowAlike_35 (by decide) (fun c5 => ?_) (fun c5 => ?_)
  · replace hf := mj_pos c5 hf
    refine mj_sub [0, 1, 3, 4] [(0, .ref 55), (1, .ref 32), (3, .int x3), (4, .int x4)] rfl ?_
    obtain rfl := Option.some.inj hf
    have hZ := hx (x4, r64) rfl
    replace hZ := mj_u2p hZ
    exact hZ
  · replace hf := mj_neg c5 hf
    refine mj_iload 4 dX6_flowAlike_38 rfl ?_
    refine mj_if_eq 67 dX6_flowAlike_40 (by decide) (fun c6 => ?_) (fun c6 => ?_)
    · replace hf := mj_pos c6 hf
      refine mj_sub [0, 1, 2, 3, 5] [(0, .ref 55), (1, .ref 32), (2, .int x2), (3, .int x3), (5, .int x5)] rfl ?_
      exact jtX6_flowAlike_67 hR F I L r37 r38 r39 r59 r64 x2 x3 x5 o hf hc hx
    · replace hf := mj_neg c6 hf
      refine mj_aload_n 0 dX6_flowAlike_43 rfl ?_
      refine mj_getP p0_55_8 (by decide) fl_X6_36 rfl s0_55 a0_55 dX6_flowAlike_44 ?_
      refine mj_aload_n 0 dX6_flowAlike_47 rfl ?_
      refine mj_getP p0_55_3 (by decide) fl_X6_21 rfl s0_55 a0_55 dX6_flowAlike_48 ?_
      refine mj_aload_n 1 dX6_flowAlike_51 rfl ?_
      refine mj_getP p0_32_13 (by decide) fl_X6_94 rfl s0_32 a0_32 dX6_flowAlike_52 ?_
      refine mj_iload 5 dX6_flowAlike_55 rfl ?_
      obtain ⟨z7, hf⟩ := mj_ck hf
      refine mj_ialdv (x := r38) rfl s0_38 a0_38 z7 dX6_flowAlike_57 ?_
      obtain ⟨z8, hf⟩ := mj_ck hf
      refine mj_ialdv (x := r59) rfl s0_59 a0_59 z8 dX6_flowAlike_58 ?_
      obtain ⟨z9, hf⟩ := mj_ck hf
      refine mj_ialdv (x := r64) rfl s0_64 a0_64 z9 dX6_flowAlike_59 ?_
      refine mj_if_ne 67 dX6_flowAlike_60 (by decide) (fun c10 => ?_) (fun c10 => ?_)
      · replace hf := mj_neg c10 hf
        refine mj_sub [0, 1, 2, 3, 5] [(0, .ref 55), (1, .ref 32), (2, .int x2), (3, .int x3), (5, .int x5)] rfl ?_
        exact jtX6_flowAlike_67 hR F I L r37 r38 r39 r59 r64 x2 x3 x5 o hf hc hx
      · replace hf := mj_pos c10 hf
        refine mj_iconst dX6_flowAlike_63 kc_iconst_1 ?_
        refine mj_goto 68 dX6_flowAlike_64 (by decide) ?_
        refine mj_sub [0, 1, 2, 3, 5] [(0, .ref 55), (1, .ref 32), (2, .int x2), (3, .int x3), (5, .int x5)] rfl ?_
        exact jtX6_flowAlike_68 hR F I L r37 r38 r39 r59 r64 x2 x3 x5 (1 : Int32) o hf hc hx
set_option maxRecDepth 100000 in
set_option maxHeartbeats 4000000 in
theorem jtX6_flowAlike_145 {X : mj_XT} {l : Launch} {G : mj_GT} {ad : Nat → Nat} {Qn : Option Value → mj_IT → mj_LT → Prop} (hR : mj_R X l G mj_P0 mj_S0 98 ad 0 0 Qn) (F : Nat) (I : mj_IT) (L : mj_LT) (r37 : Nat → Int32) (r38 : Nat → Int32) (r39 : Nat → Int32) (r59 : Nat → Int32) (r64 : Nat → Int32) (x3 : Int32) (x5 : Int32) (t0 : Int32) (o : (((Int32) × (Int32) × (Nat → Int32)) ⊕ ((Int32) × (Nat → Int32)))) (hf : jnX6_flowAlike_145 F r37 r38 r59 x3 x5 t0 r64 = some o) (hc : ∀ s2 : ((Int32) × (Int32) × (Nat → Int32)), o = .inl s2 → (mj_u2 (fun x4 => (mj_u2 (fun x5 r64 => mj_W X G RX6 "flowAlike" cX6_flowAlike 6 2 (some .boolean) mj_P0 mj_S0 98 ad 0 0 102 [(0, .ref 55), (1, .ref 32), (3, .int x3), (4, .int x4), (5, .int x5)] [] (mj_rows I [(37, r37), (38, r38), (39, r39), (59, r59), (64, r64)]) L)))) s2) (hx : ∀ e2 : ((Int32) × (Nat → Int32)), o = .inr e2 → (mj_u2 (fun x4 r64 => mj_W X G RX6 "flowAlike" cX6_flowAlike 6 2 (some .boolean) mj_P0 mj_S0 98 ad 0 0 171 [(4, .int x4)] [] (mj_rows I [(37, r37), (38, r38), (39, r39), (59, r59), (64, r64)]) L)) e2) : mj_W X G RX6 "flowAlike" cX6_flowAlike 6 2 (some .boolean) mj_P0 mj_S0 98 ad 0 0 145 [(0, .ref 55), (1, .ref 32), (3, .int x3), (5, .int x5)] [.int t0] (mj_rows I [(37, r37), (38, r38), (39, r39), (59, r59), (64, r64)]) L := by
  unfold jnX6_flowAlike_145 at hf
  refine mj_istore [(4, .int t0), (0, .ref 55), (1, .ref 32), (3, .int x3), (5, .int x5)] dX6_flowAlike_145 (by decide) rfl ?_
  refine mj_aload_n 1 dX6_flowAlike_147 rfl ?_
  refine mj_getP p0_55_8 (by decide) fl_X6_36 rfl s0_55 a0_55 dX6_flowAlike_148 ?_
  refine mj_aload_n 1 dX6_flowAlike_151 rfl ?_
  refine mj_getP p0_55_3 (by decide) fl_X6_21 rfl s0_55 a0_55 dX6_flowAlike_152 ?_
  refine mj_aload_n 2 dX6_flowAlike_155 rfl ?_
  refine mj_getP p0_32_13 (by decide) fl_X6_94 rfl s0_32 a0_32 dX6_flowAlike_156 ?_
  refine mj_iload 4 dX6_flowAlike_159 rfl ?_
  obtain ⟨z11, hf⟩ := mj_ck hf
  refine mj_ialdv (x := r38) rfl s0_38 a0_38 z11 dX6_flowAlike_161 ?_
  obtain ⟨z12, hf⟩ := mj_ck hf
  refine mj_ialdv (x := r59) rfl s0_59 a0_59 z12 dX6_flowAlike_162 ?_
  refine mj_iconst dX6_flowAlike_163 kc_iconst_0 ?_
  obtain ⟨z13, hf⟩ := mj_ck hf
  refine mj_iastr [(37, r37), (38, r38), (39, r39), (59, r59), (64, (upd r64 ((r59 ((r38 x5.toNatClampNeg).toNatClampNeg)).toNatClampNeg) (0 : Int32)))] rfl s0_64 a0_64 z13 dX6_flowAlike_164 ?_
  refine mj_iinc 4 [(5, .int (x5 + (1))), (4, .int t0), (0, .ref 55), (1, .ref 32), (3, .int x3)] dX6_flowAlike_165 rfl (kz_1 _) (by decide) rfl ?_
  refine mj_goto 102 dX6_flowAlike_168 (by decide) ?_
  refine mj_sub [2, 3, 4, 1, 0] [(0, .ref 55), (1, .ref 32), (3, .int x3), (4, .int t0), (5, .int (x5 + (1)))] rfl ?_
  obtain rfl := Option.some.inj hf
  have hZ := hc (t0, (x5 + (1)), (upd r64 ((r59 ((r38 x5.toNatClampNeg).toNatClampNeg)).toNatClampNeg) (0 : Int32))) rfl
  replace hZ := mj_u2p hZ
  replace hZ := mj_u2p hZ
  exact hZ
set_option maxRecDepth 100000 in
set_option maxHeartbeats 4000000 in
theorem jtX6_flowAlike_144 {X : mj_XT} {l : Launch} {G : mj_GT} {ad : Nat → Nat} {Qn : Option Value → mj_IT → mj_LT → Prop} (hR : mj_R X l G mj_P0 mj_S0 98 ad 0 0 Qn) (F : Nat) (I : mj_IT) (L : mj_LT) (r37 : Nat → Int32) (r38 : Nat → Int32) (r39 : Nat → Int32) (r59 : Nat → Int32) (r64 : Nat → Int32) (x3 : Int32) (x5 : Int32) (o : (((Int32) × (Int32) × (Nat → Int32)) ⊕ ((Int32) × (Nat → Int32)))) (hf : jnX6_flowAlike_144 F r37 r38 r59 x3 x5 r64 = some o) (hc : ∀ s2 : ((Int32) × (Int32) × (Nat → Int32)), o = .inl s2 → (mj_u2 (fun x4 => (mj_u2 (fun x5 r64 => mj_W X G RX6 "flowAlike" cX6_flowAlike 6 2 (some .boolean) mj_P0 mj_S0 98 ad 0 0 102 [(0, .ref 55), (1, .ref 32), (3, .int x3), (4, .int x4), (5, .int x5)] [] (mj_rows I [(37, r37), (38, r38), (39, r39), (59, r59), (64, r64)]) L)))) s2) (hx : ∀ e2 : ((Int32) × (Nat → Int32)), o = .inr e2 → (mj_u2 (fun x4 r64 => mj_W X G RX6 "flowAlike" cX6_flowAlike 6 2 (some .boolean) mj_P0 mj_S0 98 ad 0 0 171 [(4, .int x4)] [] (mj_rows I [(37, r37), (38, r38), (39, r39), (59, r59), (64, r64)]) L)) e2) : mj_W X G RX6 "flowAlike" cX6_flowAlike 6 2 (some .boolean) mj_P0 mj_S0 98 ad 0 0 144 [(0, .ref 55), (1, .ref 32), (3, .int x3), (5, .int x5)] [] (mj_rows I [(37, r37), (38, r38), (39, r39), (59, r59), (64, r64)]) L := by
  unfold jnX6_flowAlike_144 at hf
  refine mj_iconst dX6_flowAlike_144 kc_iconst_0 ?_
  exact jtX6_flowAlike_145 hR F I L r37 r38 r39 r59 r64 x3 x5 (0 : Int32) o hf hc hx
set_option maxRecDepth 100000 in
set_option maxHeartbeats 4000000 in
theorem lpX6_flowAlike_102 {X : mj_XT} {l : Launch} {G : mj_GT} {ad : Nat → Nat} {Qn : Option Value → mj_IT → mj_LT → Prop} (hR : mj_R X l G mj_P0 mj_S0 98 ad 0 0 Qn) (F : Nat) (I : mj_IT) (L : mj_LT) (r37 : Nat → Int32) (r38 : Nat → Int32) (r39 : Nat → Int32) (r59 : Nat → Int32) (r64 : Nat → Int32) (x3 : Int32) : ∀ (n : Nat) (s : ((Int32) × (Int32) × (Nat → Int32))) (e : ((Int32) × (Nat → Int32))), mj_it (mj_u2 (fun z0 => (mj_u2 (fun z1 z2 => bdX6_flowAlike_102 F r37 r38 r59 x3 z0 z1 z2)))) n s = some e → (mj_u2 (fun x4 r64 => mj_W X G RX6 "flowAlike" cX6_flowAlike 6 2 (some .boolean) mj_P0 mj_S0 98 ad 0 0 171 [(4, .int x4)] [] (mj_rows I [(37, r37), (38, r38), (39, r39), (59, r59), (64, r64)]) L)) e → (mj_u2 (fun x4 => (mj_u2 (fun x5 r64 => mj_W X G RX6 "flowAlike" cX6_flowAlike 6 2 (some .boolean) mj_P0 mj_S0 98 ad 0 0 102 [(0, .ref 55), (1, .ref 32), (3, .int x3), (4, .int x4), (5, .int x5)] [] (mj_rows I [(37, r37), (38, r38), (39, r39), (59, r59), (64, r64)]) L)))) s := by
  refine mj_loop (fun s o hf hc hx => ?_)
  obtain ⟨x4, x5, r64⟩ := s
  replace hf := mj_u2e hf
  refine mj_u2q ?_
  replace hf := mj_u2e hf
  refine mj_u2q ?_
  unfold bdX6_flowAlike_102 at hf
  refine mj_iload 4 dX6_flowAlike_102 rfl ?_
  refine mj_aload_n 1 dX6_flowAlike_104 rfl ?_
  refine mj_getP p0_32_12 (by decide) fl_X6_91 rfl s0_32 a0_32 dX6_flowAlike_105 ?_
  refine mj_iload_n 2 dX6_flowAlike_108 rfl ?_
  refine mj_iconst dX6_flowAlike_109 kc_iconst_1 ?_
  refine mj_iadd dX6_flowAlike_110 ?_
  obtain ⟨z14, hf⟩ := mj_ck hf
  refine mj_ialdv (x := r37) rfl s0_37 a0_37 z14 dX6_flowAlike_111 ?_
  refine mj_icmp_ge 171 dX6_flowAlike_112 (by decide) (fun c15 => ?_) (fun c15 => ?_)
  · replace hf := mj_pos c15 hf
    refine mj_sub [3] [(4, .int x4)] rfl ?_
    obtain rfl := Option.some.inj hf
    have hZ := hx (x4, r64) rfl
    replace hZ := mj_u2p hZ
    exact hZ
  · replace hf := mj_neg c15 hf
    refine mj_iload 3 dX6_flowAlike_115 rfl ?_
    refine mj_if_eq 144 dX6_flowAlike_117 (by decide) (fun c16 => ?_) (fun c16 => ?_)
    · replace hf := mj_pos c16 hf
      refine mj_sub [0, 1, 2, 4] [(0, .ref 55), (1, .ref 32), (3, .int x3), (5, .int x5)] rfl ?_
      exact jtX6_flowAlike_144 hR F I L r37 r38 r39 r59 r64 x3 x5 o hf hc hx
    · replace hf := mj_neg c16 hf
      refine mj_aload_n 0 dX6_flowAlike_120 rfl ?_
      refine mj_getP p0_55_8 (by decide) fl_X6_36 rfl s0_55 a0_55 dX6_flowAlike_121 ?_
      refine mj_aload_n 0 dX6_flowAlike_124 rfl ?_
      refine mj_getP p0_55_3 (by decide) fl_X6_21 rfl s0_55 a0_55 dX6_flowAlike_125 ?_
      refine mj_aload_n 1 dX6_flowAlike_128 rfl ?_
      refine mj_getP p0_32_13 (by decide) fl_X6_94 rfl s0_32 a0_32 dX6_flowAlike_129 ?_
      refine mj_iload 4 dX6_flowAlike_132 rfl ?_
      obtain ⟨z17, hf⟩ := mj_ck hf
      refine mj_ialdv (x := r38) rfl s0_38 a0_38 z17 dX6_flowAlike_134 ?_
      obtain ⟨z18, hf⟩ := mj_ck hf
      refine mj_ialdv (x := r59) rfl s0_59 a0_59 z18 dX6_flowAlike_135 ?_
      obtain ⟨z19, hf⟩ := mj_ck hf
      refine mj_ialdv (x := r64) rfl s0_64 a0_64 z19 dX6_flowAlike_136 ?_
      refine mj_if_ne 144 dX6_flowAlike_137 (by decide) (fun c20 => ?_) (fun c20 => ?_)
      · replace hf := mj_neg c20 hf
        refine mj_sub [0, 1, 2, 4] [(0, .ref 55), (1, .ref 32), (3, .int x3), (5, .int x5)] rfl ?_
        exact jtX6_flowAlike_144 hR F I L r37 r38 r39 r59 r64 x3 x5 o hf hc hx
      · replace hf := mj_pos c20 hf
        refine mj_iconst dX6_flowAlike_140 kc_iconst_1 ?_
        refine mj_goto 145 dX6_flowAlike_141 (by decide) ?_
        refine mj_sub [0, 1, 2, 4] [(0, .ref 55), (1, .ref 32), (3, .int x3), (5, .int x5)] rfl ?_
        exact jtX6_flowAlike_145 hR F I L r37 r38 r39 r59 r64 x3 x5 (1 : Int32) o hf hc hx
set_option maxRecDepth 100000 in
set_option maxHeartbeats 4000000 in
theorem mtX6_flowAlike {X : mj_XT} {l : Launch} {G : mj_GT} {ad : Nat → Nat} {Qn : Option Value → mj_IT → mj_LT → Prop} (hR : mj_R X l G mj_P0 mj_S0 98 ad 0 0 Qn) (F : Nat) (I : mj_IT) (L : mj_LT) (r37 : Nat → Int32) (r38 : Nat → Int32) (r39 : Nat → Int32) (r59 : Nat → Int32) (r64 : Nat → Int32) (x2 : Int32) (x3 : Int32) (o : ((Int32) × (Nat → Int32))) (hf : fnX6_flowAlike F r37 r38 r39 r59 r64 x2 x3 = some o) (hq : (mj_u2 (fun ov r64 => Qn (some (.int ov)) (mj_rows I [(37, r37), (38, r38), (39, r39), (59, r59), (64, r64)]) L)) o) : mj_W X G RX6 "flowAlike" cX6_flowAlike 6 2 (some .boolean) mj_P0 mj_S0 98 ad 0 0 0 [(0, .ref 55), (1, .ref 32), (2, .int x2), (3, .int x3)] [] (mj_rows I [(37, r37), (38, r38), (39, r39), (59, r59), (64, r64)]) L := by
  unfold fnX6_flowAlike at hf
  refine mj_aload_n 0 dX6_flowAlike_0 rfl ?_
  refine mj_aload_n 1 dX6_flowAlike_1 rfl ?_
  refine mj_iload_n 2 dX6_flowAlike_2 rfl ?_
  refine mj_iconst dX6_flowAlike_3 kc_iconst_1 ?_
  obtain ⟨o21, ho21, hf⟩ := mj_bd hf
  refine mj_callVd (I2 := (mj_rows I [(37, r37), (38, r38), (39, r39), (59, r59), (64, o21)])) (L2 := L) (s1 := []) (st := []) [.ref 32, .int x2, .int (1 : Int32)] (cmX6_addFlow X.2.1 G F x2 (1 : Int32) _ _ r37 r38 r39 r59 r64 rfl rfl rfl rfl rfl o21 ho21) (mj_rr rfl) rfl cw_X6_87 s0_55 a0_55 (by decide) rfl rfl (Nat.le_of_ble_eq_true rfl) ⟨Nat.zero_le _, Nat.zero_le _⟩ dX6_flowAlike_4 rfl ?_
  refine mj_aload_n 0 dX6_flowAlike_7 rfl ?_
  refine mj_aload_n 1 dX6_flowAlike_8 rfl ?_
  refine mj_iload_n 3 dX6_flowAlike_9 rfl ?_
  refine mj_iconst dX6_flowAlike_10 kc_iconst_m1 ?_
  obtain ⟨o22, ho22, hf⟩ := mj_bd hf
  refine mj_callVd (I2 := (mj_rows I [(37, r37), (38, r38), (39, r39), (59, r59), (64, o22)])) (L2 := L) (s1 := []) (st := []) [.ref 32, .int x3, .int (-1 : Int32)] (cmX6_addFlow X.2.1 G F x3 (-1 : Int32) _ _ r37 r38 r39 r59 o21 rfl rfl rfl rfl rfl o22 ho22) (mj_rr rfl) rfl cw_X6_87 s0_55 a0_55 (by decide) rfl rfl (Nat.le_of_ble_eq_true rfl) ⟨Nat.zero_le _, Nat.zero_le _⟩ dX6_flowAlike_11 rfl ?_
  refine mj_iconst dX6_flowAlike_14 kc_iconst_1 ?_
  refine mj_istore [(4, .int (1 : Int32)), (0, .ref 55), (1, .ref 32), (2, .int x2), (3, .int x3)] dX6_flowAlike_15 (by decide) rfl ?_
  refine mj_aload_n 2 dX6_flowAlike_17 rfl ?_
  refine mj_getP p0_32_12 (by decide) fl_X6_91 rfl s0_32 a0_32 dX6_flowAlike_18 ?_
  refine mj_iload_n 3 dX6_flowAlike_21 rfl ?_
  obtain ⟨z23, hf⟩ := mj_ck hf
  refine mj_ialdv (x := r37) rfl s0_37 a0_37 z23 dX6_flowAlike_22 ?_
  refine mj_istore [(5, .int (r37 x2.toNatClampNeg)), (4, .int (1 : Int32)), (0, .ref 55), (1, .ref 32), (2, .int x2), (3, .int x3)] dX6_flowAlike_23 (by decide) rfl ?_
  refine mj_sub [2, 3, 4, 5, 1, 0] [(0, .ref 55), (1, .ref 32), (2, .int x2), (3, .int x3), (4, .int (1 : Int32)), (5, .int (r37 x2.toNatClampNeg))] rfl ?_
  obtain ⟨e24, ho24, hf⟩ := mj_bd hf
  refine lpX6_flowAlike_25 hR F I L r37 r38 r39 r59 o22 x2 x3 F ((1 : Int32), (r37 x2.toNatClampNeg), o22) e24 ho24 ?_
  obtain ⟨x4_24, r64_24⟩ := e24
  replace hf := mj_u2e hf
  refine ?_
  refine mj_u2q ?_
  refine mj_aload_n 1 dX6_flowAlike_94 rfl ?_
  refine mj_getP p0_32_12 (by decide) fl_X6_91 rfl s0_32 a0_32 dX6_flowAlike_95 ?_
  refine mj_iload_n 2 dX6_flowAlike_98 rfl ?_
  obtain ⟨z25, hf⟩ := mj_ck hf
  refine mj_ialdv (x := r37) rfl s0_37 a0_37 z25 dX6_flowAlike_99 ?_
  refine mj_istore [(5, .int (r37 x3.toNatClampNeg)), (0, .ref 55), (1, .ref 32), (3, .int x3), (4, .int x4_24)] dX6_flowAlike_100 (by decide) rfl ?_
  refine mj_sub [1, 2, 3, 4, 0] [(0, .ref 55), (1, .ref 32), (3, .int x3), (4, .int x4_24), (5, .int (r37 x3.toNatClampNeg))] rfl ?_
  obtain ⟨e26, ho26, hf⟩ := mj_bd hf
  refine lpX6_flowAlike_102 hR F I L r37 r38 r39 r59 r64_24 x3 F (x4_24, (r37 x3.toNatClampNeg), r64_24) e26 ho26 ?_
  obtain ⟨x4_26, r64_26⟩ := e26
  replace hf := mj_u2e hf
  refine ?_
  refine mj_u2q ?_
  refine mj_iload 0 dX6_flowAlike_171 rfl ?_
  obtain ⟨z27, hf⟩ := mj_ck hf
  obtain rfl := Option.some.inj hf
  have hZ := hq
  replace hZ := mj_u2p hZ
  exact mj_iret hR ⟨Nat.le_refl _, Nat.le_refl _⟩ rfl (mj_bb_n z27).1 dX6_flowAlike_173 hZ
set_option maxRecDepth 100000 in
set_option maxHeartbeats 4000000 in
theorem cmX6_flowAlike (l : Launch) (G : mj_GT) (F : Nat) (x2 : Int32) (x3 : Int32) (I : mj_IT) (L : mj_LT) (r37 : Nat → Int32) (r38 : Nat → Int32) (r39 : Nat → Int32) (r59 : Nat → Int32) (r64 : Nat → Int32) (hr37 : I 37 = r37) (hr38 : I 38 = r38) (hr39 : I 39 = r39) (hr59 : I 59 = r59) (hr64 : I 64 = r64) (o : ((Int32) × (Nat → Int32))) (hf : fnX6_flowAlike F r37 r38 r39 r59 r64 x2 x3 = some o) : mj_M l G yX6_flowAlike cX6_flowAlike 6 2 (some .boolean) 0 0 mj_P0 mj_S0 98 [.ref 55, .ref 32, .int x2, .int x3] I L (mj_qd (some (.int o.1)) (mj_rows I [(37, r37), (38, r38), (39, r39), (59, r59), (64, o.2)]) L) := by
  refine mj_in RX6 "flowAlike" [(0, .ref 55), (1, .ref 32), (2, .int x2), (3, .int x3)] rfl rfl rfl (by decide) (Nat.le_of_ble_eq_true rfl) (fun X ad hR => ?_)
  refine mj_toI [(37, r37), (38, r38), (39, r39), (59, r59), (64, r64)] (by intro q hq; simp only [List.mem_cons, List.not_mem_nil, or_false] at hq; rcases hq with rfl | rfl | rfl | rfl | rfl <;> assumption) ?_
  refine mtX6_flowAlike hR F I L r37 r38 r39 r59 r64 x2 x3 o hf ?_
  obtain ⟨w0, w1⟩ := o
  refine mj_u2q ?_
  exact ⟨rfl, rfl, rfl⟩

-- X6_split
def bdX6_split_41 (F : Nat) (r37 : Nat → Int32) (r38 : Nat → Int32) (r39 : Nat → Int32) (r59 : Nat → Int32) (r62 : Nat → Int32) (r63 : Nat → Int32) (x3 : Int32) (x4 : Int32) (x5 : Int32) (x6 : Int32) (r64 : Nat → Int32) : Option (((Int32) × (Int32) × (Nat → Int32)) ⊕ (((Int32) × (Nat → Int32)) ⊕ ((Int32) × (Nat → Int32)))) := (if x3 ≤ x6 then some (.inr (.inl (x5, r64))) else (if x5 = (-1 : Int32) then some (.inr (.inl (x5, r64))) else (if mj_ib x5 200 = true then (fnX6_flowAlike F r37 r38 r39 r59 r64 x4 (r63 x5.toNatClampNeg)).bind (fun o4 => (if o4.1 = 0 then (if mj_ib x5 200 = true then some (.inl ((r62 x5.toNatClampNeg), (x6 + (1)), o4.2)) else none) else some (.inr (.inr (x5, o4.2))))) else none)))
def jnX6_split_88 (F : Nat) (r32 : Nat → Int32) (r37 : Nat → Int32) (r38 : Nat → Int32) (r39 : Nat → Int32) (r59 : Nat → Int32) (x3 : Int32) (x4 : Int32) (x5 : Int32) (r60 : Nat → Int32) (r61 : Nat → Int32) (r62 : Nat → Int32) (r63 : Nat → Int32) (r64 : Nat → Int32) : Option (((Int32) × (Int32) × (Nat → Int32) × (Nat → Int32) × (Nat → Int32) × (Nat → Int32) × (Nat → Int32)) ⊕ ((Int32) × (Nat → Int32) × (Nat → Int32) × (Nat → Int32) × (Nat → Int32) × (Nat → Int32))) := (if x5 = (-1 : Int32) then (if mj_ib x3 200 = true then (if mj_ib x4 200 = true then (if mj_ib (r59 x4.toNatClampNeg) 200 = true then (if mj_ib x3 200 = true then (if mj_ib x4 200 = true then (if mj_ib (r59 x4.toNatClampNeg) 200 = true then (if mj_ib x4 200 = true then some (.inl ((x3 + (1)), (x4 + (1)), (upd r60 x4.toNatClampNeg x3), (upd r61 ((r59 x4.toNatClampNeg).toNatClampNeg) x3), (upd r62 x3.toNatClampNeg (r61 ((r59 x4.toNatClampNeg).toNatClampNeg))), (upd r63 x3.toNatClampNeg x4), r64)) else none) else none) else none) else none) else none) else none) else none) else (if mj_ib x4 200 = true then some (.inl (x3, (x4 + (1)), (upd r60 x4.toNatClampNeg x5), r61, r62, r63, r64)) else none))
def bdX6_split_15 (F : Nat) (r32 : Nat → Int32) (r37 : Nat → Int32) (r38 : Nat → Int32) (r39 : Nat → Int32) (r59 : Nat → Int32) (x3 : Int32) (x4 : Int32) (r60 : Nat → Int32) (r61 : Nat → Int32) (r62 : Nat → Int32) (r63 : Nat → Int32) (r64 : Nat → Int32) : Option (((Int32) × (Int32) × (Nat → Int32) × (Nat → Int32) × (Nat → Int32) × (Nat → Int32) × (Nat → Int32)) ⊕ ((Int32) × (Nat → Int32) × (Nat → Int32) × (Nat → Int32) × (Nat → Int32) × (Nat → Int32))) := (if (r32 2) ≤ x4 then some (.inr (x3, r60, r61, r62, r63, r64)) else (if mj_ib x4 200 = true then (if mj_ib (r59 x4.toNatClampNeg) 200 = true then (mj_it (mj_u2 (fun z0 => (mj_u2 (fun z1 z2 => bdX6_split_41 F r37 r38 r39 r59 r62 r63 x3 x4 z0 z1 z2)))) F ((r61 ((r59 x4.toNatClampNeg).toNatClampNeg)), (0 : Int32), r64)).bind (Sum.elim (mj_u2 (fun x5_19 r64_19 => jnX6_split_88 F r32 r37 r38 r39 r59 x3 x4 x5_19 r60 r61 r62 r63 r64_19)) (mj_u2 (fun x5_19 r64_19 => jnX6_split_88 F r32 r37 r38 r39 r59 x3 x4 x5_19 r60 r61 r62 r63 r64_19))) else none) else none))
def fnX6_split (F : Nat) (r32 : Nat → Int32) (r37 : Nat → Int32) (r38 : Nat → Int32) (r39 : Nat → Int32) (r59 : Nat → Int32) (r60 : Nat → Int32) (r61 : Nat → Int32) (r62 : Nat → Int32) (r63 : Nat → Int32) (r64 : Nat → Int32) (x2 : Int32) : Option ((Int32) × (Nat → Int32) × (Nat → Int32) × (Nat → Int32) × (Nat → Int32) × (Nat → Int32) × (Nat → Int32)) := (fnJ7_fill_fda19_61 F r61 (0 : Int32) x2 (-1 : Int32)).bind (fun o20 => (mj_it (mj_u2 (fun z0 => (mj_u2 (fun z1 => (mj_u2 (fun z2 => (mj_u2 (fun z3 => (mj_u2 (fun z4 => (mj_u2 (fun z5 z6 => bdX6_split_15 F r32 r37 r38 r39 r59 z0 z1 z2 z3 z4 z5 z6)))))))))))) F ((0 : Int32), (0 : Int32), r60, o20, r62, r63, r64)).bind (mj_u2 (fun x3_21 => (mj_u2 (fun r60_21 => (mj_u2 (fun r61_21 => (mj_u2 (fun r62_21 => (mj_u2 (fun r63_21 r64_21 => (if mj_cpk (0 : Int32) (0 : Int32) (r32 2) 200 200 = true then some (x3_21, (va_cpy r60_21 r59 (0 : Int32).toNatClampNeg (0 : Int32).toNatClampNeg (r32 2).toNatClampNeg), r60_21, r61_21, r62_21, r63_21, r64_21) else none))))))))))))
set_option maxRecDepth 100000 in
set_option maxHeartbeats 4000000 in
theorem lpX6_split_41 {X : mj_XT} {l : Launch} {G : mj_GT} {ad : Nat → Nat} {Qn : Option Value → mj_IT → mj_LT → Prop} (hR : mj_R X l G mj_P0 mj_S0 98 ad 0 0 Qn) (F : Nat) (I : mj_IT) (L : mj_LT) (r32 : Nat → Int32) (r37 : Nat → Int32) (r38 : Nat → Int32) (r39 : Nat → Int32) (r59 : Nat → Int32) (r60 : Nat → Int32) (r61 : Nat → Int32) (r62 : Nat → Int32) (r63 : Nat → Int32) (r64 : Nat → Int32) (x3 : Int32) (x4 : Int32) : ∀ (n : Nat) (s : ((Int32) × (Int32) × (Nat → Int32))) (e : (((Int32) × (Nat → Int32)) ⊕ ((Int32) × (Nat → Int32)))), mj_it (mj_u2 (fun z0 => (mj_u2 (fun z1 z2 => bdX6_split_41 F r37 r38 r39 r59 r62 r63 x3 x4 z0 z1 z2)))) n s = some e → (Sum.elim (mj_u2 (fun x5 r64 => mj_W X G RX6 "split" cX6_split 7 3 (some .int) mj_P0 mj_S0 98 ad 0 0 88 [(0, .ref 55), (1, .ref 32), (3, .int x3), (4, .int x4), (5, .int x5)] [] (mj_rows I [(32, r32), (37, r37), (38, r38), (39, r39), (59, r59), (60, r60), (61, r61), (62, r62), (63, r63), (64, r64)]) L)) (mj_u2 (fun x5 r64 => mj_W X G RX6 "split" cX6_split 7 3 (some .int) mj_P0 mj_S0 98 ad 0 0 70 [(0, .ref 55), (1, .ref 32), (3, .int x3), (4, .int x4), (5, .int x5)] [] (mj_rows I [(32, r32), (37, r37), (38, r38), (39, r39), (59, r59), (60, r60), (61, r61), (62, r62), (63, r63), (64, r64)]) L))) e → (mj_u2 (fun x5 => (mj_u2 (fun x6 r64 => mj_W X G RX6 "split" cX6_split 7 3 (some .int) mj_P0 mj_S0 98 ad 0 0 41 [(0, .ref 55), (1, .ref 32), (3, .int x3), (4, .int x4), (5, .int x5), (6, .int x6)] [] (mj_rows I [(32, r32), (37, r37), (38, r38), (39, r39), (59, r59), (60, r60), (61, r61), (62, r62), (63, r63), (64, r64)]) L)))) s := by
  refine mj_loop (fun s o hf hc hx => ?_)
  obtain ⟨x5, x6, r64⟩ := s
  replace hf := mj_u2e hf
  refine mj_u2q ?_
  replace hf := mj_u2e hf
  refine mj_u2q ?_
  unfold bdX6_split_41 at hf
  refine mj_iload 5 dX6_split_41 rfl ?_
  refine mj_iload_n 2 dX6_split_43 rfl ?_
  refine mj_icmp_ge 88 dX6_split_44 (by decide) (fun c1 => ?_) (fun c1 => ?_)
  · replace hf := mj_pos c1 hf
    refine mj_sub [0, 1, 2, 3, 4] [(0, .ref 55), (1, .ref 32), (3, .int x3), (4, .int x4), (5, .int x5)] rfl ?_
    obtain rfl := Option.some.inj hf
    have hZ := hx (.inl (x5, r64)) rfl
    replace hZ := mj_el hZ
    replace hZ := mj_u2p hZ
    exact hZ
  · replace hf := mj_neg c1 hf
    refine mj_iload 4 dX6_split_47 rfl ?_
    refine mj_iconst dX6_split_49 kc_iconst_m1 ?_
    refine mj_icmp_eq 88 dX6_split_50 (by decide) (fun c2 => ?_) (fun c2 => ?_)
    · replace hf := mj_pos c2 hf
      refine mj_sub [0, 1, 2, 3, 4] [(0, .ref 55), (1, .ref 32), (3, .int x3), (4, .int x4), (5, .int x5)] rfl ?_
      obtain rfl := Option.some.inj hf
      have hZ := hx (.inl (x5, r64)) rfl
      replace hZ := mj_el hZ
      replace hZ := mj_u2p hZ
      exact hZ
    · replace hf := mj_neg c2 hf
      refine mj_aload_n 0 dX6_split_53 rfl ?_
      refine mj_aload_n 1 dX6_split_54 rfl ?_
      refine mj_iload 3 dX6_split_55 rfl ?_
      refine mj_aload_n 0 dX6_split_57 rfl ?_
      refine mj_getP p0_55_7 (by decide) fl_X6_33 rfl s0_55 a0_55 dX6_split_58 ?_
      refine mj_iload 4 dX6_split_61 rfl ?_
      obtain ⟨z3, hf⟩ := mj_ck hf
      refine mj_ialdv (x := r63) rfl s0_63 a0_63 z3 dX6_split_63 ?_
      obtain ⟨o4, ho4, hf⟩ := mj_bd hf
      refine mj_callVd (I2 := (mj_rows I [(32, r32), (37, r37), (38, r38), (39, r39), (59, r59), (60, r60), (61, r61), (62, r62), (63, r63), (64, o4.2)])) (L2 := L) (s1 := [.int o4.1]) (st := []) [.ref 32, .int x4, .int (r63 x5.toNatClampNeg)] (cmX6_flowAlike X.2.1 G F x4 (r63 x5.toNatClampNeg) _ _ r37 r38 r39 r59 r64 rfl rfl rfl rfl rfl o4 ho4) (mj_rr rfl) rfl cw_X6_83 s0_55 a0_55 (by decide) rfl rfl (Nat.le_of_ble_eq_true rfl) ⟨Nat.zero_le _, Nat.zero_le _⟩ dX6_split_64 rfl ?_
      refine mj_if_eq 73 dX6_split_67 (by decide) (fun c5 => ?_) (fun c5 => ?_)
      · replace hf := mj_pos c5 hf
        refine mj_aload_n 0 dX6_split_73 rfl ?_
        refine mj_getP p0_55_6 (by decide) fl_X6_30 rfl s0_55 a0_55 dX6_split_74 ?_
        refine mj_iload 4 dX6_split_77 rfl ?_
        obtain ⟨z6, hf⟩ := mj_ck hf
        refine mj_ialdv (x := r62) rfl s0_62 a0_62 z6 dX6_split_79 ?_
        refine mj_istore [(5, .int (r62 x5.toNatClampNeg)), (0, .ref 55), (1, .ref 32), (3, .int x3), (4, .int x4), (6, .int x6)] dX6_split_80 (by decide) rfl ?_
        refine mj_iinc 5 [(6, .int (x6 + (1))), (5, .int (r62 x5.toNatClampNeg)), (0, .ref 55), (1, .ref 32), (3, .int x3), (4, .int x4)] dX6_split_82 rfl (kz_1 _) (by decide) rfl ?_
        refine mj_goto 41 dX6_split_85 (by decide) ?_
        refine mj_sub [2, 3, 4, 5, 1, 0] [(0, .ref 55), (1, .ref 32), (3, .int x3), (4, .int x4), (5, .int (r62 x5.toNatClampNeg)), (6, .int (x6 + (1)))] rfl ?_
        obtain rfl := Option.some.inj hf
        have hZ := hc ((r62 x5.toNatClampNeg), (x6 + (1)), o4.2) rfl
        replace hZ := mj_u2p hZ
        replace hZ := mj_u2p hZ
        exact hZ
      · replace hf := mj_neg c5 hf
        refine mj_sub [0, 1, 2, 3, 4] [(0, .ref 55), (1, .ref 32), (3, .int x3), (4, .int x4), (5, .int x5)] rfl ?_
        obtain rfl := Option.some.inj hf
        have hZ := hx (.inr (x5, o4.2)) rfl
        replace hZ := mj_er hZ
        replace hZ := mj_u2p hZ
        exact hZ
set_option maxRecDepth 100000 in
set_option maxHeartbeats 4000000 in
theorem jtX6_split_88 {X : mj_XT} {l : Launch} {G : mj_GT} {ad : Nat → Nat} {Qn : Option Value → mj_IT → mj_LT → Prop} (hR : mj_R X l G mj_P0 mj_S0 98 ad 0 0 Qn) (F : Nat) (I : mj_IT) (L : mj_LT) (r32 : Nat → Int32) (r37 : Nat → Int32) (r38 : Nat → Int32) (r39 : Nat → Int32) (r59 : Nat → Int32) (r60 : Nat → Int32) (r61 : Nat → Int32) (r62 : Nat → Int32) (r63 : Nat → Int32) (r64 : Nat → Int32) (x3 : Int32) (x4 : Int32) (x5 : Int32) (o : (((Int32) × (Int32) × (Nat → Int32) × (Nat → Int32) × (Nat → Int32) × (Nat → Int32) × (Nat → Int32)) ⊕ ((Int32) × (Nat → Int32) × (Nat → Int32) × (Nat → Int32) × (Nat → Int32) × (Nat → Int32)))) (hf : jnX6_split_88 F r32 r37 r38 r39 r59 x3 x4 x5 r60 r61 r62 r63 r64 = some o) (hc : ∀ s2 : ((Int32) × (Int32) × (Nat → Int32) × (Nat → Int32) × (Nat → Int32) × (Nat → Int32) × (Nat → Int32)), o = .inl s2 → (mj_u2 (fun x3 => (mj_u2 (fun x4 => (mj_u2 (fun r60 => (mj_u2 (fun r61 => (mj_u2 (fun r62 => (mj_u2 (fun r63 r64 => mj_W X G RX6 "split" cX6_split 7 3 (some .int) mj_P0 mj_S0 98 ad 0 0 15 [(0, .ref 55), (1, .ref 32), (3, .int x3), (4, .int x4)] [] (mj_rows I [(32, r32), (37, r37), (38, r38), (39, r39), (59, r59), (60, r60), (61, r61), (62, r62), (63, r63), (64, r64)]) L)))))))))))) s2) (hx : ∀ e2 : ((Int32) × (Nat → Int32) × (Nat → Int32) × (Nat → Int32) × (Nat → Int32) × (Nat → Int32)), o = .inr e2 → (mj_u2 (fun x3 => (mj_u2 (fun r60 => (mj_u2 (fun r61 => (mj_u2 (fun r62 => (mj_u2 (fun r63 r64 => mj_W X G RX6 "split" cX6_split 7 3 (some .int) mj_P0 mj_S0 98 ad 0 0 157 [(0, .ref 55), (1, .ref 32), (3, .int x3)] [] (mj_rows I [(32, r32), (37, r37), (38, r38), (39, r39), (59, r59), (60, r60), (61, r61), (62, r62), (63, r63), (64, r64)]) L)))))))))) e2) : mj_W X G RX6 "split" cX6_split 7 3 (some .int) mj_P0 mj_S0 98 ad 0 0 88 [(0, .ref 55), (1, .ref 32), (3, .int x3), (4, .int x4), (5, .int x5)] [] (mj_rows I [(32, r32), (37, r37), (38, r38), (39, r39), (59, r59), (60, r60), (61, r61), (62, r62), (63, r63), (64, r64)]) L := by
  unfold jnX6_split_88 at hf
  refine mj_iload 4 dX6_split_88 rfl ?_
  refine mj_iconst dX6_split_90 kc_iconst_m1 ?_
  refine mj_icmp_ne 142 dX6_split_91 (by decide) (fun c7 => ?_) (fun c7 => ?_)
  · replace hf := mj_neg c7 hf
    refine mj_aload_n 0 dX6_split_142 rfl ?_
    refine mj_getP p0_55_4 (by decide) fl_X6_24 rfl s0_55 a0_55 dX6_split_143 ?_
    refine mj_iload 3 dX6_split_146 rfl ?_
    refine mj_iload 4 dX6_split_148 rfl ?_
    obtain ⟨z8, hf⟩ := mj_ck hf
    refine mj_iastr [(32, r32), (37, r37), (38, r38), (39, r39), (59, r59), (60, (upd r60 x4.toNatClampNeg x5)), (61, r61), (62, r62), (63, r63), (64, r64)] rfl s0_60 a0_60 z8 dX6_split_150 ?_
    refine mj_iinc 3 [(4, .int (x4 + (1))), (0, .ref 55), (1, .ref 32), (3, .int x3), (5, .int x5)] dX6_split_151 rfl (kz_1 _) (by decide) rfl ?_
    refine mj_goto 15 dX6_split_154 (by decide) ?_
    refine mj_sub [1, 2, 3, 0] [(0, .ref 55), (1, .ref 32), (3, .int x3), (4, .int (x4 + (1)))] rfl ?_
    obtain rfl := Option.some.inj hf
    have hZ := hc (x3, (x4 + (1)), (upd r60 x4.toNatClampNeg x5), r61, r62, r63, r64) rfl
    replace hZ := mj_u2p hZ
    replace hZ := mj_u2p hZ
    replace hZ := mj_u2p hZ
    replace hZ := mj_u2p hZ
    replace hZ := mj_u2p hZ
    replace hZ := mj_u2p hZ
    exact hZ
  · replace hf := mj_pos c7 hf
    refine mj_iload_n 2 dX6_split_94 rfl ?_
    refine mj_istore [(5, .int x3), (0, .ref 55), (1, .ref 32), (3, .int x3), (4, .int x4)] dX6_split_95 (by decide) rfl ?_
    refine mj_iinc 3 [(3, .int (x3 + (1))), (5, .int x3), (0, .ref 55), (1, .ref 32), (4, .int x4)] dX6_split_97 rfl (kz_1 _) (by decide) rfl ?_
    refine mj_aload_n 2 dX6_split_100 rfl ?_
    refine mj_getP p0_55_7 (by decide) fl_X6_33 rfl s0_55 a0_55 dX6_split_101 ?_
    refine mj_iload 1 dX6_split_104 rfl ?_
    refine mj_iload 4 dX6_split_106 rfl ?_
    obtain ⟨z9, hf⟩ := mj_ck hf
    refine mj_iastr [(32, r32), (37, r37), (38, r38), (39, r39), (59, r59), (60, r60), (61, r61), (62, r62), (63, (upd r63 x3.toNatClampNeg x4)), (64, r64)] rfl s0_63 a0_63 z9 dX6_split_108 ?_
    refine mj_aload_n 2 dX6_split_109 rfl ?_
    refine mj_getP p0_55_6 (by decide) fl_X6_30 rfl s0_55 a0_55 dX6_split_110 ?_
    refine mj_iload 1 dX6_split_113 rfl ?_
    refine mj_aload_n 2 dX6_split_115 rfl ?_
    refine mj_getP p0_55_5 (by decide) fl_X6_27 rfl s0_55 a0_55 dX6_split_116 ?_
    refine mj_aload_n 2 dX6_split_119 rfl ?_
    refine mj_getP p0_55_3 (by decide) fl_X6_21 rfl s0_55 a0_55 dX6_split_120 ?_
    refine mj_iload 4 dX6_split_123 rfl ?_
    obtain ⟨z10, hf⟩ := mj_ck hf
    refine mj_ialdv (x := r59) rfl s0_59 a0_59 z10 dX6_split_125 ?_
    obtain ⟨z11, hf⟩ := mj_ck hf
    refine mj_ialdv (x := r61) rfl s0_61 a0_61 z11 dX6_split_126 ?_
    obtain ⟨z12, hf⟩ := mj_ck hf
    refine mj_iastr [(32, r32), (37, r37), (38, r38), (39, r39), (59, r59), (60, r60), (61, r61), (62, (upd r62 x3.toNatClampNeg (r61 ((r59 x4.toNatClampNeg).toNatClampNeg)))), (63, (upd r63 x3.toNatClampNeg x4)), (64, r64)] rfl s0_62 a0_62 z12 dX6_split_127 ?_
    refine mj_aload_n 2 dX6_split_128 rfl ?_
    refine mj_getP p0_55_5 (by decide) fl_X6_27 rfl s0_55 a0_55 dX6_split_129 ?_
    refine mj_aload_n 2 dX6_split_132 rfl ?_
    refine mj_getP p0_55_3 (by decide) fl_X6_21 rfl s0_55 a0_55 dX6_split_133 ?_
    refine mj_iload 4 dX6_split_136 rfl ?_
    obtain ⟨z13, hf⟩ := mj_ck hf
    refine mj_ialdv (x := r59) rfl s0_59 a0_59 z13 dX6_split_138 ?_
    refine mj_iload 1 dX6_split_139 rfl ?_
    obtain ⟨z14, hf⟩ := mj_ck hf
    refine mj_iastr [(32, r32), (37, r37), (38, r38), (39, r39), (59, r59), (60, r60), (61, (upd r61 ((r59 x4.toNatClampNeg).toNatClampNeg) x3)), (62, (upd r62 x3.toNatClampNeg (r61 ((r59 x4.toNatClampNeg).toNatClampNeg)))), (63, (upd r63 x3.toNatClampNeg x4)), (64, r64)] rfl s0_61 a0_61 z14 dX6_split_141 ?_
    refine mj_aload_n 2 dX6_split_142 rfl ?_
    refine mj_getP p0_55_4 (by decide) fl_X6_24 rfl s0_55 a0_55 dX6_split_143 ?_
    refine mj_iload 4 dX6_split_146 rfl ?_
    refine mj_iload 1 dX6_split_148 rfl ?_
    obtain ⟨z15, hf⟩ := mj_ck hf
    refine mj_iastr [(32, r32), (37, r37), (38, r38), (39, r39), (59, r59), (60, (upd r60 x4.toNatClampNeg x3)), (61, (upd r61 ((r59 x4.toNatClampNeg).toNatClampNeg) x3)), (62, (upd r62 x3.toNatClampNeg (r61 ((r59 x4.toNatClampNeg).toNatClampNeg)))), (63, (upd r63 x3.toNatClampNeg x4)), (64, r64)] rfl s0_60 a0_60 z15 dX6_split_150 ?_
    refine mj_iinc 4 [(4, .int (x4 + (1))), (3, .int (x3 + (1))), (5, .int x3), (0, .ref 55), (1, .ref 32)] dX6_split_151 rfl (kz_1 _) (by decide) rfl ?_
    refine mj_goto 15 dX6_split_154 (by decide) ?_
    refine mj_sub [3, 4, 1, 0] [(0, .ref 55), (1, .ref 32), (3, .int (x3 + (1))), (4, .int (x4 + (1)))] rfl ?_
    obtain rfl := Option.some.inj hf
    have hZ := hc ((x3 + (1)), (x4 + (1)), (upd r60 x4.toNatClampNeg x3), (upd r61 ((r59 x4.toNatClampNeg).toNatClampNeg) x3), (upd r62 x3.toNatClampNeg (r61 ((r59 x4.toNatClampNeg).toNatClampNeg))), (upd r63 x3.toNatClampNeg x4), r64) rfl
    replace hZ := mj_u2p hZ
    replace hZ := mj_u2p hZ
    replace hZ := mj_u2p hZ
    replace hZ := mj_u2p hZ
    replace hZ := mj_u2p hZ
    replace hZ := mj_u2p hZ
    exact hZ
set_option maxRecDepth 100000 in
set_option maxHeartbeats 4000000 in
theorem lpX6_split_15 {X : mj_XT} {l : Launch} {G : mj_GT} {ad : Nat → Nat} {Qn : Option Value → mj_IT → mj_LT → Prop} (hR : mj_R X l G mj_P0 mj_S0 98 ad 0 0 Qn) (F : Nat) (I : mj_IT) (L : mj_LT) (r32 : Nat → Int32) (r37 : Nat → Int32) (r38 : Nat → Int32) (r39 : Nat → Int32) (r59 : Nat → Int32) (r60 : Nat → Int32) (r61 : Nat → Int32) (r62 : Nat → Int32) (r63 : Nat → Int32) (r64 : Nat → Int32) : ∀ (n : Nat) (s : ((Int32) × (Int32) × (Nat → Int32) × (Nat → Int32) × (Nat → Int32) × (Nat → Int32) × (Nat → Int32))) (e : ((Int32) × (Nat → Int32) × (Nat → Int32) × (Nat → Int32) × (Nat → Int32) × (Nat → Int32))), mj_it (mj_u2 (fun z0 => (mj_u2 (fun z1 => (mj_u2 (fun z2 => (mj_u2 (fun z3 => (mj_u2 (fun z4 => (mj_u2 (fun z5 z6 => bdX6_split_15 F r32 r37 r38 r39 r59 z0 z1 z2 z3 z4 z5 z6)))))))))))) n s = some e → (mj_u2 (fun x3 => (mj_u2 (fun r60 => (mj_u2 (fun r61 => (mj_u2 (fun r62 => (mj_u2 (fun r63 r64 => mj_W X G RX6 "split" cX6_split 7 3 (some .int) mj_P0 mj_S0 98 ad 0 0 157 [(0, .ref 55), (1, .ref 32), (3, .int x3)] [] (mj_rows I [(32, r32), (37, r37), (38, r38), (39, r39), (59, r59), (60, r60), (61, r61), (62, r62), (63, r63), (64, r64)]) L)))))))))) e → (mj_u2 (fun x3 => (mj_u2 (fun x4 => (mj_u2 (fun r60 => (mj_u2 (fun r61 => (mj_u2 (fun r62 => (mj_u2 (fun r63 r64 => mj_W X G RX6 "split" cX6_split 7 3 (some .int) mj_P0 mj_S0 98 ad 0 0 15 [(0, .ref 55), (1, .ref 32), (3, .int x3), (4, .int x4)] [] (mj_rows I [(32, r32), (37, r37), (38, r38), (39, r39), (59, r59), (60, r60), (61, r61), (62, r62), (63, r63), (64, r64)]) L)))))))))))) s := by
  refine mj_loop (fun s o hf hc hx => ?_)
  obtain ⟨x3, x4, r60, r61, r62, r63, r64⟩ := s
  replace hf := mj_u2e hf
  refine mj_u2q ?_
  replace hf := mj_u2e hf
  refine mj_u2q ?_
  replace hf := mj_u2e hf
  refine mj_u2q ?_
  replace hf := mj_u2e hf
  refine mj_u2q ?_
  replace hf := mj_u2e hf
  refine mj_u2q ?_
  replace hf := mj_u2e hf
  refine mj_u2q ?_
  unfold bdX6_split_15 at hf
  refine mj_iload 3 dX6_split_15 rfl ?_
  refine mj_aload_n 1 dX6_split_17 rfl ?_
  refine mj_getIv (v := (r32 2)) rfl fl_X6_52 rfl s0_32 a0_32 dX6_split_18 ?_
  refine mj_icmp_ge 157 dX6_split_21 (by decide) (fun c16 => ?_) (fun c16 => ?_)
  · replace hf := mj_pos c16 hf
    refine mj_sub [0, 1, 2] [(0, .ref 55), (1, .ref 32), (3, .int x3)] rfl ?_
    obtain rfl := Option.some.inj hf
    have hZ := hx (x3, r60, r61, r62, r63, r64) rfl
    replace hZ := mj_u2p hZ
    replace hZ := mj_u2p hZ
    replace hZ := mj_u2p hZ
    replace hZ := mj_u2p hZ
    replace hZ := mj_u2p hZ
    exact hZ
  · replace hf := mj_neg c16 hf
    refine mj_aload_n 0 dX6_split_24 rfl ?_
    refine mj_getP p0_55_5 (by decide) fl_X6_27 rfl s0_55 a0_55 dX6_split_25 ?_
    refine mj_aload_n 0 dX6_split_28 rfl ?_
    refine mj_getP p0_55_3 (by decide) fl_X6_21 rfl s0_55 a0_55 dX6_split_29 ?_
    refine mj_iload 3 dX6_split_32 rfl ?_
    obtain ⟨z17, hf⟩ := mj_ck hf
    refine mj_ialdv (x := r59) rfl s0_59 a0_59 z17 dX6_split_34 ?_
    obtain ⟨z18, hf⟩ := mj_ck hf
    refine mj_ialdv (x := r61) rfl s0_61 a0_61 z18 dX6_split_35 ?_
    refine mj_istore [(5, .int (r61 ((r59 x4.toNatClampNeg).toNatClampNeg))), (0, .ref 55), (1, .ref 32), (3, .int x3), (4, .int x4)] dX6_split_36 (by decide) rfl ?_
    refine mj_iconst dX6_split_38 kc_iconst_0 ?_
    refine mj_istore [(6, .int (0 : Int32)), (5, .int (r61 ((r59 x4.toNatClampNeg).toNatClampNeg))), (0, .ref 55), (1, .ref 32), (3, .int x3), (4, .int x4)] dX6_split_39 (by decide) rfl ?_
    refine mj_sub [2, 3, 4, 5, 1, 0] [(0, .ref 55), (1, .ref 32), (3, .int x3), (4, .int x4), (5, .int (r61 ((r59 x4.toNatClampNeg).toNatClampNeg))), (6, .int (0 : Int32))] rfl ?_
    obtain ⟨e19, ho19, hf⟩ := mj_bd hf
    refine lpX6_split_41 hR F I L r32 r37 r38 r39 r59 r60 r61 r62 r63 r64 x3 x4 F ((r61 ((r59 x4.toNatClampNeg).toNatClampNeg)), (0 : Int32), r64) e19 ho19 ?_
    rcases e19 with e19 | e19
    · replace hf := mj_ele hf
      obtain ⟨x5_19, r64_19⟩ := e19
      replace hf := mj_u2e hf
      refine mj_elq (?_)
      refine mj_u2q ?_
      exact jtX6_split_88 hR F I L r32 r37 r38 r39 r59 r60 r61 r62 r63 r64_19 x3 x4 x5_19 o hf hc hx
    · replace hf := mj_ere hf
      obtain ⟨x5_19, r64_19⟩ := e19
      replace hf := mj_u2e hf
      refine mj_erq (?_)
      refine mj_u2q ?_
      refine mj_goto 88 dX6_split_70 (by decide) ?_
      exact jtX6_split_88 hR F I L r32 r37 r38 r39 r59 r60 r61 r62 r63 r64_19 x3 x4 x5_19 o hf hc hx
set_option maxRecDepth 100000 in
set_option maxHeartbeats 4000000 in
theorem mtX6_split {X : mj_XT} {l : Launch} {G : mj_GT} {ad : Nat → Nat} {Qn : Option Value → mj_IT → mj_LT → Prop} (hR : mj_R X l G mj_P0 mj_S0 98 ad 0 0 Qn) (F : Nat) (I : mj_IT) (L : mj_LT) (r32 : Nat → Int32) (r37 : Nat → Int32) (r38 : Nat → Int32) (r39 : Nat → Int32) (r59 : Nat → Int32) (r60 : Nat → Int32) (r61 : Nat → Int32) (r62 : Nat → Int32) (r63 : Nat → Int32) (r64 : Nat → Int32) (x2 : Int32) (o : ((Int32) × (Nat → Int32) × (Nat → Int32) × (Nat → Int32) × (Nat → Int32) × (Nat → Int32) × (Nat → Int32))) (hf : fnX6_split F r32 r37 r38 r39 r59 r60 r61 r62 r63 r64 x2 = some o) (hq : (mj_u2 (fun ov => (mj_u2 (fun r59 => (mj_u2 (fun r60 => (mj_u2 (fun r61 => (mj_u2 (fun r62 => (mj_u2 (fun r63 r64 => Qn (some (.int ov)) (mj_rows I [(32, r32), (37, r37), (38, r38), (39, r39), (59, r59), (60, r60), (61, r61), (62, r62), (63, r63), (64, r64)]) L)))))))))))) o) : mj_W X G RX6 "split" cX6_split 7 3 (some .int) mj_P0 mj_S0 98 ad 0 0 0 [(0, .ref 55), (1, .ref 32), (2, .int x2)] [] (mj_rows I [(32, r32), (37, r37), (38, r38), (39, r39), (59, r59), (60, r60), (61, r61), (62, r62), (63, r63), (64, r64)]) L := by
  unfold fnX6_split at hf
  refine mj_aload_n 0 dX6_split_0 rfl ?_
  refine mj_getP p0_55_5 (by decide) fl_X6_27 rfl s0_55 a0_55 dX6_split_1 ?_
  refine mj_iconst dX6_split_4 kc_iconst_0 ?_
  refine mj_iload_n 2 dX6_split_5 rfl ?_
  refine mj_iconst dX6_split_6 kc_iconst_m1 ?_
  obtain ⟨o20, ho20, hf⟩ := mj_bd hf
  refine mj_callSd (I2 := (mj_rows I [(32, r32), (37, r37), (38, r38), (39, r39), (59, r59), (60, r60), (61, o20), (62, r62), (63, r63), (64, r64)])) (L2 := L) (s1 := []) (st := []) [.ref 61, .int (0 : Int32), .int x2, .int (-1 : Int32)] (cmJ7_fill_fda19_61 X.2.1 G F (0 : Int32) x2 (-1 : Int32) _ _ r61 rfl o20 ho20) (mj_rr rfl) rfl cw_X6_61 (by decide) rfl rfl (Nat.le_of_ble_eq_true rfl) ⟨Nat.zero_le _, Nat.zero_le _⟩ dX6_split_7 rfl ?_
  refine mj_iconst dX6_split_10 kc_iconst_0 ?_
  refine mj_istore_n [(3, .int (0 : Int32)), (0, .ref 55), (1, .ref 32), (2, .int x2)] dX6_split_11 rfl (by decide) rfl ?_
  refine mj_iconst dX6_split_12 kc_iconst_0 ?_
  refine mj_istore [(4, .int (0 : Int32)), (3, .int (0 : Int32)), (0, .ref 55), (1, .ref 32), (2, .int x2)] dX6_split_13 (by decide) rfl ?_
  refine mj_sub [2, 3, 1, 0] [(0, .ref 55), (1, .ref 32), (3, .int (0 : Int32)), (4, .int (0 : Int32))] rfl ?_
  obtain ⟨e21, ho21, hf⟩ := mj_bd hf
  refine lpX6_split_15 hR F I L r32 r37 r38 r39 r59 r60 o20 r62 r63 r64 F ((0 : Int32), (0 : Int32), r60, o20, r62, r63, r64) e21 ho21 ?_
  obtain ⟨x3_21, r60_21, r61_21, r62_21, r63_21, r64_21⟩ := e21
  replace hf := mj_u2e hf
  replace hf := mj_u2e hf
  replace hf := mj_u2e hf
  replace hf := mj_u2e hf
  replace hf := mj_u2e hf
  refine ?_
  refine mj_u2q ?_
  refine mj_u2q ?_
  refine mj_u2q ?_
  refine mj_u2q ?_
  refine mj_u2q ?_
  refine mj_aload_n 0 dX6_split_157 rfl ?_
  refine mj_getP p0_55_4 (by decide) fl_X6_24 rfl s0_55 a0_55 dX6_split_158 ?_
  refine mj_iconst dX6_split_161 kc_iconst_0 ?_
  refine mj_aload_n 0 dX6_split_162 rfl ?_
  refine mj_getP p0_55_3 (by decide) fl_X6_21 rfl s0_55 a0_55 dX6_split_163 ?_
  refine mj_iconst dX6_split_166 kc_iconst_0 ?_
  refine mj_aload_n 1 dX6_split_167 rfl ?_
  refine mj_getIv (v := (r32 2)) rfl fl_X6_52 rfl s0_32 a0_32 dX6_split_168 ?_
  obtain ⟨z22, hf⟩ := mj_ck hf
  refine mj_acopy [(32, r32), (37, r37), (38, r38), (39, r39), (59, (va_cpy r60_21 r59 (0 : Int32).toNatClampNeg (0 : Int32).toNatClampNeg (r32 2).toNatClampNeg)), (60, r60_21), (61, r61_21), (62, r62_21), (63, r63_21), (64, r64_21)] rfl s0_60 a0_60 s0_59 a0_59 z22 ac_X6_55 (by decide) (Nat.le_of_ble_eq_true rfl) dX6_split_171 ?_
  refine mj_iload_n 2 dX6_split_174 rfl ?_
  obtain rfl := Option.some.inj hf
  have hZ := hq
  replace hZ := mj_u2p hZ
  replace hZ := mj_u2p hZ
  replace hZ := mj_u2p hZ
  replace hZ := mj_u2p hZ
  replace hZ := mj_u2p hZ
  replace hZ := mj_u2p hZ
  exact mj_iret hR ⟨Nat.le_refl _, Nat.le_refl _⟩ rfl rfl dX6_split_175 hZ
set_option maxRecDepth 100000 in
set_option maxHeartbeats 4000000 in
theorem cmX6_split (l : Launch) (G : mj_GT) (F : Nat) (x2 : Int32) (I : mj_IT) (L : mj_LT) (r32 : Nat → Int32) (r37 : Nat → Int32) (r38 : Nat → Int32) (r39 : Nat → Int32) (r59 : Nat → Int32) (r60 : Nat → Int32) (r61 : Nat → Int32) (r62 : Nat → Int32) (r63 : Nat → Int32) (r64 : Nat → Int32) (hr32 : I 32 = r32) (hr37 : I 37 = r37) (hr38 : I 38 = r38) (hr39 : I 39 = r39) (hr59 : I 59 = r59) (hr60 : I 60 = r60) (hr61 : I 61 = r61) (hr62 : I 62 = r62) (hr63 : I 63 = r63) (hr64 : I 64 = r64) (o : ((Int32) × (Nat → Int32) × (Nat → Int32) × (Nat → Int32) × (Nat → Int32) × (Nat → Int32) × (Nat → Int32))) (hf : fnX6_split F r32 r37 r38 r39 r59 r60 r61 r62 r63 r64 x2 = some o) : mj_M l G yX6_split cX6_split 7 3 (some .int) 0 0 mj_P0 mj_S0 98 [.ref 55, .ref 32, .int x2] I L (mj_qd (some (.int o.1)) (mj_rows I [(32, r32), (37, r37), (38, r38), (39, r39), (59, o.2.1), (60, o.2.2.1), (61, o.2.2.2.1), (62, o.2.2.2.2.1), (63, o.2.2.2.2.2.1), (64, o.2.2.2.2.2.2)]) L) := by
  refine mj_in RX6 "split" [(0, .ref 55), (1, .ref 32), (2, .int x2)] rfl rfl rfl (by decide) (Nat.le_of_ble_eq_true rfl) (fun X ad hR => ?_)
  refine mj_toI [(32, r32), (37, r37), (38, r38), (39, r39), (59, r59), (60, r60), (61, r61), (62, r62), (63, r63), (64, r64)] (by intro q hq; simp only [List.mem_cons, List.not_mem_nil, or_false] at hq; rcases hq with rfl | rfl | rfl | rfl | rfl | rfl | rfl | rfl | rfl | rfl <;> assumption) ?_
  refine mtX6_split hR F I L r32 r37 r38 r39 r59 r60 r61 r62 r63 r64 x2 o hf ?_
  obtain ⟨w0, w1, w2, w3, w4, w5, w6⟩ := o
  refine mj_u2q ?_
  refine mj_u2q ?_
  refine mj_u2q ?_
  refine mj_u2q ?_
  refine mj_u2q ?_
  refine mj_u2q ?_
  exact ⟨rfl, rfl, rfl⟩

-- X6_find
def bdX6_find_34 (F : Nat) (r32 : Nat → Int32) (r37 : Nat → Int32) (r38 : Nat → Int32) (r39 : Nat → Int32) (x2 : Int32) (x3 : Int32) (x4 : Int32) (r59 : Nat → Int32) (r60 : Nat → Int32) (r61 : Nat → Int32) (r62 : Nat → Int32) (r63 : Nat → Int32) (r64 : Nat → Int32) : Option (((Int32) × (Int32) × (Nat → Int32) × (Nat → Int32) × (Nat → Int32) × (Nat → Int32) × (Nat → Int32) × (Nat → Int32)) ⊕ (((Int32) × (Nat → Int32) × (Nat → Int32) × (Nat → Int32) × (Nat → Int32) × (Nat → Int32) × (Nat → Int32)) ⊕ ((Int32) × (Nat → Int32) × (Nat → Int32) × (Nat → Int32) × (Nat → Int32) × (Nat → Int32) × (Nat → Int32)))) := (if (200 : Int32) ≤ x4 then some (.inr (.inl (x3, r59, r60, r61, r62, r63, r64))) else (fnX6_split F r32 r37 r38 r39 r59 r60 r61 r62 r63 r64 x3).bind (fun o2 => (if o2.1 = x3 then some (.inr (.inr (x3, o2.2.1, o2.2.2.1, o2.2.2.2.1, o2.2.2.2.2.1, o2.2.2.2.2.2.1, o2.2.2.2.2.2.2))) else some (.inl (o2.1, (x4 + (1)), o2.2.1, o2.2.2.1, o2.2.2.2.1, o2.2.2.2.2.1, o2.2.2.2.2.2.1, o2.2.2.2.2.2.2)))))
def jnX6_find_68 (F : Nat) (r32 : Nat → Int32) (r33 : Nat → Int32) (r34 : Nat → Int32) (r37 : Nat → Int32) (r38 : Nat → Int32) (r39 : Nat → Int32) (x2 : Int32) (x3 : Int32) (r56 : Nat → Int32) (r57 : Nat → Int32) (r58 : Nat → Int32) (r59 : Nat → Int32) (r60 : Nat → Int32) (r61 : Nat → Int32) (r62 : Nat → Int32) (r63 : Nat → Int32) (r64 : Nat → Int32) : Option ((Nat → Int32) × (Nat → Int32) × (Nat → Int32) × (Nat → Int32) × (Nat → Int32) × (Nat → Int32) × (Nat → Int32) × (Nat → Int32) × (Nat → Int32)) := (if mj_ib x2 6 = true then (if mj_cpk (0 : Int32) (x2 * (200 : Int32)) (r32 2) 200 1200 = true then some (r56, (upd r57 x2.toNatClampNeg x3), (va_cpy r59 r58 (0 : Int32).toNatClampNeg (x2 * (200 : Int32)).toNatClampNeg (r32 2).toNatClampNeg), r59, r60, r61, r62, r63, r64) else none) else none)
def fnX6_find (F : Nat) (r32 : Nat → Int32) (r33 : Nat → Int32) (r34 : Nat → Int32) (r37 : Nat → Int32) (r38 : Nat → Int32) (r39 : Nat → Int32) (r56 : Nat → Int32) (r57 : Nat → Int32) (r58 : Nat → Int32) (r59 : Nat → Int32) (r60 : Nat → Int32) (r61 : Nat → Int32) (r62 : Nat → Int32) (r63 : Nat → Int32) (r64 : Nat → Int32) (x2 : Int32) : Option ((Nat → Int32) × (Nat → Int32) × (Nat → Int32) × (Nat → Int32) × (Nat → Int32) × (Nat → Int32) × (Nat → Int32) × (Nat → Int32) × (Nat → Int32)) := (if mj_ib x2 6 = true then (if (r56 x2.toNatClampNeg) = (r32 0) then some (r56, r57, r58, r59, r60, r61, r62, r63, r64) else (if mj_ib x2 6 = true then (fnX6_labelKinds F r32 r33 r34 r59 r61 x2).bind (fun o9 => (mj_it (mj_u2 (fun z0 => (mj_u2 (fun z1 => (mj_u2 (fun z2 => (mj_u2 (fun z3 => (mj_u2 (fun z4 => (mj_u2 (fun z5 => (mj_u2 (fun z6 z7 => bdX6_find_34 F r32 r37 r38 r39 x2 z0 z1 z2 z3 z4 z5 z6 z7)))))))))))))) F (o9.1, (0 : Int32), o9.2.1, r60, o9.2.2, r62, r63, r64)).bind (Sum.elim (mj_u2 (fun x3_10 => (mj_u2 (fun r59_10 => (mj_u2 (fun r60_10 => (mj_u2 (fun r61_10 => (mj_u2 (fun r62_10 => (mj_u2 (fun r63_10 r64_10 => jnX6_find_68 F r32 r33 r34 r37 r38 r39 x2 x3_10 (upd r56 x2.toNatClampNeg (r32 0)) r57 r58 r59_10 r60_10 r61_10 r62_10 r63_10 r64_10)))))))))))) (mj_u2 (fun x3_10 => (mj_u2 (fun r59_10 => (mj_u2 (fun r60_10 => (mj_u2 (fun r61_10 => (mj_u2 (fun r62_10 => (mj_u2 (fun r63_10 r64_10 => jnX6_find_68 F r32 r33 r34 r37 r38 r39 x2 x3_10 (upd r56 x2.toNatClampNeg (r32 0)) r57 r58 r59_10 r60_10 r61_10 r62_10 r63_10 r64_10)))))))))))))) else none)) else none)
set_option maxRecDepth 100000 in
set_option maxHeartbeats 4000000 in
theorem lpX6_find_34 {X : mj_XT} {l : Launch} {G : mj_GT} {ad : Nat → Nat} {Qn : Option Value → mj_IT → mj_LT → Prop} (hR : mj_R X l G mj_P0 mj_S0 98 ad 0 0 Qn) (F : Nat) (I : mj_IT) (L : mj_LT) (r32 : Nat → Int32) (r33 : Nat → Int32) (r34 : Nat → Int32) (r37 : Nat → Int32) (r38 : Nat → Int32) (r39 : Nat → Int32) (r56 : Nat → Int32) (r57 : Nat → Int32) (r58 : Nat → Int32) (r59 : Nat → Int32) (r60 : Nat → Int32) (r61 : Nat → Int32) (r62 : Nat → Int32) (r63 : Nat → Int32) (r64 : Nat → Int32) (x2 : Int32) : ∀ (n : Nat) (s : ((Int32) × (Int32) × (Nat → Int32) × (Nat → Int32) × (Nat → Int32) × (Nat → Int32) × (Nat → Int32) × (Nat → Int32))) (e : (((Int32) × (Nat → Int32) × (Nat → Int32) × (Nat → Int32) × (Nat → Int32) × (Nat → Int32) × (Nat → Int32)) ⊕ ((Int32) × (Nat → Int32) × (Nat → Int32) × (Nat → Int32) × (Nat → Int32) × (Nat → Int32) × (Nat → Int32)))), mj_it (mj_u2 (fun z0 => (mj_u2 (fun z1 => (mj_u2 (fun z2 => (mj_u2 (fun z3 => (mj_u2 (fun z4 => (mj_u2 (fun z5 => (mj_u2 (fun z6 z7 => bdX6_find_34 F r32 r37 r38 r39 x2 z0 z1 z2 z3 z4 z5 z6 z7)))))))))))))) n s = some e → (Sum.elim (mj_u2 (fun x3 => (mj_u2 (fun r59 => (mj_u2 (fun r60 => (mj_u2 (fun r61 => (mj_u2 (fun r62 => (mj_u2 (fun r63 r64 => mj_W X G RX6 "find" cX6_find 6 4 none mj_P0 mj_S0 98 ad 0 0 68 [(0, .ref 55), (1, .ref 32), (2, .int x2), (3, .int x3)] [] (mj_rows I [(32, r32), (33, r33), (34, r34), (37, r37), (38, r38), (39, r39), (56, r56), (57, r57), (58, r58), (59, r59), (60, r60), (61, r61), (62, r62), (63, r63), (64, r64)]) L)))))))))))) (mj_u2 (fun x3 => (mj_u2 (fun r59 => (mj_u2 (fun r60 => (mj_u2 (fun r61 => (mj_u2 (fun r62 => (mj_u2 (fun r63 r64 => mj_W X G RX6 "find" cX6_find 6 4 none mj_P0 mj_S0 98 ad 0 0 56 [(0, .ref 55), (1, .ref 32), (2, .int x2), (3, .int x3)] [] (mj_rows I [(32, r32), (33, r33), (34, r34), (37, r37), (38, r38), (39, r39), (56, r56), (57, r57), (58, r58), (59, r59), (60, r60), (61, r61), (62, r62), (63, r63), (64, r64)]) L))))))))))))) e → (mj_u2 (fun x3 => (mj_u2 (fun x4 => (mj_u2 (fun r59 => (mj_u2 (fun r60 => (mj_u2 (fun r61 => (mj_u2 (fun r62 => (mj_u2 (fun r63 r64 => mj_W X G RX6 "find" cX6_find 6 4 none mj_P0 mj_S0 98 ad 0 0 34 [(0, .ref 55), (1, .ref 32), (2, .int x2), (3, .int x3), (4, .int x4)] [] (mj_rows I [(32, r32), (33, r33), (34, r34), (37, r37), (38, r38), (39, r39), (56, r56), (57, r57), (58, r58), (59, r59), (60, r60), (61, r61), (62, r62), (63, r63), (64, r64)]) L)))))))))))))) s := by
  refine mj_loop (fun s o hf hc hx => ?_)
  obtain ⟨x3, x4, r59, r60, r61, r62, r63, r64⟩ := s
  replace hf := mj_u2e hf
  refine mj_u2q ?_
  replace hf := mj_u2e hf
  refine mj_u2q ?_
  replace hf := mj_u2e hf
  refine mj_u2q ?_
  replace hf := mj_u2e hf
  refine mj_u2q ?_
  replace hf := mj_u2e hf
  refine mj_u2q ?_
  replace hf := mj_u2e hf
  refine mj_u2q ?_
  replace hf := mj_u2e hf
  refine mj_u2q ?_
  unfold bdX6_find_34 at hf
  refine mj_iload 4 dX6_find_34 rfl ?_
  refine mj_sipush dX6_find_36 kc_sipush_200 ?_
  refine mj_icmp_ge 68 dX6_find_39 (by decide) (fun c1 => ?_) (fun c1 => ?_)
  · replace hf := mj_pos c1 hf
    refine mj_sub [0, 1, 2, 3] [(0, .ref 55), (1, .ref 32), (2, .int x2), (3, .int x3)] rfl ?_
    obtain rfl := Option.some.inj hf
    have hZ := hx (.inl (x3, r59, r60, r61, r62, r63, r64)) rfl
    replace hZ := mj_el hZ
    replace hZ := mj_u2p hZ
    replace hZ := mj_u2p hZ
    replace hZ := mj_u2p hZ
    replace hZ := mj_u2p hZ
    replace hZ := mj_u2p hZ
    replace hZ := mj_u2p hZ
    exact hZ
  · replace hf := mj_neg c1 hf
    refine mj_aload_n 0 dX6_find_42 rfl ?_
    refine mj_aload_n 1 dX6_find_43 rfl ?_
    refine mj_iload_n 3 dX6_find_44 rfl ?_
    obtain ⟨o2, ho2, hf⟩ := mj_bd hf
    refine mj_callVd (I2 := (mj_rows I [(32, r32), (33, r33), (34, r34), (37, r37), (38, r38), (39, r39), (56, r56), (57, r57), (58, r58), (59, o2.2.1), (60, o2.2.2.1), (61, o2.2.2.2.1), (62, o2.2.2.2.2.1), (63, o2.2.2.2.2.2.1), (64, o2.2.2.2.2.2.2)])) (L2 := L) (s1 := [.int o2.1]) (st := []) [.ref 32, .int x3] (cmX6_split X.2.1 G F x3 _ _ r32 r37 r38 r39 r59 r60 r61 r62 r63 r64 rfl rfl rfl rfl rfl rfl rfl rfl rfl rfl o2 ho2) (mj_rr rfl) rfl cw_X6_49 s0_55 a0_55 (by decide) rfl rfl (Nat.le_of_ble_eq_true rfl) ⟨Nat.zero_le _, Nat.zero_le _⟩ dX6_find_45 rfl ?_
    refine mj_istore [(5, .int o2.1), (0, .ref 55), (1, .ref 32), (2, .int x2), (3, .int x3), (4, .int x4)] dX6_find_48 (by decide) rfl ?_
    refine mj_iload 0 dX6_find_50 rfl ?_
    refine mj_iload_n 4 dX6_find_52 rfl ?_
    refine mj_icmp_ne 59 dX6_find_53 (by decide) (fun c3 => ?_) (fun c3 => ?_)
    · replace hf := mj_neg c3 hf
      refine mj_iload 0 dX6_find_59 rfl ?_
      refine mj_istore_n [(3, .int o2.1), (5, .int o2.1), (0, .ref 55), (1, .ref 32), (2, .int x2), (4, .int x4)] dX6_find_61 rfl (by decide) rfl ?_
      refine mj_iinc 5 [(4, .int (x4 + (1))), (3, .int o2.1), (5, .int o2.1), (0, .ref 55), (1, .ref 32), (2, .int x2)] dX6_find_62 rfl (kz_1 _) (by decide) rfl ?_
      refine mj_goto 34 dX6_find_65 (by decide) ?_
      refine mj_sub [3, 4, 5, 1, 0] [(0, .ref 55), (1, .ref 32), (2, .int x2), (3, .int o2.1), (4, .int (x4 + (1)))] rfl ?_
      obtain rfl := Option.some.inj hf
      have hZ := hc (o2.1, (x4 + (1)), o2.2.1, o2.2.2.1, o2.2.2.2.1, o2.2.2.2.2.1, o2.2.2.2.2.2.1, o2.2.2.2.2.2.2) rfl
      replace hZ := mj_u2p hZ
      replace hZ := mj_u2p hZ
      replace hZ := mj_u2p hZ
      replace hZ := mj_u2p hZ
      replace hZ := mj_u2p hZ
      replace hZ := mj_u2p hZ
      replace hZ := mj_u2p hZ
      exact hZ
    · replace hf := mj_pos c3 hf
      refine mj_sub [1, 2, 3, 4] [(0, .ref 55), (1, .ref 32), (2, .int x2), (3, .int x3)] rfl ?_
      obtain rfl := Option.some.inj hf
      have hZ := hx (.inr (x3, o2.2.1, o2.2.2.1, o2.2.2.2.1, o2.2.2.2.2.1, o2.2.2.2.2.2.1, o2.2.2.2.2.2.2)) rfl
      replace hZ := mj_er hZ
      replace hZ := mj_u2p hZ
      replace hZ := mj_u2p hZ
      replace hZ := mj_u2p hZ
      replace hZ := mj_u2p hZ
      replace hZ := mj_u2p hZ
      replace hZ := mj_u2p hZ
      exact hZ
set_option maxRecDepth 100000 in
set_option maxHeartbeats 4000000 in
theorem jtX6_find_68 {X : mj_XT} {l : Launch} {G : mj_GT} {ad : Nat → Nat} {Qn : Option Value → mj_IT → mj_LT → Prop} (hR : mj_R X l G mj_P0 mj_S0 98 ad 0 0 Qn) (F : Nat) (I : mj_IT) (L : mj_LT) (r32 : Nat → Int32) (r33 : Nat → Int32) (r34 : Nat → Int32) (r37 : Nat → Int32) (r38 : Nat → Int32) (r39 : Nat → Int32) (r56 : Nat → Int32) (r57 : Nat → Int32) (r58 : Nat → Int32) (r59 : Nat → Int32) (r60 : Nat → Int32) (r61 : Nat → Int32) (r62 : Nat → Int32) (r63 : Nat → Int32) (r64 : Nat → Int32) (x2 : Int32) (x3 : Int32) (o : ((Nat → Int32) × (Nat → Int32) × (Nat → Int32) × (Nat → Int32) × (Nat → Int32) × (Nat → Int32) × (Nat → Int32) × (Nat → Int32) × (Nat → Int32))) (hf : jnX6_find_68 F r32 r33 r34 r37 r38 r39 x2 x3 r56 r57 r58 r59 r60 r61 r62 r63 r64 = some o) (hq : (mj_u2 (fun r56 => (mj_u2 (fun r57 => (mj_u2 (fun r58 => (mj_u2 (fun r59 => (mj_u2 (fun r60 => (mj_u2 (fun r61 => (mj_u2 (fun r62 => (mj_u2 (fun r63 r64 => Qn none (mj_rows I [(32, r32), (33, r33), (34, r34), (37, r37), (38, r38), (39, r39), (56, r56), (57, r57), (58, r58), (59, r59), (60, r60), (61, r61), (62, r62), (63, r63), (64, r64)]) L)))))))))))))))) o) : mj_W X G RX6 "find" cX6_find 6 4 none mj_P0 mj_S0 98 ad 0 0 68 [(0, .ref 55), (1, .ref 32), (2, .int x2), (3, .int x3)] [] (mj_rows I [(32, r32), (33, r33), (34, r34), (37, r37), (38, r38), (39, r39), (56, r56), (57, r57), (58, r58), (59, r59), (60, r60), (61, r61), (62, r62), (63, r63), (64, r64)]) L := by
  unfold jnX6_find_68 at hf
  refine mj_aload_n 0 dX6_find_68 rfl ?_
  refine mj_getP p0_55_1 (by decide) fl_X6_15 rfl s0_55 a0_55 dX6_find_69 ?_
  refine mj_iload_n 2 dX6_find_72 rfl ?_
  refine mj_iload_n 3 dX6_find_73 rfl ?_
  obtain ⟨z4, hf⟩ := mj_ck hf
  refine mj_iastr [(32, r32), (33, r33), (34, r34), (37, r37), (38, r38), (39, r39), (56, r56), (57, (upd r57 x2.toNatClampNeg x3)), (58, r58), (59, r59), (60, r60), (61, r61), (62, r62), (63, r63), (64, r64)] rfl s0_57 a0_57 z4 dX6_find_74 ?_
  refine mj_aload_n 0 dX6_find_75 rfl ?_
  refine mj_getP p0_55_3 (by decide) fl_X6_21 rfl s0_55 a0_55 dX6_find_76 ?_
  refine mj_iconst dX6_find_79 kc_iconst_0 ?_
  refine mj_aload_n 0 dX6_find_80 rfl ?_
  refine mj_getP p0_55_2 (by decide) fl_X6_18 rfl s0_55 a0_55 dX6_find_81 ?_
  refine mj_iload_n 2 dX6_find_84 rfl ?_
  refine mj_sipush dX6_find_85 kc_sipush_200 ?_
  refine mj_imul dX6_find_88 ?_
  refine mj_aload_n 1 dX6_find_89 rfl ?_
  refine mj_getIv (v := (r32 2)) rfl fl_X6_52 rfl s0_32 a0_32 dX6_find_90 ?_
  obtain ⟨z5, hf⟩ := mj_ck hf
  refine mj_acopy [(32, r32), (33, r33), (34, r34), (37, r37), (38, r38), (39, r39), (56, r56), (57, (upd r57 x2.toNatClampNeg x3)), (58, (va_cpy r59 r58 (0 : Int32).toNatClampNeg (x2 * (200 : Int32)).toNatClampNeg (r32 2).toNatClampNeg)), (59, r59), (60, r60), (61, r61), (62, r62), (63, r63), (64, r64)] rfl s0_59 a0_59 s0_58 a0_58 z5 ac_X6_55 (by decide) (Nat.le_of_ble_eq_true rfl) dX6_find_93 ?_
  obtain rfl := Option.some.inj hf
  have hZ := hq
  replace hZ := mj_u2p hZ
  replace hZ := mj_u2p hZ
  replace hZ := mj_u2p hZ
  replace hZ := mj_u2p hZ
  replace hZ := mj_u2p hZ
  replace hZ := mj_u2p hZ
  replace hZ := mj_u2p hZ
  replace hZ := mj_u2p hZ
  exact mj_vret hR ⟨Nat.le_refl _, Nat.le_refl _⟩ rfl dX6_find_96 hZ
set_option maxRecDepth 100000 in
set_option maxHeartbeats 4000000 in
theorem mtX6_find {X : mj_XT} {l : Launch} {G : mj_GT} {ad : Nat → Nat} {Qn : Option Value → mj_IT → mj_LT → Prop} (hR : mj_R X l G mj_P0 mj_S0 98 ad 0 0 Qn) (F : Nat) (I : mj_IT) (L : mj_LT) (r32 : Nat → Int32) (r33 : Nat → Int32) (r34 : Nat → Int32) (r37 : Nat → Int32) (r38 : Nat → Int32) (r39 : Nat → Int32) (r56 : Nat → Int32) (r57 : Nat → Int32) (r58 : Nat → Int32) (r59 : Nat → Int32) (r60 : Nat → Int32) (r61 : Nat → Int32) (r62 : Nat → Int32) (r63 : Nat → Int32) (r64 : Nat → Int32) (x2 : Int32) (o : ((Nat → Int32) × (Nat → Int32) × (Nat → Int32) × (Nat → Int32) × (Nat → Int32) × (Nat → Int32) × (Nat → Int32) × (Nat → Int32) × (Nat → Int32))) (hf : fnX6_find F r32 r33 r34 r37 r38 r39 r56 r57 r58 r59 r60 r61 r62 r63 r64 x2 = some o) (hq : (mj_u2 (fun r56 => (mj_u2 (fun r57 => (mj_u2 (fun r58 => (mj_u2 (fun r59 => (mj_u2 (fun r60 => (mj_u2 (fun r61 => (mj_u2 (fun r62 => (mj_u2 (fun r63 r64 => Qn none (mj_rows I [(32, r32), (33, r33), (34, r34), (37, r37), (38, r38), (39, r39), (56, r56), (57, r57), (58, r58), (59, r59), (60, r60), (61, r61), (62, r62), (63, r63), (64, r64)]) L)))))))))))))))) o) : mj_W X G RX6 "find" cX6_find 6 4 none mj_P0 mj_S0 98 ad 0 0 0 [(0, .ref 55), (1, .ref 32), (2, .int x2)] [] (mj_rows I [(32, r32), (33, r33), (34, r34), (37, r37), (38, r38), (39, r39), (56, r56), (57, r57), (58, r58), (59, r59), (60, r60), (61, r61), (62, r62), (63, r63), (64, r64)]) L := by
  unfold fnX6_find at hf
  refine mj_aload_n 0 dX6_find_0 rfl ?_
  refine mj_getP p0_55_0 (by decide) fl_X6_9 rfl s0_55 a0_55 dX6_find_1 ?_
  refine mj_iload_n 2 dX6_find_4 rfl ?_
  obtain ⟨z6, hf⟩ := mj_ck hf
  refine mj_ialdv (x := r56) rfl s0_56 a0_56 z6 dX6_find_5 ?_
  refine mj_aload_n 1 dX6_find_6 rfl ?_
  refine mj_getIv (v := (r32 0)) rfl fl_X6_39 rfl s0_32 a0_32 dX6_find_7 ?_
  refine mj_icmp_ne 14 dX6_find_10 (by decide) (fun c7 => ?_) (fun c7 => ?_)
  · replace hf := mj_neg c7 hf
    refine mj_aload_n 0 dX6_find_14 rfl ?_
    refine mj_getP p0_55_0 (by decide) fl_X6_9 rfl s0_55 a0_55 dX6_find_15 ?_
    refine mj_iload_n 2 dX6_find_18 rfl ?_
    refine mj_aload_n 1 dX6_find_19 rfl ?_
    refine mj_getIv (v := (r32 0)) rfl fl_X6_39 rfl s0_32 a0_32 dX6_find_20 ?_
    obtain ⟨z8, hf⟩ := mj_ck hf
    refine mj_iastr [(32, r32), (33, r33), (34, r34), (37, r37), (38, r38), (39, r39), (56, (upd r56 x2.toNatClampNeg (r32 0))), (57, r57), (58, r58), (59, r59), (60, r60), (61, r61), (62, r62), (63, r63), (64, r64)] rfl s0_56 a0_56 z8 dX6_find_23 ?_
    refine mj_aload_n 0 dX6_find_24 rfl ?_
    refine mj_aload_n 1 dX6_find_25 rfl ?_
    refine mj_iload_n 2 dX6_find_26 rfl ?_
    obtain ⟨o9, ho9, hf⟩ := mj_bd hf
    refine mj_callVd (I2 := (mj_rows I [(32, r32), (33, r33), (34, r34), (37, r37), (38, r38), (39, r39), (56, (upd r56 x2.toNatClampNeg (r32 0))), (57, r57), (58, r58), (59, o9.2.1), (60, r60), (61, o9.2.2), (62, r62), (63, r63), (64, r64)])) (L2 := L) (s1 := [.int o9.1]) (st := []) [.ref 32, .int x2] (cmX6_labelKinds X.2.1 G F x2 _ _ r32 r33 r34 r59 r61 rfl rfl rfl rfl rfl o9 ho9) (mj_rr rfl) rfl cw_X6_45 s0_55 a0_55 (by decide) rfl rfl (Nat.le_of_ble_eq_true rfl) ⟨Nat.zero_le _, Nat.zero_le _⟩ dX6_find_27 rfl ?_
    refine mj_istore_n [(3, .int o9.1), (0, .ref 55), (1, .ref 32), (2, .int x2)] dX6_find_30 rfl (by decide) rfl ?_
    refine mj_iconst dX6_find_31 kc_iconst_0 ?_
    refine mj_istore [(4, .int (0 : Int32)), (3, .int o9.1), (0, .ref 55), (1, .ref 32), (2, .int x2)] dX6_find_32 (by decide) rfl ?_
    refine mj_sub [2, 3, 4, 1, 0] [(0, .ref 55), (1, .ref 32), (2, .int x2), (3, .int o9.1), (4, .int (0 : Int32))] rfl ?_
    obtain ⟨e10, ho10, hf⟩ := mj_bd hf
    refine lpX6_find_34 hR F I L r32 r33 r34 r37 r38 r39 (upd r56 x2.toNatClampNeg (r32 0)) r57 r58 o9.2.1 r60 o9.2.2 r62 r63 r64 x2 F (o9.1, (0 : Int32), o9.2.1, r60, o9.2.2, r62, r63, r64) e10 ho10 ?_
    rcases e10 with e10 | e10
    · replace hf := mj_ele hf
      obtain ⟨x3_10, r59_10, r60_10, r61_10, r62_10, r63_10, r64_10⟩ := e10
      replace hf := mj_u2e hf
      replace hf := mj_u2e hf
      replace hf := mj_u2e hf
      replace hf := mj_u2e hf
      replace hf := mj_u2e hf
      replace hf := mj_u2e hf
      refine mj_elq (?_)
      refine mj_u2q ?_
      refine mj_u2q ?_
      refine mj_u2q ?_
      refine mj_u2q ?_
      refine mj_u2q ?_
      refine mj_u2q ?_
      exact jtX6_find_68 hR F I L r32 r33 r34 r37 r38 r39 (upd r56 x2.toNatClampNeg (r32 0)) r57 r58 r59_10 r60_10 r61_10 r62_10 r63_10 r64_10 x2 x3_10 o hf hq
    · replace hf := mj_ere hf
      obtain ⟨x3_10, r59_10, r60_10, r61_10, r62_10, r63_10, r64_10⟩ := e10
      replace hf := mj_u2e hf
      replace hf := mj_u2e hf
      replace hf := mj_u2e hf
      replace hf := mj_u2e hf
      replace hf := mj_u2e hf
      replace hf := mj_u2e hf
      refine mj_erq (?_)
      refine mj_u2q ?_
      refine mj_u2q ?_
      refine mj_u2q ?_
      refine mj_u2q ?_
      refine mj_u2q ?_
      refine mj_u2q ?_
      refine mj_goto 68 dX6_find_56 (by decide) ?_
      exact jtX6_find_68 hR F I L r32 r33 r34 r37 r38 r39 (upd r56 x2.toNatClampNeg (r32 0)) r57 r58 r59_10 r60_10 r61_10 r62_10 r63_10 r64_10 x2 x3_10 o hf hq
  · replace hf := mj_pos c7 hf
    obtain rfl := Option.some.inj hf
    have hZ := hq
    replace hZ := mj_u2p hZ
    replace hZ := mj_u2p hZ
    replace hZ := mj_u2p hZ
    replace hZ := mj_u2p hZ
    replace hZ := mj_u2p hZ
    replace hZ := mj_u2p hZ
    replace hZ := mj_u2p hZ
    replace hZ := mj_u2p hZ
    exact mj_vret hR ⟨Nat.le_refl _, Nat.le_refl _⟩ rfl dX6_find_13 hZ
set_option maxRecDepth 100000 in
set_option maxHeartbeats 4000000 in
theorem cmX6_find (l : Launch) (G : mj_GT) (F : Nat) (x2 : Int32) (I : mj_IT) (L : mj_LT) (r32 : Nat → Int32) (r33 : Nat → Int32) (r34 : Nat → Int32) (r37 : Nat → Int32) (r38 : Nat → Int32) (r39 : Nat → Int32) (r56 : Nat → Int32) (r57 : Nat → Int32) (r58 : Nat → Int32) (r59 : Nat → Int32) (r60 : Nat → Int32) (r61 : Nat → Int32) (r62 : Nat → Int32) (r63 : Nat → Int32) (r64 : Nat → Int32) (hr32 : I 32 = r32) (hr33 : I 33 = r33) (hr34 : I 34 = r34) (hr37 : I 37 = r37) (hr38 : I 38 = r38) (hr39 : I 39 = r39) (hr56 : I 56 = r56) (hr57 : I 57 = r57) (hr58 : I 58 = r58) (hr59 : I 59 = r59) (hr60 : I 60 = r60) (hr61 : I 61 = r61) (hr62 : I 62 = r62) (hr63 : I 63 = r63) (hr64 : I 64 = r64) (o : ((Nat → Int32) × (Nat → Int32) × (Nat → Int32) × (Nat → Int32) × (Nat → Int32) × (Nat → Int32) × (Nat → Int32) × (Nat → Int32) × (Nat → Int32))) (hf : fnX6_find F r32 r33 r34 r37 r38 r39 r56 r57 r58 r59 r60 r61 r62 r63 r64 x2 = some o) : mj_M l G yX6_find cX6_find 6 4 none 0 0 mj_P0 mj_S0 98 [.ref 55, .ref 32, .int x2] I L (mj_qd none (mj_rows I [(32, r32), (33, r33), (34, r34), (37, r37), (38, r38), (39, r39), (56, o.1), (57, o.2.1), (58, o.2.2.1), (59, o.2.2.2.1), (60, o.2.2.2.2.1), (61, o.2.2.2.2.2.1), (62, o.2.2.2.2.2.2.1), (63, o.2.2.2.2.2.2.2.1), (64, o.2.2.2.2.2.2.2.2)]) L) := by
  refine mj_in RX6 "find" [(0, .ref 55), (1, .ref 32), (2, .int x2)] rfl rfl rfl (by decide) (Nat.le_of_ble_eq_true rfl) (fun X ad hR => ?_)
  refine mj_toI [(32, r32), (33, r33), (34, r34), (37, r37), (38, r38), (39, r39), (56, r56), (57, r57), (58, r58), (59, r59), (60, r60), (61, r61), (62, r62), (63, r63), (64, r64)] (by intro q hq; simp only [List.mem_cons, List.not_mem_nil, or_false] at hq; rcases hq with rfl | rfl | rfl | rfl | rfl | rfl | rfl | rfl | rfl | rfl | rfl | rfl | rfl | rfl | rfl <;> assumption) ?_
  refine mtX6_find hR F I L r32 r33 r34 r37 r38 r39 r56 r57 r58 r59 r60 r61 r62 r63 r64 x2 o hf ?_
  obtain ⟨w0, w1, w2, w3, w4, w5, w6, w7, w8⟩ := o
  refine mj_u2q ?_
  refine mj_u2q ?_
  refine mj_u2q ?_
  refine mj_u2q ?_
  refine mj_u2q ?_
  refine mj_u2q ?_
  refine mj_u2q ?_
  refine mj_u2q ?_
  exact ⟨rfl, rfl, rfl⟩

-- X7_clear
def fnX7_clear (F : Nat) (r18 : Nat → Int32) : Option ((Nat → Int32)) := some (upd r18 0 (0 : Int32))
set_option maxRecDepth 100000 in
set_option maxHeartbeats 4000000 in
theorem mtX7_clear {X : mj_XT} {l : Launch} {G : mj_GT} {ad : Nat → Nat} {Qn : Option Value → mj_IT → mj_LT → Prop} (hR : mj_R X l G mj_P0 mj_S0 98 ad 0 0 Qn) (F : Nat) (I : mj_IT) (L : mj_LT) (r18 : Nat → Int32) (o : ((Nat → Int32))) (hf : fnX7_clear F r18 = some o) (hq : (fun r18 => Qn none (mj_rows I [(18, r18)]) L) o) : mj_W X G RX7 "clear" cX7_clear 1 1 none mj_P0 mj_S0 98 ad 0 0 0 [(0, .ref 18)] [] (mj_rows I [(18, r18)]) L := by
  unfold fnX7_clear at hf
  refine mj_aload_n 0 dX7_clear_0 rfl ?_
  refine mj_iconst dX7_clear_1 kc_iconst_0 ?_
  refine mj_putIr (ci := 5) (j := 0) [(18, (upd r18 0 (0 : Int32)))] rfl ⟨rfl, rfl⟩ fl_X7_42 rfl rfl s0_18 a0_18 dX7_clear_2 ?_
  obtain rfl := Option.some.inj hf
  have hZ := hq
  exact mj_vret hR ⟨Nat.le_refl _, Nat.le_refl _⟩ rfl dX7_clear_5 hZ
set_option maxRecDepth 100000 in
set_option maxHeartbeats 4000000 in
theorem cmX7_clear (l : Launch) (G : mj_GT) (F : Nat) (I : mj_IT) (L : mj_LT) (r18 : Nat → Int32) (hr18 : I 18 = r18) (o : ((Nat → Int32))) (hf : fnX7_clear F r18 = some o) : mj_M l G yX7_clear cX7_clear 1 1 none 0 0 mj_P0 mj_S0 98 [.ref 18] I L (mj_qd none (mj_rows I [(18, o)]) L) := by
  refine mj_in RX7 "clear" [(0, .ref 18)] rfl rfl rfl (by decide) (Nat.le_of_ble_eq_true rfl) (fun X ad hR => ?_)
  refine mj_toI [(18, r18)] (by intro q hq; simp only [List.mem_cons, List.not_mem_nil, or_false] at hq; rcases hq with rfl <;> assumption) ?_
  refine mtX7_clear hR F I L r18 o hf ?_
  exact ⟨rfl, rfl, rfl⟩

-- X7_isFull
def fnX7_isFull (F : Nat) (r18 : Nat → Int32) : Option ((Int32)) := (if (r18 0) < (40 : Int32) then some (0 : Int32) else some (1 : Int32))
set_option maxRecDepth 100000 in
set_option maxHeartbeats 4000000 in
theorem mtX7_isFull {X : mj_XT} {l : Launch} {G : mj_GT} {ad : Nat → Nat} {Qn : Option Value → mj_IT → mj_LT → Prop} (hR : mj_R X l G mj_P0 mj_S0 98 ad 0 0 Qn) (F : Nat) (I : mj_IT) (L : mj_LT) (r18 : Nat → Int32) (o : ((Int32))) (hf : fnX7_isFull F r18 = some o) (hq : (fun ov => Qn (some (.int ov)) (mj_rows I [(18, r18)]) L) o) : mj_W X G RX7 "isFull" cX7_isFull 1 1 (some .boolean) mj_P0 mj_S0 98 ad 0 0 0 [(0, .ref 18)] [] (mj_rows I [(18, r18)]) L := by
  unfold fnX7_isFull at hf
  refine mj_aload_n 0 dX7_isFull_0 rfl ?_
  refine mj_getIv (v := (r18 0)) rfl fl_X7_42 rfl s0_18 a0_18 dX7_isFull_1 ?_
  refine mj_bipush dX7_isFull_4 kc_bipush_40 ?_
  refine mj_icmp_lt 13 dX7_isFull_6 (by decide) (fun c1 => ?_) (fun c1 => ?_)
  · replace hf := mj_pos c1 hf
    refine mj_iconst dX7_isFull_13 kc_iconst_0 ?_
    obtain rfl := Option.some.inj hf
    have hZ := hq
    exact mj_iret hR ⟨Nat.le_refl _, Nat.le_refl _⟩ rfl (by decide) dX7_isFull_14 hZ
  · replace hf := mj_neg c1 hf
    refine mj_iconst dX7_isFull_9 kc_iconst_1 ?_
    refine mj_goto 14 dX7_isFull_10 (by decide) ?_
    obtain rfl := Option.some.inj hf
    have hZ := hq
    exact mj_iret hR ⟨Nat.le_refl _, Nat.le_refl _⟩ rfl (by decide) dX7_isFull_14 hZ
set_option maxRecDepth 100000 in
set_option maxHeartbeats 4000000 in
theorem cmX7_isFull (l : Launch) (G : mj_GT) (F : Nat) (I : mj_IT) (L : mj_LT) (r18 : Nat → Int32) (hr18 : I 18 = r18) (o : ((Int32))) (hf : fnX7_isFull F r18 = some o) : mj_M l G yX7_isFull cX7_isFull 1 1 (some .boolean) 0 0 mj_P0 mj_S0 98 [.ref 18] I L (mj_qd (some (.int o)) (mj_rows I [(18, r18)]) L) := by
  refine mj_in RX7 "isFull" [(0, .ref 18)] rfl rfl rfl (by decide) (Nat.le_of_ble_eq_true rfl) (fun X ad hR => ?_)
  refine mj_toI [(18, r18)] (by intro q hq; simp only [List.mem_cons, List.not_mem_nil, or_false] at hq; rcases hq with rfl <;> assumption) ?_
  refine mtX7_isFull hR F I L r18 o hf ?_
  exact ⟨rfl, rfl, rfl⟩

-- X7_begin
def jnX7_begin_66 (F : Nat) (x1 : Int32) (x2 : Int32) (x5 : Int32) (r18 : Nat → Int32) (r19 : Nat → Int32) (r20 : Nat → Int32) (r21 : Nat → Int32) (r22 : Nat → Int32) (r23 : Nat → Int32) (r24 : Nat → Int32) (r25 : Nat → Int32) (r26 : Nat → Int32) (r27 : Nat → Int32) (r28 : Nat → Int32) : Option ((Int32) × (Nat → Int32) × (Nat → Int32) × (Nat → Int32) × (Nat → Int32) × (Nat → Int32) × (Nat → Int32) × (Nat → Int32) × (Nat → Int32) × (Nat → Int32) × (Nat → Int32) × (Nat → Int32)) := (if mj_ib x5 40 = true then (if mj_ib x5 40 = true then (if mj_ib x5 40 = true then (if mj_ib x5 40 = true then (if mj_ib x5 40 = true then (if mj_ib x5 40 = true then (if mj_ib x5 40 = true then (if mj_ib x5 40 = true then (if mj_ib x5 40 = true then (if mj_ib x5 40 = true then some (x5, r18, (upd r19 x5.toNatClampNeg x1), (upd r20 x5.toNatClampNeg (-1 : Int32)), (upd r21 x5.toNatClampNeg (-1 : Int32)), (upd r22 x5.toNatClampNeg (0 : Int32)), (upd r23 x5.toNatClampNeg (0 : Int32)), (upd r24 x5.toNatClampNeg (0 : Int32)), (upd r25 x5.toNatClampNeg (-1 : Int32)), (upd r26 x5.toNatClampNeg (-1 : Int32)), (upd r27 x5.toNatClampNeg x2), (upd r28 x5.toNatClampNeg (-1 : Int32))) else none) else none) else none) else none) else none) else none) else none) else none) else none) else none)
def jnX7_begin_53 (F : Nat) (x1 : Int32) (x2 : Int32) (x5 : Int32) (r18 : Nat → Int32) (r19 : Nat → Int32) (r20 : Nat → Int32) (r21 : Nat → Int32) (r22 : Nat → Int32) (r23 : Nat → Int32) (r24 : Nat → Int32) (r25 : Nat → Int32) (r26 : Nat → Int32) (r27 : Nat → Int32) (r28 : Nat → Int32) : Option ((Int32) × (Nat → Int32) × (Nat → Int32) × (Nat → Int32) × (Nat → Int32) × (Nat → Int32) × (Nat → Int32) × (Nat → Int32) × (Nat → Int32) × (Nat → Int32) × (Nat → Int32) × (Nat → Int32)) := (if x2 = (-1 : Int32) then jnX7_begin_66 F x1 x2 x5 r18 r19 r20 r21 r22 r23 r24 r25 r26 r27 r28 else (if mj_ib x2 40 = true then jnX7_begin_66 F x1 x2 x5 r18 r19 r20 r21 r22 r23 r24 (upd r25 x2.toNatClampNeg x5) r26 r27 r28 else none))
def fnX7_begin (F : Nat) (r18 : Nat → Int32) (r19 : Nat → Int32) (r20 : Nat → Int32) (r21 : Nat → Int32) (r22 : Nat → Int32) (r23 : Nat → Int32) (r24 : Nat → Int32) (r25 : Nat → Int32) (r26 : Nat → Int32) (r27 : Nat → Int32) (r28 : Nat → Int32) (x1 : Int32) (x2 : Int32) (x3 : Int32) (x4 : Int32) : Option ((Int32) × (Nat → Int32) × (Nat → Int32) × (Nat → Int32) × (Nat → Int32) × (Nat → Int32) × (Nat → Int32) × (Nat → Int32) × (Nat → Int32) × (Nat → Int32) × (Nat → Int32) × (Nat → Int32)) := (if x3 = (-1 : Int32) then (if x2 = (-1 : Int32) then jnX7_begin_53 F x1 x2 (r18 0) (upd r18 0 ((r18 0) + (1 : Int32))) r19 r20 r21 r22 r23 r24 r25 r26 r27 r28 else (if x4 = 0 then jnX7_begin_53 F x1 x2 (r18 0) (upd r18 0 ((r18 0) + (1 : Int32))) r19 r20 r21 r22 r23 r24 r25 r26 r27 r28 else (if mj_ib x2 40 = true then jnX7_begin_66 F x1 x2 (r18 0) (upd r18 0 ((r18 0) + (1 : Int32))) r19 r20 r21 r22 r23 r24 r25 (upd r26 x2.toNatClampNeg (r18 0)) r27 r28 else none))) else (if mj_ib x3 40 = true then jnX7_begin_66 F x1 x2 (r18 0) (upd r18 0 ((r18 0) + (1 : Int32))) r19 r20 r21 r22 r23 r24 r25 r26 r27 (upd r28 x3.toNatClampNeg (r18 0)) else none))
set_option maxRecDepth 100000 in
set_option maxHeartbeats 4000000 in
theorem jtX7_begin_66 {X : mj_XT} {l : Launch} {G : mj_GT} {ad : Nat → Nat} {Qn : Option Value → mj_IT → mj_LT → Prop} (hR : mj_R X l G mj_P0 mj_S0 98 ad 0 0 Qn) (F : Nat) (I : mj_IT) (L : mj_LT) (r18 : Nat → Int32) (r19 : Nat → Int32) (r20 : Nat → Int32) (r21 : Nat → Int32) (r22 : Nat → Int32) (r23 : Nat → Int32) (r24 : Nat → Int32) (r25 : Nat → Int32) (r26 : Nat → Int32) (r27 : Nat → Int32) (r28 : Nat → Int32) (x1 : Int32) (x2 : Int32) (x5 : Int32) (o : ((Int32) × (Nat → Int32) × (Nat → Int32) × (Nat → Int32) × (Nat → Int32) × (Nat → Int32) × (Nat → Int32) × (Nat → Int32) × (Nat → Int32) × (Nat → Int32) × (Nat → Int32) × (Nat → Int32))) (hf : jnX7_begin_66 F x1 x2 x5 r18 r19 r20 r21 r22 r23 r24 r25 r26 r27 r28 = some o) (hq : (mj_u2 (fun ov => (mj_u2 (fun r18 => (mj_u2 (fun r19 => (mj_u2 (fun r20 => (mj_u2 (fun r21 => (mj_u2 (fun r22 => (mj_u2 (fun r23 => (mj_u2 (fun r24 => (mj_u2 (fun r25 => (mj_u2 (fun r26 => (mj_u2 (fun r27 r28 => Qn (some (.int ov)) (mj_rows I [(18, r18), (19, r19), (20, r20), (21, r21), (22, r22), (23, r23), (24, r24), (25, r25), (26, r26), (27, r27), (28, r28)]) L)))))))))))))))))))))) o) : mj_W X G RX7 "begin" cX7_begin 6 1 (some .int) mj_P0 mj_S0 98 ad 0 0 66 [(0, .ref 18), (1, .int x1), (2, .int x2), (5, .int x5)] [] (mj_rows I [(18, r18), (19, r19), (20, r20), (21, r21), (22, r22), (23, r23), (24, r24), (25, r25), (26, r26), (27, r27), (28, r28)]) L := by
  unfold jnX7_begin_66 at hf
  refine mj_aload_n 0 dX7_begin_66 rfl ?_
  refine mj_getP p0_18_1 (by decide) fl_X7_9 rfl s0_18 a0_18 dX7_begin_67 ?_
  refine mj_iload 3 dX7_begin_70 rfl ?_
  refine mj_iload_n 1 dX7_begin_72 rfl ?_
  obtain ⟨z1, hf⟩ := mj_ck hf
  refine mj_iastr [(18, r18), (19, (upd r19 x5.toNatClampNeg x1)), (20, r20), (21, r21), (22, r22), (23, r23), (24, r24), (25, r25), (26, r26), (27, r27), (28, r28)] rfl s0_19 a0_19 z1 dX7_begin_73 ?_
  refine mj_aload_n 0 dX7_begin_74 rfl ?_
  refine mj_getP p0_18_2 (by decide) fl_X7_15 rfl s0_18 a0_18 dX7_begin_75 ?_
  refine mj_iload 3 dX7_begin_78 rfl ?_
  refine mj_iconst dX7_begin_80 kc_iconst_m1 ?_
  obtain ⟨z2, hf⟩ := mj_ck hf
  refine mj_iastr [(18, r18), (19, (upd r19 x5.toNatClampNeg x1)), (20, (upd r20 x5.toNatClampNeg (-1 : Int32))), (21, r21), (22, r22), (23, r23), (24, r24), (25, r25), (26, r26), (27, r27), (28, r28)] rfl s0_20 a0_20 z2 dX7_begin_81 ?_
  refine mj_aload_n 0 dX7_begin_82 rfl ?_
  refine mj_getP p0_18_3 (by decide) fl_X7_18 rfl s0_18 a0_18 dX7_begin_83 ?_
  refine mj_iload 3 dX7_begin_86 rfl ?_
  refine mj_iconst dX7_begin_88 kc_iconst_m1 ?_
  obtain ⟨z3, hf⟩ := mj_ck hf
  refine mj_iastr [(18, r18), (19, (upd r19 x5.toNatClampNeg x1)), (20, (upd r20 x5.toNatClampNeg (-1 : Int32))), (21, (upd r21 x5.toNatClampNeg (-1 : Int32))), (22, r22), (23, r23), (24, r24), (25, r25), (26, r26), (27, r27), (28, r28)] rfl s0_21 a0_21 z3 dX7_begin_89 ?_
  refine mj_aload_n 0 dX7_begin_90 rfl ?_
  refine mj_getP p0_18_4 (by decide) fl_X7_21 rfl s0_18 a0_18 dX7_begin_91 ?_
  refine mj_iload 3 dX7_begin_94 rfl ?_
  refine mj_iconst dX7_begin_96 kc_iconst_0 ?_
  obtain ⟨z4, hf⟩ := mj_ck hf
  refine mj_iastr [(18, r18), (19, (upd r19 x5.toNatClampNeg x1)), (20, (upd r20 x5.toNatClampNeg (-1 : Int32))), (21, (upd r21 x5.toNatClampNeg (-1 : Int32))), (22, (upd r22 x5.toNatClampNeg (0 : Int32))), (23, r23), (24, r24), (25, r25), (26, r26), (27, r27), (28, r28)] rfl s0_22 a0_22 z4 dX7_begin_97 ?_
  refine mj_aload_n 0 dX7_begin_98 rfl ?_
  refine mj_getP p0_18_5 (by decide) fl_X7_24 rfl s0_18 a0_18 dX7_begin_99 ?_
  refine mj_iload 3 dX7_begin_102 rfl ?_
  refine mj_iconst dX7_begin_104 kc_iconst_0 ?_
  obtain ⟨z5, hf⟩ := mj_ck hf
  refine mj_iastr [(18, r18), (19, (upd r19 x5.toNatClampNeg x1)), (20, (upd r20 x5.toNatClampNeg (-1 : Int32))), (21, (upd r21 x5.toNatClampNeg (-1 : Int32))), (22, (upd r22 x5.toNatClampNeg (0 : Int32))), (23, (upd r23 x5.toNatClampNeg (0 : Int32))), (24, r24), (25, r25), (26, r26), (27, r27), (28, r28)] rfl s0_23 a0_23 z5 dX7_begin_105 ?_
  refine mj_aload_n 0 dX7_begin_106 rfl ?_
  refine mj_getP p0_18_6 (by decide) fl_X7_27 rfl s0_18 a0_18 dX7_begin_107 ?_
  refine mj_iload 3 dX7_begin_110 rfl ?_
  refine mj_iconst dX7_begin_112 kc_iconst_0 ?_
  obtain ⟨z6, hf⟩ := mj_ck hf
  refine mj_iastr [(18, r18), (19, (upd r19 x5.toNatClampNeg x1)), (20, (upd r20 x5.toNatClampNeg (-1 : Int32))), (21, (upd r21 x5.toNatClampNeg (-1 : Int32))), (22, (upd r22 x5.toNatClampNeg (0 : Int32))), (23, (upd r23 x5.toNatClampNeg (0 : Int32))), (24, (upd r24 x5.toNatClampNeg (0 : Int32))), (25, r25), (26, r26), (27, r27), (28, r28)] rfl s0_24 a0_24 z6 dX7_begin_113 ?_
  refine mj_aload_n 0 dX7_begin_114 rfl ?_
  refine mj_getP p0_18_7 (by decide) fl_X7_30 rfl s0_18 a0_18 dX7_begin_115 ?_
  refine mj_iload 3 dX7_begin_118 rfl ?_
  refine mj_iconst dX7_begin_120 kc_iconst_m1 ?_
  obtain ⟨z7, hf⟩ := mj_ck hf
  refine mj_iastr [(18, r18), (19, (upd r19 x5.toNatClampNeg x1)), (20, (upd r20 x5.toNatClampNeg (-1 : Int32))), (21, (upd r21 x5.toNatClampNeg (-1 : Int32))), (22, (upd r22 x5.toNatClampNeg (0 : Int32))), (23, (upd r23 x5.toNatClampNeg (0 : Int32))), (24, (upd r24 x5.toNatClampNeg (0 : Int32))), (25, (upd r25 x5.toNatClampNeg (-1 : Int32))), (26, r26), (27, r27), (28, r28)] rfl s0_25 a0_25 z7 dX7_begin_121 ?_
  refine mj_aload_n 0 dX7_begin_122 rfl ?_
  refine mj_getP p0_18_8 (by decide) fl_X7_33 rfl s0_18 a0_18 dX7_begin_123 ?_
  refine mj_iload 3 dX7_begin_126 rfl ?_
  refine mj_iconst dX7_begin_128 kc_iconst_m1 ?_
  obtain ⟨z8, hf⟩ := mj_ck hf
  refine mj_iastr [(18, r18), (19, (upd r19 x5.toNatClampNeg x1)), (20, (upd r20 x5.toNatClampNeg (-1 : Int32))), (21, (upd r21 x5.toNatClampNeg (-1 : Int32))), (22, (upd r22 x5.toNatClampNeg (0 : Int32))), (23, (upd r23 x5.toNatClampNeg (0 : Int32))), (24, (upd r24 x5.toNatClampNeg (0 : Int32))), (25, (upd r25 x5.toNatClampNeg (-1 : Int32))), (26, (upd r26 x5.toNatClampNeg (-1 : Int32))), (27, r27), (28, r28)] rfl s0_26 a0_26 z8 dX7_begin_129 ?_
  refine mj_aload_n 0 dX7_begin_130 rfl ?_
  refine mj_getP p0_18_9 (by decide) fl_X7_36 rfl s0_18 a0_18 dX7_begin_131 ?_
  refine mj_iload 3 dX7_begin_134 rfl ?_
  refine mj_iload_n 2 dX7_begin_136 rfl ?_
  obtain ⟨z9, hf⟩ := mj_ck hf
  refine mj_iastr [(18, r18), (19, (upd r19 x5.toNatClampNeg x1)), (20, (upd r20 x5.toNatClampNeg (-1 : Int32))), (21, (upd r21 x5.toNatClampNeg (-1 : Int32))), (22, (upd r22 x5.toNatClampNeg (0 : Int32))), (23, (upd r23 x5.toNatClampNeg (0 : Int32))), (24, (upd r24 x5.toNatClampNeg (0 : Int32))), (25, (upd r25 x5.toNatClampNeg (-1 : Int32))), (26, (upd r26 x5.toNatClampNeg (-1 : Int32))), (27, (upd r27 x5.toNatClampNeg x2)), (28, r28)] rfl s0_27 a0_27 z9 dX7_begin_137 ?_
  refine mj_aload_n 0 dX7_begin_138 rfl ?_
  refine mj_getP p0_18_10 (by decide) fl_X7_39 rfl s0_18 a0_18 dX7_begin_139 ?_
  refine mj_iload 3 dX7_begin_142 rfl ?_
  refine mj_iconst dX7_begin_144 kc_iconst_m1 ?_
  obtain ⟨z10, hf⟩ := mj_ck hf
  refine mj_iastr [(18, r18), (19, (upd r19 x5.toNatClampNeg x1)), (20, (upd r20 x5.toNatClampNeg (-1 : Int32))), (21, (upd r21 x5.toNatClampNeg (-1 : Int32))), (22, (upd r22 x5.toNatClampNeg (0 : Int32))), (23, (upd r23 x5.toNatClampNeg (0 : Int32))), (24, (upd r24 x5.toNatClampNeg (0 : Int32))), (25, (upd r25 x5.toNatClampNeg (-1 : Int32))), (26, (upd r26 x5.toNatClampNeg (-1 : Int32))), (27, (upd r27 x5.toNatClampNeg x2)), (28, (upd r28 x5.toNatClampNeg (-1 : Int32)))] rfl s0_28 a0_28 z10 dX7_begin_145 ?_
  refine mj_iload 3 dX7_begin_146 rfl ?_
  obtain rfl := Option.some.inj hf
  have hZ := hq
  replace hZ := mj_u2p hZ
  replace hZ := mj_u2p hZ
  replace hZ := mj_u2p hZ
  replace hZ := mj_u2p hZ
  replace hZ := mj_u2p hZ
  replace hZ := mj_u2p hZ
  replace hZ := mj_u2p hZ
  replace hZ := mj_u2p hZ
  replace hZ := mj_u2p hZ
  replace hZ := mj_u2p hZ
  replace hZ := mj_u2p hZ
  exact mj_iret hR ⟨Nat.le_refl _, Nat.le_refl _⟩ rfl rfl dX7_begin_148 hZ
set_option maxRecDepth 100000 in
set_option maxHeartbeats 4000000 in
theorem jtX7_begin_53 {X : mj_XT} {l : Launch} {G : mj_GT} {ad : Nat → Nat} {Qn : Option Value → mj_IT → mj_LT → Prop} (hR : mj_R X l G mj_P0 mj_S0 98 ad 0 0 Qn) (F : Nat) (I : mj_IT) (L : mj_LT) (r18 : Nat → Int32) (r19 : Nat → Int32) (r20 : Nat → Int32) (r21 : Nat → Int32) (r22 : Nat → Int32) (r23 : Nat → Int32) (r24 : Nat → Int32) (r25 : Nat → Int32) (r26 : Nat → Int32) (r27 : Nat → Int32) (r28 : Nat → Int32) (x1 : Int32) (x2 : Int32) (x5 : Int32) (o : ((Int32) × (Nat → Int32) × (Nat → Int32) × (Nat → Int32) × (Nat → Int32) × (Nat → Int32) × (Nat → Int32) × (Nat → Int32) × (Nat → Int32) × (Nat → Int32) × (Nat → Int32) × (Nat → Int32))) (hf : jnX7_begin_53 F x1 x2 x5 r18 r19 r20 r21 r22 r23 r24 r25 r26 r27 r28 = some o) (hq : (mj_u2 (fun ov => (mj_u2 (fun r18 => (mj_u2 (fun r19 => (mj_u2 (fun r20 => (mj_u2 (fun r21 => (mj_u2 (fun r22 => (mj_u2 (fun r23 => (mj_u2 (fun r24 => (mj_u2 (fun r25 => (mj_u2 (fun r26 => (mj_u2 (fun r27 r28 => Qn (some (.int ov)) (mj_rows I [(18, r18), (19, r19), (20, r20), (21, r21), (22, r22), (23, r23), (24, r24), (25, r25), (26, r26), (27, r27), (28, r28)]) L)))))))))))))))))))))) o) : mj_W X G RX7 "begin" cX7_begin 6 1 (some .int) mj_P0 mj_S0 98 ad 0 0 53 [(0, .ref 18), (1, .int x1), (2, .int x2), (5, .int x5)] [] (mj_rows I [(18, r18), (19, r19), (20, r20), (21, r21), (22, r22), (23, r23), (24, r24), (25, r25), (26, r26), (27, r27), (28, r28)]) L := by
  unfold jnX7_begin_53 at hf
  refine mj_iload_n 2 dX7_begin_53 rfl ?_
  refine mj_iconst dX7_begin_54 kc_iconst_m1 ?_
  refine mj_icmp_eq 66 dX7_begin_55 (by decide) (fun c11 => ?_) (fun c11 => ?_)
  · replace hf := mj_pos c11 hf
    exact jtX7_begin_66 hR F I L r18 r19 r20 r21 r22 r23 r24 r25 r26 r27 r28 x1 x2 x5 o hf hq
  · replace hf := mj_neg c11 hf
    refine mj_aload_n 0 dX7_begin_58 rfl ?_
    refine mj_getP p0_18_7 (by decide) fl_X7_30 rfl s0_18 a0_18 dX7_begin_59 ?_
    refine mj_iload_n 2 dX7_begin_62 rfl ?_
    refine mj_iload 3 dX7_begin_63 rfl ?_
    obtain ⟨z12, hf⟩ := mj_ck hf
    refine mj_iastr [(18, r18), (19, r19), (20, r20), (21, r21), (22, r22), (23, r23), (24, r24), (25, (upd r25 x2.toNatClampNeg x5)), (26, r26), (27, r27), (28, r28)] rfl s0_25 a0_25 z12 dX7_begin_65 ?_
    exact jtX7_begin_66 hR F I L r18 r19 r20 r21 r22 r23 r24 (upd r25 x2.toNatClampNeg x5) r26 r27 r28 x1 x2 x5 o hf hq
set_option maxRecDepth 100000 in
set_option maxHeartbeats 4000000 in
theorem mtX7_begin {X : mj_XT} {l : Launch} {G : mj_GT} {ad : Nat → Nat} {Qn : Option Value → mj_IT → mj_LT → Prop} (hR : mj_R X l G mj_P0 mj_S0 98 ad 0 0 Qn) (F : Nat) (I : mj_IT) (L : mj_LT) (r18 : Nat → Int32) (r19 : Nat → Int32) (r20 : Nat → Int32) (r21 : Nat → Int32) (r22 : Nat → Int32) (r23 : Nat → Int32) (r24 : Nat → Int32) (r25 : Nat → Int32) (r26 : Nat → Int32) (r27 : Nat → Int32) (r28 : Nat → Int32) (x1 : Int32) (x2 : Int32) (x3 : Int32) (x4 : Int32) (o : ((Int32) × (Nat → Int32) × (Nat → Int32) × (Nat → Int32) × (Nat → Int32) × (Nat → Int32) × (Nat → Int32) × (Nat → Int32) × (Nat → Int32) × (Nat → Int32) × (Nat → Int32) × (Nat → Int32))) (hf : fnX7_begin F r18 r19 r20 r21 r22 r23 r24 r25 r26 r27 r28 x1 x2 x3 x4 = some o) (hq : (mj_u2 (fun ov => (mj_u2 (fun r18 => (mj_u2 (fun r19 => (mj_u2 (fun r20 => (mj_u2 (fun r21 => (mj_u2 (fun r22 => (mj_u2 (fun r23 => (mj_u2 (fun r24 => (mj_u2 (fun r25 => (mj_u2 (fun r26 => (mj_u2 (fun r27 r28 => Qn (some (.int ov)) (mj_rows I [(18, r18), (19, r19), (20, r20), (21, r21), (22, r22), (23, r23), (24, r24), (25, r25), (26, r26), (27, r27), (28, r28)]) L)))))))))))))))))))))) o) : mj_W X G RX7 "begin" cX7_begin 6 1 (some .int) mj_P0 mj_S0 98 ad 0 0 0 [(0, .ref 18), (1, .int x1), (2, .int x2), (3, .int x3), (4, .int x4)] [] (mj_rows I [(18, r18), (19, r19), (20, r20), (21, r21), (22, r22), (23, r23), (24, r24), (25, r25), (26, r26), (27, r27), (28, r28)]) L := by
  unfold fnX7_begin at hf
  refine mj_aload_n 0 dX7_begin_0 rfl ?_
  refine mj_getIv (v := (r18 0)) rfl fl_X7_42 rfl s0_18 a0_18 dX7_begin_1 ?_
  refine mj_istore [(5, .int (r18 0)), (0, .ref 18), (1, .int x1), (2, .int x2), (3, .int x3), (4, .int x4)] dX7_begin_4 (by decide) rfl ?_
  refine mj_aload_n 1 dX7_begin_6 rfl ?_
  refine mj_dup dX7_begin_7 rfl ?_
  refine mj_getIv (v := (r18 0)) rfl fl_X7_42 rfl s0_18 a0_18 dX7_begin_8 ?_
  refine mj_iconst dX7_begin_11 kc_iconst_1 ?_
  refine mj_iadd dX7_begin_12 ?_
  refine mj_putIr (ci := 5) (j := 0) [(18, (upd r18 0 ((r18 0) + (1 : Int32)))), (19, r19), (20, r20), (21, r21), (22, r22), (23, r23), (24, r24), (25, r25), (26, r26), (27, r27), (28, r28)] rfl ⟨rfl, rfl⟩ fl_X7_42 rfl rfl s0_18 a0_18 dX7_begin_13 ?_
  refine mj_iload_n 4 dX7_begin_16 rfl ?_
  refine mj_iconst dX7_begin_17 kc_iconst_m1 ?_
  refine mj_icmp_eq 32 dX7_begin_18 (by decide) (fun c13 => ?_) (fun c13 => ?_)
  · replace hf := mj_pos c13 hf
    refine mj_iload_n 3 dX7_begin_32 rfl ?_
    refine mj_iconst dX7_begin_33 kc_iconst_m1 ?_
    refine mj_icmp_eq 53 dX7_begin_34 (by decide) (fun c14 => ?_) (fun c14 => ?_)
    · replace hf := mj_pos c14 hf
      refine mj_sub [1, 2, 3, 0] [(0, .ref 18), (1, .int x1), (2, .int x2), (5, .int (r18 0))] rfl ?_
      exact jtX7_begin_53 hR F I L (upd r18 0 ((r18 0) + (1 : Int32))) r19 r20 r21 r22 r23 r24 r25 r26 r27 r28 x1 x2 (r18 0) o hf hq
    · replace hf := mj_neg c14 hf
      refine mj_iload 5 dX7_begin_37 rfl ?_
      refine mj_if_eq 53 dX7_begin_39 (by decide) (fun c15 => ?_) (fun c15 => ?_)
      · replace hf := mj_pos c15 hf
        refine mj_sub [1, 2, 3, 0] [(0, .ref 18), (1, .int x1), (2, .int x2), (5, .int (r18 0))] rfl ?_
        exact jtX7_begin_53 hR F I L (upd r18 0 ((r18 0) + (1 : Int32))) r19 r20 r21 r22 r23 r24 r25 r26 r27 r28 x1 x2 (r18 0) o hf hq
      · replace hf := mj_neg c15 hf
        refine mj_aload_n 1 dX7_begin_42 rfl ?_
        refine mj_getP p0_18_8 (by decide) fl_X7_33 rfl s0_18 a0_18 dX7_begin_43 ?_
        refine mj_iload_n 3 dX7_begin_46 rfl ?_
        refine mj_iload 0 dX7_begin_47 rfl ?_
        obtain ⟨z16, hf⟩ := mj_ck hf
        refine mj_iastr [(18, (upd r18 0 ((r18 0) + (1 : Int32)))), (19, r19), (20, r20), (21, r21), (22, r22), (23, r23), (24, r24), (25, r25), (26, (upd r26 x2.toNatClampNeg (r18 0))), (27, r27), (28, r28)] rfl s0_26 a0_26 z16 dX7_begin_49 ?_
        refine mj_goto 66 dX7_begin_50 (by decide) ?_
        refine mj_sub [1, 2, 3, 0] [(0, .ref 18), (1, .int x1), (2, .int x2), (5, .int (r18 0))] rfl ?_
        exact jtX7_begin_66 hR F I L (upd r18 0 ((r18 0) + (1 : Int32))) r19 r20 r21 r22 r23 r24 r25 (upd r26 x2.toNatClampNeg (r18 0)) r27 r28 x1 x2 (r18 0) o hf hq
  · replace hf := mj_neg c13 hf
    refine mj_aload_n 1 dX7_begin_21 rfl ?_
    refine mj_getP p0_18_10 (by decide) fl_X7_39 rfl s0_18 a0_18 dX7_begin_22 ?_
    refine mj_iload_n 4 dX7_begin_25 rfl ?_
    refine mj_iload 0 dX7_begin_26 rfl ?_
    obtain ⟨z17, hf⟩ := mj_ck hf
    refine mj_iastr [(18, (upd r18 0 ((r18 0) + (1 : Int32)))), (19, r19), (20, r20), (21, r21), (22, r22), (23, r23), (24, r24), (25, r25), (26, r26), (27, r27), (28, (upd r28 x3.toNatClampNeg (r18 0)))] rfl s0_28 a0_28 z17 dX7_begin_28 ?_
    refine mj_goto 66 dX7_begin_29 (by decide) ?_
    refine mj_sub [1, 2, 3, 0] [(0, .ref 18), (1, .int x1), (2, .int x2), (5, .int (r18 0))] rfl ?_
    exact jtX7_begin_66 hR F I L (upd r18 0 ((r18 0) + (1 : Int32))) r19 r20 r21 r22 r23 r24 r25 r26 r27 (upd r28 x3.toNatClampNeg (r18 0)) x1 x2 (r18 0) o hf hq
set_option maxRecDepth 100000 in
set_option maxHeartbeats 4000000 in
theorem cmX7_begin (l : Launch) (G : mj_GT) (F : Nat) (x1 : Int32) (x2 : Int32) (x3 : Int32) (x4 : Int32) (I : mj_IT) (L : mj_LT) (r18 : Nat → Int32) (r19 : Nat → Int32) (r20 : Nat → Int32) (r21 : Nat → Int32) (r22 : Nat → Int32) (r23 : Nat → Int32) (r24 : Nat → Int32) (r25 : Nat → Int32) (r26 : Nat → Int32) (r27 : Nat → Int32) (r28 : Nat → Int32) (hr18 : I 18 = r18) (hr19 : I 19 = r19) (hr20 : I 20 = r20) (hr21 : I 21 = r21) (hr22 : I 22 = r22) (hr23 : I 23 = r23) (hr24 : I 24 = r24) (hr25 : I 25 = r25) (hr26 : I 26 = r26) (hr27 : I 27 = r27) (hr28 : I 28 = r28) (o : ((Int32) × (Nat → Int32) × (Nat → Int32) × (Nat → Int32) × (Nat → Int32) × (Nat → Int32) × (Nat → Int32) × (Nat → Int32) × (Nat → Int32) × (Nat → Int32) × (Nat → Int32) × (Nat → Int32))) (hf : fnX7_begin F r18 r19 r20 r21 r22 r23 r24 r25 r26 r27 r28 x1 x2 x3 x4 = some o) : mj_M l G yX7_begin cX7_begin 6 1 (some .int) 0 0 mj_P0 mj_S0 98 [.ref 18, .int x1, .int x2, .int x3, .int x4] I L (mj_qd (some (.int o.1)) (mj_rows I [(18, o.2.1), (19, o.2.2.1), (20, o.2.2.2.1), (21, o.2.2.2.2.1), (22, o.2.2.2.2.2.1), (23, o.2.2.2.2.2.2.1), (24, o.2.2.2.2.2.2.2.1), (25, o.2.2.2.2.2.2.2.2.1), (26, o.2.2.2.2.2.2.2.2.2.1), (27, o.2.2.2.2.2.2.2.2.2.2.1), (28, o.2.2.2.2.2.2.2.2.2.2.2)]) L) := by
  refine mj_in RX7 "begin" [(0, .ref 18), (1, .int x1), (2, .int x2), (3, .int x3), (4, .int x4)] rfl rfl rfl (by decide) (Nat.le_of_ble_eq_true rfl) (fun X ad hR => ?_)
  refine mj_toI [(18, r18), (19, r19), (20, r20), (21, r21), (22, r22), (23, r23), (24, r24), (25, r25), (26, r26), (27, r27), (28, r28)] (by intro q hq; simp only [List.mem_cons, List.not_mem_nil, or_false] at hq; rcases hq with rfl | rfl | rfl | rfl | rfl | rfl | rfl | rfl | rfl | rfl | rfl <;> assumption) ?_
  refine mtX7_begin hR F I L r18 r19 r20 r21 r22 r23 r24 r25 r26 r27 r28 x1 x2 x3 x4 o hf ?_
  obtain ⟨w0, w1, w2, w3, w4, w5, w6, w7, w8, w9, w10, w11⟩ := o
  refine mj_u2q ?_
  refine mj_u2q ?_
  refine mj_u2q ?_
  refine mj_u2q ?_
  refine mj_u2q ?_
  refine mj_u2q ?_
  refine mj_u2q ?_
  refine mj_u2q ?_
  refine mj_u2q ?_
  refine mj_u2q ?_
  refine mj_u2q ?_
  exact ⟨rfl, rfl, rfl⟩

-- X7_sum
def fnX7_sum (F : Nat) (x0 : Int32) (x1 : Int32) (x2 : Int32) : Option ((Int32)) := some ((x0 + ((16 : Int32) * x2)) + ((256 : Int32) * x1))
set_option maxRecDepth 100000 in
set_option maxHeartbeats 4000000 in
theorem mtX7_sum {X : mj_XT} {l : Launch} {G : mj_GT} {ad : Nat → Nat} {Qn : Option Value → mj_IT → mj_LT → Prop} (hR : mj_R X l G mj_P0 mj_S0 98 ad 0 0 Qn) (F : Nat) (I : mj_IT) (L : mj_LT) (x0 : Int32) (x1 : Int32) (x2 : Int32) (o : ((Int32))) (hf : fnX7_sum F x0 x1 x2 = some o) (hq : (fun ov => Qn (some (.int ov)) I L) o) : mj_W X G RX7 "sum" cX7_sum 3 1 (some .int) mj_P0 mj_S0 98 ad 0 0 0 [(0, .int x0), (1, .int x1), (2, .int x2)] [] I L := by
  unfold fnX7_sum at hf
  refine mj_iload_n 0 dX7_sum_0 rfl ?_
  refine mj_bipush dX7_sum_1 kc_bipush_16 ?_
  refine mj_iload_n 2 dX7_sum_3 rfl ?_
  refine mj_imul dX7_sum_4 ?_
  refine mj_iadd dX7_sum_5 ?_
  refine mj_sipush dX7_sum_6 kc_sipush_256 ?_
  refine mj_iload_n 1 dX7_sum_9 rfl ?_
  refine mj_imul dX7_sum_10 ?_
  refine mj_iadd dX7_sum_11 ?_
  obtain rfl := Option.some.inj hf
  have hZ := hq
  exact mj_iret hR ⟨Nat.le_refl _, Nat.le_refl _⟩ rfl rfl dX7_sum_12 hZ
set_option maxRecDepth 100000 in
set_option maxHeartbeats 4000000 in
theorem cmX7_sum (l : Launch) (G : mj_GT) (F : Nat) (x0 : Int32) (x1 : Int32) (x2 : Int32) (I : mj_IT) (L : mj_LT) (o : ((Int32))) (hf : fnX7_sum F x0 x1 x2 = some o) : mj_M l G yX7_sum cX7_sum 3 1 (some .int) 0 0 mj_P0 mj_S0 98 [.int x0, .int x1, .int x2] I L (mj_qd (some (.int o)) I L) := by
  refine mj_in RX7 "sum" [(0, .int x0), (1, .int x1), (2, .int x2)] rfl rfl rfl (by decide) (Nat.le_of_ble_eq_true rfl) (fun X ad hR => ?_)
  refine mtX7_sum hR F I L x0 x1 x2 o hf ?_
  exact ⟨rfl, rfl, rfl⟩

-- X7_placeBehind
def fnX7_placeBehind (F : Nat) (r18 : Nat → Int32) (r19 : Nat → Int32) (r27 : Nat → Int32) (r28 : Nat → Int32) (x1 : Int32) : Option ((Int32)) := (if mj_ib x1 40 = true then (if (r28 x1.toNatClampNeg) = (-1 : Int32) then (if mj_ib x1 40 = true then (if (r27 x1.toNatClampNeg) = (-1 : Int32) then some (r18 0) else (if mj_ib (r27 x1.toNatClampNeg) 40 = true then (if (r19 ((r27 x1.toNatClampNeg).toNatClampNeg)) = (4 : Int32) then some (r27 x1.toNatClampNeg) else (if mj_ib (r27 x1.toNatClampNeg) 40 = true then some (r28 ((r27 x1.toNatClampNeg).toNatClampNeg)) else none)) else none)) else none) else (if mj_ib x1 40 = true then some (r28 x1.toNatClampNeg) else none)) else none)
set_option maxRecDepth 100000 in
set_option maxHeartbeats 4000000 in
theorem mtX7_placeBehind {X : mj_XT} {l : Launch} {G : mj_GT} {ad : Nat → Nat} {Qn : Option Value → mj_IT → mj_LT → Prop} (hR : mj_R X l G mj_P0 mj_S0 98 ad 0 0 Qn) (F : Nat) (I : mj_IT) (L : mj_LT) (r18 : Nat → Int32) (r19 : Nat → Int32) (r27 : Nat → Int32) (r28 : Nat → Int32) (x1 : Int32) (o : ((Int32))) (hf : fnX7_placeBehind F r18 r19 r27 r28 x1 = some o) (hq : (fun ov => Qn (some (.int ov)) (mj_rows I [(18, r18), (19, r19), (27, r27), (28, r28)]) L) o) : mj_W X G RX7 "placeBehind" cX7_placeBehind 3 1 (some .int) mj_P0 mj_S0 98 ad 0 0 0 [(0, .ref 18), (1, .int x1)] [] (mj_rows I [(18, r18), (19, r19), (27, r27), (28, r28)]) L := by
  unfold fnX7_placeBehind at hf
  refine mj_aload_n 0 dX7_placeBehind_0 rfl ?_
  refine mj_getP p0_18_10 (by decide) fl_X7_39 rfl s0_18 a0_18 dX7_placeBehind_1 ?_
  refine mj_iload_n 1 dX7_placeBehind_4 rfl ?_
  obtain ⟨z1, hf⟩ := mj_ck hf
  refine mj_ialdv (x := r28) rfl s0_28 a0_28 z1 dX7_placeBehind_5 ?_
  refine mj_iconst dX7_placeBehind_6 kc_iconst_m1 ?_
  refine mj_icmp_eq 17 dX7_placeBehind_7 (by decide) (fun c2 => ?_) (fun c2 => ?_)
  · replace hf := mj_pos c2 hf
    refine mj_aload_n 0 dX7_placeBehind_17 rfl ?_
    refine mj_getP p0_18_9 (by decide) fl_X7_36 rfl s0_18 a0_18 dX7_placeBehind_18 ?_
    refine mj_iload_n 1 dX7_placeBehind_21 rfl ?_
    obtain ⟨z3, hf⟩ := mj_ck hf
    refine mj_ialdv (x := r27) rfl s0_27 a0_27 z3 dX7_placeBehind_22 ?_
    refine mj_istore_n [(2, .int (r27 x1.toNatClampNeg)), (0, .ref 18), (1, .int x1)] dX7_placeBehind_23 rfl (by decide) rfl ?_
    refine mj_iload_n 0 dX7_placeBehind_24 rfl ?_
    refine mj_iconst dX7_placeBehind_25 kc_iconst_m1 ?_
    refine mj_icmp_ne 34 dX7_placeBehind_26 (by decide) (fun c4 => ?_) (fun c4 => ?_)
    · replace hf := mj_neg c4 hf
      refine mj_aload_n 1 dX7_placeBehind_34 rfl ?_
      refine mj_getP p0_18_1 (by decide) fl_X7_9 rfl s0_18 a0_18 dX7_placeBehind_35 ?_
      refine mj_iload_n 0 dX7_placeBehind_38 rfl ?_
      obtain ⟨z5, hf⟩ := mj_ck hf
      refine mj_ialdv (x := r19) rfl s0_19 a0_19 z5 dX7_placeBehind_39 ?_
      refine mj_iconst dX7_placeBehind_40 kc_iconst_4 ?_
      refine mj_icmp_ne 48 dX7_placeBehind_41 (by decide) (fun c6 => ?_) (fun c6 => ?_)
      · replace hf := mj_neg c6 hf
        refine mj_aload_n 1 dX7_placeBehind_48 rfl ?_
        refine mj_getP p0_18_10 (by decide) fl_X7_39 rfl s0_18 a0_18 dX7_placeBehind_49 ?_
        refine mj_iload_n 0 dX7_placeBehind_52 rfl ?_
        obtain ⟨z7, hf⟩ := mj_ck hf
        refine mj_ialdv (x := r28) rfl s0_28 a0_28 z7 dX7_placeBehind_53 ?_
        obtain rfl := Option.some.inj hf
        have hZ := hq
        exact mj_iret hR ⟨Nat.le_refl _, Nat.le_refl _⟩ rfl rfl dX7_placeBehind_54 hZ
      · replace hf := mj_pos c6 hf
        refine mj_iload_n 0 dX7_placeBehind_44 rfl ?_
        refine mj_goto 54 dX7_placeBehind_45 (by decide) ?_
        obtain rfl := Option.some.inj hf
        have hZ := hq
        exact mj_iret hR ⟨Nat.le_refl _, Nat.le_refl _⟩ rfl rfl dX7_placeBehind_54 hZ
    · replace hf := mj_pos c4 hf
      refine mj_aload_n 1 dX7_placeBehind_29 rfl ?_
      refine mj_getIv (v := (r18 0)) rfl fl_X7_42 rfl s0_18 a0_18 dX7_placeBehind_30 ?_
      obtain rfl := Option.some.inj hf
      have hZ := hq
      exact mj_iret hR ⟨Nat.le_refl _, Nat.le_refl _⟩ rfl rfl dX7_placeBehind_33 hZ
  · replace hf := mj_neg c2 hf
    refine mj_aload_n 0 dX7_placeBehind_10 rfl ?_
    refine mj_getP p0_18_10 (by decide) fl_X7_39 rfl s0_18 a0_18 dX7_placeBehind_11 ?_
    refine mj_iload_n 1 dX7_placeBehind_14 rfl ?_
    obtain ⟨z8, hf⟩ := mj_ck hf
    refine mj_ialdv (x := r28) rfl s0_28 a0_28 z8 dX7_placeBehind_15 ?_
    obtain rfl := Option.some.inj hf
    have hZ := hq
    exact mj_iret hR ⟨Nat.le_refl _, Nat.le_refl _⟩ rfl rfl dX7_placeBehind_16 hZ
set_option maxRecDepth 100000 in
set_option maxHeartbeats 4000000 in
theorem cmX7_placeBehind (l : Launch) (G : mj_GT) (F : Nat) (x1 : Int32) (I : mj_IT) (L : mj_LT) (r18 : Nat → Int32) (r19 : Nat → Int32) (r27 : Nat → Int32) (r28 : Nat → Int32) (hr18 : I 18 = r18) (hr19 : I 19 = r19) (hr27 : I 27 = r27) (hr28 : I 28 = r28) (o : ((Int32))) (hf : fnX7_placeBehind F r18 r19 r27 r28 x1 = some o) : mj_M l G yX7_placeBehind cX7_placeBehind 3 1 (some .int) 0 0 mj_P0 mj_S0 98 [.ref 18, .int x1] I L (mj_qd (some (.int o)) (mj_rows I [(18, r18), (19, r19), (27, r27), (28, r28)]) L) := by
  refine mj_in RX7 "placeBehind" [(0, .ref 18), (1, .int x1)] rfl rfl rfl (by decide) (Nat.le_of_ble_eq_true rfl) (fun X ad hR => ?_)
  refine mj_toI [(18, r18), (19, r19), (27, r27), (28, r28)] (by intro q hq; simp only [List.mem_cons, List.not_mem_nil, or_false] at hq; rcases hq with rfl | rfl | rfl | rfl <;> assumption) ?_
  refine mtX7_placeBehind hR F I L r18 r19 r27 r28 x1 o hf ?_
  exact ⟨rfl, rfl, rfl⟩

