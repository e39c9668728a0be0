-- X6_flowAlike
def jnX6_flowAlike_68 (F : Nat) (r37 : Nat → Int32) (r38 : Nat → Int32) (r59 : Nat → Int32) (x2 : Int32) (x3 : Int32) (x5 : Int32) (t0 : Int32) (r64 : Nat → Int32) : Option (((Int32) × (Int32) × (Nat → Int32)) ⊕ ((Int32) × (Nat → Int32))) := (if mj_ib x5 2000 = true then (if mj_ib (r38 x5.toNatClampNeg) 200 = true then (if mj_ib (r59 ((r38 x5.toNatClampNeg).toNatClampNeg)) 200 = true then some (.inl (t0, (x5 + (1)), (upd r64 ((r59 ((r38 x5.toNatClampNeg).toNatClampNeg)).toNatClampNeg) (0 : Int32)))) else none) else none) else none)
def jnX6_flowAlike_67 (F : Nat) (r37 : Nat → Int32) (r38 : Nat → Int32) (r59 : Nat → Int32) (x2 : Int32) (x3 : Int32) (x5 : Int32) (r64 : Nat → Int32) : Option (((Int32) × (Int32) × (Nat → Int32)) ⊕ ((Int32) × (Nat → Int32))) := jnX6_flowAlike_68 F r37 r38 r59 x2 x3 x5 (0 : Int32) r64
def bdX6_flowAlike_25 (F : Nat) (r37 : Nat → Int32) (r38 : Nat → Int32) (r59 : Nat → Int32) (x2 : Int32) (x3 : Int32) (x4 : Int32) (x5 : Int32) (r64 : Nat → Int32) : Option (((Int32) × (Int32) × (Nat → Int32)) ⊕ ((Int32) × (Nat → Int32))) := (if mj_ib (x2 + (1 : Int32)) 201 = true then (if (r37 ((x2 + (1 : Int32)).toNatClampNeg)) ≤ x5 then some (.inr (x4, r64)) else (if x4 = 0 then jnX6_flowAlike_67 F r37 r38 r59 x2 x3 x5 r64 else (if mj_ib x5 2000 = true then (if mj_ib (r38 x5.toNatClampNeg) 200 = true then (if mj_ib (r59 ((r38 x5.toNatClampNeg).toNatClampNeg)) 200 = true then (if (r64 ((r59 ((r38 x5.toNatClampNeg).toNatClampNeg)).toNatClampNeg)) = 0 then jnX6_flowAlike_68 F r37 r38 r59 x2 x3 x5 (1 : Int32) r64 else jnX6_flowAlike_67 F r37 r38 r59 x2 x3 x5 r64) else none) else none) else none))) else none)
def jnX6_flowAlike_145 (F : Nat) (r37 : Nat → Int32) (r38 : Nat → Int32) (r59 : Nat → Int32) (x3 : Int32) (x5 : Int32) (t0 : Int32) (r64 : Nat → Int32) : Option (((Int32) × (Int32) × (Nat → Int32)) ⊕ ((Int32) × (Nat → Int32))) := (if mj_ib x5 2000 = true then (if mj_ib (r38 x5.toNatClampNeg) 200 = true then (if mj_ib (r59 ((r38 x5.toNatClampNeg).toNatClampNeg)) 200 = true then some (.inl (t0, (x5 + (1)), (upd r64 ((r59 ((r38 x5.toNatClampNeg).toNatClampNeg)).toNatClampNeg) (0 : Int32)))) else none) else none) else none)
def jnX6_flowAlike_144 (F : Nat) (r37 : Nat → Int32) (r38 : Nat → Int32) (r59 : Nat → Int32) (x3 : Int32) (x5 : Int32) (r64 : Nat → Int32) : Option (((Int32) × (Int32) × (Nat → Int32)) ⊕ ((Int32) × (Nat → Int32))) := jnX6_flowAlike_145 F r37 r38 r59 x3 x5 (0 : Int32) r64
def bdX6_flowAlike_102 (F : Nat) (r37 : Nat → Int32) (r38 : Nat → Int32) (r59 : Nat → Int32) (x3 : Int32) (x4 : Int32) (x5 : Int32) (r64 : Nat → Int32) : Option (((Int32) × (Int32) × (Nat → Int32)) ⊕ ((Int32) × (Nat → Int32))) := (if mj_ib (x3 + (1 : Int32)) 201 = true then (if (r37 ((x3 + (1 : Int32)).toNatClampNeg)) ≤ x5 then some (.inr (x4, r64)) else (if x4 = 0 then jnX6_flowAlike_144 F r37 r38 r59 x3 x5 r64 else (if mj_ib x5 2000 = true then (if mj_ib (r38 x5.toNatClampNeg) 200 = true then (if mj_ib (r59 ((r38 x5.toNatClampNeg).toNatClampNeg)) 200 = true then (if (r64 ((r59 ((r38 x5.toNatClampNeg).toNatClampNeg)).toNatClampNeg)) = 0 then jnX6_flowAlike_145 F r37 r38 r59 x3 x5 (1 : Int32) r64 else jnX6_flowAlike_144 F r37 r38 r59 x3 x5 r64) else none) else none) else none))) else none)
def fnX6_flowAlike (F : Nat) (r37 : Nat → Int32) (r38 : Nat → Int32) (r39 : Nat → Int32) (r59 : Nat → Int32) (r64 : Nat → Int32) (x2 : Int32) (x3 : Int32) : Option ((Int32) × (Nat → Int32)) := (fnX6_addFlow F r37 r38 r39 r59 r64 x2 (1 : Int32)).bind (fun o21 => (fnX6_addFlow F r37 r38 r39 r59 o21 x3 (-1 : Int32)).bind (fun o22 => (if mj_ib x2 201 = true then (mj_it (mj_u2 (fun z0 => (mj_u2 (fun z1 z2 => bdX6_flowAlike_25 F r37 r38 r59 x2 x3 z0 z1 z2)))) F ((1 : Int32), (r37 x2.toNatClampNeg), o22)).bind (mj_u2 (fun x4_24 r64_24 => (if mj_ib x3 201 = true then (mj_it (mj_u2 (fun z0 => (mj_u2 (fun z1 z2 => bdX6_flowAlike_102 F r37 r38 r59 x3 z0 z1 z2)))) F (x4_24, (r37 x3.toNatClampNeg), r64_24)).bind (mj_u2 (fun x4_26 r64_26 => (if mj_bb x4_26 = true then some (x4_26, r64_26) else none))) else none))) else none)))
set_option maxRecDepth 100000 in
set_option maxHeartbeats 4000000 in
theorem jtX6_flowAlike_68 {X : mj_XT} {l : Launch} {G : mj_GT} {ad : Nat → Nat} {Qn : Option Value → mj_IT → mj_LT → Prop} (hR : mj_R X l G mj_P0 mj_S0 98 ad 0 0 Qn) (F : Nat) (I : mj_IT) (L : mj_LT) (r37 : Nat → Int32) (r38 : Nat → Int32) (r39 : Nat → Int32) (r59 : Nat → Int32) (r64 : Nat → Int32) (x2 : Int32) (x3 : Int32) (x5 : Int32) (t0 : Int32) (o : (((Int32) × (Int32) × (Nat → Int32)) ⊕ ((Int32) × (Nat → Int32)))) (hf : jnX6_flowAlike_68 F r37 r38 r59 x2 x3 x5 t0 r64 = some o) (hc : ∀ s2 : ((Int32) × (Int32) × (Nat → Int32)), o = .inl s2 → (mj_u2 (fun x4 => (mj_u2 (fun x5 r64 => mj_W X G RX6 "flowAlike" cX6_flowAlike 6 2 (some .boolean) mj_P0 mj_S0 98 ad 0 0 25 [(0, .ref 55), (1, .ref 32), (2, .int x2), (3, .int x3), (4, .int x4), (5, .int x5)] [] (mj_rows I [(37, r37), (38, r38), (39, r39), (59, r59), (64, r64)]) L)))) s2) (hx : ∀ e2 : ((Int32) × (Nat → Int32)), o = .inr e2 → (mj_u2 (fun x4 r64 => mj_W X G RX6 "flowAlike" cX6_flowAlike 6 2 (some .boolean) mj_P0 mj_S0 98 ad 0 0 94 [(0, .ref 55), (1, .ref 32), (3, .int x3), (4, .int x4)] [] (mj_rows I [(37, r37), (38, r38), (39, r39), (59, r59), (64, r64)]) L)) e2) : mj_W X G RX6 "flowAlike" cX6_flowAlike 6 2 (some .boolean) mj_P0 mj_S0 98 ad 0 0 68 [(0, .ref 55), (1, .ref 32), (2, .int x2), (3, .int x3), (5, .int x5)] [.int t0] (mj_rows I [(37, r37), (38, r38), (39, r39), (59, r59), (64, r64)]) L := by
  unfold jnX6_flowAlike_68 at hf
  refine mj_istore [(4, .int t0), (0, .ref 55), (1, .ref 32), (2, .int x2), (3, .int x3), (5, .int x5)] dX6_flowAlike_68 (by decide) rfl ?_
  refine mj_aload_n 1 dX6_flowAlike_70 rfl ?_
  refine mj_getP p0_55_8 (by decide) fl_X6_36 rfl s0_55 a0_55 dX6_flowAlike_71 ?_
  refine mj_aload_n 1 dX6_flowAlike_74 rfl ?_
  refine mj_getP p0_55_3 (by decide) fl_X6_21 rfl s0_55 a0_55 dX6_flowAlike_75 ?_
  refine mj_aload_n 2 dX6_flowAlike_78 rfl ?_
  refine mj_getP p0_32_13 (by decide) fl_X6_94 rfl s0_32 a0_32 dX6_flowAlike_79 ?_
  refine mj_iload 5 dX6_flowAlike_82 rfl ?_
  obtain ⟨z1, hf⟩ := mj_ck hf
  refine mj_ialdv (x := r38) rfl s0_38 a0_38 z1 dX6_flowAlike_84 ?_
  obtain ⟨z2, hf⟩ := mj_ck hf
  refine mj_ialdv (x := r59) rfl s0_59 a0_59 z2 dX6_flowAlike_85 ?_
  refine mj_iconst dX6_flowAlike_86 kc_iconst_0 ?_
  obtain ⟨z3, hf⟩ := mj_ck hf
  refine mj_iastr [(37, r37), (38, r38), (39, r39), (59, r59), (64, (upd r64 ((r59 ((r38 x5.toNatClampNeg).toNatClampNeg)).toNatClampNeg) (0 : Int32)))] rfl s0_64 a0_64 z3 dX6_flowAlike_87 ?_
  refine mj_iinc 5 [(5, .int (x5 + (1))), (4, .int t0), (0, .ref 55), (1, .ref 32), (2, .int x2), (3, .int x3)] dX6_flowAlike_88 rfl (kz_1 _) (by decide) rfl ?_
  refine mj_goto 25 dX6_flowAlike_91 (by decide) ?_
  refine mj_sub [2, 3, 4, 5, 1, 0] [(0, .ref 55), (1, .ref 32), (2, .int x2), (3, .int x3), (4, .int t0), (5, .int (x5 + (1)))] rfl ?_
  obtain rfl := Option.some.inj hf
  have hZ := hc (t0, (x5 + (1)), (upd r64 ((r59 ((r38 x5.toNatClampNeg).toNatClampNeg)).toNatClampNeg) (0 : Int32))) rfl
  replace hZ := mj_u2p hZ
  replace hZ := mj_u2p hZ
  exact hZ
set_option maxRecDepth 100000 in
set_option maxHeartbeats 4000000 in
theorem jtX6_flowAlike_67 {X : mj_XT} {l : Launch} {G : mj_GT} {ad : Nat → Nat} {Qn : Option Value → mj_IT → mj_LT → Prop} (hR : mj_R X l G mj_P0 mj_S0 98 ad 0 0 Qn) (F : Nat) (I : mj_IT) (L : mj_LT) (r37 : Nat → Int32) (r38 : Nat → Int32) (r39 : Nat → Int32) (r59 : Nat → Int32) (r64 : Nat → Int32) (x2 : Int32) (x3 : Int32) (x5 : Int32) (o : (((Int32) × (Int32) × (Nat → Int32)) ⊕ ((Int32) × (Nat → Int32)))) (hf : jnX6_flowAlike_67 F r37 r38 r59 x2 x3 x5 r64 = some o) (hc : ∀ s2 : ((Int32) × (Int32) × (Nat → Int32)), o = .inl s2 → (mj_u2 (fun x4 => (mj_u2 (fun x5 r64 => mj_W X G RX6 "flowAlike" cX6_flowAlike 6 2 (some .boolean) mj_P0 mj_S0 98 ad 0 0 25 [(0, .ref 55), (1, .ref 32), (2, .int x2), (3, .int x3), (4, .int x4), (5, .int x5)] [] (mj_rows I [(37, r37), (38, r38), (39, r39), (59, r59), (64, r64)]) L)))) s2) (hx : ∀ e2 : ((Int32) × (Nat → Int32)), o = .inr e2 → (mj_u2 (fun x4 r64 => mj_W X G RX6 "flowAlike" cX6_flowAlike 6 2 (some .boolean) mj_P0 mj_S0 98 ad 0 0 94 [(0, .ref 55), (1, .ref 32), (3, .int x3), (4, .int x4)] [] (mj_rows I [(37, r37), (38, r38), (39, r39), (59, r59), (64, r64)]) L)) e2) : mj_W X G RX6 "flowAlike" cX6_flowAlike 6 2 (some .boolean) mj_P0 mj_S0 98 ad 0 0 67 [(0, .ref 55), (1, .ref 32), (2, .int x2), (3, .int x3), (5, .int x5)] [] (mj_rows I [(37, r37), (38, r38), (39, r39), (59, r59), (64, r64)]) L := by
  unfold jnX6_flowAlike_67 at hf
  refine mj_iconst dX6_flowAlike_67 kc_iconst_0 ?_
  exact jtX6_flowAlike_68 hR F I L r37 r38 r39 r59 r64 x2 x3 x5 (0 : Int32) o hf hc hx
set_option maxRecDepth 100000 in
set_option maxHeartbeats 4000000 in
theorem lpX6_flowAlike_25 {X : mj_XT} {l : Launch} {G : mj_GT} {ad : Nat → Nat} {Qn : Option Value → mj_IT → mj_LT → Prop} (hR : mj_R X l G mj_P0 mj_S0 98 ad 0 0 Qn) (F : Nat) (I : mj_IT) (L : mj_LT) (r37 : Nat → Int32) (r38 : Nat → Int32) (r39 : Nat → Int32) (r59 : Nat → Int32) (r64 : Nat → Int32) (x2 : Int32) (x3 : Int32) : ∀ (n : Nat) (s : ((Int32) × (Int32) × (Nat → Int32))) (e : ((Int32) × (Nat → Int32))), mj_it (mj_u2 (fun z0 => (mj_u2 (fun z1 z2 => bdX6_flowAlike_25 F r37 r38 r59 x2 x3 z0 z1 z2)))) n s = some e → (mj_u2 (fun x4 r64 => mj_W X G RX6 "flowAlike" cX6_flowAlike 6 2 (some .boolean) mj_P0 mj_S0 98 ad 0 0 94 [(0, .ref 55), (1, .ref 32), (3, .int x3), (4, .int x4)] [] (mj_rows I [(37, r37), (38, r38), (39, r39), (59, r59), (64, r64)]) L)) e → (mj_u2 (fun x4 => (mj_u2 (fun x5 r64 => mj_W X G RX6 "flowAlike" cX6_flowAlike 6 2 (some .boolean) mj_P0 mj_S0 98 ad 0 0 25 [(0, .ref 55), (1, .ref 32), (2, .int x2), (3, .int x3), (4, .int x4), (5, .int x5)] [] (mj_rows I [(37, r37), (38, r38), (39, r39), (59, r59), (64, r64)]) L)))) s := by
  refine mj_loop (fun s o hf hc hx => ?_)
  obtain ⟨x4, x5, r64⟩ := s
  replace hf := mj_u2e hf
  refine mj_u2q ?_
  replace hf := mj_u2e hf
  refine mj_u2q ?_
  unfold bdX6_flowAlike_25 at hf
  refine mj_iload 5 dX6_flowAlike_25 rfl ?_
  refine mj_aload_n 1 dX6_flowAlike_27 rfl ?_
  refine mj_getP p0_32_12 (by decide) fl_X6_91 rfl s0_32 a0_32 dX6_flowAlike_28 ?_
  refine mj_iload_n 2 dX6_flowAlike_31 rfl ?_
  refine mj_iconst dX6_flowAlike_32 kc_iconst_1 ?_
  refine mj_iadd dX6_flowAlike_33 ?_
  obtain ⟨z4, hf⟩ := mj_ck hf
  refine mj_ialdv (x := r37) rfl s0_37 a0_37 z4 dX6_flowAlike_34 ?_
  refine mj_icmp_ge 94 dX6_flowAlike_35 (by decide) (fun c5 => ?_) (fun c5 => ?_)
  · replace hf := mj_pos c5 hf
    refine mj_sub [0, 1, 3, 4] [(0, .ref 55), (1, .ref 32), (3, .int x3), (4, .int x4)] rfl ?_
    obtain rfl := Option.some.inj hf
    have hZ := hx (x4, r64) rfl
    replace hZ := mj_u2p hZ
    exact hZ
  · replace hf := mj_neg c5 hf
    refine mj_iload 4 dX6_flowAlike_38 rfl ?_
    refine mj_if_eq 67 dX6_flowAlike_40 (by decide) (fun c6 => ?_) (fun c6 => ?_)
    · replace hf := mj_pos c6 hf
      refine mj_sub [0, 1, 2, 3, 5] [(0, .ref 55), (1, .ref 32), (2, .int x2), (3, .int x3), (5, .int x5)] rfl ?_
      exact jtX6_flowAlike_67 hR F I L r37 r38 r39 r59 r64 x2 x3 x5 o hf hc hx
    · replace hf := mj_neg c6 hf
      refine mj_aload_n 0 dX6_flowAlike_43 rfl ?_
      refine mj_getP p0_55_8 (by decide) fl_X6_36 rfl s0_55 a0_55 dX6_flowAlike_44 ?_
      refine mj_aload_n 0 dX6_flowAlike_47 rfl ?_
      refine mj_getP p0_55_3 (by decide) fl_X6_21 rfl s0_55 a0_55 dX6_flowAlike_48 ?_
      refine mj_aload_n 1 dX6_flowAlike_51 rfl ?_
      refine mj_getP p0_32_13 (by decide) fl_X6_94 rfl s0_32 a0_32 dX6_flowAlike_52 ?_
      refine mj_iload 5 dX6_flowAlike_55 rfl ?_
      obtain ⟨z7, hf⟩ := mj_ck hf
      refine mj_ialdv (x := r38) rfl s0_38 a0_38 z7 dX6_flowAlike_57 ?_
      obtain ⟨z8, hf⟩ := mj_ck hf
      refine mj_ialdv (x := r59) rfl s0_59 a0_59 z8 dX6_flowAlike_58 ?_
      obtain ⟨z9, hf⟩ := mj_ck hf
      refine mj_ialdv (x := r64) rfl s0_64 a0_64 z9 dX6_flowAlike_59 ?_
      refine mj_if_ne 67 dX6_flowAlike_60 (by decide) (fun c10 => ?_) (fun c10 => ?_)
      · replace hf := mj_neg c10 hf
        refine mj_sub [0, 1, 2, 3, 5] [(0, .ref 55), (1, .ref 32), (2, .int x2), (3, .int x3), (5, .int x5)] rfl ?_
        exact jtX6_flowAlike_67 hR F I L r37 r38 r39 r59 r64 x2 x3 x5 o hf hc hx
      · replace hf := mj_pos c10 hf
        refine mj_iconst dX6_flowAlike_63 kc_iconst_1 ?_
        refine mj_goto 68 dX6_flowAlike_64 (by decide) ?_
        refine mj_sub [0, 1, 2, 3, 5] [(0, .ref 55), (1, .ref 32), (2, .int x2), (3, .int x3), (5, .int x5)] rfl ?_
        exact jtX6_flowAlike_68 hR F I L r37 r38 r39 r59 r64 x2 x3 x5 (1 : Int32) o hf hc hx
set_option maxRecDepth 100000 in
set_option maxHeartbeats 4000000 in
theorem jtX6_flowAlike_145 {X : mj_XT} {l : Launch} {G : mj_GT} {ad : Nat → Nat} {Qn : Option Value → mj_IT → mj_LT → Prop} (hR : mj_R X l G mj_P0 mj_S0 98 ad 0 0 Qn) (F : Nat) (I : mj_IT) (L : mj_LT) (r37 : Nat → Int32) (r38 : Nat → Int32) (r39 : Nat → Int32) (r59 : Nat → Int32) (r64 : Nat → Int32) (x3 : Int32) (x5 : Int32) (t0 : Int32) (o : (((Int32) × (Int32) × (Nat → Int32)) ⊕ ((Int32) × (Nat → Int32)))) (hf : jnX6_flowAlike_145 F r37 r38 r59 x3 x5 t0 r64 = some o) (hc : ∀ s2 : ((Int32) × (Int32) × (Nat → Int32)), o = .inl s2 → (mj_u2 (fun x4 => (mj_u2 (fun x5 r64 => mj_W X G RX6 "flowAlike" cX6_flowAlike 6 2 (some .boolean) mj_P0 mj_S0 98 ad 0 0 102 [(0, .ref 55), (1, .ref 32), (3, .int x3), (4, .int x4), (5, .int x5)] [] (mj_rows I [(37, r37), (38, r38), (39, r39), (59, r59), (64, r64)]) L)))) s2) (hx : ∀ e2 : ((Int32) × (Nat → Int32)), o = .inr e2 → (mj_u2 (fun x4 r64 => mj_W X G RX6 "flowAlike" cX6_flowAlike 6 2 (some .boolean) mj_P0 mj_S0 98 ad 0 0 171 [(4, .int x4)] [] (mj_rows I [(37, r37), (38, r38), (39, r39), (59, r59), (64, r64)]) L)) e2) : mj_W X G RX6 "flowAlike" cX6_flowAlike 6 2 (some .boolean) mj_P0 mj_S0 98 ad 0 0 145 [(0, .ref 55), (1, .ref 32), (3, .int x3), (5, .int x5)] [.int t0] (mj_rows I [(37, r37), (38, r38), (39, r39), (59, r59), (64, r64)]) L := by
  unfold jnX6_flowAlike_145 at hf
  refine mj_istore [(4, .int t0), (0, .ref 55), (1, .ref 32), (3, .int x3), (5, .int x5)] dX6_flowAlike_145 (by decide) rfl ?_
  refine mj_aload_n 1 dX6_flowAlike_147 rfl ?_
  refine mj_getP p0_55_8 (by decide) fl_X6_36 rfl s0_55 a0_55 dX6_flowAlike_148 ?_
  refine mj_aload_n 1 dX6_flowAlike_151 rfl ?_
  refine mj_getP p0_55_3 (by decide) fl_X6_21 rfl s0_55 a0_55 dX6_flowAlike_152 ?_
  refine mj_aload_n 2 dX6_flowAlike_155 rfl ?_
  refine mj_getP p0_32_13 (by decide) fl_X6_94 rfl s0_32 a0_32 dX6_flowAlike_156 ?_
  refine mj_iload 4 dX6_flowAlike_159 rfl ?_
  obtain ⟨z11, hf⟩ := mj_ck hf
  refine mj_ialdv (x := r38) rfl s0_38 a0_38 z11 dX6_flowAlike_161 ?_
  obtain ⟨z12, hf⟩ := mj_ck hf
  refine mj_ialdv (x := r59) rfl s0_59 a0_59 z12 dX6_flowAlike_162 ?_
  refine mj_iconst dX6_flowAlike_163 kc_iconst_0 ?_
  obtain ⟨z13, hf⟩ := mj_ck hf
  refine mj_iastr [(37, r37), (38, r38), (39, r39), (59, r59), (64, (upd r64 ((r59 ((r38 x5.toNatClampNeg).toNatClampNeg)).toNatClampNeg) (0 : Int32)))] rfl s0_64 a0_64 z13 dX6_flowAlike_164 ?_
  refine mj_iinc 4 [(5, .int (x5 + (1))), (4, .int t0), (0, .ref 55), (1, .ref 32), (3, .int x3)] dX6_flowAlike_165 rfl (kz_1 _) (by decide) rfl ?_
  refine mj_goto 102 dX6_flowAlike_168 (by decide) ?_
  refine mj_sub [2, 3, 4, 1, 0] [(0, .ref 55), (1, .ref 32), (3, .int x3), (4, .int t0), (5, .int (x5 + (1)))] rfl ?_
  obtain rfl := Option.some.inj hf
  have hZ := hc (t0, (x5 + (1)), (upd r64 ((r59 ((r38 x5.toNatClampNeg).toNatClampNeg)).toNatClampNeg) (0 : Int32))) rfl
  replace hZ := mj_u2p hZ
  replace hZ := mj_u2p hZ
  exact hZ
set_option maxRecDepth 100000 in
set_option maxHeartbeats 4000000 in
theorem jtX6_flowAlike_144 {X : mj_XT} {l : Launch} {G : mj_GT} {ad : Nat → Nat} {Qn : Option Value → mj_IT → mj_LT → Prop} (hR : mj_R X l G mj_P0 mj_S0 98 ad 0 0 Qn) (F : Nat) (I : mj_IT) (L : mj_LT) (r37 : Nat → Int32) (r38 : Nat → Int32) (r39 : Nat → Int32) (r59 : Nat → Int32) (r64 : Nat → Int32) (x3 : Int32) (x5 : Int32) (o : (((Int32) × (Int32) × (Nat → Int32)) ⊕ ((Int32) × (Nat → Int32)))) (hf : jnX6_flowAlike_144 F r37 r38 r59 x3 x5 r64 = some o) (hc : ∀ s2 : ((Int32) × (Int32) × (Nat → Int32)), o = .inl s2 → (mj_u2 (fun x4 => (mj_u2 (fun x5 r64 => mj_W X G RX6 "flowAlike" cX6_flowAlike 6 2 (some .boolean) mj_P0 mj_S0 98 ad 0 0 102 [(0, .ref 55), (1, .ref 32), (3, .int x3), (4, .int x4), (5, .int x5)] [] (mj_rows I [(37, r37), (38, r38), (39, r39), (59, r59), (64, r64)]) L)))) s2) (hx : ∀ e2 : ((Int32) × (Nat → Int32)), o = .inr e2 → (mj_u2 (fun x4 r64 => mj_W X G RX6 "flowAlike" cX6_flowAlike 6 2 (some .boolean) mj_P0 mj_S0 98 ad 0 0 171 [(4, .int x4)] [] (mj_rows I [(37, r37), (38, r38), (39, r39), (59, r59), (64, r64)]) L)) e2) : mj_W X G RX6 "flowAlike" cX6_flowAlike 6 2 (some .boolean) mj_P0 mj_S0 98 ad 0 0 144 [(0, .ref 55), (1, .ref 32), (3, .int x3), (5, .int x5)] [] (mj_rows I [(37, r37), (38, r38), (39, r39), (59, r59), (64, r64)]) L := by
  unfold jnX6_flowAlike_144 at hf
  refine mj_iconst dX6_flowAlike_144 kc_iconst_0 ?_
  exact jtX6_flowAlike_145 hR F I L r37 r38 r39 r59 r64 x3 x5 (0 : Int32) o hf hc hx
set_option maxRecDepth 100000 in
set_option maxHeartbeats 4000000 in
theorem lpX6_flowAlike_102 {X : mj_XT} {l : Launch} {G : mj_GT} {ad : Nat → Nat} {Qn : Option Value → mj_IT → mj_LT → Prop} (hR : mj_R X l G mj_P0 mj_S0 98 ad 0 0 Qn) (F : Nat) (I : mj_IT) (L : mj_LT) (r37 : Nat → Int32) (r38 : Nat → Int32) (r39 : Nat → Int32) (r59 : Nat → Int32) (r64 : Nat → Int32) (x3 : Int32) : ∀ (n : Nat) (s : ((Int32) × (Int32) × (Nat → Int32))) (e : ((Int32) × (Nat → Int32))), mj_it (mj_u2 (fun z0 => (mj_u2 (fun z1 z2 => bdX6_flowAlike_102 F r37 r38 r59 x3 z0 z1 z2)))) n s = some e → (mj_u2 (fun x4 r64 => mj_W X G RX6 "flowAlike" cX6_flowAlike 6 2 (some .boolean) mj_P0 mj_S0 98 ad 0 0 171 [(4, .int x4)] [] (mj_rows I [(37, r37), (38, r38), (39, r39), (59, r59), (64, r64)]) L)) e → (mj_u2 (fun x4 => (mj_u2 (fun x5 r64 => mj_W X G RX6 "flowAlike" cX6_flowAlike 6 2 (some .boolean) mj_P0 mj_S0 98 ad 0 0 102 [(0, .ref 55), (1, .ref 32), (3, .int x3), (4, .int x4), (5, .int x5)] [] (mj_rows I [(37, r37), (38, r38), (39, r39), (59, r59), (64, r64)]) L)))) s := by
  refine mj_loop (fun s o hf hc hx => ?_)
  obtain ⟨x4, x5, r64⟩ := s
  replace hf := mj_u2e hf
  refine mj_u2q ?_
  replace hf := mj_u2e hf
  refine mj_u2q ?_
  unfold bdX6_flowAlike_102 at hf
  refine mj_iload 4 dX6_flowAlike_102 rfl ?_
  refine mj_aload_n 1 dX6_flowAlike_104 rfl ?_
  refine mj_getP p0_32_12 (by decide) fl_X6_91 rfl s0_32 a0_32 dX6_flowAlike_105 ?_
  refine mj_iload_n 2 dX6_flowAlike_108 rfl ?_
  refine mj_iconst dX6_flowAlike_109 kc_iconst_1 ?_
  refine mj_iadd dX6_flowAlike_110 ?_
  obtain ⟨z14, hf⟩ := mj_ck hf
  refine mj_ialdv (x := r37) rfl s0_37 a0_37 z14 dX6_flowAlike_111 ?_
  refine mj_icmp_ge 171 dX6_flowAlike_112 (by decide) (fun c15 => ?_) (fun c15 => ?_)
  · replace hf := mj_pos c15 hf
    refine mj_sub [3] [(4, .int x4)] rfl ?_
    obtain rfl := Option.some.inj hf
    have hZ := hx (x4, r64) rfl
    replace hZ := mj_u2p hZ
    exact hZ
  · replace hf := mj_neg c15 hf
    refine mj_iload 3 dX6_flowAlike_115 rfl ?_
    refine mj_if_eq 144 dX6_flowAlike_117 (by decide) (fun c16 => ?_) (fun c16 => ?_)
    · replace hf := mj_pos c16 hf
      refine mj_sub [0, 1, 2, 4] [(0, .ref 55), (1, .ref 32), (3, .int x3), (5, .int x5)] rfl ?_
      exact jtX6_flowAlike_144 hR F I L r37 r38 r39 r59 r64 x3 x5 o hf hc hx
    · replace hf := mj_neg c16 hf
      refine mj_aload_n 0 dX6_flowAlike_120 rfl ?_
      refine mj_getP p0_55_8 (by decide) fl_X6_36 rfl s0_55 a0_55 dX6_flowAlike_121 ?_
      refine mj_aload_n 0 dX6_flowAlike_124 rfl ?_
      refine mj_getP p0_55_3 (by decide) fl_X6_21 rfl s0_55 a0_55 dX6_flowAlike_125 ?_
      refine mj_aload_n 1 dX6_flowAlike_128 rfl ?_
      refine mj_getP p0_32_13 (by decide) fl_X6_94 rfl s0_32 a0_32 dX6_flowAlike_129 ?_
      refine mj_iload 4 dX6_flowAlike_132 rfl ?_
      obtain ⟨z17, hf⟩ := mj_ck hf
      refine mj_ialdv (x := r38) rfl s0_38 a0_38 z17 dX6_flowAlike_134 ?_
      obtain ⟨z18, hf⟩ := mj_ck hf
      refine mj_ialdv (x := r59) rfl s0_59 a0_59 z18 dX6_flowAlike_135 ?_
      obtain ⟨z19, hf⟩ := mj_ck hf
      refine mj_ialdv (x := r64) rfl s0_64 a0_64 z19 dX6_flowAlike_136 ?_
      refine mj_if_ne 144 dX6_flowAlike_137 (by decide) (fun c20 => ?_) (fun c20 => ?_)
      · replace hf := mj_neg c20 hf
        refine mj_sub [0, 1, 2, 4] [(0, .ref 55), (1, .ref 32), (3, .int x3), (5, .int x5)] rfl ?_
        exact jtX6_flowAlike_144 hR F I L r37 r38 r39 r59 r64 x3 x5 o hf hc hx
      · replace hf := mj_pos c20 hf
        refine mj_iconst dX6_flowAlike_140 kc_iconst_1 ?_
        refine mj_goto 145 dX6_flowAlike_141 (by decide) ?_
        refine mj_sub [0, 1, 2, 4] [(0, .ref 55), (1, .ref 32), (3, .int x3), (5, .int x5)] rfl ?_
        exact jtX6_flowAlike_145 hR F I L r37 r38 r39 r59 r64 x3 x5 (1 : Int32) o hf hc hx
set_option maxRecDepth 100000 in
set_option maxHeartbeats 4000000 in
theorem mtX6_flowAlike {X : mj_XT} {l : Launch} {G : mj_GT} {ad : Nat → Nat} {Qn : Option Value → mj_IT → mj_LT → Prop} (hR : mj_R X l G mj_P0 mj_S0 98 ad 0 0 Qn) (F : Nat) (I : mj_IT) (L : mj_LT) (r37 : Nat → Int32) (r38 : Nat → Int32) (r39 : Nat → Int32) (r59 : Nat → Int32) (r64 : Nat → Int32) (x2 : Int32) (x3 : Int32) (o : ((Int32) × (Nat → Int32))) (hf : fnX6_flowAlike F r37 r38 r39 r59 r64 x2 x3 = some o) (hq : (mj_u2 (fun ov r64 => Qn (some (.int ov)) (mj_rows I [(37, r37), (38, r38), (39, r39), (59, r59), (64, r64)]) L)) o) : mj_W X G RX6 "flowAlike" cX6_flowAlike 6 2 (some .boolean) mj_P0 mj_S0 98 ad 0 0 0 [(0, .ref 55), (1, .ref 32), (2, .int x2), (3, .int x3)] [] (mj_rows I [(37, r37), (38, r38), (39, r39), (59, r59), (64, r64)]) L := by
  unfold fnX6_flowAlike at hf
  refine mj_aload_n 0 dX6_flowAlike_0 rfl ?_
  refine mj_aload_n 1 dX6_flowAlike_1 rfl ?_
  refine mj_iload_n 2 dX6_flowAlike_2 rfl ?_
  refine mj_iconst dX6_flowAlike_3 kc_iconst_1 ?_
  obtain ⟨o21, ho21, hf⟩ := mj_bd hf
  refine mj_callVd (I2 := (mj_rows I [(37, r37), (38, r38), (39, r39), (59, r59), (64, o21)])) (L2 := L) (s1 := []) (st := []) [.ref 32, .int x2, .int (1 : Int32)] (cmX6_addFlow X.2.1 G F x2 (1 : Int32) _ _ r37 r38 r39 r59 r64 rfl rfl rfl rfl rfl o21 ho21) (mj_rr rfl) rfl cw_X6_87 s0_55 a0_55 (by decide) rfl rfl (Nat.le_of_ble_eq_true rfl) ⟨Nat.zero_le _, Nat.zero_le _⟩ dX6_flowAlike_4 rfl ?_
  refine mj_aload_n 0 dX6_flowAlike_7 rfl ?_
  refine mj_aload_n 1 dX6_flowAlike_8 rfl ?_
  refine mj_iload_n 3 dX6_flowAlike_9 rfl ?_
  refine mj_iconst dX6_flowAlike_10 kc_iconst_m1 ?_
  obtain ⟨o22, ho22, hf⟩ := mj_bd hf
  refine mj_callVd (I2 := (mj_rows I [(37, r37), (38, r38), (39, r39), (59, r59), (64, o22)])) (L2 := L) (s1 := []) (st := []) [.ref 32, .int x3, .int (-1 : Int32)] (cmX6_addFlow X.2.1 G F x3 (-1 : Int32) _ _ r37 r38 r39 r59 o21 rfl rfl rfl rfl rfl o22 ho22) (mj_rr rfl) rfl cw_X6_87 s0_55 a0_55 (by decide) rfl rfl (Nat.le_of_ble_eq_true rfl) ⟨Nat.zero_le _, Nat.zero_le _⟩ dX6_flowAlike_11 rfl ?_
  refine mj_iconst dX6_flowAlike_14 kc_iconst_1 ?_
  refine mj_istore [(4, .int (1 : Int32)), (0, .ref 55), (1, .ref 32), (2, .int x2), (3, .int x3)] dX6_flowAlike_15 (by decide) rfl ?_
  refine mj_aload_n 2 dX6_flowAlike_17 rfl ?_
  refine mj_getP p0_32_12 (by decide) fl_X6_91 rfl s0_32 a0_32 dX6_flowAlike_18 ?_
  refine mj_iload_n 3 dX6_flowAlike_21 rfl ?_
  obtain ⟨z23, hf⟩ := mj_ck hf
  refine mj_ialdv (x := r37) rfl s0_37 a0_37 z23 dX6_flowAlike_22 ?_
  refine mj_istore [(5, .int (r37 x2.toNatClampNeg)), (4, .int (1 : Int32)), (0, .ref 55), (1, .ref 32), (2, .int x2), (3, .int x3)] dX6_flowAlike_23 (by decide) rfl ?_
  refine mj_sub [2, 3, 4, 5, 1, 0] [(0, .ref 55), (1, .ref 32), (2, .int x2), (3, .int x3), (4, .int (1 : Int32)), (5, .int (r37 x2.toNatClampNeg))] rfl ?_
  obtain ⟨e24, ho24, hf⟩ := mj_bd hf
  refine lpX6_flowAlike_25 hR F I L r37 r38 r39 r59 o22 x2 x3 F ((1 : Int32), (r37 x2.toNatClampNeg), o22) e24 ho24 ?_
  obtain ⟨x4_24, r64_24⟩ := e24
  replace hf := mj_u2e hf
  refine ?_
  refine mj_u2q ?_
  refine mj_aload_n 1 dX6_flowAlike_94 rfl ?_
  refine mj_getP p0_32_12 (by decide) fl_X6_91 rfl s0_32 a0_32 dX6_flowAlike_95 ?_
  refine mj_iload_n 2 dX6_flowAlike_98 rfl ?_
  obtain ⟨z25, hf⟩ := mj_ck hf
  refine mj_ialdv (x := r37) rfl s0_37 a0_37 z25 dX6_flowAlike_99 ?_
  refine mj_istore [(5, .int (r37 x3.toNatClampNeg)), (0, .ref 55), (1, .ref 32), (3, .int x3), (4, .int x4_24)] dX6_flowAlike_100 (by decide) rfl ?_
  refine mj_sub [1, 2, 3, 4, 0] [(0, .ref 55), (1, .ref 32), (3, .int x3), (4, .int x4_24), (5, .int (r37 x3.toNatClampNeg))] rfl ?_
  obtain ⟨e26, ho26, hf⟩ := mj_bd hf
  refine lpX6_flowAlike_102 hR F I L r37 r38 r39 r59 r64_24 x3 F (x4_24, (r37 x3.toNatClampNeg), r64_24) e26 ho26 ?_
  obtain ⟨x4_26, r64_26⟩ := e26
  replace hf := mj_u2e hf
  refine ?_
  refine mj_u2q ?_
  refine mj_iload 0 dX6_flowAlike_171 rfl ?_
  obtain ⟨z27, hf⟩ := mj_ck hf
  obtain rfl := Option.some.inj hf
  have hZ := hq
  replace hZ := mj_u2p hZ
  exact mj_iret hR ⟨Nat.le_refl _, Nat.le_refl _⟩ rfl (mj_bb_n z27).1 dX6_flowAlike_173 hZ
set_option maxRecDepth 100000 in
set_option maxHeartbeats 4000000 in
theorem cmX6_flowAlike (l : Launch) (G : mj_GT) (F : Nat) (x2 : Int32) (x3 : Int32) (I : mj_IT) (L : mj_LT) (r37 : Nat → Int32) (r38 : Nat → Int32) (r39 : Nat → Int32) (r59 : Nat → Int32) (r64 : Nat → Int32) (hr37 : I 37 = r37) (hr38 : I 38 = r38) (hr39 : I 39 = r39) (hr59 : I 59 = r59) (hr64 : I 64 = r64) (o : ((Int32) × (Nat → Int32))) (hf : fnX6_flowAlike F r37 r38 r39 r59 r64 x2 x3 = some o) : mj_M l G yX6_flowAlike cX6_flowAlike 6 2 (some .boolean) 0 0 mj_P0 mj_S0 98 [.ref 55, .ref 32, .int x2, .int x3] I L (mj_qd (some (.int o.1)) (mj_rows I [(37, r37), (38, r38), (39, r39), (59, r59), (64, o.2)]) L) := by
  refine mj_in RX6 "flowAlike" [(0, .ref 55), (1, .ref 32), (2, .int x2), (3, .int x3)] rfl rfl rfl (by decide) (Nat.le_of_ble_eq_true rfl) (fun X ad hR => ?_)
  refine mj_toI [(37, r37), (38, r38), (39, r39), (59, r59), (64, r64)] (by intro q hq; simp only [List.mem_cons, List.not_mem_nil, or_false] at hq; rcases hq with rfl | rfl | rfl | rfl | rfl <;> assumption) ?_
  refine mtX6_flowAlike hR F I L r37 r38 r39 r59 r64 x2 x3 o hf ?_
  obtain ⟨w0, w1⟩ := o
  refine mj_u2q ?_
  exact ⟨rfl, rfl, rfl⟩

-- X7_clear
def fnX7_clear (F : Nat) (r18 : Nat → Int32) : Option ((Nat → Int32)) := some (upd r18 0 (0 : Int32))
set_option maxRecDepth 100000 in
set_option maxHeartbeats 4000000 in
theorem mtX7_clear {X : mj_XT} {l : Launch} {G : mj_GT} {ad : Nat → Nat} {Qn : Option Value → mj_IT → mj_LT → Prop} (hR : mj_R X l G mj_P0 mj_S0 98 ad 0 0 Qn) (F : Nat) (I : mj_IT) (L : mj_LT) (r18 : Nat → Int32) (o : ((Nat → Int32))) (hf : fnX7_clear F r18 = some o) (hq : (fun r18 => Qn none (mj_rows I [(18, r18)]) L) o) : mj_W X G RX7 "clear" cX7_clear 1 1 none mj_P0 mj_S0 98 ad 0 0 0 [(0, .ref 18)] [] (mj_rows I [(18, r18)]) L := by
  unfold fnX7_clear at hf
  refine mj_aload_n 0 dX7_clear_0 rfl ?_
  refine mj_iconst dX7_clear_1 kc_iconst_0 ?_
  refine mj_putIr (ci := 5) (j := 0) [(18, (upd r18 0 (0 : Int32)))] rfl ⟨rfl, rfl⟩ fl_X7_42 rfl rfl s0_18 a0_18 dX7_clear_2 ?_
  obtain rfl := Option.some.inj hf
  have hZ := hq
  exact mj_vret hR ⟨Nat.le_refl _, Nat.le_refl _⟩ rfl dX7_clear_5 hZ
set_option maxRecDepth 100000 in
set_option maxHeartbeats 4000000 in
theorem cmX7_clear (l : Launch) (G : mj_GT) (F : Nat) (I : mj_IT) (L : mj_LT) (r18 : Nat → Int32) (hr18 : I 18 = r18) (o : ((Nat → Int32))) (hf : fnX7_clear F r18 = some o) : mj_M l G yX7_clear cX7_clear 1 1 none 0 0 mj_P0 mj_S0 98 [.ref 18] I L (mj_qd none (mj_rows I [(18, o)]) L) := by
  refine mj_in RX7 "clear" [(0, .ref 18)] rfl rfl rfl (by decide) (Nat.le_of_ble_eq_true rfl) (fun X ad hR => ?_)
  refine mj_toI [(18, r18)] (by intro q hq; simp only [List.mem_cons, List.not_mem_nil, or_false] at hq; rcases hq with rfl <;> assumption) ?_
  refine mtX7_clear hR F I L r18 o hf ?_
  exact ⟨rfl, rfl, rfl⟩

-- X7_isFull
def fnX7_isFull (F : Nat) (r18 : Nat → Int32) : Option ((Int32)) := (if (r18 0) < (40 : Int32) then some (0 : Int32) else some (1 : Int32))
set_option maxRecDepth 100000 in
set_option maxHeartbeats 4000000 in
theorem mtX7_isFull {X : mj_XT} {l : Launch} {G : mj_GT} {ad : Nat → Nat} {Qn : Option Value → mj_IT → mj_LT → Prop} (hR : mj_R X l G mj_P0 mj_S0 98 ad 0 0 Qn) (F : Nat) (I : mj_IT) (L : mj_LT) (r18 : Nat → Int32) (o : ((Int32))) (hf : fnX7_isFull F r18 = some o) (hq : (fun ov => Qn (some (.int ov)) (mj_rows I [(18, r18)]) L) o) : mj_W X G RX7 "isFull" cX7_isFull 1 1 (some .boolean) mj_P0 mj_S0 98 ad 0 0 0 [(0, .ref 18)] [] (mj_rows I [(18, r18)]) L := by
  unfold fnX7_isFull at hf
  refine mj_aload_n 0 dX7_isFull_0 rfl ?_
  refine mj_getIv (v := (r18 0)) rfl fl_X7_42 rfl s0_18 a0_18 dX7_isFull_1 ?_
  refine mj_bipush dX7_isFull_4 kc_bipush_40 ?_
  refine mj_icmp_lt 13 dX7_isFull_6 (by decide) (fun c1 => ?_) (fun c1 => ?_)
  · replace hf := mj_pos c1 hf
    refine mj_iconst dX7_isFull_13 kc_iconst_0 ?_
    obtain rfl := Option.some.inj hf
    have hZ := hq
    exact mj_iret hR ⟨Nat.le_refl _, Nat.le_refl _⟩ rfl (by decide) dX7_isFull_14 hZ
  · replace hf := mj_neg c1 hf
    refine mj_iconst dX7_isFull_9 kc_iconst_1 ?_
    refine mj_goto 14 dX7_isFull_10 (by decide) ?_
    obtain rfl := Option.some.inj hf
    have hZ := hq
    exact mj_iret hR ⟨Nat.le_refl _, Nat.le_refl _⟩ rfl (by decide) dX7_isFull_14 hZ
set_option maxRecDepth 100000 in
set_option maxHeartbeats 4000000 in
theorem cmX7_isFull (l : Launch) (G : mj_GT) (F : Nat) (I : mj_IT) (L : mj_LT) (r18 : Nat → Int32) (hr18 : I 18 = r18) (o : ((Int32))) (hf : fnX7_isFull F r18 = some o) : mj_M l G yX7_isFull cX7_isFull 1 1 (some .boolean) 0 0 mj_P0 mj_S0 98 [.ref 18] I L (mj_qd (some (.int o)) (mj_rows I [(18, r18)]) L) := by
  refine mj_in RX7 "isFull" [(0, .ref 18)] rfl rfl rfl (by decide) (Nat.le_of_ble_eq_true rfl) (fun X ad hR => ?_)
  refine mj_toI [(18, r18)] (by intro q hq; simp only [List.mem_cons, List.not_mem_nil, or_false] at hq; rcases hq with rfl <;> assumption) ?_
  refine mtX7_isFull hR F I L r18 o hf ?_
  exact ⟨rfl, rfl, rfl⟩

-- X7_begin
def jnX7_begin_66 (F : Nat) (x1 : Int32) (x2 : Int32) (x5 : Int32) (r18 : Nat → Int32) (r19 : Nat → Int32) (r20 : Nat → Int32) (r21 : Nat → Int32) (r22 : Nat → Int32) (r23 : Nat → Int32) (r24 : Nat → Int32) (r25 : Nat → Int32) (r26 : Nat → Int32) (r27 : Nat → Int32) (r28 : Nat → Int32) : Option ((Int32) × (Nat → Int32) × (Nat → Int32) × (Nat → Int32) × (Nat → Int32) × (Nat → Int32) × (Nat → Int32) × (Nat → Int32) × (Nat → Int32) × (Nat → Int32) × (Nat → Int32) × (Nat → Int32)) := (if mj_ib x5 40 = true then (if mj_ib x5 40 = true then (if mj_ib x5 40 = true then (if mj_ib x5 40 = true then (if mj_ib x5 40 = true then (if mj_ib x5 40 = true then (if mj_ib x5 40 = true then (if mj_ib x5 40 = true then (if mj_ib x5 40 = true then (if mj_ib x5 40 = true then some (x5, r18, (upd r19 x5.toNatClampNeg x1), (upd r20 x5.toNatClampNeg (-1 : Int32)), (upd r21 x5.toNatClampNeg (-1 : Int32)), (upd r22 x5.toNatClampNeg (0 : Int32)), (upd r23 x5.toNatClampNeg (0 : Int32)), (upd r24 x5.toNatClampNeg (0 : Int32)), (upd r25 x5.toNatClampNeg (-1 : Int32)), (upd r26 x5.toNatClampNeg (-1 : Int32)), (upd r27 x5.toNatClampNeg x2), (upd r28 x5.toNatClampNeg (-1 : Int32))) else none) else none) else none) else none) else none) else none) else none) else none) else none) else none)
def jnX7_begin_53 (F : Nat) (x1 : Int32) (x2 : Int32) (x5 : Int32) (r18 : Nat → Int32) (r19 : Nat → Int32) (r20 : Nat → Int32) (r21 : Nat → Int32) (r22 : Nat → Int32) (r23 : Nat → Int32) (r24 : Nat → Int32) (r25 : Nat → Int32) (r26 : Nat → Int32) (r27 : Nat → Int32) (r28 : Nat → Int32) : Option ((Int32) × (Nat → Int32) × (Nat → Int32) × (Nat → Int32) × (Nat → Int32) × (Nat → Int32) × (Nat → Int32) × (Nat → Int32) × (Nat → Int32) × (Nat → Int32) × (Nat → Int32) × (Nat → Int32)) := (if x2 = (-1 : Int32) then jnX7_begin_66 F x1 x2 x5 r18 r19 r20 r21 r22 r23 r24 r25 r26 r27 r28 else (if mj_ib x2 40 = true then jnX7_begin_66 F x1 x2 x5 r18 r19 r20 r21 r22 r23 r24 (upd r25 x2.toNatClampNeg x5) r26 r27 r28 else none))
def fnX7_begin (F : Nat) (r18 : Nat → Int32) (r19 : Nat → Int32) (r20 : Nat → Int32) (r21 : Nat → Int32) (r22 : Nat → Int32) (r23 : Nat → Int32) (r24 : Nat → Int32) (r25 : Nat → Int32) (r26 : Nat → Int32) (r27 : Nat → Int32) (r28 : Nat → Int32) (x1 : Int32) (x2 : Int32) (x3 : Int32) (x4 : Int32) : Option ((Int32) × (Nat → Int32) × (Nat → Int32) × (Nat → Int32) × (Nat → Int32) × (Nat → Int32) × (Nat → Int32) × (Nat → Int32) × (Nat → Int32) × (Nat → Int32) × (Nat → Int32) × (Nat → Int32)) := (if x3 = (-1 : Int32) then (if x2 = (-1 : Int32) then jnX7_begin_53 F x1 x2 (r18 0) (upd r18 0 ((r18 0) + (1 : Int32))) r19 r20 r21 r22 r23 r24 r25 r26 r27 r28 else (if x4 = 0 then jnX7_begin_53 F x1 x2 (r18 0) (upd r18 0 ((r18 0) + (1 : Int32))) r19 r20 r21 r22 r23 r24 r25 r26 r27 r28 else (if mj_ib x2 40 = true then jnX7_begin_66 F x1 x2 (r18 0) (upd r18 0 ((r18 0) + (1 : Int32))) r19 r20 r21 r22 r23 r24 r25 (upd r26 x2.toNatClampNeg (r18 0)) r27 r28 else none))) else (if mj_ib x3 40 = true then jnX7_begin_66 F x1 x2 (r18 0) (upd r18 0 ((r18 0) + (1 : Int32))) r19 r20 r21 r22 r23 r24 r25 r26 r27 (upd r28 x3.toNatClampNeg (r18 0)) else none))
set_option maxRecDepth 100000 in
set_option maxHeartbeats 4000000 in
theorem jtX7_begin_66 {X : mj_XT} {l : Launch} {G : mj_GT} {ad : Nat → Nat} {Qn : Option Value → mj_IT → mj_LT → Prop} (hR : mj_R X l G mj_P0 mj_S0 98 ad 0 0 Qn) (F : Nat) (I : mj_IT) (L : mj_LT) (r18 : Nat → Int32) (r19 : Nat → Int32) (r20 : Nat → Int32) (r21 : Nat → Int32) (r22 : Nat → Int32) (r23 : Nat → Int32) (r24 : Nat → Int32) (r25 : Nat → Int32) (r26 : Nat → Int32) (r27 : Nat → Int32) (r28 : Nat → Int32) (x1 : Int32) (x2 : Int32) (x5 : Int32) (o : ((Int32) × (Nat → Int32) × (Nat → Int32) × (Nat → Int32) × (Nat → Int32) × (Nat → Int32) × (Nat → Int32) × (Nat → Int32) × (Nat → Int32) × (Nat → Int32) × (Nat → Int32) × (Nat → Int32))) (hf : jnX7_begin_66 F x1 x2 x5 r18 r19 r20 r21 r22 r23 r24 r25 r26 r27 r28 = some o) (hq : (mj_u2 (fun ov => (mj_u2 (fun r18 => (mj_u2 (fun r19 => (mj_u2 (fun r20 => (mj_u2 (fun r21 => (mj_u2 (fun r22 => (mj_u2 (fun r23 => (mj_u2 (fun r24 => (mj_u2 (fun r25 => (mj_u2 (fun r26 => (mj_u2 (fun r27 r28 => Qn (some (.int ov)) (mj_rows I [(18, r18), (19, r19), (20, r20), (21, r21), (22, r22), (23, r23), (24, r24), (25, r25), (26, r26), (27, r27), (28, r28)]) L)))))))))))))))))))))) o) : mj_W X G RX7 "begin" cX7_begin 6 1 (some .int) mj_P0 mj_S0 98 ad 0 0 66 [(0, .ref 18), (1, .int x1), (2, .int x2), (5, .int x5)] [] (mj_rows I [(18, r18), (19, r19), (20, r20), (21, r21), (22, r22), (23, r23), (24, r24), (25, r25), (26, r26), (27, r27), (28, r28)]) L := by
  unfold jnX7_begin_66 at hf
  refine mj_aload_n 0 dX7_begin_66 rfl ?_
  refine mj_getP p0_18_1 (by decide) fl_X7_9 rfl s0_18 a0_18 dX7_begin_67 ?_
  refine mj_iload 3 dX7_begin_70 rfl ?_
  refine mj_iload_n 1 dX7_begin_72 rfl ?_
  obtain ⟨z1, hf⟩ := mj_ck hf
  refine mj_iastr [(18, r18), (19, (upd r19 x5.toNatClampNeg x1)), (20, r20), (21, r21), (22, r22), (23, r23), (24, r24), (25, r25), (26, r26), (27, r27), (28, r28)] rfl s0_19 a0_19 z1 dX7_begin_73 ?_
  refine mj_aload_n 0 dX7_begin_74 rfl ?_
  refine mj_getP p0_18_2 (by decide) fl_X7_15 rfl s0_18 a0_18 dX7_begin_75 ?_
  refine mj_iload 3 dX7_begin_78 rfl ?_
  refine mj_iconst dX7_begin_80 kc_iconst_m1 ?_
  obtain ⟨z2, hf⟩ := mj_ck hf
  refine mj_iastr [(18, r18), (19, (upd r19 x5.toNatClampNeg x1)), (20, (upd r20 x5.toNatClampNeg (-1 : Int32))), (21, r21), (22, r22), (23, r23), (24, r24), (25, r25), (26, r26), (27, r27), (28, r28)] rfl s0_20 a0_20 z2 dX7_begin_81 ?_
  refine mj_aload_n 0 dX7_begin_82 rfl ?_
  refine mj_getP p0_18_3 (by decide) fl_X7_18 rfl s0_18 a0_18 dX7_begin_83 ?_
  refine mj_iload 3 dX7_begin_86 rfl ?_
  refine mj_iconst dX7_begin_88 kc_iconst_m1 ?_
  obtain ⟨z3, hf⟩ := mj_ck hf
  refine mj_iastr [(18, r18), (19, (upd r19 x5.toNatClampNeg x1)), (20, (upd r20 x5.toNatClampNeg (-1 : Int32))), (21, (upd r21 x5.toNatClampNeg (-1 : Int32))), (22, r22), (23, r23), (24, r24), (25, r25), (26, r26), (27, r27), (28, r28)] rfl s0_21 a0_21 z3 dX7_begin_89 ?_
  refine mj_aload_n 0 dX7_begin_90 rfl ?_
  refine mj_getP p0_18_4 (by decide) fl_X7_21 rfl s0_18 a0_18 dX7_begin_91 ?_
  refine mj_iload 3 dX7_begin_94 rfl ?_
  refine mj_iconst dX7_begin_96 kc_iconst_0 ?_
  obtain ⟨z4, hf⟩ := mj_ck hf
  refine mj_iastr [(18, r18), (19, (upd r19 x5.toNatClampNeg x1)), (20, (upd r20 x5.toNatClampNeg (-1 : Int32))), (21, (upd r21 x5.toNatClampNeg (-1 : Int32))), (22, (upd r22 x5.toNatClampNeg (0 : Int32))), (23, r23), (24, r24), (25, r25), (26, r26), (27, r27), (28, r28)] rfl s0_22 a0_22 z4 dX7_begin_97 ?_
  refine mj_aload_n 0 dX7_begin_98 rfl ?_
  refine mj_getP p0_18_5 (by decide) fl_X7_24 rfl s0_18 a0_18 dX7_begin_99 ?_
  refine mj_iload 3 dX7_begin_102 rfl ?_
  refine mj_iconst dX7_begin_104 kc_iconst_0 ?_
  obtain ⟨z5, hf⟩ := mj_ck hf
  refine mj_iastr [(18, r18), (19, (upd r19 x5.toNatClampNeg x1)), (20, (upd r20 x5.toNatClampNeg (-1 : Int32))), (21, (upd r21 x5.toNatClampNeg (-1 : Int32))), (22, (upd r22 x5.toNatClampNeg (0 : Int32))), (23, (upd r23 x5.toNatClampNeg (0 : Int32))), (24, r24), (25, r25), (26, r26), (27, r27), (28, r28)] rfl s0_23 a0_23 z5 dX7_begin_105 ?_
  refine mj_aload_n 0 dX7_begin_106 rfl ?_
  refine mj_getP p0_18_6 (by decide) fl_X7_27 rfl s0_18 a0_18 dX7_begin_107 ?_
  refine mj_iload 3 dX7_begin_110 rfl ?_
  refine mj_iconst dX7_begin_112 kc_iconst_0 ?_
  obtain ⟨z6, hf⟩ := mj_ck hf
  refine mj_iastr [(18, r18), (19, (upd r19 x5.toNatClampNeg x1)), (20, (upd r20 x5.toNatClampNeg (-1 : Int32))), (21, (upd r21 x5.toNatClampNeg (-1 : Int32))), (22, (upd r22 x5.toNatClampNeg (0 : Int32))), (23, (upd r23 x5.toNatClampNeg (0 : Int32))), (24, (upd r24 x5.toNatClampNeg (0 : Int32))), (25, r25), (26, r26), (27, r27), (28, r28)] rfl s0_24 a0_24 z6 dX7_begin_113 ?_
  refine mj_aload_n 0 dX7_begin_114 rfl ?_
  refine mj_getP p0_18_7 (by decide) fl_X7_30 rfl s0_18 a0_18 dX7_begin_115 ?_
  refine mj_iload 3 dX7_begin_118 rfl ?_
  refine mj_iconst dX7_begin_120 kc_iconst_m1 ?_
  obtain ⟨z7, hf⟩ := mj_ck hf
  refine mj_iastr [(18, r18), (19, (upd r19 x5.toNatClampNeg x1)), (20, (upd r20 x5.toNatClampNeg (-1 : Int32))), (21, (upd r21 x5.toNatClampNeg (-1 : Int32))), (22, (upd r22 x5.toNatClampNeg (0 : Int32))), (23, (upd r23 x5.toNatClampNeg (0 : Int32))), (24, (upd r24 x5.toNatClampNeg (0 : Int32))), (25, (upd r25 x5.toNatClampNeg (-1 : Int32))), (26, r26), (27, r27), (28, r28)] rfl s0_25 a0_25 z7 dX7_begin_121 ?_
  refine mj_aload_n 0 dX7_begin_122 rfl ?_
  refine mj_getP p0_18_8 (by decide) fl_X7_33 rfl s0_18 a0_18 dX7_begin_123 ?_
  refine mj_iload 3 dX7_begin_126 rfl ?_
  refine mj_iconst dX7_begin_128 kc_iconst_m1 ?_
  obtain ⟨z8, hf⟩ := mj_ck hf
  refine mj_iastr [(18, r18), (19, (upd r19 x5.toNatClampNeg x1)), (20, (upd r20 x5.toNatClampNeg (-1 : Int32))), (21, (upd r21 x5.toNatClampNeg (-1 : Int32))), (22, (upd r22 x5.toNatClampNeg (0 : Int32))), (23, (upd r23 x5.toNatClampNeg (0 : Int32))), (24, (upd r24 x5.toNatClampNeg (0 : Int32))), (25, (upd r25 x5.toNatClampNeg (-1 : Int32))), (26, (upd r26 x5.toNatClampNeg (-1 : Int32))), (27, r27), (28, r28)] rfl s0_26 a0_26 z8 dX7_begin_129 ?_
  refine mj_aload_n 0 dX7_begin_130 rfl ?_
  refine mj_getP p0_18_9 (by decide) fl_X7_36 rfl s0_18 a0_18 dX7_begin_131 ?_
  refine mj_iload 3 dX7_begin_134 rfl ?_
  refine mj_iload_n 2 dX7_begin_136 rfl ?_
  obtain ⟨z9, hf⟩ := mj_ck hf
  refine mj_iastr [(18, r18), (19, (upd r19 x5.toNatClampNeg x1)), (20, (upd r20 x5.toNatClampNeg (-1 : Int32))), (21, (upd r21 x5.toNatClampNeg (-1 : Int32))), (22, (upd r22 x5.toNatClampNeg (0 : Int32))), (23, (upd r23 x5.toNatClampNeg (0 : Int32))), (24, (upd r24 x5.toNatClampNeg (0 : Int32))), (25, (upd r25 x5.toNatClampNeg (-1 : Int32))), (26, (upd r26 x5.toNatClampNeg (-1 : Int32))), (27, (upd r27 x5.toNatClampNeg x2)), (28, r28)] rfl s0_27 a0_27 z9 dX7_begin_137 ?_
  refine mj_aload_n 0 dX7_begin_138 rfl ?_
  refine mj_getP p0_18_10 (by decide) fl_X7_39 rfl s0_18 a0_18 dX7_begin_139 ?_
  refine mj_iload 3 dX7_begin_142 rfl ?_
  refine mj_iconst dX7_begin_144 kc_iconst_m1 ?_
  obtain ⟨z10, hf⟩ := mj_ck hf
  refine mj_iastr [(18, r18), (19, (upd r19 x5.toNatClampNeg x1)), (20, (upd r20 x5.toNatClampNeg (-1 : Int32))), (21, (upd r21 x5.toNatClampNeg (-1 : Int32))), (22, (upd r22 x5.toNatClampNeg (0 : Int32))), (23, (upd r23 x5.toNatClampNeg (0 : Int32))), (24, (upd r24 x5.toNatClampNeg (0 : Int32))), (25, (upd r25 x5.toNatClampNeg (-1 : Int32))), (26, (upd r26 x5.toNatClampNeg (-1 : Int32))), (27, (upd r27 x5.toNatClampNeg x2)), (28, (upd r28 x5.toNatClampNeg (-1 : Int32)))] rfl s0_28 a0_28 z10 dX7_begin_145 ?_
  refine mj_iload 3 dX7_begin_146 rfl ?_
  obtain rfl := Option.some.inj hf
  have hZ := hq
  replace hZ := mj_u2p hZ
  replace hZ := mj_u2p hZ
  replace hZ := mj_u2p hZ
  replace hZ := mj_u2p hZ
  replace hZ := mj_u2p hZ
  replace hZ := mj_u2p hZ
  replace hZ := mj_u2p hZ
  replace hZ := mj_u2p hZ
  replace hZ := mj_u2p hZ
  replace hZ := mj_u2p hZ
  replace hZ := mj_u2p hZ
  exact mj_iret hR ⟨Nat.le_refl _, Nat.le_refl _⟩ rfl rfl dX7_begin_148 hZ
set_option maxRecDepth 100000 in
set_option maxHeartbeats 4000000 in
theorem jtX7_begin_53 {X : mj_XT} {l : Launch} {G : mj_GT} {ad : Nat → Nat} {Qn : Option Value → mj_IT → mj_LT → Prop} (hR : mj_R X l G mj_P0 mj_S0 98 ad 0 0 Qn) (F : Nat) (I : mj_IT) (L : mj_LT) (r18 : Nat → Int32) (r19 : Nat → Int32) (r20 : Nat → Int32) (r21 : Nat → Int32) (r22 : Nat → Int32) (r23 : Nat → Int32) (r24 : Nat → Int32) (r25 : Nat → Int32) (r26 : Nat → Int32) (r27 : Nat → Int32) (r28 : Nat → Int32) (x1 : Int32) (x2 : Int32) (x5 : Int32) (o : ((Int32) × (Nat → Int32) × (Nat → Int32) × (Nat → Int32) × (Nat → Int32) × (Nat → Int32) × (Nat → Int32) × (Nat → Int32) × (Nat → Int32) × (Nat → Int32) × (Nat → Int32) × (Nat → Int32))) (hf : jnX7_begin_53 F x1 x2 x5 r18 r19 r20 r21 r22 r23 r24 r25 r26 r27 r28 = some o) (hq : (mj_u2 (fun ov => (mj_u2 (fun r18 => (mj_u2 (fun r19 => (mj_u2 (fun r20 => (mj_u2 (fun r21 => (mj_u2 (fun r22 => (mj_u2 (fun r23 => (mj_u2 (fun r24 => (mj_u2 (fun r25 => (mj_u2 (fun r26 => (mj_u2 (fun r27 r28 => Qn (some (.int ov)) (mj_rows I [(18, r18), (19, r19), (20, r20), (21, r21), (22, r22), (23, r23), (24, r24), (25, r25), (26, r26), (27, r27), (28, r28)]) L)))))))))))))))))))))) o) : mj_W X G RX7 "begin" cX7_begin 6 1 (some .int) mj_P0 mj_S0 98 ad 0 0 53 [(0, .ref 18), (1, .int x1), (2, .int x2), (5, .int x5)] [] (mj_rows I [(18, r18), (19, r19), (20, r20), (21, r21), (22, r22), (23, r23), (24, r24), (25, r25), (26, r26), (27, r27), (28, r28)]) L := by
  unfold jnX7_begin_53 at hf
  refine mj_iload_n 2 dX7_begin_53 rfl ?_
  refine mj_iconst dX7_begin_54 kc_iconst_m1 ?_
  refine mj_icmp_eq 66 dX7_begin_55 (by decide) (fun c11 => ?_) (fun c11 => ?_)
  · replace hf := mj_pos c11 hf
    exact jtX7_begin_66 hR F I L r18 r19 r20 r21 r22 r23 r24 r25 r26 r27 r28 x1 x2 x5 o hf hq
  · replace hf := mj_neg c11 hf
    refine mj_aload_n 0 dX7_begin_58 rfl ?_
    refine mj_getP p0_18_7 (by decide) fl_X7_30 rfl s0_18 a0_18 dX7_begin_59 ?_
    refine mj_iload_n 2 dX7_begin_62 rfl ?_
    refine mj_iload 3 dX7_begin_63 rfl ?_
    obtain ⟨z12, hf⟩ := mj_ck hf
    refine mj_iastr [(18, r18), (19, r19), (20, r20), (21, r21), (22, r22), (23, r23), (24, r24), (25, (upd r25 x2.toNatClampNeg x5)), (26, r26), (27, r27), (28, r28)] rfl s0_25 a0_25 z12 dX7_begin_65 ?_
    exact jtX7_begin_66 hR F I L r18 r19 r20 r21 r22 r23 r24 (upd r25 x2.toNatClampNeg x5) r26 r27 r28 x1 x2 x5 o hf hq
set_option maxRecDepth 100000 in
set_option maxHeartbeats 4000000 in
theorem mtX7_begin {X : mj_XT} {l : Launch} {G : mj_GT} {ad : Nat → Nat} {Qn : Option Value → mj_IT → mj_LT → Prop} (hR : mj_R X l G mj_P0 mj_S0 98 ad 0 0 Qn) (F : Nat) (I : mj_IT) (L : mj_LT) (r18 : Nat → Int32) (r19 : Nat → Int32) (r20 : Nat → Int32) (r21 : Nat → Int32) (r22 : Nat → Int32) (r23 : Nat → Int32) (r24 : Nat → Int32) (r25 : Nat → Int32) (r26 : Nat → Int32) (r27 : Nat → Int32) (r28 : Nat → Int32) (x1 : Int32) (x2 : Int32) (x3 : Int32) (x4 : Int32) (o : ((Int32) × (Nat → Int32) × (Nat → Int32) × (Nat → Int32) × (Nat → Int32) × (Nat → Int32) × (Nat → Int32) × (Nat → Int32) × (Nat → Int32) × (Nat → Int32) × (Nat → Int32) × (Nat → Int32))) (hf : fnX7_begin F r18 r19 r20 r21 r22 r23 r24 r25 r26 r27 r28 x1 x2 x3 x4 = some o) (hq : (mj_u2 (fun ov => (mj_u2 (fun r18 => (mj_u2 (fun r19 => (mj_u2 (fun r20 => (mj_u2 (fun r21 => (mj_u2 (fun r22 => (mj_u2 (fun r23 => (mj_u2 (fun r24 => (mj_u2 (fun r25 => (mj_u2 (fun r26 => (mj_u2 (fun r27 r28 => Qn (some (.int ov)) (mj_rows I [(18, r18), (19, r19), (20, r20), (21, r21), (22, r22), (23, r23), (24, r24), (25, r25), (26, r26), (27, r27), (28, r28)]) L)))))))))))))))))))))) o) : mj_W X G RX7 "begin" cX7_begin 6 1 (some .int) mj_P0 mj_S0 98 ad 0 0 0 [(0, .ref 18), (1, .int x1), (2, .int x2), (3, .int x3), (4, .int x4)] [] (mj_rows I [(18, r18), (19, r19), (20, r20), (21, r21), (22, r22), (23, r23), (24, r24), (25, r25), (26, r26), (27, r27), (28, r28)]) L := by
  unfold fnX7_begin at hf
  refine mj_aload_n 0 dX7_begin_0 rfl ?_
  refine mj_getIv (v := (r18 0)) rfl fl_X7_42 rfl s0_18 a0_18 dX7_begin_1 ?_
  refine mj_istore [(5, .int (r18 0)), (0, .ref 18), (1, .int x1), (2, .int x2), (3, .int x3), (4, .int x4)] dX7_begin_4 (by decide) rfl ?_
  refine mj_aload_n 1 dX7_begin_6 rfl ?_
  refine mj_dup dX7_begin_7 rfl ?_
  refine mj_getIv (v := (r18 0)) rfl fl_X7_42 rfl s0_18 a0_18 dX7_begin_8 ?_
  refine mj_iconst dX7_begin_11 kc_iconst_1 ?_
  refine mj_iadd dX7_begin_12 ?_
  refine mj_putIr (ci := 5) (j := 0) [(18, (upd r18 0 ((r18 0) + (1 : Int32)))), (19, r19), (20, r20), (21, r21), (22, r22), (23, r23), (24, r24), (25, r25), (26, r26), (27, r27), (28, r28)] rfl ⟨rfl, rfl⟩ fl_X7_42 rfl rfl s0_18 a0_18 dX7_begin_13 ?_
  refine mj_iload_n 4 dX7_begin_16 rfl ?_
  refine mj_iconst dX7_begin_17 kc_iconst_m1 ?_
  refine mj_icmp_eq 32 dX7_begin_18 (by decide) (fun c13 => ?_) (fun c13 => ?_)
  · replace hf := mj_pos c13 hf
    refine mj_iload_n 3 dX7_begin_32 rfl ?_
    refine mj_iconst dX7_begin_33 kc_iconst_m1 ?_
    refine mj_icmp_eq 53 dX7_begin_34 (by decide) (fun c14 => ?_) (fun c14 => ?_)
    · replace hf := mj_pos c14 hf
      refine mj_sub [1, 2, 3, 0] [(0, .ref 18), (1, .int x1), (2, .int x2), (5, .int (r18 0))] rfl ?_
      exact jtX7_begin_53 hR F I L (upd r18 0 ((r18 0) + (1 : Int32))) r19 r20 r21 r22 r23 r24 r25 r26 r27 r28 x1 x2 (r18 0) o hf hq
    · replace hf := mj_neg c14 hf
      refine mj_iload 5 dX7_begin_37 rfl ?_
      refine mj_if_eq 53 dX7_begin_39 (by decide) (fun c15 => ?_) (fun c15 => ?_)
      · replace hf := mj_pos c15 hf
        refine mj_sub [1, 2, 3, 0] [(0, .ref 18), (1, .int x1), (2, .int x2), (5, .int (r18 0))] rfl ?_
        exact jtX7_begin_53 hR F I L (upd r18 0 ((r18 0) + (1 : Int32))) r19 r20 r21 r22 r23 r24 r25 r26 r27 r28 x1 x2 (r18 0) o hf hq
      · replace hf := mj_neg c15 hf
        refine mj_aload_n 1 dX7_begin_42 rfl ?_
        refine mj_getP p0_18_8 (by decide) fl_X7_33 rfl s0_18 a0_18 dX7_begin_43 ?_
        refine mj_iload_n 3 dX7_begin_46 rfl ?_
        refine mj_iload 0 dX7_begin_47 rfl ?_
        obtain ⟨z16, hf⟩ := mj_ck hf
        refine mj_iastr [(18, (upd r18 0 ((r18 0) + (1 : Int32)))), (19, r19), (20, r20), (21, r21), (22, r22), (23, r23), (24, r24), (25, r25), (26, (upd r26 x2.toNatClampNeg (r18 0))), (27, r27), (28, r28)] rfl s0_26 a0_26 z16 dX7_begin_49 ?_
        refine mj_goto 66 dX7_begin_50 (by decide) ?_
        refine mj_sub [1, 2, 3, 0] [(0, .ref 18), (1, .int x1), (2, .int x2), (5, .int (r18 0))] rfl ?_
        exact jtX7_begin_66 hR F I L (upd r18 0 ((r18 0) + (1 : Int32))) r19 r20 r21 r22 r23 r24 r25 (upd r26 x2.toNatClampNeg (r18 0)) r27 r28 x1 x2 (r18 0) o hf hq
  · replace hf := mj_neg c13 hf
    refine mj_aload_n 1 dX7_begin_21 rfl ?_
    refine mj_getP p0_18_10 (by decide) fl_X7_39 rfl s0_18 a0_18 dX7_begin_22 ?_
    refine mj_iload_n 4 dX7_begin_25 rfl ?_
    refine mj_iload 0 dX7_begin_26 rfl ?_
    obtain ⟨z17, hf⟩ := mj_ck hf
    refine mj_iastr [(18, (upd r18 0 ((r18 0) + (1 : Int32)))), (19, r19), (20, r20), (21, r21), (22, r22), (23, r23), (24, r24), (25, r25), (26, r26), (27, r27), (28, (upd r28 x3.toNatClampNeg (r18 0)))] rfl s0_28 a0_28 z17 dX7_begin_28 ?_
    refine mj_goto 66 dX7_begin_29 (by decide) ?_
    refine mj_sub [1, 2, 3, 0] [(0, .ref 18), (1, .int x1), (2, .int x2), (5, .int (r18 0))] rfl ?_
    exact jtX7_begin_66 hR F I L (upd r18 0 ((r18 0) + (1 : Int32))) r19 r20 r21 r22 r23 r24 r25 r26 r27 (upd r28 x3.toNatClampNeg (r18 0)) x1 x2 (r18 0) o hf hq
set_option maxRecDepth 100000 in
set_option maxHeartbeats 4000000 in
theorem cmX7_begin (l : Launch) (G : mj_GT) (F : Nat) (x1 : Int32) (x2 : Int32) (x3 : Int32) (x4 : Int32) (I : mj_IT) (L : mj_LT) (r18 : Nat → Int32) (r19 : Nat → Int32) (r20 : Nat → Int32) (r21 : Nat → Int32) (r22 : Nat → Int32) (r23 : Nat → Int32) (r24 : Nat → Int32) (r25 : Nat → Int32) (r26 : Nat → Int32) (r27 : Nat → Int32) (r28 : Nat → Int32) (hr18 : I 18 = r18) (hr19 : I 19 = r19) (hr20 : I 20 = r20) (hr21 : I 21 = r21) (hr22 : I 22 = r22) (hr23 : I 23 = r23) (hr24 : I 24 = r24) (hr25 : I 25 = r25) (hr26 : I 26 = r26) (hr27 : I 27 = r27) (hr28 : I 28 = r28) (o : ((Int32) × (Nat → Int32) × (Nat → Int32) × (Nat → Int32) × (Nat → Int32) × (Nat → Int32) × (Nat → Int32) × (Nat → Int32) × (Nat → Int32) × (Nat → Int32) × (Nat → Int32) × (Nat → Int32))) (hf : fnX7_begin F r18 r19 r20 r21 r22 r23 r24 r25 r26 r27 r28 x1 x2 x3 x4 = some o) : mj_M l G yX7_begin cX7_begin 6 1 (some .int) 0 0 mj_P0 mj_S0 98 [.ref 18, .int x1, .int x2, .int x3, .int x4] I L (mj_qd (some (.int o.1)) (mj_rows I [(18, o.2.1), (19, o.2.2.1), (20, o.2.2.2.1), (21, o.2.2.2.2.1), (22, o.2.2.2.2.2.1), (23, o.2.2.2.2.2.2.1), (24, o.2.2.2.2.2.2.2.1), (25, o.2.2.2.2.2.2.2.2.1), (26, o.2.2.2.2.2.2.2.2.2.1), (27, o.2.2.2.2.2.2.2.2.2.2.1), (28, o.2.2.2.2.2.2.2.2.2.2.2)]) L) := by
  refine mj_in RX7 "begin" [(0, .ref 18), (1, .int x1), (2, .int x2), (3, .int x3), (4, .int x4)] rfl rfl rfl (by decide) (Nat.le_of_ble_eq_true rfl) (fun X ad hR => ?_)
  refine mj_toI [(18, r18), (19, r19), (20, r20), (21, r21), (22, r22), (23, r23), (24, r24), (25, r25), (26, r26), (27, r27), (28, r28)] (by intro q hq; simp only [List.mem_cons, List.not_mem_nil, or_false] at hq; rcases hq with rfl | rfl | rfl | rfl | rfl | rfl | rfl | rfl | rfl | rfl | rfl <;> assumption) ?_
  refine mtX7_begin hR F I L r18 r19 r20 r21 r22 r23 r24 r25 r26 r27 r28 x1 x2 x3 x4 o hf ?_
  obtain ⟨w0, w1, w2, w3, w4, w5, w6, w7, w8, w9, w10, w11⟩ := o
  refine mj_u2q ?_
  refine mj_u2q ?_
  refine mj_u2q ?_
  refine mj_u2q ?_
  refine mj_u2q ?_
  refine mj_u2q ?_
  refine mj_u2q ?_
  refine mj_u2q ?_
  refine mj_u2q ?_
  refine mj_u2q ?_
  refine mj_u2q ?_
  exact ⟨rfl, rfl, rfl⟩

-- X7_sum
def fnX7_sum (F : Nat) (x0 : Int32) (x1 : Int32) (x2 : Int32) : Option ((Int32)) := some ((x0 + ((16 : Int32) * x2)) + ((256 : Int32) * x1))
set_option maxRecDepth 100000 in
set_option maxHeartbeats 4000000 in
theorem mtX7_sum {X : mj_XT} {l : Launch} {G : mj_GT} {ad : Nat → Nat} {Qn : Option Value → mj_IT → mj_LT → Prop} (hR : mj_R X l G mj_P0 mj_S0 98 ad 0 0 Qn) (F : Nat) (I : mj_IT) (L : mj_LT) (x0 : Int32) (x1 : Int32) (x2 : Int32) (o : ((Int32))) (hf : fnX7_sum F x0 x1 x2 = some o) (hq : (fun ov => Qn (some (.int ov)) I L) o) : mj_W X G RX7 "sum" cX7_sum 3 1 (some .int) mj_P0 mj_S0 98 ad 0 0 0 [(0, .int x0), (1, .int x1), (2, .int x2)] [] I L := by
  unfold fnX7_sum at hf
  refine mj_iload_n 0 dX7_sum_0 rfl ?_
  refine mj_bipush dX7_sum_1 kc_bipush_16 ?_
  refine mj_iload_n 2 dX7_sum_3 rfl ?_
  refine mj_imul dX7_sum_4 ?_
  refine mj_iadd dX7_sum_5 ?_
  refine mj_sipush dX7_sum_6 kc_sipush_256 ?_
  refine mj_iload_n 1 dX7_sum_9 rfl ?_
  refine mj_imul dX7_sum_10 ?_
  refine mj_iadd dX7_sum_11 ?_
  obtain rfl := Option.some.inj hf
  have hZ := hq
  exact mj_iret hR ⟨Nat.le_refl _, Nat.le_refl _⟩ rfl rfl dX7_sum_12 hZ
set_option maxRecDepth 100000 in
set_option maxHeartbeats 4000000 in
theorem cmX7_sum (l : Launch) (G : mj_GT) (F : Nat) (x0 : Int32) (x1 : Int32) (x2 : Int32) (I : mj_IT) (L : mj_LT) (o : ((Int32))) (hf : fnX7_sum F x0 x1 x2 = some o) : mj_M l G yX7_sum cX7_sum 3 1 (some .int) 0 0 mj_P0 mj_S0 98 [.int x0, .int x1, .int x2] I L (mj_qd (some (.int o)) I L) := by
  refine mj_in RX7 "sum" [(0, .int x0), (1, .int x1), (2, .int x2)] rfl rfl rfl (by decide) (Nat.le_of_ble_eq_true rfl) (fun X ad hR => ?_)
  refine mtX7_sum hR F I L x0 x1 x2 o hf ?_
  exact ⟨rfl, rfl, rfl⟩

-- X7_placeBehind
def fnX7_placeBehind (F : Nat) (r18 : Nat → Int32) (r19 : Nat → Int32) (r27 : Nat → Int32) (r28 : Nat → Int32) (x1 : Int32) : Option ((Int32)) := (if mj_ib x1 40 = true then (if (r28 x1.toNatClampNeg) = (-1 : Int32) then (if mj_ib x1 40 = true then (if (r27 x1.toNatClampNeg) = (-1 : Int32) then some (r18 0) else (if mj_ib (r27 x1.toNatClampNeg) 40 = true then (if (r19 ((r27 x1.toNatClampNeg).toNatClampNeg)) = (4 : Int32) then some (r27 x1.toNatClampNeg) else (if mj_ib (r27 x1.toNatClampNeg) 40 = true then some (r28 ((r27 x1.toNatClampNeg).toNatClampNeg)) else none)) else none)) else none) else (if mj_ib x1 40 = true then some (r28 x1.toNatClampNeg) else none)) else none)
set_option maxRecDepth 100000 in
set_option maxHeartbeats 4000000 in
theorem mtX7_placeBehind {X : mj_XT} {l : Launch} {G : mj_GT} {ad : Nat → Nat} {Qn : Option Value → mj_IT → mj_LT → Prop} (hR : mj_R X l G mj_P0 mj_S0 98 ad 0 0 Qn) (F : Nat) (I : mj_IT) (L : mj_LT) (r18 : Nat → Int32) (r19 : Nat → Int32) (r27 : Nat → Int32) (r28 : Nat → Int32) (x1 : Int32) (o : ((Int32))) (hf : fnX7_placeBehind F r18 r19 r27 r28 x1 = some o) (hq : (fun ov => Qn (some (.int ov)) (mj_rows I [(18, r18), (19, r19), (27, r27), (28, r28)]) L) o) : mj_W X G RX7 "placeBehind" cX7_placeBehind 3 1 (some .int) mj_P0 mj_S0 98 ad 0 0 0 [(0, .ref 18), (1, .int x1)] [] (mj_rows I [(18, r18), (19, r19), (27, r27), (28, r28)]) L := by
  unfold fnX7_placeBehind at hf
  refine mj_aload_n 0 dX7_placeBehind_0 rfl ?_
  refine mj_getP p0_18_10 (by decide) fl_X7_39 rfl s0_18 a0_18 dX7_placeBehind_1 ?_
  refine mj_iload_n 1 dX7_placeBehind_4 rfl ?_
  obtain ⟨z1, hf⟩ := mj_ck hf
  refine mj_ialdv (x := r28) rfl s0_28 a0_28 z1 dX7_placeBehind_5 ?_
  refine mj_iconst dX7_placeBehind_6 kc_iconst_m1 ?_
  refine mj_icmp_eq 17 dX7_placeBehind_7 (by decide) (fun c2 => ?_) (fun c2 => ?_)
  · replace hf := mj_pos c2 hf
    refine mj_aload_n 0 dX7_placeBehind_17 rfl ?_
    refine mj_getP p0_18_9 (by decide) fl_X7_36 rfl s0_18 a0_18 dX7_placeBehind_18 ?_
    refine mj_iload_n 1 dX7_placeBehind_21 rfl ?_
    obtain ⟨z3, hf⟩ := mj_ck hf
    refine mj_ialdv (x := r27) rfl s0_27 a0_27 z3 dX7_placeBehind_22 ?_
    refine mj_istore_n [(2, .int (r27 x1.toNatClampNeg)), (0, .ref 18), (1, .int x1)] dX7_placeBehind_23 rfl (by decide) rfl ?_
    refine mj_iload_n 0 dX7_placeBehind_24 rfl ?_
    refine mj_iconst dX7_placeBehind_25 kc_iconst_m1 ?_
    refine mj_icmp_ne 34 dX7_placeBehind_26 (by decide) (fun c4 => ?_) (fun c4 => ?_)
    · replace hf := mj_neg c4 hf
      refine mj_aload_n 1 dX7_placeBehind_34 rfl ?_
      refine mj_getP p0_18_1 (by decide) fl_X7_9 rfl s0_18 a0_18 dX7_placeBehind_35 ?_
      refine mj_iload_n 0 dX7_placeBehind_38 rfl ?_
      obtain ⟨z5, hf⟩ := mj_ck hf
      refine mj_ialdv (x := r19) rfl s0_19 a0_19 z5 dX7_placeBehind_39 ?_
      refine mj_iconst dX7_placeBehind_40 kc_iconst_4 ?_
      refine mj_icmp_ne 48 dX7_placeBehind_41 (by decide) (fun c6 => ?_) (fun c6 => ?_)
      · replace hf := mj_neg c6 hf
        refine mj_aload_n 1 dX7_placeBehind_48 rfl ?_
        refine mj_getP p0_18_10 (by decide) fl_X7_39 rfl s0_18 a0_18 dX7_placeBehind_49 ?_
        refine mj_iload_n 0 dX7_placeBehind_52 rfl ?_
        obtain ⟨z7, hf⟩ := mj_ck hf
        refine mj_ialdv (x := r28) rfl s0_28 a0_28 z7 dX7_placeBehind_53 ?_
        obtain rfl := Option.some.inj hf
        have hZ := hq
        exact mj_iret hR ⟨Nat.le_refl _, Nat.le_refl _⟩ rfl rfl dX7_placeBehind_54 hZ
      · replace hf := mj_pos c6 hf
        refine mj_iload_n 0 dX7_placeBehind_44 rfl ?_
        refine mj_goto 54 dX7_placeBehind_45 (by decide) ?_
        obtain rfl := Option.some.inj hf
        have hZ := hq
        exact mj_iret hR ⟨Nat.le_refl _, Nat.le_refl _⟩ rfl rfl dX7_placeBehind_54 hZ
    · replace hf := mj_pos c4 hf
      refine mj_aload_n 1 dX7_placeBehind_29 rfl ?_
      refine mj_getIv (v := (r18 0)) rfl fl_X7_42 rfl s0_18 a0_18 dX7_placeBehind_30 ?_
      obtain rfl := Option.some.inj hf
      have hZ := hq
      exact mj_iret hR ⟨Nat.le_refl _, Nat.le_refl _⟩ rfl rfl dX7_placeBehind_33 hZ
  · replace hf := mj_neg c2 hf
    refine mj_aload_n 0 dX7_placeBehind_10 rfl ?_
    refine mj_getP p0_18_10 (by decide) fl_X7_39 rfl s0_18 a0_18 dX7_placeBehind_11 ?_
    refine mj_iload_n 1 dX7_placeBehind_14 rfl ?_
    obtain ⟨z8, hf⟩ := mj_ck hf
    refine mj_ialdv (x := r28) rfl s0_28 a0_28 z8 dX7_placeBehind_15 ?_
    obtain rfl := Option.some.inj hf
    have hZ := hq
    exact mj_iret hR ⟨Nat.le_refl _, Nat.le_refl _⟩ rfl rfl dX7_placeBehind_16 hZ
set_option maxRecDepth 100000 in
set_option maxHeartbeats 4000000 in
theorem cmX7_placeBehind (l : Launch) (G : mj_GT) (F : Nat) (x1 : Int32) (I : mj_IT) (L : mj_LT) (r18 : Nat → Int32) (r19 : Nat → Int32) (r27 : Nat → Int32) (r28 : Nat → Int32) (hr18 : I 18 = r18) (hr19 : I 19 = r19) (hr27 : I 27 = r27) (hr28 : I 28 = r28) (o : ((Int32))) (hf : fnX7_placeBehind F r18 r19 r27 r28 x1 = some o) : mj_M l G yX7_placeBehind cX7_placeBehind 3 1 (some .int) 0 0 mj_P0 mj_S0 98 [.ref 18, .int x1] I L (mj_qd (some (.int o)) (mj_rows I [(18, r18), (19, r19), (27, r27), (28, r28)]) L) := by
  refine mj_in RX7 "placeBehind" [(0, .ref 18), (1, .int x1)] rfl rfl rfl (by decide) (Nat.le_of_ble_eq_true rfl) (fun X ad hR => ?_)
  refine mj_toI [(18, r18), (19, r19), (27, r27), (28, r28)] (by intro q hq; simp only [List.mem_cons, List.not_mem_nil, or_false] at hq; rcases hq with rfl | rfl | rfl | rfl <;> assumption) ?_
  refine mtX7_placeBehind hR F I L r18 r19 r27 r28 x1 o hf ?_
  exact ⟨rfl, rfl, rfl⟩

-- X7_link
def bdX7_link_2 (F : Nat) (r18 : Nat → Int32) (r19 : Nat → Int32) (r27 : Nat → Int32) (x1 : Int32) (r28 : Nat → Int32) : Option (((Int32) × (Nat → Int32)) ⊕ ((Nat → Int32))) := (if (r18 0) ≤ x1 then some (.inr r28) else (fnX7_placeBehind F r18 r19 r27 r28 x1).bind (fun o2 => (if mj_ib x1 40 = true then some (.inl ((x1 + (1)), (upd r28 x1.toNatClampNeg o2))) else none)))
def jnX7_link_94 (F : Nat) (r18 : Nat → Int32) (r19 : Nat → Int32) (r28 : Nat → Int32) (x1 : Int32) (x2 : Int32) (r25 : Nat → Int32) (r26 : Nat → Int32) : Option (((Int32) × (Nat → Int32) × (Nat → Int32)) ⊕ ((Nat → Int32) × (Nat → Int32))) := (if x2 = (5 : Int32) then (if mj_ib x1 40 = true then some (.inl ((x1 + (1)), r25, (upd r26 x1.toNatClampNeg ((r18 0) + (1 : Int32))))) else none) else (if mj_ib x1 40 = true then (if (r26 x1.toNatClampNeg) = (-1 : Int32) then (if x2 = (2 : Int32) then (if mj_ib x1 40 = true then (if mj_ib x1 40 = true then some (.inl ((x1 + (1)), r25, (upd r26 x1.toNatClampNeg (r28 x1.toNatClampNeg)))) else none) else none) else (if x2 = (3 : Int32) then (if mj_ib x1 40 = true then (if mj_ib x1 40 = true then some (.inl ((x1 + (1)), r25, (upd r26 x1.toNatClampNeg (r28 x1.toNatClampNeg)))) else none) else none) else (if x2 = (4 : Int32) then (if mj_ib x1 40 = true then (if mj_ib x1 40 = true then some (.inl ((x1 + (1)), r25, (upd r26 x1.toNatClampNeg (r28 x1.toNatClampNeg)))) else none) else none) else some (.inl ((x1 + (1)), r25, r26))))) else some (.inl ((x1 + (1)), r25, r26))) else none))
def jnX7_link_93 (F : Nat) (r18 : Nat → Int32) (r19 : Nat → Int32) (r28 : Nat → Int32) (x1 : Int32) (x2 : Int32) (t1 : Int32) (t2 : Int32) (r25 : Nat → Int32) (r26 : Nat → Int32) : Option (((Int32) × (Nat → Int32) × (Nat → Int32)) ⊕ ((Nat → Int32) × (Nat → Int32))) := (if mj_ib t1 40 = true then jnX7_link_94 F r18 r19 r28 x1 x2 (upd r25 t1.toNatClampNeg t2) r26 else none)
def bdX7_link_29 (F : Nat) (r18 : Nat → Int32) (r19 : Nat → Int32) (r28 : Nat → Int32) (x1 : Int32) (r25 : Nat → Int32) (r26 : Nat → Int32) : Option (((Int32) × (Nat → Int32) × (Nat → Int32)) ⊕ ((Nat → Int32) × (Nat → Int32))) := (if (r18 0) ≤ x1 then some (.inr (r25, r26)) else (if mj_ib x1 40 = true then (if (r19 x1.toNatClampNeg) = (6 : Int32) then (if mj_ib x1 40 = true then jnX7_link_94 F r18 r19 r28 x1 (r19 x1.toNatClampNeg) (upd r25 x1.toNatClampNeg (r18 0)) r26 else none) else (if mj_ib x1 40 = true then (if (r25 x1.toNatClampNeg) = (-1 : Int32) then (if (r19 x1.toNatClampNeg) = (4 : Int32) then jnX7_link_93 F r18 r19 r28 x1 (r19 x1.toNatClampNeg) x1 x1 r25 r26 else (if mj_ib x1 40 = true then jnX7_link_93 F r18 r19 r28 x1 (r19 x1.toNatClampNeg) x1 (r28 x1.toNatClampNeg) r25 r26 else none)) else jnX7_link_94 F r18 r19 r28 x1 (r19 x1.toNatClampNeg) r25 r26) else none)) else none))
def fnX7_link (F : Nat) (r18 : Nat → Int32) (r19 : Nat → Int32) (r25 : Nat → Int32) (r26 : Nat → Int32) (r27 : Nat → Int32) (r28 : Nat → Int32) : Option ((Nat → Int32) × (Nat → Int32) × (Nat → Int32)) := (mj_it (mj_u2 (fun z0 z1 => bdX7_link_2 F r18 r19 r27 z0 z1)) F ((0 : Int32), r28)).bind (fun r28_26 => (mj_it (mj_u2 (fun z0 => (mj_u2 (fun z1 z2 => bdX7_link_29 F r18 r19 r28_26 z0 z1 z2)))) F ((0 : Int32), r25, r26)).bind (mj_u2 (fun r25_27 r26_27 => some (r25_27, r26_27, r28_26))))
set_option maxRecDepth 100000 in
set_option maxHeartbeats 4000000 in
theorem lpX7_link_2 {X : mj_XT} {l : Launch} {G : mj_GT} {ad : Nat → Nat} {Qn : Option Value → mj_IT → mj_LT → Prop} (hR : mj_R X l G mj_P0 mj_S0 98 ad 0 0 Qn) (F : Nat) (I : mj_IT) (L : mj_LT) (r18 : Nat → Int32) (r19 : Nat → Int32) (r25 : Nat → Int32) (r26 : Nat → Int32) (r27 : Nat → Int32) (r28 : Nat → Int32) : ∀ (n : Nat) (s : ((Int32) × (Nat → Int32))) (e : ((Nat → Int32))), mj_it (mj_u2 (fun z0 z1 => bdX7_link_2 F r18 r19 r27 z0 z1)) n s = some e → (fun r28 => mj_W X G RX7 "link" cX7_link 3 2 none mj_P0 mj_S0 98 ad 0 0 27 [(0, .ref 18)] [] (mj_rows I [(18, r18), (19, r19), (25, r25), (26, r26), (27, r27), (28, r28)]) L) e → (mj_u2 (fun x1 r28 => mj_W X G RX7 "link" cX7_link 3 2 none mj_P0 mj_S0 98 ad 0 0 2 [(0, .ref 18), (1, .int x1)] [] (mj_rows I [(18, r18), (19, r19), (25, r25), (26, r26), (27, r27), (28, r28)]) L)) s := by
  refine mj_loop (fun s o hf hc hx => ?_)
  obtain ⟨x1, r28⟩ := s
  replace hf := mj_u2e hf
  refine mj_u2q ?_
  unfold bdX7_link_2 at hf
  refine mj_iload_n 1 dX7_link_2 rfl ?_
  refine mj_aload_n 0 dX7_link_3 rfl ?_
  refine mj_getIv (v := (r18 0)) rfl fl_X7_42 rfl s0_18 a0_18 dX7_link_4 ?_
  refine mj_icmp_ge 27 dX7_link_7 (by decide) (fun c1 => ?_) (fun c1 => ?_)
  · replace hf := mj_pos c1 hf
    refine mj_sub [0] [(0, .ref 18)] rfl ?_
    obtain rfl := Option.some.inj hf
    have hZ := hx r28 rfl
    exact hZ
  · replace hf := mj_neg c1 hf
    refine mj_aload_n 0 dX7_link_10 rfl ?_
    refine mj_getP p0_18_10 (by decide) fl_X7_39 rfl s0_18 a0_18 dX7_link_11 ?_
    refine mj_iload_n 1 dX7_link_14 rfl ?_
    refine mj_aload_n 0 dX7_link_15 rfl ?_
    refine mj_iload_n 1 dX7_link_16 rfl ?_
    obtain ⟨o2, ho2, hf⟩ := mj_bd hf
    refine mj_callVd (I2 := (mj_rows I [(18, r18), (19, r19), (25, r25), (26, r26), (27, r27), (28, r28)])) (L2 := L) (s1 := [.int o2, .int x1, .ref 28]) (st := [.int x1, .ref 28]) [.int x1] (cmX7_placeBehind X.2.1 G F x1 _ _ r18 r19 r27 r28 rfl rfl rfl rfl o2 ho2) (mj_rr rfl) rfl cw_X7_46 s0_18 a0_18 (by decide) rfl rfl (Nat.le_of_ble_eq_true rfl) ⟨Nat.zero_le _, Nat.zero_le _⟩ dX7_link_17 rfl ?_
    obtain ⟨z3, hf⟩ := mj_ck hf
    refine mj_iastr [(18, r18), (19, r19), (25, r25), (26, r26), (27, r27), (28, (upd r28 x1.toNatClampNeg o2))] rfl s0_28 a0_28 z3 dX7_link_20 ?_
    refine mj_iinc 1 [(1, .int (x1 + (1))), (0, .ref 18)] dX7_link_21 rfl (kz_1 _) (by decide) rfl ?_
    refine mj_goto 2 dX7_link_24 (by decide) ?_
    refine mj_sub [1, 0] [(0, .ref 18), (1, .int (x1 + (1)))] rfl ?_
    obtain rfl := Option.some.inj hf
    have hZ := hc ((x1 + (1)), (upd r28 x1.toNatClampNeg o2)) rfl
    replace hZ := mj_u2p hZ
    exact hZ
set_option maxRecDepth 100000 in
set_option maxHeartbeats 4000000 in
theorem jtX7_link_94 {X : mj_XT} {l : Launch} {G : mj_GT} {ad : Nat → Nat} {Qn : Option Value → mj_IT → mj_LT → Prop} (hR : mj_R X l G mj_P0 mj_S0 98 ad 0 0 Qn) (F : Nat) (I : mj_IT) (L : mj_LT) (r18 : Nat → Int32) (r19 : Nat → Int32) (r25 : Nat → Int32) (r26 : Nat → Int32) (r27 : Nat → Int32) (r28 : Nat → Int32) (x1 : Int32) (x2 : Int32) (o : (((Int32) × (Nat → Int32) × (Nat → Int32)) ⊕ ((Nat → Int32) × (Nat → Int32)))) (hf : jnX7_link_94 F r18 r19 r28 x1 x2 r25 r26 = some o) (hc : ∀ s2 : ((Int32) × (Nat → Int32) × (Nat → Int32)), o = .inl s2 → (mj_u2 (fun x1 => (mj_u2 (fun r25 r26 => mj_W X G RX7 "link" cX7_link 3 2 none mj_P0 mj_S0 98 ad 0 0 29 [(0, .ref 18), (1, .int x1)] [] (mj_rows I [(18, r18), (19, r19), (25, r25), (26, r26), (27, r27), (28, r28)]) L)))) s2) (hx : ∀ e2 : ((Nat → Int32) × (Nat → Int32)), o = .inr e2 → (mj_u2 (fun r25 r26 => mj_W X G RX7 "link" cX7_link 3 2 none mj_P0 mj_S0 98 ad 0 0 157 [] [] (mj_rows I [(18, r18), (19, r19), (25, r25), (26, r26), (27, r27), (28, r28)]) L)) e2) : mj_W X G RX7 "link" cX7_link 3 2 none mj_P0 mj_S0 98 ad 0 0 94 [(0, .ref 18), (1, .int x1), (2, .int x2)] [] (mj_rows I [(18, r18), (19, r19), (25, r25), (26, r26), (27, r27), (28, r28)]) L := by
  unfold jnX7_link_94 at hf
  refine mj_iload_n 2 dX7_link_94 rfl ?_
  refine mj_iconst dX7_link_95 kc_iconst_5 ?_
  refine mj_icmp_ne 114 dX7_link_96 (by decide) (fun c4 => ?_) (fun c4 => ?_)
  · replace hf := mj_neg c4 hf
    refine mj_aload_n 0 dX7_link_114 rfl ?_
    refine mj_getP p0_18_8 (by decide) fl_X7_33 rfl s0_18 a0_18 dX7_link_115 ?_
    refine mj_iload_n 1 dX7_link_118 rfl ?_
    obtain ⟨z5, hf⟩ := mj_ck hf
    refine mj_ialdv (x := r26) rfl s0_26 a0_26 z5 dX7_link_119 ?_
    refine mj_iconst dX7_link_120 kc_iconst_m1 ?_
    refine mj_icmp_ne 151 dX7_link_121 (by decide) (fun c6 => ?_) (fun c6 => ?_)
    · replace hf := mj_neg c6 hf
      refine mj_iinc 1 [(1, .int (x1 + (1))), (0, .ref 18), (2, .int x2)] dX7_link_151 rfl (kz_1 _) (by decide) rfl ?_
      refine mj_goto 29 dX7_link_154 (by decide) ?_
      refine mj_sub [1, 0] [(0, .ref 18), (1, .int (x1 + (1)))] rfl ?_
      obtain rfl := Option.some.inj hf
      have hZ := hc ((x1 + (1)), r25, r26) rfl
      replace hZ := mj_u2p hZ
      replace hZ := mj_u2p hZ
      exact hZ
    · replace hf := mj_pos c6 hf
      refine mj_iload_n 2 dX7_link_124 rfl ?_
      refine mj_iconst dX7_link_125 kc_iconst_2 ?_
      refine mj_icmp_eq 139 dX7_link_126 (by decide) (fun c7 => ?_) (fun c7 => ?_)
      · replace hf := mj_pos c7 hf
        refine mj_aload_n 0 dX7_link_139 rfl ?_
        refine mj_getP p0_18_8 (by decide) fl_X7_33 rfl s0_18 a0_18 dX7_link_140 ?_
        refine mj_iload_n 1 dX7_link_143 rfl ?_
        refine mj_aload_n 0 dX7_link_144 rfl ?_
        refine mj_getP p0_18_10 (by decide) fl_X7_39 rfl s0_18 a0_18 dX7_link_145 ?_
        refine mj_iload_n 1 dX7_link_148 rfl ?_
        obtain ⟨z8, hf⟩ := mj_ck hf
        refine mj_ialdv (x := r28) rfl s0_28 a0_28 z8 dX7_link_149 ?_
        obtain ⟨z9, hf⟩ := mj_ck hf
        refine mj_iastr [(18, r18), (19, r19), (25, r25), (26, (upd r26 x1.toNatClampNeg (r28 x1.toNatClampNeg))), (27, r27), (28, r28)] rfl s0_26 a0_26 z9 dX7_link_150 ?_
        refine mj_iinc 1 [(1, .int (x1 + (1))), (0, .ref 18), (2, .int x2)] dX7_link_151 rfl (kz_1 _) (by decide) rfl ?_
        refine mj_goto 29 dX7_link_154 (by decide) ?_
        refine mj_sub [1, 0] [(0, .ref 18), (1, .int (x1 + (1)))] rfl ?_
        obtain rfl := Option.some.inj hf
        have hZ := hc ((x1 + (1)), r25, (upd r26 x1.toNatClampNeg (r28 x1.toNatClampNeg))) rfl
        replace hZ := mj_u2p hZ
        replace hZ := mj_u2p hZ
        exact hZ
      · replace hf := mj_neg c7 hf
        refine mj_iload_n 2 dX7_link_129 rfl ?_
        refine mj_iconst dX7_link_130 kc_iconst_3 ?_
        refine mj_icmp_eq 139 dX7_link_131 (by decide) (fun c10 => ?_) (fun c10 => ?_)
        · replace hf := mj_pos c10 hf
          refine mj_aload_n 0 dX7_link_139 rfl ?_
          refine mj_getP p0_18_8 (by decide) fl_X7_33 rfl s0_18 a0_18 dX7_link_140 ?_
          refine mj_iload_n 1 dX7_link_143 rfl ?_
          refine mj_aload_n 0 dX7_link_144 rfl ?_
          refine mj_getP p0_18_10 (by decide) fl_X7_39 rfl s0_18 a0_18 dX7_link_145 ?_
          refine mj_iload_n 1 dX7_link_148 rfl ?_
          obtain ⟨z11, hf⟩ := mj_ck hf
          refine mj_ialdv (x := r28) rfl s0_28 a0_28 z11 dX7_link_149 ?_
          obtain ⟨z12, hf⟩ := mj_ck hf
          refine mj_iastr [(18, r18), (19, r19), (25, r25), (26, (upd r26 x1.toNatClampNeg (r28 x1.toNatClampNeg))), (27, r27), (28, r28)] rfl s0_26 a0_26 z12 dX7_link_150 ?_
          refine mj_iinc 1 [(1, .int (x1 + (1))), (0, .ref 18), (2, .int x2)] dX7_link_151 rfl (kz_1 _) (by decide) rfl ?_
          refine mj_goto 29 dX7_link_154 (by decide) ?_
          refine mj_sub [1, 0] [(0, .ref 18), (1, .int (x1 + (1)))] rfl ?_
          obtain rfl := Option.some.inj hf
          have hZ := hc ((x1 + (1)), r25, (upd r26 x1.toNatClampNeg (r28 x1.toNatClampNeg))) rfl
          replace hZ := mj_u2p hZ
          replace hZ := mj_u2p hZ
          exact hZ
        · replace hf := mj_neg c10 hf
          refine mj_iload_n 2 dX7_link_134 rfl ?_
          refine mj_iconst dX7_link_135 kc_iconst_4 ?_
          refine mj_icmp_ne 151 dX7_link_136 (by decide) (fun c13 => ?_) (fun c13 => ?_)
          · replace hf := mj_neg c13 hf
            refine mj_iinc 1 [(1, .int (x1 + (1))), (0, .ref 18), (2, .int x2)] dX7_link_151 rfl (kz_1 _) (by decide) rfl ?_
            refine mj_goto 29 dX7_link_154 (by decide) ?_
            refine mj_sub [1, 0] [(0, .ref 18), (1, .int (x1 + (1)))] rfl ?_
            obtain rfl := Option.some.inj hf
            have hZ := hc ((x1 + (1)), r25, r26) rfl
            replace hZ := mj_u2p hZ
            replace hZ := mj_u2p hZ
            exact hZ
          · replace hf := mj_pos c13 hf
            refine mj_aload_n 0 dX7_link_139 rfl ?_
            refine mj_getP p0_18_8 (by decide) fl_X7_33 rfl s0_18 a0_18 dX7_link_140 ?_
            refine mj_iload_n 1 dX7_link_143 rfl ?_
            refine mj_aload_n 0 dX7_link_144 rfl ?_
            refine mj_getP p0_18_10 (by decide) fl_X7_39 rfl s0_18 a0_18 dX7_link_145 ?_
            refine mj_iload_n 1 dX7_link_148 rfl ?_
            obtain ⟨z14, hf⟩ := mj_ck hf
            refine mj_ialdv (x := r28) rfl s0_28 a0_28 z14 dX7_link_149 ?_
            obtain ⟨z15, hf⟩ := mj_ck hf
            refine mj_iastr [(18, r18), (19, r19), (25, r25), (26, (upd r26 x1.toNatClampNeg (r28 x1.toNatClampNeg))), (27, r27), (28, r28)] rfl s0_26 a0_26 z15 dX7_link_150 ?_
            refine mj_iinc 1 [(1, .int (x1 + (1))), (0, .ref 18), (2, .int x2)] dX7_link_151 rfl (kz_1 _) (by decide) rfl ?_
            refine mj_goto 29 dX7_link_154 (by decide) ?_
            refine mj_sub [1, 0] [(0, .ref 18), (1, .int (x1 + (1)))] rfl ?_
            obtain rfl := Option.some.inj hf
            have hZ := hc ((x1 + (1)), r25, (upd r26 x1.toNatClampNeg (r28 x1.toNatClampNeg))) rfl
            replace hZ := mj_u2p hZ
            replace hZ := mj_u2p hZ
            exact hZ
  · replace hf := mj_pos c4 hf
    refine mj_aload_n 0 dX7_link_99 rfl ?_
    refine mj_getP p0_18_8 (by decide) fl_X7_33 rfl s0_18 a0_18 dX7_link_100 ?_
    refine mj_iload_n 1 dX7_link_103 rfl ?_
    refine mj_aload_n 0 dX7_link_104 rfl ?_
    refine mj_getIv (v := (r18 0)) rfl fl_X7_42 rfl s0_18 a0_18 dX7_link_105 ?_
    refine mj_iconst dX7_link_108 kc_iconst_1 ?_
    refine mj_iadd dX7_link_109 ?_
    obtain ⟨z16, hf⟩ := mj_ck hf
    refine mj_iastr [(18, r18), (19, r19), (25, r25), (26, (upd r26 x1.toNatClampNeg ((r18 0) + (1 : Int32)))), (27, r27), (28, r28)] rfl s0_26 a0_26 z16 dX7_link_110 ?_
    refine mj_goto 151 dX7_link_111 (by decide) ?_
    refine mj_iinc 1 [(1, .int (x1 + (1))), (0, .ref 18), (2, .int x2)] dX7_link_151 rfl (kz_1 _) (by decide) rfl ?_
    refine mj_goto 29 dX7_link_154 (by decide) ?_
    refine mj_sub [1, 0] [(0, .ref 18), (1, .int (x1 + (1)))] rfl ?_
    obtain rfl := Option.some.inj hf
    have hZ := hc ((x1 + (1)), r25, (upd r26 x1.toNatClampNeg ((r18 0) + (1 : Int32)))) rfl
    replace hZ := mj_u2p hZ
    replace hZ := mj_u2p hZ
    exact hZ
set_option maxRecDepth 100000 in
set_option maxHeartbeats 4000000 in
theorem jtX7_link_93 {X : mj_XT} {l : Launch} {G : mj_GT} {ad : Nat → Nat} {Qn : Option Value → mj_IT → mj_LT → Prop} (hR : mj_R X l G mj_P0 mj_S0 98 ad 0 0 Qn) (F : Nat) (I : mj_IT) (L : mj_LT) (r18 : Nat → Int32) (r19 : Nat → Int32) (r25 : Nat → Int32) (r26 : Nat → Int32) (r27 : Nat → Int32) (r28 : Nat → Int32) (x1 : Int32) (x2 : Int32) (t1 : Int32) (t2 : Int32) (o : (((Int32) × (Nat → Int32) × (Nat → Int32)) ⊕ ((Nat → Int32) × (Nat → Int32)))) (hf : jnX7_link_93 F r18 r19 r28 x1 x2 t1 t2 r25 r26 = some o) (hc : ∀ s2 : ((Int32) × (Nat → Int32) × (Nat → Int32)), o = .inl s2 → (mj_u2 (fun x1 => (mj_u2 (fun r25 r26 => mj_W X G RX7 "link" cX7_link 3 2 none mj_P0 mj_S0 98 ad 0 0 29 [(0, .ref 18), (1, .int x1)] [] (mj_rows I [(18, r18), (19, r19), (25, r25), (26, r26), (27, r27), (28, r28)]) L)))) s2) (hx : ∀ e2 : ((Nat → Int32) × (Nat → Int32)), o = .inr e2 → (mj_u2 (fun r25 r26 => mj_W X G RX7 "link" cX7_link 3 2 none mj_P0 mj_S0 98 ad 0 0 157 [] [] (mj_rows I [(18, r18), (19, r19), (25, r25), (26, r26), (27, r27), (28, r28)]) L)) e2) : mj_W X G RX7 "link" cX7_link 3 2 none mj_P0 mj_S0 98 ad 0 0 93 [(0, .ref 18), (1, .int x1), (2, .int x2)] [.int t2, .int t1, .ref 25] (mj_rows I [(18, r18), (19, r19), (25, r25), (26, r26), (27, r27), (28, r28)]) L := by
  unfold jnX7_link_93 at hf
  obtain ⟨z17, hf⟩ := mj_ck hf
  refine mj_iastr [(18, r18), (19, r19), (25, (upd r25 t1.toNatClampNeg t2)), (26, r26), (27, r27), (28, r28)] rfl s0_25 a0_25 z17 dX7_link_93 ?_
  exact jtX7_link_94 hR F I L r18 r19 (upd r25 t1.toNatClampNeg t2) r26 r27 r28 x1 x2 o hf hc hx
set_option maxRecDepth 100000 in
set_option maxHeartbeats 4000000 in
theorem lpX7_link_29 {X : mj_XT} {l : Launch} {G : mj_GT} {ad : Nat → Nat} {Qn : Option Value → mj_IT → mj_LT → Prop} (hR : mj_R X l G mj_P0 mj_S0 98 ad 0 0 Qn) (F : Nat) (I : mj_IT) (L : mj_LT) (r18 : Nat → Int32) (r19 : Nat → Int32) (r25 : Nat → Int32) (r26 : Nat → Int32) (r27 : Nat → Int32) (r28 : Nat → Int32) : ∀ (n : Nat) (s : ((Int32) × (Nat → Int32) × (Nat → Int32))) (e : ((Nat → Int32) × (Nat → Int32))), mj_it (mj_u2 (fun z0 => (mj_u2 (fun z1 z2 => bdX7_link_29 F r18 r19 r28 z0 z1 z2)))) n s = some e → (mj_u2 (fun r25 r26 => mj_W X G RX7 "link" cX7_link 3 2 none mj_P0 mj_S0 98 ad 0 0 157 [] [] (mj_rows I [(18, r18), (19, r19), (25, r25), (26, r26), (27, r27), (28, r28)]) L)) e → (mj_u2 (fun x1 => (mj_u2 (fun r25 r26 => mj_W X G RX7 "link" cX7_link 3 2 none mj_P0 mj_S0 98 ad 0 0 29 [(0, .ref 18), (1, .int x1)] [] (mj_rows I [(18, r18), (19, r19), (25, r25), (26, r26), (27, r27), (28, r28)]) L)))) s := by
  refine mj_loop (fun s o hf hc hx => ?_)
  obtain ⟨x1, r25, r26⟩ := s
  replace hf := mj_u2e hf
  refine mj_u2q ?_
  replace hf := mj_u2e hf
  refine mj_u2q ?_
  unfold bdX7_link_29 at hf
  refine mj_iload_n 1 dX7_link_29 rfl ?_
  refine mj_aload_n 0 dX7_link_30 rfl ?_
  refine mj_getIv (v := (r18 0)) rfl fl_X7_42 rfl s0_18 a0_18 dX7_link_31 ?_
  refine mj_icmp_ge 157 dX7_link_34 (by decide) (fun c18 => ?_) (fun c18 => ?_)
  · replace hf := mj_pos c18 hf
    refine mj_sub [] [] rfl ?_
    obtain rfl := Option.some.inj hf
    have hZ := hx (r25, r26) rfl
    replace hZ := mj_u2p hZ
    exact hZ
  · replace hf := mj_neg c18 hf
    refine mj_aload_n 0 dX7_link_37 rfl ?_
    refine mj_getP p0_18_1 (by decide) fl_X7_9 rfl s0_18 a0_18 dX7_link_38 ?_
    refine mj_iload_n 1 dX7_link_41 rfl ?_
    obtain ⟨z19, hf⟩ := mj_ck hf
    refine mj_ialdv (x := r19) rfl s0_19 a0_19 z19 dX7_link_42 ?_
    refine mj_istore_n [(2, .int (r19 x1.toNatClampNeg)), (0, .ref 18), (1, .int x1)] dX7_link_43 rfl (by decide) rfl ?_
    refine mj_iload_n 0 dX7_link_44 rfl ?_
    refine mj_bipush dX7_link_45 kc_bipush_6 ?_
    refine mj_icmp_ne 63 dX7_link_47 (by decide) (fun c20 => ?_) (fun c20 => ?_)
    · replace hf := mj_neg c20 hf
      refine mj_aload_n 1 dX7_link_63 rfl ?_
      refine mj_getP p0_18_7 (by decide) fl_X7_30 rfl s0_18 a0_18 dX7_link_64 ?_
      refine mj_iload_n 2 dX7_link_67 rfl ?_
      obtain ⟨z21, hf⟩ := mj_ck hf
      refine mj_ialdv (x := r25) rfl s0_25 a0_25 z21 dX7_link_68 ?_
      refine mj_iconst dX7_link_69 kc_iconst_m1 ?_
      refine mj_icmp_ne 94 dX7_link_70 (by decide) (fun c22 => ?_) (fun c22 => ?_)
      · replace hf := mj_neg c22 hf
        refine mj_sub [1, 2, 0] [(0, .ref 18), (1, .int x1), (2, .int (r19 x1.toNatClampNeg))] rfl ?_
        exact jtX7_link_94 hR F I L r18 r19 r25 r26 r27 r28 x1 (r19 x1.toNatClampNeg) o hf hc hx
      · replace hf := mj_pos c22 hf
        refine mj_aload_n 1 dX7_link_73 rfl ?_
        refine mj_getP p0_18_7 (by decide) fl_X7_30 rfl s0_18 a0_18 dX7_link_74 ?_
        refine mj_iload_n 2 dX7_link_77 rfl ?_
        refine mj_iload_n 0 dX7_link_78 rfl ?_
        refine mj_iconst dX7_link_79 kc_iconst_4 ?_
        refine mj_icmp_ne 87 dX7_link_80 (by decide) (fun c23 => ?_) (fun c23 => ?_)
        · replace hf := mj_neg c23 hf
          refine mj_aload_n 1 dX7_link_87 rfl ?_
          refine mj_getP p0_18_10 (by decide) fl_X7_39 rfl s0_18 a0_18 dX7_link_88 ?_
          refine mj_iload_n 2 dX7_link_91 rfl ?_
          obtain ⟨z24, hf⟩ := mj_ck hf
          refine mj_ialdv (x := r28) rfl s0_28 a0_28 z24 dX7_link_92 ?_
          refine mj_sub [1, 2, 0] [(0, .ref 18), (1, .int x1), (2, .int (r19 x1.toNatClampNeg))] rfl ?_
          exact jtX7_link_93 hR F I L r18 r19 r25 r26 r27 r28 x1 (r19 x1.toNatClampNeg) x1 (r28 x1.toNatClampNeg) o hf hc hx
        · replace hf := mj_pos c23 hf
          refine mj_iload_n 2 dX7_link_83 rfl ?_
          refine mj_goto 93 dX7_link_84 (by decide) ?_
          refine mj_sub [1, 2, 0] [(0, .ref 18), (1, .int x1), (2, .int (r19 x1.toNatClampNeg))] rfl ?_
          exact jtX7_link_93 hR F I L r18 r19 r25 r26 r27 r28 x1 (r19 x1.toNatClampNeg) x1 x1 o hf hc hx
    · replace hf := mj_pos c20 hf
      refine mj_aload_n 1 dX7_link_50 rfl ?_
      refine mj_getP p0_18_7 (by decide) fl_X7_30 rfl s0_18 a0_18 dX7_link_51 ?_
      refine mj_iload_n 2 dX7_link_54 rfl ?_
      refine mj_aload_n 1 dX7_link_55 rfl ?_
      refine mj_getIv (v := (r18 0)) rfl fl_X7_42 rfl s0_18 a0_18 dX7_link_56 ?_
      obtain ⟨z25, hf⟩ := mj_ck hf
      refine mj_iastr [(18, r18), (19, r19), (25, (upd r25 x1.toNatClampNeg (r18 0))), (26, r26), (27, r27), (28, r28)] rfl s0_25 a0_25 z25 dX7_link_59 ?_
      refine mj_goto 94 dX7_link_60 (by decide) ?_
      refine mj_sub [1, 2, 0] [(0, .ref 18), (1, .int x1), (2, .int (r19 x1.toNatClampNeg))] rfl ?_
      exact jtX7_link_94 hR F I L r18 r19 (upd r25 x1.toNatClampNeg (r18 0)) r26 r27 r28 x1 (r19 x1.toNatClampNeg) o hf hc hx
set_option maxRecDepth 100000 in
set_option maxHeartbeats 4000000 in
theorem mtX7_link {X : mj_XT} {l : Launch} {G : mj_GT} {ad : Nat → Nat} {Qn : Option Value → mj_IT → mj_LT → Prop} (hR : mj_R X l G mj_P0 mj_S0 98 ad 0 0 Qn) (F : Nat) (I : mj_IT) (L : mj_LT) (r18 : Nat → Int32) (r19 : Nat → Int32) (r25 : Nat → Int32) (r26 : Nat → Int32) (r27 : Nat → Int32) (r28 : Nat → Int32) (o : ((Nat → Int32) × (Nat → Int32) × (Nat → Int32))) (hf : fnX7_link F r18 r19 r25 r26 r27 r28 = some o) (hq : (mj_u2 (fun r25 => (mj_u2 (fun r26 r28 => Qn none (mj_rows I [(18, r18), (19, r19), (25, r25), (26, r26), (27, r27), (28, r28)]) L)))) o) : mj_W X G RX7 "link" cX7_link 3 2 none mj_P0 mj_S0 98 ad 0 0 0 [(0, .ref 18)] [] (mj_rows I [(18, r18), (19, r19), (25, r25), (26, r26), (27, r27), (28, r28)]) L := by
  unfold fnX7_link at hf
  refine mj_iconst dX7_link_0 kc_iconst_0 ?_
  refine mj_istore_n [(1, .int (0 : Int32)), (0, .ref 18)] dX7_link_1 rfl (by decide) rfl ?_
  refine mj_sub [1, 0] [(0, .ref 18), (1, .int (0 : Int32))] rfl ?_
  obtain ⟨r28_26, ho26, hf⟩ := mj_bd hf
  refine lpX7_link_2 hR F I L r18 r19 r25 r26 r27 r28 F ((0 : Int32), r28) r28_26 ho26 ?_
  refine ?_
  refine mj_iconst dX7_link_27 kc_iconst_0 ?_
  refine mj_istore_n [(1, .int (0 : Int32)), (0, .ref 18)] dX7_link_28 rfl (by decide) rfl ?_
  refine mj_sub [1, 0] [(0, .ref 18), (1, .int (0 : Int32))] rfl ?_
  obtain ⟨e27, ho27, hf⟩ := mj_bd hf
  refine lpX7_link_29 hR F I L r18 r19 r25 r26 r27 r28_26 F ((0 : Int32), r25, r26) e27 ho27 ?_
  obtain ⟨r25_27, r26_27⟩ := e27
  replace hf := mj_u2e hf
  refine ?_
  refine mj_u2q ?_
  obtain rfl := Option.some.inj hf
  have hZ := hq
  replace hZ := mj_u2p hZ
  replace hZ := mj_u2p hZ
  exact mj_vret hR ⟨Nat.le_refl _, Nat.le_refl _⟩ rfl dX7_link_157 hZ
set_option maxRecDepth 100000 in
set_option maxHeartbeats 4000000 in
theorem cmX7_link (l : Launch) (G : mj_GT) (F : Nat) (I : mj_IT) (L : mj_LT) (r18 : Nat → Int32) (r19 : Nat → Int32) (r25 : Nat → Int32) (r26 : Nat → Int32) (r27 : Nat → Int32) (r28 : Nat → Int32) (hr18 : I 18 = r18) (hr19 : I 19 = r19) (hr25 : I 25 = r25) (hr26 : I 26 = r26) (hr27 : I 27 = r27) (hr28 : I 28 = r28) (o : ((Nat → Int32) × (Nat → Int32) × (Nat → Int32))) (hf : fnX7_link F r18 r19 r25 r26 r27 r28 = some o) : mj_M l G yX7_link cX7_link 3 2 none 0 0 mj_P0 mj_S0 98 [.ref 18] I L (mj_qd none (mj_rows I [(18, r18), (19, r19), (25, o.1), (26, o.2.1), (27, r27), (28, o.2.2)]) L) := by
  refine mj_in RX7 "link" [(0, .ref 18)] rfl rfl rfl (by decide) (Nat.le_of_ble_eq_true rfl) (fun X ad hR => ?_)
  refine mj_toI [(18, r18), (19, r19), (25, r25), (26, r26), (27, r27), (28, r28)] (by intro q hq; simp only [List.mem_cons, List.not_mem_nil, or_false] at hq; rcases hq with rfl | rfl | rfl | rfl | rfl | rfl <;> assumption) ?_
  refine mtX7_link hR F I L r18 r19 r25 r26 r27 r28 o hf ?_
  obtain ⟨w0, w1, w2⟩ := o
  refine mj_u2q ?_
  refine mj_u2q ?_
  exact ⟨rfl, rfl, rfl⟩

-- X8_put
def bdX8_put_3 (F : Nat) (x1 : Int32) (x2 : Int32) (r2 : Nat → Int32) (r3 : Nat → Int32) : Option (((Int32) × (Nat → Int32) × (Nat → Int32)) ⊕ ((Nat → Int32) × (Nat → Int32))) := (if x2 < 0 then some (.inr (r2, r3)) else (if (400 : Int32) ≤ (r2 0) then some (.inr (r2, r3)) else (if mj_ib (r2 0) 400 = true then some (.inl ((x2 + (-8)), (upd r2 0 ((r2 0) + (1 : Int32))), (upd r3 ((r2 0).toNatClampNeg) ((x1 >>> (x2 &&& 31)) &&& (255 : Int32))))) else none)))
def fnX8_put (F : Nat) (r2 : Nat → Int32) (r3 : Nat → Int32) (x1 : Int32) : Option ((Nat → Int32) × (Nat → Int32)) := (mj_it (mj_u2 (fun z0 => (mj_u2 (fun z1 z2 => bdX8_put_3 F x1 z0 z1 z2)))) F ((24 : Int32), r2, r3)).bind (mj_u2 (fun r2_4 r3_4 => some (r2_4, r3_4)))
set_option maxRecDepth 100000 in
set_option maxHeartbeats 4000000 in
theorem lpX8_put_3 {X : mj_XT} {l : Launch} {G : mj_GT} {ad : Nat → Nat} {Qn : Option Value → mj_IT → mj_LT → Prop} (hR : mj_R X l G mj_P0 mj_S0 98 ad 0 0 Qn) (F : Nat) (I : mj_IT) (L : mj_LT) (r2 : Nat → Int32) (r3 : Nat → Int32) (x1 : Int32) : ∀ (n : Nat) (s : ((Int32) × (Nat → Int32) × (Nat → Int32))) (e : ((Nat → Int32) × (Nat → Int32))), mj_it (mj_u2 (fun z0 => (mj_u2 (fun z1 z2 => bdX8_put_3 F x1 z0 z1 z2)))) n s = some e → (mj_u2 (fun r2 r3 => mj_W X G RX8 "put" cX8_put 3 1 none mj_P0 mj_S0 98 ad 0 0 49 [] [] (mj_rows I [(2, r2), (3, r3)]) L)) e → (mj_u2 (fun x2 => (mj_u2 (fun r2 r3 => mj_W X G RX8 "put" cX8_put 3 1 none mj_P0 mj_S0 98 ad 0 0 3 [(0, .ref 2), (1, .int x1), (2, .int x2)] [] (mj_rows I [(2, r2), (3, r3)]) L)))) s := by
  refine mj_loop (fun s o hf hc hx => ?_)
  obtain ⟨x2, r2, r3⟩ := s
  replace hf := mj_u2e hf
  refine mj_u2q ?_
  replace hf := mj_u2e hf
  refine mj_u2q ?_
  unfold bdX8_put_3 at hf
  refine mj_iload_n 2 dX8_put_3 rfl ?_
  refine mj_if_lt 49 dX8_put_4 (by decide) (fun c1 => ?_) (fun c1 => ?_)
  · replace hf := mj_pos c1 hf
    refine mj_sub [] [] rfl ?_
    obtain rfl := Option.some.inj hf
    have hZ := hx (r2, r3) rfl
    replace hZ := mj_u2p hZ
    exact hZ
  · replace hf := mj_neg c1 hf
    refine mj_aload_n 0 dX8_put_7 rfl ?_
    refine mj_getIv (v := (r2 0)) rfl fl_X8_36 rfl s0_2 a0_2 dX8_put_8 ?_
    refine mj_sipush dX8_put_11 kc_sipush_400 ?_
    refine mj_icmp_ge 49 dX8_put_14 (by decide) (fun c2 => ?_) (fun c2 => ?_)
    · replace hf := mj_pos c2 hf
      refine mj_sub [] [] rfl ?_
      obtain rfl := Option.some.inj hf
      have hZ := hx (r2, r3) rfl
      replace hZ := mj_u2p hZ
      exact hZ
    · replace hf := mj_neg c2 hf
      refine mj_aload_n 0 dX8_put_17 rfl ?_
      refine mj_getP p0_2_1 (by decide) fl_X8_9 rfl s0_2 a0_2 dX8_put_18 ?_
      refine mj_aload_n 0 dX8_put_21 rfl ?_
      refine mj_getIv (v := (r2 0)) rfl fl_X8_36 rfl s0_2 a0_2 dX8_put_22 ?_
      refine mj_iload_n 1 dX8_put_25 rfl ?_
      refine mj_iload_n 2 dX8_put_26 rfl ?_
      refine mj_ishr dX8_put_27 ?_
      refine mj_sipush dX8_put_28 kc_sipush_255 ?_
      refine mj_iand dX8_put_31 ?_
      obtain ⟨z3, hf⟩ := mj_ck hf
      refine mj_iastr [(2, r2), (3, (upd r3 ((r2 0).toNatClampNeg) ((x1 >>> (x2 &&& 31)) &&& (255 : Int32))))] rfl s0_3 a0_3 z3 dX8_put_32 ?_
      refine mj_aload_n 0 dX8_put_33 rfl ?_
      refine mj_dup dX8_put_34 rfl ?_
      refine mj_getIv (v := (r2 0)) rfl fl_X8_36 rfl s0_2 a0_2 dX8_put_35 ?_
      refine mj_iconst dX8_put_38 kc_iconst_1 ?_
      refine mj_iadd dX8_put_39 ?_
      refine mj_putIr (ci := 6) (j := 0) [(2, (upd r2 0 ((r2 0) + (1 : Int32)))), (3, (upd r3 ((r2 0).toNatClampNeg) ((x1 >>> (x2 &&& 31)) &&& (255 : Int32))))] rfl ⟨rfl, rfl⟩ fl_X8_36 rfl rfl s0_2 a0_2 dX8_put_40 ?_
      refine mj_iinc 2 [(2, .int (x2 + (-8))), (0, .ref 2), (1, .int x1)] dX8_put_43 rfl (kz_m8 _) (by decide) rfl ?_
      refine mj_goto 3 dX8_put_46 (by decide) ?_
      refine mj_sub [1, 2, 0] [(0, .ref 2), (1, .int x1), (2, .int (x2 + (-8)))] rfl ?_
      obtain rfl := Option.some.inj hf
      have hZ := hc ((x2 + (-8)), (upd r2 0 ((r2 0) + (1 : Int32))), (upd r3 ((r2 0).toNatClampNeg) ((x1 >>> (x2 &&& 31)) &&& (255 : Int32)))) rfl
      replace hZ := mj_u2p hZ
      replace hZ := mj_u2p hZ
      exact hZ
set_option maxRecDepth 100000 in
set_option maxHeartbeats 4000000 in
theorem mtX8_put {X : mj_XT} {l : Launch} {G : mj_GT} {ad : Nat → Nat} {Qn : Option Value → mj_IT → mj_LT → Prop} (hR : mj_R X l G mj_P0 mj_S0 98 ad 0 0 Qn) (F : Nat) (I : mj_IT) (L : mj_LT) (r2 : Nat → Int32) (r3 : Nat → Int32) (x1 : Int32) (o : ((Nat → Int32) × (Nat → Int32))) (hf : fnX8_put F r2 r3 x1 = some o) (hq : (mj_u2 (fun r2 r3 => Qn none (mj_rows I [(2, r2), (3, r3)]) L)) o) : mj_W X G RX8 "put" cX8_put 3 1 none mj_P0 mj_S0 98 ad 0 0 0 [(0, .ref 2), (1, .int x1)] [] (mj_rows I [(2, r2), (3, r3)]) L := by
  unfold fnX8_put at hf
  refine mj_bipush dX8_put_0 kc_bipush_24 ?_
  refine mj_istore_n [(2, .int (24 : Int32)), (0, .ref 2), (1, .int x1)] dX8_put_2 rfl (by decide) rfl ?_
  refine mj_sub [1, 2, 0] [(0, .ref 2), (1, .int x1), (2, .int (24 : Int32))] rfl ?_
  obtain ⟨e4, ho4, hf⟩ := mj_bd hf
  refine lpX8_put_3 hR F I L r2 r3 x1 F ((24 : Int32), r2, r3) e4 ho4 ?_
  obtain ⟨r2_4, r3_4⟩ := e4
  replace hf := mj_u2e hf
  refine ?_
  refine mj_u2q ?_
  obtain rfl := Option.some.inj hf
  have hZ := hq
  replace hZ := mj_u2p hZ
  exact mj_vret hR ⟨Nat.le_refl _, Nat.le_refl _⟩ rfl dX8_put_49 hZ
set_option maxRecDepth 100000 in
set_option maxHeartbeats 4000000 in
theorem cmX8_put (l : Launch) (G : mj_GT) (F : Nat) (x1 : Int32) (I : mj_IT) (L : mj_LT) (r2 : Nat → Int32) (r3 : Nat → Int32) (hr2 : I 2 = r2) (hr3 : I 3 = r3) (o : ((Nat → Int32) × (Nat → Int32))) (hf : fnX8_put F r2 r3 x1 = some o) : mj_M l G yX8_put cX8_put 3 1 none 0 0 mj_P0 mj_S0 98 [.ref 2, .int x1] I L (mj_qd none (mj_rows I [(2, o.1), (3, o.2)]) L) := by
  refine mj_in RX8 "put" [(0, .ref 2), (1, .int x1)] rfl rfl rfl (by decide) (Nat.le_of_ble_eq_true rfl) (fun X ad hR => ?_)
  refine mj_toI [(2, r2), (3, r3)] (by intro q hq; simp only [List.mem_cons, List.not_mem_nil, or_false] at hq; rcases hq with rfl | rfl <;> assumption) ?_
  refine mtX8_put hR F I L r2 r3 x1 o hf ?_
  obtain ⟨w0, w1⟩ := o
  refine mj_u2q ?_
  exact ⟨rfl, rfl, rfl⟩

-- X8_faultPlace
def fnX8_faultPlace (F : Nat) (r2 : Nat → Int32) : Option ((Int32)) := some (r2 9)
set_option maxRecDepth 100000 in
set_option maxHeartbeats 4000000 in
theorem mtX8_faultPlace {X : mj_XT} {l : Launch} {G : mj_GT} {ad : Nat → Nat} {Qn : Option Value → mj_IT → mj_LT → Prop} (hR : mj_R X l G mj_P0 mj_S0 98 ad 0 0 Qn) (F : Nat) (I : mj_IT) (L : mj_LT) (r2 : Nat → Int32) (o : ((Int32))) (hf : fnX8_faultPlace F r2 = some o) (hq : (fun ov => Qn (some (.int ov)) (mj_rows I [(2, r2)]) L) o) : mj_W X G RX8 "faultPlace" cX8_faultPlace 1 1 (some .int) mj_P0 mj_S0 98 ad 0 0 0 [(0, .ref 2)] [] (mj_rows I [(2, r2)]) L := by
  unfold fnX8_faultPlace at hf
  refine mj_aload_n 0 dX8_faultPlace_0 rfl ?_
  refine mj_getIv (v := (r2 9)) rfl fl_X8_22 rfl s0_2 a0_2 dX8_faultPlace_1 ?_
  obtain rfl := Option.some.inj hf
  have hZ := hq
  exact mj_iret hR ⟨Nat.le_refl _, Nat.le_refl _⟩ rfl rfl dX8_faultPlace_4 hZ
set_option maxRecDepth 100000 in
set_option maxHeartbeats 4000000 in
theorem cmX8_faultPlace (l : Launch) (G : mj_GT) (F : Nat) (I : mj_IT) (L : mj_LT) (r2 : Nat → Int32) (hr2 : I 2 = r2) (o : ((Int32))) (hf : fnX8_faultPlace F r2 = some o) : mj_M l G yX8_faultPlace cX8_faultPlace 1 1 (some .int) 0 0 mj_P0 mj_S0 98 [.ref 2] I L (mj_qd (some (.int o)) (mj_rows I [(2, r2)]) L) := by
  refine mj_in RX8 "faultPlace" [(0, .ref 2)] rfl rfl rfl (by decide) (Nat.le_of_ble_eq_true rfl) (fun X ad hR => ?_)
  refine mj_toI [(2, r2)] (by intro q hq; simp only [List.mem_cons, List.not_mem_nil, or_false] at hq; rcases hq with rfl <;> assumption) ?_
  refine mtX8_faultPlace hR F I L r2 o hf ?_
  exact ⟨rfl, rfl, rfl⟩

-- X8_fail
def fnX8_fail (F : Nat) (r2 : Nat → Int32) (x1 : Int32) : Option ((Nat → Int32)) := (if (r2 8) = 0 then some (upd (upd r2 8 x1) 9 (r2 5)) else some r2)
set_option maxRecDepth 100000 in
set_option maxHeartbeats 4000000 in
theorem mtX8_fail {X : mj_XT} {l : Launch} {G : mj_GT} {ad : Nat → Nat} {Qn : Option Value → mj_IT → mj_LT → Prop} (hR : mj_R X l G mj_P0 mj_S0 98 ad 0 0 Qn) (F : Nat) (I : mj_IT) (L : mj_LT) (r2 : Nat → Int32) (x1 : Int32) (o : ((Nat → Int32))) (hf : fnX8_fail F r2 x1 = some o) (hq : (fun r2 => Qn none (mj_rows I [(2, r2)]) L) o) : mj_W X G RX8 "fail" cX8_fail 2 1 none mj_P0 mj_S0 98 ad 0 0 0 [(0, .ref 2), (1, .int x1)] [] (mj_rows I [(2, r2)]) L := by
  unfold fnX8_fail at hf
  refine mj_aload_n 0 dX8_fail_0 rfl ?_
  refine mj_getIv (v := (r2 8)) rfl fl_X8_51 rfl s0_2 a0_2 dX8_fail_1 ?_
  refine mj_if_ne 20 dX8_fail_4 (by decide) (fun c1 => ?_) (fun c1 => ?_)
  · replace hf := mj_neg c1 hf
    obtain rfl := Option.some.inj hf
    have hZ := hq
    exact mj_vret hR ⟨Nat.le_refl _, Nat.le_refl _⟩ rfl dX8_fail_20 hZ
  · replace hf := mj_pos c1 hf
    refine mj_aload_n 0 dX8_fail_7 rfl ?_
    refine mj_iload_n 1 dX8_fail_8 rfl ?_
    refine mj_putIr (ci := 6) (j := 8) [(2, (upd r2 8 x1))] rfl ⟨rfl, rfl⟩ fl_X8_51 rfl rfl s0_2 a0_2 dX8_fail_9 ?_
    refine mj_aload_n 0 dX8_fail_12 rfl ?_
    refine mj_aload_n 0 dX8_fail_13 rfl ?_
    refine mj_getIv (v := (r2 5)) rfl fl_X8_79 rfl s0_2 a0_2 dX8_fail_14 ?_
    refine mj_putIr (ci := 6) (j := 9) [(2, (upd (upd r2 8 x1) 9 (r2 5)))] rfl ⟨rfl, rfl⟩ fl_X8_22 rfl rfl s0_2 a0_2 dX8_fail_17 ?_
    obtain rfl := Option.some.inj hf
    have hZ := hq
    exact mj_vret hR ⟨Nat.le_refl _, Nat.le_refl _⟩ rfl dX8_fail_20 hZ
set_option maxRecDepth 100000 in
set_option maxHeartbeats 4000000 in
theorem cmX8_fail (l : Launch) (G : mj_GT) (F : Nat) (x1 : Int32) (I : mj_IT) (L : mj_LT) (r2 : Nat → Int32) (hr2 : I 2 = r2) (o : ((Nat → Int32))) (hf : fnX8_fail F r2 x1 = some o) : mj_M l G yX8_fail cX8_fail 2 1 none 0 0 mj_P0 mj_S0 98 [.ref 2, .int x1] I L (mj_qd none (mj_rows I [(2, o)]) L) := by
  refine mj_in RX8 "fail" [(0, .ref 2), (1, .int x1)] rfl rfl rfl (by decide) (Nat.le_of_ble_eq_true rfl) (fun X ad hR => ?_)
  refine mj_toI [(2, r2)] (by intro q hq; simp only [List.mem_cons, List.not_mem_nil, or_false] at hq; rcases hq with rfl <;> assumption) ?_
  refine mtX8_fail hR F I L r2 x1 o hf ?_
  exact ⟨rfl, rfl, rfl⟩

-- X8_goOn
def bdX8_goOn_16 (F : Nat) (r3 : Nat → Int32) (r2 : Nat → Int32) : Option (((Nat → Int32)) ⊕ ((Nat → Int32))) := (if (r2 3) ≤ (r2 5) then some (.inr r2) else (if mj_ib (r2 5) 400 = true then (if (r3 ((r2 5).toNatClampNeg)) = (32 : Int32) then some (.inl (upd r2 5 ((r2 5) + (1 : Int32)))) else some (.inr r2)) else none))
def bdX8_goOn_72 (F : Nat) (r3 : Nat → Int32) (r2 : Nat → Int32) : Option (((Nat → Int32)) ⊕ ((Nat → Int32))) := (if (r2 3) ≤ (r2 6) then some (.inr r2) else (if mj_ib (r2 6) 400 = true then (if (r3 ((r2 6).toNatClampNeg)) < (97 : Int32) then some (.inr r2) else (if mj_ib (r2 6) 400 = true then (if (122 : Int32) < (r3 ((r2 6).toNatClampNeg)) then some (.inr r2) else some (.inl (upd (upd r2 4 (1 : Int32)) 6 ((r2 6) + (1 : Int32))))) else none)) else none))
def bdX8_goOn_129 (F : Nat) (r3 : Nat → Int32) (r2 : Nat → Int32) : Option (((Nat → Int32)) ⊕ ((Nat → Int32))) := (if (r2 4) = (1 : Int32) then some (.inr r2) else (if (r2 3) ≤ (r2 6) then some (.inr r2) else (if mj_ib (r2 6) 400 = true then (if (r3 ((r2 6).toNatClampNeg)) < (48 : Int32) then some (.inr r2) else (if mj_ib (r2 6) 400 = true then (if (57 : Int32) < (r3 ((r2 6).toNatClampNeg)) then some (.inr r2) else (if mj_ib (r2 6) 400 = true then some (.inl (upd (upd (upd r2 4 (2 : Int32)) 7 (if ((((10 : Int32) * (r2 7)) + (r3 ((r2 6).toNatClampNeg))) - (48 : Int32)) < (1000 : Int32) then ((((10 : Int32) * (r2 7)) + (r3 ((r2 6).toNatClampNeg))) - (48 : Int32)) else (1000 : Int32))) 6 ((r2 6) + (1 : Int32)))) else none)) else none)) else none)))
def fnX8_goOn (F : Nat) (r2 : Nat → Int32) (r3 : Nat → Int32) : Option ((Nat → Int32)) := (if (r2 8) = 0 then (mj_it (bdX8_goOn_16 F r3) F (upd r2 5 (r2 6))).bind (fun r2_17 => (mj_it (bdX8_goOn_72 F r3) F (upd (upd (upd r2_17 6 (r2_17 5)) 7 (0 : Int32)) 4 (0 : Int32))).bind (fun r2_18 => (mj_it (bdX8_goOn_129 F r3) F r2_18).bind (fun r2_19 => (if (r2_19 4) = 0 then (if (r2_19 3) ≤ (r2_19 6) then some r2_19 else some (upd (upd r2_19 4 (3 : Int32)) 6 ((r2_19 6) + (1 : Int32)))) else some r2_19)))) else some r2)
set_option maxRecDepth 100000 in
set_option maxHeartbeats 4000000 in
theorem lpX8_goOn_16 {X : mj_XT} {l : Launch} {G : mj_GT} {ad : Nat → Nat} {Qn : Option Value → mj_IT → mj_LT → Prop} (hR : mj_R X l G mj_P0 mj_S0 98 ad 0 0 Qn) (F : Nat) (I : mj_IT) (L : mj_LT) (r2 : Nat → Int32) (r3 : Nat → Int32) : ∀ (n : Nat) (s : ((Nat → Int32))) (e : ((Nat → Int32))), mj_it (bdX8_goOn_16 F r3) n s = some e → (fun r2 => mj_W X G RX8 "goOn" cX8_goOn 1 1 none mj_P0 mj_S0 98 ad 0 0 54 [(0, .ref 2)] [] (mj_rows I [(2, r2), (3, r3)]) L) e → (fun r2 => mj_W X G RX8 "goOn" cX8_goOn 1 1 none mj_P0 mj_S0 98 ad 0 0 16 [(0, .ref 2)] [] (mj_rows I [(2, r2), (3, r3)]) L) s := by
  refine mj_loop (fun r2 o hf hc hx => ?_)
  unfold bdX8_goOn_16 at hf
  refine mj_aload_n 0 dX8_goOn_16 rfl ?_
  refine mj_getIv (v := (r2 5)) rfl fl_X8_79 rfl s0_2 a0_2 dX8_goOn_17 ?_
  refine mj_aload_n 0 dX8_goOn_20 rfl ?_
  refine mj_getIv (v := (r2 3)) rfl fl_X8_45 rfl s0_2 a0_2 dX8_goOn_21 ?_
  refine mj_icmp_ge 54 dX8_goOn_24 (by decide) (fun c1 => ?_) (fun c1 => ?_)
  · replace hf := mj_pos c1 hf
    obtain rfl := Option.some.inj hf
    have hZ := hx r2 rfl
    exact hZ
  · replace hf := mj_neg c1 hf
    refine mj_aload_n 0 dX8_goOn_27 rfl ?_
    refine mj_getP p0_2_1 (by decide) fl_X8_9 rfl s0_2 a0_2 dX8_goOn_28 ?_
    refine mj_aload_n 0 dX8_goOn_31 rfl ?_
    refine mj_getIv (v := (r2 5)) rfl fl_X8_79 rfl s0_2 a0_2 dX8_goOn_32 ?_
    obtain ⟨z2, hf⟩ := mj_ck hf
    refine mj_ialdv (x := r3) rfl s0_3 a0_3 z2 dX8_goOn_35 ?_
    refine mj_bipush dX8_goOn_36 kc_bipush_32 ?_
    refine mj_icmp_ne 54 dX8_goOn_38 (by decide) (fun c3 => ?_) (fun c3 => ?_)
    · replace hf := mj_neg c3 hf
      obtain rfl := Option.some.inj hf
      have hZ := hx r2 rfl
      exact hZ
    · replace hf := mj_pos c3 hf
      refine mj_aload_n 0 dX8_goOn_41 rfl ?_
      refine mj_dup dX8_goOn_42 rfl ?_
      refine mj_getIv (v := (r2 5)) rfl fl_X8_79 rfl s0_2 a0_2 dX8_goOn_43 ?_
      refine mj_iconst dX8_goOn_46 kc_iconst_1 ?_
      refine mj_iadd dX8_goOn_47 ?_
      refine mj_putIr (ci := 6) (j := 5) [(2, (upd r2 5 ((r2 5) + (1 : Int32)))), (3, r3)] rfl ⟨rfl, rfl⟩ fl_X8_79 rfl rfl s0_2 a0_2 dX8_goOn_48 ?_
      refine mj_goto 16 dX8_goOn_51 (by decide) ?_
      obtain rfl := Option.some.inj hf
      have hZ := hc (upd r2 5 ((r2 5) + (1 : Int32))) rfl
      exact hZ
set_option maxRecDepth 100000 in
set_option maxHeartbeats 4000000 in
theorem lpX8_goOn_72 {X : mj_XT} {l : Launch} {G : mj_GT} {ad : Nat → Nat} {Qn : Option Value → mj_IT → mj_LT → Prop} (hR : mj_R X l G mj_P0 mj_S0 98 ad 0 0 Qn) (F : Nat) (I : mj_IT) (L : mj_LT) (r2 : Nat → Int32) (r3 : Nat → Int32) : ∀ (n : Nat) (s : ((Nat → Int32))) (e : ((Nat → Int32))), mj_it (bdX8_goOn_72 F r3) n s = some e → (fun r2 => mj_W X G RX8 "goOn" cX8_goOn 1 1 none mj_P0 mj_S0 98 ad 0 0 129 [(0, .ref 2)] [] (mj_rows I [(2, r2), (3, r3)]) L) e → (fun r2 => mj_W X G RX8 "goOn" cX8_goOn 1 1 none mj_P0 mj_S0 98 ad 0 0 72 [(0, .ref 2)] [] (mj_rows I [(2, r2), (3, r3)]) L) s := by
  refine mj_loop (fun r2 o hf hc hx => ?_)
  unfold bdX8_goOn_72 at hf
  refine mj_aload_n 0 dX8_goOn_72 rfl ?_
  refine mj_getIv (v := (r2 6)) rfl fl_X8_48 rfl s0_2 a0_2 dX8_goOn_73 ?_
  refine mj_aload_n 0 dX8_goOn_76 rfl ?_
  refine mj_getIv (v := (r2 3)) rfl fl_X8_45 rfl s0_2 a0_2 dX8_goOn_77 ?_
  refine mj_icmp_ge 129 dX8_goOn_80 (by decide) (fun c4 => ?_) (fun c4 => ?_)
  · replace hf := mj_pos c4 hf
    obtain rfl := Option.some.inj hf
    have hZ := hx r2 rfl
    exact hZ
  · replace hf := mj_neg c4 hf
    refine mj_aload_n 0 dX8_goOn_83 rfl ?_
    refine mj_getP p0_2_1 (by decide) fl_X8_9 rfl s0_2 a0_2 dX8_goOn_84 ?_
    refine mj_aload_n 0 dX8_goOn_87 rfl ?_
    refine mj_getIv (v := (r2 6)) rfl fl_X8_48 rfl s0_2 a0_2 dX8_goOn_88 ?_
    obtain ⟨z5, hf⟩ := mj_ck hf
    refine mj_ialdv (x := r3) rfl s0_3 a0_3 z5 dX8_goOn_91 ?_
    refine mj_bipush dX8_goOn_92 kc_bipush_97 ?_
    refine mj_icmp_lt 129 dX8_goOn_94 (by decide) (fun c6 => ?_) (fun c6 => ?_)
    · replace hf := mj_pos c6 hf
      obtain rfl := Option.some.inj hf
      have hZ := hx r2 rfl
      exact hZ
    · replace hf := mj_neg c6 hf
      refine mj_aload_n 0 dX8_goOn_97 rfl ?_
      refine mj_getP p0_2_1 (by decide) fl_X8_9 rfl s0_2 a0_2 dX8_goOn_98 ?_
      refine mj_aload_n 0 dX8_goOn_101 rfl ?_
      refine mj_getIv (v := (r2 6)) rfl fl_X8_48 rfl s0_2 a0_2 dX8_goOn_102 ?_
      obtain ⟨z7, hf⟩ := mj_ck hf
      refine mj_ialdv (x := r3) rfl s0_3 a0_3 z7 dX8_goOn_105 ?_
      refine mj_bipush dX8_goOn_106 kc_bipush_122 ?_
      refine mj_icmp_gt 129 dX8_goOn_108 (by decide) (fun c8 => ?_) (fun c8 => ?_)
      · replace hf := mj_pos c8 hf
        obtain rfl := Option.some.inj hf
        have hZ := hx r2 rfl
        exact hZ
      · replace hf := mj_neg c8 hf
        refine mj_aload_n 0 dX8_goOn_111 rfl ?_
        refine mj_iconst dX8_goOn_112 kc_iconst_1 ?_
        refine mj_putIr (ci := 6) (j := 4) [(2, (upd r2 4 (1 : Int32))), (3, r3)] rfl ⟨rfl, rfl⟩ fl_X8_63 rfl rfl s0_2 a0_2 dX8_goOn_113 ?_
        refine mj_aload_n 0 dX8_goOn_116 rfl ?_
        refine mj_dup dX8_goOn_117 rfl ?_
        refine mj_getIv (v := (r2 6)) rfl fl_X8_48 rfl s0_2 a0_2 dX8_goOn_118 ?_
        refine mj_iconst dX8_goOn_121 kc_iconst_1 ?_
        refine mj_iadd dX8_goOn_122 ?_
        refine mj_putIr (ci := 6) (j := 6) [(2, (upd (upd r2 4 (1 : Int32)) 6 ((r2 6) + (1 : Int32)))), (3, r3)] rfl ⟨rfl, rfl⟩ fl_X8_48 rfl rfl s0_2 a0_2 dX8_goOn_123 ?_
        refine mj_goto 72 dX8_goOn_126 (by decide) ?_
        obtain rfl := Option.some.inj hf
        have hZ := hc (upd (upd r2 4 (1 : Int32)) 6 ((r2 6) + (1 : Int32))) rfl
        exact hZ
set_option maxRecDepth 100000 in
set_option maxHeartbeats 4000000 in
theorem lpX8_goOn_129 {X : mj_XT} {l : Launch} {G : mj_GT} {ad : Nat → Nat} {Qn : Option Value → mj_IT → mj_LT → Prop} (hR : mj_R X l G mj_P0 mj_S0 98 ad 0 0 Qn) (F : Nat) (I : mj_IT) (L : mj_LT) (r2 : Nat → Int32) (r3 : Nat → Int32) : ∀ (n : Nat) (s : ((Nat → Int32))) (e : ((Nat → Int32))), mj_it (bdX8_goOn_129 F r3) n s = some e → (fun r2 => mj_W X G RX8 "goOn" cX8_goOn 1 1 none mj_P0 mj_S0 98 ad 0 0 224 [(0, .ref 2)] [] (mj_rows I [(2, r2), (3, r3)]) L) e → (fun r2 => mj_W X G RX8 "goOn" cX8_goOn 1 1 none mj_P0 mj_S0 98 ad 0 0 129 [(0, .ref 2)] [] (mj_rows I [(2, r2), (3, r3)]) L) s := by
  refine mj_loop (fun r2 o hf hc hx => ?_)
  unfold bdX8_goOn_129 at hf
  refine mj_aload_n 0 dX8_goOn_129 rfl ?_
  refine mj_getIv (v := (r2 4)) rfl fl_X8_63 rfl s0_2 a0_2 dX8_goOn_130 ?_
  refine mj_iconst dX8_goOn_133 kc_iconst_1 ?_
  refine mj_icmp_eq 224 dX8_goOn_134 (by decide) (fun c9 => ?_) (fun c9 => ?_)
  · replace hf := mj_pos c9 hf
    obtain rfl := Option.some.inj hf
    have hZ := hx r2 rfl
    exact hZ
  · replace hf := mj_neg c9 hf
    refine mj_aload_n 0 dX8_goOn_137 rfl ?_
    refine mj_getIv (v := (r2 6)) rfl fl_X8_48 rfl s0_2 a0_2 dX8_goOn_138 ?_
    refine mj_aload_n 0 dX8_goOn_141 rfl ?_
    refine mj_getIv (v := (r2 3)) rfl fl_X8_45 rfl s0_2 a0_2 dX8_goOn_142 ?_
    refine mj_icmp_ge 224 dX8_goOn_145 (by decide) (fun c10 => ?_) (fun c10 => ?_)
    · replace hf := mj_pos c10 hf
      obtain rfl := Option.some.inj hf
      have hZ := hx r2 rfl
      exact hZ
    · replace hf := mj_neg c10 hf
      refine mj_aload_n 0 dX8_goOn_148 rfl ?_
      refine mj_getP p0_2_1 (by decide) fl_X8_9 rfl s0_2 a0_2 dX8_goOn_149 ?_
      refine mj_aload_n 0 dX8_goOn_152 rfl ?_
      refine mj_getIv (v := (r2 6)) rfl fl_X8_48 rfl s0_2 a0_2 dX8_goOn_153 ?_
      obtain ⟨z11, hf⟩ := mj_ck hf
      refine mj_ialdv (x := r3) rfl s0_3 a0_3 z11 dX8_goOn_156 ?_
      refine mj_bipush dX8_goOn_157 kc_bipush_48 ?_
      refine mj_icmp_lt 224 dX8_goOn_159 (by decide) (fun c12 => ?_) (fun c12 => ?_)
      · replace hf := mj_pos c12 hf
        obtain rfl := Option.some.inj hf
        have hZ := hx r2 rfl
        exact hZ
      · replace hf := mj_neg c12 hf
        refine mj_aload_n 0 dX8_goOn_162 rfl ?_
        refine mj_getP p0_2_1 (by decide) fl_X8_9 rfl s0_2 a0_2 dX8_goOn_163 ?_
        refine mj_aload_n 0 dX8_goOn_166 rfl ?_
        refine mj_getIv (v := (r2 6)) rfl fl_X8_48 rfl s0_2 a0_2 dX8_goOn_167 ?_
        obtain ⟨z13, hf⟩ := mj_ck hf
        refine mj_ialdv (x := r3) rfl s0_3 a0_3 z13 dX8_goOn_170 ?_
        refine mj_bipush dX8_goOn_171 kc_bipush_57 ?_
        refine mj_icmp_gt 224 dX8_goOn_173 (by decide) (fun c14 => ?_) (fun c14 => ?_)
        · replace hf := mj_pos c14 hf
          obtain rfl := Option.some.inj hf
          have hZ := hx r2 rfl
          exact hZ
        · replace hf := mj_neg c14 hf
          refine mj_aload_n 0 dX8_goOn_176 rfl ?_
          refine mj_iconst dX8_goOn_177 kc_iconst_2 ?_
          refine mj_putIr (ci := 6) (j := 4) [(2, (upd r2 4 (2 : Int32))), (3, r3)] rfl ⟨rfl, rfl⟩ fl_X8_63 rfl rfl s0_2 a0_2 dX8_goOn_178 ?_
          refine mj_aload_n 0 dX8_goOn_181 rfl ?_
          refine mj_sipush dX8_goOn_182 kc_sipush_1000 ?_
          refine mj_bipush dX8_goOn_185 kc_bipush_10 ?_
          refine mj_aload_n 0 dX8_goOn_187 rfl ?_
          refine mj_getIv (v := (r2 7)) rfl fl_X8_82 rfl s0_2 a0_2 dX8_goOn_188 ?_
          refine mj_imul dX8_goOn_191 ?_
          refine mj_aload_n 0 dX8_goOn_192 rfl ?_
          refine mj_getP p0_2_1 (by decide) fl_X8_9 rfl s0_2 a0_2 dX8_goOn_193 ?_
          refine mj_aload_n 0 dX8_goOn_196 rfl ?_
          refine mj_getIv (v := (r2 6)) rfl fl_X8_48 rfl s0_2 a0_2 dX8_goOn_197 ?_
          obtain ⟨z15, hf⟩ := mj_ck hf
          refine mj_ialdv (x := r3) rfl s0_3 a0_3 z15 dX8_goOn_200 ?_
          refine mj_iadd dX8_goOn_201 ?_
          refine mj_bipush dX8_goOn_202 kc_bipush_48 ?_
          refine mj_isub dX8_goOn_204 ?_
          refine mj_mmin mn_X8_39 (by decide) (Nat.le_of_ble_eq_true rfl) ⟨Nat.zero_le _, Nat.zero_le _⟩ dX8_goOn_205 ?_
          refine mj_putIr (ci := 6) (j := 7) [(2, (upd (upd r2 4 (2 : Int32)) 7 (if ((((10 : Int32) * (r2 7)) + (r3 ((r2 6).toNatClampNeg))) - (48 : Int32)) < (1000 : Int32) then ((((10 : Int32) * (r2 7)) + (r3 ((r2 6).toNatClampNeg))) - (48 : Int32)) else (1000 : Int32)))), (3, r3)] rfl ⟨rfl, rfl⟩ fl_X8_82 rfl rfl s0_2 a0_2 dX8_goOn_208 ?_
          refine mj_aload_n 0 dX8_goOn_211 rfl ?_
          refine mj_dup dX8_goOn_212 rfl ?_
          refine mj_getIv (v := (r2 6)) rfl fl_X8_48 rfl s0_2 a0_2 dX8_goOn_213 ?_
          refine mj_iconst dX8_goOn_216 kc_iconst_1 ?_
          refine mj_iadd dX8_goOn_217 ?_
          refine mj_putIr (ci := 6) (j := 6) [(2, (upd (upd (upd r2 4 (2 : Int32)) 7 (if ((((10 : Int32) * (r2 7)) + (r3 ((r2 6).toNatClampNeg))) - (48 : Int32)) < (1000 : Int32) then ((((10 : Int32) * (r2 7)) + (r3 ((r2 6).toNatClampNeg))) - (48 : Int32)) else (1000 : Int32))) 6 ((r2 6) + (1 : Int32)))), (3, r3)] rfl ⟨rfl, rfl⟩ fl_X8_48 rfl rfl s0_2 a0_2 dX8_goOn_218 ?_
          refine mj_goto 129 dX8_goOn_221 (by decide) ?_
          obtain rfl := Option.some.inj hf
          have hZ := hc (upd (upd (upd r2 4 (2 : Int32)) 7 (if ((((10 : Int32) * (r2 7)) + (r3 ((r2 6).toNatClampNeg))) - (48 : Int32)) < (1000 : Int32) then ((((10 : Int32) * (r2 7)) + (r3 ((r2 6).toNatClampNeg))) - (48 : Int32)) else (1000 : Int32))) 6 ((r2 6) + (1 : Int32))) rfl
          exact hZ
set_option maxRecDepth 100000 in
set_option maxHeartbeats 4000000 in
theorem mtX8_goOn {X : mj_XT} {l : Launch} {G : mj_GT} {ad : Nat → Nat} {Qn : Option Value → mj_IT → mj_LT → Prop} (hR : mj_R X l G mj_P0 mj_S0 98 ad 0 0 Qn) (F : Nat) (I : mj_IT) (L : mj_LT) (r2 : Nat → Int32) (r3 : Nat → Int32) (o : ((Nat → Int32))) (hf : fnX8_goOn F r2 r3 = some o) (hq : (fun r2 => Qn none (mj_rows I [(2, r2), (3, r3)]) L) o) : mj_W X G RX8 "goOn" cX8_goOn 1 1 none mj_P0 mj_S0 98 ad 0 0 0 [(0, .ref 2)] [] (mj_rows I [(2, r2), (3, r3)]) L := by
  unfold fnX8_goOn at hf
  refine mj_aload_n 0 dX8_goOn_0 rfl ?_
  refine mj_getIv (v := (r2 8)) rfl fl_X8_51 rfl s0_2 a0_2 dX8_goOn_1 ?_
  refine mj_if_eq 8 dX8_goOn_4 (by decide) (fun c16 => ?_) (fun c16 => ?_)
  · replace hf := mj_pos c16 hf
    refine mj_aload_n 0 dX8_goOn_8 rfl ?_
    refine mj_aload_n 0 dX8_goOn_9 rfl ?_
    refine mj_getIv (v := (r2 6)) rfl fl_X8_48 rfl s0_2 a0_2 dX8_goOn_10 ?_
    refine mj_putIr (ci := 6) (j := 5) [(2, (upd r2 5 (r2 6))), (3, r3)] rfl ⟨rfl, rfl⟩ fl_X8_79 rfl rfl s0_2 a0_2 dX8_goOn_13 ?_
    obtain ⟨r2_17, ho17, hf⟩ := mj_bd hf
    refine lpX8_goOn_16 hR F I L (upd r2 5 (r2 6)) r3 F (upd r2 5 (r2 6)) r2_17 ho17 ?_
    refine ?_
    refine mj_aload_n 0 dX8_goOn_54 rfl ?_
    refine mj_aload_n 0 dX8_goOn_55 rfl ?_
    refine mj_getIv (v := (r2_17 5)) rfl fl_X8_79 rfl s0_2 a0_2 dX8_goOn_56 ?_
    refine mj_putIr (ci := 6) (j := 6) [(2, (upd r2_17 6 (r2_17 5))), (3, r3)] rfl ⟨rfl, rfl⟩ fl_X8_48 rfl rfl s0_2 a0_2 dX8_goOn_59 ?_
    refine mj_aload_n 0 dX8_goOn_62 rfl ?_
    refine mj_iconst dX8_goOn_63 kc_iconst_0 ?_
    refine mj_putIr (ci := 6) (j := 7) [(2, (upd (upd r2_17 6 (r2_17 5)) 7 (0 : Int32))), (3, r3)] rfl ⟨rfl, rfl⟩ fl_X8_82 rfl rfl s0_2 a0_2 dX8_goOn_64 ?_
    refine mj_aload_n 0 dX8_goOn_67 rfl ?_
    refine mj_iconst dX8_goOn_68 kc_iconst_0 ?_
    refine mj_putIr (ci := 6) (j := 4) [(2, (upd (upd (upd r2_17 6 (r2_17 5)) 7 (0 : Int32)) 4 (0 : Int32))), (3, r3)] rfl ⟨rfl, rfl⟩ fl_X8_63 rfl rfl s0_2 a0_2 dX8_goOn_69 ?_
    obtain ⟨r2_18, ho18, hf⟩ := mj_bd hf
    refine lpX8_goOn_72 hR F I L (upd (upd (upd r2_17 6 (r2_17 5)) 7 (0 : Int32)) 4 (0 : Int32)) r3 F (upd (upd (upd r2_17 6 (r2_17 5)) 7 (0 : Int32)) 4 (0 : Int32)) r2_18 ho18 ?_
    refine ?_
    obtain ⟨r2_19, ho19, hf⟩ := mj_bd hf
    refine lpX8_goOn_129 hR F I L r2_18 r3 F r2_18 r2_19 ho19 ?_
    refine ?_
    refine mj_aload_n 0 dX8_goOn_224 rfl ?_
    refine mj_getIv (v := (r2_19 4)) rfl fl_X8_63 rfl s0_2 a0_2 dX8_goOn_225 ?_
    refine mj_if_ne 257 dX8_goOn_228 (by decide) (fun c20 => ?_) (fun c20 => ?_)
    · replace hf := mj_neg c20 hf
      obtain rfl := Option.some.inj hf
      have hZ := hq
      exact mj_vret hR ⟨Nat.le_refl _, Nat.le_refl _⟩ rfl dX8_goOn_257 hZ
    · replace hf := mj_pos c20 hf
      refine mj_aload_n 0 dX8_goOn_231 rfl ?_
      refine mj_getIv (v := (r2_19 6)) rfl fl_X8_48 rfl s0_2 a0_2 dX8_goOn_232 ?_
      refine mj_aload_n 0 dX8_goOn_235 rfl ?_
      refine mj_getIv (v := (r2_19 3)) rfl fl_X8_45 rfl s0_2 a0_2 dX8_goOn_236 ?_
      refine mj_icmp_ge 257 dX8_goOn_239 (by decide) (fun c21 => ?_) (fun c21 => ?_)
      · replace hf := mj_pos c21 hf
        obtain rfl := Option.some.inj hf
        have hZ := hq
        exact mj_vret hR ⟨Nat.le_refl _, Nat.le_refl _⟩ rfl dX8_goOn_257 hZ
      · replace hf := mj_neg c21 hf
        refine mj_aload_n 0 dX8_goOn_242 rfl ?_
        refine mj_iconst dX8_goOn_243 kc_iconst_3 ?_
        refine mj_putIr (ci := 6) (j := 4) [(2, (upd r2_19 4 (3 : Int32))), (3, r3)] rfl ⟨rfl, rfl⟩ fl_X8_63 rfl rfl s0_2 a0_2 dX8_goOn_244 ?_
        refine mj_aload_n 0 dX8_goOn_247 rfl ?_
        refine mj_dup dX8_goOn_248 rfl ?_
        refine mj_getIv (v := (r2_19 6)) rfl fl_X8_48 rfl s0_2 a0_2 dX8_goOn_249 ?_
        refine mj_iconst dX8_goOn_252 kc_iconst_1 ?_
        refine mj_iadd dX8_goOn_253 ?_
        refine mj_putIr (ci := 6) (j := 6) [(2, (upd (upd r2_19 4 (3 : Int32)) 6 ((r2_19 6) + (1 : Int32)))), (3, r3)] rfl ⟨rfl, rfl⟩ fl_X8_48 rfl rfl s0_2 a0_2 dX8_goOn_254 ?_
        obtain rfl := Option.some.inj hf
        have hZ := hq
        exact mj_vret hR ⟨Nat.le_refl _, Nat.le_refl _⟩ rfl dX8_goOn_257 hZ
  · replace hf := mj_neg c16 hf
    obtain rfl := Option.some.inj hf
    have hZ := hq
    exact mj_vret hR ⟨Nat.le_refl _, Nat.le_refl _⟩ rfl dX8_goOn_7 hZ
set_option maxRecDepth 100000 in
set_option maxHeartbeats 4000000 in
theorem cmX8_goOn (l : Launch) (G : mj_GT) (F : Nat) (I : mj_IT) (L : mj_LT) (r2 : Nat → Int32) (r3 : Nat → Int32) (hr2 : I 2 = r2) (hr3 : I 3 = r3) (o : ((Nat → Int32))) (hf : fnX8_goOn F r2 r3 = some o) : mj_M l G yX8_goOn cX8_goOn 1 1 none 0 0 mj_P0 mj_S0 98 [.ref 2] I L (mj_qd none (mj_rows I [(2, o), (3, r3)]) L) := by
  refine mj_in RX8 "goOn" [(0, .ref 2)] rfl rfl rfl (by decide) (Nat.le_of_ble_eq_true rfl) (fun X ad hR => ?_)
  refine mj_toI [(2, r2), (3, r3)] (by intro q hq; simp only [List.mem_cons, List.not_mem_nil, or_false] at hq; rcases hq with rfl | rfl <;> assumption) ?_
  refine mtX8_goOn hR F I L r2 r3 o hf ?_
  exact ⟨rfl, rfl, rfl⟩

-- X8_isSign
def fnX8_isSign (F : Nat) (r2 : Nat → Int32) (r3 : Nat → Int32) (x1 : Int32) : Option ((Int32)) := (if (r2 4) = (3 : Int32) then (if mj_ib (r2 5) 400 = true then (if (r3 ((r2 5).toNatClampNeg)) = x1 then some (1 : Int32) else some (0 : Int32)) else none) else some (0 : Int32))
set_option maxRecDepth 100000 in
set_option maxHeartbeats 4000000 in
theorem mtX8_isSign {X : mj_XT} {l : Launch} {G : mj_GT} {ad : Nat → Nat} {Qn : Option Value → mj_IT → mj_LT → Prop} (hR : mj_R X l G mj_P0 mj_S0 98 ad 0 0 Qn) (F : Nat) (I : mj_IT) (L : mj_LT) (r2 : Nat → Int32) (r3 : Nat → Int32) (x1 : Int32) (o : ((Int32))) (hf : fnX8_isSign F r2 r3 x1 = some o) (hq : (fun ov => Qn (some (.int ov)) (mj_rows I [(2, r2), (3, r3)]) L) o) : mj_W X G RX8 "isSign" cX8_isSign 2 1 (some .boolean) mj_P0 mj_S0 98 ad 0 0 0 [(0, .ref 2), (1, .int x1)] [] (mj_rows I [(2, r2), (3, r3)]) L := by
  unfold fnX8_isSign at hf
  refine mj_aload_n 0 dX8_isSign_0 rfl ?_
  refine mj_getIv (v := (r2 4)) rfl fl_X8_63 rfl s0_2 a0_2 dX8_isSign_1 ?_
  refine mj_iconst dX8_isSign_4 kc_iconst_3 ?_
  refine mj_icmp_ne 25 dX8_isSign_5 (by decide) (fun c1 => ?_) (fun c1 => ?_)
  · replace hf := mj_neg c1 hf
    refine mj_iconst dX8_isSign_25 kc_iconst_0 ?_
    obtain rfl := Option.some.inj hf
    have hZ := hq
    exact mj_iret hR ⟨Nat.le_refl _, Nat.le_refl _⟩ rfl (by decide) dX8_isSign_26 hZ
  · replace hf := mj_pos c1 hf
    refine mj_aload_n 0 dX8_isSign_8 rfl ?_
    refine mj_getP p0_2_1 (by decide) fl_X8_9 rfl s0_2 a0_2 dX8_isSign_9 ?_
    refine mj_aload_n 0 dX8_isSign_12 rfl ?_
    refine mj_getIv (v := (r2 5)) rfl fl_X8_79 rfl s0_2 a0_2 dX8_isSign_13 ?_
    obtain ⟨z2, hf⟩ := mj_ck hf
    refine mj_ialdv (x := r3) rfl s0_3 a0_3 z2 dX8_isSign_16 ?_
    refine mj_iload_n 1 dX8_isSign_17 rfl ?_
    refine mj_icmp_ne 25 dX8_isSign_18 (by decide) (fun c3 => ?_) (fun c3 => ?_)
    · replace hf := mj_neg c3 hf
      refine mj_iconst dX8_isSign_25 kc_iconst_0 ?_
      obtain rfl := Option.some.inj hf
      have hZ := hq
      exact mj_iret hR ⟨Nat.le_refl _, Nat.le_refl _⟩ rfl (by decide) dX8_isSign_26 hZ
    · replace hf := mj_pos c3 hf
      refine mj_iconst dX8_isSign_21 kc_iconst_1 ?_
      refine mj_goto 26 dX8_isSign_22 (by decide) ?_
      obtain rfl := Option.some.inj hf
      have hZ := hq
      exact mj_iret hR ⟨Nat.le_refl _, Nat.le_refl _⟩ rfl (by decide) dX8_isSign_26 hZ
set_option maxRecDepth 100000 in
set_option maxHeartbeats 4000000 in
theorem cmX8_isSign (l : Launch) (G : mj_GT) (F : Nat) (x1 : Int32) (I : mj_IT) (L : mj_LT) (r2 : Nat → Int32) (r3 : Nat → Int32) (hr2 : I 2 = r2) (hr3 : I 3 = r3) (o : ((Int32))) (hf : fnX8_isSign F r2 r3 x1 = some o) : mj_M l G yX8_isSign cX8_isSign 2 1 (some .boolean) 0 0 mj_P0 mj_S0 98 [.ref 2, .int x1] I L (mj_qd (some (.int o)) (mj_rows I [(2, r2), (3, r3)]) L) := by
  refine mj_in RX8 "isSign" [(0, .ref 2), (1, .int x1)] rfl rfl rfl (by decide) (Nat.le_of_ble_eq_true rfl) (fun X ad hR => ?_)
  refine mj_toI [(2, r2), (3, r3)] (by intro q hq; simp only [List.mem_cons, List.not_mem_nil, or_false] at hq; rcases hq with rfl | rfl <;> assumption) ?_
  refine mtX8_isSign hR F I L r2 r3 x1 o hf ?_
  exact ⟨rfl, rfl, rfl⟩

-- X8_variableHere
def fnX8_variableHere (F : Nat) (r2 : Nat → Int32) (r3 : Nat → Int32) : Option ((Int32)) := (if (r2 4) = (1 : Int32) then (if ((r2 6) - (r2 5)) = (1 : Int32) then (if mj_ib (r2 5) 400 = true then (if (102 : Int32) < (r3 ((r2 5).toNatClampNeg)) then some (-1 : Int32) else (if mj_ib (r2 5) 400 = true then some ((r3 ((r2 5).toNatClampNeg)) - (97 : Int32)) else none)) else none) else some (-1 : Int32)) else some (-1 : Int32))
set_option maxRecDepth 100000 in
set_option maxHeartbeats 4000000 in
theorem mtX8_variableHere {X : mj_XT} {l : Launch} {G : mj_GT} {ad : Nat → Nat} {Qn : Option Value → mj_IT → mj_LT → Prop} (hR : mj_R X l G mj_P0 mj_S0 98 ad 0 0 Qn) (F : Nat) (I : mj_IT) (L : mj_LT) (r2 : Nat → Int32) (r3 : Nat → Int32) (o : ((Int32))) (hf : fnX8_variableHere F r2 r3 = some o) (hq : (fun ov => Qn (some (.int ov)) (mj_rows I [(2, r2), (3, r3)]) L) o) : mj_W X G RX8 "variableHere" cX8_variableHere 1 1 (some .int) mj_P0 mj_S0 98 ad 0 0 0 [(0, .ref 2)] [] (mj_rows I [(2, r2), (3, r3)]) L := by
  unfold fnX8_variableHere at hf
  refine mj_aload_n 0 dX8_variableHere_0 rfl ?_
  refine mj_getIv (v := (r2 4)) rfl fl_X8_63 rfl s0_2 a0_2 dX8_variableHere_1 ?_
  refine mj_iconst dX8_variableHere_4 kc_iconst_1 ?_
  refine mj_icmp_ne 50 dX8_variableHere_5 (by decide) (fun c1 => ?_) (fun c1 => ?_)
  · replace hf := mj_neg c1 hf
    refine mj_iconst dX8_variableHere_50 kc_iconst_m1 ?_
    obtain rfl := Option.some.inj hf
    have hZ := hq
    exact mj_iret hR ⟨Nat.le_refl _, Nat.le_refl _⟩ rfl rfl dX8_variableHere_51 hZ
  · replace hf := mj_pos c1 hf
    refine mj_aload_n 0 dX8_variableHere_8 rfl ?_
    refine mj_getIv (v := (r2 6)) rfl fl_X8_48 rfl s0_2 a0_2 dX8_variableHere_9 ?_
    refine mj_aload_n 0 dX8_variableHere_12 rfl ?_
    refine mj_getIv (v := (r2 5)) rfl fl_X8_79 rfl s0_2 a0_2 dX8_variableHere_13 ?_
    refine mj_isub dX8_variableHere_16 ?_
    refine mj_iconst dX8_variableHere_17 kc_iconst_1 ?_
    refine mj_icmp_ne 50 dX8_variableHere_18 (by decide) (fun c2 => ?_) (fun c2 => ?_)
    · replace hf := mj_neg c2 hf
      refine mj_iconst dX8_variableHere_50 kc_iconst_m1 ?_
      obtain rfl := Option.some.inj hf
      have hZ := hq
      exact mj_iret hR ⟨Nat.le_refl _, Nat.le_refl _⟩ rfl rfl dX8_variableHere_51 hZ
    · replace hf := mj_pos c2 hf
      refine mj_aload_n 0 dX8_variableHere_21 rfl ?_
      refine mj_getP p0_2_1 (by decide) fl_X8_9 rfl s0_2 a0_2 dX8_variableHere_22 ?_
      refine mj_aload_n 0 dX8_variableHere_25 rfl ?_
      refine mj_getIv (v := (r2 5)) rfl fl_X8_79 rfl s0_2 a0_2 dX8_variableHere_26 ?_
      obtain ⟨z3, hf⟩ := mj_ck hf
      refine mj_ialdv (x := r3) rfl s0_3 a0_3 z3 dX8_variableHere_29 ?_
      refine mj_bipush dX8_variableHere_30 kc_bipush_102 ?_
      refine mj_icmp_gt 50 dX8_variableHere_32 (by decide) (fun c4 => ?_) (fun c4 => ?_)
      · replace hf := mj_pos c4 hf
        refine mj_iconst dX8_variableHere_50 kc_iconst_m1 ?_
        obtain rfl := Option.some.inj hf
        have hZ := hq
        exact mj_iret hR ⟨Nat.le_refl _, Nat.le_refl _⟩ rfl rfl dX8_variableHere_51 hZ
      · replace hf := mj_neg c4 hf
        refine mj_aload_n 0 dX8_variableHere_35 rfl ?_
        refine mj_getP p0_2_1 (by decide) fl_X8_9 rfl s0_2 a0_2 dX8_variableHere_36 ?_
        refine mj_aload_n 0 dX8_variableHere_39 rfl ?_
        refine mj_getIv (v := (r2 5)) rfl fl_X8_79 rfl s0_2 a0_2 dX8_variableHere_40 ?_
        obtain ⟨z5, hf⟩ := mj_ck hf
        refine mj_ialdv (x := r3) rfl s0_3 a0_3 z5 dX8_variableHere_43 ?_
        refine mj_bipush dX8_variableHere_44 kc_bipush_97 ?_
        refine mj_isub dX8_variableHere_46 ?_
        refine mj_goto 51 dX8_variableHere_47 (by decide) ?_
        obtain rfl := Option.some.inj hf
        have hZ := hq
        exact mj_iret hR ⟨Nat.le_refl _, Nat.le_refl _⟩ rfl rfl dX8_variableHere_51 hZ
set_option maxRecDepth 100000 in
set_option maxHeartbeats 4000000 in
theorem cmX8_variableHere (l : Launch) (G : mj_GT) (F : Nat) (I : mj_IT) (L : mj_LT) (r2 : Nat → Int32) (r3 : Nat → Int32) (hr2 : I 2 = r2) (hr3 : I 3 = r3) (o : ((Int32))) (hf : fnX8_variableHere F r2 r3 = some o) : mj_M l G yX8_variableHere cX8_variableHere 1 1 (some .int) 0 0 mj_P0 mj_S0 98 [.ref 2] I L (mj_qd (some (.int o)) (mj_rows I [(2, r2), (3, r3)]) L) := by
  refine mj_in RX8 "variableHere" [(0, .ref 2)] rfl rfl rfl (by decide) (Nat.le_of_ble_eq_true rfl) (fun X ad hR => ?_)
  refine mj_toI [(2, r2), (3, r3)] (by intro q hq; simp only [List.mem_cons, List.not_mem_nil, or_false] at hq; rcases hq with rfl | rfl <;> assumption) ?_
  refine mtX8_variableHere hR F I L r2 r3 o hf ?_
  exact ⟨rfl, rfl, rfl⟩

