-- X11_within
def bdX11_within_50 (F : Nat) (r71 : Nat → Int32) (x1 : Int32) (x2 : Int32) (x3 : Int32) (q91 : Nat → Int64) : Option (((Int32) × (Nat → Int64)) ⊕ ((Nat → Int64))) := (if (r71 24) ≤ x3 then some (.inr q91) else (if x3 = 0 then (if mj_ib x3 200 = true then some (.inl ((x3 + (1)), (vp_updL q91 x3.toNatClampNeg (1 : Int64)))) else none) else (if mj_ib x3 200 = true then some (.inl ((x3 + (1)), (vp_updL q91 x3.toNatClampNeg (0 : Int64)))) else none)))
def bdX11_within_89 (F : Nat) (r71 : Nat → Int32) (r83 : Nat → Int32) (q91 : Nat → Int64) (x1 : Int32) (x2 : Int32) (x3 : Int32) (x4 : Int32) (q92 : Nat → Int64) : Option (((Int32) × (Nat → Int64)) ⊕ ((Nat → Int64))) := (if (r71 24) ≤ x4 then some (.inr q92) else (if mj_ib x4 200 = true then (if (r83 x4.toNatClampNeg) = 0 then (if mj_ib x4 200 = true then (if mj_ib x4 200 = true then some (.inl ((x4 + (1)), (vp_updL q92 x4.toNatClampNeg (q91 x4.toNatClampNeg)))) else none) else none) else (if mj_ib x4 200 = true then some (.inl ((x4 + (1)), (vp_updL q92 x4.toNatClampNeg (0 : Int64)))) else none)) else none))
def bdX11_within_147 (F : Nat) (r83 : Nat → Int32) (r84 : Nat → Int32) (r85 : Nat → Int32) (q91 : Nat → Int64) (q97 : Nat → Int64) (x1 : Int32) (x2 : Int32) (x3 : Int32) (x4 : Int32) (x5 : Int32) (q92 : Nat → Int64) : Option (((Int32) × (Nat → Int64)) ⊕ ((Nat → Int64))) := (if mj_ib x4 200 = true then (if (r83 x4.toNatClampNeg) ≤ x5 then some (.inr q92) else (if mj_ib x4 200 = true then (if (q91 x4.toNatClampNeg) = (0 : Int64) then some (.inr q92) else (if mj_ib (((10 : Int32) * x4) + x5) 2000 = true then (if mj_ib (r84 ((((10 : Int32) * x4) + x5).toNatClampNeg)) 200 = true then (if mj_ib x4 200 = true then (if mj_ib (((10 : Int32) * x4) + x5) 2000 = true then (if mj_ib (r85 ((((10 : Int32) * x4) + x5).toNatClampNeg)) 61 = true then (if mj_ib (r84 ((((10 : Int32) * x4) + x5).toNatClampNeg)) 200 = true then some (.inl ((x5 + (1)), (vp_updL q92 ((r84 ((((10 : Int32) * x4) + x5).toNatClampNeg)).toNatClampNeg) (((q92 ((r84 ((((10 : Int32) * x4) + x5).toNatClampNeg)).toNatClampNeg)) + ((q91 x4.toNatClampNeg) * (q97 ((r85 ((((10 : Int32) * x4) + x5).toNatClampNeg)).toNatClampNeg)))) - ((q92 ((r84 ((((10 : Int32) * x4) + x5).toNatClampNeg)).toNatClampNeg)) + ((q91 x4.toNatClampNeg) * (q97 ((r85 ((((10 : Int32) * x4) + x5).toNatClampNeg)).toNatClampNeg)))) / (998244353 : Int64) * (998244353 : Int64))))) else none) else none) else none) else none) else none) else none)) else none)) else none)
def bdX11_within_135 (F : Nat) (r71 : Nat → Int32) (r83 : Nat → Int32) (r84 : Nat → Int32) (r85 : Nat → Int32) (q91 : Nat → Int64) (q97 : Nat → Int64) (x1 : Int32) (x2 : Int32) (x3 : Int32) (x4 : Int32) (q92 : Nat → Int64) : Option (((Int32) × (Nat → Int64)) ⊕ ((Nat → Int64))) := (if (r71 24) ≤ x4 then some (.inr q92) else (mj_it (mj_u2 (fun z0 z1 => bdX11_within_147 F r83 r84 r85 q91 q97 x1 x2 x3 x4 z0 z1)) F ((0 : Int32), q92)).bind (fun q92_22 => some (.inl ((x4 + (1)), q92_22))))
def bdX11_within_246 (F : Nat) (r71 : Nat → Int32) (q92 : Nat → Int64) (x1 : Int32) (x2 : Int32) (x3 : Int32) (x4 : Int32) (q91 : Nat → Int64) : Option (((Int32) × (Nat → Int64)) ⊕ ((Nat → Int64))) := (if (r71 24) ≤ x4 then some (.inr q91) else (if mj_ib x4 200 = true then (if mj_ib x4 200 = true then some (.inl ((x4 + (1)), (vp_updL q91 x4.toNatClampNeg (q92 x4.toNatClampNeg)))) else none) else none))
def bdX11_within_81 (F : Nat) (r71 : Nat → Int32) (r83 : Nat → Int32) (r84 : Nat → Int32) (r85 : Nat → Int32) (q97 : Nat → Int64) (x1 : Int32) (x2 : Int32) (x3 : Int32) (q91 : Nat → Int64) (q92 : Nat → Int64) : Option (((Int32) × (Nat → Int64) × (Nat → Int64)) ⊕ ((Nat → Int64) × (Nat → Int64))) := (if x1 ≤ x3 then some (.inr (q91, q92)) else (mj_it (mj_u2 (fun z0 z1 => bdX11_within_89 F r71 r83 q91 x1 x2 x3 z0 z1)) F ((0 : Int32), q92)).bind (fun q92_27 => (mj_it (mj_u2 (fun z0 z1 => bdX11_within_135 F r71 r83 r84 r85 q91 q97 x1 x2 x3 z0 z1)) F ((0 : Int32), q92_27)).bind (fun q92_28 => (mj_it (mj_u2 (fun z0 z1 => bdX11_within_246 F r71 q92_28 x1 x2 x3 z0 z1)) F ((0 : Int32), q91)).bind (fun q91_29 => some (.inl ((x3 + (1)), q91_29, q92_28))))))
def bdX11_within_286 (F : Nat) (r71 : Nat → Int32) (r80 : Nat → Int32) (q91 : Nat → Int64) (x2 : Int32) (x3 : Int64) (x5 : Int32) : Option (((Int64) × (Int32)) ⊕ ((Int64))) := (if (r71 24) ≤ x5 then some (.inr x3) else (fnX11_isEnd F r71 r80 x5).bind (fun o31 => (if o31 = 0 then some (.inl ((x3 + (0 : Int64)), (x5 + (1)))) else (if mj_ib x5 200 = true then some (.inl ((x3 + (q91 x5.toNatClampNeg)), (x5 + (1)))) else none))))
def jnX11_within_38 (F : Nat) (r73 : Nat → Int32) (r75 : Nat → Int32) (r87 : Nat → Int32) (q97 : Nat → Int64) (x1 : Int32) (x2 : Int32) (t1 : Int32) (r71 : Nat → Int32) (r72 : Nat → Int32) (r80 : Nat → Int32) (r81 : Nat → Int32) (r82 : Nat → Int32) (r83 : Nat → Int32) (r84 : Nat → Int32) (r85 : Nat → Int32) (r86 : Nat → Int32) (q91 : Nat → Int64) (q92 : Nat → Int64) : Option ((Int32) × (Nat → Int32) × (Nat → Int32) × (Nat → Int32) × (Nat → Int32) × (Nat → Int32) × (Nat → Int32) × (Nat → Int32) × (Nat → Int32) × (Nat → Int32) × (Nat → Int64) × (Nat → Int64)) := (fnX11_isFine F r71 r72 t1 (2 : Int32) (1 : Int32)).bind (fun o34 => (if o34.1 = 0 then some ((0 : Int32), o34.2.1, o34.2.2, r80, r81, r82, r83, r84, r85, r86, q91, q92) else (mj_it (mj_u2 (fun z0 z1 => bdX11_within_50 F o34.2.1 x1 x2 z0 z1)) F ((0 : Int32), q91)).bind (fun q91_36 => (mj_it (mj_u2 (fun z0 => (mj_u2 (fun z1 z2 => bdX11_within_81 F o34.2.1 r83 r84 r85 q97 x1 x2 z0 z1 z2)))) F ((0 : Int32), q91_36, q92)).bind (mj_u2 (fun q91_37 q92_37 => (mj_it (mj_u2 (fun z0 z1 => bdX11_within_286 F o34.2.1 r80 q91_37 x2 z0 z1)) F ((0 : Int64), (0 : Int32))).bind (fun x3_38 => (fnX11_formed F (x3_38 - x3_38 / (998244353 : Int64) * (998244353 : Int64)) x2).bind (fun o39 => some (o39, o34.2.1, o34.2.2, r80, r81, r82, r83, r84, r85, r86, q91_37, q92_37))))))))
def jnX11_within_37 (F : Nat) (r73 : Nat → Int32) (r75 : Nat → Int32) (r87 : Nat → Int32) (q97 : Nat → Int64) (x1 : Int32) (x2 : Int32) (r71 : Nat → Int32) (r72 : Nat → Int32) (r80 : Nat → Int32) (r81 : Nat → Int32) (r82 : Nat → Int32) (r83 : Nat → Int32) (r84 : Nat → Int32) (r85 : Nat → Int32) (r86 : Nat → Int32) (q91 : Nat → Int64) (q92 : Nat → Int64) : Option ((Int32) × (Nat → Int32) × (Nat → Int32) × (Nat → Int32) × (Nat → Int32) × (Nat → Int32) × (Nat → Int32) × (Nat → Int32) × (Nat → Int32) × (Nat → Int32) × (Nat → Int64) × (Nat → Int64)) := jnX11_within_38 F r73 r75 r87 q97 x1 x2 (0 : Int32) r71 r72 r80 r81 r82 r83 r84 r85 r86 q91 q92
def fnX11_within (F : Nat) (r71 : Nat → Int32) (r72 : Nat → Int32) (r73 : Nat → Int32) (r75 : Nat → Int32) (r80 : Nat → Int32) (r81 : Nat → Int32) (r82 : Nat → Int32) (r83 : Nat → Int32) (r84 : Nat → Int32) (r85 : Nat → Int32) (r86 : Nat → Int32) (r87 : Nat → Int32) (q91 : Nat → Int64) (q92 : Nat → Int64) (q97 : Nat → Int64) (x1 : Int32) (x2 : Int32) : Option ((Int32) × (Nat → Int32) × (Nat → Int32) × (Nat → Int32) × (Nat → Int32) × (Nat → Int32) × (Nat → Int32) × (Nat → Int32) × (Nat → Int32) × (Nat → Int32) × (Nat → Int64) × (Nat → Int64)) := (fnX11_isFew F (upd r71 0 (0 : Int32)) r72 r73 r75 r80 r81 r82 r83 r84 r85 r86 r87).bind (fun o40 => (if o40.1 = 0 then some ((0 : Int32), o40.2.1, o40.2.2.1, o40.2.2.2.1, o40.2.2.2.2.1, o40.2.2.2.2.2.1, o40.2.2.2.2.2.2.1, o40.2.2.2.2.2.2.2.1, o40.2.2.2.2.2.2.2.2.1, o40.2.2.2.2.2.2.2.2.2, q91, q92) else (fnX11_lies F x1.toInt64 (0 : Int64) (200 : Int64)).bind (fun o42 => (if o42 = 0 then jnX11_within_37 F r73 r75 r87 q97 x1 x2 o40.2.1 o40.2.2.1 o40.2.2.2.1 o40.2.2.2.2.1 o40.2.2.2.2.2.1 o40.2.2.2.2.2.2.1 o40.2.2.2.2.2.2.2.1 o40.2.2.2.2.2.2.2.2.1 o40.2.2.2.2.2.2.2.2.2 q91 q92 else (fnX11_isForm F x2).bind (fun o44 => (if o44 = 0 then jnX11_within_37 F r73 r75 r87 q97 x1 x2 o40.2.1 o40.2.2.1 o40.2.2.2.1 o40.2.2.2.2.1 o40.2.2.2.2.2.1 o40.2.2.2.2.2.2.1 o40.2.2.2.2.2.2.2.1 o40.2.2.2.2.2.2.2.2.1 o40.2.2.2.2.2.2.2.2.2 q91 q92 else jnX11_within_38 F r73 r75 r87 q97 x1 x2 (1 : Int32) o40.2.1 o40.2.2.1 o40.2.2.2.1 o40.2.2.2.2.1 o40.2.2.2.2.2.1 o40.2.2.2.2.2.2.1 o40.2.2.2.2.2.2.2.1 o40.2.2.2.2.2.2.2.2.1 o40.2.2.2.2.2.2.2.2.2 q91 q92))))))
set_option maxRecDepth 100000 in
set_option maxHeartbeats 4000000 in
theorem lpX11_within_50 {X : mj_XT} {l : Launch} {G : mj_GT} {ad : Nat → Nat} {Qn : Option Value → mj_IT → mj_LT → Prop} (hR : mj_R X l G mj_P0 mj_S0 98 ad 0 0 Qn) (F : Nat) (I : mj_IT) (L : mj_LT) (r71 : Nat → Int32) (r72 : Nat → Int32) (r73 : Nat → Int32) (r75 : Nat → Int32) (r80 : Nat → Int32) (r81 : Nat → Int32) (r82 : Nat → Int32) (r83 : Nat → Int32) (r84 : Nat → Int32) (r85 : Nat → Int32) (r86 : Nat → Int32) (r87 : Nat → Int32) (q91 : Nat → Int64) (q92 : Nat → Int64) (q97 : Nat → Int64) (x1 : Int32) (x2 : Int32) : ∀ (n : Nat) (s : ((Int32) × (Nat → Int64))) (e : ((Nat → Int64))), mj_it (mj_u2 (fun z0 z1 => bdX11_within_50 F r71 x1 x2 z0 z1)) n s = some e → (fun q91 => mj_W X G RX11 "within" cX11_within 7 8 (some .int) mj_P0 mj_S0 98 ad 0 0 79 [(0, .ref 71), (1, .int x1), (2, .int x2)] [] (mj_rows I [(71, r71), (72, r72), (73, r73), (75, r75), (80, r80), (81, r81), (82, r82), (83, r83), (84, r84), (85, r85), (86, r86), (87, r87)]) (mj_rows L [(91, q91), (92, q92), (97, q97)])) e → (mj_u2 (fun x3 q91 => mj_W X G RX11 "within" cX11_within 7 8 (some .int) mj_P0 mj_S0 98 ad 0 0 50 [(0, .ref 71), (1, .int x1), (2, .int x2), (3, .int x3)] [] (mj_rows I [(71, r71), (72, r72), (73, r73), (75, r75), (80, r80), (81, r81), (82, r82), (83, r83), (84, r84), (85, r85), (86, r86), (87, r87)]) (mj_rows L [(91, q91), (92, q92), (97, q97)]))) s := by
  refine mj_loop (fun s o hf hc hx => ?_)
  obtain ⟨x3, q91⟩ := s
  replace hf := mj_u2e hf
  refine mj_u2q ?_
  unfold bdX11_within_50 at hf
  refine mj_iload_n 3 dX11_within_50 rfl ?_
  refine mj_aload_n 0 dX11_within_51 rfl ?_
  refine mj_getIv (v := (r71 24)) rfl fl_X11_227 rfl s0_71 a0_71 dX11_within_52 ?_
  refine mj_icmp_ge 79 dX11_within_55 (by decide) (fun c1 => ?_) (fun c1 => ?_)
  · replace hf := mj_pos c1 hf
    refine mj_sub [0, 1, 2] [(0, .ref 71), (1, .int x1), (2, .int x2)] rfl ?_
    obtain rfl := Option.some.inj hf
    have hZ := hx q91 rfl
    exact hZ
  · replace hf := mj_neg c1 hf
    refine mj_aload_n 0 dX11_within_58 rfl ?_
    refine mj_getP p0_71_39 (by decide) fl_X11_373 rfl s0_71 a0_71 dX11_within_59 ?_
    refine mj_iload_n 3 dX11_within_62 rfl ?_
    refine mj_iload_n 3 dX11_within_63 rfl ?_
    refine mj_if_ne 71 dX11_within_64 (by decide) (fun c2 => ?_) (fun c2 => ?_)
    · replace hf := mj_neg c2 hf
      refine mj_lconst (v := 0) dX11_within_71 (by decide) ?_
      obtain ⟨z3, hf⟩ := mj_ck hf
      refine mj_lastr [(91, (vp_updL q91 x3.toNatClampNeg (0 : Int64))), (92, q92), (97, q97)] rfl s0_91 a0_91 z3 dX11_within_72 ?_
      refine mj_iinc 3 [(3, .int (x3 + (1))), (0, .ref 71), (1, .int x1), (2, .int x2)] dX11_within_73 rfl (kz_1 _) (by decide) rfl ?_
      refine mj_goto 50 dX11_within_76 (by decide) ?_
      refine mj_sub [1, 2, 3, 0] [(0, .ref 71), (1, .int x1), (2, .int x2), (3, .int (x3 + (1)))] rfl ?_
      obtain rfl := Option.some.inj hf
      have hZ := hc ((x3 + (1)), (vp_updL q91 x3.toNatClampNeg (0 : Int64))) rfl
      replace hZ := mj_u2p hZ
      exact hZ
    · replace hf := mj_pos c2 hf
      refine mj_lconst (v := 1) dX11_within_67 (by decide) ?_
      refine mj_goto 72 dX11_within_68 (by decide) ?_
      obtain ⟨z4, hf⟩ := mj_ck hf
      refine mj_lastr [(91, (vp_updL q91 x3.toNatClampNeg (1 : Int64))), (92, q92), (97, q97)] rfl s0_91 a0_91 z4 dX11_within_72 ?_
      refine mj_iinc 3 [(3, .int (x3 + (1))), (0, .ref 71), (1, .int x1), (2, .int x2)] dX11_within_73 rfl (kz_1 _) (by decide) rfl ?_
      refine mj_goto 50 dX11_within_76 (by decide) ?_
      refine mj_sub [1, 2, 3, 0] [(0, .ref 71), (1, .int x1), (2, .int x2), (3, .int (x3 + (1)))] rfl ?_
      obtain rfl := Option.some.inj hf
      have hZ := hc ((x3 + (1)), (vp_updL q91 x3.toNatClampNeg (1 : Int64))) rfl
      replace hZ := mj_u2p hZ
      exact hZ
set_option maxRecDepth 100000 in
set_option maxHeartbeats 4000000 in
theorem lpX11_within_89 {X : mj_XT} {l : Launch} {G : mj_GT} {ad : Nat → Nat} {Qn : Option Value → mj_IT → mj_LT → Prop} (hR : mj_R X l G mj_P0 mj_S0 98 ad 0 0 Qn) (F : Nat) (I : mj_IT) (L : mj_LT) (r71 : Nat → Int32) (r72 : Nat → Int32) (r73 : Nat → Int32) (r75 : Nat → Int32) (r80 : Nat → Int32) (r81 : Nat → Int32) (r82 : Nat → Int32) (r83 : Nat → Int32) (r84 : Nat → Int32) (r85 : Nat → Int32) (r86 : Nat → Int32) (r87 : Nat → Int32) (q91 : Nat → Int64) (q92 : Nat → Int64) (q97 : Nat → Int64) (x1 : Int32) (x2 : Int32) (x3 : Int32) : ∀ (n : Nat) (s : ((Int32) × (Nat → Int64))) (e : ((Nat → Int64))), mj_it (mj_u2 (fun z0 z1 => bdX11_within_89 F r71 r83 q91 x1 x2 x3 z0 z1)) n s = some e → (fun q92 => mj_W X G RX11 "within" cX11_within 7 8 (some .int) mj_P0 mj_S0 98 ad 0 0 132 [(0, .ref 71), (1, .int x1), (2, .int x2), (3, .int x3)] [] (mj_rows I [(71, r71), (72, r72), (73, r73), (75, r75), (80, r80), (81, r81), (82, r82), (83, r83), (84, r84), (85, r85), (86, r86), (87, r87)]) (mj_rows L [(91, q91), (92, q92), (97, q97)])) e → (mj_u2 (fun x4 q92 => mj_W X G RX11 "within" cX11_within 7 8 (some .int) mj_P0 mj_S0 98 ad 0 0 89 [(0, .ref 71), (1, .int x1), (2, .int x2), (3, .int x3), (4, .int x4)] [] (mj_rows I [(71, r71), (72, r72), (73, r73), (75, r75), (80, r80), (81, r81), (82, r82), (83, r83), (84, r84), (85, r85), (86, r86), (87, r87)]) (mj_rows L [(91, q91), (92, q92), (97, q97)]))) s := by
  refine mj_loop (fun s o hf hc hx => ?_)
  obtain ⟨x4, q92⟩ := s
  replace hf := mj_u2e hf
  refine mj_u2q ?_
  unfold bdX11_within_89 at hf
  refine mj_iload 4 dX11_within_89 rfl ?_
  refine mj_aload_n 0 dX11_within_91 rfl ?_
  refine mj_getIv (v := (r71 24)) rfl fl_X11_227 rfl s0_71 a0_71 dX11_within_92 ?_
  refine mj_icmp_ge 132 dX11_within_95 (by decide) (fun c5 => ?_) (fun c5 => ?_)
  · replace hf := mj_pos c5 hf
    refine mj_sub [0, 1, 2, 3] [(0, .ref 71), (1, .int x1), (2, .int x2), (3, .int x3)] rfl ?_
    obtain rfl := Option.some.inj hf
    have hZ := hx q92 rfl
    exact hZ
  · replace hf := mj_neg c5 hf
    refine mj_aload_n 0 dX11_within_98 rfl ?_
    refine mj_getP p0_71_40 (by decide) fl_X11_376 rfl s0_71 a0_71 dX11_within_99 ?_
    refine mj_iload 4 dX11_within_102 rfl ?_
    refine mj_aload_n 0 dX11_within_104 rfl ?_
    refine mj_getP p0_71_30 (by decide) fl_X11_251 rfl s0_71 a0_71 dX11_within_105 ?_
    refine mj_iload 4 dX11_within_108 rfl ?_
    obtain ⟨z6, hf⟩ := mj_ck hf
    refine mj_ialdv (x := r83) rfl s0_83 a0_83 z6 dX11_within_110 ?_
    refine mj_if_ne 124 dX11_within_111 (by decide) (fun c7 => ?_) (fun c7 => ?_)
    · replace hf := mj_neg c7 hf
      refine mj_lconst (v := 0) dX11_within_124 (by decide) ?_
      obtain ⟨z8, hf⟩ := mj_ck hf
      refine mj_lastr [(91, q91), (92, (vp_updL q92 x4.toNatClampNeg (0 : Int64))), (97, q97)] rfl s0_92 a0_92 z8 dX11_within_125 ?_
      refine mj_iinc 4 [(4, .int (x4 + (1))), (0, .ref 71), (1, .int x1), (2, .int x2), (3, .int x3)] dX11_within_126 rfl (kz_1 _) (by decide) rfl ?_
      refine mj_goto 89 dX11_within_129 (by decide) ?_
      refine mj_sub [1, 2, 3, 4, 0] [(0, .ref 71), (1, .int x1), (2, .int x2), (3, .int x3), (4, .int (x4 + (1)))] rfl ?_
      obtain rfl := Option.some.inj hf
      have hZ := hc ((x4 + (1)), (vp_updL q92 x4.toNatClampNeg (0 : Int64))) rfl
      replace hZ := mj_u2p hZ
      exact hZ
    · replace hf := mj_pos c7 hf
      refine mj_aload_n 0 dX11_within_114 rfl ?_
      refine mj_getP p0_71_39 (by decide) fl_X11_373 rfl s0_71 a0_71 dX11_within_115 ?_
      refine mj_iload 4 dX11_within_118 rfl ?_
      obtain ⟨z9, hf⟩ := mj_ck hf
      refine mj_laldv (x := q91) rfl s0_91 a0_91 z9 dX11_within_120 ?_
      refine mj_goto 125 dX11_within_121 (by decide) ?_
      obtain ⟨z10, hf⟩ := mj_ck hf
      refine mj_lastr [(91, q91), (92, (vp_updL q92 x4.toNatClampNeg (q91 x4.toNatClampNeg))), (97, q97)] rfl s0_92 a0_92 z10 dX11_within_125 ?_
      refine mj_iinc 4 [(4, .int (x4 + (1))), (0, .ref 71), (1, .int x1), (2, .int x2), (3, .int x3)] dX11_within_126 rfl (kz_1 _) (by decide) rfl ?_
      refine mj_goto 89 dX11_within_129 (by decide) ?_
      refine mj_sub [1, 2, 3, 4, 0] [(0, .ref 71), (1, .int x1), (2, .int x2), (3, .int x3), (4, .int (x4 + (1)))] rfl ?_
      obtain rfl := Option.some.inj hf
      have hZ := hc ((x4 + (1)), (vp_updL q92 x4.toNatClampNeg (q91 x4.toNatClampNeg))) rfl
      replace hZ := mj_u2p hZ
      exact hZ
set_option maxRecDepth 100000 in
set_option maxHeartbeats 4000000 in
theorem lpX11_within_147 {X : mj_XT} {l : Launch} {G : mj_GT} {ad : Nat → Nat} {Qn : Option Value → mj_IT → mj_LT → Prop} (hR : mj_R X l G mj_P0 mj_S0 98 ad 0 0 Qn) (F : Nat) (I : mj_IT) (L : mj_LT) (r71 : Nat → Int32) (r72 : Nat → Int32) (r73 : Nat → Int32) (r75 : Nat → Int32) (r80 : Nat → Int32) (r81 : Nat → Int32) (r82 : Nat → Int32) (r83 : Nat → Int32) (r84 : Nat → Int32) (r85 : Nat → Int32) (r86 : Nat → Int32) (r87 : Nat → Int32) (q91 : Nat → Int64) (q92 : Nat → Int64) (q97 : Nat → Int64) (x1 : Int32) (x2 : Int32) (x3 : Int32) (x4 : Int32) : ∀ (n : Nat) (s : ((Int32) × (Nat → Int64))) (e : ((Nat → Int64))), mj_it (mj_u2 (fun z0 z1 => bdX11_within_147 F r83 r84 r85 q91 q97 x1 x2 x3 x4 z0 z1)) n s = some e → (fun q92 => mj_W X G RX11 "within" cX11_within 7 8 (some .int) mj_P0 mj_S0 98 ad 0 0 237 [(0, .ref 71), (1, .int x1), (2, .int x2), (3, .int x3), (4, .int x4)] [] (mj_rows I [(71, r71), (72, r72), (73, r73), (75, r75), (80, r80), (81, r81), (82, r82), (83, r83), (84, r84), (85, r85), (86, r86), (87, r87)]) (mj_rows L [(91, q91), (92, q92), (97, q97)])) e → (mj_u2 (fun x5 q92 => mj_W X G RX11 "within" cX11_within 7 8 (some .int) mj_P0 mj_S0 98 ad 0 0 147 [(0, .ref 71), (1, .int x1), (2, .int x2), (3, .int x3), (4, .int x4), (5, .int x5)] [] (mj_rows I [(71, r71), (72, r72), (73, r73), (75, r75), (80, r80), (81, r81), (82, r82), (83, r83), (84, r84), (85, r85), (86, r86), (87, r87)]) (mj_rows L [(91, q91), (92, q92), (97, q97)]))) s := by
  refine mj_loop (fun s o hf hc hx => ?_)
  obtain ⟨x5, q92⟩ := s
  replace hf := mj_u2e hf
  refine mj_u2q ?_
  unfold bdX11_within_147 at hf
  refine mj_iload 5 dX11_within_147 rfl ?_
  refine mj_aload_n 0 dX11_within_149 rfl ?_
  refine mj_getP p0_71_30 (by decide) fl_X11_251 rfl s0_71 a0_71 dX11_within_150 ?_
  refine mj_iload 4 dX11_within_153 rfl ?_
  obtain ⟨z11, hf⟩ := mj_ck hf
  refine mj_ialdv (x := r83) rfl s0_83 a0_83 z11 dX11_within_155 ?_
  refine mj_icmp_ge 237 dX11_within_156 (by decide) (fun c12 => ?_) (fun c12 => ?_)
  · replace hf := mj_pos c12 hf
    refine mj_sub [0, 1, 2, 3, 4] [(0, .ref 71), (1, .int x1), (2, .int x2), (3, .int x3), (4, .int x4)] rfl ?_
    obtain rfl := Option.some.inj hf
    have hZ := hx q92 rfl
    exact hZ
  · replace hf := mj_neg c12 hf
    refine mj_aload_n 0 dX11_within_159 rfl ?_
    refine mj_getP p0_71_39 (by decide) fl_X11_373 rfl s0_71 a0_71 dX11_within_160 ?_
    refine mj_iload 4 dX11_within_163 rfl ?_
    obtain ⟨z13, hf⟩ := mj_ck hf
    refine mj_laldv (x := q91) rfl s0_91 a0_91 z13 dX11_within_165 ?_
    refine mj_lconst (v := 0) dX11_within_166 (by decide) ?_
    refine mj_lc_eq 237 dX11_within_167 dX11_within_168 (by decide) (fun c14 => ?_) (fun c14 => ?_)
    · replace hf := mj_pos c14 hf
      refine mj_sub [0, 1, 2, 3, 4] [(0, .ref 71), (1, .int x1), (2, .int x2), (3, .int x3), (4, .int x4)] rfl ?_
      obtain rfl := Option.some.inj hf
      have hZ := hx q92 rfl
      exact hZ
    · replace hf := mj_neg c14 hf
      refine mj_aload_n 0 dX11_within_171 rfl ?_
      refine mj_getP p0_71_31 (by decide) fl_X11_248 rfl s0_71 a0_71 dX11_within_172 ?_
      refine mj_bipush dX11_within_175 kc_bipush_10 ?_
      refine mj_iload 4 dX11_within_177 rfl ?_
      refine mj_imul dX11_within_179 ?_
      refine mj_iload 5 dX11_within_180 rfl ?_
      refine mj_iadd dX11_within_182 ?_
      obtain ⟨z15, hf⟩ := mj_ck hf
      refine mj_ialdv (x := r84) rfl s0_84 a0_84 z15 dX11_within_183 ?_
      refine mj_istore [(6, .int (r84 ((((10 : Int32) * x4) + x5).toNatClampNeg))), (0, .ref 71), (1, .int x1), (2, .int x2), (3, .int x3), (4, .int x4), (5, .int x5)] dX11_within_184 (by decide) rfl ?_
      refine mj_aload_n 1 dX11_within_186 rfl ?_
      refine mj_getP p0_71_40 (by decide) fl_X11_376 rfl s0_71 a0_71 dX11_within_187 ?_
      refine mj_iload 0 dX11_within_190 rfl ?_
      refine mj_aload_n 1 dX11_within_192 rfl ?_
      refine mj_getP p0_71_40 (by decide) fl_X11_376 rfl s0_71 a0_71 dX11_within_193 ?_
      refine mj_iload 0 dX11_within_196 rfl ?_
      obtain ⟨z16, hf⟩ := mj_ck hf
      refine mj_laldv (x := q92) rfl s0_92 a0_92 z16 dX11_within_198 ?_
      refine mj_aload_n 1 dX11_within_199 rfl ?_
      refine mj_getP p0_71_39 (by decide) fl_X11_373 rfl s0_71 a0_71 dX11_within_200 ?_
      refine mj_iload 5 dX11_within_203 rfl ?_
      obtain ⟨z17, hf⟩ := mj_ck hf
      refine mj_laldv (x := q91) rfl s0_91 a0_91 z17 dX11_within_205 ?_
      refine mj_aload_n 1 dX11_within_206 rfl ?_
      refine mj_getP p0_71_45 (by decide) fl_X11_304 rfl s0_71 a0_71 dX11_within_207 ?_
      refine mj_aload_n 1 dX11_within_210 rfl ?_
      refine mj_getP p0_71_32 (by decide) fl_X11_254 rfl s0_71 a0_71 dX11_within_211 ?_
      refine mj_bipush dX11_within_214 kc_bipush_10 ?_
      refine mj_iload 5 dX11_within_216 rfl ?_
      refine mj_imul dX11_within_218 ?_
      refine mj_iload 6 dX11_within_219 rfl ?_
      refine mj_iadd dX11_within_221 ?_
      obtain ⟨z18, hf⟩ := mj_ck hf
      refine mj_ialdv (x := r85) rfl s0_85 a0_85 z18 dX11_within_222 ?_
      obtain ⟨z19, hf⟩ := mj_ck hf
      refine mj_laldv (x := q97) rfl s0_97 a0_97 z19 dX11_within_223 ?_
      refine mj_lmul dX11_within_224 ?_
      refine mj_ladd dX11_within_225 ?_
      refine mj_ldc2 kk_X11_279 dX11_within_226 ?_
      refine mj_lrem dX11_within_229 (by decide) ?_
      obtain ⟨z20, hf⟩ := mj_ck hf
      refine mj_lastr [(91, q91), (92, (vp_updL q92 ((r84 ((((10 : Int32) * x4) + x5).toNatClampNeg)).toNatClampNeg) (((q92 ((r84 ((((10 : Int32) * x4) + x5).toNatClampNeg)).toNatClampNeg)) + ((q91 x4.toNatClampNeg) * (q97 ((r85 ((((10 : Int32) * x4) + x5).toNatClampNeg)).toNatClampNeg)))) - ((q92 ((r84 ((((10 : Int32) * x4) + x5).toNatClampNeg)).toNatClampNeg)) + ((q91 x4.toNatClampNeg) * (q97 ((r85 ((((10 : Int32) * x4) + x5).toNatClampNeg)).toNatClampNeg)))) / (998244353 : Int64) * (998244353 : Int64)))), (97, q97)] rfl s0_92 a0_92 z20 dX11_within_230 ?_
      refine mj_iinc 6 [(5, .int (x5 + (1))), (6, .int (r84 ((((10 : Int32) * x4) + x5).toNatClampNeg))), (0, .ref 71), (1, .int x1), (2, .int x2), (3, .int x3), (4, .int x4)] dX11_within_231 rfl (kz_1 _) (by decide) rfl ?_
      refine mj_goto 147 dX11_within_234 (by decide) ?_
      refine mj_sub [2, 3, 4, 5, 6, 0] [(0, .ref 71), (1, .int x1), (2, .int x2), (3, .int x3), (4, .int x4), (5, .int (x5 + (1)))] rfl ?_
      obtain rfl := Option.some.inj hf
      have hZ := hc ((x5 + (1)), (vp_updL q92 ((r84 ((((10 : Int32) * x4) + x5).toNatClampNeg)).toNatClampNeg) (((q92 ((r84 ((((10 : Int32) * x4) + x5).toNatClampNeg)).toNatClampNeg)) + ((q91 x4.toNatClampNeg) * (q97 ((r85 ((((10 : Int32) * x4) + x5).toNatClampNeg)).toNatClampNeg)))) - ((q92 ((r84 ((((10 : Int32) * x4) + x5).toNatClampNeg)).toNatClampNeg)) + ((q91 x4.toNatClampNeg) * (q97 ((r85 ((((10 : Int32) * x4) + x5).toNatClampNeg)).toNatClampNeg)))) / (998244353 : Int64) * (998244353 : Int64)))) rfl
      replace hZ := mj_u2p hZ
      exact hZ
set_option maxRecDepth 100000 in
set_option maxHeartbeats 4000000 in
theorem lpX11_within_135 {X : mj_XT} {l : Launch} {G : mj_GT} {ad : Nat → Nat} {Qn : Option Value → mj_IT → mj_LT → Prop} (hR : mj_R X l G mj_P0 mj_S0 98 ad 0 0 Qn) (F : Nat) (I : mj_IT) (L : mj_LT) (r71 : Nat → Int32) (r72 : Nat → Int32) (r73 : Nat → Int32) (r75 : Nat → Int32) (r80 : Nat → Int32) (r81 : Nat → Int32) (r82 : Nat → Int32) (r83 : Nat → Int32) (r84 : Nat → Int32) (r85 : Nat → Int32) (r86 : Nat → Int32) (r87 : Nat → Int32) (q91 : Nat → Int64) (q92 : Nat → Int64) (q97 : Nat → Int64) (x1 : Int32) (x2 : Int32) (x3 : Int32) : ∀ (n : Nat) (s : ((Int32) × (Nat → Int64))) (e : ((Nat → Int64))), mj_it (mj_u2 (fun z0 z1 => bdX11_within_135 F r71 r83 r84 r85 q91 q97 x1 x2 x3 z0 z1)) n s = some e → (fun q92 => mj_W X G RX11 "within" cX11_within 7 8 (some .int) mj_P0 mj_S0 98 ad 0 0 243 [(0, .ref 71), (1, .int x1), (2, .int x2), (3, .int x3)] [] (mj_rows I [(71, r71), (72, r72), (73, r73), (75, r75), (80, r80), (81, r81), (82, r82), (83, r83), (84, r84), (85, r85), (86, r86), (87, r87)]) (mj_rows L [(91, q91), (92, q92), (97, q97)])) e → (mj_u2 (fun x4 q92 => mj_W X G RX11 "within" cX11_within 7 8 (some .int) mj_P0 mj_S0 98 ad 0 0 135 [(0, .ref 71), (1, .int x1), (2, .int x2), (3, .int x3), (4, .int x4)] [] (mj_rows I [(71, r71), (72, r72), (73, r73), (75, r75), (80, r80), (81, r81), (82, r82), (83, r83), (84, r84), (85, r85), (86, r86), (87, r87)]) (mj_rows L [(91, q91), (92, q92), (97, q97)]))) s := by
  refine mj_loop (fun s o hf hc hx => ?_)
  obtain ⟨x4, q92⟩ := s
  replace hf := mj_u2e hf
  refine mj_u2q ?_
  unfold bdX11_within_135 at hf
  refine mj_iload 4 dX11_within_135 rfl ?_
  refine mj_aload_n 0 dX11_within_137 rfl ?_
  refine mj_getIv (v := (r71 24)) rfl fl_X11_227 rfl s0_71 a0_71 dX11_within_138 ?_
  refine mj_icmp_ge 243 dX11_within_141 (by decide) (fun c21 => ?_) (fun c21 => ?_)
  · replace hf := mj_pos c21 hf
    refine mj_sub [0, 1, 2, 3] [(0, .ref 71), (1, .int x1), (2, .int x2), (3, .int x3)] rfl ?_
    obtain rfl := Option.some.inj hf
    have hZ := hx q92 rfl
    exact hZ
  · replace hf := mj_neg c21 hf
    refine mj_iconst dX11_within_144 kc_iconst_0 ?_
    refine mj_istore [(5, .int (0 : Int32)), (0, .ref 71), (1, .int x1), (2, .int x2), (3, .int x3), (4, .int x4)] dX11_within_145 (by decide) rfl ?_
    refine mj_sub [1, 2, 3, 4, 5, 0] [(0, .ref 71), (1, .int x1), (2, .int x2), (3, .int x3), (4, .int x4), (5, .int (0 : Int32))] rfl ?_
    obtain ⟨q92_22, ho22, hf⟩ := mj_bd hf
    refine lpX11_within_147 hR F I L r71 r72 r73 r75 r80 r81 r82 r83 r84 r85 r86 r87 q91 q92 q97 x1 x2 x3 x4 F ((0 : Int32), q92) q92_22 ho22 ?_
    refine ?_
    refine mj_iinc 4 [(4, .int (x4 + (1))), (0, .ref 71), (1, .int x1), (2, .int x2), (3, .int x3)] dX11_within_237 rfl (kz_1 _) (by decide) rfl ?_
    refine mj_goto 135 dX11_within_240 (by decide) ?_
    refine mj_sub [1, 2, 3, 4, 0] [(0, .ref 71), (1, .int x1), (2, .int x2), (3, .int x3), (4, .int (x4 + (1)))] rfl ?_
    obtain rfl := Option.some.inj hf
    have hZ := hc ((x4 + (1)), q92_22) rfl
    replace hZ := mj_u2p hZ
    exact hZ
set_option maxRecDepth 100000 in
set_option maxHeartbeats 4000000 in
theorem lpX11_within_246 {X : mj_XT} {l : Launch} {G : mj_GT} {ad : Nat → Nat} {Qn : Option Value → mj_IT → mj_LT → Prop} (hR : mj_R X l G mj_P0 mj_S0 98 ad 0 0 Qn) (F : Nat) (I : mj_IT) (L : mj_LT) (r71 : Nat → Int32) (r72 : Nat → Int32) (r73 : Nat → Int32) (r75 : Nat → Int32) (r80 : Nat → Int32) (r81 : Nat → Int32) (r82 : Nat → Int32) (r83 : Nat → Int32) (r84 : Nat → Int32) (r85 : Nat → Int32) (r86 : Nat → Int32) (r87 : Nat → Int32) (q91 : Nat → Int64) (q92 : Nat → Int64) (q97 : Nat → Int64) (x1 : Int32) (x2 : Int32) (x3 : Int32) : ∀ (n : Nat) (s : ((Int32) × (Nat → Int64))) (e : ((Nat → Int64))), mj_it (mj_u2 (fun z0 z1 => bdX11_within_246 F r71 q92 x1 x2 x3 z0 z1)) n s = some e → (fun q91 => mj_W X G RX11 "within" cX11_within 7 8 (some .int) mj_P0 mj_S0 98 ad 0 0 275 [(0, .ref 71), (1, .int x1), (2, .int x2), (3, .int x3)] [] (mj_rows I [(71, r71), (72, r72), (73, r73), (75, r75), (80, r80), (81, r81), (82, r82), (83, r83), (84, r84), (85, r85), (86, r86), (87, r87)]) (mj_rows L [(91, q91), (92, q92), (97, q97)])) e → (mj_u2 (fun x4 q91 => mj_W X G RX11 "within" cX11_within 7 8 (some .int) mj_P0 mj_S0 98 ad 0 0 246 [(0, .ref 71), (1, .int x1), (2, .int x2), (3, .int x3), (4, .int x4)] [] (mj_rows I [(71, r71), (72, r72), (73, r73), (75, r75), (80, r80), (81, r81), (82, r82), (83, r83), (84, r84), (85, r85), (86, r86), (87, r87)]) (mj_rows L [(91, q91), (92, q92), (97, q97)]))) s := by
  refine mj_loop (fun s o hf hc hx => ?_)
  obtain ⟨x4, q91⟩ := s
  replace hf := mj_u2e hf
  refine mj_u2q ?_
  unfold bdX11_within_246 at hf
  refine mj_iload 4 dX11_within_246 rfl ?_
  refine mj_aload_n 0 dX11_within_248 rfl ?_
  refine mj_getIv (v := (r71 24)) rfl fl_X11_227 rfl s0_71 a0_71 dX11_within_249 ?_
  refine mj_icmp_ge 275 dX11_within_252 (by decide) (fun c23 => ?_) (fun c23 => ?_)
  · replace hf := mj_pos c23 hf
    refine mj_sub [0, 1, 2, 3] [(0, .ref 71), (1, .int x1), (2, .int x2), (3, .int x3)] rfl ?_
    obtain rfl := Option.some.inj hf
    have hZ := hx q91 rfl
    exact hZ
  · replace hf := mj_neg c23 hf
    refine mj_aload_n 0 dX11_within_255 rfl ?_
    refine mj_getP p0_71_39 (by decide) fl_X11_373 rfl s0_71 a0_71 dX11_within_256 ?_
    refine mj_iload 4 dX11_within_259 rfl ?_
    refine mj_aload_n 0 dX11_within_261 rfl ?_
    refine mj_getP p0_71_40 (by decide) fl_X11_376 rfl s0_71 a0_71 dX11_within_262 ?_
    refine mj_iload 4 dX11_within_265 rfl ?_
    obtain ⟨z24, hf⟩ := mj_ck hf
    refine mj_laldv (x := q92) rfl s0_92 a0_92 z24 dX11_within_267 ?_
    obtain ⟨z25, hf⟩ := mj_ck hf
    refine mj_lastr [(91, (vp_updL q91 x4.toNatClampNeg (q92 x4.toNatClampNeg))), (92, q92), (97, q97)] rfl s0_91 a0_91 z25 dX11_within_268 ?_
    refine mj_iinc 4 [(4, .int (x4 + (1))), (0, .ref 71), (1, .int x1), (2, .int x2), (3, .int x3)] dX11_within_269 rfl (kz_1 _) (by decide) rfl ?_
    refine mj_goto 246 dX11_within_272 (by decide) ?_
    refine mj_sub [1, 2, 3, 4, 0] [(0, .ref 71), (1, .int x1), (2, .int x2), (3, .int x3), (4, .int (x4 + (1)))] rfl ?_
    obtain rfl := Option.some.inj hf
    have hZ := hc ((x4 + (1)), (vp_updL q91 x4.toNatClampNeg (q92 x4.toNatClampNeg))) rfl
    replace hZ := mj_u2p hZ
    exact hZ
set_option maxRecDepth 100000 in
set_option maxHeartbeats 4000000 in
theorem lpX11_within_81 {X : mj_XT} {l : Launch} {G : mj_GT} {ad : Nat → Nat} {Qn : Option Value → mj_IT → mj_LT → Prop} (hR : mj_R X l G mj_P0 mj_S0 98 ad 0 0 Qn) (F : Nat) (I : mj_IT) (L : mj_LT) (r71 : Nat → Int32) (r72 : Nat → Int32) (r73 : Nat → Int32) (r75 : Nat → Int32) (r80 : Nat → Int32) (r81 : Nat → Int32) (r82 : Nat → Int32) (r83 : Nat → Int32) (r84 : Nat → Int32) (r85 : Nat → Int32) (r86 : Nat → Int32) (r87 : Nat → Int32) (q91 : Nat → Int64) (q92 : Nat → Int64) (q97 : Nat → Int64) (x1 : Int32) (x2 : Int32) : ∀ (n : Nat) (s : ((Int32) × (Nat → Int64) × (Nat → Int64))) (e : ((Nat → Int64) × (Nat → Int64))), mj_it (mj_u2 (fun z0 => (mj_u2 (fun z1 z2 => bdX11_within_81 F r71 r83 r84 r85 q97 x1 x2 z0 z1 z2)))) n s = some e → (mj_u2 (fun q91 q92 => mj_W X G RX11 "within" cX11_within 7 8 (some .int) mj_P0 mj_S0 98 ad 0 0 281 [(0, .ref 71), (2, .int x2)] [] (mj_rows I [(71, r71), (72, r72), (73, r73), (75, r75), (80, r80), (81, r81), (82, r82), (83, r83), (84, r84), (85, r85), (86, r86), (87, r87)]) (mj_rows L [(91, q91), (92, q92), (97, q97)]))) e → (mj_u2 (fun x3 => (mj_u2 (fun q91 q92 => mj_W X G RX11 "within" cX11_within 7 8 (some .int) mj_P0 mj_S0 98 ad 0 0 81 [(0, .ref 71), (1, .int x1), (2, .int x2), (3, .int x3)] [] (mj_rows I [(71, r71), (72, r72), (73, r73), (75, r75), (80, r80), (81, r81), (82, r82), (83, r83), (84, r84), (85, r85), (86, r86), (87, r87)]) (mj_rows L [(91, q91), (92, q92), (97, q97)]))))) s := by
  refine mj_loop (fun s o hf hc hx => ?_)
  obtain ⟨x3, q91, q92⟩ := s
  replace hf := mj_u2e hf
  refine mj_u2q ?_
  replace hf := mj_u2e hf
  refine mj_u2q ?_
  unfold bdX11_within_81 at hf
  refine mj_iload_n 3 dX11_within_81 rfl ?_
  refine mj_iload_n 1 dX11_within_82 rfl ?_
  refine mj_icmp_ge 281 dX11_within_83 (by decide) (fun c26 => ?_) (fun c26 => ?_)
  · replace hf := mj_pos c26 hf
    refine mj_sub [0, 2] [(0, .ref 71), (2, .int x2)] rfl ?_
    obtain rfl := Option.some.inj hf
    have hZ := hx (q91, q92) rfl
    replace hZ := mj_u2p hZ
    exact hZ
  · replace hf := mj_neg c26 hf
    refine mj_iconst dX11_within_86 kc_iconst_0 ?_
    refine mj_istore [(4, .int (0 : Int32)), (0, .ref 71), (1, .int x1), (2, .int x2), (3, .int x3)] dX11_within_87 (by decide) rfl ?_
    refine mj_sub [1, 2, 3, 4, 0] [(0, .ref 71), (1, .int x1), (2, .int x2), (3, .int x3), (4, .int (0 : Int32))] rfl ?_
    obtain ⟨q92_27, ho27, hf⟩ := mj_bd hf
    refine lpX11_within_89 hR F I L r71 r72 r73 r75 r80 r81 r82 r83 r84 r85 r86 r87 q91 q92 q97 x1 x2 x3 F ((0 : Int32), q92) q92_27 ho27 ?_
    refine ?_
    refine mj_iconst dX11_within_132 kc_iconst_0 ?_
    refine mj_istore [(4, .int (0 : Int32)), (0, .ref 71), (1, .int x1), (2, .int x2), (3, .int x3)] dX11_within_133 (by decide) rfl ?_
    refine mj_sub [1, 2, 3, 4, 0] [(0, .ref 71), (1, .int x1), (2, .int x2), (3, .int x3), (4, .int (0 : Int32))] rfl ?_
    obtain ⟨q92_28, ho28, hf⟩ := mj_bd hf
    refine lpX11_within_135 hR F I L r71 r72 r73 r75 r80 r81 r82 r83 r84 r85 r86 r87 q91 q92_27 q97 x1 x2 x3 F ((0 : Int32), q92_27) q92_28 ho28 ?_
    refine ?_
    refine mj_iconst dX11_within_243 kc_iconst_0 ?_
    refine mj_istore [(4, .int (0 : Int32)), (0, .ref 71), (1, .int x1), (2, .int x2), (3, .int x3)] dX11_within_244 (by decide) rfl ?_
    refine mj_sub [1, 2, 3, 4, 0] [(0, .ref 71), (1, .int x1), (2, .int x2), (3, .int x3), (4, .int (0 : Int32))] rfl ?_
    obtain ⟨q91_29, ho29, hf⟩ := mj_bd hf
    refine lpX11_within_246 hR F I L r71 r72 r73 r75 r80 r81 r82 r83 r84 r85 r86 r87 q91 q92_28 q97 x1 x2 x3 F ((0 : Int32), q91) q91_29 ho29 ?_
    refine ?_
    refine mj_iinc 3 [(3, .int (x3 + (1))), (0, .ref 71), (1, .int x1), (2, .int x2)] dX11_within_275 rfl (kz_1 _) (by decide) rfl ?_
    refine mj_goto 81 dX11_within_278 (by decide) ?_
    refine mj_sub [1, 2, 3, 0] [(0, .ref 71), (1, .int x1), (2, .int x2), (3, .int (x3 + (1)))] rfl ?_
    obtain rfl := Option.some.inj hf
    have hZ := hc ((x3 + (1)), q91_29, q92_28) rfl
    replace hZ := mj_u2p hZ
    replace hZ := mj_u2p hZ
    exact hZ
set_option maxRecDepth 100000 in
set_option maxHeartbeats 4000000 in
theorem lpX11_within_286 {X : mj_XT} {l : Launch} {G : mj_GT} {ad : Nat → Nat} {Qn : Option Value → mj_IT → mj_LT → Prop} (hR : mj_R X l G mj_P0 mj_S0 98 ad 0 0 Qn) (F : Nat) (I : mj_IT) (L : mj_LT) (r71 : Nat → Int32) (r72 : Nat → Int32) (r73 : Nat → Int32) (r75 : Nat → Int32) (r80 : Nat → Int32) (r81 : Nat → Int32) (r82 : Nat → Int32) (r83 : Nat → Int32) (r84 : Nat → Int32) (r85 : Nat → Int32) (r86 : Nat → Int32) (r87 : Nat → Int32) (q91 : Nat → Int64) (q92 : Nat → Int64) (q97 : Nat → Int64) (x2 : Int32) : ∀ (n : Nat) (s : ((Int64) × (Int32))) (e : ((Int64))), mj_it (mj_u2 (fun z0 z1 => bdX11_within_286 F r71 r80 q91 x2 z0 z1)) n s = some e → (fun x3 => mj_W X G RX11 "within" cX11_within 7 8 (some .int) mj_P0 mj_S0 98 ad 0 0 324 [(2, .int x2), (3, .long x3)] [] (mj_rows I [(71, r71), (72, r72), (73, r73), (75, r75), (80, r80), (81, r81), (82, r82), (83, r83), (84, r84), (85, r85), (86, r86), (87, r87)]) (mj_rows L [(91, q91), (92, q92), (97, q97)])) e → (mj_u2 (fun x3 x5 => mj_W X G RX11 "within" cX11_within 7 8 (some .int) mj_P0 mj_S0 98 ad 0 0 286 [(0, .ref 71), (2, .int x2), (3, .long x3), (5, .int x5)] [] (mj_rows I [(71, r71), (72, r72), (73, r73), (75, r75), (80, r80), (81, r81), (82, r82), (83, r83), (84, r84), (85, r85), (86, r86), (87, r87)]) (mj_rows L [(91, q91), (92, q92), (97, q97)]))) s := by
  refine mj_loop (fun s o hf hc hx => ?_)
  obtain ⟨x3, x5⟩ := s
  replace hf := mj_u2e hf
  refine mj_u2q ?_
  unfold bdX11_within_286 at hf
  refine mj_iload 3 dX11_within_286 rfl ?_
  refine mj_aload_n 0 dX11_within_288 rfl ?_
  refine mj_getIv (v := (r71 24)) rfl fl_X11_227 rfl s0_71 a0_71 dX11_within_289 ?_
  refine mj_icmp_ge 324 dX11_within_292 (by decide) (fun c30 => ?_) (fun c30 => ?_)
  · replace hf := mj_pos c30 hf
    refine mj_sub [1, 2] [(2, .int x2), (3, .long x3)] rfl ?_
    obtain rfl := Option.some.inj hf
    have hZ := hx x3 rfl
    exact hZ
  · replace hf := mj_neg c30 hf
    refine mj_lload_n 2 dX11_within_295 rfl ?_
    refine mj_aload_n 0 dX11_within_296 rfl ?_
    refine mj_iload 3 dX11_within_297 rfl ?_
    obtain ⟨o31, ho31, hf⟩ := mj_bd hf
    refine mj_callVd (I2 := (mj_rows I [(71, r71), (72, r72), (73, r73), (75, r75), (80, r80), (81, r81), (82, r82), (83, r83), (84, r84), (85, r85), (86, r86), (87, r87)])) (L2 := (mj_rows L [(91, q91), (92, q92), (97, q97)])) (s1 := [.int o31, .long x3]) (st := [.long x3]) [.int x5] (cmX11_isEnd X.2.1 G F x5 _ _ r71 r80 rfl rfl o31 ho31) (mj_rr rfl) rfl cw_X11_330 s0_71 a0_71 (by decide) rfl rfl (Nat.le_of_ble_eq_true rfl) ⟨Nat.zero_le _, Nat.zero_le _⟩ dX11_within_299 rfl ?_
    refine mj_if_eq 315 dX11_within_302 (by decide) (fun c32 => ?_) (fun c32 => ?_)
    · replace hf := mj_pos c32 hf
      refine mj_lconst (v := 0) dX11_within_315 (by decide) ?_
      refine mj_ladd dX11_within_316 ?_
      refine mj_lstore_n [(3, .long (x3 + (0 : Int64))), (0, .ref 71), (2, .int x2), (5, .int x5)] dX11_within_317 rfl (by decide) rfl ?_
      refine mj_iinc 3 [(5, .int (x5 + (1))), (3, .long (x3 + (0 : Int64))), (0, .ref 71), (2, .int x2)] dX11_within_318 rfl (kz_1 _) (by decide) rfl ?_
      refine mj_goto 286 dX11_within_321 (by decide) ?_
      refine mj_sub [2, 3, 1, 0] [(0, .ref 71), (2, .int x2), (3, .long (x3 + (0 : Int64))), (5, .int (x5 + (1)))] rfl ?_
      obtain rfl := Option.some.inj hf
      have hZ := hc ((x3 + (0 : Int64)), (x5 + (1))) rfl
      replace hZ := mj_u2p hZ
      exact hZ
    · replace hf := mj_neg c32 hf
      refine mj_aload_n 0 dX11_within_305 rfl ?_
      refine mj_getP p0_71_39 (by decide) fl_X11_373 rfl s0_71 a0_71 dX11_within_306 ?_
      refine mj_iload 3 dX11_within_309 rfl ?_
      obtain ⟨z33, hf⟩ := mj_ck hf
      refine mj_laldv (x := q91) rfl s0_91 a0_91 z33 dX11_within_311 ?_
      refine mj_goto 316 dX11_within_312 (by decide) ?_
      refine mj_ladd dX11_within_316 ?_
      refine mj_lstore_n [(3, .long (x3 + (q91 x5.toNatClampNeg))), (0, .ref 71), (2, .int x2), (5, .int x5)] dX11_within_317 rfl (by decide) rfl ?_
      refine mj_iinc 3 [(5, .int (x5 + (1))), (3, .long (x3 + (q91 x5.toNatClampNeg))), (0, .ref 71), (2, .int x2)] dX11_within_318 rfl (kz_1 _) (by decide) rfl ?_
      refine mj_goto 286 dX11_within_321 (by decide) ?_
      refine mj_sub [2, 3, 1, 0] [(0, .ref 71), (2, .int x2), (3, .long (x3 + (q91 x5.toNatClampNeg))), (5, .int (x5 + (1)))] rfl ?_
      obtain rfl := Option.some.inj hf
      have hZ := hc ((x3 + (q91 x5.toNatClampNeg)), (x5 + (1))) rfl
      replace hZ := mj_u2p hZ
      exact hZ
set_option maxRecDepth 100000 in
set_option maxHeartbeats 4000000 in
theorem jtX11_within_38 {X : mj_XT} {l : Launch} {G : mj_GT} {ad : Nat → Nat} {Qn : Option Value → mj_IT → mj_LT → Prop} (hR : mj_R X l G mj_P0 mj_S0 98 ad 0 0 Qn) (F : Nat) (I : mj_IT) (L : mj_LT) (r71 : Nat → Int32) (r72 : Nat → Int32) (r73 : Nat → Int32) (r75 : Nat → Int32) (r80 : Nat → Int32) (r81 : Nat → Int32) (r82 : Nat → Int32) (r83 : Nat → Int32) (r84 : Nat → Int32) (r85 : Nat → Int32) (r86 : Nat → Int32) (r87 : Nat → Int32) (q91 : Nat → Int64) (q92 : Nat → Int64) (q97 : Nat → Int64) (x1 : Int32) (x2 : Int32) (t1 : Int32) (o : ((Int32) × (Nat → Int32) × (Nat → Int32) × (Nat → Int32) × (Nat → Int32) × (Nat → Int32) × (Nat → Int32) × (Nat → Int32) × (Nat → Int32) × (Nat → Int32) × (Nat → Int64) × (Nat → Int64))) (hf : jnX11_within_38 F r73 r75 r87 q97 x1 x2 t1 r71 r72 r80 r81 r82 r83 r84 r85 r86 q91 q92 = some o) (hq : (mj_u2 (fun ov => (mj_u2 (fun r71 => (mj_u2 (fun r72 => (mj_u2 (fun r80 => (mj_u2 (fun r81 => (mj_u2 (fun r82 => (mj_u2 (fun r83 => (mj_u2 (fun r84 => (mj_u2 (fun r85 => (mj_u2 (fun r86 => (mj_u2 (fun q91 q92 => Qn (some (.int ov)) (mj_rows I [(71, r71), (72, r72), (73, r73), (75, r75), (80, r80), (81, r81), (82, r82), (83, r83), (84, r84), (85, r85), (86, r86), (87, r87)]) (mj_rows L [(91, q91), (92, q92), (97, q97)]))))))))))))))))))))))) o) : mj_W X G RX11 "within" cX11_within 7 8 (some .int) mj_P0 mj_S0 98 ad 0 0 38 [(0, .ref 71), (1, .int x1), (2, .int x2)] [.int t1, .ref 71] (mj_rows I [(71, r71), (72, r72), (73, r73), (75, r75), (80, r80), (81, r81), (82, r82), (83, r83), (84, r84), (85, r85), (86, r86), (87, r87)]) (mj_rows L [(91, q91), (92, q92), (97, q97)]) := by
  unfold jnX11_within_38 at hf
  refine mj_iconst dX11_within_38 kc_iconst_2 ?_
  refine mj_iconst dX11_within_39 kc_iconst_1 ?_
  obtain ⟨o34, ho34, hf⟩ := mj_bd hf
  refine mj_callVd (I2 := (mj_rows I [(71, o34.2.1), (72, o34.2.2), (73, r73), (75, r75), (80, r80), (81, r81), (82, r82), (83, r83), (84, r84), (85, r85), (86, r86), (87, r87)])) (L2 := (mj_rows L [(91, q91), (92, q92), (97, q97)])) (s1 := [.int o34.1]) (st := []) [.int t1, .int (2 : Int32), .int (1 : Int32)] (cmX11_isFine X.2.1 G F t1 (2 : Int32) (1 : Int32) _ _ r71 r72 rfl rfl o34 ho34) (mj_rr rfl) rfl cw_X11_161 s0_71 a0_71 (by decide) rfl rfl (Nat.le_of_ble_eq_true rfl) ⟨Nat.zero_le _, Nat.zero_le _⟩ dX11_within_40 rfl ?_
  refine mj_if_ne 48 dX11_within_43 (by decide) (fun c35 => ?_) (fun c35 => ?_)
  · replace hf := mj_neg c35 hf
    refine mj_iconst dX11_within_48 kc_iconst_0 ?_
    refine mj_istore_n [(3, .int (0 : Int32)), (0, .ref 71), (1, .int x1), (2, .int x2)] dX11_within_49 rfl (by decide) rfl ?_
    refine mj_sub [1, 2, 3, 0] [(0, .ref 71), (1, .int x1), (2, .int x2), (3, .int (0 : Int32))] rfl ?_
    obtain ⟨q91_36, ho36, hf⟩ := mj_bd hf
    refine lpX11_within_50 hR F I L o34.2.1 o34.2.2 r73 r75 r80 r81 r82 r83 r84 r85 r86 r87 q91 q92 q97 x1 x2 F ((0 : Int32), q91) q91_36 ho36 ?_
    refine ?_
    refine mj_iconst dX11_within_79 kc_iconst_0 ?_
    refine mj_istore_n [(3, .int (0 : Int32)), (0, .ref 71), (1, .int x1), (2, .int x2)] dX11_within_80 rfl (by decide) rfl ?_
    refine mj_sub [1, 2, 3, 0] [(0, .ref 71), (1, .int x1), (2, .int x2), (3, .int (0 : Int32))] rfl ?_
    obtain ⟨e37, ho37, hf⟩ := mj_bd hf
    refine lpX11_within_81 hR F I L o34.2.1 o34.2.2 r73 r75 r80 r81 r82 r83 r84 r85 r86 r87 q91_36 q92 q97 x1 x2 F ((0 : Int32), q91_36, q92) e37 ho37 ?_
    obtain ⟨q91_37, q92_37⟩ := e37
    replace hf := mj_u2e hf
    refine ?_
    refine mj_u2q ?_
    refine mj_lconst (v := 0) dX11_within_281 (by decide) ?_
    refine mj_lstore_n [(3, .long (0 : Int64)), (0, .ref 71), (2, .int x2)] dX11_within_282 rfl (by decide) rfl ?_
    refine mj_iconst dX11_within_283 kc_iconst_0 ?_
    refine mj_istore [(5, .int (0 : Int32)), (3, .long (0 : Int64)), (0, .ref 71), (2, .int x2)] dX11_within_284 (by decide) rfl ?_
    refine mj_sub [2, 3, 1, 0] [(0, .ref 71), (2, .int x2), (3, .long (0 : Int64)), (5, .int (0 : Int32))] rfl ?_
    obtain ⟨x3_38, ho38, hf⟩ := mj_bd hf
    refine lpX11_within_286 hR F I L o34.2.1 o34.2.2 r73 r75 r80 r81 r82 r83 r84 r85 r86 r87 q91_37 q92_37 q97 x2 F ((0 : Int64), (0 : Int32)) x3_38 ho38 ?_
    refine ?_
    refine mj_lload_n 1 dX11_within_324 rfl ?_
    refine mj_ldc2 kk_X11_279 dX11_within_325 ?_
    refine mj_lrem dX11_within_328 (by decide) ?_
    refine mj_iload_n 0 dX11_within_329 rfl ?_
    obtain ⟨o39, ho39, hf⟩ := mj_bd hf
    refine mj_callSd (I2 := (mj_rows I [(71, o34.2.1), (72, o34.2.2), (73, r73), (75, r75), (80, r80), (81, r81), (82, r82), (83, r83), (84, r84), (85, r85), (86, r86), (87, r87)])) (L2 := (mj_rows L [(91, q91_37), (92, q92_37), (97, q97)])) (s1 := [.int o39]) (st := []) [.long (x3_38 - x3_38 / (998244353 : Int64) * (998244353 : Int64)), .int x2] (cmX11_formed X.2.1 G F (x3_38 - x3_38 / (998244353 : Int64) * (998244353 : Int64)) x2 _ _   o39 ho39) rfl rfl cw_X11_353 (by decide) rfl rfl (Nat.le_of_ble_eq_true rfl) ⟨Nat.zero_le _, Nat.zero_le _⟩ dX11_within_330 rfl ?_
    obtain rfl := Option.some.inj hf
    have hZ := hq
    replace hZ := mj_u2p hZ
    replace hZ := mj_u2p hZ
    replace hZ := mj_u2p hZ
    replace hZ := mj_u2p hZ
    replace hZ := mj_u2p hZ
    replace hZ := mj_u2p hZ
    replace hZ := mj_u2p hZ
    replace hZ := mj_u2p hZ
    replace hZ := mj_u2p hZ
    replace hZ := mj_u2p hZ
    replace hZ := mj_u2p hZ
    exact mj_iret hR ⟨Nat.le_refl _, Nat.le_refl _⟩ rfl rfl dX11_within_333 hZ
  · replace hf := mj_pos c35 hf
    refine mj_iconst dX11_within_46 kc_iconst_0 ?_
    obtain rfl := Option.some.inj hf
    have hZ := hq
    replace hZ := mj_u2p hZ
    replace hZ := mj_u2p hZ
    replace hZ := mj_u2p hZ
    replace hZ := mj_u2p hZ
    replace hZ := mj_u2p hZ
    replace hZ := mj_u2p hZ
    replace hZ := mj_u2p hZ
    replace hZ := mj_u2p hZ
    replace hZ := mj_u2p hZ
    replace hZ := mj_u2p hZ
    replace hZ := mj_u2p hZ
    exact mj_iret hR ⟨Nat.le_refl _, Nat.le_refl _⟩ rfl rfl dX11_within_47 hZ
set_option maxRecDepth 100000 in
set_option maxHeartbeats 4000000 in
theorem jtX11_within_37 {X : mj_XT} {l : Launch} {G : mj_GT} {ad : Nat → Nat} {Qn : Option Value → mj_IT → mj_LT → Prop} (hR : mj_R X l G mj_P0 mj_S0 98 ad 0 0 Qn) (F : Nat) (I : mj_IT) (L : mj_LT) (r71 : Nat → Int32) (r72 : Nat → Int32) (r73 : Nat → Int32) (r75 : Nat → Int32) (r80 : Nat → Int32) (r81 : Nat → Int32) (r82 : Nat → Int32) (r83 : Nat → Int32) (r84 : Nat → Int32) (r85 : Nat → Int32) (r86 : Nat → Int32) (r87 : Nat → Int32) (q91 : Nat → Int64) (q92 : Nat → Int64) (q97 : Nat → Int64) (x1 : Int32) (x2 : Int32) (o : ((Int32) × (Nat → Int32) × (Nat → Int32) × (Nat → Int32) × (Nat → Int32) × (Nat → Int32) × (Nat → Int32) × (Nat → Int32) × (Nat → Int32) × (Nat → Int32) × (Nat → Int64) × (Nat → Int64))) (hf : jnX11_within_37 F r73 r75 r87 q97 x1 x2 r71 r72 r80 r81 r82 r83 r84 r85 r86 q91 q92 = some o) (hq : (mj_u2 (fun ov => (mj_u2 (fun r71 => (mj_u2 (fun r72 => (mj_u2 (fun r80 => (mj_u2 (fun r81 => (mj_u2 (fun r82 => (mj_u2 (fun r83 => (mj_u2 (fun r84 => (mj_u2 (fun r85 => (mj_u2 (fun r86 => (mj_u2 (fun q91 q92 => Qn (some (.int ov)) (mj_rows I [(71, r71), (72, r72), (73, r73), (75, r75), (80, r80), (81, r81), (82, r82), (83, r83), (84, r84), (85, r85), (86, r86), (87, r87)]) (mj_rows L [(91, q91), (92, q92), (97, q97)]))))))))))))))))))))))) o) : mj_W X G RX11 "within" cX11_within 7 8 (some .int) mj_P0 mj_S0 98 ad 0 0 37 [(0, .ref 71), (1, .int x1), (2, .int x2)] [.ref 71] (mj_rows I [(71, r71), (72, r72), (73, r73), (75, r75), (80, r80), (81, r81), (82, r82), (83, r83), (84, r84), (85, r85), (86, r86), (87, r87)]) (mj_rows L [(91, q91), (92, q92), (97, q97)]) := by
  unfold jnX11_within_37 at hf
  refine mj_iconst dX11_within_37 kc_iconst_0 ?_
  exact jtX11_within_38 hR F I L r71 r72 r73 r75 r80 r81 r82 r83 r84 r85 r86 r87 q91 q92 q97 x1 x2 (0 : Int32) o hf hq
set_option maxRecDepth 100000 in
set_option maxHeartbeats 4000000 in
theorem mtX11_within {X : mj_XT} {l : Launch} {G : mj_GT} {ad : Nat → Nat} {Qn : Option Value → mj_IT → mj_LT → Prop} (hR : mj_R X l G mj_P0 mj_S0 98 ad 0 0 Qn) (F : Nat) (I : mj_IT) (L : mj_LT) (r71 : Nat → Int32) (r72 : Nat → Int32) (r73 : Nat → Int32) (r75 : Nat → Int32) (r80 : Nat → Int32) (r81 : Nat → Int32) (r82 : Nat → Int32) (r83 : Nat → Int32) (r84 : Nat → Int32) (r85 : Nat → Int32) (r86 : Nat → Int32) (r87 : Nat → Int32) (q91 : Nat → Int64) (q92 : Nat → Int64) (q97 : Nat → Int64) (x1 : Int32) (x2 : Int32) (o : ((Int32) × (Nat → Int32) × (Nat → Int32) × (Nat → Int32) × (Nat → Int32) × (Nat → Int32) × (Nat → Int32) × (Nat → Int32) × (Nat → Int32) × (Nat → Int32) × (Nat → Int64) × (Nat → Int64))) (hf : fnX11_within F r71 r72 r73 r75 r80 r81 r82 r83 r84 r85 r86 r87 q91 q92 q97 x1 x2 = some o) (hq : (mj_u2 (fun ov => (mj_u2 (fun r71 => (mj_u2 (fun r72 => (mj_u2 (fun r80 => (mj_u2 (fun r81 => (mj_u2 (fun r82 => (mj_u2 (fun r83 => (mj_u2 (fun r84 => (mj_u2 (fun r85 => (mj_u2 (fun r86 => (mj_u2 (fun q91 q92 => Qn (some (.int ov)) (mj_rows I [(71, r71), (72, r72), (73, r73), (75, r75), (80, r80), (81, r81), (82, r82), (83, r83), (84, r84), (85, r85), (86, r86), (87, r87)]) (mj_rows L [(91, q91), (92, q92), (97, q97)]))))))))))))))))))))))) o) : mj_W X G RX11 "within" cX11_within 7 8 (some .int) mj_P0 mj_S0 98 ad 0 0 0 [(0, .ref 71), (1, .int x1), (2, .int x2)] [] (mj_rows I [(71, r71), (72, r72), (73, r73), (75, r75), (80, r80), (81, r81), (82, r82), (83, r83), (84, r84), (85, r85), (86, r86), (87, r87)]) (mj_rows L [(91, q91), (92, q92), (97, q97)]) := by
  unfold fnX11_within at hf
  refine mj_aload_n 0 dX11_within_0 rfl ?_
  refine mj_iconst dX11_within_1 kc_iconst_0 ?_
  refine mj_putIr (ci := 9) (j := 0) [(71, (upd r71 0 (0 : Int32))), (72, r72), (73, r73), (75, r75), (80, r80), (81, r81), (82, r82), (83, r83), (84, r84), (85, r85), (86, r86), (87, r87)] rfl ⟨rfl, rfl⟩ fl_X11_1 rfl rfl s0_71 a0_71 dX11_within_2 ?_
  refine mj_aload_n 0 dX11_within_5 rfl ?_
  obtain ⟨o40, ho40, hf⟩ := mj_bd hf
  refine mj_callVd (I2 := (mj_rows I [(71, o40.2.1), (72, o40.2.2.1), (73, r73), (75, r75), (80, o40.2.2.2.1), (81, o40.2.2.2.2.1), (82, o40.2.2.2.2.2.1), (83, o40.2.2.2.2.2.2.1), (84, o40.2.2.2.2.2.2.2.1), (85, o40.2.2.2.2.2.2.2.2.1), (86, o40.2.2.2.2.2.2.2.2.2), (87, r87)])) (L2 := (mj_rows L [(91, q91), (92, q92), (97, q97)])) (s1 := [.int o40.1]) (st := []) [] (cmX11_isFew X.2.1 G F  _ _ (upd r71 0 (0 : Int32)) r72 r73 r75 r80 r81 r82 r83 r84 r85 r86 r87 rfl rfl rfl rfl rfl rfl rfl rfl rfl rfl rfl rfl o40 ho40) (mj_rr rfl) rfl cw_X11_335 s0_71 a0_71 (by decide) rfl rfl (Nat.le_of_ble_eq_true rfl) ⟨Nat.zero_le _, Nat.zero_le _⟩ dX11_within_6 rfl ?_
  refine mj_if_eq 46 dX11_within_9 (by decide) (fun c41 => ?_) (fun c41 => ?_)
  · replace hf := mj_pos c41 hf
    refine mj_iconst dX11_within_46 kc_iconst_0 ?_
    obtain rfl := Option.some.inj hf
    have hZ := hq
    replace hZ := mj_u2p hZ
    replace hZ := mj_u2p hZ
    replace hZ := mj_u2p hZ
    replace hZ := mj_u2p hZ
    replace hZ := mj_u2p hZ
    replace hZ := mj_u2p hZ
    replace hZ := mj_u2p hZ
    replace hZ := mj_u2p hZ
    replace hZ := mj_u2p hZ
    replace hZ := mj_u2p hZ
    replace hZ := mj_u2p hZ
    exact mj_iret hR ⟨Nat.le_refl _, Nat.le_refl _⟩ rfl rfl dX11_within_47 hZ
  · replace hf := mj_neg c41 hf
    refine mj_aload_n 0 dX11_within_12 rfl ?_
    refine mj_iload_n 1 dX11_within_13 rfl ?_
    refine mj_i2l dX11_within_14 ?_
    refine mj_lconst (v := 0) dX11_within_15 (by decide) ?_
    refine mj_ldc2 kk_X11_371 dX11_within_16 ?_
    obtain ⟨o42, ho42, hf⟩ := mj_bd hf
    refine mj_callSd (I2 := (mj_rows I [(71, o40.2.1), (72, o40.2.2.1), (73, r73), (75, r75), (80, o40.2.2.2.1), (81, o40.2.2.2.2.1), (82, o40.2.2.2.2.2.1), (83, o40.2.2.2.2.2.2.1), (84, o40.2.2.2.2.2.2.2.1), (85, o40.2.2.2.2.2.2.2.2.1), (86, o40.2.2.2.2.2.2.2.2.2), (87, r87)])) (L2 := (mj_rows L [(91, q91), (92, q92), (97, q97)])) (s1 := [.int o42, .ref 71]) (st := [.ref 71]) [.long x1.toInt64, .long (0 : Int64), .long (200 : Int64)] (cmX11_lies X.2.1 G F x1.toInt64 (0 : Int64) (200 : Int64) _ _   o42 ho42) rfl rfl cw_X11_157 (by decide) rfl rfl (Nat.le_of_ble_eq_true rfl) ⟨Nat.zero_le _, Nat.zero_le _⟩ dX11_within_19 rfl ?_
    refine mj_if_eq 37 dX11_within_22 (by decide) (fun c43 => ?_) (fun c43 => ?_)
    · replace hf := mj_pos c43 hf
      exact jtX11_within_37 hR F I L o40.2.1 o40.2.2.1 r73 r75 o40.2.2.2.1 o40.2.2.2.2.1 o40.2.2.2.2.2.1 o40.2.2.2.2.2.2.1 o40.2.2.2.2.2.2.2.1 o40.2.2.2.2.2.2.2.2.1 o40.2.2.2.2.2.2.2.2.2 r87 q91 q92 q97 x1 x2 o hf hq
    · replace hf := mj_neg c43 hf
      refine mj_aload_n 0 dX11_within_25 rfl ?_
      refine mj_iload_n 2 dX11_within_26 rfl ?_
      obtain ⟨o44, ho44, hf⟩ := mj_bd hf
      refine mj_callVd (I2 := (mj_rows I [(71, o40.2.1), (72, o40.2.2.1), (73, r73), (75, r75), (80, o40.2.2.2.1), (81, o40.2.2.2.2.1), (82, o40.2.2.2.2.2.1), (83, o40.2.2.2.2.2.2.1), (84, o40.2.2.2.2.2.2.2.1), (85, o40.2.2.2.2.2.2.2.2.1), (86, o40.2.2.2.2.2.2.2.2.2), (87, r87)])) (L2 := (mj_rows L [(91, q91), (92, q92), (97, q97)])) (s1 := [.int o44, .ref 71]) (st := [.ref 71]) [.int x2] (cmX11_isForm X.2.1 G F x2 _ _   o44 ho44) rfl rfl cw_X11_341 s0_71 a0_71 (by decide) rfl rfl (Nat.le_of_ble_eq_true rfl) ⟨Nat.zero_le _, Nat.zero_le _⟩ dX11_within_27 rfl ?_
      refine mj_if_eq 37 dX11_within_30 (by decide) (fun c45 => ?_) (fun c45 => ?_)
      · replace hf := mj_pos c45 hf
        exact jtX11_within_37 hR F I L o40.2.1 o40.2.2.1 r73 r75 o40.2.2.2.1 o40.2.2.2.2.1 o40.2.2.2.2.2.1 o40.2.2.2.2.2.2.1 o40.2.2.2.2.2.2.2.1 o40.2.2.2.2.2.2.2.2.1 o40.2.2.2.2.2.2.2.2.2 r87 q91 q92 q97 x1 x2 o hf hq
      · replace hf := mj_neg c45 hf
        refine mj_iconst dX11_within_33 kc_iconst_1 ?_
        refine mj_goto 38 dX11_within_34 (by decide) ?_
        exact jtX11_within_38 hR F I L o40.2.1 o40.2.2.1 r73 r75 o40.2.2.2.1 o40.2.2.2.2.1 o40.2.2.2.2.2.1 o40.2.2.2.2.2.2.1 o40.2.2.2.2.2.2.2.1 o40.2.2.2.2.2.2.2.2.1 o40.2.2.2.2.2.2.2.2.2 r87 q91 q92 q97 x1 x2 (1 : Int32) o hf hq
set_option maxRecDepth 100000 in
set_option maxHeartbeats 4000000 in
theorem cmX11_within (l : Launch) (G : mj_GT) (F : Nat) (x1 : Int32) (x2 : Int32) (I : mj_IT) (L : mj_LT) (r71 : Nat → Int32) (r72 : Nat → Int32) (r73 : Nat → Int32) (r75 : Nat → Int32) (r80 : Nat → Int32) (r81 : Nat → Int32) (r82 : Nat → Int32) (r83 : Nat → Int32) (r84 : Nat → Int32) (r85 : Nat → Int32) (r86 : Nat → Int32) (r87 : Nat → Int32) (q91 : Nat → Int64) (q92 : Nat → Int64) (q97 : Nat → Int64) (hr71 : I 71 = r71) (hr72 : I 72 = r72) (hr73 : I 73 = r73) (hr75 : I 75 = r75) (hr80 : I 80 = r80) (hr81 : I 81 = r81) (hr82 : I 82 = r82) (hr83 : I 83 = r83) (hr84 : I 84 = r84) (hr85 : I 85 = r85) (hr86 : I 86 = r86) (hr87 : I 87 = r87) (hq91 : L 91 = q91) (hq92 : L 92 = q92) (hq97 : L 97 = q97) (o : ((Int32) × (Nat → Int32) × (Nat → Int32) × (Nat → Int32) × (Nat → Int32) × (Nat → Int32) × (Nat → Int32) × (Nat → Int32) × (Nat → Int32) × (Nat → Int32) × (Nat → Int64) × (Nat → Int64))) (hf : fnX11_within F r71 r72 r73 r75 r80 r81 r82 r83 r84 r85 r86 r87 q91 q92 q97 x1 x2 = some o) : mj_M l G yX11_within cX11_within 7 8 (some .int) 0 0 mj_P0 mj_S0 98 [.ref 71, .int x1, .int x2] I L (mj_qd (some (.int o.1)) (mj_rows I [(71, o.2.1), (72, o.2.2.1), (73, r73), (75, r75), (80, o.2.2.2.1), (81, o.2.2.2.2.1), (82, o.2.2.2.2.2.1), (83, o.2.2.2.2.2.2.1), (84, o.2.2.2.2.2.2.2.1), (85, o.2.2.2.2.2.2.2.2.1), (86, o.2.2.2.2.2.2.2.2.2.1), (87, r87)]) (mj_rows L [(91, o.2.2.2.2.2.2.2.2.2.2.1), (92, o.2.2.2.2.2.2.2.2.2.2.2), (97, q97)])) := by
  refine mj_in RX11 "within" [(0, .ref 71), (1, .int x1), (2, .int x2)] rfl rfl rfl (by decide) (Nat.le_of_ble_eq_true rfl) (fun X ad hR => ?_)
  refine mj_toI [(71, r71), (72, r72), (73, r73), (75, r75), (80, r80), (81, r81), (82, r82), (83, r83), (84, r84), (85, r85), (86, r86), (87, r87)] (by intro q hq; simp only [List.mem_cons, List.not_mem_nil, or_false] at hq; rcases hq with rfl | rfl | rfl | rfl | rfl | rfl | rfl | rfl | rfl | rfl | rfl | rfl <;> assumption) ?_
  refine mj_toL [(91, q91), (92, q92), (97, q97)] (by intro q hq; simp only [List.mem_cons, List.not_mem_nil, or_false] at hq; rcases hq with rfl | rfl | rfl <;> assumption) ?_
  refine mtX11_within hR F I L r71 r72 r73 r75 r80 r81 r82 r83 r84 r85 r86 r87 q91 q92 q97 x1 x2 o hf ?_
  obtain ⟨w0, w1, w2, w3, w4, w5, w6, w7, w8, w9, w10, w11⟩ := o
  refine mj_u2q ?_
  refine mj_u2q ?_
  refine mj_u2q ?_
  refine mj_u2q ?_
  refine mj_u2q ?_
  refine mj_u2q ?_
  refine mj_u2q ?_
  refine mj_u2q ?_
  refine mj_u2q ?_
  refine mj_u2q ?_
  refine mj_u2q ?_
  exact ⟨rfl, rfl, rfl⟩

-- X11_areAlike
def bdX11_areAlike_30 (F : Nat) (r71 : Nat → Int32) (x1 : Int32) (x2 : Int32) (x3 : Int32) (r95 : Nat → Int32) : Option (((Int32) × (Nat → Int32)) ⊕ ((Nat → Int32))) := (if (r71 24) ≤ x3 then some (.inr r95) else (if mj_ib x3 200 = true then some (.inl ((x3 + (1)), (upd r95 x3.toNatClampNeg (0 : Int32)))) else none))
def bdX11_areAlike_53 (F : Nat) (r83 : Nat → Int32) (r84 : Nat → Int32) (r85 : Nat → Int32) (r93 : Nat → Int32) (x1 : Int32) (x2 : Int32) (x3 : Int32) (r95 : Nat → Int32) : Option (((Int32) × (Nat → Int32)) ⊕ ((Nat → Int32))) := (if mj_ib x1 200 = true then (if (r83 x1.toNatClampNeg) ≤ x3 then some (.inr r95) else (if mj_ib (((10 : Int32) * x1) + x3) 2000 = true then (if mj_ib (r84 ((((10 : Int32) * x1) + x3).toNatClampNeg)) 200 = true then (if mj_ib (r93 ((r84 ((((10 : Int32) * x1) + x3).toNatClampNeg)).toNatClampNeg)) 200 = true then (if mj_ib (((10 : Int32) * x1) + x3) 2000 = true then (if mj_ib (r93 ((r84 ((((10 : Int32) * x1) + x3).toNatClampNeg)).toNatClampNeg)) 200 = true then some (.inl ((x3 + (1)), (upd r95 ((r93 ((r84 ((((10 : Int32) * x1) + x3).toNatClampNeg)).toNatClampNeg)).toNatClampNeg) ((r95 ((r93 ((r84 ((((10 : Int32) * x1) + x3).toNatClampNeg)).toNatClampNeg)).toNatClampNeg)) + (r85 ((((10 : Int32) * x1) + x3).toNatClampNeg)))))) else none) else none) else none) else none) else none)) else none)
def bdX11_areAlike_106 (F : Nat) (r83 : Nat → Int32) (r84 : Nat → Int32) (r85 : Nat → Int32) (r93 : Nat → Int32) (x2 : Int32) (x3 : Int32) (r95 : Nat → Int32) : Option (((Int32) × (Nat → Int32)) ⊕ ((Nat → Int32))) := (if mj_ib x2 200 = true then (if (r83 x2.toNatClampNeg) ≤ x3 then some (.inr r95) else (if mj_ib (((10 : Int32) * x2) + x3) 2000 = true then (if mj_ib (r84 ((((10 : Int32) * x2) + x3).toNatClampNeg)) 200 = true then (if mj_ib (r93 ((r84 ((((10 : Int32) * x2) + x3).toNatClampNeg)).toNatClampNeg)) 200 = true then (if mj_ib (((10 : Int32) * x2) + x3) 2000 = true then (if mj_ib (r93 ((r84 ((((10 : Int32) * x2) + x3).toNatClampNeg)).toNatClampNeg)) 200 = true then some (.inl ((x3 + (1)), (upd r95 ((r93 ((r84 ((((10 : Int32) * x2) + x3).toNatClampNeg)).toNatClampNeg)).toNatClampNeg) ((r95 ((r93 ((r84 ((((10 : Int32) * x2) + x3).toNatClampNeg)).toNatClampNeg)).toNatClampNeg)) - (r85 ((((10 : Int32) * x2) + x3).toNatClampNeg)))))) else none) else none) else none) else none) else none)) else none)
def bdX11_areAlike_159 (F : Nat) (r71 : Nat → Int32) (r95 : Nat → Int32) (x3 : Int32) : Option (((Int32)) ⊕ (Unit ⊕ Unit)) := (if (r71 24) ≤ x3 then some (.inr (.inl ())) else (if mj_ib x3 200 = true then (if (r95 x3.toNatClampNeg) = 0 then some (.inl (x3 + (1))) else some (.inr (.inr ()))) else none))
def fnX11_areAlike (F : Nat) (r71 : Nat → Int32) (r83 : Nat → Int32) (r84 : Nat → Int32) (r85 : Nat → Int32) (r93 : Nat → Int32) (r95 : Nat → Int32) (x1 : Int32) (x2 : Int32) : Option ((Int32) × (Nat → Int32)) := (if mj_ib x1 200 = true then (if mj_ib x2 200 = true then (if (r93 x1.toNatClampNeg) = (r93 x2.toNatClampNeg) then (if mj_ib x1 200 = true then (if (r83 x1.toNatClampNeg) = 0 then some ((1 : Int32), r95) else (mj_it (mj_u2 (fun z0 z1 => bdX11_areAlike_30 F r71 x1 x2 z0 z1)) F ((0 : Int32), r95)).bind (fun r95_25 => (mj_it (mj_u2 (fun z0 z1 => bdX11_areAlike_53 F r83 r84 r85 r93 x1 x2 z0 z1)) F ((0 : Int32), r95_25)).bind (fun r95_26 => (mj_it (mj_u2 (fun z0 z1 => bdX11_areAlike_106 F r83 r84 r85 r93 x2 z0 z1)) F ((0 : Int32), r95_26)).bind (fun r95_27 => (mj_it (bdX11_areAlike_159 F r71 r95_27) F (0 : Int32)).bind (Sum.elim (fun _ => some ((1 : Int32), r95_27)) (fun _ => some ((0 : Int32), r95_27))))))) else none) else some ((0 : Int32), r95)) else none) else none)
set_option maxRecDepth 100000 in
set_option maxHeartbeats 4000000 in
theorem lpX11_areAlike_30 {X : mj_XT} {l : Launch} {G : mj_GT} {ad : Nat → Nat} {Qn : Option Value → mj_IT → mj_LT → Prop} (hR : mj_R X l G mj_P0 mj_S0 98 ad 0 0 Qn) (F : Nat) (I : mj_IT) (L : mj_LT) (r71 : Nat → Int32) (r83 : Nat → Int32) (r84 : Nat → Int32) (r85 : Nat → Int32) (r93 : Nat → Int32) (r95 : Nat → Int32) (x1 : Int32) (x2 : Int32) : ∀ (n : Nat) (s : ((Int32) × (Nat → Int32))) (e : ((Nat → Int32))), mj_it (mj_u2 (fun z0 z1 => bdX11_areAlike_30 F r71 x1 x2 z0 z1)) n s = some e → (fun r95 => mj_W X G RX11 "areAlike" cX11_areAlike 4 1 (some .boolean) mj_P0 mj_S0 98 ad 0 0 51 [(0, .ref 71), (1, .int x1), (2, .int x2)] [] (mj_rows I [(71, r71), (83, r83), (84, r84), (85, r85), (93, r93), (95, r95)]) L) e → (mj_u2 (fun x3 r95 => mj_W X G RX11 "areAlike" cX11_areAlike 4 1 (some .boolean) mj_P0 mj_S0 98 ad 0 0 30 [(0, .ref 71), (1, .int x1), (2, .int x2), (3, .int x3)] [] (mj_rows I [(71, r71), (83, r83), (84, r84), (85, r85), (93, r93), (95, r95)]) L)) s := by
  refine mj_loop (fun s o hf hc hx => ?_)
  obtain ⟨x3, r95⟩ := s
  replace hf := mj_u2e hf
  refine mj_u2q ?_
  unfold bdX11_areAlike_30 at hf
  refine mj_iload_n 3 dX11_areAlike_30 rfl ?_
  refine mj_aload_n 0 dX11_areAlike_31 rfl ?_
  refine mj_getIv (v := (r71 24)) rfl fl_X11_227 rfl s0_71 a0_71 dX11_areAlike_32 ?_
  refine mj_icmp_ge 51 dX11_areAlike_35 (by decide) (fun c1 => ?_) (fun c1 => ?_)
  · replace hf := mj_pos c1 hf
    refine mj_sub [0, 1, 2] [(0, .ref 71), (1, .int x1), (2, .int x2)] rfl ?_
    obtain rfl := Option.some.inj hf
    have hZ := hx r95 rfl
    exact hZ
  · replace hf := mj_neg c1 hf
    refine mj_aload_n 0 dX11_areAlike_38 rfl ?_
    refine mj_getP p0_71_43 (by decide) fl_X11_382 rfl s0_71 a0_71 dX11_areAlike_39 ?_
    refine mj_iload_n 3 dX11_areAlike_42 rfl ?_
    refine mj_iconst dX11_areAlike_43 kc_iconst_0 ?_
    obtain ⟨z2, hf⟩ := mj_ck hf
    refine mj_iastr [(71, r71), (83, r83), (84, r84), (85, r85), (93, r93), (95, (upd r95 x3.toNatClampNeg (0 : Int32)))] rfl s0_95 a0_95 z2 dX11_areAlike_44 ?_
    refine mj_iinc 3 [(3, .int (x3 + (1))), (0, .ref 71), (1, .int x1), (2, .int x2)] dX11_areAlike_45 rfl (kz_1 _) (by decide) rfl ?_
    refine mj_goto 30 dX11_areAlike_48 (by decide) ?_
    refine mj_sub [1, 2, 3, 0] [(0, .ref 71), (1, .int x1), (2, .int x2), (3, .int (x3 + (1)))] rfl ?_
    obtain rfl := Option.some.inj hf
    have hZ := hc ((x3 + (1)), (upd r95 x3.toNatClampNeg (0 : Int32))) rfl
    replace hZ := mj_u2p hZ
    exact hZ
set_option maxRecDepth 100000 in
set_option maxHeartbeats 4000000 in
theorem lpX11_areAlike_53 {X : mj_XT} {l : Launch} {G : mj_GT} {ad : Nat → Nat} {Qn : Option Value → mj_IT → mj_LT → Prop} (hR : mj_R X l G mj_P0 mj_S0 98 ad 0 0 Qn) (F : Nat) (I : mj_IT) (L : mj_LT) (r71 : Nat → Int32) (r83 : Nat → Int32) (r84 : Nat → Int32) (r85 : Nat → Int32) (r93 : Nat → Int32) (r95 : Nat → Int32) (x1 : Int32) (x2 : Int32) : ∀ (n : Nat) (s : ((Int32) × (Nat → Int32))) (e : ((Nat → Int32))), mj_it (mj_u2 (fun z0 z1 => bdX11_areAlike_53 F r83 r84 r85 r93 x1 x2 z0 z1)) n s = some e → (fun r95 => mj_W X G RX11 "areAlike" cX11_areAlike 4 1 (some .boolean) mj_P0 mj_S0 98 ad 0 0 104 [(0, .ref 71), (2, .int x2)] [] (mj_rows I [(71, r71), (83, r83), (84, r84), (85, r85), (93, r93), (95, r95)]) L) e → (mj_u2 (fun x3 r95 => mj_W X G RX11 "areAlike" cX11_areAlike 4 1 (some .boolean) mj_P0 mj_S0 98 ad 0 0 53 [(0, .ref 71), (1, .int x1), (2, .int x2), (3, .int x3)] [] (mj_rows I [(71, r71), (83, r83), (84, r84), (85, r85), (93, r93), (95, r95)]) L)) s := by
  refine mj_loop (fun s o hf hc hx => ?_)
  obtain ⟨x3, r95⟩ := s
  replace hf := mj_u2e hf
  refine mj_u2q ?_
  unfold bdX11_areAlike_53 at hf
  refine mj_iload_n 3 dX11_areAlike_53 rfl ?_
  refine mj_aload_n 0 dX11_areAlike_54 rfl ?_
  refine mj_getP p0_71_30 (by decide) fl_X11_251 rfl s0_71 a0_71 dX11_areAlike_55 ?_
  refine mj_iload_n 1 dX11_areAlike_58 rfl ?_
  obtain ⟨z3, hf⟩ := mj_ck hf
  refine mj_ialdv (x := r83) rfl s0_83 a0_83 z3 dX11_areAlike_59 ?_
  refine mj_icmp_ge 104 dX11_areAlike_60 (by decide) (fun c4 => ?_) (fun c4 => ?_)
  · replace hf := mj_pos c4 hf
    refine mj_sub [0, 2] [(0, .ref 71), (2, .int x2)] rfl ?_
    obtain rfl := Option.some.inj hf
    have hZ := hx r95 rfl
    exact hZ
  · replace hf := mj_neg c4 hf
    refine mj_aload_n 0 dX11_areAlike_63 rfl ?_
    refine mj_getP p0_71_43 (by decide) fl_X11_382 rfl s0_71 a0_71 dX11_areAlike_64 ?_
    refine mj_aload_n 0 dX11_areAlike_67 rfl ?_
    refine mj_getP p0_71_41 (by decide) fl_X11_379 rfl s0_71 a0_71 dX11_areAlike_68 ?_
    refine mj_aload_n 0 dX11_areAlike_71 rfl ?_
    refine mj_getP p0_71_31 (by decide) fl_X11_248 rfl s0_71 a0_71 dX11_areAlike_72 ?_
    refine mj_bipush dX11_areAlike_75 kc_bipush_10 ?_
    refine mj_iload_n 1 dX11_areAlike_77 rfl ?_
    refine mj_imul dX11_areAlike_78 ?_
    refine mj_iload_n 3 dX11_areAlike_79 rfl ?_
    refine mj_iadd dX11_areAlike_80 ?_
    obtain ⟨z5, hf⟩ := mj_ck hf
    refine mj_ialdv (x := r84) rfl s0_84 a0_84 z5 dX11_areAlike_81 ?_
    obtain ⟨z6, hf⟩ := mj_ck hf
    refine mj_ialdv (x := r93) rfl s0_93 a0_93 z6 dX11_areAlike_82 ?_
    refine mj_dup2 dX11_areAlike_83 rfl rfl ?_
    obtain ⟨z7, hf⟩ := mj_ck hf
    refine mj_ialdv (x := r95) rfl s0_95 a0_95 z7 dX11_areAlike_84 ?_
    refine mj_aload_n 0 dX11_areAlike_85 rfl ?_
    refine mj_getP p0_71_32 (by decide) fl_X11_254 rfl s0_71 a0_71 dX11_areAlike_86 ?_
    refine mj_bipush dX11_areAlike_89 kc_bipush_10 ?_
    refine mj_iload_n 1 dX11_areAlike_91 rfl ?_
    refine mj_imul dX11_areAlike_92 ?_
    refine mj_iload_n 3 dX11_areAlike_93 rfl ?_
    refine mj_iadd dX11_areAlike_94 ?_
    obtain ⟨z8, hf⟩ := mj_ck hf
    refine mj_ialdv (x := r85) rfl s0_85 a0_85 z8 dX11_areAlike_95 ?_
    refine mj_iadd dX11_areAlike_96 ?_
    obtain ⟨z9, hf⟩ := mj_ck hf
    refine mj_iastr [(71, r71), (83, r83), (84, r84), (85, r85), (93, r93), (95, (upd r95 ((r93 ((r84 ((((10 : Int32) * x1) + x3).toNatClampNeg)).toNatClampNeg)).toNatClampNeg) ((r95 ((r93 ((r84 ((((10 : Int32) * x1) + x3).toNatClampNeg)).toNatClampNeg)).toNatClampNeg)) + (r85 ((((10 : Int32) * x1) + x3).toNatClampNeg)))))] rfl s0_95 a0_95 z9 dX11_areAlike_97 ?_
    refine mj_iinc 3 [(3, .int (x3 + (1))), (0, .ref 71), (1, .int x1), (2, .int x2)] dX11_areAlike_98 rfl (kz_1 _) (by decide) rfl ?_
    refine mj_goto 53 dX11_areAlike_101 (by decide) ?_
    refine mj_sub [1, 2, 3, 0] [(0, .ref 71), (1, .int x1), (2, .int x2), (3, .int (x3 + (1)))] rfl ?_
    obtain rfl := Option.some.inj hf
    have hZ := hc ((x3 + (1)), (upd r95 ((r93 ((r84 ((((10 : Int32) * x1) + x3).toNatClampNeg)).toNatClampNeg)).toNatClampNeg) ((r95 ((r93 ((r84 ((((10 : Int32) * x1) + x3).toNatClampNeg)).toNatClampNeg)).toNatClampNeg)) + (r85 ((((10 : Int32) * x1) + x3).toNatClampNeg))))) rfl
    replace hZ := mj_u2p hZ
    exact hZ
set_option maxRecDepth 100000 in
set_option maxHeartbeats 4000000 in
theorem lpX11_areAlike_106 {X : mj_XT} {l : Launch} {G : mj_GT} {ad : Nat → Nat} {Qn : Option Value → mj_IT → mj_LT → Prop} (hR : mj_R X l G mj_P0 mj_S0 98 ad 0 0 Qn) (F : Nat) (I : mj_IT) (L : mj_LT) (r71 : Nat → Int32) (r83 : Nat → Int32) (r84 : Nat → Int32) (r85 : Nat → Int32) (r93 : Nat → Int32) (r95 : Nat → Int32) (x2 : Int32) : ∀ (n : Nat) (s : ((Int32) × (Nat → Int32))) (e : ((Nat → Int32))), mj_it (mj_u2 (fun z0 z1 => bdX11_areAlike_106 F r83 r84 r85 r93 x2 z0 z1)) n s = some e → (fun r95 => mj_W X G RX11 "areAlike" cX11_areAlike 4 1 (some .boolean) mj_P0 mj_S0 98 ad 0 0 157 [(0, .ref 71)] [] (mj_rows I [(71, r71), (83, r83), (84, r84), (85, r85), (93, r93), (95, r95)]) L) e → (mj_u2 (fun x3 r95 => mj_W X G RX11 "areAlike" cX11_areAlike 4 1 (some .boolean) mj_P0 mj_S0 98 ad 0 0 106 [(0, .ref 71), (2, .int x2), (3, .int x3)] [] (mj_rows I [(71, r71), (83, r83), (84, r84), (85, r85), (93, r93), (95, r95)]) L)) s := by
  refine mj_loop (fun s o hf hc hx => ?_)
  obtain ⟨x3, r95⟩ := s
  replace hf := mj_u2e hf
  refine mj_u2q ?_
  unfold bdX11_areAlike_106 at hf
  refine mj_iload_n 2 dX11_areAlike_106 rfl ?_
  refine mj_aload_n 0 dX11_areAlike_107 rfl ?_
  refine mj_getP p0_71_30 (by decide) fl_X11_251 rfl s0_71 a0_71 dX11_areAlike_108 ?_
  refine mj_iload_n 1 dX11_areAlike_111 rfl ?_
  obtain ⟨z10, hf⟩ := mj_ck hf
  refine mj_ialdv (x := r83) rfl s0_83 a0_83 z10 dX11_areAlike_112 ?_
  refine mj_icmp_ge 157 dX11_areAlike_113 (by decide) (fun c11 => ?_) (fun c11 => ?_)
  · replace hf := mj_pos c11 hf
    refine mj_sub [0] [(0, .ref 71)] rfl ?_
    obtain rfl := Option.some.inj hf
    have hZ := hx r95 rfl
    exact hZ
  · replace hf := mj_neg c11 hf
    refine mj_aload_n 0 dX11_areAlike_116 rfl ?_
    refine mj_getP p0_71_43 (by decide) fl_X11_382 rfl s0_71 a0_71 dX11_areAlike_117 ?_
    refine mj_aload_n 0 dX11_areAlike_120 rfl ?_
    refine mj_getP p0_71_41 (by decide) fl_X11_379 rfl s0_71 a0_71 dX11_areAlike_121 ?_
    refine mj_aload_n 0 dX11_areAlike_124 rfl ?_
    refine mj_getP p0_71_31 (by decide) fl_X11_248 rfl s0_71 a0_71 dX11_areAlike_125 ?_
    refine mj_bipush dX11_areAlike_128 kc_bipush_10 ?_
    refine mj_iload_n 1 dX11_areAlike_130 rfl ?_
    refine mj_imul dX11_areAlike_131 ?_
    refine mj_iload_n 2 dX11_areAlike_132 rfl ?_
    refine mj_iadd dX11_areAlike_133 ?_
    obtain ⟨z12, hf⟩ := mj_ck hf
    refine mj_ialdv (x := r84) rfl s0_84 a0_84 z12 dX11_areAlike_134 ?_
    obtain ⟨z13, hf⟩ := mj_ck hf
    refine mj_ialdv (x := r93) rfl s0_93 a0_93 z13 dX11_areAlike_135 ?_
    refine mj_dup2 dX11_areAlike_136 rfl rfl ?_
    obtain ⟨z14, hf⟩ := mj_ck hf
    refine mj_ialdv (x := r95) rfl s0_95 a0_95 z14 dX11_areAlike_137 ?_
    refine mj_aload_n 0 dX11_areAlike_138 rfl ?_
    refine mj_getP p0_71_32 (by decide) fl_X11_254 rfl s0_71 a0_71 dX11_areAlike_139 ?_
    refine mj_bipush dX11_areAlike_142 kc_bipush_10 ?_
    refine mj_iload_n 1 dX11_areAlike_144 rfl ?_
    refine mj_imul dX11_areAlike_145 ?_
    refine mj_iload_n 2 dX11_areAlike_146 rfl ?_
    refine mj_iadd dX11_areAlike_147 ?_
    obtain ⟨z15, hf⟩ := mj_ck hf
    refine mj_ialdv (x := r85) rfl s0_85 a0_85 z15 dX11_areAlike_148 ?_
    refine mj_isub dX11_areAlike_149 ?_
    obtain ⟨z16, hf⟩ := mj_ck hf
    refine mj_iastr [(71, r71), (83, r83), (84, r84), (85, r85), (93, r93), (95, (upd r95 ((r93 ((r84 ((((10 : Int32) * x2) + x3).toNatClampNeg)).toNatClampNeg)).toNatClampNeg) ((r95 ((r93 ((r84 ((((10 : Int32) * x2) + x3).toNatClampNeg)).toNatClampNeg)).toNatClampNeg)) - (r85 ((((10 : Int32) * x2) + x3).toNatClampNeg)))))] rfl s0_95 a0_95 z16 dX11_areAlike_150 ?_
    refine mj_iinc 2 [(3, .int (x3 + (1))), (0, .ref 71), (2, .int x2)] dX11_areAlike_151 rfl (kz_1 _) (by decide) rfl ?_
    refine mj_goto 106 dX11_areAlike_154 (by decide) ?_
    refine mj_sub [1, 2, 0] [(0, .ref 71), (2, .int x2), (3, .int (x3 + (1)))] rfl ?_
    obtain rfl := Option.some.inj hf
    have hZ := hc ((x3 + (1)), (upd r95 ((r93 ((r84 ((((10 : Int32) * x2) + x3).toNatClampNeg)).toNatClampNeg)).toNatClampNeg) ((r95 ((r93 ((r84 ((((10 : Int32) * x2) + x3).toNatClampNeg)).toNatClampNeg)).toNatClampNeg)) - (r85 ((((10 : Int32) * x2) + x3).toNatClampNeg))))) rfl
    replace hZ := mj_u2p hZ
    exact hZ
set_option maxRecDepth 100000 in
set_option maxHeartbeats 4000000 in
theorem lpX11_areAlike_159 {X : mj_XT} {l : Launch} {G : mj_GT} {ad : Nat → Nat} {Qn : Option Value → mj_IT → mj_LT → Prop} (hR : mj_R X l G mj_P0 mj_S0 98 ad 0 0 Qn) (F : Nat) (I : mj_IT) (L : mj_LT) (r71 : Nat → Int32) (r83 : Nat → Int32) (r84 : Nat → Int32) (r85 : Nat → Int32) (r93 : Nat → Int32) (r95 : Nat → Int32) : ∀ (n : Nat) (s : ((Int32))) (e : (Unit ⊕ Unit)), mj_it (bdX11_areAlike_159 F r71 r95) n s = some e → (Sum.elim (fun _ => mj_W X G RX11 "areAlike" cX11_areAlike 4 1 (some .boolean) mj_P0 mj_S0 98 ad 0 0 184 [] [] (mj_rows I [(71, r71), (83, r83), (84, r84), (85, r85), (93, r93), (95, r95)]) L) (fun _ => mj_W X G RX11 "areAlike" cX11_areAlike 4 1 (some .boolean) mj_P0 mj_S0 98 ad 0 0 176 [] [] (mj_rows I [(71, r71), (83, r83), (84, r84), (85, r85), (93, r93), (95, r95)]) L)) e → (fun x3 => mj_W X G RX11 "areAlike" cX11_areAlike 4 1 (some .boolean) mj_P0 mj_S0 98 ad 0 0 159 [(0, .ref 71), (3, .int x3)] [] (mj_rows I [(71, r71), (83, r83), (84, r84), (85, r85), (93, r93), (95, r95)]) L) s := by
  refine mj_loop (fun x3 o hf hc hx => ?_)
  unfold bdX11_areAlike_159 at hf
  refine mj_iload_n 1 dX11_areAlike_159 rfl ?_
  refine mj_aload_n 0 dX11_areAlike_160 rfl ?_
  refine mj_getIv (v := (r71 24)) rfl fl_X11_227 rfl s0_71 a0_71 dX11_areAlike_161 ?_
  refine mj_icmp_ge 184 dX11_areAlike_164 (by decide) (fun c17 => ?_) (fun c17 => ?_)
  · replace hf := mj_pos c17 hf
    refine mj_sub [] [] rfl ?_
    obtain rfl := Option.some.inj hf
    have hZ := hx (.inl ()) rfl
    replace hZ := mj_el hZ
    exact hZ
  · replace hf := mj_neg c17 hf
    refine mj_aload_n 0 dX11_areAlike_167 rfl ?_
    refine mj_getP p0_71_43 (by decide) fl_X11_382 rfl s0_71 a0_71 dX11_areAlike_168 ?_
    refine mj_iload_n 1 dX11_areAlike_171 rfl ?_
    obtain ⟨z18, hf⟩ := mj_ck hf
    refine mj_ialdv (x := r95) rfl s0_95 a0_95 z18 dX11_areAlike_172 ?_
    refine mj_if_eq 178 dX11_areAlike_173 (by decide) (fun c19 => ?_) (fun c19 => ?_)
    · replace hf := mj_pos c19 hf
      refine mj_iinc 1 [(3, .int (x3 + (1))), (0, .ref 71)] dX11_areAlike_178 rfl (kz_1 _) (by decide) rfl ?_
      refine mj_goto 159 dX11_areAlike_181 (by decide) ?_
      refine mj_sub [1, 0] [(0, .ref 71), (3, .int (x3 + (1)))] rfl ?_
      obtain rfl := Option.some.inj hf
      have hZ := hc (x3 + (1)) rfl
      exact hZ
    · replace hf := mj_neg c19 hf
      refine mj_sub [] [] rfl ?_
      obtain rfl := Option.some.inj hf
      have hZ := hx (.inr ()) rfl
      replace hZ := mj_er hZ
      exact hZ
set_option maxRecDepth 100000 in
set_option maxHeartbeats 4000000 in
theorem mtX11_areAlike {X : mj_XT} {l : Launch} {G : mj_GT} {ad : Nat → Nat} {Qn : Option Value → mj_IT → mj_LT → Prop} (hR : mj_R X l G mj_P0 mj_S0 98 ad 0 0 Qn) (F : Nat) (I : mj_IT) (L : mj_LT) (r71 : Nat → Int32) (r83 : Nat → Int32) (r84 : Nat → Int32) (r85 : Nat → Int32) (r93 : Nat → Int32) (r95 : Nat → Int32) (x1 : Int32) (x2 : Int32) (o : ((Int32) × (Nat → Int32))) (hf : fnX11_areAlike F r71 r83 r84 r85 r93 r95 x1 x2 = some o) (hq : (mj_u2 (fun ov r95 => Qn (some (.int ov)) (mj_rows I [(71, r71), (83, r83), (84, r84), (85, r85), (93, r93), (95, r95)]) L)) o) : mj_W X G RX11 "areAlike" cX11_areAlike 4 1 (some .boolean) mj_P0 mj_S0 98 ad 0 0 0 [(0, .ref 71), (1, .int x1), (2, .int x2)] [] (mj_rows I [(71, r71), (83, r83), (84, r84), (85, r85), (93, r93), (95, r95)]) L := by
  unfold fnX11_areAlike at hf
  refine mj_aload_n 0 dX11_areAlike_0 rfl ?_
  refine mj_getP p0_71_41 (by decide) fl_X11_379 rfl s0_71 a0_71 dX11_areAlike_1 ?_
  refine mj_iload_n 1 dX11_areAlike_4 rfl ?_
  obtain ⟨z20, hf⟩ := mj_ck hf
  refine mj_ialdv (x := r93) rfl s0_93 a0_93 z20 dX11_areAlike_5 ?_
  refine mj_aload_n 0 dX11_areAlike_6 rfl ?_
  refine mj_getP p0_71_41 (by decide) fl_X11_379 rfl s0_71 a0_71 dX11_areAlike_7 ?_
  refine mj_iload_n 2 dX11_areAlike_10 rfl ?_
  obtain ⟨z21, hf⟩ := mj_ck hf
  refine mj_ialdv (x := r93) rfl s0_93 a0_93 z21 dX11_areAlike_11 ?_
  refine mj_icmp_eq 17 dX11_areAlike_12 (by decide) (fun c22 => ?_) (fun c22 => ?_)
  · replace hf := mj_pos c22 hf
    refine mj_aload_n 0 dX11_areAlike_17 rfl ?_
    refine mj_getP p0_71_30 (by decide) fl_X11_251 rfl s0_71 a0_71 dX11_areAlike_18 ?_
    refine mj_iload_n 1 dX11_areAlike_21 rfl ?_
    obtain ⟨z23, hf⟩ := mj_ck hf
    refine mj_ialdv (x := r83) rfl s0_83 a0_83 z23 dX11_areAlike_22 ?_
    refine mj_if_ne 28 dX11_areAlike_23 (by decide) (fun c24 => ?_) (fun c24 => ?_)
    · replace hf := mj_neg c24 hf
      refine mj_iconst dX11_areAlike_28 kc_iconst_0 ?_
      refine mj_istore_n [(3, .int (0 : Int32)), (0, .ref 71), (1, .int x1), (2, .int x2)] dX11_areAlike_29 rfl (by decide) rfl ?_
      refine mj_sub [1, 2, 3, 0] [(0, .ref 71), (1, .int x1), (2, .int x2), (3, .int (0 : Int32))] rfl ?_
      obtain ⟨r95_25, ho25, hf⟩ := mj_bd hf
      refine lpX11_areAlike_30 hR F I L r71 r83 r84 r85 r93 r95 x1 x2 F ((0 : Int32), r95) r95_25 ho25 ?_
      refine ?_
      refine mj_iconst dX11_areAlike_51 kc_iconst_0 ?_
      refine mj_istore_n [(3, .int (0 : Int32)), (0, .ref 71), (1, .int x1), (2, .int x2)] dX11_areAlike_52 rfl (by decide) rfl ?_
      refine mj_sub [1, 2, 3, 0] [(0, .ref 71), (1, .int x1), (2, .int x2), (3, .int (0 : Int32))] rfl ?_
      obtain ⟨r95_26, ho26, hf⟩ := mj_bd hf
      refine lpX11_areAlike_53 hR F I L r71 r83 r84 r85 r93 r95_25 x1 x2 F ((0 : Int32), r95_25) r95_26 ho26 ?_
      refine ?_
      refine mj_iconst dX11_areAlike_104 kc_iconst_0 ?_
      refine mj_istore_n [(3, .int (0 : Int32)), (0, .ref 71), (2, .int x2)] dX11_areAlike_105 rfl (by decide) rfl ?_
      refine mj_sub [1, 2, 0] [(0, .ref 71), (2, .int x2), (3, .int (0 : Int32))] rfl ?_
      obtain ⟨r95_27, ho27, hf⟩ := mj_bd hf
      refine lpX11_areAlike_106 hR F I L r71 r83 r84 r85 r93 r95_26 x2 F ((0 : Int32), r95_26) r95_27 ho27 ?_
      refine ?_
      refine mj_iconst dX11_areAlike_157 kc_iconst_0 ?_
      refine mj_istore_n [(3, .int (0 : Int32)), (0, .ref 71)] dX11_areAlike_158 rfl (by decide) rfl ?_
      refine mj_sub [1, 0] [(0, .ref 71), (3, .int (0 : Int32))] rfl ?_
      obtain ⟨e28, ho28, hf⟩ := mj_bd hf
      refine lpX11_areAlike_159 hR F I L r71 r83 r84 r85 r93 r95_27 F (0 : Int32) e28 ho28 ?_
      rcases e28 with e28 | e28
      · replace hf := mj_ele hf
        refine mj_elq (?_)
        refine mj_iconst dX11_areAlike_184 kc_iconst_1 ?_
        obtain rfl := Option.some.inj hf
        have hZ := hq
        replace hZ := mj_u2p hZ
        exact mj_iret hR ⟨Nat.le_refl _, Nat.le_refl _⟩ rfl (by decide) dX11_areAlike_185 hZ
      · replace hf := mj_ere hf
        refine mj_erq (?_)
        refine mj_iconst dX11_areAlike_176 kc_iconst_0 ?_
        obtain rfl := Option.some.inj hf
        have hZ := hq
        replace hZ := mj_u2p hZ
        exact mj_iret hR ⟨Nat.le_refl _, Nat.le_refl _⟩ rfl (by decide) dX11_areAlike_177 hZ
    · replace hf := mj_pos c24 hf
      refine mj_iconst dX11_areAlike_26 kc_iconst_1 ?_
      obtain rfl := Option.some.inj hf
      have hZ := hq
      replace hZ := mj_u2p hZ
      exact mj_iret hR ⟨Nat.le_refl _, Nat.le_refl _⟩ rfl (by decide) dX11_areAlike_27 hZ
  · replace hf := mj_neg c22 hf
    refine mj_iconst dX11_areAlike_15 kc_iconst_0 ?_
    obtain rfl := Option.some.inj hf
    have hZ := hq
    replace hZ := mj_u2p hZ
    exact mj_iret hR ⟨Nat.le_refl _, Nat.le_refl _⟩ rfl (by decide) dX11_areAlike_16 hZ
set_option maxRecDepth 100000 in
set_option maxHeartbeats 4000000 in
theorem cmX11_areAlike (l : Launch) (G : mj_GT) (F : Nat) (x1 : Int32) (x2 : Int32) (I : mj_IT) (L : mj_LT) (r71 : Nat → Int32) (r83 : Nat → Int32) (r84 : Nat → Int32) (r85 : Nat → Int32) (r93 : Nat → Int32) (r95 : Nat → Int32) (hr71 : I 71 = r71) (hr83 : I 83 = r83) (hr84 : I 84 = r84) (hr85 : I 85 = r85) (hr93 : I 93 = r93) (hr95 : I 95 = r95) (o : ((Int32) × (Nat → Int32))) (hf : fnX11_areAlike F r71 r83 r84 r85 r93 r95 x1 x2 = some o) : mj_M l G yX11_areAlike cX11_areAlike 4 1 (some .boolean) 0 0 mj_P0 mj_S0 98 [.ref 71, .int x1, .int x2] I L (mj_qd (some (.int o.1)) (mj_rows I [(71, r71), (83, r83), (84, r84), (85, r85), (93, r93), (95, o.2)]) L) := by
  refine mj_in RX11 "areAlike" [(0, .ref 71), (1, .int x1), (2, .int x2)] rfl rfl rfl (by decide) (Nat.le_of_ble_eq_true rfl) (fun X ad hR => ?_)
  refine mj_toI [(71, r71), (83, r83), (84, r84), (85, r85), (93, r93), (95, r95)] (by intro q hq; simp only [List.mem_cons, List.not_mem_nil, or_false] at hq; rcases hq with rfl | rfl | rfl | rfl | rfl | rfl <;> assumption) ?_
  refine mtX11_areAlike hR F I L r71 r83 r84 r85 r93 r95 x1 x2 o hf ?_
  obtain ⟨w0, w1⟩ := o
  refine mj_u2q ?_
  exact ⟨rfl, rfl, rfl⟩

-- X11_areNear
def jnX11_areNear_18 (F : Nat) (r71 : Nat → Int32) (r80 : Nat → Int32) (r81 : Nat → Int32) (r83 : Nat → Int32) (r87 : Nat → Int32) (x1 : Int32) (x2 : Int32) : Option ((Int32)) := (if mj_ib x1 200 = true then (if (r83 x1.toNatClampNeg) ≤ 0 then some (0 : Int32) else (if mj_ib x2 200 = true then (if (r83 x2.toNatClampNeg) ≤ 0 then some (0 : Int32) else some (1 : Int32)) else none)) else none)
def fnX11_areNear (F : Nat) (r71 : Nat → Int32) (r80 : Nat → Int32) (r81 : Nat → Int32) (r83 : Nat → Int32) (r87 : Nat → Int32) (x1 : Int32) (x2 : Int32) (x3 : Int32) : Option ((Int32)) := (if mj_ib x1 200 = true then (if 0 < (r83 x1.toNatClampNeg) then jnX11_areNear_18 F r71 r80 r81 r83 r87 x1 x2 else (if mj_ib x2 200 = true then (if (r83 x2.toNatClampNeg) ≤ 0 then (if mj_ib x1 200 = true then (if mj_ib x2 200 = true then (if (r80 x1.toNatClampNeg) = (r80 x2.toNatClampNeg) then (fnX11_isEnd F r71 r80 x1).bind (fun o12 => (if o12 = 0 then some (1 : Int32) else (if mj_ib x1 200 = true then (fnX11_valueIn F r87 (r81 x1.toNatClampNeg) x3).bind (fun o15 => (if mj_ib x2 200 = true then (fnX11_valueIn F r87 (r81 x2.toNatClampNeg) x3).bind (fun o17 => (if o15 = o17 then some (1 : Int32) else some (0 : Int32))) else none)) else none))) else some (0 : Int32)) else none) else none) else jnX11_areNear_18 F r71 r80 r81 r83 r87 x1 x2) else none)) else none)
set_option maxRecDepth 100000 in
set_option maxHeartbeats 4000000 in
theorem jtX11_areNear_18 {X : mj_XT} {l : Launch} {G : mj_GT} {ad : Nat → Nat} {Qn : Option Value → mj_IT → mj_LT → Prop} (hR : mj_R X l G mj_P0 mj_S0 98 ad 0 0 Qn) (F : Nat) (I : mj_IT) (L : mj_LT) (r71 : Nat → Int32) (r80 : Nat → Int32) (r81 : Nat → Int32) (r83 : Nat → Int32) (r87 : Nat → Int32) (x1 : Int32) (x2 : Int32) (o : ((Int32))) (hf : jnX11_areNear_18 F r71 r80 r81 r83 r87 x1 x2 = some o) (hq : (fun ov => Qn (some (.int ov)) (mj_rows I [(71, r71), (80, r80), (81, r81), (83, r83), (87, r87)]) L) o) : mj_W X G RX11 "areNear" cX11_areNear 4 2 (some .boolean) mj_P0 mj_S0 98 ad 0 0 18 [(0, .ref 71), (1, .int x1), (2, .int x2)] [] (mj_rows I [(71, r71), (80, r80), (81, r81), (83, r83), (87, r87)]) L := by
  unfold jnX11_areNear_18 at hf
  refine mj_aload_n 0 dX11_areNear_18 rfl ?_
  refine mj_getP p0_71_30 (by decide) fl_X11_251 rfl s0_71 a0_71 dX11_areNear_19 ?_
  refine mj_iload_n 1 dX11_areNear_22 rfl ?_
  obtain ⟨z1, hf⟩ := mj_ck hf
  refine mj_ialdv (x := r83) rfl s0_83 a0_83 z1 dX11_areNear_23 ?_
  refine mj_if_le 40 dX11_areNear_24 (by decide) (fun c2 => ?_) (fun c2 => ?_)
  · replace hf := mj_pos c2 hf
    refine mj_iconst dX11_areNear_40 kc_iconst_0 ?_
    obtain rfl := Option.some.inj hf
    have hZ := hq
    exact mj_iret hR ⟨Nat.le_refl _, Nat.le_refl _⟩ rfl (by decide) dX11_areNear_41 hZ
  · replace hf := mj_neg c2 hf
    refine mj_aload_n 0 dX11_areNear_27 rfl ?_
    refine mj_getP p0_71_30 (by decide) fl_X11_251 rfl s0_71 a0_71 dX11_areNear_28 ?_
    refine mj_iload_n 2 dX11_areNear_31 rfl ?_
    obtain ⟨z3, hf⟩ := mj_ck hf
    refine mj_ialdv (x := r83) rfl s0_83 a0_83 z3 dX11_areNear_32 ?_
    refine mj_if_le 40 dX11_areNear_33 (by decide) (fun c4 => ?_) (fun c4 => ?_)
    · replace hf := mj_pos c4 hf
      refine mj_iconst dX11_areNear_40 kc_iconst_0 ?_
      obtain rfl := Option.some.inj hf
      have hZ := hq
      exact mj_iret hR ⟨Nat.le_refl _, Nat.le_refl _⟩ rfl (by decide) dX11_areNear_41 hZ
    · replace hf := mj_neg c4 hf
      refine mj_iconst dX11_areNear_36 kc_iconst_1 ?_
      refine mj_goto 41 dX11_areNear_37 (by decide) ?_
      obtain rfl := Option.some.inj hf
      have hZ := hq
      exact mj_iret hR ⟨Nat.le_refl _, Nat.le_refl _⟩ rfl (by decide) dX11_areNear_41 hZ
set_option maxRecDepth 100000 in
set_option maxHeartbeats 4000000 in
theorem mtX11_areNear {X : mj_XT} {l : Launch} {G : mj_GT} {ad : Nat → Nat} {Qn : Option Value → mj_IT → mj_LT → Prop} (hR : mj_R X l G mj_P0 mj_S0 98 ad 0 0 Qn) (F : Nat) (I : mj_IT) (L : mj_LT) (r71 : Nat → Int32) (r80 : Nat → Int32) (r81 : Nat → Int32) (r83 : Nat → Int32) (r87 : Nat → Int32) (x1 : Int32) (x2 : Int32) (x3 : Int32) (o : ((Int32))) (hf : fnX11_areNear F r71 r80 r81 r83 r87 x1 x2 x3 = some o) (hq : (fun ov => Qn (some (.int ov)) (mj_rows I [(71, r71), (80, r80), (81, r81), (83, r83), (87, r87)]) L) o) : mj_W X G RX11 "areNear" cX11_areNear 4 2 (some .boolean) mj_P0 mj_S0 98 ad 0 0 0 [(0, .ref 71), (1, .int x1), (2, .int x2), (3, .int x3)] [] (mj_rows I [(71, r71), (80, r80), (81, r81), (83, r83), (87, r87)]) L := by
  unfold fnX11_areNear at hf
  refine mj_aload_n 0 dX11_areNear_0 rfl ?_
  refine mj_getP p0_71_30 (by decide) fl_X11_251 rfl s0_71 a0_71 dX11_areNear_1 ?_
  refine mj_iload_n 1 dX11_areNear_4 rfl ?_
  obtain ⟨z5, hf⟩ := mj_ck hf
  refine mj_ialdv (x := r83) rfl s0_83 a0_83 z5 dX11_areNear_5 ?_
  refine mj_if_gt 18 dX11_areNear_6 (by decide) (fun c6 => ?_) (fun c6 => ?_)
  · replace hf := mj_pos c6 hf
    refine mj_sub [0, 1, 2] [(0, .ref 71), (1, .int x1), (2, .int x2)] rfl ?_
    exact jtX11_areNear_18 hR F I L r71 r80 r81 r83 r87 x1 x2 o hf hq
  · replace hf := mj_neg c6 hf
    refine mj_aload_n 0 dX11_areNear_9 rfl ?_
    refine mj_getP p0_71_30 (by decide) fl_X11_251 rfl s0_71 a0_71 dX11_areNear_10 ?_
    refine mj_iload_n 2 dX11_areNear_13 rfl ?_
    obtain ⟨z7, hf⟩ := mj_ck hf
    refine mj_ialdv (x := r83) rfl s0_83 a0_83 z7 dX11_areNear_14 ?_
    refine mj_if_le 42 dX11_areNear_15 (by decide) (fun c8 => ?_) (fun c8 => ?_)
    · replace hf := mj_pos c8 hf
      refine mj_aload_n 0 dX11_areNear_42 rfl ?_
      refine mj_getP p0_71_27 (by decide) fl_X11_230 rfl s0_71 a0_71 dX11_areNear_43 ?_
      refine mj_iload_n 1 dX11_areNear_46 rfl ?_
      obtain ⟨z9, hf⟩ := mj_ck hf
      refine mj_ialdv (x := r80) rfl s0_80 a0_80 z9 dX11_areNear_47 ?_
      refine mj_aload_n 0 dX11_areNear_48 rfl ?_
      refine mj_getP p0_71_27 (by decide) fl_X11_230 rfl s0_71 a0_71 dX11_areNear_49 ?_
      refine mj_iload_n 2 dX11_areNear_52 rfl ?_
      obtain ⟨z10, hf⟩ := mj_ck hf
      refine mj_ialdv (x := r80) rfl s0_80 a0_80 z10 dX11_areNear_53 ?_
      refine mj_icmp_ne 94 dX11_areNear_54 (by decide) (fun c11 => ?_) (fun c11 => ?_)
      · replace hf := mj_neg c11 hf
        refine mj_iconst dX11_areNear_94 kc_iconst_0 ?_
        obtain rfl := Option.some.inj hf
        have hZ := hq
        exact mj_iret hR ⟨Nat.le_refl _, Nat.le_refl _⟩ rfl (by decide) dX11_areNear_95 hZ
      · replace hf := mj_pos c11 hf
        refine mj_aload_n 0 dX11_areNear_57 rfl ?_
        refine mj_iload_n 1 dX11_areNear_58 rfl ?_
        obtain ⟨o12, ho12, hf⟩ := mj_bd hf
        refine mj_callVd (I2 := (mj_rows I [(71, r71), (80, r80), (81, r81), (83, r83), (87, r87)])) (L2 := L) (s1 := [.int o12]) (st := []) [.int x1] (cmX11_isEnd X.2.1 G F x1 _ _ r71 r80 rfl rfl o12 ho12) (mj_rr rfl) rfl cw_X11_330 s0_71 a0_71 (by decide) rfl rfl (Nat.le_of_ble_eq_true rfl) ⟨Nat.zero_le _, Nat.zero_le _⟩ dX11_areNear_59 rfl ?_
        refine mj_if_eq 90 dX11_areNear_62 (by decide) (fun c13 => ?_) (fun c13 => ?_)
        · replace hf := mj_pos c13 hf
          refine mj_iconst dX11_areNear_90 kc_iconst_1 ?_
          refine mj_goto 95 dX11_areNear_91 (by decide) ?_
          obtain rfl := Option.some.inj hf
          have hZ := hq
          exact mj_iret hR ⟨Nat.le_refl _, Nat.le_refl _⟩ rfl (by decide) dX11_areNear_95 hZ
        · replace hf := mj_neg c13 hf
          refine mj_aload_n 0 dX11_areNear_65 rfl ?_
          refine mj_aload_n 0 dX11_areNear_66 rfl ?_
          refine mj_getP p0_71_28 (by decide) fl_X11_233 rfl s0_71 a0_71 dX11_areNear_67 ?_
          refine mj_iload_n 1 dX11_areNear_70 rfl ?_
          obtain ⟨z14, hf⟩ := mj_ck hf
          refine mj_ialdv (x := r81) rfl s0_81 a0_81 z14 dX11_areNear_71 ?_
          refine mj_iload_n 3 dX11_areNear_72 rfl ?_
          obtain ⟨o15, ho15, hf⟩ := mj_bd hf
          refine mj_callVd (I2 := (mj_rows I [(71, r71), (80, r80), (81, r81), (83, r83), (87, r87)])) (L2 := L) (s1 := [.int o15]) (st := []) [.int (r81 x1.toNatClampNeg), .int x3] (cmX11_valueIn X.2.1 G F (r81 x1.toNatClampNeg) x3 _ _ r87 rfl o15 ho15) (mj_rr rfl) rfl cw_X11_218 s0_71 a0_71 (by decide) rfl rfl (Nat.le_of_ble_eq_true rfl) ⟨Nat.zero_le _, Nat.zero_le _⟩ dX11_areNear_73 rfl ?_
          refine mj_aload_n 0 dX11_areNear_76 rfl ?_
          refine mj_aload_n 0 dX11_areNear_77 rfl ?_
          refine mj_getP p0_71_28 (by decide) fl_X11_233 rfl s0_71 a0_71 dX11_areNear_78 ?_
          refine mj_iload_n 2 dX11_areNear_81 rfl ?_
          obtain ⟨z16, hf⟩ := mj_ck hf
          refine mj_ialdv (x := r81) rfl s0_81 a0_81 z16 dX11_areNear_82 ?_
          refine mj_iload_n 3 dX11_areNear_83 rfl ?_
          obtain ⟨o17, ho17, hf⟩ := mj_bd hf
          refine mj_callVd (I2 := (mj_rows I [(71, r71), (80, r80), (81, r81), (83, r83), (87, r87)])) (L2 := L) (s1 := [.int o17, .int o15]) (st := [.int o15]) [.int (r81 x2.toNatClampNeg), .int x3] (cmX11_valueIn X.2.1 G F (r81 x2.toNatClampNeg) x3 _ _ r87 rfl o17 ho17) (mj_rr rfl) rfl cw_X11_218 s0_71 a0_71 (by decide) rfl rfl (Nat.le_of_ble_eq_true rfl) ⟨Nat.zero_le _, Nat.zero_le _⟩ dX11_areNear_84 rfl ?_
          refine mj_icmp_ne 94 dX11_areNear_87 (by decide) (fun c18 => ?_) (fun c18 => ?_)
          · replace hf := mj_neg c18 hf
            refine mj_iconst dX11_areNear_94 kc_iconst_0 ?_
            obtain rfl := Option.some.inj hf
            have hZ := hq
            exact mj_iret hR ⟨Nat.le_refl _, Nat.le_refl _⟩ rfl (by decide) dX11_areNear_95 hZ
          · replace hf := mj_pos c18 hf
            refine mj_iconst dX11_areNear_90 kc_iconst_1 ?_
            refine mj_goto 95 dX11_areNear_91 (by decide) ?_
            obtain rfl := Option.some.inj hf
            have hZ := hq
            exact mj_iret hR ⟨Nat.le_refl _, Nat.le_refl _⟩ rfl (by decide) dX11_areNear_95 hZ
    · replace hf := mj_neg c8 hf
      refine mj_sub [0, 1, 2] [(0, .ref 71), (1, .int x1), (2, .int x2)] rfl ?_
      exact jtX11_areNear_18 hR F I L r71 r80 r81 r83 r87 x1 x2 o hf hq
set_option maxRecDepth 100000 in
set_option maxHeartbeats 4000000 in
theorem cmX11_areNear (l : Launch) (G : mj_GT) (F : Nat) (x1 : Int32) (x2 : Int32) (x3 : Int32) (I : mj_IT) (L : mj_LT) (r71 : Nat → Int32) (r80 : Nat → Int32) (r81 : Nat → Int32) (r83 : Nat → Int32) (r87 : Nat → Int32) (hr71 : I 71 = r71) (hr80 : I 80 = r80) (hr81 : I 81 = r81) (hr83 : I 83 = r83) (hr87 : I 87 = r87) (o : ((Int32))) (hf : fnX11_areNear F r71 r80 r81 r83 r87 x1 x2 x3 = some o) : mj_M l G yX11_areNear cX11_areNear 4 2 (some .boolean) 0 0 mj_P0 mj_S0 98 [.ref 71, .int x1, .int x2, .int x3] I L (mj_qd (some (.int o)) (mj_rows I [(71, r71), (80, r80), (81, r81), (83, r83), (87, r87)]) L) := by
  refine mj_in RX11 "areNear" [(0, .ref 71), (1, .int x1), (2, .int x2), (3, .int x3)] rfl rfl rfl (by decide) (Nat.le_of_ble_eq_true rfl) (fun X ad hR => ?_)
  refine mj_toI [(71, r71), (80, r80), (81, r81), (83, r83), (87, r87)] (by intro q hq; simp only [List.mem_cons, List.not_mem_nil, or_false] at hq; rcases hq with rfl | rfl | rfl | rfl | rfl <;> assumption) ?_
  refine mtX11_areNear hR F I L r71 r80 r81 r83 r87 x1 x2 x3 o hf ?_
  exact ⟨rfl, rfl, rfl⟩

-- X11_parts
def bdX11_parts_12 (F : Nat) (r71 : Nat → Int32) (r80 : Nat → Int32) (r81 : Nat → Int32) (r83 : Nat → Int32) (r87 : Nat → Int32) (x1 : Int32) (x2 : Int32) (x3 : Int32) : Option (((Int32)) ⊕ ((Int32))) := (fnX11_areNear F r71 r80 r81 r83 r87 x2 x3 x1).bind (fun o1 => (if o1 = 0 then some (.inl (x3 + (1))) else some (.inr x3)))
def bdX11_parts_2 (F : Nat) (r71 : Nat → Int32) (r80 : Nat → Int32) (r81 : Nat → Int32) (r83 : Nat → Int32) (r87 : Nat → Int32) (x1 : Int32) (x2 : Int32) (r93 : Nat → Int32) : Option (((Int32) × (Nat → Int32)) ⊕ ((Nat → Int32))) := (if (r71 24) ≤ x2 then some (.inr r93) else (mj_it (bdX11_parts_12 F r71 r80 r81 r83 r87 x1 x2) F (0 : Int32)).bind (fun x3_4 => (if mj_ib x2 200 = true then some (.inl ((x2 + (1)), (upd r93 x2.toNatClampNeg x3_4))) else none)))
def bdX11_parts_62 (F : Nat) (r71 : Nat → Int32) (r83 : Nat → Int32) (r84 : Nat → Int32) (r85 : Nat → Int32) (r93 : Nat → Int32) (r94 : Nat → Int32) (x2 : Int32) (x3 : Int32) (x4 : Int32) (r95 : Nat → Int32) : Option (((Int32) × (Nat → Int32)) ⊕ ((Int32) × (Nat → Int32))) := (if x3 ≤ x4 then some (.inr (x4, r95)) else (if mj_ib x4 200 = true then (if (r94 x4.toNatClampNeg) = x4 then (fnX11_areAlike F r71 r83 r84 r85 r93 r95 x3 x4).bind (fun o9 => (if o9.1 = 0 then some (.inl ((x4 + (1)), o9.2)) else some (.inr (x4, o9.2)))) else some (.inl ((x4 + (1)), r95))) else none))
def bdX11_parts_51 (F : Nat) (r71 : Nat → Int32) (r83 : Nat → Int32) (r84 : Nat → Int32) (r85 : Nat → Int32) (r93 : Nat → Int32) (x2 : Int32) (x3 : Int32) (r94 : Nat → Int32) (r95 : Nat → Int32) : Option (((Int32) × (Int32) × (Nat → Int32) × (Nat → Int32)) ⊕ ((Int32) × (Nat → Int32) × (Nat → Int32))) := (if (r71 24) ≤ x3 then some (.inr (x2, r94, r95)) else (mj_it (mj_u2 (fun z0 z1 => bdX11_parts_62 F r71 r83 r84 r85 r93 r94 x2 x3 z0 z1)) F ((0 : Int32), r95)).bind (mj_u2 (fun x4_12 r95_12 => (if mj_ib x3 200 = true then (if x2 = 0 then (if mj_ib x3 200 = true then (if mj_ib x3 200 = true then (if ((upd r94 x3.toNatClampNeg x4_12) x3.toNatClampNeg) = (r93 x3.toNatClampNeg) then some (.inl ((0 : Int32), (x3 + (1)), (upd r94 x3.toNatClampNeg x4_12), r95_12)) else some (.inl ((1 : Int32), (x3 + (1)), (upd r94 x3.toNatClampNeg x4_12), r95_12))) else none) else none) else some (.inl ((1 : Int32), (x3 + (1)), (upd r94 x3.toNatClampNeg x4_12), r95_12))) else none))))
def bdX11_parts_137 (F : Nat) (r71 : Nat → Int32) (r94 : Nat → Int32) (x2 : Int32) (x3 : Int32) (r93 : Nat → Int32) : Option (((Int32) × (Nat → Int32)) ⊕ ((Nat → Int32))) := (if (r71 24) ≤ x3 then some (.inr r93) else (if mj_ib x3 200 = true then (if mj_ib x3 200 = true then some (.inl ((x3 + (1)), (upd r93 x3.toNatClampNeg (r94 x3.toNatClampNeg)))) else none) else none))
def bdX11_parts_43 (F : Nat) (r71 : Nat → Int32) (r83 : Nat → Int32) (r84 : Nat → Int32) (r85 : Nat → Int32) (x2 : Int32) (r93 : Nat → Int32) (r94 : Nat → Int32) (r95 : Nat → Int32) : Option (((Int32) × (Nat → Int32) × (Nat → Int32) × (Nat → Int32)) ⊕ ((Nat → Int32) × (Nat → Int32) × (Nat → Int32))) := (if x2 = 0 then some (.inr (r93, r94, r95)) else (mj_it (mj_u2 (fun z0 => (mj_u2 (fun z1 => (mj_u2 (fun z2 z3 => bdX11_parts_51 F r71 r83 r84 r85 r93 z0 z1 z2 z3)))))) F ((0 : Int32), (0 : Int32), r94, r95)).bind (mj_u2 (fun x2_22 => (mj_u2 (fun r94_22 r95_22 => (mj_it (mj_u2 (fun z0 z1 => bdX11_parts_137 F r71 r94_22 x2_22 z0 z1)) F ((0 : Int32), r93)).bind (fun r93_23 => some (.inl (x2_22, r93_23, r94_22, r95_22))))))))
def fnX11_parts (F : Nat) (r71 : Nat → Int32) (r80 : Nat → Int32) (r81 : Nat → Int32) (r83 : Nat → Int32) (r84 : Nat → Int32) (r85 : Nat → Int32) (r87 : Nat → Int32) (r93 : Nat → Int32) (r94 : Nat → Int32) (r95 : Nat → Int32) (x1 : Int32) : Option ((Nat → Int32) × (Nat → Int32) × (Nat → Int32)) := (mj_it (mj_u2 (fun z0 z1 => bdX11_parts_2 F r71 r80 r81 r83 r87 x1 z0 z1)) F ((0 : Int32), r93)).bind (fun r93_24 => (mj_it (mj_u2 (fun z0 => (mj_u2 (fun z1 => (mj_u2 (fun z2 z3 => bdX11_parts_43 F r71 r83 r84 r85 z0 z1 z2 z3)))))) F ((1 : Int32), r93_24, r94, r95)).bind (mj_u2 (fun r93_25 => (mj_u2 (fun r94_25 r95_25 => some (r93_25, r94_25, r95_25))))))
set_option maxRecDepth 100000 in
set_option maxHeartbeats 4000000 in
theorem lpX11_parts_12 {X : mj_XT} {l : Launch} {G : mj_GT} {ad : Nat → Nat} {Qn : Option Value → mj_IT → mj_LT → Prop} (hR : mj_R X l G mj_P0 mj_S0 98 ad 0 0 Qn) (F : Nat) (I : mj_IT) (L : mj_LT) (r71 : Nat → Int32) (r80 : Nat → Int32) (r81 : Nat → Int32) (r83 : Nat → Int32) (r84 : Nat → Int32) (r85 : Nat → Int32) (r87 : Nat → Int32) (r93 : Nat → Int32) (r94 : Nat → Int32) (r95 : Nat → Int32) (x1 : Int32) (x2 : Int32) : ∀ (n : Nat) (s : ((Int32))) (e : ((Int32))), mj_it (bdX11_parts_12 F r71 r80 r81 r83 r87 x1 x2) n s = some e → (fun x3 => mj_W X G RX11 "parts" cX11_parts 5 3 none mj_P0 mj_S0 98 ad 0 0 28 [(0, .ref 71), (1, .int x1), (2, .int x2), (3, .int x3)] [] (mj_rows I [(71, r71), (80, r80), (81, r81), (83, r83), (84, r84), (85, r85), (87, r87), (93, r93), (94, r94), (95, r95)]) L) e → (fun x3 => mj_W X G RX11 "parts" cX11_parts 5 3 none mj_P0 mj_S0 98 ad 0 0 12 [(0, .ref 71), (1, .int x1), (2, .int x2), (3, .int x3)] [] (mj_rows I [(71, r71), (80, r80), (81, r81), (83, r83), (84, r84), (85, r85), (87, r87), (93, r93), (94, r94), (95, r95)]) L) s := by
  refine mj_loop (fun x3 o hf hc hx => ?_)
  unfold bdX11_parts_12 at hf
  refine mj_aload_n 0 dX11_parts_12 rfl ?_
  refine mj_iload_n 2 dX11_parts_13 rfl ?_
  refine mj_iload_n 3 dX11_parts_14 rfl ?_
  refine mj_iload_n 1 dX11_parts_15 rfl ?_
  obtain ⟨o1, ho1, hf⟩ := mj_bd hf
  refine mj_callVd (I2 := (mj_rows I [(71, r71), (80, r80), (81, r81), (83, r83), (84, r84), (85, r85), (87, r87), (93, r93), (94, r94), (95, r95)])) (L2 := L) (s1 := [.int o1]) (st := []) [.int x2, .int x3, .int x1] (cmX11_areNear X.2.1 G F x2 x3 x1 _ _ r71 r80 r81 r83 r87 rfl rfl rfl rfl rfl o1 ho1) (mj_rr rfl) rfl cw_X11_385 s0_71 a0_71 (by decide) rfl rfl (Nat.le_of_ble_eq_true rfl) ⟨Nat.zero_le _, Nat.zero_le _⟩ dX11_parts_16 rfl ?_
  refine mj_if_ne 28 dX11_parts_19 (by decide) (fun c2 => ?_) (fun c2 => ?_)
  · replace hf := mj_neg c2 hf
    obtain rfl := Option.some.inj hf
    have hZ := hx x3 rfl
    exact hZ
  · replace hf := mj_pos c2 hf
    refine mj_iinc 3 [(3, .int (x3 + (1))), (0, .ref 71), (1, .int x1), (2, .int x2)] dX11_parts_22 rfl (kz_1 _) (by decide) rfl ?_
    refine mj_goto 12 dX11_parts_25 (by decide) ?_
    refine mj_sub [1, 2, 3, 0] [(0, .ref 71), (1, .int x1), (2, .int x2), (3, .int (x3 + (1)))] rfl ?_
    obtain rfl := Option.some.inj hf
    have hZ := hc (x3 + (1)) rfl
    exact hZ
set_option maxRecDepth 100000 in
set_option maxHeartbeats 4000000 in
theorem lpX11_parts_2 {X : mj_XT} {l : Launch} {G : mj_GT} {ad : Nat → Nat} {Qn : Option Value → mj_IT → mj_LT → Prop} (hR : mj_R X l G mj_P0 mj_S0 98 ad 0 0 Qn) (F : Nat) (I : mj_IT) (L : mj_LT) (r71 : Nat → Int32) (r80 : Nat → Int32) (r81 : Nat → Int32) (r83 : Nat → Int32) (r84 : Nat → Int32) (r85 : Nat → Int32) (r87 : Nat → Int32) (r93 : Nat → Int32) (r94 : Nat → Int32) (r95 : Nat → Int32) (x1 : Int32) : ∀ (n : Nat) (s : ((Int32) × (Nat → Int32))) (e : ((Nat → Int32))), mj_it (mj_u2 (fun z0 z1 => bdX11_parts_2 F r71 r80 r81 r83 r87 x1 z0 z1)) n s = some e → (fun r93 => mj_W X G RX11 "parts" cX11_parts 5 3 none mj_P0 mj_S0 98 ad 0 0 41 [(0, .ref 71)] [] (mj_rows I [(71, r71), (80, r80), (81, r81), (83, r83), (84, r84), (85, r85), (87, r87), (93, r93), (94, r94), (95, r95)]) L) e → (mj_u2 (fun x2 r93 => mj_W X G RX11 "parts" cX11_parts 5 3 none mj_P0 mj_S0 98 ad 0 0 2 [(0, .ref 71), (1, .int x1), (2, .int x2)] [] (mj_rows I [(71, r71), (80, r80), (81, r81), (83, r83), (84, r84), (85, r85), (87, r87), (93, r93), (94, r94), (95, r95)]) L)) s := by
  refine mj_loop (fun s o hf hc hx => ?_)
  obtain ⟨x2, r93⟩ := s
  replace hf := mj_u2e hf
  refine mj_u2q ?_
  unfold bdX11_parts_2 at hf
  refine mj_iload_n 2 dX11_parts_2 rfl ?_
  refine mj_aload_n 0 dX11_parts_3 rfl ?_
  refine mj_getIv (v := (r71 24)) rfl fl_X11_227 rfl s0_71 a0_71 dX11_parts_4 ?_
  refine mj_icmp_ge 41 dX11_parts_7 (by decide) (fun c3 => ?_) (fun c3 => ?_)
  · replace hf := mj_pos c3 hf
    refine mj_sub [0] [(0, .ref 71)] rfl ?_
    obtain rfl := Option.some.inj hf
    have hZ := hx r93 rfl
    exact hZ
  · replace hf := mj_neg c3 hf
    refine mj_iconst dX11_parts_10 kc_iconst_0 ?_
    refine mj_istore_n [(3, .int (0 : Int32)), (0, .ref 71), (1, .int x1), (2, .int x2)] dX11_parts_11 rfl (by decide) rfl ?_
    refine mj_sub [1, 2, 3, 0] [(0, .ref 71), (1, .int x1), (2, .int x2), (3, .int (0 : Int32))] rfl ?_
    obtain ⟨x3_4, ho4, hf⟩ := mj_bd hf
    refine lpX11_parts_12 hR F I L r71 r80 r81 r83 r84 r85 r87 r93 r94 r95 x1 x2 F (0 : Int32) x3_4 ho4 ?_
    refine ?_
    refine mj_aload_n 0 dX11_parts_28 rfl ?_
    refine mj_getP p0_71_41 (by decide) fl_X11_379 rfl s0_71 a0_71 dX11_parts_29 ?_
    refine mj_iload_n 2 dX11_parts_32 rfl ?_
    refine mj_iload_n 3 dX11_parts_33 rfl ?_
    obtain ⟨z5, hf⟩ := mj_ck hf
    refine mj_iastr [(71, r71), (80, r80), (81, r81), (83, r83), (84, r84), (85, r85), (87, r87), (93, (upd r93 x2.toNatClampNeg x3_4)), (94, r94), (95, r95)] rfl s0_93 a0_93 z5 dX11_parts_34 ?_
    refine mj_iinc 2 [(2, .int (x2 + (1))), (0, .ref 71), (1, .int x1), (3, .int x3_4)] dX11_parts_35 rfl (kz_1 _) (by decide) rfl ?_
    refine mj_goto 2 dX11_parts_38 (by decide) ?_
    refine mj_sub [1, 2, 0] [(0, .ref 71), (1, .int x1), (2, .int (x2 + (1)))] rfl ?_
    obtain rfl := Option.some.inj hf
    have hZ := hc ((x2 + (1)), (upd r93 x2.toNatClampNeg x3_4)) rfl
    replace hZ := mj_u2p hZ
    exact hZ
set_option maxRecDepth 100000 in
set_option maxHeartbeats 4000000 in
theorem lpX11_parts_62 {X : mj_XT} {l : Launch} {G : mj_GT} {ad : Nat → Nat} {Qn : Option Value → mj_IT → mj_LT → Prop} (hR : mj_R X l G mj_P0 mj_S0 98 ad 0 0 Qn) (F : Nat) (I : mj_IT) (L : mj_LT) (r71 : Nat → Int32) (r80 : Nat → Int32) (r81 : Nat → Int32) (r83 : Nat → Int32) (r84 : Nat → Int32) (r85 : Nat → Int32) (r87 : Nat → Int32) (r93 : Nat → Int32) (r94 : Nat → Int32) (r95 : Nat → Int32) (x2 : Int32) (x3 : Int32) : ∀ (n : Nat) (s : ((Int32) × (Nat → Int32))) (e : ((Int32) × (Nat → Int32))), mj_it (mj_u2 (fun z0 z1 => bdX11_parts_62 F r71 r83 r84 r85 r93 r94 x2 x3 z0 z1)) n s = some e → (mj_u2 (fun x4 r95 => mj_W X G RX11 "parts" cX11_parts 5 3 none mj_P0 mj_S0 98 ad 0 0 96 [(0, .ref 71), (2, .int x2), (3, .int x3), (4, .int x4)] [] (mj_rows I [(71, r71), (80, r80), (81, r81), (83, r83), (84, r84), (85, r85), (87, r87), (93, r93), (94, r94), (95, r95)]) L)) e → (mj_u2 (fun x4 r95 => mj_W X G RX11 "parts" cX11_parts 5 3 none mj_P0 mj_S0 98 ad 0 0 62 [(0, .ref 71), (2, .int x2), (3, .int x3), (4, .int x4)] [] (mj_rows I [(71, r71), (80, r80), (81, r81), (83, r83), (84, r84), (85, r85), (87, r87), (93, r93), (94, r94), (95, r95)]) L)) s := by
  refine mj_loop (fun s o hf hc hx => ?_)
  obtain ⟨x4, r95⟩ := s
  replace hf := mj_u2e hf
  refine mj_u2q ?_
  unfold bdX11_parts_62 at hf
  refine mj_iload 3 dX11_parts_62 rfl ?_
  refine mj_iload_n 2 dX11_parts_64 rfl ?_
  refine mj_icmp_ge 96 dX11_parts_65 (by decide) (fun c6 => ?_) (fun c6 => ?_)
  · replace hf := mj_pos c6 hf
    obtain rfl := Option.some.inj hf
    have hZ := hx (x4, r95) rfl
    replace hZ := mj_u2p hZ
    exact hZ
  · replace hf := mj_neg c6 hf
    refine mj_aload_n 0 dX11_parts_68 rfl ?_
    refine mj_getP p0_71_42 (by decide) fl_X11_389 rfl s0_71 a0_71 dX11_parts_69 ?_
    refine mj_iload 3 dX11_parts_72 rfl ?_
    obtain ⟨z7, hf⟩ := mj_ck hf
    refine mj_ialdv (x := r94) rfl s0_94 a0_94 z7 dX11_parts_74 ?_
    refine mj_iload 3 dX11_parts_75 rfl ?_
    refine mj_icmp_ne 90 dX11_parts_77 (by decide) (fun c8 => ?_) (fun c8 => ?_)
    · replace hf := mj_neg c8 hf
      refine mj_iinc 3 [(4, .int (x4 + (1))), (0, .ref 71), (2, .int x2), (3, .int x3)] dX11_parts_90 rfl (kz_1 _) (by decide) rfl ?_
      refine mj_goto 62 dX11_parts_93 (by decide) ?_
      refine mj_sub [1, 2, 3, 0] [(0, .ref 71), (2, .int x2), (3, .int x3), (4, .int (x4 + (1)))] rfl ?_
      obtain rfl := Option.some.inj hf
      have hZ := hc ((x4 + (1)), r95) rfl
      replace hZ := mj_u2p hZ
      exact hZ
    · replace hf := mj_pos c8 hf
      refine mj_aload_n 0 dX11_parts_80 rfl ?_
      refine mj_iload_n 2 dX11_parts_81 rfl ?_
      refine mj_iload 3 dX11_parts_82 rfl ?_
      obtain ⟨o9, ho9, hf⟩ := mj_bd hf
      refine mj_callVd (I2 := (mj_rows I [(71, r71), (80, r80), (81, r81), (83, r83), (84, r84), (85, r85), (87, r87), (93, r93), (94, r94), (95, o9.2)])) (L2 := L) (s1 := [.int o9.1]) (st := []) [.int x3, .int x4] (cmX11_areAlike X.2.1 G F x3 x4 _ _ r71 r83 r84 r85 r93 r95 rfl rfl rfl rfl rfl rfl o9 ho9) (mj_rr rfl) rfl cw_X11_392 s0_71 a0_71 (by decide) rfl rfl (Nat.le_of_ble_eq_true rfl) ⟨Nat.zero_le _, Nat.zero_le _⟩ dX11_parts_84 rfl ?_
      refine mj_if_ne 96 dX11_parts_87 (by decide) (fun c10 => ?_) (fun c10 => ?_)
      · replace hf := mj_neg c10 hf
        obtain rfl := Option.some.inj hf
        have hZ := hx (x4, o9.2) rfl
        replace hZ := mj_u2p hZ
        exact hZ
      · replace hf := mj_pos c10 hf
        refine mj_iinc 3 [(4, .int (x4 + (1))), (0, .ref 71), (2, .int x2), (3, .int x3)] dX11_parts_90 rfl (kz_1 _) (by decide) rfl ?_
        refine mj_goto 62 dX11_parts_93 (by decide) ?_
        refine mj_sub [1, 2, 3, 0] [(0, .ref 71), (2, .int x2), (3, .int x3), (4, .int (x4 + (1)))] rfl ?_
        obtain rfl := Option.some.inj hf
        have hZ := hc ((x4 + (1)), o9.2) rfl
        replace hZ := mj_u2p hZ
        exact hZ
set_option maxRecDepth 100000 in
set_option maxHeartbeats 4000000 in
theorem lpX11_parts_51 {X : mj_XT} {l : Launch} {G : mj_GT} {ad : Nat → Nat} {Qn : Option Value → mj_IT → mj_LT → Prop} (hR : mj_R X l G mj_P0 mj_S0 98 ad 0 0 Qn) (F : Nat) (I : mj_IT) (L : mj_LT) (r71 : Nat → Int32) (r80 : Nat → Int32) (r81 : Nat → Int32) (r83 : Nat → Int32) (r84 : Nat → Int32) (r85 : Nat → Int32) (r87 : Nat → Int32) (r93 : Nat → Int32) (r94 : Nat → Int32) (r95 : Nat → Int32) : ∀ (n : Nat) (s : ((Int32) × (Int32) × (Nat → Int32) × (Nat → Int32))) (e : ((Int32) × (Nat → Int32) × (Nat → Int32))), mj_it (mj_u2 (fun z0 => (mj_u2 (fun z1 => (mj_u2 (fun z2 z3 => bdX11_parts_51 F r71 r83 r84 r85 r93 z0 z1 z2 z3)))))) n s = some e → (mj_u2 (fun x2 => (mj_u2 (fun r94 r95 => mj_W X G RX11 "parts" cX11_parts 5 3 none mj_P0 mj_S0 98 ad 0 0 135 [(0, .ref 71), (2, .int x2)] [] (mj_rows I [(71, r71), (80, r80), (81, r81), (83, r83), (84, r84), (85, r85), (87, r87), (93, r93), (94, r94), (95, r95)]) L)))) e → (mj_u2 (fun x2 => (mj_u2 (fun x3 => (mj_u2 (fun r94 r95 => mj_W X G RX11 "parts" cX11_parts 5 3 none mj_P0 mj_S0 98 ad 0 0 51 [(0, .ref 71), (2, .int x2), (3, .int x3)] [] (mj_rows I [(71, r71), (80, r80), (81, r81), (83, r83), (84, r84), (85, r85), (87, r87), (93, r93), (94, r94), (95, r95)]) L)))))) s := by
  refine mj_loop (fun s o hf hc hx => ?_)
  obtain ⟨x2, x3, r94, r95⟩ := s
  replace hf := mj_u2e hf
  refine mj_u2q ?_
  replace hf := mj_u2e hf
  refine mj_u2q ?_
  replace hf := mj_u2e hf
  refine mj_u2q ?_
  unfold bdX11_parts_51 at hf
  refine mj_iload_n 2 dX11_parts_51 rfl ?_
  refine mj_aload_n 0 dX11_parts_52 rfl ?_
  refine mj_getIv (v := (r71 24)) rfl fl_X11_227 rfl s0_71 a0_71 dX11_parts_53 ?_
  refine mj_icmp_ge 135 dX11_parts_56 (by decide) (fun c11 => ?_) (fun c11 => ?_)
  · replace hf := mj_pos c11 hf
    refine mj_sub [0, 1] [(0, .ref 71), (2, .int x2)] rfl ?_
    obtain rfl := Option.some.inj hf
    have hZ := hx (x2, r94, r95) rfl
    replace hZ := mj_u2p hZ
    replace hZ := mj_u2p hZ
    exact hZ
  · replace hf := mj_neg c11 hf
    refine mj_iconst dX11_parts_59 kc_iconst_0 ?_
    refine mj_istore [(4, .int (0 : Int32)), (0, .ref 71), (2, .int x2), (3, .int x3)] dX11_parts_60 (by decide) rfl ?_
    refine mj_sub [1, 2, 3, 0] [(0, .ref 71), (2, .int x2), (3, .int x3), (4, .int (0 : Int32))] rfl ?_
    obtain ⟨e12, ho12, hf⟩ := mj_bd hf
    refine lpX11_parts_62 hR F I L r71 r80 r81 r83 r84 r85 r87 r93 r94 r95 x2 x3 F ((0 : Int32), r95) e12 ho12 ?_
    obtain ⟨x4_12, r95_12⟩ := e12
    replace hf := mj_u2e hf
    refine ?_
    refine mj_u2q ?_
    refine mj_aload_n 0 dX11_parts_96 rfl ?_
    refine mj_getP p0_71_42 (by decide) fl_X11_389 rfl s0_71 a0_71 dX11_parts_97 ?_
    refine mj_iload_n 2 dX11_parts_100 rfl ?_
    refine mj_iload 3 dX11_parts_101 rfl ?_
    obtain ⟨z13, hf⟩ := mj_ck hf
    refine mj_iastr [(71, r71), (80, r80), (81, r81), (83, r83), (84, r84), (85, r85), (87, r87), (93, r93), (94, (upd r94 x3.toNatClampNeg x4_12)), (95, r95_12)] rfl s0_94 a0_94 z13 dX11_parts_103 ?_
    refine mj_iload_n 1 dX11_parts_104 rfl ?_
    refine mj_if_ne 123 dX11_parts_105 (by decide) (fun c14 => ?_) (fun c14 => ?_)
    · replace hf := mj_neg c14 hf
      refine mj_iconst dX11_parts_123 kc_iconst_1 ?_
      refine mj_goto 128 dX11_parts_124 (by decide) ?_
      refine mj_istore_n [(2, .int (1 : Int32)), (0, .ref 71), (3, .int x3), (4, .int x4_12)] dX11_parts_128 rfl (by decide) rfl ?_
      refine mj_iinc 2 [(3, .int (x3 + (1))), (2, .int (1 : Int32)), (0, .ref 71), (4, .int x4_12)] dX11_parts_129 rfl (kz_1 _) (by decide) rfl ?_
      refine mj_goto 51 dX11_parts_132 (by decide) ?_
      refine mj_sub [2, 1, 0] [(0, .ref 71), (2, .int (1 : Int32)), (3, .int (x3 + (1)))] rfl ?_
      obtain rfl := Option.some.inj hf
      have hZ := hc ((1 : Int32), (x3 + (1)), (upd r94 x3.toNatClampNeg x4_12), r95_12) rfl
      replace hZ := mj_u2p hZ
      replace hZ := mj_u2p hZ
      replace hZ := mj_u2p hZ
      exact hZ
    · replace hf := mj_pos c14 hf
      refine mj_aload_n 0 dX11_parts_108 rfl ?_
      refine mj_getP p0_71_42 (by decide) fl_X11_389 rfl s0_71 a0_71 dX11_parts_109 ?_
      refine mj_iload_n 2 dX11_parts_112 rfl ?_
      obtain ⟨z15, hf⟩ := mj_ck hf
      refine mj_ialdv (x := (upd r94 x3.toNatClampNeg x4_12)) rfl s0_94 a0_94 z15 dX11_parts_113 ?_
      refine mj_aload_n 0 dX11_parts_114 rfl ?_
      refine mj_getP p0_71_41 (by decide) fl_X11_379 rfl s0_71 a0_71 dX11_parts_115 ?_
      refine mj_iload_n 2 dX11_parts_118 rfl ?_
      obtain ⟨z16, hf⟩ := mj_ck hf
      refine mj_ialdv (x := r93) rfl s0_93 a0_93 z16 dX11_parts_119 ?_
      refine mj_icmp_eq 127 dX11_parts_120 (by decide) (fun c17 => ?_) (fun c17 => ?_)
      · replace hf := mj_pos c17 hf
        refine mj_iconst dX11_parts_127 kc_iconst_0 ?_
        refine mj_istore_n [(2, .int (0 : Int32)), (0, .ref 71), (3, .int x3), (4, .int x4_12)] dX11_parts_128 rfl (by decide) rfl ?_
        refine mj_iinc 2 [(3, .int (x3 + (1))), (2, .int (0 : Int32)), (0, .ref 71), (4, .int x4_12)] dX11_parts_129 rfl (kz_1 _) (by decide) rfl ?_
        refine mj_goto 51 dX11_parts_132 (by decide) ?_
        refine mj_sub [2, 1, 0] [(0, .ref 71), (2, .int (0 : Int32)), (3, .int (x3 + (1)))] rfl ?_
        obtain rfl := Option.some.inj hf
        have hZ := hc ((0 : Int32), (x3 + (1)), (upd r94 x3.toNatClampNeg x4_12), r95_12) rfl
        replace hZ := mj_u2p hZ
        replace hZ := mj_u2p hZ
        replace hZ := mj_u2p hZ
        exact hZ
      · replace hf := mj_neg c17 hf
        refine mj_iconst dX11_parts_123 kc_iconst_1 ?_
        refine mj_goto 128 dX11_parts_124 (by decide) ?_
        refine mj_istore_n [(2, .int (1 : Int32)), (0, .ref 71), (3, .int x3), (4, .int x4_12)] dX11_parts_128 rfl (by decide) rfl ?_
        refine mj_iinc 2 [(3, .int (x3 + (1))), (2, .int (1 : Int32)), (0, .ref 71), (4, .int x4_12)] dX11_parts_129 rfl (kz_1 _) (by decide) rfl ?_
        refine mj_goto 51 dX11_parts_132 (by decide) ?_
        refine mj_sub [2, 1, 0] [(0, .ref 71), (2, .int (1 : Int32)), (3, .int (x3 + (1)))] rfl ?_
        obtain rfl := Option.some.inj hf
        have hZ := hc ((1 : Int32), (x3 + (1)), (upd r94 x3.toNatClampNeg x4_12), r95_12) rfl
        replace hZ := mj_u2p hZ
        replace hZ := mj_u2p hZ
        replace hZ := mj_u2p hZ
        exact hZ
set_option maxRecDepth 100000 in
set_option maxHeartbeats 4000000 in
theorem lpX11_parts_137 {X : mj_XT} {l : Launch} {G : mj_GT} {ad : Nat → Nat} {Qn : Option Value → mj_IT → mj_LT → Prop} (hR : mj_R X l G mj_P0 mj_S0 98 ad 0 0 Qn) (F : Nat) (I : mj_IT) (L : mj_LT) (r71 : Nat → Int32) (r80 : Nat → Int32) (r81 : Nat → Int32) (r83 : Nat → Int32) (r84 : Nat → Int32) (r85 : Nat → Int32) (r87 : Nat → Int32) (r93 : Nat → Int32) (r94 : Nat → Int32) (r95 : Nat → Int32) (x2 : Int32) : ∀ (n : Nat) (s : ((Int32) × (Nat → Int32))) (e : ((Nat → Int32))), mj_it (mj_u2 (fun z0 z1 => bdX11_parts_137 F r71 r94 x2 z0 z1)) n s = some e → (fun r93 => mj_W X G RX11 "parts" cX11_parts 5 3 none mj_P0 mj_S0 98 ad 0 0 163 [(0, .ref 71), (2, .int x2)] [] (mj_rows I [(71, r71), (80, r80), (81, r81), (83, r83), (84, r84), (85, r85), (87, r87), (93, r93), (94, r94), (95, r95)]) L) e → (mj_u2 (fun x3 r93 => mj_W X G RX11 "parts" cX11_parts 5 3 none mj_P0 mj_S0 98 ad 0 0 137 [(0, .ref 71), (2, .int x2), (3, .int x3)] [] (mj_rows I [(71, r71), (80, r80), (81, r81), (83, r83), (84, r84), (85, r85), (87, r87), (93, r93), (94, r94), (95, r95)]) L)) s := by
  refine mj_loop (fun s o hf hc hx => ?_)
  obtain ⟨x3, r93⟩ := s
  replace hf := mj_u2e hf
  refine mj_u2q ?_
  unfold bdX11_parts_137 at hf
  refine mj_iload_n 2 dX11_parts_137 rfl ?_
  refine mj_aload_n 0 dX11_parts_138 rfl ?_
  refine mj_getIv (v := (r71 24)) rfl fl_X11_227 rfl s0_71 a0_71 dX11_parts_139 ?_
  refine mj_icmp_ge 163 dX11_parts_142 (by decide) (fun c18 => ?_) (fun c18 => ?_)
  · replace hf := mj_pos c18 hf
    refine mj_sub [0, 1] [(0, .ref 71), (2, .int x2)] rfl ?_
    obtain rfl := Option.some.inj hf
    have hZ := hx r93 rfl
    exact hZ
  · replace hf := mj_neg c18 hf
    refine mj_aload_n 0 dX11_parts_145 rfl ?_
    refine mj_getP p0_71_41 (by decide) fl_X11_379 rfl s0_71 a0_71 dX11_parts_146 ?_
    refine mj_iload_n 2 dX11_parts_149 rfl ?_
    refine mj_aload_n 0 dX11_parts_150 rfl ?_
    refine mj_getP p0_71_42 (by decide) fl_X11_389 rfl s0_71 a0_71 dX11_parts_151 ?_
    refine mj_iload_n 2 dX11_parts_154 rfl ?_
    obtain ⟨z19, hf⟩ := mj_ck hf
    refine mj_ialdv (x := r94) rfl s0_94 a0_94 z19 dX11_parts_155 ?_
    obtain ⟨z20, hf⟩ := mj_ck hf
    refine mj_iastr [(71, r71), (80, r80), (81, r81), (83, r83), (84, r84), (85, r85), (87, r87), (93, (upd r93 x3.toNatClampNeg (r94 x3.toNatClampNeg))), (94, r94), (95, r95)] rfl s0_93 a0_93 z20 dX11_parts_156 ?_
    refine mj_iinc 2 [(3, .int (x3 + (1))), (0, .ref 71), (2, .int x2)] dX11_parts_157 rfl (kz_1 _) (by decide) rfl ?_
    refine mj_goto 137 dX11_parts_160 (by decide) ?_
    refine mj_sub [1, 2, 0] [(0, .ref 71), (2, .int x2), (3, .int (x3 + (1)))] rfl ?_
    obtain rfl := Option.some.inj hf
    have hZ := hc ((x3 + (1)), (upd r93 x3.toNatClampNeg (r94 x3.toNatClampNeg))) rfl
    replace hZ := mj_u2p hZ
    exact hZ
set_option maxRecDepth 100000 in
set_option maxHeartbeats 4000000 in
theorem lpX11_parts_43 {X : mj_XT} {l : Launch} {G : mj_GT} {ad : Nat → Nat} {Qn : Option Value → mj_IT → mj_LT → Prop} (hR : mj_R X l G mj_P0 mj_S0 98 ad 0 0 Qn) (F : Nat) (I : mj_IT) (L : mj_LT) (r71 : Nat → Int32) (r80 : Nat → Int32) (r81 : Nat → Int32) (r83 : Nat → Int32) (r84 : Nat → Int32) (r85 : Nat → Int32) (r87 : Nat → Int32) (r93 : Nat → Int32) (r94 : Nat → Int32) (r95 : Nat → Int32) : ∀ (n : Nat) (s : ((Int32) × (Nat → Int32) × (Nat → Int32) × (Nat → Int32))) (e : ((Nat → Int32) × (Nat → Int32) × (Nat → Int32))), mj_it (mj_u2 (fun z0 => (mj_u2 (fun z1 => (mj_u2 (fun z2 z3 => bdX11_parts_43 F r71 r83 r84 r85 z0 z1 z2 z3)))))) n s = some e → (mj_u2 (fun r93 => (mj_u2 (fun r94 r95 => mj_W X G RX11 "parts" cX11_parts 5 3 none mj_P0 mj_S0 98 ad 0 0 166 [] [] (mj_rows I [(71, r71), (80, r80), (81, r81), (83, r83), (84, r84), (85, r85), (87, r87), (93, r93), (94, r94), (95, r95)]) L)))) e → (mj_u2 (fun x2 => (mj_u2 (fun r93 => (mj_u2 (fun r94 r95 => mj_W X G RX11 "parts" cX11_parts 5 3 none mj_P0 mj_S0 98 ad 0 0 43 [(0, .ref 71), (2, .int x2)] [] (mj_rows I [(71, r71), (80, r80), (81, r81), (83, r83), (84, r84), (85, r85), (87, r87), (93, r93), (94, r94), (95, r95)]) L)))))) s := by
  refine mj_loop (fun s o hf hc hx => ?_)
  obtain ⟨x2, r93, r94, r95⟩ := s
  replace hf := mj_u2e hf
  refine mj_u2q ?_
  replace hf := mj_u2e hf
  refine mj_u2q ?_
  replace hf := mj_u2e hf
  refine mj_u2q ?_
  unfold bdX11_parts_43 at hf
  refine mj_iload_n 1 dX11_parts_43 rfl ?_
  refine mj_if_eq 166 dX11_parts_44 (by decide) (fun c21 => ?_) (fun c21 => ?_)
  · replace hf := mj_pos c21 hf
    refine mj_sub [] [] rfl ?_
    obtain rfl := Option.some.inj hf
    have hZ := hx (r93, r94, r95) rfl
    replace hZ := mj_u2p hZ
    replace hZ := mj_u2p hZ
    exact hZ
  · replace hf := mj_neg c21 hf
    refine mj_iconst dX11_parts_47 kc_iconst_0 ?_
    refine mj_istore_n [(2, .int (0 : Int32)), (0, .ref 71)] dX11_parts_48 rfl (by decide) rfl ?_
    refine mj_iconst dX11_parts_49 kc_iconst_0 ?_
    refine mj_istore_n [(3, .int (0 : Int32)), (2, .int (0 : Int32)), (0, .ref 71)] dX11_parts_50 rfl (by decide) rfl ?_
    refine mj_sub [2, 1, 0] [(0, .ref 71), (2, .int (0 : Int32)), (3, .int (0 : Int32))] rfl ?_
    obtain ⟨e22, ho22, hf⟩ := mj_bd hf
    refine lpX11_parts_51 hR F I L r71 r80 r81 r83 r84 r85 r87 r93 r94 r95 F ((0 : Int32), (0 : Int32), r94, r95) e22 ho22 ?_
    obtain ⟨x2_22, r94_22, r95_22⟩ := e22
    replace hf := mj_u2e hf
    replace hf := mj_u2e hf
    refine ?_
    refine mj_u2q ?_
    refine mj_u2q ?_
    refine mj_iconst dX11_parts_135 kc_iconst_0 ?_
    refine mj_istore_n [(3, .int (0 : Int32)), (0, .ref 71), (2, .int x2_22)] dX11_parts_136 rfl (by decide) rfl ?_
    refine mj_sub [1, 2, 0] [(0, .ref 71), (2, .int x2_22), (3, .int (0 : Int32))] rfl ?_
    obtain ⟨r93_23, ho23, hf⟩ := mj_bd hf
    refine lpX11_parts_137 hR F I L r71 r80 r81 r83 r84 r85 r87 r93 r94_22 r95_22 x2_22 F ((0 : Int32), r93) r93_23 ho23 ?_
    refine ?_
    refine mj_goto 43 dX11_parts_163 (by decide) ?_
    obtain rfl := Option.some.inj hf
    have hZ := hc (x2_22, r93_23, r94_22, r95_22) rfl
    replace hZ := mj_u2p hZ
    replace hZ := mj_u2p hZ
    replace hZ := mj_u2p hZ
    exact hZ
set_option maxRecDepth 100000 in
set_option maxHeartbeats 4000000 in
theorem mtX11_parts {X : mj_XT} {l : Launch} {G : mj_GT} {ad : Nat → Nat} {Qn : Option Value → mj_IT → mj_LT → Prop} (hR : mj_R X l G mj_P0 mj_S0 98 ad 0 0 Qn) (F : Nat) (I : mj_IT) (L : mj_LT) (r71 : Nat → Int32) (r80 : Nat → Int32) (r81 : Nat → Int32) (r83 : Nat → Int32) (r84 : Nat → Int32) (r85 : Nat → Int32) (r87 : Nat → Int32) (r93 : Nat → Int32) (r94 : Nat → Int32) (r95 : Nat → Int32) (x1 : Int32) (o : ((Nat → Int32) × (Nat → Int32) × (Nat → Int32))) (hf : fnX11_parts F r71 r80 r81 r83 r84 r85 r87 r93 r94 r95 x1 = some o) (hq : (mj_u2 (fun r93 => (mj_u2 (fun r94 r95 => Qn none (mj_rows I [(71, r71), (80, r80), (81, r81), (83, r83), (84, r84), (85, r85), (87, r87), (93, r93), (94, r94), (95, r95)]) L)))) o) : mj_W X G RX11 "parts" cX11_parts 5 3 none mj_P0 mj_S0 98 ad 0 0 0 [(0, .ref 71), (1, .int x1)] [] (mj_rows I [(71, r71), (80, r80), (81, r81), (83, r83), (84, r84), (85, r85), (87, r87), (93, r93), (94, r94), (95, r95)]) L := by
  unfold fnX11_parts at hf
  refine mj_iconst dX11_parts_0 kc_iconst_0 ?_
  refine mj_istore_n [(2, .int (0 : Int32)), (0, .ref 71), (1, .int x1)] dX11_parts_1 rfl (by decide) rfl ?_
  refine mj_sub [1, 2, 0] [(0, .ref 71), (1, .int x1), (2, .int (0 : Int32))] rfl ?_
  obtain ⟨r93_24, ho24, hf⟩ := mj_bd hf
  refine lpX11_parts_2 hR F I L r71 r80 r81 r83 r84 r85 r87 r93 r94 r95 x1 F ((0 : Int32), r93) r93_24 ho24 ?_
  refine ?_
  refine mj_iconst dX11_parts_41 kc_iconst_1 ?_
  refine mj_istore_n [(2, .int (1 : Int32)), (0, .ref 71)] dX11_parts_42 rfl (by decide) rfl ?_
  refine mj_sub [1, 0] [(0, .ref 71), (2, .int (1 : Int32))] rfl ?_
  obtain ⟨e25, ho25, hf⟩ := mj_bd hf
  refine lpX11_parts_43 hR F I L r71 r80 r81 r83 r84 r85 r87 r93_24 r94 r95 F ((1 : Int32), r93_24, r94, r95) e25 ho25 ?_
  obtain ⟨r93_25, r94_25, r95_25⟩ := e25
  replace hf := mj_u2e hf
  replace hf := mj_u2e hf
  refine ?_
  refine mj_u2q ?_
  refine mj_u2q ?_
  obtain rfl := Option.some.inj hf
  have hZ := hq
  replace hZ := mj_u2p hZ
  replace hZ := mj_u2p hZ
  exact mj_vret hR ⟨Nat.le_refl _, Nat.le_refl _⟩ rfl dX11_parts_166 hZ
set_option maxRecDepth 100000 in
set_option maxHeartbeats 4000000 in
theorem cmX11_parts (l : Launch) (G : mj_GT) (F : Nat) (x1 : Int32) (I : mj_IT) (L : mj_LT) (r71 : Nat → Int32) (r80 : Nat → Int32) (r81 : Nat → Int32) (r83 : Nat → Int32) (r84 : Nat → Int32) (r85 : Nat → Int32) (r87 : Nat → Int32) (r93 : Nat → Int32) (r94 : Nat → Int32) (r95 : Nat → Int32) (hr71 : I 71 = r71) (hr80 : I 80 = r80) (hr81 : I 81 = r81) (hr83 : I 83 = r83) (hr84 : I 84 = r84) (hr85 : I 85 = r85) (hr87 : I 87 = r87) (hr93 : I 93 = r93) (hr94 : I 94 = r94) (hr95 : I 95 = r95) (o : ((Nat → Int32) × (Nat → Int32) × (Nat → Int32))) (hf : fnX11_parts F r71 r80 r81 r83 r84 r85 r87 r93 r94 r95 x1 = some o) : mj_M l G yX11_parts cX11_parts 5 3 none 0 0 mj_P0 mj_S0 98 [.ref 71, .int x1] I L (mj_qd none (mj_rows I [(71, r71), (80, r80), (81, r81), (83, r83), (84, r84), (85, r85), (87, r87), (93, o.1), (94, o.2.1), (95, o.2.2)]) L) := by
  refine mj_in RX11 "parts" [(0, .ref 71), (1, .int x1)] rfl rfl rfl (by decide) (Nat.le_of_ble_eq_true rfl) (fun X ad hR => ?_)
  refine mj_toI [(71, r71), (80, r80), (81, r81), (83, r83), (84, r84), (85, r85), (87, r87), (93, r93), (94, r94), (95, r95)] (by intro q hq; simp only [List.mem_cons, List.not_mem_nil, or_false] at hq; rcases hq with rfl | rfl | rfl | rfl | rfl | rfl | rfl | rfl | rfl | rfl <;> assumption) ?_
  refine mtX11_parts hR F I L r71 r80 r81 r83 r84 r85 r87 r93 r94 r95 x1 o hf ?_
  obtain ⟨w0, w1, w2⟩ := o
  refine mj_u2q ?_
  refine mj_u2q ?_
  exact ⟨rfl, rfl, rfl⟩

