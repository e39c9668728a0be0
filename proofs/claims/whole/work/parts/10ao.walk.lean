-- X11_laysGrid
def jnX11_laysGrid_37 (F : Nat) (r86 : Nat → Int32) (x1 : Int32) (t1 : Int32) (t2 : Int32) (r71 : Nat → Int32) (r88 : Nat → Int32) : Option (((Int32) × (Nat → Int32) × (Nat → Int32)) ⊕ ((Nat → Int32) × (Nat → Int32))) := (if mj_ib t1 200 = true then (if mj_ib x1 200 = true then (if (r86 x1.toNatClampNeg) = 0 then some (.inl ((x1 + (1)), (upd r71 38 ((r71 38) + (0 : Int32))), (upd r88 t1.toNatClampNeg t2))) else some (.inl ((x1 + (1)), (upd r71 38 ((r71 38) + (1 : Int32))), (upd r88 t1.toNatClampNeg t2)))) else none) else none)
def bdX11_laysGrid_7 (F : Nat) (r86 : Nat → Int32) (x1 : Int32) (r71 : Nat → Int32) (r88 : Nat → Int32) : Option (((Int32) × (Nat → Int32) × (Nat → Int32)) ⊕ ((Nat → Int32) × (Nat → Int32))) := (if (r71 24) ≤ x1 then some (.inr (r71, r88)) else (if mj_ib x1 200 = true then (if (r86 x1.toNatClampNeg) = 0 then jnX11_laysGrid_37 F r86 x1 x1 (-1 : Int32) r71 r88 else jnX11_laysGrid_37 F r86 x1 x1 (r71 38) r71 r88) else none))
def bdX11_laysGrid_69 (F : Nat) (x1 : Int32) (q89 : Nat → Int64) : Option (((Int32) × (Nat → Int64)) ⊕ ((Nat → Int64))) := (if (40200 : Int32) ≤ x1 then some (.inr q89) else (if mj_ib x1 40200 = true then some (.inl ((x1 + (1)), (vp_updL q89 x1.toNatClampNeg (0 : Int64)))) else none))
def bdX11_laysGrid_187 (F : Nat) (r83 : Nat → Int32) (r84 : Nat → Int32) (r85 : Nat → Int32) (r86 : Nat → Int32) (r88 : Nat → Int32) (q97 : Nat → Int64) (x1 : Int32) (x2 : Int32) (q89 : Nat → Int64) : Option (((Int32) × (Nat → Int64)) ⊕ ((Nat → Int64))) := (if mj_ib x1 200 = true then (if (r83 x1.toNatClampNeg) ≤ x2 then some (.inr q89) else (if mj_ib (((10 : Int32) * x1) + x2) 2000 = true then (if mj_ib (r84 ((((10 : Int32) * x1) + x2).toNatClampNeg)) 200 = true then (if (r86 ((r84 ((((10 : Int32) * x1) + x2).toNatClampNeg)).toNatClampNeg)) = 0 then some (.inl ((x2 + (1)), q89)) else (if mj_ib (r84 ((((10 : Int32) * x1) + x2).toNatClampNeg)) 200 = true then (if mj_ib x1 200 = true then (if mj_ib (((201 : Int32) * (r88 ((r84 ((((10 : Int32) * x1) + x2).toNatClampNeg)).toNatClampNeg))) + (r88 x1.toNatClampNeg)) 40200 = true then (if mj_ib (((10 : Int32) * x1) + x2) 2000 = true then (if mj_ib (r85 ((((10 : Int32) * x1) + x2).toNatClampNeg)) 61 = true then (if mj_ib (((201 : Int32) * (r88 ((r84 ((((10 : Int32) * x1) + x2).toNatClampNeg)).toNatClampNeg))) + (r88 x1.toNatClampNeg)) 40200 = true then some (.inl ((x2 + (1)), (vp_updL q89 ((((201 : Int32) * (r88 ((r84 ((((10 : Int32) * x1) + x2).toNatClampNeg)).toNatClampNeg))) + (r88 x1.toNatClampNeg)).toNatClampNeg) ((((q89 ((((201 : Int32) * (r88 ((r84 ((((10 : Int32) * x1) + x2).toNatClampNeg)).toNatClampNeg))) + (r88 x1.toNatClampNeg)).toNatClampNeg)) + (998244353 : Int64)) - (q97 ((r85 ((((10 : Int32) * x1) + x2).toNatClampNeg)).toNatClampNeg))) - (((q89 ((((201 : Int32) * (r88 ((r84 ((((10 : Int32) * x1) + x2).toNatClampNeg)).toNatClampNeg))) + (r88 x1.toNatClampNeg)).toNatClampNeg)) + (998244353 : Int64)) - (q97 ((r85 ((((10 : Int32) * x1) + x2).toNatClampNeg)).toNatClampNeg))) / (998244353 : Int64) * (998244353 : Int64))))) else none) else none) else none) else none) else none) else none)) else none) else none)) else none)
def jnX11_laysGrid_185 (F : Nat) (r71 : Nat → Int32) (r83 : Nat → Int32) (r84 : Nat → Int32) (r85 : Nat → Int32) (r86 : Nat → Int32) (r88 : Nat → Int32) (q97 : Nat → Int64) (x1 : Int32) (q89 : Nat → Int64) : Option (((Int32) × (Nat → Int64)) ⊕ ((Nat → Int64))) := (mj_it (mj_u2 (fun z0 z1 => bdX11_laysGrid_187 F r83 r84 r85 r86 r88 q97 x1 z0 z1)) F ((0 : Int32), q89)).bind (fun q89_20 => some (.inl ((x1 + (1)), q89_20)))
def bdX11_laysGrid_91 (F : Nat) (r71 : Nat → Int32) (r83 : Nat → Int32) (r84 : Nat → Int32) (r85 : Nat → Int32) (r86 : Nat → Int32) (r88 : Nat → Int32) (q97 : Nat → Int64) (x1 : Int32) (q89 : Nat → Int64) : Option (((Int32) × (Nat → Int64)) ⊕ ((Nat → Int64))) := (if (r71 24) ≤ x1 then some (.inr q89) else (if mj_ib x1 200 = true then (if (r86 x1.toNatClampNeg) = 0 then some (.inl ((x1 + (1)), q89)) else (if mj_ib x1 200 = true then (if mj_ib x1 200 = true then (if mj_ib x1 200 = true then (if mj_ib x1 200 = true then (if mj_ib (((201 : Int32) * (r88 x1.toNatClampNeg)) + (r88 x1.toNatClampNeg)) 40200 = true then (if mj_ib (((201 : Int32) * (r88 x1.toNatClampNeg)) + (r88 x1.toNatClampNeg)) 40200 = true then (if x1 = 0 then (if mj_ib x1 200 = true then (if mj_ib (((201 : Int32) * (r88 x1.toNatClampNeg)) + (200 : Int32)) 40200 = true then jnX11_laysGrid_185 F r71 r83 r84 r85 r86 r88 q97 x1 (vp_updL (vp_updL q89 ((((201 : Int32) * (r88 x1.toNatClampNeg)) + (r88 x1.toNatClampNeg)).toNatClampNeg) (((q89 ((((201 : Int32) * (r88 x1.toNatClampNeg)) + (r88 x1.toNatClampNeg)).toNatClampNeg)) + (1 : Int64)) - ((q89 ((((201 : Int32) * (r88 x1.toNatClampNeg)) + (r88 x1.toNatClampNeg)).toNatClampNeg)) + (1 : Int64)) / (998244353 : Int64) * (998244353 : Int64))) ((((201 : Int32) * (r88 x1.toNatClampNeg)) + (200 : Int32)).toNatClampNeg) (1 : Int64)) else none) else none) else jnX11_laysGrid_185 F r71 r83 r84 r85 r86 r88 q97 x1 (vp_updL q89 ((((201 : Int32) * (r88 x1.toNatClampNeg)) + (r88 x1.toNatClampNeg)).toNatClampNeg) (((q89 ((((201 : Int32) * (r88 x1.toNatClampNeg)) + (r88 x1.toNatClampNeg)).toNatClampNeg)) + (1 : Int64)) - ((q89 ((((201 : Int32) * (r88 x1.toNatClampNeg)) + (r88 x1.toNatClampNeg)).toNatClampNeg)) + (1 : Int64)) / (998244353 : Int64) * (998244353 : Int64)))) else none) else none) else none) else none) else none) else none)) else none))
def fnX11_laysGrid (F : Nat) (r71 : Nat → Int32) (r83 : Nat → Int32) (r84 : Nat → Int32) (r85 : Nat → Int32) (r86 : Nat → Int32) (r88 : Nat → Int32) (q89 : Nat → Int64) (q97 : Nat → Int64) : Option ((Nat → Int32) × (Nat → Int32) × (Nat → Int64)) := (mj_it (mj_u2 (fun z0 => (mj_u2 (fun z1 z2 => bdX11_laysGrid_7 F r86 z0 z1 z2)))) F ((0 : Int32), (upd r71 38 (0 : Int32)), r88)).bind (mj_u2 (fun r71_33 r88_33 => (mj_it (mj_u2 (fun z0 z1 => bdX11_laysGrid_69 F z0 z1)) F ((0 : Int32), q89)).bind (fun q89_34 => (mj_it (mj_u2 (fun z0 z1 => bdX11_laysGrid_91 F r71_33 r83 r84 r85 r86 r88_33 q97 z0 z1)) F ((0 : Int32), q89_34)).bind (fun q89_35 => some (r71_33, r88_33, q89_35)))))
set_option maxRecDepth 100000 in
set_option maxHeartbeats 4000000 in
theorem jtX11_laysGrid_37 {X : mj_XT} {l : Launch} {G : mj_GT} {ad : Nat → Nat} {Qn : Option Value → mj_IT → mj_LT → Prop} (hR : mj_R X l G mj_P0 mj_S0 98 ad 0 0 Qn) (F : Nat) (I : mj_IT) (L : mj_LT) (r71 : Nat → Int32) (r83 : Nat → Int32) (r84 : Nat → Int32) (r85 : Nat → Int32) (r86 : Nat → Int32) (r88 : Nat → Int32) (q89 : Nat → Int64) (q97 : Nat → Int64) (x1 : Int32) (t1 : Int32) (t2 : Int32) (o : (((Int32) × (Nat → Int32) × (Nat → Int32)) ⊕ ((Nat → Int32) × (Nat → Int32)))) (hf : jnX11_laysGrid_37 F r86 x1 t1 t2 r71 r88 = some o) (hc : ∀ s2 : ((Int32) × (Nat → Int32) × (Nat → Int32)), o = .inl s2 → (mj_u2 (fun x1 => (mj_u2 (fun r71 r88 => mj_W X G RX11 "laysGrid" cX11_laysGrid 5 1 none mj_P0 mj_S0 98 ad 0 0 7 [(0, .ref 71), (1, .int x1)] [] (mj_rows I [(71, r71), (83, r83), (84, r84), (85, r85), (86, r86), (88, r88)]) (mj_rows L [(89, q89), (97, q97)]))))) s2) (hx : ∀ e2 : ((Nat → Int32) × (Nat → Int32)), o = .inr e2 → (mj_u2 (fun r71 r88 => mj_W X G RX11 "laysGrid" cX11_laysGrid 5 1 none mj_P0 mj_S0 98 ad 0 0 67 [(0, .ref 71)] [] (mj_rows I [(71, r71), (83, r83), (84, r84), (85, r85), (86, r86), (88, r88)]) (mj_rows L [(89, q89), (97, q97)]))) e2) : mj_W X G RX11 "laysGrid" cX11_laysGrid 5 1 none mj_P0 mj_S0 98 ad 0 0 37 [(0, .ref 71), (1, .int x1)] [.int t2, .int t1, .ref 88] (mj_rows I [(71, r71), (83, r83), (84, r84), (85, r85), (86, r86), (88, r88)]) (mj_rows L [(89, q89), (97, q97)]) := by
  unfold jnX11_laysGrid_37 at hf
  obtain ⟨z1, hf⟩ := mj_ck hf
  refine mj_iastr [(71, r71), (83, r83), (84, r84), (85, r85), (86, r86), (88, (upd r88 t1.toNatClampNeg t2))] rfl s0_88 a0_88 z1 dX11_laysGrid_37 ?_
  refine mj_aload_n 0 dX11_laysGrid_38 rfl ?_
  refine mj_dup dX11_laysGrid_39 rfl ?_
  refine mj_getIv (v := (r71 38)) rfl fl_X11_293 rfl s0_71 a0_71 dX11_laysGrid_40 ?_
  refine mj_aload_n 0 dX11_laysGrid_43 rfl ?_
  refine mj_getP p0_71_33 (by decide) fl_X11_275 rfl s0_71 a0_71 dX11_laysGrid_44 ?_
  refine mj_iload_n 1 dX11_laysGrid_47 rfl ?_
  obtain ⟨z2, hf⟩ := mj_ck hf
  refine mj_zaldv (x := r86) rfl s0_86 a0_86 z2 dX11_laysGrid_48 ?_
  refine mj_if_eq 56 dX11_laysGrid_49 (by decide) (fun c3 => ?_) (fun c3 => ?_)
  · replace hf := mj_pos c3 hf
    refine mj_iconst dX11_laysGrid_56 kc_iconst_0 ?_
    refine mj_iadd dX11_laysGrid_57 ?_
    refine mj_putIr (ci := 9) (j := 38) [(71, (upd r71 38 ((r71 38) + (0 : Int32)))), (83, r83), (84, r84), (85, r85), (86, r86), (88, (upd r88 t1.toNatClampNeg t2))] rfl ⟨rfl, rfl⟩ fl_X11_293 rfl rfl s0_71 a0_71 dX11_laysGrid_58 ?_
    refine mj_iinc 1 [(1, .int (x1 + (1))), (0, .ref 71)] dX11_laysGrid_61 rfl (kz_1 _) (by decide) rfl ?_
    refine mj_goto 7 dX11_laysGrid_64 (by decide) ?_
    refine mj_sub [1, 0] [(0, .ref 71), (1, .int (x1 + (1)))] rfl ?_
    obtain rfl := Option.some.inj hf
    have hZ := hc ((x1 + (1)), (upd r71 38 ((r71 38) + (0 : Int32))), (upd r88 t1.toNatClampNeg t2)) rfl
    replace hZ := mj_u2p hZ
    replace hZ := mj_u2p hZ
    exact hZ
  · replace hf := mj_neg c3 hf
    refine mj_iconst dX11_laysGrid_52 kc_iconst_1 ?_
    refine mj_goto 57 dX11_laysGrid_53 (by decide) ?_
    refine mj_iadd dX11_laysGrid_57 ?_
    refine mj_putIr (ci := 9) (j := 38) [(71, (upd r71 38 ((r71 38) + (1 : Int32)))), (83, r83), (84, r84), (85, r85), (86, r86), (88, (upd r88 t1.toNatClampNeg t2))] rfl ⟨rfl, rfl⟩ fl_X11_293 rfl rfl s0_71 a0_71 dX11_laysGrid_58 ?_
    refine mj_iinc 1 [(1, .int (x1 + (1))), (0, .ref 71)] dX11_laysGrid_61 rfl (kz_1 _) (by decide) rfl ?_
    refine mj_goto 7 dX11_laysGrid_64 (by decide) ?_
    refine mj_sub [1, 0] [(0, .ref 71), (1, .int (x1 + (1)))] rfl ?_
    obtain rfl := Option.some.inj hf
    have hZ := hc ((x1 + (1)), (upd r71 38 ((r71 38) + (1 : Int32))), (upd r88 t1.toNatClampNeg t2)) rfl
    replace hZ := mj_u2p hZ
    replace hZ := mj_u2p hZ
    exact hZ
set_option maxRecDepth 100000 in
set_option maxHeartbeats 4000000 in
theorem lpX11_laysGrid_7 {X : mj_XT} {l : Launch} {G : mj_GT} {ad : Nat → Nat} {Qn : Option Value → mj_IT → mj_LT → Prop} (hR : mj_R X l G mj_P0 mj_S0 98 ad 0 0 Qn) (F : Nat) (I : mj_IT) (L : mj_LT) (r71 : Nat → Int32) (r83 : Nat → Int32) (r84 : Nat → Int32) (r85 : Nat → Int32) (r86 : Nat → Int32) (r88 : Nat → Int32) (q89 : Nat → Int64) (q97 : Nat → Int64) : ∀ (n : Nat) (s : ((Int32) × (Nat → Int32) × (Nat → Int32))) (e : ((Nat → Int32) × (Nat → Int32))), mj_it (mj_u2 (fun z0 => (mj_u2 (fun z1 z2 => bdX11_laysGrid_7 F r86 z0 z1 z2)))) n s = some e → (mj_u2 (fun r71 r88 => mj_W X G RX11 "laysGrid" cX11_laysGrid 5 1 none mj_P0 mj_S0 98 ad 0 0 67 [(0, .ref 71)] [] (mj_rows I [(71, r71), (83, r83), (84, r84), (85, r85), (86, r86), (88, r88)]) (mj_rows L [(89, q89), (97, q97)]))) e → (mj_u2 (fun x1 => (mj_u2 (fun r71 r88 => mj_W X G RX11 "laysGrid" cX11_laysGrid 5 1 none mj_P0 mj_S0 98 ad 0 0 7 [(0, .ref 71), (1, .int x1)] [] (mj_rows I [(71, r71), (83, r83), (84, r84), (85, r85), (86, r86), (88, r88)]) (mj_rows L [(89, q89), (97, q97)]))))) s := by
  refine mj_loop (fun s o hf hc hx => ?_)
  obtain ⟨x1, r71, r88⟩ := s
  replace hf := mj_u2e hf
  refine mj_u2q ?_
  replace hf := mj_u2e hf
  refine mj_u2q ?_
  unfold bdX11_laysGrid_7 at hf
  refine mj_iload_n 1 dX11_laysGrid_7 rfl ?_
  refine mj_aload_n 0 dX11_laysGrid_8 rfl ?_
  refine mj_getIv (v := (r71 24)) rfl fl_X11_227 rfl s0_71 a0_71 dX11_laysGrid_9 ?_
  refine mj_icmp_ge 67 dX11_laysGrid_12 (by decide) (fun c4 => ?_) (fun c4 => ?_)
  · replace hf := mj_pos c4 hf
    refine mj_sub [0] [(0, .ref 71)] rfl ?_
    obtain rfl := Option.some.inj hf
    have hZ := hx (r71, r88) rfl
    replace hZ := mj_u2p hZ
    exact hZ
  · replace hf := mj_neg c4 hf
    refine mj_aload_n 0 dX11_laysGrid_15 rfl ?_
    refine mj_getP p0_71_35 (by decide) fl_X11_296 rfl s0_71 a0_71 dX11_laysGrid_16 ?_
    refine mj_iload_n 1 dX11_laysGrid_19 rfl ?_
    refine mj_aload_n 0 dX11_laysGrid_20 rfl ?_
    refine mj_getP p0_71_33 (by decide) fl_X11_275 rfl s0_71 a0_71 dX11_laysGrid_21 ?_
    refine mj_iload_n 1 dX11_laysGrid_24 rfl ?_
    obtain ⟨z5, hf⟩ := mj_ck hf
    refine mj_zaldv (x := r86) rfl s0_86 a0_86 z5 dX11_laysGrid_25 ?_
    refine mj_if_eq 36 dX11_laysGrid_26 (by decide) (fun c6 => ?_) (fun c6 => ?_)
    · replace hf := mj_pos c6 hf
      refine mj_iconst dX11_laysGrid_36 kc_iconst_m1 ?_
      exact jtX11_laysGrid_37 hR F I L r71 r83 r84 r85 r86 r88 q89 q97 x1 x1 (-1 : Int32) o hf hc hx
    · replace hf := mj_neg c6 hf
      refine mj_aload_n 0 dX11_laysGrid_29 rfl ?_
      refine mj_getIv (v := (r71 38)) rfl fl_X11_293 rfl s0_71 a0_71 dX11_laysGrid_30 ?_
      refine mj_goto 37 dX11_laysGrid_33 (by decide) ?_
      exact jtX11_laysGrid_37 hR F I L r71 r83 r84 r85 r86 r88 q89 q97 x1 x1 (r71 38) o hf hc hx
set_option maxRecDepth 100000 in
set_option maxHeartbeats 4000000 in
theorem lpX11_laysGrid_69 {X : mj_XT} {l : Launch} {G : mj_GT} {ad : Nat → Nat} {Qn : Option Value → mj_IT → mj_LT → Prop} (hR : mj_R X l G mj_P0 mj_S0 98 ad 0 0 Qn) (F : Nat) (I : mj_IT) (L : mj_LT) (r71 : Nat → Int32) (r83 : Nat → Int32) (r84 : Nat → Int32) (r85 : Nat → Int32) (r86 : Nat → Int32) (r88 : Nat → Int32) (q89 : Nat → Int64) (q97 : Nat → Int64) : ∀ (n : Nat) (s : ((Int32) × (Nat → Int64))) (e : ((Nat → Int64))), mj_it (mj_u2 (fun z0 z1 => bdX11_laysGrid_69 F z0 z1)) n s = some e → (fun q89 => mj_W X G RX11 "laysGrid" cX11_laysGrid 5 1 none mj_P0 mj_S0 98 ad 0 0 89 [(0, .ref 71)] [] (mj_rows I [(71, r71), (83, r83), (84, r84), (85, r85), (86, r86), (88, r88)]) (mj_rows L [(89, q89), (97, q97)])) e → (mj_u2 (fun x1 q89 => mj_W X G RX11 "laysGrid" cX11_laysGrid 5 1 none mj_P0 mj_S0 98 ad 0 0 69 [(0, .ref 71), (1, .int x1)] [] (mj_rows I [(71, r71), (83, r83), (84, r84), (85, r85), (86, r86), (88, r88)]) (mj_rows L [(89, q89), (97, q97)]))) s := by
  refine mj_loop (fun s o hf hc hx => ?_)
  obtain ⟨x1, q89⟩ := s
  replace hf := mj_u2e hf
  refine mj_u2q ?_
  unfold bdX11_laysGrid_69 at hf
  refine mj_iload_n 1 dX11_laysGrid_69 rfl ?_
  refine mj_ldcw kk_X11_299 dX11_laysGrid_70 ?_
  refine mj_icmp_ge 89 dX11_laysGrid_73 (by decide) (fun c7 => ?_) (fun c7 => ?_)
  · replace hf := mj_pos c7 hf
    refine mj_sub [0] [(0, .ref 71)] rfl ?_
    obtain rfl := Option.some.inj hf
    have hZ := hx q89 rfl
    exact hZ
  · replace hf := mj_neg c7 hf
    refine mj_aload_n 0 dX11_laysGrid_76 rfl ?_
    refine mj_getP p0_71_36 (by decide) fl_X11_300 rfl s0_71 a0_71 dX11_laysGrid_77 ?_
    refine mj_iload_n 1 dX11_laysGrid_80 rfl ?_
    refine mj_lconst (v := 0) dX11_laysGrid_81 (by decide) ?_
    obtain ⟨z8, hf⟩ := mj_ck hf
    refine mj_lastr [(89, (vp_updL q89 x1.toNatClampNeg (0 : Int64))), (97, q97)] rfl s0_89 a0_89 z8 dX11_laysGrid_82 ?_
    refine mj_iinc 1 [(1, .int (x1 + (1))), (0, .ref 71)] dX11_laysGrid_83 rfl (kz_1 _) (by decide) rfl ?_
    refine mj_goto 69 dX11_laysGrid_86 (by decide) ?_
    refine mj_sub [1, 0] [(0, .ref 71), (1, .int (x1 + (1)))] rfl ?_
    obtain rfl := Option.some.inj hf
    have hZ := hc ((x1 + (1)), (vp_updL q89 x1.toNatClampNeg (0 : Int64))) rfl
    replace hZ := mj_u2p hZ
    exact hZ
set_option maxRecDepth 100000 in
set_option maxHeartbeats 4000000 in
theorem lpX11_laysGrid_187 {X : mj_XT} {l : Launch} {G : mj_GT} {ad : Nat → Nat} {Qn : Option Value → mj_IT → mj_LT → Prop} (hR : mj_R X l G mj_P0 mj_S0 98 ad 0 0 Qn) (F : Nat) (I : mj_IT) (L : mj_LT) (r71 : Nat → Int32) (r83 : Nat → Int32) (r84 : Nat → Int32) (r85 : Nat → Int32) (r86 : Nat → Int32) (r88 : Nat → Int32) (q89 : Nat → Int64) (q97 : Nat → Int64) (x1 : Int32) : ∀ (n : Nat) (s : ((Int32) × (Nat → Int64))) (e : ((Nat → Int64))), mj_it (mj_u2 (fun z0 z1 => bdX11_laysGrid_187 F r83 r84 r85 r86 r88 q97 x1 z0 z1)) n s = some e → (fun q89 => mj_W X G RX11 "laysGrid" cX11_laysGrid 5 1 none mj_P0 mj_S0 98 ad 0 0 285 [(0, .ref 71), (1, .int x1)] [] (mj_rows I [(71, r71), (83, r83), (84, r84), (85, r85), (86, r86), (88, r88)]) (mj_rows L [(89, q89), (97, q97)])) e → (mj_u2 (fun x2 q89 => mj_W X G RX11 "laysGrid" cX11_laysGrid 5 1 none mj_P0 mj_S0 98 ad 0 0 187 [(0, .ref 71), (1, .int x1), (2, .int x2)] [] (mj_rows I [(71, r71), (83, r83), (84, r84), (85, r85), (86, r86), (88, r88)]) (mj_rows L [(89, q89), (97, q97)]))) s := by
  refine mj_loop (fun s o hf hc hx => ?_)
  obtain ⟨x2, q89⟩ := s
  replace hf := mj_u2e hf
  refine mj_u2q ?_
  unfold bdX11_laysGrid_187 at hf
  refine mj_iload_n 2 dX11_laysGrid_187 rfl ?_
  refine mj_aload_n 0 dX11_laysGrid_188 rfl ?_
  refine mj_getP p0_71_30 (by decide) fl_X11_251 rfl s0_71 a0_71 dX11_laysGrid_189 ?_
  refine mj_iload_n 1 dX11_laysGrid_192 rfl ?_
  obtain ⟨z9, hf⟩ := mj_ck hf
  refine mj_ialdv (x := r83) rfl s0_83 a0_83 z9 dX11_laysGrid_193 ?_
  refine mj_icmp_ge 285 dX11_laysGrid_194 (by decide) (fun c10 => ?_) (fun c10 => ?_)
  · replace hf := mj_pos c10 hf
    refine mj_sub [0, 1] [(0, .ref 71), (1, .int x1)] rfl ?_
    obtain rfl := Option.some.inj hf
    have hZ := hx q89 rfl
    exact hZ
  · replace hf := mj_neg c10 hf
    refine mj_aload_n 0 dX11_laysGrid_197 rfl ?_
    refine mj_getP p0_71_31 (by decide) fl_X11_248 rfl s0_71 a0_71 dX11_laysGrid_198 ?_
    refine mj_bipush dX11_laysGrid_201 kc_bipush_10 ?_
    refine mj_iload_n 1 dX11_laysGrid_203 rfl ?_
    refine mj_imul dX11_laysGrid_204 ?_
    refine mj_iload_n 2 dX11_laysGrid_205 rfl ?_
    refine mj_iadd dX11_laysGrid_206 ?_
    obtain ⟨z11, hf⟩ := mj_ck hf
    refine mj_ialdv (x := r84) rfl s0_84 a0_84 z11 dX11_laysGrid_207 ?_
    refine mj_istore_n [(3, .int (r84 ((((10 : Int32) * x1) + x2).toNatClampNeg))), (0, .ref 71), (1, .int x1), (2, .int x2)] dX11_laysGrid_208 rfl (by decide) rfl ?_
    refine mj_aload_n 1 dX11_laysGrid_209 rfl ?_
    refine mj_getP p0_71_33 (by decide) fl_X11_275 rfl s0_71 a0_71 dX11_laysGrid_210 ?_
    refine mj_iload_n 0 dX11_laysGrid_213 rfl ?_
    obtain ⟨z12, hf⟩ := mj_ck hf
    refine mj_zaldv (x := r86) rfl s0_86 a0_86 z12 dX11_laysGrid_214 ?_
    refine mj_if_ne 221 dX11_laysGrid_215 (by decide) (fun c13 => ?_) (fun c13 => ?_)
    · replace hf := mj_neg c13 hf
      refine mj_sipush dX11_laysGrid_221 kc_sipush_201 ?_
      refine mj_aload_n 1 dX11_laysGrid_224 rfl ?_
      refine mj_getP p0_71_35 (by decide) fl_X11_296 rfl s0_71 a0_71 dX11_laysGrid_225 ?_
      refine mj_iload_n 0 dX11_laysGrid_228 rfl ?_
      obtain ⟨z14, hf⟩ := mj_ck hf
      refine mj_ialdv (x := r88) rfl s0_88 a0_88 z14 dX11_laysGrid_229 ?_
      refine mj_imul dX11_laysGrid_230 ?_
      refine mj_aload_n 1 dX11_laysGrid_231 rfl ?_
      refine mj_getP p0_71_35 (by decide) fl_X11_296 rfl s0_71 a0_71 dX11_laysGrid_232 ?_
      refine mj_iload_n 2 dX11_laysGrid_235 rfl ?_
      obtain ⟨z15, hf⟩ := mj_ck hf
      refine mj_ialdv (x := r88) rfl s0_88 a0_88 z15 dX11_laysGrid_236 ?_
      refine mj_iadd dX11_laysGrid_237 ?_
      refine mj_istore [(4, .int (((201 : Int32) * (r88 ((r84 ((((10 : Int32) * x1) + x2).toNatClampNeg)).toNatClampNeg))) + (r88 x1.toNatClampNeg))), (3, .int (r84 ((((10 : Int32) * x1) + x2).toNatClampNeg))), (0, .ref 71), (1, .int x1), (2, .int x2)] dX11_laysGrid_238 (by decide) rfl ?_
      refine mj_aload_n 2 dX11_laysGrid_240 rfl ?_
      refine mj_getP p0_71_36 (by decide) fl_X11_300 rfl s0_71 a0_71 dX11_laysGrid_241 ?_
      refine mj_iload 0 dX11_laysGrid_244 rfl ?_
      refine mj_aload_n 2 dX11_laysGrid_246 rfl ?_
      refine mj_getP p0_71_36 (by decide) fl_X11_300 rfl s0_71 a0_71 dX11_laysGrid_247 ?_
      refine mj_iload 0 dX11_laysGrid_250 rfl ?_
      obtain ⟨z16, hf⟩ := mj_ck hf
      refine mj_laldv (x := q89) rfl s0_89 a0_89 z16 dX11_laysGrid_252 ?_
      refine mj_ldc2 kk_X11_279 dX11_laysGrid_253 ?_
      refine mj_ladd dX11_laysGrid_256 ?_
      refine mj_aload_n 2 dX11_laysGrid_257 rfl ?_
      refine mj_getP p0_71_45 (by decide) fl_X11_304 rfl s0_71 a0_71 dX11_laysGrid_258 ?_
      refine mj_aload_n 2 dX11_laysGrid_261 rfl ?_
      refine mj_getP p0_71_32 (by decide) fl_X11_254 rfl s0_71 a0_71 dX11_laysGrid_262 ?_
      refine mj_bipush dX11_laysGrid_265 kc_bipush_10 ?_
      refine mj_iload_n 3 dX11_laysGrid_267 rfl ?_
      refine mj_imul dX11_laysGrid_268 ?_
      refine mj_iload_n 4 dX11_laysGrid_269 rfl ?_
      refine mj_iadd dX11_laysGrid_270 ?_
      obtain ⟨z17, hf⟩ := mj_ck hf
      refine mj_ialdv (x := r85) rfl s0_85 a0_85 z17 dX11_laysGrid_271 ?_
      obtain ⟨z18, hf⟩ := mj_ck hf
      refine mj_laldv (x := q97) rfl s0_97 a0_97 z18 dX11_laysGrid_272 ?_
      refine mj_lsub dX11_laysGrid_273 ?_
      refine mj_ldc2 kk_X11_279 dX11_laysGrid_274 ?_
      refine mj_lrem dX11_laysGrid_277 (by decide) ?_
      obtain ⟨z19, hf⟩ := mj_ck hf
      refine mj_lastr [(89, (vp_updL q89 ((((201 : Int32) * (r88 ((r84 ((((10 : Int32) * x1) + x2).toNatClampNeg)).toNatClampNeg))) + (r88 x1.toNatClampNeg)).toNatClampNeg) ((((q89 ((((201 : Int32) * (r88 ((r84 ((((10 : Int32) * x1) + x2).toNatClampNeg)).toNatClampNeg))) + (r88 x1.toNatClampNeg)).toNatClampNeg)) + (998244353 : Int64)) - (q97 ((r85 ((((10 : Int32) * x1) + x2).toNatClampNeg)).toNatClampNeg))) - (((q89 ((((201 : Int32) * (r88 ((r84 ((((10 : Int32) * x1) + x2).toNatClampNeg)).toNatClampNeg))) + (r88 x1.toNatClampNeg)).toNatClampNeg)) + (998244353 : Int64)) - (q97 ((r85 ((((10 : Int32) * x1) + x2).toNatClampNeg)).toNatClampNeg))) / (998244353 : Int64) * (998244353 : Int64)))), (97, q97)] rfl s0_89 a0_89 z19 dX11_laysGrid_278 ?_
      refine mj_iinc 4 [(2, .int (x2 + (1))), (4, .int (((201 : Int32) * (r88 ((r84 ((((10 : Int32) * x1) + x2).toNatClampNeg)).toNatClampNeg))) + (r88 x1.toNatClampNeg))), (3, .int (r84 ((((10 : Int32) * x1) + x2).toNatClampNeg))), (0, .ref 71), (1, .int x1)] dX11_laysGrid_279 rfl (kz_1 _) (by decide) rfl ?_
      refine mj_goto 187 dX11_laysGrid_282 (by decide) ?_
      refine mj_sub [3, 4, 0] [(0, .ref 71), (1, .int x1), (2, .int (x2 + (1)))] rfl ?_
      obtain rfl := Option.some.inj hf
      have hZ := hc ((x2 + (1)), (vp_updL q89 ((((201 : Int32) * (r88 ((r84 ((((10 : Int32) * x1) + x2).toNatClampNeg)).toNatClampNeg))) + (r88 x1.toNatClampNeg)).toNatClampNeg) ((((q89 ((((201 : Int32) * (r88 ((r84 ((((10 : Int32) * x1) + x2).toNatClampNeg)).toNatClampNeg))) + (r88 x1.toNatClampNeg)).toNatClampNeg)) + (998244353 : Int64)) - (q97 ((r85 ((((10 : Int32) * x1) + x2).toNatClampNeg)).toNatClampNeg))) - (((q89 ((((201 : Int32) * (r88 ((r84 ((((10 : Int32) * x1) + x2).toNatClampNeg)).toNatClampNeg))) + (r88 x1.toNatClampNeg)).toNatClampNeg)) + (998244353 : Int64)) - (q97 ((r85 ((((10 : Int32) * x1) + x2).toNatClampNeg)).toNatClampNeg))) / (998244353 : Int64) * (998244353 : Int64)))) rfl
      replace hZ := mj_u2p hZ
      exact hZ
    · replace hf := mj_pos c13 hf
      refine mj_goto 279 dX11_laysGrid_218 (by decide) ?_
      refine mj_iinc 3 [(2, .int (x2 + (1))), (3, .int (r84 ((((10 : Int32) * x1) + x2).toNatClampNeg))), (0, .ref 71), (1, .int x1)] dX11_laysGrid_279 rfl (kz_1 _) (by decide) rfl ?_
      refine mj_goto 187 dX11_laysGrid_282 (by decide) ?_
      refine mj_sub [2, 3, 0] [(0, .ref 71), (1, .int x1), (2, .int (x2 + (1)))] rfl ?_
      obtain rfl := Option.some.inj hf
      have hZ := hc ((x2 + (1)), q89) rfl
      replace hZ := mj_u2p hZ
      exact hZ
set_option maxRecDepth 100000 in
set_option maxHeartbeats 4000000 in
theorem jtX11_laysGrid_185 {X : mj_XT} {l : Launch} {G : mj_GT} {ad : Nat → Nat} {Qn : Option Value → mj_IT → mj_LT → Prop} (hR : mj_R X l G mj_P0 mj_S0 98 ad 0 0 Qn) (F : Nat) (I : mj_IT) (L : mj_LT) (r71 : Nat → Int32) (r83 : Nat → Int32) (r84 : Nat → Int32) (r85 : Nat → Int32) (r86 : Nat → Int32) (r88 : Nat → Int32) (q89 : Nat → Int64) (q97 : Nat → Int64) (x1 : Int32) (o : (((Int32) × (Nat → Int64)) ⊕ ((Nat → Int64)))) (hf : jnX11_laysGrid_185 F r71 r83 r84 r85 r86 r88 q97 x1 q89 = some o) (hc : ∀ s2 : ((Int32) × (Nat → Int64)), o = .inl s2 → (mj_u2 (fun x1 q89 => mj_W X G RX11 "laysGrid" cX11_laysGrid 5 1 none mj_P0 mj_S0 98 ad 0 0 91 [(0, .ref 71), (1, .int x1)] [] (mj_rows I [(71, r71), (83, r83), (84, r84), (85, r85), (86, r86), (88, r88)]) (mj_rows L [(89, q89), (97, q97)]))) s2) (hx : ∀ e2 : ((Nat → Int64)), o = .inr e2 → (fun q89 => mj_W X G RX11 "laysGrid" cX11_laysGrid 5 1 none mj_P0 mj_S0 98 ad 0 0 291 [] [] (mj_rows I [(71, r71), (83, r83), (84, r84), (85, r85), (86, r86), (88, r88)]) (mj_rows L [(89, q89), (97, q97)])) e2) : mj_W X G RX11 "laysGrid" cX11_laysGrid 5 1 none mj_P0 mj_S0 98 ad 0 0 185 [(0, .ref 71), (1, .int x1)] [] (mj_rows I [(71, r71), (83, r83), (84, r84), (85, r85), (86, r86), (88, r88)]) (mj_rows L [(89, q89), (97, q97)]) := by
  unfold jnX11_laysGrid_185 at hf
  refine mj_iconst dX11_laysGrid_185 kc_iconst_0 ?_
  refine mj_istore_n [(2, .int (0 : Int32)), (0, .ref 71), (1, .int x1)] dX11_laysGrid_186 rfl (by decide) rfl ?_
  refine mj_sub [1, 2, 0] [(0, .ref 71), (1, .int x1), (2, .int (0 : Int32))] rfl ?_
  obtain ⟨q89_20, ho20, hf⟩ := mj_bd hf
  refine lpX11_laysGrid_187 hR F I L r71 r83 r84 r85 r86 r88 q89 q97 x1 F ((0 : Int32), q89) q89_20 ho20 ?_
  refine ?_
  refine mj_iinc 1 [(1, .int (x1 + (1))), (0, .ref 71)] dX11_laysGrid_285 rfl (kz_1 _) (by decide) rfl ?_
  refine mj_goto 91 dX11_laysGrid_288 (by decide) ?_
  refine mj_sub [1, 0] [(0, .ref 71), (1, .int (x1 + (1)))] rfl ?_
  obtain rfl := Option.some.inj hf
  have hZ := hc ((x1 + (1)), q89_20) rfl
  replace hZ := mj_u2p hZ
  exact hZ
set_option maxRecDepth 100000 in
set_option maxHeartbeats 4000000 in
theorem lpX11_laysGrid_91 {X : mj_XT} {l : Launch} {G : mj_GT} {ad : Nat → Nat} {Qn : Option Value → mj_IT → mj_LT → Prop} (hR : mj_R X l G mj_P0 mj_S0 98 ad 0 0 Qn) (F : Nat) (I : mj_IT) (L : mj_LT) (r71 : Nat → Int32) (r83 : Nat → Int32) (r84 : Nat → Int32) (r85 : Nat → Int32) (r86 : Nat → Int32) (r88 : Nat → Int32) (q89 : Nat → Int64) (q97 : Nat → Int64) : ∀ (n : Nat) (s : ((Int32) × (Nat → Int64))) (e : ((Nat → Int64))), mj_it (mj_u2 (fun z0 z1 => bdX11_laysGrid_91 F r71 r83 r84 r85 r86 r88 q97 z0 z1)) n s = some e → (fun q89 => mj_W X G RX11 "laysGrid" cX11_laysGrid 5 1 none mj_P0 mj_S0 98 ad 0 0 291 [] [] (mj_rows I [(71, r71), (83, r83), (84, r84), (85, r85), (86, r86), (88, r88)]) (mj_rows L [(89, q89), (97, q97)])) e → (mj_u2 (fun x1 q89 => mj_W X G RX11 "laysGrid" cX11_laysGrid 5 1 none mj_P0 mj_S0 98 ad 0 0 91 [(0, .ref 71), (1, .int x1)] [] (mj_rows I [(71, r71), (83, r83), (84, r84), (85, r85), (86, r86), (88, r88)]) (mj_rows L [(89, q89), (97, q97)]))) s := by
  refine mj_loop (fun s o hf hc hx => ?_)
  obtain ⟨x1, q89⟩ := s
  replace hf := mj_u2e hf
  refine mj_u2q ?_
  unfold bdX11_laysGrid_91 at hf
  refine mj_iload_n 1 dX11_laysGrid_91 rfl ?_
  refine mj_aload_n 0 dX11_laysGrid_92 rfl ?_
  refine mj_getIv (v := (r71 24)) rfl fl_X11_227 rfl s0_71 a0_71 dX11_laysGrid_93 ?_
  refine mj_icmp_ge 291 dX11_laysGrid_96 (by decide) (fun c21 => ?_) (fun c21 => ?_)
  · replace hf := mj_pos c21 hf
    refine mj_sub [] [] rfl ?_
    obtain rfl := Option.some.inj hf
    have hZ := hx q89 rfl
    exact hZ
  · replace hf := mj_neg c21 hf
    refine mj_aload_n 0 dX11_laysGrid_99 rfl ?_
    refine mj_getP p0_71_33 (by decide) fl_X11_275 rfl s0_71 a0_71 dX11_laysGrid_100 ?_
    refine mj_iload_n 1 dX11_laysGrid_103 rfl ?_
    obtain ⟨z22, hf⟩ := mj_ck hf
    refine mj_zaldv (x := r86) rfl s0_86 a0_86 z22 dX11_laysGrid_104 ?_
    refine mj_if_ne 111 dX11_laysGrid_105 (by decide) (fun c23 => ?_) (fun c23 => ?_)
    · replace hf := mj_neg c23 hf
      refine mj_aload_n 0 dX11_laysGrid_111 rfl ?_
      refine mj_getP p0_71_36 (by decide) fl_X11_300 rfl s0_71 a0_71 dX11_laysGrid_112 ?_
      refine mj_sipush dX11_laysGrid_115 kc_sipush_201 ?_
      refine mj_aload_n 0 dX11_laysGrid_118 rfl ?_
      refine mj_getP p0_71_35 (by decide) fl_X11_296 rfl s0_71 a0_71 dX11_laysGrid_119 ?_
      refine mj_iload_n 1 dX11_laysGrid_122 rfl ?_
      obtain ⟨z24, hf⟩ := mj_ck hf
      refine mj_ialdv (x := r88) rfl s0_88 a0_88 z24 dX11_laysGrid_123 ?_
      refine mj_imul dX11_laysGrid_124 ?_
      refine mj_aload_n 0 dX11_laysGrid_125 rfl ?_
      refine mj_getP p0_71_35 (by decide) fl_X11_296 rfl s0_71 a0_71 dX11_laysGrid_126 ?_
      refine mj_iload_n 1 dX11_laysGrid_129 rfl ?_
      obtain ⟨z25, hf⟩ := mj_ck hf
      refine mj_ialdv (x := r88) rfl s0_88 a0_88 z25 dX11_laysGrid_130 ?_
      refine mj_iadd dX11_laysGrid_131 ?_
      refine mj_aload_n 0 dX11_laysGrid_132 rfl ?_
      refine mj_getP p0_71_36 (by decide) fl_X11_300 rfl s0_71 a0_71 dX11_laysGrid_133 ?_
      refine mj_sipush dX11_laysGrid_136 kc_sipush_201 ?_
      refine mj_aload_n 0 dX11_laysGrid_139 rfl ?_
      refine mj_getP p0_71_35 (by decide) fl_X11_296 rfl s0_71 a0_71 dX11_laysGrid_140 ?_
      refine mj_iload_n 1 dX11_laysGrid_143 rfl ?_
      obtain ⟨z26, hf⟩ := mj_ck hf
      refine mj_ialdv (x := r88) rfl s0_88 a0_88 z26 dX11_laysGrid_144 ?_
      refine mj_imul dX11_laysGrid_145 ?_
      refine mj_aload_n 0 dX11_laysGrid_146 rfl ?_
      refine mj_getP p0_71_35 (by decide) fl_X11_296 rfl s0_71 a0_71 dX11_laysGrid_147 ?_
      refine mj_iload_n 1 dX11_laysGrid_150 rfl ?_
      obtain ⟨z27, hf⟩ := mj_ck hf
      refine mj_ialdv (x := r88) rfl s0_88 a0_88 z27 dX11_laysGrid_151 ?_
      refine mj_iadd dX11_laysGrid_152 ?_
      obtain ⟨z28, hf⟩ := mj_ck hf
      refine mj_laldv (x := q89) rfl s0_89 a0_89 z28 dX11_laysGrid_153 ?_
      refine mj_lconst (v := 1) dX11_laysGrid_154 (by decide) ?_
      refine mj_ladd dX11_laysGrid_155 ?_
      refine mj_ldc2 kk_X11_279 dX11_laysGrid_156 ?_
      refine mj_lrem dX11_laysGrid_159 (by decide) ?_
      obtain ⟨z29, hf⟩ := mj_ck hf
      refine mj_lastr [(89, (vp_updL q89 ((((201 : Int32) * (r88 x1.toNatClampNeg)) + (r88 x1.toNatClampNeg)).toNatClampNeg) (((q89 ((((201 : Int32) * (r88 x1.toNatClampNeg)) + (r88 x1.toNatClampNeg)).toNatClampNeg)) + (1 : Int64)) - ((q89 ((((201 : Int32) * (r88 x1.toNatClampNeg)) + (r88 x1.toNatClampNeg)).toNatClampNeg)) + (1 : Int64)) / (998244353 : Int64) * (998244353 : Int64)))), (97, q97)] rfl s0_89 a0_89 z29 dX11_laysGrid_160 ?_
      refine mj_iload_n 1 dX11_laysGrid_161 rfl ?_
      refine mj_if_ne 185 dX11_laysGrid_162 (by decide) (fun c30 => ?_) (fun c30 => ?_)
      · replace hf := mj_neg c30 hf
        exact jtX11_laysGrid_185 hR F I L r71 r83 r84 r85 r86 r88 (vp_updL q89 ((((201 : Int32) * (r88 x1.toNatClampNeg)) + (r88 x1.toNatClampNeg)).toNatClampNeg) (((q89 ((((201 : Int32) * (r88 x1.toNatClampNeg)) + (r88 x1.toNatClampNeg)).toNatClampNeg)) + (1 : Int64)) - ((q89 ((((201 : Int32) * (r88 x1.toNatClampNeg)) + (r88 x1.toNatClampNeg)).toNatClampNeg)) + (1 : Int64)) / (998244353 : Int64) * (998244353 : Int64))) q97 x1 o hf hc hx
      · replace hf := mj_pos c30 hf
        refine mj_aload_n 0 dX11_laysGrid_165 rfl ?_
        refine mj_getP p0_71_36 (by decide) fl_X11_300 rfl s0_71 a0_71 dX11_laysGrid_166 ?_
        refine mj_sipush dX11_laysGrid_169 kc_sipush_201 ?_
        refine mj_aload_n 0 dX11_laysGrid_172 rfl ?_
        refine mj_getP p0_71_35 (by decide) fl_X11_296 rfl s0_71 a0_71 dX11_laysGrid_173 ?_
        refine mj_iload_n 1 dX11_laysGrid_176 rfl ?_
        obtain ⟨z31, hf⟩ := mj_ck hf
        refine mj_ialdv (x := r88) rfl s0_88 a0_88 z31 dX11_laysGrid_177 ?_
        refine mj_imul dX11_laysGrid_178 ?_
        refine mj_sipush dX11_laysGrid_179 kc_sipush_200 ?_
        refine mj_iadd dX11_laysGrid_182 ?_
        refine mj_lconst (v := 1) dX11_laysGrid_183 (by decide) ?_
        obtain ⟨z32, hf⟩ := mj_ck hf
        refine mj_lastr [(89, (vp_updL (vp_updL q89 ((((201 : Int32) * (r88 x1.toNatClampNeg)) + (r88 x1.toNatClampNeg)).toNatClampNeg) (((q89 ((((201 : Int32) * (r88 x1.toNatClampNeg)) + (r88 x1.toNatClampNeg)).toNatClampNeg)) + (1 : Int64)) - ((q89 ((((201 : Int32) * (r88 x1.toNatClampNeg)) + (r88 x1.toNatClampNeg)).toNatClampNeg)) + (1 : Int64)) / (998244353 : Int64) * (998244353 : Int64))) ((((201 : Int32) * (r88 x1.toNatClampNeg)) + (200 : Int32)).toNatClampNeg) (1 : Int64))), (97, q97)] rfl s0_89 a0_89 z32 dX11_laysGrid_184 ?_
        exact jtX11_laysGrid_185 hR F I L r71 r83 r84 r85 r86 r88 (vp_updL (vp_updL q89 ((((201 : Int32) * (r88 x1.toNatClampNeg)) + (r88 x1.toNatClampNeg)).toNatClampNeg) (((q89 ((((201 : Int32) * (r88 x1.toNatClampNeg)) + (r88 x1.toNatClampNeg)).toNatClampNeg)) + (1 : Int64)) - ((q89 ((((201 : Int32) * (r88 x1.toNatClampNeg)) + (r88 x1.toNatClampNeg)).toNatClampNeg)) + (1 : Int64)) / (998244353 : Int64) * (998244353 : Int64))) ((((201 : Int32) * (r88 x1.toNatClampNeg)) + (200 : Int32)).toNatClampNeg) (1 : Int64)) q97 x1 o hf hc hx
    · replace hf := mj_pos c23 hf
      refine mj_goto 285 dX11_laysGrid_108 (by decide) ?_
      refine mj_iinc 1 [(1, .int (x1 + (1))), (0, .ref 71)] dX11_laysGrid_285 rfl (kz_1 _) (by decide) rfl ?_
      refine mj_goto 91 dX11_laysGrid_288 (by decide) ?_
      refine mj_sub [1, 0] [(0, .ref 71), (1, .int (x1 + (1)))] rfl ?_
      obtain rfl := Option.some.inj hf
      have hZ := hc ((x1 + (1)), q89) rfl
      replace hZ := mj_u2p hZ
      exact hZ
set_option maxRecDepth 100000 in
set_option maxHeartbeats 4000000 in
theorem mtX11_laysGrid {X : mj_XT} {l : Launch} {G : mj_GT} {ad : Nat → Nat} {Qn : Option Value → mj_IT → mj_LT → Prop} (hR : mj_R X l G mj_P0 mj_S0 98 ad 0 0 Qn) (F : Nat) (I : mj_IT) (L : mj_LT) (r71 : Nat → Int32) (r83 : Nat → Int32) (r84 : Nat → Int32) (r85 : Nat → Int32) (r86 : Nat → Int32) (r88 : Nat → Int32) (q89 : Nat → Int64) (q97 : Nat → Int64) (o : ((Nat → Int32) × (Nat → Int32) × (Nat → Int64))) (hf : fnX11_laysGrid F r71 r83 r84 r85 r86 r88 q89 q97 = some o) (hq : (mj_u2 (fun r71 => (mj_u2 (fun r88 q89 => Qn none (mj_rows I [(71, r71), (83, r83), (84, r84), (85, r85), (86, r86), (88, r88)]) (mj_rows L [(89, q89), (97, q97)]))))) o) : mj_W X G RX11 "laysGrid" cX11_laysGrid 5 1 none mj_P0 mj_S0 98 ad 0 0 0 [(0, .ref 71)] [] (mj_rows I [(71, r71), (83, r83), (84, r84), (85, r85), (86, r86), (88, r88)]) (mj_rows L [(89, q89), (97, q97)]) := by
  unfold fnX11_laysGrid at hf
  refine mj_aload_n 0 dX11_laysGrid_0 rfl ?_
  refine mj_iconst dX11_laysGrid_1 kc_iconst_0 ?_
  refine mj_putIr (ci := 9) (j := 38) [(71, (upd r71 38 (0 : Int32))), (83, r83), (84, r84), (85, r85), (86, r86), (88, r88)] rfl ⟨rfl, rfl⟩ fl_X11_293 rfl rfl s0_71 a0_71 dX11_laysGrid_2 ?_
  refine mj_iconst dX11_laysGrid_5 kc_iconst_0 ?_
  refine mj_istore_n [(1, .int (0 : Int32)), (0, .ref 71)] dX11_laysGrid_6 rfl (by decide) rfl ?_
  refine mj_sub [1, 0] [(0, .ref 71), (1, .int (0 : Int32))] rfl ?_
  obtain ⟨e33, ho33, hf⟩ := mj_bd hf
  refine lpX11_laysGrid_7 hR F I L (upd r71 38 (0 : Int32)) r83 r84 r85 r86 r88 q89 q97 F ((0 : Int32), (upd r71 38 (0 : Int32)), r88) e33 ho33 ?_
  obtain ⟨r71_33, r88_33⟩ := e33
  replace hf := mj_u2e hf
  refine ?_
  refine mj_u2q ?_
  refine mj_iconst dX11_laysGrid_67 kc_iconst_0 ?_
  refine mj_istore_n [(1, .int (0 : Int32)), (0, .ref 71)] dX11_laysGrid_68 rfl (by decide) rfl ?_
  refine mj_sub [1, 0] [(0, .ref 71), (1, .int (0 : Int32))] rfl ?_
  obtain ⟨q89_34, ho34, hf⟩ := mj_bd hf
  refine lpX11_laysGrid_69 hR F I L r71_33 r83 r84 r85 r86 r88_33 q89 q97 F ((0 : Int32), q89) q89_34 ho34 ?_
  refine ?_
  refine mj_iconst dX11_laysGrid_89 kc_iconst_0 ?_
  refine mj_istore_n [(1, .int (0 : Int32)), (0, .ref 71)] dX11_laysGrid_90 rfl (by decide) rfl ?_
  refine mj_sub [1, 0] [(0, .ref 71), (1, .int (0 : Int32))] rfl ?_
  obtain ⟨q89_35, ho35, hf⟩ := mj_bd hf
  refine lpX11_laysGrid_91 hR F I L r71_33 r83 r84 r85 r86 r88_33 q89_34 q97 F ((0 : Int32), q89_34) q89_35 ho35 ?_
  refine ?_
  obtain rfl := Option.some.inj hf
  have hZ := hq
  replace hZ := mj_u2p hZ
  replace hZ := mj_u2p hZ
  exact mj_vret hR ⟨Nat.le_refl _, Nat.le_refl _⟩ rfl dX11_laysGrid_291 hZ
set_option maxRecDepth 100000 in
set_option maxHeartbeats 4000000 in
theorem cmX11_laysGrid (l : Launch) (G : mj_GT) (F : Nat) (I : mj_IT) (L : mj_LT) (r71 : Nat → Int32) (r83 : Nat → Int32) (r84 : Nat → Int32) (r85 : Nat → Int32) (r86 : Nat → Int32) (r88 : Nat → Int32) (q89 : Nat → Int64) (q97 : Nat → Int64) (hr71 : I 71 = r71) (hr83 : I 83 = r83) (hr84 : I 84 = r84) (hr85 : I 85 = r85) (hr86 : I 86 = r86) (hr88 : I 88 = r88) (hq89 : L 89 = q89) (hq97 : L 97 = q97) (o : ((Nat → Int32) × (Nat → Int32) × (Nat → Int64))) (hf : fnX11_laysGrid F r71 r83 r84 r85 r86 r88 q89 q97 = some o) : mj_M l G yX11_laysGrid cX11_laysGrid 5 1 none 0 0 mj_P0 mj_S0 98 [.ref 71] I L (mj_qd none (mj_rows I [(71, o.1), (83, r83), (84, r84), (85, r85), (86, r86), (88, o.2.1)]) (mj_rows L [(89, o.2.2), (97, q97)])) := by
  refine mj_in RX11 "laysGrid" [(0, .ref 71)] rfl rfl rfl (by decide) (Nat.le_of_ble_eq_true rfl) (fun X ad hR => ?_)
  refine mj_toI [(71, r71), (83, r83), (84, r84), (85, r85), (86, r86), (88, r88)] (by intro q hq; simp only [List.mem_cons, List.not_mem_nil, or_false] at hq; rcases hq with rfl | rfl | rfl | rfl | rfl | rfl <;> assumption) ?_
  refine mj_toL [(89, q89), (97, q97)] (by intro q hq; simp only [List.mem_cons, List.not_mem_nil, or_false] at hq; rcases hq with rfl | rfl <;> assumption) ?_
  refine mtX11_laysGrid hR F I L r71 r83 r84 r85 r86 r88 q89 q97 o hf ?_
  obtain ⟨w0, w1, w2⟩ := o
  refine mj_u2q ?_
  refine mj_u2q ?_
  exact ⟨rfl, rfl, rfl⟩

-- X11_simple
def bdX11_simple_12 (F : Nat) (r71 : Nat → Int32) (q89 : Nat → Int64) (x1 : Int32) (x2 : Int32) : Option (((Int32)) ⊕ ((Int32))) := (if (r71 38) ≤ x2 then some (.inr x2) else (if mj_ib (((201 : Int32) * x2) + x1) 40200 = true then (if (q89 ((((201 : Int32) * x2) + x1).toNatClampNeg)) = (0 : Int64) then some (.inl (x2 + (1))) else some (.inr x2)) else none))
def bdX11_simple_55 (F : Nat) (x1 : Int32) (x2 : Int32) (x3 : Int32) (q89 : Nat → Int64) : Option (((Int32) × (Nat → Int64)) ⊕ ((Nat → Int64))) := (if (201 : Int32) ≤ x3 then some (.inr q89) else (if mj_ib (((201 : Int32) * x1) + x3) 40200 = true then (if mj_ib (((201 : Int32) * x2) + x3) 40200 = true then (if mj_ib (((201 : Int32) * x1) + x3) 40200 = true then (if mj_ib (((201 : Int32) * x2) + x3) 40200 = true then some (.inl ((x3 + (1)), (vp_updL (vp_updL q89 ((((201 : Int32) * x1) + x3).toNatClampNeg) (q89 ((((201 : Int32) * x2) + x3).toNatClampNeg))) ((((201 : Int32) * x2) + x3).toNatClampNeg) (q89 ((((201 : Int32) * x1) + x3).toNatClampNeg))))) else none) else none) else none) else none))
def bdX11_simple_139 (F : Nat) (x1 : Int32) (x3 : Int64) (x5 : Int32) (q89 : Nat → Int64) : Option (((Int32) × (Nat → Int64)) ⊕ ((Nat → Int64))) := (if (201 : Int32) ≤ x5 then some (.inr q89) else (if mj_ib (((201 : Int32) * x1) + x5) 40200 = true then (if mj_ib (((201 : Int32) * x1) + x5) 40200 = true then some (.inl ((x5 + (1)), (vp_updL q89 ((((201 : Int32) * x1) + x5).toNatClampNeg) (((q89 ((((201 : Int32) * x1) + x5).toNatClampNeg)) * x3) - ((q89 ((((201 : Int32) * x1) + x5).toNatClampNeg)) * x3) / (998244353 : Int64) * (998244353 : Int64))))) else none) else none))
def bdX11_simple_215 (F : Nat) (x1 : Int32) (x5 : Int32) (x6 : Int64) (x8 : Int32) (q89 : Nat → Int64) : Option (((Int32) × (Nat → Int64)) ⊕ ((Nat → Int64))) := (if (201 : Int32) ≤ x8 then some (.inr q89) else (if x5 = x1 then some (.inr q89) else (if x6 = (0 : Int64) then some (.inr q89) else (if mj_ib (((201 : Int32) * x5) + x8) 40200 = true then (if mj_ib (((201 : Int32) * x1) + x8) 40200 = true then (if mj_ib (((201 : Int32) * x5) + x8) 40200 = true then some (.inl ((x8 + (1)), (vp_updL q89 ((((201 : Int32) * x5) + x8).toNatClampNeg) (((q89 ((((201 : Int32) * x5) + x8).toNatClampNeg)) + (((998244353 : Int64) - x6) * (q89 ((((201 : Int32) * x1) + x8).toNatClampNeg)))) - ((q89 ((((201 : Int32) * x5) + x8).toNatClampNeg)) + (((998244353 : Int64) - x6) * (q89 ((((201 : Int32) * x1) + x8).toNatClampNeg)))) / (998244353 : Int64) * (998244353 : Int64))))) else none) else none) else none))))
def bdX11_simple_188 (F : Nat) (r71 : Nat → Int32) (x1 : Int32) (x5 : Int32) (q89 : Nat → Int64) : Option (((Int32) × (Nat → Int64)) ⊕ ((Nat → Int64))) := (if (r71 38) ≤ x5 then some (.inr q89) else (if mj_ib (((201 : Int32) * x5) + x1) 40200 = true then (mj_it (mj_u2 (fun z0 z1 => bdX11_simple_215 F x1 x5 (q89 ((((201 : Int32) * x5) + x1).toNatClampNeg)) z0 z1)) F (x1, q89)).bind (fun q89_20 => some (.inl ((x5 + (1)), q89_20))) else none))
def bdX11_simple_2 (F : Nat) (r71 : Nat → Int32) (x1 : Int32) (q89 : Nat → Int64) : Option (((Int32) × (Nat → Int64)) ⊕ (((Nat → Int64)) ⊕ ((Nat → Int64)))) := (if (r71 38) ≤ x1 then some (.inr (.inl q89)) else (mj_it (bdX11_simple_12 F r71 q89 x1) F x1).bind (fun x2_22 => (if x2_22 = (r71 38) then some (.inr (.inr q89)) else (mj_it (mj_u2 (fun z0 z1 => bdX11_simple_55 F x1 x2_22 z0 z1)) F ((0 : Int32), q89)).bind (fun q89_24 => (if mj_ib (((201 : Int32) * x1) + x1) 40200 = true then (fnX11_inverse F (q89_24 ((((201 : Int32) * x1) + x1).toNatClampNeg))).bind (fun o26 => (mj_it (mj_u2 (fun z0 z1 => bdX11_simple_139 F x1 o26 z0 z1)) F ((0 : Int32), q89_24)).bind (fun q89_27 => (mj_it (mj_u2 (fun z0 z1 => bdX11_simple_188 F r71 x1 z0 z1)) F ((0 : Int32), q89_27)).bind (fun q89_28 => some (.inl ((x1 + (1)), q89_28))))) else none)))))
def fnX11_simple (F : Nat) (r71 : Nat → Int32) (q89 : Nat → Int64) : Option ((Int32) × (Nat → Int64)) := (mj_it (mj_u2 (fun z0 z1 => bdX11_simple_2 F r71 z0 z1)) F ((0 : Int32), q89)).bind (Sum.elim (fun q89_29 => some ((1 : Int32), q89_29)) (fun q89_29 => some ((0 : Int32), q89_29)))
set_option maxRecDepth 100000 in
set_option maxHeartbeats 4000000 in
theorem lpX11_simple_12 {X : mj_XT} {l : Launch} {G : mj_GT} {ad : Nat → Nat} {Qn : Option Value → mj_IT → mj_LT → Prop} (hR : mj_R X l G mj_P0 mj_S0 98 ad 0 0 Qn) (F : Nat) (I : mj_IT) (L : mj_LT) (r71 : Nat → Int32) (q89 : Nat → Int64) (x1 : Int32) : ∀ (n : Nat) (s : ((Int32))) (e : ((Int32))), mj_it (bdX11_simple_12 F r71 q89 x1) n s = some e → (fun x2 => mj_W X G RX11 "simple" cX11_simple 9 3 (some .boolean) mj_P0 mj_S0 98 ad 0 0 43 [(0, .ref 71), (1, .int x1), (2, .int x2)] [] (mj_rows I [(71, r71)]) (mj_rows L [(89, q89)])) e → (fun x2 => mj_W X G RX11 "simple" cX11_simple 9 3 (some .boolean) mj_P0 mj_S0 98 ad 0 0 12 [(0, .ref 71), (1, .int x1), (2, .int x2)] [] (mj_rows I [(71, r71)]) (mj_rows L [(89, q89)])) s := by
  refine mj_loop (fun x2 o hf hc hx => ?_)
  unfold bdX11_simple_12 at hf
  refine mj_iload_n 2 dX11_simple_12 rfl ?_
  refine mj_aload_n 0 dX11_simple_13 rfl ?_
  refine mj_getIv (v := (r71 38)) rfl fl_X11_293 rfl s0_71 a0_71 dX11_simple_14 ?_
  refine mj_icmp_ge 43 dX11_simple_17 (by decide) (fun c1 => ?_) (fun c1 => ?_)
  · replace hf := mj_pos c1 hf
    obtain rfl := Option.some.inj hf
    have hZ := hx x2 rfl
    exact hZ
  · replace hf := mj_neg c1 hf
    refine mj_aload_n 0 dX11_simple_20 rfl ?_
    refine mj_getP p0_71_36 (by decide) fl_X11_300 rfl s0_71 a0_71 dX11_simple_21 ?_
    refine mj_sipush dX11_simple_24 kc_sipush_201 ?_
    refine mj_iload_n 2 dX11_simple_27 rfl ?_
    refine mj_imul dX11_simple_28 ?_
    refine mj_iload_n 1 dX11_simple_29 rfl ?_
    refine mj_iadd dX11_simple_30 ?_
    obtain ⟨z2, hf⟩ := mj_ck hf
    refine mj_laldv (x := q89) rfl s0_89 a0_89 z2 dX11_simple_31 ?_
    refine mj_lconst (v := 0) dX11_simple_32 (by decide) ?_
    refine mj_lc_ne 43 dX11_simple_33 dX11_simple_34 (by decide) (fun c3 => ?_) (fun c3 => ?_)
    · replace hf := mj_neg c3 hf
      obtain rfl := Option.some.inj hf
      have hZ := hx x2 rfl
      exact hZ
    · replace hf := mj_pos c3 hf
      refine mj_iinc 2 [(2, .int (x2 + (1))), (0, .ref 71), (1, .int x1)] dX11_simple_37 rfl (kz_1 _) (by decide) rfl ?_
      refine mj_goto 12 dX11_simple_40 (by decide) ?_
      refine mj_sub [1, 2, 0] [(0, .ref 71), (1, .int x1), (2, .int (x2 + (1)))] rfl ?_
      obtain rfl := Option.some.inj hf
      have hZ := hc (x2 + (1)) rfl
      exact hZ
set_option maxRecDepth 100000 in
set_option maxHeartbeats 4000000 in
theorem lpX11_simple_55 {X : mj_XT} {l : Launch} {G : mj_GT} {ad : Nat → Nat} {Qn : Option Value → mj_IT → mj_LT → Prop} (hR : mj_R X l G mj_P0 mj_S0 98 ad 0 0 Qn) (F : Nat) (I : mj_IT) (L : mj_LT) (r71 : Nat → Int32) (q89 : Nat → Int64) (x1 : Int32) (x2 : Int32) : ∀ (n : Nat) (s : ((Int32) × (Nat → Int64))) (e : ((Nat → Int64))), mj_it (mj_u2 (fun z0 z1 => bdX11_simple_55 F x1 x2 z0 z1)) n s = some e → (fun q89 => mj_W X G RX11 "simple" cX11_simple 9 3 (some .boolean) mj_P0 mj_S0 98 ad 0 0 120 [(0, .ref 71), (1, .int x1)] [] (mj_rows I [(71, r71)]) (mj_rows L [(89, q89)])) e → (mj_u2 (fun x3 q89 => mj_W X G RX11 "simple" cX11_simple 9 3 (some .boolean) mj_P0 mj_S0 98 ad 0 0 55 [(0, .ref 71), (1, .int x1), (2, .int x2), (3, .int x3)] [] (mj_rows I [(71, r71)]) (mj_rows L [(89, q89)]))) s := by
  refine mj_loop (fun s o hf hc hx => ?_)
  obtain ⟨x3, q89⟩ := s
  replace hf := mj_u2e hf
  refine mj_u2q ?_
  unfold bdX11_simple_55 at hf
  refine mj_iload_n 3 dX11_simple_55 rfl ?_
  refine mj_sipush dX11_simple_56 kc_sipush_201 ?_
  refine mj_icmp_ge 120 dX11_simple_59 (by decide) (fun c4 => ?_) (fun c4 => ?_)
  · replace hf := mj_pos c4 hf
    refine mj_sub [0, 1] [(0, .ref 71), (1, .int x1)] rfl ?_
    obtain rfl := Option.some.inj hf
    have hZ := hx q89 rfl
    exact hZ
  · replace hf := mj_neg c4 hf
    refine mj_aload_n 0 dX11_simple_62 rfl ?_
    refine mj_getP p0_71_36 (by decide) fl_X11_300 rfl s0_71 a0_71 dX11_simple_63 ?_
    refine mj_sipush dX11_simple_66 kc_sipush_201 ?_
    refine mj_iload_n 1 dX11_simple_69 rfl ?_
    refine mj_imul dX11_simple_70 ?_
    refine mj_iload_n 3 dX11_simple_71 rfl ?_
    refine mj_iadd dX11_simple_72 ?_
    obtain ⟨z5, hf⟩ := mj_ck hf
    refine mj_laldv (x := q89) rfl s0_89 a0_89 z5 dX11_simple_73 ?_
    refine mj_lstore [(4, .long (q89 ((((201 : Int32) * x1) + x3).toNatClampNeg))), (0, .ref 71), (1, .int x1), (2, .int x2), (3, .int x3)] dX11_simple_74 (by decide) rfl ?_
    refine mj_aload_n 1 dX11_simple_76 rfl ?_
    refine mj_getP p0_71_36 (by decide) fl_X11_300 rfl s0_71 a0_71 dX11_simple_77 ?_
    refine mj_sipush dX11_simple_80 kc_sipush_201 ?_
    refine mj_iload_n 2 dX11_simple_83 rfl ?_
    refine mj_imul dX11_simple_84 ?_
    refine mj_iload_n 4 dX11_simple_85 rfl ?_
    refine mj_iadd dX11_simple_86 ?_
    refine mj_aload_n 1 dX11_simple_87 rfl ?_
    refine mj_getP p0_71_36 (by decide) fl_X11_300 rfl s0_71 a0_71 dX11_simple_88 ?_
    refine mj_sipush dX11_simple_91 kc_sipush_201 ?_
    refine mj_iload_n 3 dX11_simple_94 rfl ?_
    refine mj_imul dX11_simple_95 ?_
    refine mj_iload_n 4 dX11_simple_96 rfl ?_
    refine mj_iadd dX11_simple_97 ?_
    obtain ⟨z6, hf⟩ := mj_ck hf
    refine mj_laldv (x := q89) rfl s0_89 a0_89 z6 dX11_simple_98 ?_
    obtain ⟨z7, hf⟩ := mj_ck hf
    refine mj_lastr [(89, (vp_updL q89 ((((201 : Int32) * x1) + x3).toNatClampNeg) (q89 ((((201 : Int32) * x2) + x3).toNatClampNeg))))] rfl s0_89 a0_89 z7 dX11_simple_99 ?_
    refine mj_aload_n 1 dX11_simple_100 rfl ?_
    refine mj_getP p0_71_36 (by decide) fl_X11_300 rfl s0_71 a0_71 dX11_simple_101 ?_
    refine mj_sipush dX11_simple_104 kc_sipush_201 ?_
    refine mj_iload_n 3 dX11_simple_107 rfl ?_
    refine mj_imul dX11_simple_108 ?_
    refine mj_iload_n 4 dX11_simple_109 rfl ?_
    refine mj_iadd dX11_simple_110 ?_
    refine mj_lload 0 dX11_simple_111 rfl ?_
    obtain ⟨z8, hf⟩ := mj_ck hf
    refine mj_lastr [(89, (vp_updL (vp_updL q89 ((((201 : Int32) * x1) + x3).toNatClampNeg) (q89 ((((201 : Int32) * x2) + x3).toNatClampNeg))) ((((201 : Int32) * x2) + x3).toNatClampNeg) (q89 ((((201 : Int32) * x1) + x3).toNatClampNeg))))] rfl s0_89 a0_89 z8 dX11_simple_113 ?_
    refine mj_iinc 4 [(3, .int (x3 + (1))), (4, .long (q89 ((((201 : Int32) * x1) + x3).toNatClampNeg))), (0, .ref 71), (1, .int x1), (2, .int x2)] dX11_simple_114 rfl (kz_1 _) (by decide) rfl ?_
    refine mj_goto 55 dX11_simple_117 (by decide) ?_
    refine mj_sub [2, 3, 4, 0] [(0, .ref 71), (1, .int x1), (2, .int x2), (3, .int (x3 + (1)))] rfl ?_
    obtain rfl := Option.some.inj hf
    have hZ := hc ((x3 + (1)), (vp_updL (vp_updL q89 ((((201 : Int32) * x1) + x3).toNatClampNeg) (q89 ((((201 : Int32) * x2) + x3).toNatClampNeg))) ((((201 : Int32) * x2) + x3).toNatClampNeg) (q89 ((((201 : Int32) * x1) + x3).toNatClampNeg)))) rfl
    replace hZ := mj_u2p hZ
    exact hZ
set_option maxRecDepth 100000 in
set_option maxHeartbeats 4000000 in
theorem lpX11_simple_139 {X : mj_XT} {l : Launch} {G : mj_GT} {ad : Nat → Nat} {Qn : Option Value → mj_IT → mj_LT → Prop} (hR : mj_R X l G mj_P0 mj_S0 98 ad 0 0 Qn) (F : Nat) (I : mj_IT) (L : mj_LT) (r71 : Nat → Int32) (q89 : Nat → Int64) (x1 : Int32) (x3 : Int64) : ∀ (n : Nat) (s : ((Int32) × (Nat → Int64))) (e : ((Nat → Int64))), mj_it (mj_u2 (fun z0 z1 => bdX11_simple_139 F x1 x3 z0 z1)) n s = some e → (fun q89 => mj_W X G RX11 "simple" cX11_simple 9 3 (some .boolean) mj_P0 mj_S0 98 ad 0 0 185 [(0, .ref 71), (1, .int x1)] [] (mj_rows I [(71, r71)]) (mj_rows L [(89, q89)])) e → (mj_u2 (fun x5 q89 => mj_W X G RX11 "simple" cX11_simple 9 3 (some .boolean) mj_P0 mj_S0 98 ad 0 0 139 [(0, .ref 71), (1, .int x1), (3, .long x3), (5, .int x5)] [] (mj_rows I [(71, r71)]) (mj_rows L [(89, q89)]))) s := by
  refine mj_loop (fun s o hf hc hx => ?_)
  obtain ⟨x5, q89⟩ := s
  replace hf := mj_u2e hf
  refine mj_u2q ?_
  unfold bdX11_simple_139 at hf
  refine mj_iload 3 dX11_simple_139 rfl ?_
  refine mj_sipush dX11_simple_141 kc_sipush_201 ?_
  refine mj_icmp_ge 185 dX11_simple_144 (by decide) (fun c9 => ?_) (fun c9 => ?_)
  · replace hf := mj_pos c9 hf
    refine mj_sub [0, 1] [(0, .ref 71), (1, .int x1)] rfl ?_
    obtain rfl := Option.some.inj hf
    have hZ := hx q89 rfl
    exact hZ
  · replace hf := mj_neg c9 hf
    refine mj_aload_n 0 dX11_simple_147 rfl ?_
    refine mj_getP p0_71_36 (by decide) fl_X11_300 rfl s0_71 a0_71 dX11_simple_148 ?_
    refine mj_sipush dX11_simple_151 kc_sipush_201 ?_
    refine mj_iload_n 1 dX11_simple_154 rfl ?_
    refine mj_imul dX11_simple_155 ?_
    refine mj_iload 3 dX11_simple_156 rfl ?_
    refine mj_iadd dX11_simple_158 ?_
    refine mj_aload_n 0 dX11_simple_159 rfl ?_
    refine mj_getP p0_71_36 (by decide) fl_X11_300 rfl s0_71 a0_71 dX11_simple_160 ?_
    refine mj_sipush dX11_simple_163 kc_sipush_201 ?_
    refine mj_iload_n 1 dX11_simple_166 rfl ?_
    refine mj_imul dX11_simple_167 ?_
    refine mj_iload 3 dX11_simple_168 rfl ?_
    refine mj_iadd dX11_simple_170 ?_
    obtain ⟨z10, hf⟩ := mj_ck hf
    refine mj_laldv (x := q89) rfl s0_89 a0_89 z10 dX11_simple_171 ?_
    refine mj_lload_n 2 dX11_simple_172 rfl ?_
    refine mj_lmul dX11_simple_173 ?_
    refine mj_ldc2 kk_X11_279 dX11_simple_174 ?_
    refine mj_lrem dX11_simple_177 (by decide) ?_
    obtain ⟨z11, hf⟩ := mj_ck hf
    refine mj_lastr [(89, (vp_updL q89 ((((201 : Int32) * x1) + x5).toNatClampNeg) (((q89 ((((201 : Int32) * x1) + x5).toNatClampNeg)) * x3) - ((q89 ((((201 : Int32) * x1) + x5).toNatClampNeg)) * x3) / (998244353 : Int64) * (998244353 : Int64))))] rfl s0_89 a0_89 z11 dX11_simple_178 ?_
    refine mj_iinc 3 [(5, .int (x5 + (1))), (0, .ref 71), (1, .int x1), (3, .long x3)] dX11_simple_179 rfl (kz_1 _) (by decide) rfl ?_
    refine mj_goto 139 dX11_simple_182 (by decide) ?_
    refine mj_sub [1, 2, 3, 0] [(0, .ref 71), (1, .int x1), (3, .long x3), (5, .int (x5 + (1)))] rfl ?_
    obtain rfl := Option.some.inj hf
    have hZ := hc ((x5 + (1)), (vp_updL q89 ((((201 : Int32) * x1) + x5).toNatClampNeg) (((q89 ((((201 : Int32) * x1) + x5).toNatClampNeg)) * x3) - ((q89 ((((201 : Int32) * x1) + x5).toNatClampNeg)) * x3) / (998244353 : Int64) * (998244353 : Int64)))) rfl
    replace hZ := mj_u2p hZ
    exact hZ
set_option maxRecDepth 100000 in
set_option maxHeartbeats 4000000 in
theorem lpX11_simple_215 {X : mj_XT} {l : Launch} {G : mj_GT} {ad : Nat → Nat} {Qn : Option Value → mj_IT → mj_LT → Prop} (hR : mj_R X l G mj_P0 mj_S0 98 ad 0 0 Qn) (F : Nat) (I : mj_IT) (L : mj_LT) (r71 : Nat → Int32) (q89 : Nat → Int64) (x1 : Int32) (x5 : Int32) (x6 : Int64) : ∀ (n : Nat) (s : ((Int32) × (Nat → Int64))) (e : ((Nat → Int64))), mj_it (mj_u2 (fun z0 z1 => bdX11_simple_215 F x1 x5 x6 z0 z1)) n s = some e → (fun q89 => mj_W X G RX11 "simple" cX11_simple 9 3 (some .boolean) mj_P0 mj_S0 98 ad 0 0 295 [(0, .ref 71), (1, .int x1), (5, .int x5)] [] (mj_rows I [(71, r71)]) (mj_rows L [(89, q89)])) e → (mj_u2 (fun x8 q89 => mj_W X G RX11 "simple" cX11_simple 9 3 (some .boolean) mj_P0 mj_S0 98 ad 0 0 215 [(0, .ref 71), (1, .int x1), (5, .int x5), (6, .long x6), (8, .int x8)] [] (mj_rows I [(71, r71)]) (mj_rows L [(89, q89)]))) s := by
  refine mj_loop (fun s o hf hc hx => ?_)
  obtain ⟨x8, q89⟩ := s
  replace hf := mj_u2e hf
  refine mj_u2q ?_
  unfold bdX11_simple_215 at hf
  refine mj_iload 4 dX11_simple_215 rfl ?_
  refine mj_sipush dX11_simple_217 kc_sipush_201 ?_
  refine mj_icmp_ge 295 dX11_simple_220 (by decide) (fun c12 => ?_) (fun c12 => ?_)
  · replace hf := mj_pos c12 hf
    refine mj_sub [0, 1, 2] [(0, .ref 71), (1, .int x1), (5, .int x5)] rfl ?_
    obtain rfl := Option.some.inj hf
    have hZ := hx q89 rfl
    exact hZ
  · replace hf := mj_neg c12 hf
    refine mj_iload 2 dX11_simple_223 rfl ?_
    refine mj_iload_n 1 dX11_simple_225 rfl ?_
    refine mj_icmp_eq 295 dX11_simple_226 (by decide) (fun c13 => ?_) (fun c13 => ?_)
    · replace hf := mj_pos c13 hf
      refine mj_sub [0, 1, 2] [(0, .ref 71), (1, .int x1), (5, .int x5)] rfl ?_
      obtain rfl := Option.some.inj hf
      have hZ := hx q89 rfl
      exact hZ
    · replace hf := mj_neg c13 hf
      refine mj_lload 3 dX11_simple_229 rfl ?_
      refine mj_lconst (v := 0) dX11_simple_231 (by decide) ?_
      refine mj_lc_eq 295 dX11_simple_232 dX11_simple_233 (by decide) (fun c14 => ?_) (fun c14 => ?_)
      · replace hf := mj_pos c14 hf
        refine mj_sub [0, 1, 2] [(0, .ref 71), (1, .int x1), (5, .int x5)] rfl ?_
        obtain rfl := Option.some.inj hf
        have hZ := hx q89 rfl
        exact hZ
      · replace hf := mj_neg c14 hf
        refine mj_aload_n 0 dX11_simple_236 rfl ?_
        refine mj_getP p0_71_36 (by decide) fl_X11_300 rfl s0_71 a0_71 dX11_simple_237 ?_
        refine mj_sipush dX11_simple_240 kc_sipush_201 ?_
        refine mj_iload 2 dX11_simple_243 rfl ?_
        refine mj_imul dX11_simple_245 ?_
        refine mj_iload 4 dX11_simple_246 rfl ?_
        refine mj_iadd dX11_simple_248 ?_
        refine mj_aload_n 0 dX11_simple_249 rfl ?_
        refine mj_getP p0_71_36 (by decide) fl_X11_300 rfl s0_71 a0_71 dX11_simple_250 ?_
        refine mj_sipush dX11_simple_253 kc_sipush_201 ?_
        refine mj_iload 2 dX11_simple_256 rfl ?_
        refine mj_imul dX11_simple_258 ?_
        refine mj_iload 4 dX11_simple_259 rfl ?_
        refine mj_iadd dX11_simple_261 ?_
        obtain ⟨z15, hf⟩ := mj_ck hf
        refine mj_laldv (x := q89) rfl s0_89 a0_89 z15 dX11_simple_262 ?_
        refine mj_ldc2 kk_X11_279 dX11_simple_263 ?_
        refine mj_lload 3 dX11_simple_266 rfl ?_
        refine mj_lsub dX11_simple_268 ?_
        refine mj_aload_n 0 dX11_simple_269 rfl ?_
        refine mj_getP p0_71_36 (by decide) fl_X11_300 rfl s0_71 a0_71 dX11_simple_270 ?_
        refine mj_sipush dX11_simple_273 kc_sipush_201 ?_
        refine mj_iload_n 1 dX11_simple_276 rfl ?_
        refine mj_imul dX11_simple_277 ?_
        refine mj_iload 4 dX11_simple_278 rfl ?_
        refine mj_iadd dX11_simple_280 ?_
        obtain ⟨z16, hf⟩ := mj_ck hf
        refine mj_laldv (x := q89) rfl s0_89 a0_89 z16 dX11_simple_281 ?_
        refine mj_lmul dX11_simple_282 ?_
        refine mj_ladd dX11_simple_283 ?_
        refine mj_ldc2 kk_X11_279 dX11_simple_284 ?_
        refine mj_lrem dX11_simple_287 (by decide) ?_
        obtain ⟨z17, hf⟩ := mj_ck hf
        refine mj_lastr [(89, (vp_updL q89 ((((201 : Int32) * x5) + x8).toNatClampNeg) (((q89 ((((201 : Int32) * x5) + x8).toNatClampNeg)) + (((998244353 : Int64) - x6) * (q89 ((((201 : Int32) * x1) + x8).toNatClampNeg)))) - ((q89 ((((201 : Int32) * x5) + x8).toNatClampNeg)) + (((998244353 : Int64) - x6) * (q89 ((((201 : Int32) * x1) + x8).toNatClampNeg)))) / (998244353 : Int64) * (998244353 : Int64))))] rfl s0_89 a0_89 z17 dX11_simple_288 ?_
        refine mj_iinc 4 [(8, .int (x8 + (1))), (0, .ref 71), (1, .int x1), (5, .int x5), (6, .long x6)] dX11_simple_289 rfl (kz_1 _) (by decide) rfl ?_
        refine mj_goto 215 dX11_simple_292 (by decide) ?_
        refine mj_sub [1, 2, 3, 4, 0] [(0, .ref 71), (1, .int x1), (5, .int x5), (6, .long x6), (8, .int (x8 + (1)))] rfl ?_
        obtain rfl := Option.some.inj hf
        have hZ := hc ((x8 + (1)), (vp_updL q89 ((((201 : Int32) * x5) + x8).toNatClampNeg) (((q89 ((((201 : Int32) * x5) + x8).toNatClampNeg)) + (((998244353 : Int64) - x6) * (q89 ((((201 : Int32) * x1) + x8).toNatClampNeg)))) - ((q89 ((((201 : Int32) * x5) + x8).toNatClampNeg)) + (((998244353 : Int64) - x6) * (q89 ((((201 : Int32) * x1) + x8).toNatClampNeg)))) / (998244353 : Int64) * (998244353 : Int64)))) rfl
        replace hZ := mj_u2p hZ
        exact hZ
set_option maxRecDepth 100000 in
set_option maxHeartbeats 4000000 in
theorem lpX11_simple_188 {X : mj_XT} {l : Launch} {G : mj_GT} {ad : Nat → Nat} {Qn : Option Value → mj_IT → mj_LT → Prop} (hR : mj_R X l G mj_P0 mj_S0 98 ad 0 0 Qn) (F : Nat) (I : mj_IT) (L : mj_LT) (r71 : Nat → Int32) (q89 : Nat → Int64) (x1 : Int32) : ∀ (n : Nat) (s : ((Int32) × (Nat → Int64))) (e : ((Nat → Int64))), mj_it (mj_u2 (fun z0 z1 => bdX11_simple_188 F r71 x1 z0 z1)) n s = some e → (fun q89 => mj_W X G RX11 "simple" cX11_simple 9 3 (some .boolean) mj_P0 mj_S0 98 ad 0 0 301 [(0, .ref 71), (1, .int x1)] [] (mj_rows I [(71, r71)]) (mj_rows L [(89, q89)])) e → (mj_u2 (fun x5 q89 => mj_W X G RX11 "simple" cX11_simple 9 3 (some .boolean) mj_P0 mj_S0 98 ad 0 0 188 [(0, .ref 71), (1, .int x1), (5, .int x5)] [] (mj_rows I [(71, r71)]) (mj_rows L [(89, q89)]))) s := by
  refine mj_loop (fun s o hf hc hx => ?_)
  obtain ⟨x5, q89⟩ := s
  replace hf := mj_u2e hf
  refine mj_u2q ?_
  unfold bdX11_simple_188 at hf
  refine mj_iload 2 dX11_simple_188 rfl ?_
  refine mj_aload_n 0 dX11_simple_190 rfl ?_
  refine mj_getIv (v := (r71 38)) rfl fl_X11_293 rfl s0_71 a0_71 dX11_simple_191 ?_
  refine mj_icmp_ge 301 dX11_simple_194 (by decide) (fun c18 => ?_) (fun c18 => ?_)
  · replace hf := mj_pos c18 hf
    refine mj_sub [0, 1] [(0, .ref 71), (1, .int x1)] rfl ?_
    obtain rfl := Option.some.inj hf
    have hZ := hx q89 rfl
    exact hZ
  · replace hf := mj_neg c18 hf
    refine mj_aload_n 0 dX11_simple_197 rfl ?_
    refine mj_getP p0_71_36 (by decide) fl_X11_300 rfl s0_71 a0_71 dX11_simple_198 ?_
    refine mj_sipush dX11_simple_201 kc_sipush_201 ?_
    refine mj_iload 2 dX11_simple_204 rfl ?_
    refine mj_imul dX11_simple_206 ?_
    refine mj_iload_n 1 dX11_simple_207 rfl ?_
    refine mj_iadd dX11_simple_208 ?_
    obtain ⟨z19, hf⟩ := mj_ck hf
    refine mj_laldv (x := q89) rfl s0_89 a0_89 z19 dX11_simple_209 ?_
    refine mj_lstore [(6, .long (q89 ((((201 : Int32) * x5) + x1).toNatClampNeg))), (0, .ref 71), (1, .int x1), (5, .int x5)] dX11_simple_210 (by decide) rfl ?_
    refine mj_iload_n 2 dX11_simple_212 rfl ?_
    refine mj_istore [(8, .int x1), (6, .long (q89 ((((201 : Int32) * x5) + x1).toNatClampNeg))), (0, .ref 71), (1, .int x1), (5, .int x5)] dX11_simple_213 (by decide) rfl ?_
    refine mj_sub [2, 3, 4, 1, 0] [(0, .ref 71), (1, .int x1), (5, .int x5), (6, .long (q89 ((((201 : Int32) * x5) + x1).toNatClampNeg))), (8, .int x1)] rfl ?_
    obtain ⟨q89_20, ho20, hf⟩ := mj_bd hf
    refine lpX11_simple_215 hR F I L r71 q89 x1 x5 (q89 ((((201 : Int32) * x5) + x1).toNatClampNeg)) F (x1, q89) q89_20 ho20 ?_
    refine ?_
    refine mj_iinc 2 [(5, .int (x5 + (1))), (0, .ref 71), (1, .int x1)] dX11_simple_295 rfl (kz_1 _) (by decide) rfl ?_
    refine mj_goto 188 dX11_simple_298 (by decide) ?_
    refine mj_sub [1, 2, 0] [(0, .ref 71), (1, .int x1), (5, .int (x5 + (1)))] rfl ?_
    obtain rfl := Option.some.inj hf
    have hZ := hc ((x5 + (1)), q89_20) rfl
    replace hZ := mj_u2p hZ
    exact hZ
set_option maxRecDepth 100000 in
set_option maxHeartbeats 4000000 in
theorem lpX11_simple_2 {X : mj_XT} {l : Launch} {G : mj_GT} {ad : Nat → Nat} {Qn : Option Value → mj_IT → mj_LT → Prop} (hR : mj_R X l G mj_P0 mj_S0 98 ad 0 0 Qn) (F : Nat) (I : mj_IT) (L : mj_LT) (r71 : Nat → Int32) (q89 : Nat → Int64) : ∀ (n : Nat) (s : ((Int32) × (Nat → Int64))) (e : (((Nat → Int64)) ⊕ ((Nat → Int64)))), mj_it (mj_u2 (fun z0 z1 => bdX11_simple_2 F r71 z0 z1)) n s = some e → (Sum.elim (fun q89 => mj_W X G RX11 "simple" cX11_simple 9 3 (some .boolean) mj_P0 mj_S0 98 ad 0 0 307 [] [] (mj_rows I [(71, r71)]) (mj_rows L [(89, q89)])) (fun q89 => mj_W X G RX11 "simple" cX11_simple 9 3 (some .boolean) mj_P0 mj_S0 98 ad 0 0 51 [] [] (mj_rows I [(71, r71)]) (mj_rows L [(89, q89)]))) e → (mj_u2 (fun x1 q89 => mj_W X G RX11 "simple" cX11_simple 9 3 (some .boolean) mj_P0 mj_S0 98 ad 0 0 2 [(0, .ref 71), (1, .int x1)] [] (mj_rows I [(71, r71)]) (mj_rows L [(89, q89)]))) s := by
  refine mj_loop (fun s o hf hc hx => ?_)
  obtain ⟨x1, q89⟩ := s
  replace hf := mj_u2e hf
  refine mj_u2q ?_
  unfold bdX11_simple_2 at hf
  refine mj_iload_n 1 dX11_simple_2 rfl ?_
  refine mj_aload_n 0 dX11_simple_3 rfl ?_
  refine mj_getIv (v := (r71 38)) rfl fl_X11_293 rfl s0_71 a0_71 dX11_simple_4 ?_
  refine mj_icmp_ge 307 dX11_simple_7 (by decide) (fun c21 => ?_) (fun c21 => ?_)
  · replace hf := mj_pos c21 hf
    refine mj_sub [] [] rfl ?_
    obtain rfl := Option.some.inj hf
    have hZ := hx (.inl q89) rfl
    replace hZ := mj_el hZ
    exact hZ
  · replace hf := mj_neg c21 hf
    refine mj_iload_n 1 dX11_simple_10 rfl ?_
    refine mj_istore_n [(2, .int x1), (0, .ref 71), (1, .int x1)] dX11_simple_11 rfl (by decide) rfl ?_
    refine mj_sub [1, 2, 0] [(0, .ref 71), (1, .int x1), (2, .int x1)] rfl ?_
    obtain ⟨x2_22, ho22, hf⟩ := mj_bd hf
    refine lpX11_simple_12 hR F I L r71 q89 x1 F x1 x2_22 ho22 ?_
    refine ?_
    refine mj_iload_n 2 dX11_simple_43 rfl ?_
    refine mj_aload_n 0 dX11_simple_44 rfl ?_
    refine mj_getIv (v := (r71 38)) rfl fl_X11_293 rfl s0_71 a0_71 dX11_simple_45 ?_
    refine mj_icmp_ne 53 dX11_simple_48 (by decide) (fun c23 => ?_) (fun c23 => ?_)
    · replace hf := mj_neg c23 hf
      refine mj_iconst dX11_simple_53 kc_iconst_0 ?_
      refine mj_istore_n [(3, .int (0 : Int32)), (0, .ref 71), (1, .int x1), (2, .int x2_22)] dX11_simple_54 rfl (by decide) rfl ?_
      refine mj_sub [1, 2, 3, 0] [(0, .ref 71), (1, .int x1), (2, .int x2_22), (3, .int (0 : Int32))] rfl ?_
      obtain ⟨q89_24, ho24, hf⟩ := mj_bd hf
      refine lpX11_simple_55 hR F I L r71 q89 x1 x2_22 F ((0 : Int32), q89) q89_24 ho24 ?_
      refine ?_
      refine mj_aload_n 0 dX11_simple_120 rfl ?_
      refine mj_getP p0_71_36 (by decide) fl_X11_300 rfl s0_71 a0_71 dX11_simple_121 ?_
      refine mj_sipush dX11_simple_124 kc_sipush_201 ?_
      refine mj_iload_n 1 dX11_simple_127 rfl ?_
      refine mj_imul dX11_simple_128 ?_
      refine mj_iload_n 1 dX11_simple_129 rfl ?_
      refine mj_iadd dX11_simple_130 ?_
      obtain ⟨z25, hf⟩ := mj_ck hf
      refine mj_laldv (x := q89_24) rfl s0_89 a0_89 z25 dX11_simple_131 ?_
      obtain ⟨o26, ho26, hf⟩ := mj_bd hf
      refine mj_callSd (I2 := (mj_rows I [(71, r71)])) (L2 := (mj_rows L [(89, q89_24)])) (s1 := [.long o26]) (st := []) [.long (q89_24 ((((201 : Int32) * x1) + x1).toNatClampNeg))] (cmX11_inverse X.2.1 G F (q89_24 ((((201 : Int32) * x1) + x1).toNatClampNeg)) _ _   o26 ho26) rfl rfl cw_X11_289 (by decide) rfl rfl (Nat.le_of_ble_eq_true rfl) ⟨Nat.zero_le _, Nat.zero_le _⟩ dX11_simple_132 rfl ?_
      refine mj_lstore_n [(3, .long o26), (0, .ref 71), (1, .int x1)] dX11_simple_135 rfl (by decide) rfl ?_
      refine mj_iconst dX11_simple_136 kc_iconst_0 ?_
      refine mj_istore [(5, .int (0 : Int32)), (3, .long o26), (0, .ref 71), (1, .int x1)] dX11_simple_137 (by decide) rfl ?_
      refine mj_sub [2, 3, 1, 0] [(0, .ref 71), (1, .int x1), (3, .long o26), (5, .int (0 : Int32))] rfl ?_
      obtain ⟨q89_27, ho27, hf⟩ := mj_bd hf
      refine lpX11_simple_139 hR F I L r71 q89_24 x1 o26 F ((0 : Int32), q89_24) q89_27 ho27 ?_
      refine ?_
      refine mj_iconst dX11_simple_185 kc_iconst_0 ?_
      refine mj_istore [(5, .int (0 : Int32)), (0, .ref 71), (1, .int x1)] dX11_simple_186 (by decide) rfl ?_
      refine mj_sub [1, 2, 0] [(0, .ref 71), (1, .int x1), (5, .int (0 : Int32))] rfl ?_
      obtain ⟨q89_28, ho28, hf⟩ := mj_bd hf
      refine lpX11_simple_188 hR F I L r71 q89_27 x1 F ((0 : Int32), q89_27) q89_28 ho28 ?_
      refine ?_
      refine mj_iinc 1 [(1, .int (x1 + (1))), (0, .ref 71)] dX11_simple_301 rfl (kz_1 _) (by decide) rfl ?_
      refine mj_goto 2 dX11_simple_304 (by decide) ?_
      refine mj_sub [1, 0] [(0, .ref 71), (1, .int (x1 + (1)))] rfl ?_
      obtain rfl := Option.some.inj hf
      have hZ := hc ((x1 + (1)), q89_28) rfl
      replace hZ := mj_u2p hZ
      exact hZ
    · replace hf := mj_pos c23 hf
      refine mj_sub [] [] rfl ?_
      obtain rfl := Option.some.inj hf
      have hZ := hx (.inr q89) rfl
      replace hZ := mj_er hZ
      exact hZ
set_option maxRecDepth 100000 in
set_option maxHeartbeats 4000000 in
theorem mtX11_simple {X : mj_XT} {l : Launch} {G : mj_GT} {ad : Nat → Nat} {Qn : Option Value → mj_IT → mj_LT → Prop} (hR : mj_R X l G mj_P0 mj_S0 98 ad 0 0 Qn) (F : Nat) (I : mj_IT) (L : mj_LT) (r71 : Nat → Int32) (q89 : Nat → Int64) (o : ((Int32) × (Nat → Int64))) (hf : fnX11_simple F r71 q89 = some o) (hq : (mj_u2 (fun ov q89 => Qn (some (.int ov)) (mj_rows I [(71, r71)]) (mj_rows L [(89, q89)]))) o) : mj_W X G RX11 "simple" cX11_simple 9 3 (some .boolean) mj_P0 mj_S0 98 ad 0 0 0 [(0, .ref 71)] [] (mj_rows I [(71, r71)]) (mj_rows L [(89, q89)]) := by
  unfold fnX11_simple at hf
  refine mj_iconst dX11_simple_0 kc_iconst_0 ?_
  refine mj_istore_n [(1, .int (0 : Int32)), (0, .ref 71)] dX11_simple_1 rfl (by decide) rfl ?_
  refine mj_sub [1, 0] [(0, .ref 71), (1, .int (0 : Int32))] rfl ?_
  obtain ⟨e29, ho29, hf⟩ := mj_bd hf
  refine lpX11_simple_2 hR F I L r71 q89 F ((0 : Int32), q89) e29 ho29 ?_
  rcases e29 with q89_29 | q89_29
  · replace hf := mj_ele hf
    refine mj_elq (?_)
    refine mj_iconst dX11_simple_307 kc_iconst_1 ?_
    obtain rfl := Option.some.inj hf
    have hZ := hq
    replace hZ := mj_u2p hZ
    exact mj_iret hR ⟨Nat.le_refl _, Nat.le_refl _⟩ rfl (by decide) dX11_simple_308 hZ
  · replace hf := mj_ere hf
    refine mj_erq (?_)
    refine mj_iconst dX11_simple_51 kc_iconst_0 ?_
    obtain rfl := Option.some.inj hf
    have hZ := hq
    replace hZ := mj_u2p hZ
    exact mj_iret hR ⟨Nat.le_refl _, Nat.le_refl _⟩ rfl (by decide) dX11_simple_52 hZ
set_option maxRecDepth 100000 in
set_option maxHeartbeats 4000000 in
theorem cmX11_simple (l : Launch) (G : mj_GT) (F : Nat) (I : mj_IT) (L : mj_LT) (r71 : Nat → Int32) (q89 : Nat → Int64) (hr71 : I 71 = r71) (hq89 : L 89 = q89) (o : ((Int32) × (Nat → Int64))) (hf : fnX11_simple F r71 q89 = some o) : mj_M l G yX11_simple cX11_simple 9 3 (some .boolean) 0 0 mj_P0 mj_S0 98 [.ref 71] I L (mj_qd (some (.int o.1)) (mj_rows I [(71, r71)]) (mj_rows L [(89, o.2)])) := by
  refine mj_in RX11 "simple" [(0, .ref 71)] rfl rfl rfl (by decide) (Nat.le_of_ble_eq_true rfl) (fun X ad hR => ?_)
  refine mj_toI [(71, r71)] (by intro q hq; simp only [List.mem_cons, List.not_mem_nil, or_false] at hq; rcases hq with rfl <;> assumption) ?_
  refine mj_toL [(89, q89)] (by intro q hq; simp only [List.mem_cons, List.not_mem_nil, or_false] at hq; rcases hq with rfl <;> assumption) ?_
  refine mtX11_simple hR F I L r71 q89 o hf ?_
  obtain ⟨w0, w1⟩ := o
  refine mj_u2q ?_
  exact ⟨rfl, rfl, rfl⟩

-- X11_solves
def bdX11_solves_31 (F : Nat) (r71 : Nat → Int32) (r86 : Nat → Int32) (r88 : Nat → Int32) (q89 : Nat → Int64) (x1 : Int32) (q90 : Nat → Int64) : Option (((Int32) × (Nat → Int64)) ⊕ ((Nat → Int64))) := (if (r71 24) ≤ x1 then some (.inr q90) else (if (r71 23) = 0 then (if mj_ib x1 200 = true then some (.inl ((x1 + (1)), (vp_updL q90 x1.toNatClampNeg (0 : Int64)))) else none) else (if mj_ib x1 200 = true then (if (r86 x1.toNatClampNeg) = 0 then (if mj_ib x1 200 = true then some (.inl ((x1 + (1)), (vp_updL q90 x1.toNatClampNeg (0 : Int64)))) else none) else (if mj_ib x1 200 = true then (if mj_ib (((201 : Int32) * (r88 x1.toNatClampNeg)) + (200 : Int32)) 40200 = true then (if mj_ib x1 200 = true then some (.inl ((x1 + (1)), (vp_updL q90 x1.toNatClampNeg (q89 ((((201 : Int32) * (r88 x1.toNatClampNeg)) + (200 : Int32)).toNatClampNeg))))) else none) else none) else none)) else none)))
def fnX11_solves (F : Nat) (r71 : Nat → Int32) (r83 : Nat → Int32) (r84 : Nat → Int32) (r85 : Nat → Int32) (r86 : Nat → Int32) (r88 : Nat → Int32) (q89 : Nat → Int64) (q90 : Nat → Int64) (q97 : Nat → Int64) : Option ((Int32) × (Nat → Int32) × (Nat → Int32) × (Nat → Int64) × (Nat → Int64)) := (if (r71 22) = 0 then (fnX11_laysGrid F (upd r71 22 (1 : Int32)) r83 r84 r85 r86 r88 q89 q97).bind (fun o11 => (fnX11_simple F o11.1 o11.2.2).bind (fun o12 => (if mj_bb o12.1 = true then (mj_it (mj_u2 (fun z0 z1 => bdX11_solves_31 F (upd o11.1 23 o12.1) r86 o11.2.1 o12.2 z0 z1)) F ((0 : Int32), q90)).bind (fun q90_14 => (if mj_bb o12.1 = true then some (o12.1, (upd o11.1 23 o12.1), o11.2.1, o12.2, q90_14) else none)) else none))) else (if mj_bb (r71 23) = true then some ((r71 23), r71, r88, q89, q90) else none))
set_option maxRecDepth 100000 in
set_option maxHeartbeats 4000000 in
theorem lpX11_solves_31 {X : mj_XT} {l : Launch} {G : mj_GT} {ad : Nat → Nat} {Qn : Option Value → mj_IT → mj_LT → Prop} (hR : mj_R X l G mj_P0 mj_S0 98 ad 0 0 Qn) (F : Nat) (I : mj_IT) (L : mj_LT) (r71 : Nat → Int32) (r83 : Nat → Int32) (r84 : Nat → Int32) (r85 : Nat → Int32) (r86 : Nat → Int32) (r88 : Nat → Int32) (q89 : Nat → Int64) (q90 : Nat → Int64) (q97 : Nat → Int64) : ∀ (n : Nat) (s : ((Int32) × (Nat → Int64))) (e : ((Nat → Int64))), mj_it (mj_u2 (fun z0 z1 => bdX11_solves_31 F r71 r86 r88 q89 z0 z1)) n s = some e → (fun q90 => mj_W X G RX11 "solves" cX11_solves 2 4 (some .boolean) mj_P0 mj_S0 98 ad 0 0 90 [(0, .ref 71)] [] (mj_rows I [(71, r71), (83, r83), (84, r84), (85, r85), (86, r86), (88, r88)]) (mj_rows L [(89, q89), (90, q90), (97, q97)])) e → (mj_u2 (fun x1 q90 => mj_W X G RX11 "solves" cX11_solves 2 4 (some .boolean) mj_P0 mj_S0 98 ad 0 0 31 [(0, .ref 71), (1, .int x1)] [] (mj_rows I [(71, r71), (83, r83), (84, r84), (85, r85), (86, r86), (88, r88)]) (mj_rows L [(89, q89), (90, q90), (97, q97)]))) s := by
  refine mj_loop (fun s o hf hc hx => ?_)
  obtain ⟨x1, q90⟩ := s
  replace hf := mj_u2e hf
  refine mj_u2q ?_
  unfold bdX11_solves_31 at hf
  refine mj_iload_n 1 dX11_solves_31 rfl ?_
  refine mj_aload_n 0 dX11_solves_32 rfl ?_
  refine mj_getIv (v := (r71 24)) rfl fl_X11_227 rfl s0_71 a0_71 dX11_solves_33 ?_
  refine mj_icmp_ge 90 dX11_solves_36 (by decide) (fun c1 => ?_) (fun c1 => ?_)
  · replace hf := mj_pos c1 hf
    refine mj_sub [0] [(0, .ref 71)] rfl ?_
    obtain rfl := Option.some.inj hf
    have hZ := hx q90 rfl
    exact hZ
  · replace hf := mj_neg c1 hf
    refine mj_aload_n 0 dX11_solves_39 rfl ?_
    refine mj_getP p0_71_37 (by decide) fl_X11_316 rfl s0_71 a0_71 dX11_solves_40 ?_
    refine mj_iload_n 1 dX11_solves_43 rfl ?_
    refine mj_aload_n 0 dX11_solves_44 rfl ?_
    refine mj_getIv (v := (r71 23)) rfl fl_X11_307 rfl s0_71 a0_71 dX11_solves_45 ?_
    refine mj_if_eq 82 dX11_solves_48 (by decide) (fun c2 => ?_) (fun c2 => ?_)
    · replace hf := mj_pos c2 hf
      refine mj_lconst (v := 0) dX11_solves_82 (by decide) ?_
      obtain ⟨z3, hf⟩ := mj_ck hf
      refine mj_lastr [(89, q89), (90, (vp_updL q90 x1.toNatClampNeg (0 : Int64))), (97, q97)] rfl s0_90 a0_90 z3 dX11_solves_83 ?_
      refine mj_iinc 1 [(1, .int (x1 + (1))), (0, .ref 71)] dX11_solves_84 rfl (kz_1 _) (by decide) rfl ?_
      refine mj_goto 31 dX11_solves_87 (by decide) ?_
      refine mj_sub [1, 0] [(0, .ref 71), (1, .int (x1 + (1)))] rfl ?_
      obtain rfl := Option.some.inj hf
      have hZ := hc ((x1 + (1)), (vp_updL q90 x1.toNatClampNeg (0 : Int64))) rfl
      replace hZ := mj_u2p hZ
      exact hZ
    · replace hf := mj_neg c2 hf
      refine mj_aload_n 0 dX11_solves_51 rfl ?_
      refine mj_getP p0_71_33 (by decide) fl_X11_275 rfl s0_71 a0_71 dX11_solves_52 ?_
      refine mj_iload_n 1 dX11_solves_55 rfl ?_
      obtain ⟨z4, hf⟩ := mj_ck hf
      refine mj_zaldv (x := r86) rfl s0_86 a0_86 z4 dX11_solves_56 ?_
      refine mj_if_eq 82 dX11_solves_57 (by decide) (fun c5 => ?_) (fun c5 => ?_)
      · replace hf := mj_pos c5 hf
        refine mj_lconst (v := 0) dX11_solves_82 (by decide) ?_
        obtain ⟨z6, hf⟩ := mj_ck hf
        refine mj_lastr [(89, q89), (90, (vp_updL q90 x1.toNatClampNeg (0 : Int64))), (97, q97)] rfl s0_90 a0_90 z6 dX11_solves_83 ?_
        refine mj_iinc 1 [(1, .int (x1 + (1))), (0, .ref 71)] dX11_solves_84 rfl (kz_1 _) (by decide) rfl ?_
        refine mj_goto 31 dX11_solves_87 (by decide) ?_
        refine mj_sub [1, 0] [(0, .ref 71), (1, .int (x1 + (1)))] rfl ?_
        obtain rfl := Option.some.inj hf
        have hZ := hc ((x1 + (1)), (vp_updL q90 x1.toNatClampNeg (0 : Int64))) rfl
        replace hZ := mj_u2p hZ
        exact hZ
      · replace hf := mj_neg c5 hf
        refine mj_aload_n 0 dX11_solves_60 rfl ?_
        refine mj_getP p0_71_36 (by decide) fl_X11_300 rfl s0_71 a0_71 dX11_solves_61 ?_
        refine mj_sipush dX11_solves_64 kc_sipush_201 ?_
        refine mj_aload_n 0 dX11_solves_67 rfl ?_
        refine mj_getP p0_71_35 (by decide) fl_X11_296 rfl s0_71 a0_71 dX11_solves_68 ?_
        refine mj_iload_n 1 dX11_solves_71 rfl ?_
        obtain ⟨z7, hf⟩ := mj_ck hf
        refine mj_ialdv (x := r88) rfl s0_88 a0_88 z7 dX11_solves_72 ?_
        refine mj_imul dX11_solves_73 ?_
        refine mj_sipush dX11_solves_74 kc_sipush_200 ?_
        refine mj_iadd dX11_solves_77 ?_
        obtain ⟨z8, hf⟩ := mj_ck hf
        refine mj_laldv (x := q89) rfl s0_89 a0_89 z8 dX11_solves_78 ?_
        refine mj_goto 83 dX11_solves_79 (by decide) ?_
        obtain ⟨z9, hf⟩ := mj_ck hf
        refine mj_lastr [(89, q89), (90, (vp_updL q90 x1.toNatClampNeg (q89 ((((201 : Int32) * (r88 x1.toNatClampNeg)) + (200 : Int32)).toNatClampNeg)))), (97, q97)] rfl s0_90 a0_90 z9 dX11_solves_83 ?_
        refine mj_iinc 1 [(1, .int (x1 + (1))), (0, .ref 71)] dX11_solves_84 rfl (kz_1 _) (by decide) rfl ?_
        refine mj_goto 31 dX11_solves_87 (by decide) ?_
        refine mj_sub [1, 0] [(0, .ref 71), (1, .int (x1 + (1)))] rfl ?_
        obtain rfl := Option.some.inj hf
        have hZ := hc ((x1 + (1)), (vp_updL q90 x1.toNatClampNeg (q89 ((((201 : Int32) * (r88 x1.toNatClampNeg)) + (200 : Int32)).toNatClampNeg)))) rfl
        replace hZ := mj_u2p hZ
        exact hZ
set_option maxRecDepth 100000 in
set_option maxHeartbeats 4000000 in
theorem mtX11_solves {X : mj_XT} {l : Launch} {G : mj_GT} {ad : Nat → Nat} {Qn : Option Value → mj_IT → mj_LT → Prop} (hR : mj_R X l G mj_P0 mj_S0 98 ad 0 0 Qn) (F : Nat) (I : mj_IT) (L : mj_LT) (r71 : Nat → Int32) (r83 : Nat → Int32) (r84 : Nat → Int32) (r85 : Nat → Int32) (r86 : Nat → Int32) (r88 : Nat → Int32) (q89 : Nat → Int64) (q90 : Nat → Int64) (q97 : Nat → Int64) (o : ((Int32) × (Nat → Int32) × (Nat → Int32) × (Nat → Int64) × (Nat → Int64))) (hf : fnX11_solves F r71 r83 r84 r85 r86 r88 q89 q90 q97 = some o) (hq : (mj_u2 (fun ov => (mj_u2 (fun r71 => (mj_u2 (fun r88 => (mj_u2 (fun q89 q90 => Qn (some (.int ov)) (mj_rows I [(71, r71), (83, r83), (84, r84), (85, r85), (86, r86), (88, r88)]) (mj_rows L [(89, q89), (90, q90), (97, q97)]))))))))) o) : mj_W X G RX11 "solves" cX11_solves 2 4 (some .boolean) mj_P0 mj_S0 98 ad 0 0 0 [(0, .ref 71)] [] (mj_rows I [(71, r71), (83, r83), (84, r84), (85, r85), (86, r86), (88, r88)]) (mj_rows L [(89, q89), (90, q90), (97, q97)]) := by
  unfold fnX11_solves at hf
  refine mj_aload_n 0 dX11_solves_0 rfl ?_
  refine mj_getIv (v := (r71 22)) rfl fl_X11_212 rfl s0_71 a0_71 dX11_solves_1 ?_
  refine mj_if_eq 12 dX11_solves_4 (by decide) (fun c10 => ?_) (fun c10 => ?_)
  · replace hf := mj_pos c10 hf
    refine mj_aload_n 0 dX11_solves_12 rfl ?_
    refine mj_iconst dX11_solves_13 kc_iconst_1 ?_
    refine mj_putIr (ci := 9) (j := 22) [(71, (upd r71 22 (1 : Int32))), (83, r83), (84, r84), (85, r85), (86, r86), (88, r88)] rfl (by decide) fl_X11_212 rfl rfl s0_71 a0_71 dX11_solves_14 ?_
    refine mj_aload_n 0 dX11_solves_17 rfl ?_
    obtain ⟨o11, ho11, hf⟩ := mj_bd hf
    refine mj_callVd (I2 := (mj_rows I [(71, o11.1), (83, r83), (84, r84), (85, r85), (86, r86), (88, o11.2.1)])) (L2 := (mj_rows L [(89, o11.2.2), (90, q90), (97, q97)])) (s1 := []) (st := []) [] (cmX11_laysGrid X.2.1 G F  _ _ (upd r71 22 (1 : Int32)) r83 r84 r85 r86 r88 q89 q97 rfl rfl rfl rfl rfl rfl rfl rfl o11 ho11) (mj_rr rfl) (mj_rr rfl) cw_X11_310 s0_71 a0_71 (by decide) rfl rfl (Nat.le_of_ble_eq_true rfl) ⟨Nat.zero_le _, Nat.zero_le _⟩ dX11_solves_18 rfl ?_
    refine mj_aload_n 0 dX11_solves_21 rfl ?_
    refine mj_aload_n 0 dX11_solves_22 rfl ?_
    obtain ⟨o12, ho12, hf⟩ := mj_bd hf
    refine mj_callVd (I2 := (mj_rows I [(71, o11.1), (83, r83), (84, r84), (85, r85), (86, r86), (88, o11.2.1)])) (L2 := (mj_rows L [(89, o12.2), (90, q90), (97, q97)])) (s1 := [.int o12.1, .ref 71]) (st := [.ref 71]) [] (cmX11_simple X.2.1 G F  _ _ o11.1 o11.2.2 rfl rfl o12 ho12) (mj_rr rfl) (mj_rr rfl) cw_X11_313 s0_71 a0_71 (by decide) rfl rfl (Nat.le_of_ble_eq_true rfl) ⟨Nat.zero_le _, Nat.zero_le _⟩ dX11_solves_23 rfl ?_
    obtain ⟨z13, hf⟩ := mj_ck hf
    refine mj_putIr (ci := 9) (j := 23) [(71, (upd o11.1 23 o12.1)), (83, r83), (84, r84), (85, r85), (86, r86), (88, o11.2.1)] rfl (mj_bb_n z13) fl_X11_307 rfl rfl s0_71 a0_71 dX11_solves_26 ?_
    refine mj_iconst dX11_solves_29 kc_iconst_0 ?_
    refine mj_istore_n [(1, .int (0 : Int32)), (0, .ref 71)] dX11_solves_30 rfl (by decide) rfl ?_
    refine mj_sub [1, 0] [(0, .ref 71), (1, .int (0 : Int32))] rfl ?_
    obtain ⟨q90_14, ho14, hf⟩ := mj_bd hf
    refine lpX11_solves_31 hR F I L (upd o11.1 23 o12.1) r83 r84 r85 r86 o11.2.1 o12.2 q90 q97 F ((0 : Int32), q90) q90_14 ho14 ?_
    refine ?_
    refine mj_aload_n 0 dX11_solves_90 rfl ?_
    refine mj_getIv (v := o12.1) rfl fl_X11_307 rfl s0_71 a0_71 dX11_solves_91 ?_
    obtain ⟨z15, hf⟩ := mj_ck hf
    obtain rfl := Option.some.inj hf
    have hZ := hq
    replace hZ := mj_u2p hZ
    replace hZ := mj_u2p hZ
    replace hZ := mj_u2p hZ
    replace hZ := mj_u2p hZ
    exact mj_iret hR ⟨Nat.le_refl _, Nat.le_refl _⟩ rfl (mj_bb_n z15).1 dX11_solves_94 hZ
  · replace hf := mj_neg c10 hf
    refine mj_aload_n 0 dX11_solves_7 rfl ?_
    refine mj_getIv (v := (r71 23)) rfl fl_X11_307 rfl s0_71 a0_71 dX11_solves_8 ?_
    obtain ⟨z16, hf⟩ := mj_ck hf
    obtain rfl := Option.some.inj hf
    have hZ := hq
    replace hZ := mj_u2p hZ
    replace hZ := mj_u2p hZ
    replace hZ := mj_u2p hZ
    replace hZ := mj_u2p hZ
    exact mj_iret hR ⟨Nat.le_refl _, Nat.le_refl _⟩ rfl (mj_bb_n z16).1 dX11_solves_11 hZ
set_option maxRecDepth 100000 in
set_option maxHeartbeats 4000000 in
theorem cmX11_solves (l : Launch) (G : mj_GT) (F : Nat) (I : mj_IT) (L : mj_LT) (r71 : Nat → Int32) (r83 : Nat → Int32) (r84 : Nat → Int32) (r85 : Nat → Int32) (r86 : Nat → Int32) (r88 : Nat → Int32) (q89 : Nat → Int64) (q90 : Nat → Int64) (q97 : Nat → Int64) (hr71 : I 71 = r71) (hr83 : I 83 = r83) (hr84 : I 84 = r84) (hr85 : I 85 = r85) (hr86 : I 86 = r86) (hr88 : I 88 = r88) (hq89 : L 89 = q89) (hq90 : L 90 = q90) (hq97 : L 97 = q97) (o : ((Int32) × (Nat → Int32) × (Nat → Int32) × (Nat → Int64) × (Nat → Int64))) (hf : fnX11_solves F r71 r83 r84 r85 r86 r88 q89 q90 q97 = some o) : mj_M l G yX11_solves cX11_solves 2 4 (some .boolean) 0 0 mj_P0 mj_S0 98 [.ref 71] I L (mj_qd (some (.int o.1)) (mj_rows I [(71, o.2.1), (83, r83), (84, r84), (85, r85), (86, r86), (88, o.2.2.1)]) (mj_rows L [(89, o.2.2.2.1), (90, o.2.2.2.2), (97, q97)])) := by
  refine mj_in RX11 "solves" [(0, .ref 71)] rfl rfl rfl (by decide) (Nat.le_of_ble_eq_true rfl) (fun X ad hR => ?_)
  refine mj_toI [(71, r71), (83, r83), (84, r84), (85, r85), (86, r86), (88, r88)] (by intro q hq; simp only [List.mem_cons, List.not_mem_nil, or_false] at hq; rcases hq with rfl | rfl | rfl | rfl | rfl | rfl <;> assumption) ?_
  refine mj_toL [(89, q89), (90, q90), (97, q97)] (by intro q hq; simp only [List.mem_cons, List.not_mem_nil, or_false] at hq; rcases hq with rfl | rfl | rfl <;> assumption) ?_
  refine mtX11_solves hR F I L r71 r83 r84 r85 r86 r88 q89 q90 q97 o hf ?_
  obtain ⟨w0, w1, w2, w3, w4⟩ := o
  refine mj_u2q ?_
  refine mj_u2q ?_
  refine mj_u2q ?_
  refine mj_u2q ?_
  exact ⟨rfl, rfl, rfl⟩

-- X11_sumAt
def bdX11_sumAt_5 (F : Nat) (r71 : Nat → Int32) (r80 : Nat → Int32) (q90 : Nat → Int64) (x1 : Int32) (x2 : Int64) (x4 : Int32) : Option (((Int64) × (Int32)) ⊕ ((Int64))) := (if (r71 24) ≤ x4 then some (.inr x2) else (if mj_ib x4 200 = true then (if (r80 x4.toNatClampNeg) = x1 then (if mj_ib x4 200 = true then some (.inl ((x2 + (q90 x4.toNatClampNeg)), (x4 + (1)))) else none) else some (.inl ((x2 + (0 : Int64)), (x4 + (1))))) else none))
def fnX11_sumAt (F : Nat) (r71 : Nat → Int32) (r80 : Nat → Int32) (q90 : Nat → Int64) (x1 : Int32) : Option ((Int64)) := (mj_it (mj_u2 (fun z0 z1 => bdX11_sumAt_5 F r71 r80 q90 x1 z0 z1)) F ((0 : Int64), (0 : Int32))).bind (fun x2_5 => some (x2_5 - x2_5 / (998244353 : Int64) * (998244353 : Int64)))
set_option maxRecDepth 100000 in
set_option maxHeartbeats 4000000 in
theorem lpX11_sumAt_5 {X : mj_XT} {l : Launch} {G : mj_GT} {ad : Nat → Nat} {Qn : Option Value → mj_IT → mj_LT → Prop} (hR : mj_R X l G mj_P0 mj_S0 98 ad 0 0 Qn) (F : Nat) (I : mj_IT) (L : mj_LT) (r71 : Nat → Int32) (r80 : Nat → Int32) (q90 : Nat → Int64) (x1 : Int32) : ∀ (n : Nat) (s : ((Int64) × (Int32))) (e : ((Int64))), mj_it (mj_u2 (fun z0 z1 => bdX11_sumAt_5 F r71 r80 q90 x1 z0 z1)) n s = some e → (fun x2 => mj_W X G RX11 "sumAt" cX11_sumAt 5 1 (some .long) mj_P0 mj_S0 98 ad 0 0 45 [(2, .long x2)] [] (mj_rows I [(71, r71), (80, r80)]) (mj_rows L [(90, q90)])) e → (mj_u2 (fun x2 x4 => mj_W X G RX11 "sumAt" cX11_sumAt 5 1 (some .long) mj_P0 mj_S0 98 ad 0 0 5 [(0, .ref 71), (1, .int x1), (2, .long x2), (4, .int x4)] [] (mj_rows I [(71, r71), (80, r80)]) (mj_rows L [(90, q90)]))) s := by
  refine mj_loop (fun s o hf hc hx => ?_)
  obtain ⟨x2, x4⟩ := s
  replace hf := mj_u2e hf
  refine mj_u2q ?_
  unfold bdX11_sumAt_5 at hf
  refine mj_iload 3 dX11_sumAt_5 rfl ?_
  refine mj_aload_n 0 dX11_sumAt_7 rfl ?_
  refine mj_getIv (v := (r71 24)) rfl fl_X11_227 rfl s0_71 a0_71 dX11_sumAt_8 ?_
  refine mj_icmp_ge 45 dX11_sumAt_11 (by decide) (fun c1 => ?_) (fun c1 => ?_)
  · replace hf := mj_pos c1 hf
    refine mj_sub [2] [(2, .long x2)] rfl ?_
    obtain rfl := Option.some.inj hf
    have hZ := hx x2 rfl
    exact hZ
  · replace hf := mj_neg c1 hf
    refine mj_lload_n 2 dX11_sumAt_14 rfl ?_
    refine mj_aload_n 0 dX11_sumAt_15 rfl ?_
    refine mj_getP p0_71_27 (by decide) fl_X11_230 rfl s0_71 a0_71 dX11_sumAt_16 ?_
    refine mj_iload 3 dX11_sumAt_19 rfl ?_
    obtain ⟨z2, hf⟩ := mj_ck hf
    refine mj_ialdv (x := r80) rfl s0_80 a0_80 z2 dX11_sumAt_21 ?_
    refine mj_iload_n 1 dX11_sumAt_22 rfl ?_
    refine mj_icmp_ne 36 dX11_sumAt_23 (by decide) (fun c3 => ?_) (fun c3 => ?_)
    · replace hf := mj_neg c3 hf
      refine mj_lconst (v := 0) dX11_sumAt_36 (by decide) ?_
      refine mj_ladd dX11_sumAt_37 ?_
      refine mj_lstore_n [(2, .long (x2 + (0 : Int64))), (0, .ref 71), (1, .int x1), (4, .int x4)] dX11_sumAt_38 rfl (by decide) rfl ?_
      refine mj_iinc 3 [(4, .int (x4 + (1))), (2, .long (x2 + (0 : Int64))), (0, .ref 71), (1, .int x1)] dX11_sumAt_39 rfl (kz_1 _) (by decide) rfl ?_
      refine mj_goto 5 dX11_sumAt_42 (by decide) ?_
      refine mj_sub [2, 3, 1, 0] [(0, .ref 71), (1, .int x1), (2, .long (x2 + (0 : Int64))), (4, .int (x4 + (1)))] rfl ?_
      obtain rfl := Option.some.inj hf
      have hZ := hc ((x2 + (0 : Int64)), (x4 + (1))) rfl
      replace hZ := mj_u2p hZ
      exact hZ
    · replace hf := mj_pos c3 hf
      refine mj_aload_n 0 dX11_sumAt_26 rfl ?_
      refine mj_getP p0_71_37 (by decide) fl_X11_316 rfl s0_71 a0_71 dX11_sumAt_27 ?_
      refine mj_iload 3 dX11_sumAt_30 rfl ?_
      obtain ⟨z4, hf⟩ := mj_ck hf
      refine mj_laldv (x := q90) rfl s0_90 a0_90 z4 dX11_sumAt_32 ?_
      refine mj_goto 37 dX11_sumAt_33 (by decide) ?_
      refine mj_ladd dX11_sumAt_37 ?_
      refine mj_lstore_n [(2, .long (x2 + (q90 x4.toNatClampNeg))), (0, .ref 71), (1, .int x1), (4, .int x4)] dX11_sumAt_38 rfl (by decide) rfl ?_
      refine mj_iinc 3 [(4, .int (x4 + (1))), (2, .long (x2 + (q90 x4.toNatClampNeg))), (0, .ref 71), (1, .int x1)] dX11_sumAt_39 rfl (kz_1 _) (by decide) rfl ?_
      refine mj_goto 5 dX11_sumAt_42 (by decide) ?_
      refine mj_sub [2, 3, 1, 0] [(0, .ref 71), (1, .int x1), (2, .long (x2 + (q90 x4.toNatClampNeg))), (4, .int (x4 + (1)))] rfl ?_
      obtain rfl := Option.some.inj hf
      have hZ := hc ((x2 + (q90 x4.toNatClampNeg)), (x4 + (1))) rfl
      replace hZ := mj_u2p hZ
      exact hZ
set_option maxRecDepth 100000 in
set_option maxHeartbeats 4000000 in
theorem mtX11_sumAt {X : mj_XT} {l : Launch} {G : mj_GT} {ad : Nat → Nat} {Qn : Option Value → mj_IT → mj_LT → Prop} (hR : mj_R X l G mj_P0 mj_S0 98 ad 0 0 Qn) (F : Nat) (I : mj_IT) (L : mj_LT) (r71 : Nat → Int32) (r80 : Nat → Int32) (q90 : Nat → Int64) (x1 : Int32) (o : ((Int64))) (hf : fnX11_sumAt F r71 r80 q90 x1 = some o) (hq : (fun ov => Qn (some (.long ov)) (mj_rows I [(71, r71), (80, r80)]) (mj_rows L [(90, q90)])) o) : mj_W X G RX11 "sumAt" cX11_sumAt 5 1 (some .long) mj_P0 mj_S0 98 ad 0 0 0 [(0, .ref 71), (1, .int x1)] [] (mj_rows I [(71, r71), (80, r80)]) (mj_rows L [(90, q90)]) := by
  unfold fnX11_sumAt at hf
  refine mj_lconst (v := 0) dX11_sumAt_0 (by decide) ?_
  refine mj_lstore_n [(2, .long (0 : Int64)), (0, .ref 71), (1, .int x1)] dX11_sumAt_1 rfl (by decide) rfl ?_
  refine mj_iconst dX11_sumAt_2 kc_iconst_0 ?_
  refine mj_istore [(4, .int (0 : Int32)), (2, .long (0 : Int64)), (0, .ref 71), (1, .int x1)] dX11_sumAt_3 (by decide) rfl ?_
  refine mj_sub [2, 3, 1, 0] [(0, .ref 71), (1, .int x1), (2, .long (0 : Int64)), (4, .int (0 : Int32))] rfl ?_
  obtain ⟨x2_5, ho5, hf⟩ := mj_bd hf
  refine lpX11_sumAt_5 hR F I L r71 r80 q90 x1 F ((0 : Int64), (0 : Int32)) x2_5 ho5 ?_
  refine ?_
  refine mj_lload_n 0 dX11_sumAt_45 rfl ?_
  refine mj_ldc2 kk_X11_279 dX11_sumAt_46 ?_
  refine mj_lrem dX11_sumAt_49 (by decide) ?_
  obtain rfl := Option.some.inj hf
  have hZ := hq
  exact mj_lret hR ⟨Nat.le_refl _, Nat.le_refl _⟩ rfl dX11_sumAt_50 hZ
set_option maxRecDepth 100000 in
set_option maxHeartbeats 4000000 in
theorem cmX11_sumAt (l : Launch) (G : mj_GT) (F : Nat) (x1 : Int32) (I : mj_IT) (L : mj_LT) (r71 : Nat → Int32) (r80 : Nat → Int32) (q90 : Nat → Int64) (hr71 : I 71 = r71) (hr80 : I 80 = r80) (hq90 : L 90 = q90) (o : ((Int64))) (hf : fnX11_sumAt F r71 r80 q90 x1 = some o) : mj_M l G yX11_sumAt cX11_sumAt 5 1 (some .long) 0 0 mj_P0 mj_S0 98 [.ref 71, .int x1] I L (mj_qd (some (.long o)) (mj_rows I [(71, r71), (80, r80)]) (mj_rows L [(90, q90)])) := by
  refine mj_in RX11 "sumAt" [(0, .ref 71), (1, .int x1)] rfl rfl rfl (by decide) (Nat.le_of_ble_eq_true rfl) (fun X ad hR => ?_)
  refine mj_toI [(71, r71), (80, r80)] (by intro q hq; simp only [List.mem_cons, List.not_mem_nil, or_false] at hq; rcases hq with rfl | rfl <;> assumption) ?_
  refine mj_toL [(90, q90)] (by intro q hq; simp only [List.mem_cons, List.not_mem_nil, or_false] at hq; rcases hq with rfl <;> assumption) ?_
  refine mtX11_sumAt hR F I L r71 r80 q90 x1 o hf ?_
  exact ⟨rfl, rfl, rfl⟩

-- X11_ended
def fnX11_ended (F : Nat) (r71 : Nat → Int32) (r80 : Nat → Int32) (q90 : Nat → Int64) : Option ((Int64)) := (fnX11_sumAt F r71 r80 q90 (r71 4)).bind (fun o1 => some o1)
set_option maxRecDepth 100000 in
set_option maxHeartbeats 4000000 in
theorem mtX11_ended {X : mj_XT} {l : Launch} {G : mj_GT} {ad : Nat → Nat} {Qn : Option Value → mj_IT → mj_LT → Prop} (hR : mj_R X l G mj_P0 mj_S0 98 ad 0 0 Qn) (F : Nat) (I : mj_IT) (L : mj_LT) (r71 : Nat → Int32) (r80 : Nat → Int32) (q90 : Nat → Int64) (o : ((Int64))) (hf : fnX11_ended F r71 r80 q90 = some o) (hq : (fun ov => Qn (some (.long ov)) (mj_rows I [(71, r71), (80, r80)]) (mj_rows L [(90, q90)])) o) : mj_W X G RX11 "ended" cX11_ended 1 2 (some .long) mj_P0 mj_S0 98 ad 0 0 0 [(0, .ref 71)] [] (mj_rows I [(71, r71), (80, r80)]) (mj_rows L [(90, q90)]) := by
  unfold fnX11_ended at hf
  refine mj_aload_n 0 dX11_ended_0 rfl ?_
  refine mj_aload_n 0 dX11_ended_1 rfl ?_
  refine mj_getIv (v := (r71 4)) rfl fl_X11_172 rfl s0_71 a0_71 dX11_ended_2 ?_
  obtain ⟨o1, ho1, hf⟩ := mj_bd hf
  refine mj_callVd (I2 := (mj_rows I [(71, r71), (80, r80)])) (L2 := (mj_rows L [(90, q90)])) (s1 := [.long o1]) (st := []) [.int (r71 4)] (cmX11_sumAt X.2.1 G F (r71 4) _ _ r71 r80 q90 rfl rfl rfl o1 ho1) (mj_rr rfl) (mj_rr rfl) cw_X11_319 s0_71 a0_71 (by decide) rfl rfl (Nat.le_of_ble_eq_true rfl) ⟨Nat.zero_le _, Nat.zero_le _⟩ dX11_ended_5 rfl ?_
  obtain rfl := Option.some.inj hf
  have hZ := hq
  exact mj_lret hR ⟨Nat.le_refl _, Nat.le_refl _⟩ rfl dX11_ended_8 hZ
set_option maxRecDepth 100000 in
set_option maxHeartbeats 4000000 in
theorem cmX11_ended (l : Launch) (G : mj_GT) (F : Nat) (I : mj_IT) (L : mj_LT) (r71 : Nat → Int32) (r80 : Nat → Int32) (q90 : Nat → Int64) (hr71 : I 71 = r71) (hr80 : I 80 = r80) (hq90 : L 90 = q90) (o : ((Int64))) (hf : fnX11_ended F r71 r80 q90 = some o) : mj_M l G yX11_ended cX11_ended 1 2 (some .long) 0 0 mj_P0 mj_S0 98 [.ref 71] I L (mj_qd (some (.long o)) (mj_rows I [(71, r71), (80, r80)]) (mj_rows L [(90, q90)])) := by
  refine mj_in RX11 "ended" [(0, .ref 71)] rfl rfl rfl (by decide) (Nat.le_of_ble_eq_true rfl) (fun X ad hR => ?_)
  refine mj_toI [(71, r71), (80, r80)] (by intro q hq; simp only [List.mem_cons, List.not_mem_nil, or_false] at hq; rcases hq with rfl | rfl <;> assumption) ?_
  refine mj_toL [(90, q90)] (by intro q hq; simp only [List.mem_cons, List.not_mem_nil, or_false] at hq; rcases hq with rfl <;> assumption) ?_
  refine mtX11_ended hR F I L r71 r80 q90 o hf ?_
  exact ⟨rfl, rfl, rfl⟩

-- X11_formed
def bdX11_formed_9 (F : Nat) (x0 : Int64) (x2 : Int32) (x3 : Int64) : Option (((Int64)) ⊕ (Unit ⊕ ((Int64)))) := (if (20000 : Int64) < x3 then some (.inr (.inl ())) else (if (20000 : Int64) < ((x3 * x0) - (x3 * x0) / (998244353 : Int64) * (998244353 : Int64)) then some (.inl (x3 + (1 : Int64))) else some (.inr (.inr x3))))
def fnX11_formed (F : Nat) (x0 : Int64) (x2 : Int32) : Option ((Int32)) := (if x2 = 0 then some x0.toInt32 else (mj_it (bdX11_formed_9 F x0 x2) F (1 : Int64)).bind (Sum.elim (fun _ => some (-1 : Int32)) (fun x3_4 => (if x2 = (1 : Int32) then some (((x3_4 * x0) - (x3_4 * x0) / (998244353 : Int64) * (998244353 : Int64)).toInt32) else some x3_4.toInt32))))
set_option maxRecDepth 100000 in
set_option maxHeartbeats 4000000 in
theorem lpX11_formed_9 {X : mj_XT} {l : Launch} {G : mj_GT} {ad : Nat → Nat} {Qn : Option Value → mj_IT → mj_LT → Prop} (hR : mj_R X l G mj_P0 mj_S0 98 ad 0 0 Qn) (F : Nat) (I : mj_IT) (L : mj_LT) (x0 : Int64) (x2 : Int32) : ∀ (n : Nat) (s : ((Int64))) (e : (Unit ⊕ ((Int64)))), mj_it (bdX11_formed_9 F x0 x2) n s = some e → (Sum.elim (fun _ => mj_W X G RX11 "formed" cX11_formed 5 1 (some .int) mj_P0 mj_S0 98 ad 0 0 57 [] [] I L) (fun x3 => mj_W X G RX11 "formed" cX11_formed 5 1 (some .int) mj_P0 mj_S0 98 ad 0 0 31 [(0, .long x0), (2, .int x2), (3, .long x3)] [] I L)) e → (fun x3 => mj_W X G RX11 "formed" cX11_formed 5 1 (some .int) mj_P0 mj_S0 98 ad 0 0 9 [(0, .long x0), (2, .int x2), (3, .long x3)] [] I L) s := by
  refine mj_loop (fun x3 o hf hc hx => ?_)
  unfold bdX11_formed_9 at hf
  refine mj_lload_n 2 dX11_formed_9 rfl ?_
  refine mj_ldc2 kk_X11_323 dX11_formed_10 ?_
  refine mj_lc_gt 57 dX11_formed_13 dX11_formed_14 (by decide) (fun c1 => ?_) (fun c1 => ?_)
  · replace hf := mj_pos c1 hf
    refine mj_sub [] [] rfl ?_
    obtain rfl := Option.some.inj hf
    have hZ := hx (.inl ()) rfl
    replace hZ := mj_el hZ
    exact hZ
  · replace hf := mj_neg c1 hf
    refine mj_lload_n 2 dX11_formed_17 rfl ?_
    refine mj_lload_n 0 dX11_formed_18 rfl ?_
    refine mj_lmul dX11_formed_19 ?_
    refine mj_ldc2 kk_X11_279 dX11_formed_20 ?_
    refine mj_lrem dX11_formed_23 (by decide) ?_
    refine mj_ldc2 kk_X11_323 dX11_formed_24 ?_
    refine mj_lc_gt 50 dX11_formed_27 dX11_formed_28 (by decide) (fun c2 => ?_) (fun c2 => ?_)
    · replace hf := mj_pos c2 hf
      refine mj_lload_n 2 dX11_formed_50 rfl ?_
      refine mj_lconst (v := 1) dX11_formed_51 (by decide) ?_
      refine mj_ladd dX11_formed_52 ?_
      refine mj_lstore_n [(3, .long (x3 + (1 : Int64))), (0, .long x0), (2, .int x2)] dX11_formed_53 rfl (by decide) rfl ?_
      refine mj_goto 9 dX11_formed_54 (by decide) ?_
      refine mj_sub [1, 2, 0] [(0, .long x0), (2, .int x2), (3, .long (x3 + (1 : Int64)))] rfl ?_
      obtain rfl := Option.some.inj hf
      have hZ := hc (x3 + (1 : Int64)) rfl
      exact hZ
    · replace hf := mj_neg c2 hf
      obtain rfl := Option.some.inj hf
      have hZ := hx (.inr x3) rfl
      replace hZ := mj_er hZ
      exact hZ
set_option maxRecDepth 100000 in
set_option maxHeartbeats 4000000 in
theorem mtX11_formed {X : mj_XT} {l : Launch} {G : mj_GT} {ad : Nat → Nat} {Qn : Option Value → mj_IT → mj_LT → Prop} (hR : mj_R X l G mj_P0 mj_S0 98 ad 0 0 Qn) (F : Nat) (I : mj_IT) (L : mj_LT) (x0 : Int64) (x2 : Int32) (o : ((Int32))) (hf : fnX11_formed F x0 x2 = some o) (hq : (fun ov => Qn (some (.int ov)) I L) o) : mj_W X G RX11 "formed" cX11_formed 5 1 (some .int) mj_P0 mj_S0 98 ad 0 0 0 [(0, .long x0), (2, .int x2)] [] I L := by
  unfold fnX11_formed at hf
  refine mj_iload_n 1 dX11_formed_0 rfl ?_
  refine mj_if_ne 7 dX11_formed_1 (by decide) (fun c3 => ?_) (fun c3 => ?_)
  · replace hf := mj_neg c3 hf
    refine mj_lconst (v := 1) dX11_formed_7 (by decide) ?_
    refine mj_lstore_n [(3, .long (1 : Int64)), (0, .long x0), (2, .int x2)] dX11_formed_8 rfl (by decide) rfl ?_
    refine mj_sub [1, 2, 0] [(0, .long x0), (2, .int x2), (3, .long (1 : Int64))] rfl ?_
    obtain ⟨e4, ho4, hf⟩ := mj_bd hf
    refine lpX11_formed_9 hR F I L x0 x2 F (1 : Int64) e4 ho4 ?_
    rcases e4 with e4 | x3_4
    · replace hf := mj_ele hf
      refine mj_elq (?_)
      refine mj_iconst dX11_formed_57 kc_iconst_m1 ?_
      obtain rfl := Option.some.inj hf
      have hZ := hq
      exact mj_iret hR ⟨Nat.le_refl _, Nat.le_refl _⟩ rfl rfl dX11_formed_58 hZ
    · replace hf := mj_ere hf
      refine mj_erq (?_)
      refine mj_iload_n 1 dX11_formed_31 rfl ?_
      refine mj_iconst dX11_formed_32 kc_iconst_1 ?_
      refine mj_icmp_ne 47 dX11_formed_33 (by decide) (fun c5 => ?_) (fun c5 => ?_)
      · replace hf := mj_neg c5 hf
        refine mj_lload_n 2 dX11_formed_47 rfl ?_
        refine mj_l2i dX11_formed_48 ?_
        obtain rfl := Option.some.inj hf
        have hZ := hq
        exact mj_iret hR ⟨Nat.le_refl _, Nat.le_refl _⟩ rfl rfl dX11_formed_49 hZ
      · replace hf := mj_pos c5 hf
        refine mj_lload_n 2 dX11_formed_36 rfl ?_
        refine mj_lload_n 0 dX11_formed_37 rfl ?_
        refine mj_lmul dX11_formed_38 ?_
        refine mj_ldc2 kk_X11_279 dX11_formed_39 ?_
        refine mj_lrem dX11_formed_42 (by decide) ?_
        refine mj_l2i dX11_formed_43 ?_
        refine mj_goto 49 dX11_formed_44 (by decide) ?_
        obtain rfl := Option.some.inj hf
        have hZ := hq
        exact mj_iret hR ⟨Nat.le_refl _, Nat.le_refl _⟩ rfl rfl dX11_formed_49 hZ
  · replace hf := mj_pos c3 hf
    refine mj_lload_n 0 dX11_formed_4 rfl ?_
    refine mj_l2i dX11_formed_5 ?_
    obtain rfl := Option.some.inj hf
    have hZ := hq
    exact mj_iret hR ⟨Nat.le_refl _, Nat.le_refl _⟩ rfl rfl dX11_formed_6 hZ
set_option maxRecDepth 100000 in
set_option maxHeartbeats 4000000 in
theorem cmX11_formed (l : Launch) (G : mj_GT) (F : Nat) (x0 : Int64) (x2 : Int32) (I : mj_IT) (L : mj_LT) (o : ((Int32))) (hf : fnX11_formed F x0 x2 = some o) : mj_M l G yX11_formed cX11_formed 5 1 (some .int) 0 0 mj_P0 mj_S0 98 [.long x0, .int x2] I L (mj_qd (some (.int o)) I L) := by
  refine mj_in RX11 "formed" [(0, .long x0), (2, .int x2)] rfl rfl rfl (by decide) (Nat.le_of_ble_eq_true rfl) (fun X ad hR => ?_)
  refine mtX11_formed hR F I L x0 x2 o hf ?_
  exact ⟨rfl, rfl, rfl⟩

-- X11_isForm
def fnX11_isForm (F : Nat) (x1 : Int32) : Option ((Int32)) := (fnX11_lies F x1.toInt64 (0 : Int64) (2 : Int64)).bind (fun o1 => (if mj_bb o1 = true then some o1 else none))
set_option maxRecDepth 100000 in
set_option maxHeartbeats 4000000 in
theorem mtX11_isForm {X : mj_XT} {l : Launch} {G : mj_GT} {ad : Nat → Nat} {Qn : Option Value → mj_IT → mj_LT → Prop} (hR : mj_R X l G mj_P0 mj_S0 98 ad 0 0 Qn) (F : Nat) (I : mj_IT) (L : mj_LT) (x1 : Int32) (o : ((Int32))) (hf : fnX11_isForm F x1 = some o) (hq : (fun ov => Qn (some (.int ov)) I L) o) : mj_W X G RX11 "isForm" cX11_isForm 2 2 (some .boolean) mj_P0 mj_S0 98 ad 0 0 0 [(0, .ref 71), (1, .int x1)] [] I L := by
  unfold fnX11_isForm at hf
  refine mj_iload_n 1 dX11_isForm_0 rfl ?_
  refine mj_i2l dX11_isForm_1 ?_
  refine mj_lconst (v := 0) dX11_isForm_2 (by decide) ?_
  refine mj_ldc2 kk_X11_281 dX11_isForm_3 ?_
  obtain ⟨o1, ho1, hf⟩ := mj_bd hf
  refine mj_callSd (I2 := I) (L2 := L) (s1 := [.int o1]) (st := []) [.long x1.toInt64, .long (0 : Int64), .long (2 : Int64)] (cmX11_lies X.2.1 G F x1.toInt64 (0 : Int64) (2 : Int64) _ _   o1 ho1) rfl rfl cw_X11_157 (by decide) rfl rfl (Nat.le_of_ble_eq_true rfl) ⟨Nat.zero_le _, Nat.zero_le _⟩ dX11_isForm_6 rfl ?_
  obtain ⟨z2, hf⟩ := mj_ck hf
  obtain rfl := Option.some.inj hf
  have hZ := hq
  exact mj_iret hR ⟨Nat.le_refl _, Nat.le_refl _⟩ rfl (mj_bb_n z2).1 dX11_isForm_9 hZ
set_option maxRecDepth 100000 in
set_option maxHeartbeats 4000000 in
theorem cmX11_isForm (l : Launch) (G : mj_GT) (F : Nat) (x1 : Int32) (I : mj_IT) (L : mj_LT) (o : ((Int32))) (hf : fnX11_isForm F x1 = some o) : mj_M l G yX11_isForm cX11_isForm 2 2 (some .boolean) 0 0 mj_P0 mj_S0 98 [.ref 71, .int x1] I L (mj_qd (some (.int o)) I L) := by
  refine mj_in RX11 "isForm" [(0, .ref 71), (1, .int x1)] rfl rfl rfl (by decide) (Nat.le_of_ble_eq_true rfl) (fun X ad hR => ?_)
  refine mtX11_isForm hR F I L x1 o hf ?_
  exact ⟨rfl, rfl, rfl⟩

-- X11_isFew
def fnX11_isFew (F : Nat) (r71 : Nat → Int32) (r72 : Nat → Int32) (r73 : Nat → Int32) (r75 : Nat → Int32) (r80 : Nat → Int32) (r81 : Nat → Int32) (r82 : Nat → Int32) (r83 : Nat → Int32) (r84 : Nat → Int32) (r85 : Nat → Int32) (r86 : Nat → Int32) (r87 : Nat → Int32) : Option ((Int32) × (Nat → Int32) × (Nat → Int32) × (Nat → Int32) × (Nat → Int32) × (Nat → Int32) × (Nat → Int32) × (Nat → Int32) × (Nat → Int32) × (Nat → Int32)) := (fnX11_lays F r71 r73 r75 r80 r81 r82 r83 r84 r85 r86 r87).bind (fun o1 => (if (o1.1 21) = 0 then (fnX11_isFine F o1.1 r72 (1 : Int32) (1 : Int32) (2 : Int32)).bind (fun o5 => (if mj_bb o5.1 = true then some (o5.1, o5.2.1, o5.2.2, o1.2.1, o1.2.2.1, o1.2.2.2.1, o1.2.2.2.2.1, o1.2.2.2.2.2.1, o1.2.2.2.2.2.2.1, o1.2.2.2.2.2.2.2) else none)) else (fnX11_isFine F o1.1 r72 (0 : Int32) (1 : Int32) (2 : Int32)).bind (fun o3 => (if mj_bb o3.1 = true then some (o3.1, o3.2.1, o3.2.2, o1.2.1, o1.2.2.1, o1.2.2.2.1, o1.2.2.2.2.1, o1.2.2.2.2.2.1, o1.2.2.2.2.2.2.1, o1.2.2.2.2.2.2.2) else none))))
set_option maxRecDepth 100000 in
set_option maxHeartbeats 4000000 in
theorem mtX11_isFew {X : mj_XT} {l : Launch} {G : mj_GT} {ad : Nat → Nat} {Qn : Option Value → mj_IT → mj_LT → Prop} (hR : mj_R X l G mj_P0 mj_S0 98 ad 0 0 Qn) (F : Nat) (I : mj_IT) (L : mj_LT) (r71 : Nat → Int32) (r72 : Nat → Int32) (r73 : Nat → Int32) (r75 : Nat → Int32) (r80 : Nat → Int32) (r81 : Nat → Int32) (r82 : Nat → Int32) (r83 : Nat → Int32) (r84 : Nat → Int32) (r85 : Nat → Int32) (r86 : Nat → Int32) (r87 : Nat → Int32) (o : ((Int32) × (Nat → Int32) × (Nat → Int32) × (Nat → Int32) × (Nat → Int32) × (Nat → Int32) × (Nat → Int32) × (Nat → Int32) × (Nat → Int32) × (Nat → Int32))) (hf : fnX11_isFew F r71 r72 r73 r75 r80 r81 r82 r83 r84 r85 r86 r87 = some o) (hq : (mj_u2 (fun ov => (mj_u2 (fun r71 => (mj_u2 (fun r72 => (mj_u2 (fun r80 => (mj_u2 (fun r81 => (mj_u2 (fun r82 => (mj_u2 (fun r83 => (mj_u2 (fun r84 => (mj_u2 (fun r85 r86 => Qn (some (.int ov)) (mj_rows I [(71, r71), (72, r72), (73, r73), (75, r75), (80, r80), (81, r81), (82, r82), (83, r83), (84, r84), (85, r85), (86, r86), (87, r87)]) L)))))))))))))))))) o) : mj_W X G RX11 "isFew" cX11_isFew 1 7 (some .boolean) mj_P0 mj_S0 98 ad 0 0 0 [(0, .ref 71)] [] (mj_rows I [(71, r71), (72, r72), (73, r73), (75, r75), (80, r80), (81, r81), (82, r82), (83, r83), (84, r84), (85, r85), (86, r86), (87, r87)]) L := by
  unfold fnX11_isFew at hf
  refine mj_aload_n 0 dX11_isFew_0 rfl ?_
  obtain ⟨o1, ho1, hf⟩ := mj_bd hf
  refine mj_callVd (I2 := (mj_rows I [(71, o1.1), (72, r72), (73, r73), (75, r75), (80, o1.2.1), (81, o1.2.2.1), (82, o1.2.2.2.1), (83, o1.2.2.2.2.1), (84, o1.2.2.2.2.2.1), (85, o1.2.2.2.2.2.2.1), (86, o1.2.2.2.2.2.2.2), (87, r87)])) (L2 := L) (s1 := []) (st := []) [] (cmX11_lays X.2.1 G F  _ _ r71 r73 r75 r80 r81 r82 r83 r84 r85 r86 r87 rfl rfl rfl rfl rfl rfl rfl rfl rfl rfl rfl o1 ho1) (mj_rr rfl) rfl cw_X11_325 s0_71 a0_71 (by decide) rfl rfl (Nat.le_of_ble_eq_true rfl) ⟨Nat.zero_le _, Nat.zero_le _⟩ dX11_isFew_1 rfl ?_
  refine mj_aload_n 0 dX11_isFew_4 rfl ?_
  refine mj_aload_n 0 dX11_isFew_5 rfl ?_
  refine mj_getIv (v := (o1.1 21)) rfl fl_X11_236 rfl s0_71 a0_71 dX11_isFew_6 ?_
  refine mj_if_ne 16 dX11_isFew_9 (by decide) (fun c2 => ?_) (fun c2 => ?_)
  · replace hf := mj_neg c2 hf
    refine mj_iconst dX11_isFew_16 kc_iconst_0 ?_
    refine mj_iconst dX11_isFew_17 kc_iconst_1 ?_
    refine mj_iconst dX11_isFew_18 kc_iconst_2 ?_
    obtain ⟨o3, ho3, hf⟩ := mj_bd hf
    refine mj_callVd (I2 := (mj_rows I [(71, o3.2.1), (72, o3.2.2), (73, r73), (75, r75), (80, o1.2.1), (81, o1.2.2.1), (82, o1.2.2.2.1), (83, o1.2.2.2.2.1), (84, o1.2.2.2.2.2.1), (85, o1.2.2.2.2.2.2.1), (86, o1.2.2.2.2.2.2.2), (87, r87)])) (L2 := L) (s1 := [.int o3.1]) (st := []) [.int (0 : Int32), .int (1 : Int32), .int (2 : Int32)] (cmX11_isFine X.2.1 G F (0 : Int32) (1 : Int32) (2 : Int32) _ _ o1.1 r72 rfl rfl o3 ho3) (mj_rr rfl) rfl cw_X11_161 s0_71 a0_71 (by decide) rfl rfl (Nat.le_of_ble_eq_true rfl) ⟨Nat.zero_le _, Nat.zero_le _⟩ dX11_isFew_19 rfl ?_
    obtain ⟨z4, hf⟩ := mj_ck hf
    obtain rfl := Option.some.inj hf
    have hZ := hq
    replace hZ := mj_u2p hZ
    replace hZ := mj_u2p hZ
    replace hZ := mj_u2p hZ
    replace hZ := mj_u2p hZ
    replace hZ := mj_u2p hZ
    replace hZ := mj_u2p hZ
    replace hZ := mj_u2p hZ
    replace hZ := mj_u2p hZ
    replace hZ := mj_u2p hZ
    exact mj_iret hR ⟨Nat.le_refl _, Nat.le_refl _⟩ rfl (mj_bb_n z4).1 dX11_isFew_22 hZ
  · replace hf := mj_pos c2 hf
    refine mj_iconst dX11_isFew_12 kc_iconst_1 ?_
    refine mj_goto 17 dX11_isFew_13 (by decide) ?_
    refine mj_iconst dX11_isFew_17 kc_iconst_1 ?_
    refine mj_iconst dX11_isFew_18 kc_iconst_2 ?_
    obtain ⟨o5, ho5, hf⟩ := mj_bd hf
    refine mj_callVd (I2 := (mj_rows I [(71, o5.2.1), (72, o5.2.2), (73, r73), (75, r75), (80, o1.2.1), (81, o1.2.2.1), (82, o1.2.2.2.1), (83, o1.2.2.2.2.1), (84, o1.2.2.2.2.2.1), (85, o1.2.2.2.2.2.2.1), (86, o1.2.2.2.2.2.2.2), (87, r87)])) (L2 := L) (s1 := [.int o5.1]) (st := []) [.int (1 : Int32), .int (1 : Int32), .int (2 : Int32)] (cmX11_isFine X.2.1 G F (1 : Int32) (1 : Int32) (2 : Int32) _ _ o1.1 r72 rfl rfl o5 ho5) (mj_rr rfl) rfl cw_X11_161 s0_71 a0_71 (by decide) rfl rfl (Nat.le_of_ble_eq_true rfl) ⟨Nat.zero_le _, Nat.zero_le _⟩ dX11_isFew_19 rfl ?_
    obtain ⟨z6, hf⟩ := mj_ck hf
    obtain rfl := Option.some.inj hf
    have hZ := hq
    replace hZ := mj_u2p hZ
    replace hZ := mj_u2p hZ
    replace hZ := mj_u2p hZ
    replace hZ := mj_u2p hZ
    replace hZ := mj_u2p hZ
    replace hZ := mj_u2p hZ
    replace hZ := mj_u2p hZ
    replace hZ := mj_u2p hZ
    replace hZ := mj_u2p hZ
    exact mj_iret hR ⟨Nat.le_refl _, Nat.le_refl _⟩ rfl (mj_bb_n z6).1 dX11_isFew_22 hZ
set_option maxRecDepth 100000 in
set_option maxHeartbeats 4000000 in
theorem cmX11_isFew (l : Launch) (G : mj_GT) (F : Nat) (I : mj_IT) (L : mj_LT) (r71 : Nat → Int32) (r72 : Nat → Int32) (r73 : Nat → Int32) (r75 : Nat → Int32) (r80 : Nat → Int32) (r81 : Nat → Int32) (r82 : Nat → Int32) (r83 : Nat → Int32) (r84 : Nat → Int32) (r85 : Nat → Int32) (r86 : Nat → Int32) (r87 : Nat → Int32) (hr71 : I 71 = r71) (hr72 : I 72 = r72) (hr73 : I 73 = r73) (hr75 : I 75 = r75) (hr80 : I 80 = r80) (hr81 : I 81 = r81) (hr82 : I 82 = r82) (hr83 : I 83 = r83) (hr84 : I 84 = r84) (hr85 : I 85 = r85) (hr86 : I 86 = r86) (hr87 : I 87 = r87) (o : ((Int32) × (Nat → Int32) × (Nat → Int32) × (Nat → Int32) × (Nat → Int32) × (Nat → Int32) × (Nat → Int32) × (Nat → Int32) × (Nat → Int32) × (Nat → Int32))) (hf : fnX11_isFew F r71 r72 r73 r75 r80 r81 r82 r83 r84 r85 r86 r87 = some o) : mj_M l G yX11_isFew cX11_isFew 1 7 (some .boolean) 0 0 mj_P0 mj_S0 98 [.ref 71] I L (mj_qd (some (.int o.1)) (mj_rows I [(71, o.2.1), (72, o.2.2.1), (73, r73), (75, r75), (80, o.2.2.2.1), (81, o.2.2.2.2.1), (82, o.2.2.2.2.2.1), (83, o.2.2.2.2.2.2.1), (84, o.2.2.2.2.2.2.2.1), (85, o.2.2.2.2.2.2.2.2.1), (86, o.2.2.2.2.2.2.2.2.2), (87, r87)]) L) := by
  refine mj_in RX11 "isFew" [(0, .ref 71)] rfl rfl rfl (by decide) (Nat.le_of_ble_eq_true rfl) (fun X ad hR => ?_)
  refine mj_toI [(71, r71), (72, r72), (73, r73), (75, r75), (80, r80), (81, r81), (82, r82), (83, r83), (84, r84), (85, r85), (86, r86), (87, r87)] (by intro q hq; simp only [List.mem_cons, List.not_mem_nil, or_false] at hq; rcases hq with rfl | rfl | rfl | rfl | rfl | rfl | rfl | rfl | rfl | rfl | rfl | rfl <;> assumption) ?_
  refine mtX11_isFew hR F I L r71 r72 r73 r75 r80 r81 r82 r83 r84 r85 r86 r87 o hf ?_
  obtain ⟨w0, w1, w2, w3, w4, w5, w6, w7, w8, w9⟩ := o
  refine mj_u2q ?_
  refine mj_u2q ?_
  refine mj_u2q ?_
  refine mj_u2q ?_
  refine mj_u2q ?_
  refine mj_u2q ?_
  refine mj_u2q ?_
  refine mj_u2q ?_
  refine mj_u2q ?_
  exact ⟨rfl, rfl, rfl⟩

