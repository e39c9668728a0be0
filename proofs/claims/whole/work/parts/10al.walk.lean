-- X11_passes_71_2005
def fnX11_passes_71_2005 (F : Nat) (r71 : Nat → Int32) (r77 : Nat → Int32) : Option ((Int32) × (Nat → Int32)) := (if 0 < (r71 14) then some ((0 : Int32), r71) else (fnX11_isHere_71_2005 F r71 r77).bind (fun o2 => (if o2.1 = 0 then some ((0 : Int32), o2.2) else some ((1 : Int32), (upd o2.2 11 ((o2.2 11) + (7 : Int32)))))))
set_option maxRecDepth 100000 in
set_option maxHeartbeats 4000000 in
theorem mtX11_passes_71_2005 {X : mj_XT} {l : Launch} {G : mj_GT} {ad : Nat → Nat} {Qn : Option Value → mj_IT → mj_LT → Prop} (hR : mj_R X l G mj_P0 mj_S0 98 ad 0 0 Qn) (F : Nat) (I : mj_IT) (L : mj_LT) (r71 : Nat → Int32) (r77 : Nat → Int32) (o : ((Int32) × (Nat → Int32))) (hf : fnX11_passes_71_2005 F r71 r77 = some o) (hq : (mj_u2 (fun ov r71 => Qn (some (.int ov)) (mj_rows I [(71, r71), (77, r77)]) L)) o) : mj_W X G RX11 "passes" cX11_passes 2 6 (some .boolean) mj_P0 mj_S0 98 ad 0 0 0 [(0, .ref 71), (1, .ref 2005)] [] (mj_rows I [(71, r71), (77, r77)]) L := by
  unfold fnX11_passes_71_2005 at hf
  refine mj_aload_n 0 dX11_passes_0 rfl ?_
  refine mj_getIv (v := (r71 14)) rfl fl_X11_25 rfl s0_71 a0_71 dX11_passes_1 ?_
  refine mj_if_gt 15 dX11_passes_4 (by decide) (fun c1 => ?_) (fun c1 => ?_)
  · replace hf := mj_pos c1 hf
    refine mj_iconst dX11_passes_15 kc_iconst_0 ?_
    obtain rfl := Option.some.inj hf
    have hZ := hq
    replace hZ := mj_u2p hZ
    exact mj_iret hR ⟨Nat.le_refl _, Nat.le_refl _⟩ rfl (by decide) dX11_passes_16 hZ
  · replace hf := mj_neg c1 hf
    refine mj_aload_n 0 dX11_passes_7 rfl ?_
    refine mj_aload_n 1 dX11_passes_8 rfl ?_
    obtain ⟨o2, ho2, hf⟩ := mj_bd hf
    refine mj_callVd (I2 := (mj_rows I [(71, o2.2), (77, r77)])) (L2 := L) (s1 := [.int o2.1]) (st := []) [.ref 2005] (cmX11_isHere_71_2005 X.2.1 G F  _ _ r71 r77 rfl rfl o2 ho2) (mj_rr rfl) rfl cw_X11_57 s0_71 a0_71 (by decide) rfl rfl (Nat.le_of_ble_eq_true rfl) ⟨Nat.zero_le _, Nat.zero_le _⟩ dX11_passes_9 rfl ?_
    refine mj_if_ne 17 dX11_passes_12 (by decide) (fun c3 => ?_) (fun c3 => ?_)
    · replace hf := mj_neg c3 hf
      refine mj_aload_n 0 dX11_passes_17 rfl ?_
      refine mj_dup dX11_passes_18 rfl ?_
      refine mj_getIv (v := (o2.2 11)) rfl fl_X11_31 rfl s0_71 a0_71 dX11_passes_19 ?_
      refine mj_aload_n 1 dX11_passes_22 rfl ?_
      refine mj_callVs (i := 4) (I2 := (mj_rows I [(71, o2.2), (77, r77)])) (L2 := L) (s1 := [.int (7 : Int32), .int (o2.2 11), .ref 71]) (st := [.int (o2.2 11), .ref 71]) [] (cmJ0_length X.2.1 G 4 2005 rfl (by decide) _ _) rfl rfl cw_X11_44 rfl (by decide) (by decide) rfl rfl (Nat.le_of_ble_eq_true rfl) ⟨Nat.zero_le _, Nat.zero_le _⟩ dX11_passes_23 rfl ?_
      refine mj_iadd dX11_passes_26 ?_
      refine mj_putIr (ci := 9) (j := 11) [(71, (upd o2.2 11 ((o2.2 11) + (7 : Int32)))), (77, r77)] rfl ⟨rfl, rfl⟩ fl_X11_31 rfl rfl s0_71 a0_71 dX11_passes_27 ?_
      refine mj_iconst dX11_passes_30 kc_iconst_1 ?_
      obtain rfl := Option.some.inj hf
      have hZ := hq
      replace hZ := mj_u2p hZ
      exact mj_iret hR ⟨Nat.le_refl _, Nat.le_refl _⟩ rfl (by decide) dX11_passes_31 hZ
    · replace hf := mj_pos c3 hf
      refine mj_iconst dX11_passes_15 kc_iconst_0 ?_
      obtain rfl := Option.some.inj hf
      have hZ := hq
      replace hZ := mj_u2p hZ
      exact mj_iret hR ⟨Nat.le_refl _, Nat.le_refl _⟩ rfl (by decide) dX11_passes_16 hZ
set_option maxRecDepth 100000 in
set_option maxHeartbeats 4000000 in
theorem cmX11_passes_71_2005 (l : Launch) (G : mj_GT) (F : Nat) (I : mj_IT) (L : mj_LT) (r71 : Nat → Int32) (r77 : Nat → Int32) (hr71 : I 71 = r71) (hr77 : I 77 = r77) (o : ((Int32) × (Nat → Int32))) (hf : fnX11_passes_71_2005 F r71 r77 = some o) : mj_M l G yX11_passes cX11_passes 2 6 (some .boolean) 0 0 mj_P0 mj_S0 98 [.ref 71, .ref 2005] I L (mj_qd (some (.int o.1)) (mj_rows I [(71, o.2), (77, r77)]) L) := by
  refine mj_in RX11 "passes" [(0, .ref 71), (1, .ref 2005)] rfl rfl rfl (by decide) (Nat.le_of_ble_eq_true rfl) (fun X ad hR => ?_)
  refine mj_toI [(71, r71), (77, r77)] (by intro q hq; simp only [List.mem_cons, List.not_mem_nil, or_false] at hq; rcases hq with rfl | rfl <;> assumption) ?_
  refine mtX11_passes_71_2005 hR F I L r71 r77 o hf ?_
  obtain ⟨w0, w1⟩ := o
  refine mj_u2q ?_
  exact ⟨rfl, rfl, rfl⟩

-- X11_passes_71_2006
def fnX11_passes_71_2006 (F : Nat) (r71 : Nat → Int32) (r77 : Nat → Int32) : Option ((Int32) × (Nat → Int32)) := (if 0 < (r71 14) then some ((0 : Int32), r71) else (fnX11_isHere_71_2006 F r71 r77).bind (fun o2 => (if o2.1 = 0 then some ((0 : Int32), o2.2) else some ((1 : Int32), (upd o2.2 11 ((o2.2 11) + (4 : Int32)))))))
set_option maxRecDepth 100000 in
set_option maxHeartbeats 4000000 in
theorem mtX11_passes_71_2006 {X : mj_XT} {l : Launch} {G : mj_GT} {ad : Nat → Nat} {Qn : Option Value → mj_IT → mj_LT → Prop} (hR : mj_R X l G mj_P0 mj_S0 98 ad 0 0 Qn) (F : Nat) (I : mj_IT) (L : mj_LT) (r71 : Nat → Int32) (r77 : Nat → Int32) (o : ((Int32) × (Nat → Int32))) (hf : fnX11_passes_71_2006 F r71 r77 = some o) (hq : (mj_u2 (fun ov r71 => Qn (some (.int ov)) (mj_rows I [(71, r71), (77, r77)]) L)) o) : mj_W X G RX11 "passes" cX11_passes 2 6 (some .boolean) mj_P0 mj_S0 98 ad 0 0 0 [(0, .ref 71), (1, .ref 2006)] [] (mj_rows I [(71, r71), (77, r77)]) L := by
  unfold fnX11_passes_71_2006 at hf
  refine mj_aload_n 0 dX11_passes_0 rfl ?_
  refine mj_getIv (v := (r71 14)) rfl fl_X11_25 rfl s0_71 a0_71 dX11_passes_1 ?_
  refine mj_if_gt 15 dX11_passes_4 (by decide) (fun c1 => ?_) (fun c1 => ?_)
  · replace hf := mj_pos c1 hf
    refine mj_iconst dX11_passes_15 kc_iconst_0 ?_
    obtain rfl := Option.some.inj hf
    have hZ := hq
    replace hZ := mj_u2p hZ
    exact mj_iret hR ⟨Nat.le_refl _, Nat.le_refl _⟩ rfl (by decide) dX11_passes_16 hZ
  · replace hf := mj_neg c1 hf
    refine mj_aload_n 0 dX11_passes_7 rfl ?_
    refine mj_aload_n 1 dX11_passes_8 rfl ?_
    obtain ⟨o2, ho2, hf⟩ := mj_bd hf
    refine mj_callVd (I2 := (mj_rows I [(71, o2.2), (77, r77)])) (L2 := L) (s1 := [.int o2.1]) (st := []) [.ref 2006] (cmX11_isHere_71_2006 X.2.1 G F  _ _ r71 r77 rfl rfl o2 ho2) (mj_rr rfl) rfl cw_X11_57 s0_71 a0_71 (by decide) rfl rfl (Nat.le_of_ble_eq_true rfl) ⟨Nat.zero_le _, Nat.zero_le _⟩ dX11_passes_9 rfl ?_
    refine mj_if_ne 17 dX11_passes_12 (by decide) (fun c3 => ?_) (fun c3 => ?_)
    · replace hf := mj_neg c3 hf
      refine mj_aload_n 0 dX11_passes_17 rfl ?_
      refine mj_dup dX11_passes_18 rfl ?_
      refine mj_getIv (v := (o2.2 11)) rfl fl_X11_31 rfl s0_71 a0_71 dX11_passes_19 ?_
      refine mj_aload_n 1 dX11_passes_22 rfl ?_
      refine mj_callVs (i := 5) (I2 := (mj_rows I [(71, o2.2), (77, r77)])) (L2 := L) (s1 := [.int (4 : Int32), .int (o2.2 11), .ref 71]) (st := [.int (o2.2 11), .ref 71]) [] (cmJ0_length X.2.1 G 5 2006 rfl (by decide) _ _) rfl rfl cw_X11_44 rfl (by decide) (by decide) rfl rfl (Nat.le_of_ble_eq_true rfl) ⟨Nat.zero_le _, Nat.zero_le _⟩ dX11_passes_23 rfl ?_
      refine mj_iadd dX11_passes_26 ?_
      refine mj_putIr (ci := 9) (j := 11) [(71, (upd o2.2 11 ((o2.2 11) + (4 : Int32)))), (77, r77)] rfl ⟨rfl, rfl⟩ fl_X11_31 rfl rfl s0_71 a0_71 dX11_passes_27 ?_
      refine mj_iconst dX11_passes_30 kc_iconst_1 ?_
      obtain rfl := Option.some.inj hf
      have hZ := hq
      replace hZ := mj_u2p hZ
      exact mj_iret hR ⟨Nat.le_refl _, Nat.le_refl _⟩ rfl (by decide) dX11_passes_31 hZ
    · replace hf := mj_pos c3 hf
      refine mj_iconst dX11_passes_15 kc_iconst_0 ?_
      obtain rfl := Option.some.inj hf
      have hZ := hq
      replace hZ := mj_u2p hZ
      exact mj_iret hR ⟨Nat.le_refl _, Nat.le_refl _⟩ rfl (by decide) dX11_passes_16 hZ
set_option maxRecDepth 100000 in
set_option maxHeartbeats 4000000 in
theorem cmX11_passes_71_2006 (l : Launch) (G : mj_GT) (F : Nat) (I : mj_IT) (L : mj_LT) (r71 : Nat → Int32) (r77 : Nat → Int32) (hr71 : I 71 = r71) (hr77 : I 77 = r77) (o : ((Int32) × (Nat → Int32))) (hf : fnX11_passes_71_2006 F r71 r77 = some o) : mj_M l G yX11_passes cX11_passes 2 6 (some .boolean) 0 0 mj_P0 mj_S0 98 [.ref 71, .ref 2006] I L (mj_qd (some (.int o.1)) (mj_rows I [(71, o.2), (77, r77)]) L) := by
  refine mj_in RX11 "passes" [(0, .ref 71), (1, .ref 2006)] rfl rfl rfl (by decide) (Nat.le_of_ble_eq_true rfl) (fun X ad hR => ?_)
  refine mj_toI [(71, r71), (77, r77)] (by intro q hq; simp only [List.mem_cons, List.not_mem_nil, or_false] at hq; rcases hq with rfl | rfl <;> assumption) ?_
  refine mtX11_passes_71_2006 hR F I L r71 r77 o hf ?_
  obtain ⟨w0, w1⟩ := o
  refine mj_u2q ?_
  exact ⟨rfl, rfl, rfl⟩

-- X11_reads
def bdX11_reads_7 (rw : (Nat → Int32) → (Nat → Int32) → (Nat → Int32) → Int32 → Option ((Int32) × (Nat → Int32) × (Nat → Int32))) (F : Nat) (x1 : Int32) (x2 : Int32) (x3 : Int32) (r74 : Nat → Int32) : Option (((Int32) × (Nat → Int32)) ⊕ ((Nat → Int32))) := (if (12 : Int32) ≤ x3 then some (.inr r74) else (if mj_ib (x2 + x3) 480 = true then some (.inl ((x3 + (1)), (upd r74 ((x2 + x3).toNatClampNeg) (-1 : Int32)))) else none))
def fnX11_reads (rw : (Nat → Int32) → (Nat → Int32) → (Nat → Int32) → Int32 → Option ((Int32) × (Nat → Int32) × (Nat → Int32))) (F : Nat) (r71 : Nat → Int32) (r74 : Nat → Int32) (r77 : Nat → Int32) (x1 : Int32) : Option ((Nat → Int32) × (Nat → Int32)) := (mj_it (mj_u2 (fun z0 z1 => bdX11_reads_7 rw F x1 ((12 : Int32) * x1) z0 z1)) F ((0 : Int32), r74)).bind (fun r74_3 => (fnX11_behind F x1).bind (fun o4 => (if mj_ib (((12 : Int32) * x1) + (3 : Int32)) 480 = true then (fnX11_isNameHere F r71 r77).bind (fun o6 => (if o6.1 = 0 then (fnX11_passes_71_2001 F o6.2 r77).bind (fun o8 => (if o8.1 = 0 then (fnX11_passes_71_2002 F o8.2 r77).bind (fun o10 => (if o10.1 = 0 then (fnX11_passes_71_2003 F o10.2 r77).bind (fun o12 => (if o12.1 = 0 then (fnX11_passes_71_2004 F o12.2 r77).bind (fun o14 => (if o14.1 = 0 then (fnX11_passes_71_2005 F o14.2 r77).bind (fun o16 => (if o16.1 = 0 then (fnX11_passes_71_2006 F o16.2 r77).bind (fun o18 => (if mj_ib (((12 : Int32) * x1) + (0 : Int32)) 480 = true then (if mj_ib (((12 : Int32) * x1) + (3 : Int32)) 480 = true then (fnX11_needs F o18.2 r77 (59 : Int32)).bind (fun o21 => some (o21, (upd (upd (upd r74_3 ((((12 : Int32) * x1) + (3 : Int32)).toNatClampNeg) o4) ((((12 : Int32) * x1) + (0 : Int32)).toNatClampNeg) (6 : Int32)) ((((12 : Int32) * x1) + (3 : Int32)).toNatClampNeg) (-3 : Int32)))) else none) else none)) else (if mj_ib (((12 : Int32) * x1) + (0 : Int32)) 480 = true then (fnX11_test F o16.2 (upd (upd r74_3 ((((12 : Int32) * x1) + (3 : Int32)).toNatClampNeg) o4) ((((12 : Int32) * x1) + (0 : Int32)).toNatClampNeg) (5 : Int32)) r77 x1).bind (fun o23 => (if mj_ib (((12 : Int32) * x1) + (4 : Int32)) 480 = true then (fnX11_needs F o23.1 r77 (59 : Int32)).bind (fun o25 => some (o25, (upd o23.2 ((((12 : Int32) * x1) + (4 : Int32)).toNatClampNeg) (-2 : Int32)))) else none)) else none))) else (if mj_ib (((12 : Int32) * x1) + (0 : Int32)) 480 = true then (fnX11_test F o14.2 (upd (upd r74_3 ((((12 : Int32) * x1) + (3 : Int32)).toNatClampNeg) o4) ((((12 : Int32) * x1) + (0 : Int32)).toNatClampNeg) (4 : Int32)) r77 x1).bind (fun o27 => (fnX11_behind F x1).bind (fun o28 => (if mj_ib (((12 : Int32) * x1) + (4 : Int32)) 480 = true then (fnX11_block rw F o27.1 (upd o27.2 ((((12 : Int32) * x1) + (4 : Int32)).toNatClampNeg) o28) r77 x1).bind (fun o30 => (if mj_ib (((12 : Int32) * x1) + (3 : Int32)) 480 = true then some (o30.2.1, (upd o30.2.2 ((((12 : Int32) * x1) + (3 : Int32)).toNatClampNeg) o30.1)) else none)) else none))) else none))) else (if mj_ib (((12 : Int32) * x1) + (0 : Int32)) 480 = true then (fnX11_test F o12.2 (upd (upd r74_3 ((((12 : Int32) * x1) + (3 : Int32)).toNatClampNeg) o4) ((((12 : Int32) * x1) + (0 : Int32)).toNatClampNeg) (3 : Int32)) r77 x1).bind (fun o33 => (fnX11_forks rw F o33.1 o33.2 r77 x1).bind (fun o34 => some (o34.1, o34.2))) else none))) else (if mj_ib (((12 : Int32) * x1) + (0 : Int32)) 480 = true then (fnX11_numberTo F o10.2 r77 (60 : Int32)).bind (fun o36 => (if mj_ib (((12 : Int32) * x1) + (2 : Int32)) 480 = true then (fnX11_forks rw F o36.2 (upd (upd (upd r74_3 ((((12 : Int32) * x1) + (3 : Int32)).toNatClampNeg) o4) ((((12 : Int32) * x1) + (0 : Int32)).toNatClampNeg) (2 : Int32)) ((((12 : Int32) * x1) + (2 : Int32)).toNatClampNeg) o36.1) r77 x1).bind (fun o38 => some (o38.1, o38.2)) else none)) else none))) else (if mj_ib (((12 : Int32) * x1) + (0 : Int32)) 480 = true then (fnX11_name F o8.2 r77).bind (fun o40 => (if mj_ib (((12 : Int32) * x1) + (1 : Int32)) 480 = true then (fnX11_number F o40.2 r77).bind (fun o42 => (if mj_ib (((12 : Int32) * x1) + (2 : Int32)) 480 = true then (if (o42.2 14) = 0 then (if mj_ib (((12 : Int32) * x1) + (2 : Int32)) 480 = true then (fnX11_isChance F ((upd (upd (upd (upd r74_3 ((((12 : Int32) * x1) + (3 : Int32)).toNatClampNeg) o4) ((((12 : Int32) * x1) + (0 : Int32)).toNatClampNeg) (1 : Int32)) ((((12 : Int32) * x1) + (1 : Int32)).toNatClampNeg) o40.1) ((((12 : Int32) * x1) + (2 : Int32)).toNatClampNeg) o42.1) ((((12 : Int32) * x1) + (2 : Int32)).toNatClampNeg))).bind (fun o47 => (if o47 = 0 then (fnX11_wrong F o42.2 (2 : Int32) (o42.2 12)).bind (fun o50 => (fnX11_needs F o50 r77 (59 : Int32)).bind (fun o51 => some (o51, (upd (upd (upd (upd r74_3 ((((12 : Int32) * x1) + (3 : Int32)).toNatClampNeg) o4) ((((12 : Int32) * x1) + (0 : Int32)).toNatClampNeg) (1 : Int32)) ((((12 : Int32) * x1) + (1 : Int32)).toNatClampNeg) o40.1) ((((12 : Int32) * x1) + (2 : Int32)).toNatClampNeg) o42.1)))) else (fnX11_needs F o42.2 r77 (59 : Int32)).bind (fun o49 => some (o49, (upd (upd (upd (upd r74_3 ((((12 : Int32) * x1) + (3 : Int32)).toNatClampNeg) o4) ((((12 : Int32) * x1) + (0 : Int32)).toNatClampNeg) (1 : Int32)) ((((12 : Int32) * x1) + (1 : Int32)).toNatClampNeg) o40.1) ((((12 : Int32) * x1) + (2 : Int32)).toNatClampNeg) o42.1))))) else none) else (fnX11_needs F o42.2 r77 (59 : Int32)).bind (fun o45 => some (o45, (upd (upd (upd (upd r74_3 ((((12 : Int32) * x1) + (3 : Int32)).toNatClampNeg) o4) ((((12 : Int32) * x1) + (0 : Int32)).toNatClampNeg) (1 : Int32)) ((((12 : Int32) * x1) + (1 : Int32)).toNatClampNeg) o40.1) ((((12 : Int32) * x1) + (2 : Int32)).toNatClampNeg) o42.1)))) else none)) else none)) else none))) else (if mj_ib (((12 : Int32) * x1) + (0 : Int32)) 480 = true then (fnX11_name F o6.2 r77).bind (fun o53 => (if mj_ib (((12 : Int32) * x1) + (1 : Int32)) 480 = true then (fnX11_needs F o53.2 r77 (61 : Int32)).bind (fun o55 => (fnX11_sum F o55 (upd (upd (upd r74_3 ((((12 : Int32) * x1) + (3 : Int32)).toNatClampNeg) o4) ((((12 : Int32) * x1) + (0 : Int32)).toNatClampNeg) (0 : Int32)) ((((12 : Int32) * x1) + (1 : Int32)).toNatClampNeg) o53.1) r77 (((12 : Int32) * x1) + (5 : Int32))).bind (fun o56 => (fnX11_needs F o56.1 r77 (59 : Int32)).bind (fun o57 => some (o57, o56.2)))) else none)) else none))) else none)))
set_option maxRecDepth 100000 in
set_option maxHeartbeats 4000000 in
theorem lpX11_reads_7 {X : mj_XT} {l : Launch} {G : mj_GT} {ad : Nat → Nat} {Qn : Option Value → mj_IT → mj_LT → Prop} (hR : mj_R X l G mj_P0 mj_S0 98 ad 0 0 Qn) (rw : (Nat → Int32) → (Nat → Int32) → (Nat → Int32) → Int32 → Option ((Int32) × (Nat → Int32) × (Nat → Int32))) (dd : Nat) (hd0 : 12 ≤ dd) (hrw : ∀ (l : Launch) (x1 : Int32) (I : mj_IT) (L : mj_LT) (r71 : Nat → Int32) (r74 : Nat → Int32) (r77 : Nat → Int32) (_ : I 71 = r71) (_ : I 74 = r74) (_ : I 77 = r77) (o : ((Int32) × (Nat → Int32) × (Nat → Int32))), rw r71 r74 r77 x1 = some o → mj_M l G yX11_row cX11_row 5 dd (some .int) 0 0 mj_P0 mj_S0 98 [.ref 71, .int x1] I L (mj_qd (some (.int o.1)) (mj_rows I [(71, o.2.1), (74, o.2.2), (77, r77)]) L)) (F : Nat) (I : mj_IT) (L : mj_LT) (r71 : Nat → Int32) (r74 : Nat → Int32) (r77 : Nat → Int32) (x1 : Int32) (x2 : Int32) : ∀ (n : Nat) (s : ((Int32) × (Nat → Int32))) (e : ((Nat → Int32))), mj_it (mj_u2 (fun z0 z1 => bdX11_reads_7 rw F x1 x2 z0 z1)) n s = some e → (fun r74 => mj_W X G RX11 "reads" cX11_reads 4 (dd + 3) none mj_P0 mj_S0 98 ad 0 0 28 [(0, .ref 71), (1, .int x1), (2, .int x2)] [] (mj_rows I [(71, r71), (74, r74), (77, r77)]) L) e → (mj_u2 (fun x3 r74 => mj_W X G RX11 "reads" cX11_reads 4 (dd + 3) none mj_P0 mj_S0 98 ad 0 0 7 [(0, .ref 71), (1, .int x1), (2, .int x2), (3, .int x3)] [] (mj_rows I [(71, r71), (74, r74), (77, r77)]) L)) s := by
  refine mj_loop (fun s o hf hc hx => ?_)
  obtain ⟨x3, r74⟩ := s
  replace hf := mj_u2e hf
  refine mj_u2q ?_
  unfold bdX11_reads_7 at hf
  refine mj_iload_n 3 dX11_reads_7 rfl ?_
  refine mj_bipush dX11_reads_8 kc_bipush_12 ?_
  refine mj_icmp_ge 28 dX11_reads_10 (by decide) (fun c1 => ?_) (fun c1 => ?_)
  · replace hf := mj_pos c1 hf
    refine mj_sub [0, 1, 2] [(0, .ref 71), (1, .int x1), (2, .int x2)] rfl ?_
    obtain rfl := Option.some.inj hf
    have hZ := hx r74 rfl
    exact hZ
  · replace hf := mj_neg c1 hf
    refine mj_aload_n 0 dX11_reads_13 rfl ?_
    refine mj_getP p0_71_3 (by decide) fl_X11_95 rfl s0_71 a0_71 dX11_reads_14 ?_
    refine mj_iload_n 2 dX11_reads_17 rfl ?_
    refine mj_iload_n 3 dX11_reads_18 rfl ?_
    refine mj_iadd dX11_reads_19 ?_
    refine mj_iconst dX11_reads_20 kc_iconst_m1 ?_
    obtain ⟨z2, hf⟩ := mj_ck hf
    refine mj_iastr [(71, r71), (74, (upd r74 ((x2 + x3).toNatClampNeg) (-1 : Int32))), (77, r77)] rfl s0_74 a0_74 z2 dX11_reads_21 ?_
    refine mj_iinc 3 [(3, .int (x3 + (1))), (0, .ref 71), (1, .int x1), (2, .int x2)] dX11_reads_22 rfl (kz_1 _) (by decide) rfl ?_
    refine mj_goto 7 dX11_reads_25 (by decide) ?_
    refine mj_sub [1, 2, 3, 0] [(0, .ref 71), (1, .int x1), (2, .int x2), (3, .int (x3 + (1)))] rfl ?_
    obtain rfl := Option.some.inj hf
    have hZ := hc ((x3 + (1)), (upd r74 ((x2 + x3).toNatClampNeg) (-1 : Int32))) rfl
    replace hZ := mj_u2p hZ
    exact hZ
set_option maxRecDepth 100000 in
set_option maxHeartbeats 4000000 in
theorem mtX11_reads {X : mj_XT} {l : Launch} {G : mj_GT} {ad : Nat → Nat} {Qn : Option Value → mj_IT → mj_LT → Prop} (hR : mj_R X l G mj_P0 mj_S0 98 ad 0 0 Qn) (rw : (Nat → Int32) → (Nat → Int32) → (Nat → Int32) → Int32 → Option ((Int32) × (Nat → Int32) × (Nat → Int32))) (dd : Nat) (hd0 : 12 ≤ dd) (hrw : ∀ (l : Launch) (x1 : Int32) (I : mj_IT) (L : mj_LT) (r71 : Nat → Int32) (r74 : Nat → Int32) (r77 : Nat → Int32) (_ : I 71 = r71) (_ : I 74 = r74) (_ : I 77 = r77) (o : ((Int32) × (Nat → Int32) × (Nat → Int32))), rw r71 r74 r77 x1 = some o → mj_M l G yX11_row cX11_row 5 dd (some .int) 0 0 mj_P0 mj_S0 98 [.ref 71, .int x1] I L (mj_qd (some (.int o.1)) (mj_rows I [(71, o.2.1), (74, o.2.2), (77, r77)]) L)) (F : Nat) (I : mj_IT) (L : mj_LT) (r71 : Nat → Int32) (r74 : Nat → Int32) (r77 : Nat → Int32) (x1 : Int32) (o : ((Nat → Int32) × (Nat → Int32))) (hf : fnX11_reads rw F r71 r74 r77 x1 = some o) (hq : (mj_u2 (fun r71 r74 => Qn none (mj_rows I [(71, r71), (74, r74), (77, r77)]) L)) o) : mj_W X G RX11 "reads" cX11_reads 4 (dd + 3) none mj_P0 mj_S0 98 ad 0 0 0 [(0, .ref 71), (1, .int x1)] [] (mj_rows I [(71, r71), (74, r74), (77, r77)]) L := by
  unfold fnX11_reads at hf
  refine mj_bipush dX11_reads_0 kc_bipush_12 ?_
  refine mj_iload_n 1 dX11_reads_2 rfl ?_
  refine mj_imul dX11_reads_3 ?_
  refine mj_istore_n [(2, .int ((12 : Int32) * x1)), (0, .ref 71), (1, .int x1)] dX11_reads_4 rfl (by decide) rfl ?_
  refine mj_iconst dX11_reads_5 kc_iconst_0 ?_
  refine mj_istore_n [(3, .int (0 : Int32)), (2, .int ((12 : Int32) * x1)), (0, .ref 71), (1, .int x1)] dX11_reads_6 rfl (by decide) rfl ?_
  refine mj_sub [2, 3, 1, 0] [(0, .ref 71), (1, .int x1), (2, .int ((12 : Int32) * x1)), (3, .int (0 : Int32))] rfl ?_
  obtain ⟨r74_3, ho3, hf⟩ := mj_bd hf
  refine lpX11_reads_7 hR rw dd hd0 hrw F I L r71 r74 r77 x1 ((12 : Int32) * x1) F ((0 : Int32), r74) r74_3 ho3 ?_
  refine ?_
  refine mj_aload_n 0 dX11_reads_28 rfl ?_
  refine mj_getP p0_71_3 (by decide) fl_X11_95 rfl s0_71 a0_71 dX11_reads_29 ?_
  refine mj_iload_n 2 dX11_reads_32 rfl ?_
  refine mj_iconst dX11_reads_33 kc_iconst_3 ?_
  refine mj_iadd dX11_reads_34 ?_
  refine mj_aload_n 0 dX11_reads_35 rfl ?_
  refine mj_iload_n 1 dX11_reads_36 rfl ?_
  obtain ⟨o4, ho4, hf⟩ := mj_bd hf
  refine mj_callVd (I2 := (mj_rows I [(71, r71), (74, r74_3), (77, r77)])) (L2 := L) (s1 := [.int o4, .int (((12 : Int32) * x1) + (3 : Int32)), .ref 74]) (st := [.int (((12 : Int32) * x1) + (3 : Int32)), .ref 74]) [.int x1] (cmX11_behind X.2.1 G F x1 _ _   o4 ho4) rfl rfl cw_X11_128 s0_71 a0_71 (by omega) rfl rfl (Nat.le_of_ble_eq_true rfl) ⟨Nat.zero_le _, Nat.zero_le _⟩ dX11_reads_37 rfl ?_
  obtain ⟨z5, hf⟩ := mj_ck hf
  refine mj_iastr [(71, r71), (74, (upd r74_3 ((((12 : Int32) * x1) + (3 : Int32)).toNatClampNeg) o4)), (77, r77)] rfl s0_74 a0_74 z5 dX11_reads_40 ?_
  refine mj_aload_n 0 dX11_reads_41 rfl ?_
  obtain ⟨o6, ho6, hf⟩ := mj_bd hf
  refine mj_callVd (I2 := (mj_rows I [(71, o6.2), (74, (upd r74_3 ((((12 : Int32) * x1) + (3 : Int32)).toNatClampNeg) o4)), (77, r77)])) (L2 := L) (s1 := [.int o6.1]) (st := []) [] (cmX11_isNameHere X.2.1 G F  _ _ r71 r77 rfl rfl o6 ho6) (mj_rr rfl) rfl cw_X11_68 s0_71 a0_71 (by omega) rfl rfl (Nat.le_of_ble_eq_true rfl) ⟨Nat.zero_le _, Nat.zero_le _⟩ dX11_reads_42 rfl ?_
  refine mj_if_eq 91 dX11_reads_45 (by decide) (fun c7 => ?_) (fun c7 => ?_)
  · replace hf := mj_pos c7 hf
    refine mj_aload_n 0 dX11_reads_91 rfl ?_
    refine mj_ldcS (b := 2001) (List.mem_of_getElem? (i := 7) rfl) rfl dX11_reads_92 ?_
    obtain ⟨o8, ho8, hf⟩ := mj_bd hf
    refine mj_callVd (I2 := (mj_rows I [(71, o8.2), (74, (upd r74_3 ((((12 : Int32) * x1) + (3 : Int32)).toNatClampNeg) o4)), (77, r77)])) (L2 := L) (s1 := [.int o8.1]) (st := []) [.ref 2001] (cmX11_passes_71_2001 X.2.1 G F  _ _ o6.2 r77 rfl rfl o8 ho8) (mj_rr rfl) rfl cw_X11_140 s0_71 a0_71 (by omega) rfl rfl (Nat.le_of_ble_eq_true rfl) ⟨Nat.zero_le _, Nat.zero_le _⟩ dX11_reads_94 rfl ?_
    refine mj_if_eq 172 dX11_reads_97 (by decide) (fun c9 => ?_) (fun c9 => ?_)
    · replace hf := mj_pos c9 hf
      refine mj_aload_n 0 dX11_reads_172 rfl ?_
      refine mj_ldcS (b := 2002) (List.mem_of_getElem? (i := 8) rfl) rfl dX11_reads_173 ?_
      obtain ⟨o10, ho10, hf⟩ := mj_bd hf
      refine mj_callVd (I2 := (mj_rows I [(71, o10.2), (74, (upd r74_3 ((((12 : Int32) * x1) + (3 : Int32)).toNatClampNeg) o4)), (77, r77)])) (L2 := L) (s1 := [.int o10.1]) (st := []) [.ref 2002] (cmX11_passes_71_2002 X.2.1 G F  _ _ o8.2 r77 rfl rfl o10 ho10) (mj_rr rfl) rfl cw_X11_140 s0_71 a0_71 (by omega) rfl rfl (Nat.le_of_ble_eq_true rfl) ⟨Nat.zero_le _, Nat.zero_le _⟩ dX11_reads_175 rfl ?_
      refine mj_if_eq 212 dX11_reads_178 (by decide) (fun c11 => ?_) (fun c11 => ?_)
      · replace hf := mj_pos c11 hf
        refine mj_aload_n 0 dX11_reads_212 rfl ?_
        refine mj_ldcS (b := 2003) (List.mem_of_getElem? (i := 9) rfl) rfl dX11_reads_213 ?_
        obtain ⟨o12, ho12, hf⟩ := mj_bd hf
        refine mj_callVd (I2 := (mj_rows I [(71, o12.2), (74, (upd r74_3 ((((12 : Int32) * x1) + (3 : Int32)).toNatClampNeg) o4)), (77, r77)])) (L2 := L) (s1 := [.int o12.1]) (st := []) [.ref 2003] (cmX11_passes_71_2003 X.2.1 G F  _ _ o10.2 r77 rfl rfl o12 ho12) (mj_rr rfl) rfl cw_X11_140 s0_71 a0_71 (by omega) rfl rfl (Nat.le_of_ble_eq_true rfl) ⟨Nat.zero_le _, Nat.zero_le _⟩ dX11_reads_215 rfl ?_
        refine mj_if_eq 243 dX11_reads_218 (by decide) (fun c13 => ?_) (fun c13 => ?_)
        · replace hf := mj_pos c13 hf
          refine mj_aload_n 0 dX11_reads_243 rfl ?_
          refine mj_ldcS (b := 2004) (List.mem_of_getElem? (i := 10) rfl) rfl dX11_reads_244 ?_
          obtain ⟨o14, ho14, hf⟩ := mj_bd hf
          refine mj_callVd (I2 := (mj_rows I [(71, o14.2), (74, (upd r74_3 ((((12 : Int32) * x1) + (3 : Int32)).toNatClampNeg) o4)), (77, r77)])) (L2 := L) (s1 := [.int o14.1]) (st := []) [.ref 2004] (cmX11_passes_71_2004 X.2.1 G F  _ _ o12.2 r77 rfl rfl o14 ho14) (mj_rr rfl) rfl cw_X11_140 s0_71 a0_71 (by omega) rfl rfl (Nat.le_of_ble_eq_true rfl) ⟨Nat.zero_le _, Nat.zero_le _⟩ dX11_reads_246 rfl ?_
          refine mj_if_eq 295 dX11_reads_249 (by decide) (fun c15 => ?_) (fun c15 => ?_)
          · replace hf := mj_pos c15 hf
            refine mj_aload_n 0 dX11_reads_295 rfl ?_
            refine mj_ldcS (b := 2005) (List.mem_of_getElem? (i := 11) rfl) rfl dX11_reads_296 ?_
            obtain ⟨o16, ho16, hf⟩ := mj_bd hf
            refine mj_callVd (I2 := (mj_rows I [(71, o16.2), (74, (upd r74_3 ((((12 : Int32) * x1) + (3 : Int32)).toNatClampNeg) o4)), (77, r77)])) (L2 := L) (s1 := [.int o16.1]) (st := []) [.ref 2005] (cmX11_passes_71_2005 X.2.1 G F  _ _ o14.2 r77 rfl rfl o16 ho16) (mj_rr rfl) rfl cw_X11_140 s0_71 a0_71 (by omega) rfl rfl (Nat.le_of_ble_eq_true rfl) ⟨Nat.zero_le _, Nat.zero_le _⟩ dX11_reads_298 rfl ?_
            refine mj_if_eq 337 dX11_reads_301 (by decide) (fun c17 => ?_) (fun c17 => ?_)
            · replace hf := mj_pos c17 hf
              refine mj_aload_n 0 dX11_reads_337 rfl ?_
              refine mj_ldcS (b := 2006) (List.mem_of_getElem? (i := 12) rfl) rfl dX11_reads_338 ?_
              obtain ⟨o18, ho18, hf⟩ := mj_bd hf
              refine mj_callVd (I2 := (mj_rows I [(71, o18.2), (74, (upd r74_3 ((((12 : Int32) * x1) + (3 : Int32)).toNatClampNeg) o4)), (77, r77)])) (L2 := L) (s1 := [.int o18.1]) (st := []) [.ref 2006] (cmX11_passes_71_2006 X.2.1 G F  _ _ o16.2 r77 rfl rfl o18 ho18) (mj_rr rfl) rfl cw_X11_140 s0_71 a0_71 (by omega) rfl rfl (Nat.le_of_ble_eq_true rfl) ⟨Nat.zero_le _, Nat.zero_le _⟩ dX11_reads_340 rfl ?_
              refine mj_pop dX11_reads_343 rfl ?_
              refine mj_aload_n 0 dX11_reads_344 rfl ?_
              refine mj_getP p0_71_3 (by decide) fl_X11_95 rfl s0_71 a0_71 dX11_reads_345 ?_
              refine mj_iload_n 2 dX11_reads_348 rfl ?_
              refine mj_iconst dX11_reads_349 kc_iconst_0 ?_
              refine mj_iadd dX11_reads_350 ?_
              refine mj_bipush dX11_reads_351 kc_bipush_6 ?_
              obtain ⟨z19, hf⟩ := mj_ck hf
              refine mj_iastr [(71, o18.2), (74, (upd (upd r74_3 ((((12 : Int32) * x1) + (3 : Int32)).toNatClampNeg) o4) ((((12 : Int32) * x1) + (0 : Int32)).toNatClampNeg) (6 : Int32))), (77, r77)] rfl s0_74 a0_74 z19 dX11_reads_353 ?_
              refine mj_aload_n 0 dX11_reads_354 rfl ?_
              refine mj_getP p0_71_3 (by decide) fl_X11_95 rfl s0_71 a0_71 dX11_reads_355 ?_
              refine mj_iload_n 2 dX11_reads_358 rfl ?_
              refine mj_iconst dX11_reads_359 kc_iconst_3 ?_
              refine mj_iadd dX11_reads_360 ?_
              refine mj_bipush dX11_reads_361 kc_bipush_m3 ?_
              obtain ⟨z20, hf⟩ := mj_ck hf
              refine mj_iastr [(71, o18.2), (74, (upd (upd (upd r74_3 ((((12 : Int32) * x1) + (3 : Int32)).toNatClampNeg) o4) ((((12 : Int32) * x1) + (0 : Int32)).toNatClampNeg) (6 : Int32)) ((((12 : Int32) * x1) + (3 : Int32)).toNatClampNeg) (-3 : Int32))), (77, r77)] rfl s0_74 a0_74 z20 dX11_reads_363 ?_
              refine mj_aload_n 0 dX11_reads_364 rfl ?_
              refine mj_bipush dX11_reads_365 kc_bipush_59 ?_
              obtain ⟨o21, ho21, hf⟩ := mj_bd hf
              refine mj_callVd (I2 := (mj_rows I [(71, o21), (74, (upd (upd (upd r74_3 ((((12 : Int32) * x1) + (3 : Int32)).toNatClampNeg) o4) ((((12 : Int32) * x1) + (0 : Int32)).toNatClampNeg) (6 : Int32)) ((((12 : Int32) * x1) + (3 : Int32)).toNatClampNeg) (-3 : Int32))), (77, r77)])) (L2 := L) (s1 := []) (st := []) [.int (59 : Int32)] (cmX11_needs X.2.1 G F (59 : Int32) _ _ o18.2 r77 rfl rfl o21 ho21) (mj_rr rfl) rfl cw_X11_134 s0_71 a0_71 (by omega) rfl rfl (Nat.le_of_ble_eq_true rfl) ⟨Nat.zero_le _, Nat.zero_le _⟩ dX11_reads_367 rfl ?_
              obtain rfl := Option.some.inj hf
              have hZ := hq
              replace hZ := mj_u2p hZ
              exact mj_vret hR ⟨Nat.le_refl _, Nat.le_refl _⟩ rfl dX11_reads_370 hZ
            · replace hf := mj_neg c17 hf
              refine mj_aload_n 0 dX11_reads_304 rfl ?_
              refine mj_getP p0_71_3 (by decide) fl_X11_95 rfl s0_71 a0_71 dX11_reads_305 ?_
              refine mj_iload_n 2 dX11_reads_308 rfl ?_
              refine mj_iconst dX11_reads_309 kc_iconst_0 ?_
              refine mj_iadd dX11_reads_310 ?_
              refine mj_iconst dX11_reads_311 kc_iconst_5 ?_
              obtain ⟨z22, hf⟩ := mj_ck hf
              refine mj_iastr [(71, o16.2), (74, (upd (upd r74_3 ((((12 : Int32) * x1) + (3 : Int32)).toNatClampNeg) o4) ((((12 : Int32) * x1) + (0 : Int32)).toNatClampNeg) (5 : Int32))), (77, r77)] rfl s0_74 a0_74 z22 dX11_reads_312 ?_
              refine mj_aload_n 0 dX11_reads_313 rfl ?_
              refine mj_iload_n 1 dX11_reads_314 rfl ?_
              obtain ⟨o23, ho23, hf⟩ := mj_bd hf
              refine mj_callVd (I2 := (mj_rows I [(71, o23.1), (74, o23.2), (77, r77)])) (L2 := L) (s1 := []) (st := []) [.int x1] (cmX11_test X.2.1 G F x1 _ _ o16.2 (upd (upd r74_3 ((((12 : Int32) * x1) + (3 : Int32)).toNatClampNeg) o4) ((((12 : Int32) * x1) + (0 : Int32)).toNatClampNeg) (5 : Int32)) r77 rfl rfl rfl o23 ho23) (mj_rr rfl) rfl cw_X11_149 s0_71 a0_71 (by omega) rfl rfl (Nat.le_of_ble_eq_true rfl) ⟨Nat.zero_le _, Nat.zero_le _⟩ dX11_reads_315 rfl ?_
              refine mj_aload_n 0 dX11_reads_318 rfl ?_
              refine mj_getP p0_71_3 (by decide) fl_X11_95 rfl s0_71 a0_71 dX11_reads_319 ?_
              refine mj_iload_n 2 dX11_reads_322 rfl ?_
              refine mj_iconst dX11_reads_323 kc_iconst_4 ?_
              refine mj_iadd dX11_reads_324 ?_
              refine mj_bipush dX11_reads_325 kc_bipush_m2 ?_
              obtain ⟨z24, hf⟩ := mj_ck hf
              refine mj_iastr [(71, o23.1), (74, (upd o23.2 ((((12 : Int32) * x1) + (4 : Int32)).toNatClampNeg) (-2 : Int32))), (77, r77)] rfl s0_74 a0_74 z24 dX11_reads_327 ?_
              refine mj_aload_n 0 dX11_reads_328 rfl ?_
              refine mj_bipush dX11_reads_329 kc_bipush_59 ?_
              obtain ⟨o25, ho25, hf⟩ := mj_bd hf
              refine mj_callVd (I2 := (mj_rows I [(71, o25), (74, (upd o23.2 ((((12 : Int32) * x1) + (4 : Int32)).toNatClampNeg) (-2 : Int32))), (77, r77)])) (L2 := L) (s1 := []) (st := []) [.int (59 : Int32)] (cmX11_needs X.2.1 G F (59 : Int32) _ _ o23.1 r77 rfl rfl o25 ho25) (mj_rr rfl) rfl cw_X11_134 s0_71 a0_71 (by omega) rfl rfl (Nat.le_of_ble_eq_true rfl) ⟨Nat.zero_le _, Nat.zero_le _⟩ dX11_reads_331 rfl ?_
              refine mj_goto 370 dX11_reads_334 (by decide) ?_
              obtain rfl := Option.some.inj hf
              have hZ := hq
              replace hZ := mj_u2p hZ
              exact mj_vret hR ⟨Nat.le_refl _, Nat.le_refl _⟩ rfl dX11_reads_370 hZ
          · replace hf := mj_neg c15 hf
            refine mj_aload_n 0 dX11_reads_252 rfl ?_
            refine mj_getP p0_71_3 (by decide) fl_X11_95 rfl s0_71 a0_71 dX11_reads_253 ?_
            refine mj_iload_n 2 dX11_reads_256 rfl ?_
            refine mj_iconst dX11_reads_257 kc_iconst_0 ?_
            refine mj_iadd dX11_reads_258 ?_
            refine mj_iconst dX11_reads_259 kc_iconst_4 ?_
            obtain ⟨z26, hf⟩ := mj_ck hf
            refine mj_iastr [(71, o14.2), (74, (upd (upd r74_3 ((((12 : Int32) * x1) + (3 : Int32)).toNatClampNeg) o4) ((((12 : Int32) * x1) + (0 : Int32)).toNatClampNeg) (4 : Int32))), (77, r77)] rfl s0_74 a0_74 z26 dX11_reads_260 ?_
            refine mj_aload_n 0 dX11_reads_261 rfl ?_
            refine mj_iload_n 1 dX11_reads_262 rfl ?_
            obtain ⟨o27, ho27, hf⟩ := mj_bd hf
            refine mj_callVd (I2 := (mj_rows I [(71, o27.1), (74, o27.2), (77, r77)])) (L2 := L) (s1 := []) (st := []) [.int x1] (cmX11_test X.2.1 G F x1 _ _ o14.2 (upd (upd r74_3 ((((12 : Int32) * x1) + (3 : Int32)).toNatClampNeg) o4) ((((12 : Int32) * x1) + (0 : Int32)).toNatClampNeg) (4 : Int32)) r77 rfl rfl rfl o27 ho27) (mj_rr rfl) rfl cw_X11_149 s0_71 a0_71 (by omega) rfl rfl (Nat.le_of_ble_eq_true rfl) ⟨Nat.zero_le _, Nat.zero_le _⟩ dX11_reads_263 rfl ?_
            refine mj_aload_n 0 dX11_reads_266 rfl ?_
            refine mj_getP p0_71_3 (by decide) fl_X11_95 rfl s0_71 a0_71 dX11_reads_267 ?_
            refine mj_iload_n 2 dX11_reads_270 rfl ?_
            refine mj_iconst dX11_reads_271 kc_iconst_4 ?_
            refine mj_iadd dX11_reads_272 ?_
            refine mj_aload_n 0 dX11_reads_273 rfl ?_
            refine mj_iload_n 1 dX11_reads_274 rfl ?_
            obtain ⟨o28, ho28, hf⟩ := mj_bd hf
            refine mj_callVd (I2 := (mj_rows I [(71, o27.1), (74, o27.2), (77, r77)])) (L2 := L) (s1 := [.int o28, .int (((12 : Int32) * x1) + (4 : Int32)), .ref 74]) (st := [.int (((12 : Int32) * x1) + (4 : Int32)), .ref 74]) [.int x1] (cmX11_behind X.2.1 G F x1 _ _   o28 ho28) rfl rfl cw_X11_128 s0_71 a0_71 (by omega) rfl rfl (Nat.le_of_ble_eq_true rfl) ⟨Nat.zero_le _, Nat.zero_le _⟩ dX11_reads_275 rfl ?_
            obtain ⟨z29, hf⟩ := mj_ck hf
            refine mj_iastr [(71, o27.1), (74, (upd o27.2 ((((12 : Int32) * x1) + (4 : Int32)).toNatClampNeg) o28)), (77, r77)] rfl s0_74 a0_74 z29 dX11_reads_278 ?_
            refine mj_aload_n 0 dX11_reads_279 rfl ?_
            refine mj_getP p0_71_3 (by decide) fl_X11_95 rfl s0_71 a0_71 dX11_reads_280 ?_
            refine mj_iload_n 2 dX11_reads_283 rfl ?_
            refine mj_iconst dX11_reads_284 kc_iconst_3 ?_
            refine mj_iadd dX11_reads_285 ?_
            refine mj_aload_n 0 dX11_reads_286 rfl ?_
            refine mj_iload_n 1 dX11_reads_287 rfl ?_
            obtain ⟨o30, ho30, hf⟩ := mj_bd hf
            refine mj_callVd (I2 := (mj_rows I [(71, o30.2.1), (74, o30.2.2), (77, r77)])) (L2 := L) (s1 := [.int o30.1, .int (((12 : Int32) * x1) + (3 : Int32)), .ref 74]) (st := [.int (((12 : Int32) * x1) + (3 : Int32)), .ref 74]) [.int x1] (cmX11_block X.2.1 G rw dd hd0 hrw F x1 _ _ o27.1 (upd o27.2 ((((12 : Int32) * x1) + (4 : Int32)).toNatClampNeg) o28) r77 rfl rfl rfl o30 ho30) (mj_rr rfl) rfl cw_X11_152 s0_71 a0_71 (by omega) rfl rfl (Nat.le_of_ble_eq_true rfl) ⟨Nat.zero_le _, Nat.zero_le _⟩ dX11_reads_288 rfl ?_
            obtain ⟨z31, hf⟩ := mj_ck hf
            refine mj_iastr [(71, o30.2.1), (74, (upd o30.2.2 ((((12 : Int32) * x1) + (3 : Int32)).toNatClampNeg) o30.1)), (77, r77)] rfl s0_74 a0_74 z31 dX11_reads_291 ?_
            refine mj_goto 370 dX11_reads_292 (by decide) ?_
            obtain rfl := Option.some.inj hf
            have hZ := hq
            replace hZ := mj_u2p hZ
            exact mj_vret hR ⟨Nat.le_refl _, Nat.le_refl _⟩ rfl dX11_reads_370 hZ
        · replace hf := mj_neg c13 hf
          refine mj_aload_n 0 dX11_reads_221 rfl ?_
          refine mj_getP p0_71_3 (by decide) fl_X11_95 rfl s0_71 a0_71 dX11_reads_222 ?_
          refine mj_iload_n 2 dX11_reads_225 rfl ?_
          refine mj_iconst dX11_reads_226 kc_iconst_0 ?_
          refine mj_iadd dX11_reads_227 ?_
          refine mj_iconst dX11_reads_228 kc_iconst_3 ?_
          obtain ⟨z32, hf⟩ := mj_ck hf
          refine mj_iastr [(71, o12.2), (74, (upd (upd r74_3 ((((12 : Int32) * x1) + (3 : Int32)).toNatClampNeg) o4) ((((12 : Int32) * x1) + (0 : Int32)).toNatClampNeg) (3 : Int32))), (77, r77)] rfl s0_74 a0_74 z32 dX11_reads_229 ?_
          refine mj_aload_n 0 dX11_reads_230 rfl ?_
          refine mj_iload_n 1 dX11_reads_231 rfl ?_
          obtain ⟨o33, ho33, hf⟩ := mj_bd hf
          refine mj_callVd (I2 := (mj_rows I [(71, o33.1), (74, o33.2), (77, r77)])) (L2 := L) (s1 := []) (st := []) [.int x1] (cmX11_test X.2.1 G F x1 _ _ o12.2 (upd (upd r74_3 ((((12 : Int32) * x1) + (3 : Int32)).toNatClampNeg) o4) ((((12 : Int32) * x1) + (0 : Int32)).toNatClampNeg) (3 : Int32)) r77 rfl rfl rfl o33 ho33) (mj_rr rfl) rfl cw_X11_149 s0_71 a0_71 (by omega) rfl rfl (Nat.le_of_ble_eq_true rfl) ⟨Nat.zero_le _, Nat.zero_le _⟩ dX11_reads_232 rfl ?_
          refine mj_aload_n 0 dX11_reads_235 rfl ?_
          refine mj_iload_n 1 dX11_reads_236 rfl ?_
          obtain ⟨o34, ho34, hf⟩ := mj_bd hf
          refine mj_callVd (I2 := (mj_rows I [(71, o34.1), (74, o34.2), (77, r77)])) (L2 := L) (s1 := []) (st := []) [.int x1] (cmX11_forks X.2.1 G rw dd hd0 hrw F x1 _ _ o33.1 o33.2 r77 rfl rfl rfl o34 ho34) (mj_rr rfl) rfl cw_X11_146 s0_71 a0_71 (by omega) rfl rfl (Nat.le_of_ble_eq_true rfl) ⟨Nat.zero_le _, Nat.zero_le _⟩ dX11_reads_237 rfl ?_
          refine mj_goto 370 dX11_reads_240 (by decide) ?_
          obtain rfl := Option.some.inj hf
          have hZ := hq
          replace hZ := mj_u2p hZ
          exact mj_vret hR ⟨Nat.le_refl _, Nat.le_refl _⟩ rfl dX11_reads_370 hZ
      · replace hf := mj_neg c11 hf
        refine mj_aload_n 0 dX11_reads_181 rfl ?_
        refine mj_getP p0_71_3 (by decide) fl_X11_95 rfl s0_71 a0_71 dX11_reads_182 ?_
        refine mj_iload_n 2 dX11_reads_185 rfl ?_
        refine mj_iconst dX11_reads_186 kc_iconst_0 ?_
        refine mj_iadd dX11_reads_187 ?_
        refine mj_iconst dX11_reads_188 kc_iconst_2 ?_
        obtain ⟨z35, hf⟩ := mj_ck hf
        refine mj_iastr [(71, o10.2), (74, (upd (upd r74_3 ((((12 : Int32) * x1) + (3 : Int32)).toNatClampNeg) o4) ((((12 : Int32) * x1) + (0 : Int32)).toNatClampNeg) (2 : Int32))), (77, r77)] rfl s0_74 a0_74 z35 dX11_reads_189 ?_
        refine mj_aload_n 0 dX11_reads_190 rfl ?_
        refine mj_getP p0_71_3 (by decide) fl_X11_95 rfl s0_71 a0_71 dX11_reads_191 ?_
        refine mj_iload_n 2 dX11_reads_194 rfl ?_
        refine mj_iconst dX11_reads_195 kc_iconst_2 ?_
        refine mj_iadd dX11_reads_196 ?_
        refine mj_aload_n 0 dX11_reads_197 rfl ?_
        refine mj_bipush dX11_reads_198 kc_bipush_60 ?_
        obtain ⟨o36, ho36, hf⟩ := mj_bd hf
        refine mj_callVd (I2 := (mj_rows I [(71, o36.2), (74, (upd (upd r74_3 ((((12 : Int32) * x1) + (3 : Int32)).toNatClampNeg) o4) ((((12 : Int32) * x1) + (0 : Int32)).toNatClampNeg) (2 : Int32))), (77, r77)])) (L2 := L) (s1 := [.int o36.1, .int (((12 : Int32) * x1) + (2 : Int32)), .ref 74]) (st := [.int (((12 : Int32) * x1) + (2 : Int32)), .ref 74]) [.int (60 : Int32)] (cmX11_numberTo X.2.1 G F (60 : Int32) _ _ o10.2 r77 rfl rfl o36 ho36) (mj_rr rfl) rfl cw_X11_88 s0_71 a0_71 (by omega) rfl rfl (Nat.le_of_ble_eq_true rfl) ⟨Nat.zero_le _, Nat.zero_le _⟩ dX11_reads_200 rfl ?_
        obtain ⟨z37, hf⟩ := mj_ck hf
        refine mj_iastr [(71, o36.2), (74, (upd (upd (upd r74_3 ((((12 : Int32) * x1) + (3 : Int32)).toNatClampNeg) o4) ((((12 : Int32) * x1) + (0 : Int32)).toNatClampNeg) (2 : Int32)) ((((12 : Int32) * x1) + (2 : Int32)).toNatClampNeg) o36.1)), (77, r77)] rfl s0_74 a0_74 z37 dX11_reads_203 ?_
        refine mj_aload_n 0 dX11_reads_204 rfl ?_
        refine mj_iload_n 1 dX11_reads_205 rfl ?_
        obtain ⟨o38, ho38, hf⟩ := mj_bd hf
        refine mj_callVd (I2 := (mj_rows I [(71, o38.1), (74, o38.2), (77, r77)])) (L2 := L) (s1 := []) (st := []) [.int x1] (cmX11_forks X.2.1 G rw dd hd0 hrw F x1 _ _ o36.2 (upd (upd (upd r74_3 ((((12 : Int32) * x1) + (3 : Int32)).toNatClampNeg) o4) ((((12 : Int32) * x1) + (0 : Int32)).toNatClampNeg) (2 : Int32)) ((((12 : Int32) * x1) + (2 : Int32)).toNatClampNeg) o36.1) r77 rfl rfl rfl o38 ho38) (mj_rr rfl) rfl cw_X11_146 s0_71 a0_71 (by omega) rfl rfl (Nat.le_of_ble_eq_true rfl) ⟨Nat.zero_le _, Nat.zero_le _⟩ dX11_reads_206 rfl ?_
        refine mj_goto 370 dX11_reads_209 (by decide) ?_
        obtain rfl := Option.some.inj hf
        have hZ := hq
        replace hZ := mj_u2p hZ
        exact mj_vret hR ⟨Nat.le_refl _, Nat.le_refl _⟩ rfl dX11_reads_370 hZ
    · replace hf := mj_neg c9 hf
      refine mj_aload_n 0 dX11_reads_100 rfl ?_
      refine mj_getP p0_71_3 (by decide) fl_X11_95 rfl s0_71 a0_71 dX11_reads_101 ?_
      refine mj_iload_n 2 dX11_reads_104 rfl ?_
      refine mj_iconst dX11_reads_105 kc_iconst_0 ?_
      refine mj_iadd dX11_reads_106 ?_
      refine mj_iconst dX11_reads_107 kc_iconst_1 ?_
      obtain ⟨z39, hf⟩ := mj_ck hf
      refine mj_iastr [(71, o8.2), (74, (upd (upd r74_3 ((((12 : Int32) * x1) + (3 : Int32)).toNatClampNeg) o4) ((((12 : Int32) * x1) + (0 : Int32)).toNatClampNeg) (1 : Int32))), (77, r77)] rfl s0_74 a0_74 z39 dX11_reads_108 ?_
      refine mj_aload_n 0 dX11_reads_109 rfl ?_
      refine mj_getP p0_71_3 (by decide) fl_X11_95 rfl s0_71 a0_71 dX11_reads_110 ?_
      refine mj_iload_n 2 dX11_reads_113 rfl ?_
      refine mj_iconst dX11_reads_114 kc_iconst_1 ?_
      refine mj_iadd dX11_reads_115 ?_
      refine mj_aload_n 0 dX11_reads_116 rfl ?_
      obtain ⟨o40, ho40, hf⟩ := mj_bd hf
      refine mj_callVd (I2 := (mj_rows I [(71, o40.2), (74, (upd (upd r74_3 ((((12 : Int32) * x1) + (3 : Int32)).toNatClampNeg) o4) ((((12 : Int32) * x1) + (0 : Int32)).toNatClampNeg) (1 : Int32))), (77, r77)])) (L2 := L) (s1 := [.int o40.1, .int (((12 : Int32) * x1) + (1 : Int32)), .ref 74]) (st := [.int (((12 : Int32) * x1) + (1 : Int32)), .ref 74]) [] (cmX11_name X.2.1 G F  _ _ o8.2 r77 rfl rfl o40 ho40) (mj_rr rfl) rfl cw_X11_92 s0_71 a0_71 (by omega) rfl rfl (Nat.le_of_ble_eq_true rfl) ⟨Nat.zero_le _, Nat.zero_le _⟩ dX11_reads_117 rfl ?_
      obtain ⟨z41, hf⟩ := mj_ck hf
      refine mj_iastr [(71, o40.2), (74, (upd (upd (upd r74_3 ((((12 : Int32) * x1) + (3 : Int32)).toNatClampNeg) o4) ((((12 : Int32) * x1) + (0 : Int32)).toNatClampNeg) (1 : Int32)) ((((12 : Int32) * x1) + (1 : Int32)).toNatClampNeg) o40.1)), (77, r77)] rfl s0_74 a0_74 z41 dX11_reads_120 ?_
      refine mj_aload_n 0 dX11_reads_121 rfl ?_
      refine mj_getP p0_71_3 (by decide) fl_X11_95 rfl s0_71 a0_71 dX11_reads_122 ?_
      refine mj_iload_n 2 dX11_reads_125 rfl ?_
      refine mj_iconst dX11_reads_126 kc_iconst_2 ?_
      refine mj_iadd dX11_reads_127 ?_
      refine mj_aload_n 0 dX11_reads_128 rfl ?_
      obtain ⟨o42, ho42, hf⟩ := mj_bd hf
      refine mj_callVd (I2 := (mj_rows I [(71, o42.2), (74, (upd (upd (upd r74_3 ((((12 : Int32) * x1) + (3 : Int32)).toNatClampNeg) o4) ((((12 : Int32) * x1) + (0 : Int32)).toNatClampNeg) (1 : Int32)) ((((12 : Int32) * x1) + (1 : Int32)).toNatClampNeg) o40.1)), (77, r77)])) (L2 := L) (s1 := [.int o42.1, .int (((12 : Int32) * x1) + (2 : Int32)), .ref 74]) (st := [.int (((12 : Int32) * x1) + (2 : Int32)), .ref 74]) [] (cmX11_number X.2.1 G F  _ _ o40.2 r77 rfl rfl o42 ho42) (mj_rr rfl) rfl cw_X11_85 s0_71 a0_71 (by omega) rfl rfl (Nat.le_of_ble_eq_true rfl) ⟨Nat.zero_le _, Nat.zero_le _⟩ dX11_reads_129 rfl ?_
      obtain ⟨z43, hf⟩ := mj_ck hf
      refine mj_iastr [(71, o42.2), (74, (upd (upd (upd (upd r74_3 ((((12 : Int32) * x1) + (3 : Int32)).toNatClampNeg) o4) ((((12 : Int32) * x1) + (0 : Int32)).toNatClampNeg) (1 : Int32)) ((((12 : Int32) * x1) + (1 : Int32)).toNatClampNeg) o40.1) ((((12 : Int32) * x1) + (2 : Int32)).toNatClampNeg) o42.1)), (77, r77)] rfl s0_74 a0_74 z43 dX11_reads_132 ?_
      refine mj_aload_n 0 dX11_reads_133 rfl ?_
      refine mj_getIv (v := (o42.2 14)) rfl fl_X11_25 rfl s0_71 a0_71 dX11_reads_134 ?_
      refine mj_if_ne 163 dX11_reads_137 (by decide) (fun c44 => ?_) (fun c44 => ?_)
      · replace hf := mj_neg c44 hf
        refine mj_aload_n 0 dX11_reads_163 rfl ?_
        refine mj_bipush dX11_reads_164 kc_bipush_59 ?_
        obtain ⟨o45, ho45, hf⟩ := mj_bd hf
        refine mj_callVd (I2 := (mj_rows I [(71, o45), (74, (upd (upd (upd (upd r74_3 ((((12 : Int32) * x1) + (3 : Int32)).toNatClampNeg) o4) ((((12 : Int32) * x1) + (0 : Int32)).toNatClampNeg) (1 : Int32)) ((((12 : Int32) * x1) + (1 : Int32)).toNatClampNeg) o40.1) ((((12 : Int32) * x1) + (2 : Int32)).toNatClampNeg) o42.1)), (77, r77)])) (L2 := L) (s1 := []) (st := []) [.int (59 : Int32)] (cmX11_needs X.2.1 G F (59 : Int32) _ _ o42.2 r77 rfl rfl o45 ho45) (mj_rr rfl) rfl cw_X11_134 s0_71 a0_71 (by omega) rfl rfl (Nat.le_of_ble_eq_true rfl) ⟨Nat.zero_le _, Nat.zero_le _⟩ dX11_reads_166 rfl ?_
        refine mj_goto 370 dX11_reads_169 (by decide) ?_
        obtain rfl := Option.some.inj hf
        have hZ := hq
        replace hZ := mj_u2p hZ
        exact mj_vret hR ⟨Nat.le_refl _, Nat.le_refl _⟩ rfl dX11_reads_370 hZ
      · replace hf := mj_pos c44 hf
        refine mj_aload_n 0 dX11_reads_140 rfl ?_
        refine mj_getP p0_71_3 (by decide) fl_X11_95 rfl s0_71 a0_71 dX11_reads_141 ?_
        refine mj_iload_n 2 dX11_reads_144 rfl ?_
        refine mj_iconst dX11_reads_145 kc_iconst_2 ?_
        refine mj_iadd dX11_reads_146 ?_
        obtain ⟨z46, hf⟩ := mj_ck hf
        refine mj_ialdv (x := (upd (upd (upd (upd r74_3 ((((12 : Int32) * x1) + (3 : Int32)).toNatClampNeg) o4) ((((12 : Int32) * x1) + (0 : Int32)).toNatClampNeg) (1 : Int32)) ((((12 : Int32) * x1) + (1 : Int32)).toNatClampNeg) o40.1) ((((12 : Int32) * x1) + (2 : Int32)).toNatClampNeg) o42.1)) rfl s0_74 a0_74 z46 dX11_reads_147 ?_
        obtain ⟨o47, ho47, hf⟩ := mj_bd hf
        refine mj_callSd (I2 := (mj_rows I [(71, o42.2), (74, (upd (upd (upd (upd r74_3 ((((12 : Int32) * x1) + (3 : Int32)).toNatClampNeg) o4) ((((12 : Int32) * x1) + (0 : Int32)).toNatClampNeg) (1 : Int32)) ((((12 : Int32) * x1) + (1 : Int32)).toNatClampNeg) o40.1) ((((12 : Int32) * x1) + (2 : Int32)).toNatClampNeg) o42.1)), (77, r77)])) (L2 := L) (s1 := [.int o47]) (st := []) [.int ((upd (upd (upd (upd r74_3 ((((12 : Int32) * x1) + (3 : Int32)).toNatClampNeg) o4) ((((12 : Int32) * x1) + (0 : Int32)).toNatClampNeg) (1 : Int32)) ((((12 : Int32) * x1) + (1 : Int32)).toNatClampNeg) o40.1) ((((12 : Int32) * x1) + (2 : Int32)).toNatClampNeg) o42.1) ((((12 : Int32) * x1) + (2 : Int32)).toNatClampNeg))] (cmX11_isChance X.2.1 G F ((upd (upd (upd (upd r74_3 ((((12 : Int32) * x1) + (3 : Int32)).toNatClampNeg) o4) ((((12 : Int32) * x1) + (0 : Int32)).toNatClampNeg) (1 : Int32)) ((((12 : Int32) * x1) + (1 : Int32)).toNatClampNeg) o40.1) ((((12 : Int32) * x1) + (2 : Int32)).toNatClampNeg) o42.1) ((((12 : Int32) * x1) + (2 : Int32)).toNatClampNeg)) _ _   o47 ho47) rfl rfl cw_X11_143 (by omega) rfl rfl (Nat.le_of_ble_eq_true rfl) ⟨Nat.zero_le _, Nat.zero_le _⟩ dX11_reads_148 rfl ?_
        refine mj_if_ne 163 dX11_reads_151 (by decide) (fun c48 => ?_) (fun c48 => ?_)
        · replace hf := mj_neg c48 hf
          refine mj_aload_n 0 dX11_reads_163 rfl ?_
          refine mj_bipush dX11_reads_164 kc_bipush_59 ?_
          obtain ⟨o49, ho49, hf⟩ := mj_bd hf
          refine mj_callVd (I2 := (mj_rows I [(71, o49), (74, (upd (upd (upd (upd r74_3 ((((12 : Int32) * x1) + (3 : Int32)).toNatClampNeg) o4) ((((12 : Int32) * x1) + (0 : Int32)).toNatClampNeg) (1 : Int32)) ((((12 : Int32) * x1) + (1 : Int32)).toNatClampNeg) o40.1) ((((12 : Int32) * x1) + (2 : Int32)).toNatClampNeg) o42.1)), (77, r77)])) (L2 := L) (s1 := []) (st := []) [.int (59 : Int32)] (cmX11_needs X.2.1 G F (59 : Int32) _ _ o42.2 r77 rfl rfl o49 ho49) (mj_rr rfl) rfl cw_X11_134 s0_71 a0_71 (by omega) rfl rfl (Nat.le_of_ble_eq_true rfl) ⟨Nat.zero_le _, Nat.zero_le _⟩ dX11_reads_166 rfl ?_
          refine mj_goto 370 dX11_reads_169 (by decide) ?_
          obtain rfl := Option.some.inj hf
          have hZ := hq
          replace hZ := mj_u2p hZ
          exact mj_vret hR ⟨Nat.le_refl _, Nat.le_refl _⟩ rfl dX11_reads_370 hZ
        · replace hf := mj_pos c48 hf
          refine mj_aload_n 0 dX11_reads_154 rfl ?_
          refine mj_iconst dX11_reads_155 kc_iconst_2 ?_
          refine mj_aload_n 0 dX11_reads_156 rfl ?_
          refine mj_getIv (v := (o42.2 12)) rfl fl_X11_75 rfl s0_71 a0_71 dX11_reads_157 ?_
          obtain ⟨o50, ho50, hf⟩ := mj_bd hf
          refine mj_callVd (I2 := (mj_rows I [(71, o50), (74, (upd (upd (upd (upd r74_3 ((((12 : Int32) * x1) + (3 : Int32)).toNatClampNeg) o4) ((((12 : Int32) * x1) + (0 : Int32)).toNatClampNeg) (1 : Int32)) ((((12 : Int32) * x1) + (1 : Int32)).toNatClampNeg) o40.1) ((((12 : Int32) * x1) + (2 : Int32)).toNatClampNeg) o42.1)), (77, r77)])) (L2 := L) (s1 := []) (st := []) [.int (2 : Int32), .int (o42.2 12)] (cmX11_wrong X.2.1 G F (2 : Int32) (o42.2 12) _ _ o42.2 rfl o50 ho50) (mj_rr rfl) rfl cw_X11_64 s0_71 a0_71 (by omega) rfl rfl (Nat.le_of_ble_eq_true rfl) ⟨Nat.zero_le _, Nat.zero_le _⟩ dX11_reads_160 rfl ?_
          refine mj_aload_n 0 dX11_reads_163 rfl ?_
          refine mj_bipush dX11_reads_164 kc_bipush_59 ?_
          obtain ⟨o51, ho51, hf⟩ := mj_bd hf
          refine mj_callVd (I2 := (mj_rows I [(71, o51), (74, (upd (upd (upd (upd r74_3 ((((12 : Int32) * x1) + (3 : Int32)).toNatClampNeg) o4) ((((12 : Int32) * x1) + (0 : Int32)).toNatClampNeg) (1 : Int32)) ((((12 : Int32) * x1) + (1 : Int32)).toNatClampNeg) o40.1) ((((12 : Int32) * x1) + (2 : Int32)).toNatClampNeg) o42.1)), (77, r77)])) (L2 := L) (s1 := []) (st := []) [.int (59 : Int32)] (cmX11_needs X.2.1 G F (59 : Int32) _ _ o50 r77 rfl rfl o51 ho51) (mj_rr rfl) rfl cw_X11_134 s0_71 a0_71 (by omega) rfl rfl (Nat.le_of_ble_eq_true rfl) ⟨Nat.zero_le _, Nat.zero_le _⟩ dX11_reads_166 rfl ?_
          refine mj_goto 370 dX11_reads_169 (by decide) ?_
          obtain rfl := Option.some.inj hf
          have hZ := hq
          replace hZ := mj_u2p hZ
          exact mj_vret hR ⟨Nat.le_refl _, Nat.le_refl _⟩ rfl dX11_reads_370 hZ
  · replace hf := mj_neg c7 hf
    refine mj_aload_n 0 dX11_reads_48 rfl ?_
    refine mj_getP p0_71_3 (by decide) fl_X11_95 rfl s0_71 a0_71 dX11_reads_49 ?_
    refine mj_iload_n 2 dX11_reads_52 rfl ?_
    refine mj_iconst dX11_reads_53 kc_iconst_0 ?_
    refine mj_iadd dX11_reads_54 ?_
    refine mj_iconst dX11_reads_55 kc_iconst_0 ?_
    obtain ⟨z52, hf⟩ := mj_ck hf
    refine mj_iastr [(71, o6.2), (74, (upd (upd r74_3 ((((12 : Int32) * x1) + (3 : Int32)).toNatClampNeg) o4) ((((12 : Int32) * x1) + (0 : Int32)).toNatClampNeg) (0 : Int32))), (77, r77)] rfl s0_74 a0_74 z52 dX11_reads_56 ?_
    refine mj_aload_n 0 dX11_reads_57 rfl ?_
    refine mj_getP p0_71_3 (by decide) fl_X11_95 rfl s0_71 a0_71 dX11_reads_58 ?_
    refine mj_iload_n 2 dX11_reads_61 rfl ?_
    refine mj_iconst dX11_reads_62 kc_iconst_1 ?_
    refine mj_iadd dX11_reads_63 ?_
    refine mj_aload_n 0 dX11_reads_64 rfl ?_
    obtain ⟨o53, ho53, hf⟩ := mj_bd hf
    refine mj_callVd (I2 := (mj_rows I [(71, o53.2), (74, (upd (upd r74_3 ((((12 : Int32) * x1) + (3 : Int32)).toNatClampNeg) o4) ((((12 : Int32) * x1) + (0 : Int32)).toNatClampNeg) (0 : Int32))), (77, r77)])) (L2 := L) (s1 := [.int o53.1, .int (((12 : Int32) * x1) + (1 : Int32)), .ref 74]) (st := [.int (((12 : Int32) * x1) + (1 : Int32)), .ref 74]) [] (cmX11_name X.2.1 G F  _ _ o6.2 r77 rfl rfl o53 ho53) (mj_rr rfl) rfl cw_X11_92 s0_71 a0_71 (by omega) rfl rfl (Nat.le_of_ble_eq_true rfl) ⟨Nat.zero_le _, Nat.zero_le _⟩ dX11_reads_65 rfl ?_
    obtain ⟨z54, hf⟩ := mj_ck hf
    refine mj_iastr [(71, o53.2), (74, (upd (upd (upd r74_3 ((((12 : Int32) * x1) + (3 : Int32)).toNatClampNeg) o4) ((((12 : Int32) * x1) + (0 : Int32)).toNatClampNeg) (0 : Int32)) ((((12 : Int32) * x1) + (1 : Int32)).toNatClampNeg) o53.1)), (77, r77)] rfl s0_74 a0_74 z54 dX11_reads_68 ?_
    refine mj_aload_n 0 dX11_reads_69 rfl ?_
    refine mj_bipush dX11_reads_70 kc_bipush_61 ?_
    obtain ⟨o55, ho55, hf⟩ := mj_bd hf
    refine mj_callVd (I2 := (mj_rows I [(71, o55), (74, (upd (upd (upd r74_3 ((((12 : Int32) * x1) + (3 : Int32)).toNatClampNeg) o4) ((((12 : Int32) * x1) + (0 : Int32)).toNatClampNeg) (0 : Int32)) ((((12 : Int32) * x1) + (1 : Int32)).toNatClampNeg) o53.1)), (77, r77)])) (L2 := L) (s1 := []) (st := []) [.int (61 : Int32)] (cmX11_needs X.2.1 G F (61 : Int32) _ _ o53.2 r77 rfl rfl o55 ho55) (mj_rr rfl) rfl cw_X11_134 s0_71 a0_71 (by omega) rfl rfl (Nat.le_of_ble_eq_true rfl) ⟨Nat.zero_le _, Nat.zero_le _⟩ dX11_reads_72 rfl ?_
    refine mj_aload_n 0 dX11_reads_75 rfl ?_
    refine mj_iload_n 2 dX11_reads_76 rfl ?_
    refine mj_iconst dX11_reads_77 kc_iconst_5 ?_
    refine mj_iadd dX11_reads_78 ?_
    obtain ⟨o56, ho56, hf⟩ := mj_bd hf
    refine mj_callVd (I2 := (mj_rows I [(71, o56.1), (74, o56.2), (77, r77)])) (L2 := L) (s1 := []) (st := []) [.int (((12 : Int32) * x1) + (5 : Int32))] (cmX11_sum X.2.1 G F (((12 : Int32) * x1) + (5 : Int32)) _ _ o55 (upd (upd (upd r74_3 ((((12 : Int32) * x1) + (3 : Int32)).toNatClampNeg) o4) ((((12 : Int32) * x1) + (0 : Int32)).toNatClampNeg) (0 : Int32)) ((((12 : Int32) * x1) + (1 : Int32)).toNatClampNeg) o53.1) r77 rfl rfl rfl o56 ho56) (mj_rr rfl) rfl cw_X11_101 s0_71 a0_71 (by omega) rfl rfl (Nat.le_of_ble_eq_true rfl) ⟨Nat.zero_le _, Nat.zero_le _⟩ dX11_reads_79 rfl ?_
    refine mj_aload_n 0 dX11_reads_82 rfl ?_
    refine mj_bipush dX11_reads_83 kc_bipush_59 ?_
    obtain ⟨o57, ho57, hf⟩ := mj_bd hf
    refine mj_callVd (I2 := (mj_rows I [(71, o57), (74, o56.2), (77, r77)])) (L2 := L) (s1 := []) (st := []) [.int (59 : Int32)] (cmX11_needs X.2.1 G F (59 : Int32) _ _ o56.1 r77 rfl rfl o57 ho57) (mj_rr rfl) rfl cw_X11_134 s0_71 a0_71 (by omega) rfl rfl (Nat.le_of_ble_eq_true rfl) ⟨Nat.zero_le _, Nat.zero_le _⟩ dX11_reads_85 rfl ?_
    refine mj_goto 370 dX11_reads_88 (by decide) ?_
    obtain rfl := Option.some.inj hf
    have hZ := hq
    replace hZ := mj_u2p hZ
    exact mj_vret hR ⟨Nat.le_refl _, Nat.le_refl _⟩ rfl dX11_reads_370 hZ
set_option maxRecDepth 100000 in
set_option maxHeartbeats 4000000 in
theorem cmX11_reads (l : Launch) (G : mj_GT) (rw : (Nat → Int32) → (Nat → Int32) → (Nat → Int32) → Int32 → Option ((Int32) × (Nat → Int32) × (Nat → Int32))) (dd : Nat) (hd0 : 12 ≤ dd) (hrw : ∀ (l : Launch) (x1 : Int32) (I : mj_IT) (L : mj_LT) (r71 : Nat → Int32) (r74 : Nat → Int32) (r77 : Nat → Int32) (_ : I 71 = r71) (_ : I 74 = r74) (_ : I 77 = r77) (o : ((Int32) × (Nat → Int32) × (Nat → Int32))), rw r71 r74 r77 x1 = some o → mj_M l G yX11_row cX11_row 5 dd (some .int) 0 0 mj_P0 mj_S0 98 [.ref 71, .int x1] I L (mj_qd (some (.int o.1)) (mj_rows I [(71, o.2.1), (74, o.2.2), (77, r77)]) L)) (F : Nat) (x1 : Int32) (I : mj_IT) (L : mj_LT) (r71 : Nat → Int32) (r74 : Nat → Int32) (r77 : Nat → Int32) (hr71 : I 71 = r71) (hr74 : I 74 = r74) (hr77 : I 77 = r77) (o : ((Nat → Int32) × (Nat → Int32))) (hf : fnX11_reads rw F r71 r74 r77 x1 = some o) : mj_M l G yX11_reads cX11_reads 4 (dd + 3) none 0 0 mj_P0 mj_S0 98 [.ref 71, .int x1] I L (mj_qd none (mj_rows I [(71, o.1), (74, o.2), (77, r77)]) L) := by
  refine mj_in RX11 "reads" [(0, .ref 71), (1, .int x1)] rfl rfl rfl (by decide) (Nat.le_of_ble_eq_true rfl) (fun X ad hR => ?_)
  refine mj_toI [(71, r71), (74, r74), (77, r77)] (by intro q hq; simp only [List.mem_cons, List.not_mem_nil, or_false] at hq; rcases hq with rfl | rfl | rfl <;> assumption) ?_
  refine mtX11_reads hR rw dd hd0 hrw F I L r71 r74 r77 x1 o hf ?_
  obtain ⟨w0, w1⟩ := o
  refine mj_u2q ?_
  exact ⟨rfl, rfl, rfl⟩

-- X11_row
def jnX11_row_64 (rw : (Nat → Int32) → (Nat → Int32) → (Nat → Int32) → Int32 → Option ((Int32) × (Nat → Int32) × (Nat → Int32))) (F : Nat) (r77 : Nat → Int32) (x1 : Int32) (x2 : Int32) (x4 : Int32) (r71 : Nat → Int32) (r74 : Nat → Int32) : Option (((Int32) × (Int32) × (Nat → Int32) × (Nat → Int32)) ⊕ (((Int32) × (Int32) × (Nat → Int32) × (Nat → Int32)) ⊕ ((Nat → Int32) × (Nat → Int32)))) := (if x2 = (-1 : Int32) then (fnX11_reads rw F r71 r74 r77 x4).bind (fun o3 => some (.inl (x4, x4, o3.1, o3.2))) else (fnX11_reads rw F r71 r74 r77 x4).bind (fun o2 => some (.inl (x2, x4, o2.1, o2.2))))
def bdX11_row_4 (rw : (Nat → Int32) → (Nat → Int32) → (Nat → Int32) → Int32 → Option ((Int32) × (Nat → Int32) × (Nat → Int32))) (F : Nat) (r77 : Nat → Int32) (x1 : Int32) (x2 : Int32) (x3 : Int32) (r71 : Nat → Int32) (r74 : Nat → Int32) : Option (((Int32) × (Int32) × (Nat → Int32) × (Nat → Int32)) ⊕ (((Int32) × (Int32) × (Nat → Int32) × (Nat → Int32)) ⊕ ((Nat → Int32) × (Nat → Int32)))) := (if (r71 14) = 0 then (fnX11_begins F r71 r77).bind (fun o5 => (if o5.1 = 0 then some (.inr (.inl (x2, x3, o5.2, r74))) else (if (o5.2 5) = (40 : Int32) then some (.inr (.inr (o5.2, r74))) else (if x3 = (-1 : Int32) then jnX11_row_64 rw F r77 x1 x2 (o5.2 5) (upd o5.2 5 ((o5.2 5) + (1 : Int32))) r74 else (fnX11_joins F (upd o5.2 5 ((o5.2 5) + (1 : Int32))) r74 x3 (o5.2 5)).bind (fun o9 => jnX11_row_64 rw F r77 x1 x2 (o5.2 5) (upd o5.2 5 ((o5.2 5) + (1 : Int32))) o9))))) else some (.inr (.inl (x2, x3, r71, r74))))
def fnX11_row (rw : (Nat → Int32) → (Nat → Int32) → (Nat → Int32) → Int32 → Option ((Int32) × (Nat → Int32) × (Nat → Int32))) (F : Nat) (r71 : Nat → Int32) (r74 : Nat → Int32) (r77 : Nat → Int32) (x1 : Int32) : Option ((Int32) × (Nat → Int32) × (Nat → Int32)) := (mj_it (mj_u2 (fun z0 => (mj_u2 (fun z1 => (mj_u2 (fun z2 z3 => bdX11_row_4 rw F r77 x1 z0 z1 z2 z3)))))) F ((-1 : Int32), (-1 : Int32), r71, r74)).bind (Sum.elim (mj_u2 (fun x2_10 => (mj_u2 (fun x3_10 => (mj_u2 (fun r71_10 r74_10 => (if x3_10 = (-1 : Int32) then (if x2_10 = (-1 : Int32) then some (x1, r71_10, r74_10) else some (x2_10, r71_10, r74_10)) else (fnX11_joins F r71_10 r74_10 x3_10 x1).bind (fun o13 => (if x2_10 = (-1 : Int32) then some (x1, r71_10, o13) else some (x2_10, r71_10, o13)))))))))) (mj_u2 (fun r71_10 r74_10 => (fnX11_wrong F r71_10 (3 : Int32) (r71_10 11)).bind (fun o15 => some ((0 : Int32), o15, r74_10)))))
set_option maxRecDepth 100000 in
set_option maxHeartbeats 4000000 in
theorem jtX11_row_64 {X : mj_XT} {l : Launch} {G : mj_GT} {ad : Nat → Nat} {Qn : Option Value → mj_IT → mj_LT → Prop} (hR : mj_R X l G mj_P0 mj_S0 98 ad 0 0 Qn) (rw : (Nat → Int32) → (Nat → Int32) → (Nat → Int32) → Int32 → Option ((Int32) × (Nat → Int32) × (Nat → Int32))) (dd : Nat) (hd0 : 12 ≤ dd) (hrw : ∀ (l : Launch) (x1 : Int32) (I : mj_IT) (L : mj_LT) (r71 : Nat → Int32) (r74 : Nat → Int32) (r77 : Nat → Int32) (_ : I 71 = r71) (_ : I 74 = r74) (_ : I 77 = r77) (o : ((Int32) × (Nat → Int32) × (Nat → Int32))), rw r71 r74 r77 x1 = some o → mj_M l G yX11_row cX11_row 5 dd (some .int) 0 0 mj_P0 mj_S0 98 [.ref 71, .int x1] I L (mj_qd (some (.int o.1)) (mj_rows I [(71, o.2.1), (74, o.2.2), (77, r77)]) L)) (F : Nat) (I : mj_IT) (L : mj_LT) (r71 : Nat → Int32) (r74 : Nat → Int32) (r77 : Nat → Int32) (x1 : Int32) (x2 : Int32) (x4 : Int32) (o : (((Int32) × (Int32) × (Nat → Int32) × (Nat → Int32)) ⊕ (((Int32) × (Int32) × (Nat → Int32) × (Nat → Int32)) ⊕ ((Nat → Int32) × (Nat → Int32))))) (hf : jnX11_row_64 rw F r77 x1 x2 x4 r71 r74 = some o) (hc : ∀ s2 : ((Int32) × (Int32) × (Nat → Int32) × (Nat → Int32)), o = .inl s2 → (mj_u2 (fun x2 => (mj_u2 (fun x3 => (mj_u2 (fun r71 r74 => mj_W X G RX11 "row" cX11_row 5 (dd + 4) (some .int) mj_P0 mj_S0 98 ad 0 0 4 [(0, .ref 71), (1, .int x1), (2, .int x2), (3, .int x3)] [] (mj_rows I [(71, r71), (74, r74), (77, r77)]) L)))))) s2) (hx : ∀ e2 : (((Int32) × (Int32) × (Nat → Int32) × (Nat → Int32)) ⊕ ((Nat → Int32) × (Nat → Int32))), o = .inr e2 → (Sum.elim (mj_u2 (fun x2 => (mj_u2 (fun x3 => (mj_u2 (fun r71 r74 => mj_W X G RX11 "row" cX11_row 5 (dd + 4) (some .int) mj_P0 mj_S0 98 ad 0 0 88 [(0, .ref 71), (1, .int x1), (2, .int x2), (3, .int x3)] [] (mj_rows I [(71, r71), (74, r74), (77, r77)]) L)))))) (mj_u2 (fun r71 r74 => mj_W X G RX11 "row" cX11_row 5 (dd + 4) (some .int) mj_P0 mj_S0 98 ad 0 0 31 [(0, .ref 71)] [] (mj_rows I [(71, r71), (74, r74), (77, r77)]) L))) e2) : mj_W X G RX11 "row" cX11_row 5 (dd + 4) (some .int) mj_P0 mj_S0 98 ad 0 0 64 [(0, .ref 71), (1, .int x1), (2, .int x2), (4, .int x4)] [] (mj_rows I [(71, r71), (74, r74), (77, r77)]) L := by
  unfold jnX11_row_64 at hf
  refine mj_iload_n 2 dX11_row_64 rfl ?_
  refine mj_iconst dX11_row_65 kc_iconst_m1 ?_
  refine mj_icmp_ne 74 dX11_row_66 (by decide) (fun c1 => ?_) (fun c1 => ?_)
  · replace hf := mj_neg c1 hf
    refine mj_iload_n 2 dX11_row_74 rfl ?_
    refine mj_istore_n [(2, .int x2), (0, .ref 71), (1, .int x1), (4, .int x4)] dX11_row_75 rfl (by decide) rfl ?_
    refine mj_aload_n 1 dX11_row_76 rfl ?_
    refine mj_iload 3 dX11_row_77 rfl ?_
    obtain ⟨o2, ho2, hf⟩ := mj_bd hf
    refine mj_callVd (I2 := (mj_rows I [(71, o2.1), (74, o2.2), (77, r77)])) (L2 := L) (s1 := []) (st := []) [.int x4] (cmX11_reads X.2.1 G rw dd hd0 hrw F x4 _ _ r71 r74 r77 rfl rfl rfl o2 ho2) (mj_rr rfl) rfl cw_X11_125 s0_71 a0_71 (by omega) rfl rfl (Nat.le_of_ble_eq_true rfl) ⟨Nat.zero_le _, Nat.zero_le _⟩ dX11_row_79 rfl ?_
    refine mj_iload 3 dX11_row_82 rfl ?_
    refine mj_istore_n [(3, .int x4), (2, .int x2), (0, .ref 71), (1, .int x1), (4, .int x4)] dX11_row_84 rfl (by decide) rfl ?_
    refine mj_goto 4 dX11_row_85 (by decide) ?_
    refine mj_sub [2, 3, 1, 0] [(0, .ref 71), (1, .int x1), (2, .int x2), (3, .int x4)] rfl ?_
    obtain rfl := Option.some.inj hf
    have hZ := hc (x2, x4, o2.1, o2.2) rfl
    replace hZ := mj_u2p hZ
    replace hZ := mj_u2p hZ
    replace hZ := mj_u2p hZ
    exact hZ
  · replace hf := mj_pos c1 hf
    refine mj_iload 3 dX11_row_69 rfl ?_
    refine mj_goto 75 dX11_row_71 (by decide) ?_
    refine mj_istore_n [(2, .int x4), (0, .ref 71), (1, .int x1), (4, .int x4)] dX11_row_75 rfl (by decide) rfl ?_
    refine mj_aload_n 1 dX11_row_76 rfl ?_
    refine mj_iload 3 dX11_row_77 rfl ?_
    obtain ⟨o3, ho3, hf⟩ := mj_bd hf
    refine mj_callVd (I2 := (mj_rows I [(71, o3.1), (74, o3.2), (77, r77)])) (L2 := L) (s1 := []) (st := []) [.int x4] (cmX11_reads X.2.1 G rw dd hd0 hrw F x4 _ _ r71 r74 r77 rfl rfl rfl o3 ho3) (mj_rr rfl) rfl cw_X11_125 s0_71 a0_71 (by omega) rfl rfl (Nat.le_of_ble_eq_true rfl) ⟨Nat.zero_le _, Nat.zero_le _⟩ dX11_row_79 rfl ?_
    refine mj_iload 3 dX11_row_82 rfl ?_
    refine mj_istore_n [(3, .int x4), (2, .int x4), (0, .ref 71), (1, .int x1), (4, .int x4)] dX11_row_84 rfl (by decide) rfl ?_
    refine mj_goto 4 dX11_row_85 (by decide) ?_
    refine mj_sub [2, 3, 1, 0] [(0, .ref 71), (1, .int x1), (2, .int x4), (3, .int x4)] rfl ?_
    obtain rfl := Option.some.inj hf
    have hZ := hc (x4, x4, o3.1, o3.2) rfl
    replace hZ := mj_u2p hZ
    replace hZ := mj_u2p hZ
    replace hZ := mj_u2p hZ
    exact hZ
set_option maxRecDepth 100000 in
set_option maxHeartbeats 4000000 in
theorem lpX11_row_4 {X : mj_XT} {l : Launch} {G : mj_GT} {ad : Nat → Nat} {Qn : Option Value → mj_IT → mj_LT → Prop} (hR : mj_R X l G mj_P0 mj_S0 98 ad 0 0 Qn) (rw : (Nat → Int32) → (Nat → Int32) → (Nat → Int32) → Int32 → Option ((Int32) × (Nat → Int32) × (Nat → Int32))) (dd : Nat) (hd0 : 12 ≤ dd) (hrw : ∀ (l : Launch) (x1 : Int32) (I : mj_IT) (L : mj_LT) (r71 : Nat → Int32) (r74 : Nat → Int32) (r77 : Nat → Int32) (_ : I 71 = r71) (_ : I 74 = r74) (_ : I 77 = r77) (o : ((Int32) × (Nat → Int32) × (Nat → Int32))), rw r71 r74 r77 x1 = some o → mj_M l G yX11_row cX11_row 5 dd (some .int) 0 0 mj_P0 mj_S0 98 [.ref 71, .int x1] I L (mj_qd (some (.int o.1)) (mj_rows I [(71, o.2.1), (74, o.2.2), (77, r77)]) L)) (F : Nat) (I : mj_IT) (L : mj_LT) (r71 : Nat → Int32) (r74 : Nat → Int32) (r77 : Nat → Int32) (x1 : Int32) : ∀ (n : Nat) (s : ((Int32) × (Int32) × (Nat → Int32) × (Nat → Int32))) (e : (((Int32) × (Int32) × (Nat → Int32) × (Nat → Int32)) ⊕ ((Nat → Int32) × (Nat → Int32)))), mj_it (mj_u2 (fun z0 => (mj_u2 (fun z1 => (mj_u2 (fun z2 z3 => bdX11_row_4 rw F r77 x1 z0 z1 z2 z3)))))) n s = some e → (Sum.elim (mj_u2 (fun x2 => (mj_u2 (fun x3 => (mj_u2 (fun r71 r74 => mj_W X G RX11 "row" cX11_row 5 (dd + 4) (some .int) mj_P0 mj_S0 98 ad 0 0 88 [(0, .ref 71), (1, .int x1), (2, .int x2), (3, .int x3)] [] (mj_rows I [(71, r71), (74, r74), (77, r77)]) L)))))) (mj_u2 (fun r71 r74 => mj_W X G RX11 "row" cX11_row 5 (dd + 4) (some .int) mj_P0 mj_S0 98 ad 0 0 31 [(0, .ref 71)] [] (mj_rows I [(71, r71), (74, r74), (77, r77)]) L))) e → (mj_u2 (fun x2 => (mj_u2 (fun x3 => (mj_u2 (fun r71 r74 => mj_W X G RX11 "row" cX11_row 5 (dd + 4) (some .int) mj_P0 mj_S0 98 ad 0 0 4 [(0, .ref 71), (1, .int x1), (2, .int x2), (3, .int x3)] [] (mj_rows I [(71, r71), (74, r74), (77, r77)]) L)))))) s := by
  refine mj_loop (fun s o hf hc hx => ?_)
  obtain ⟨x2, x3, r71, r74⟩ := s
  replace hf := mj_u2e hf
  refine mj_u2q ?_
  replace hf := mj_u2e hf
  refine mj_u2q ?_
  replace hf := mj_u2e hf
  refine mj_u2q ?_
  unfold bdX11_row_4 at hf
  refine mj_aload_n 0 dX11_row_4 rfl ?_
  refine mj_getIv (v := (r71 14)) rfl fl_X11_25 rfl s0_71 a0_71 dX11_row_5 ?_
  refine mj_if_ne 88 dX11_row_8 (by decide) (fun c4 => ?_) (fun c4 => ?_)
  · replace hf := mj_neg c4 hf
    obtain rfl := Option.some.inj hf
    have hZ := hx (.inl (x2, x3, r71, r74)) rfl
    replace hZ := mj_el hZ
    replace hZ := mj_u2p hZ
    replace hZ := mj_u2p hZ
    replace hZ := mj_u2p hZ
    exact hZ
  · replace hf := mj_pos c4 hf
    refine mj_aload_n 0 dX11_row_11 rfl ?_
    obtain ⟨o5, ho5, hf⟩ := mj_bd hf
    refine mj_callVd (I2 := (mj_rows I [(71, o5.2), (74, r74), (77, r77)])) (L2 := L) (s1 := [.int o5.1]) (st := []) [] (cmX11_begins X.2.1 G F  _ _ r71 r77 rfl rfl o5 ho5) (mj_rr rfl) rfl cw_X11_116 s0_71 a0_71 (by omega) rfl rfl (Nat.le_of_ble_eq_true rfl) ⟨Nat.zero_le _, Nat.zero_le _⟩ dX11_row_12 rfl ?_
    refine mj_if_eq 88 dX11_row_15 (by decide) (fun c6 => ?_) (fun c6 => ?_)
    · replace hf := mj_pos c6 hf
      obtain rfl := Option.some.inj hf
      have hZ := hx (.inl (x2, x3, o5.2, r74)) rfl
      replace hZ := mj_el hZ
      replace hZ := mj_u2p hZ
      replace hZ := mj_u2p hZ
      replace hZ := mj_u2p hZ
      exact hZ
    · replace hf := mj_neg c6 hf
      refine mj_aload_n 0 dX11_row_18 rfl ?_
      refine mj_getIv (v := (o5.2 5)) rfl fl_X11_119 rfl s0_71 a0_71 dX11_row_19 ?_
      refine mj_istore [(4, .int (o5.2 5)), (0, .ref 71), (1, .int x1), (2, .int x2), (3, .int x3)] dX11_row_22 (by decide) rfl ?_
      refine mj_iload 0 dX11_row_24 rfl ?_
      refine mj_bipush dX11_row_26 kc_bipush_40 ?_
      refine mj_icmp_ne 42 dX11_row_28 (by decide) (fun c7 => ?_) (fun c7 => ?_)
      · replace hf := mj_neg c7 hf
        refine mj_aload_n 1 dX11_row_42 rfl ?_
        refine mj_dup dX11_row_43 rfl ?_
        refine mj_getIv (v := (o5.2 5)) rfl fl_X11_119 rfl s0_71 a0_71 dX11_row_44 ?_
        refine mj_iconst dX11_row_47 kc_iconst_1 ?_
        refine mj_iadd dX11_row_48 ?_
        refine mj_putIr (ci := 9) (j := 5) [(71, (upd o5.2 5 ((o5.2 5) + (1 : Int32)))), (74, r74), (77, r77)] rfl ⟨rfl, rfl⟩ fl_X11_119 rfl rfl s0_71 a0_71 dX11_row_49 ?_
        refine mj_iload_n 4 dX11_row_52 rfl ?_
        refine mj_iconst dX11_row_53 kc_iconst_m1 ?_
        refine mj_icmp_eq 64 dX11_row_54 (by decide) (fun c8 => ?_) (fun c8 => ?_)
        · replace hf := mj_pos c8 hf
          refine mj_sub [1, 2, 3, 0] [(0, .ref 71), (1, .int x1), (2, .int x2), (4, .int (o5.2 5))] rfl ?_
          exact jtX11_row_64 hR rw dd hd0 hrw F I L (upd o5.2 5 ((o5.2 5) + (1 : Int32))) r74 r77 x1 x2 (o5.2 5) o hf hc hx
        · replace hf := mj_neg c8 hf
          refine mj_aload_n 1 dX11_row_57 rfl ?_
          refine mj_iload_n 4 dX11_row_58 rfl ?_
          refine mj_iload 0 dX11_row_59 rfl ?_
          obtain ⟨o9, ho9, hf⟩ := mj_bd hf
          refine mj_callVd (I2 := (mj_rows I [(71, (upd o5.2 5 ((o5.2 5) + (1 : Int32)))), (74, o9), (77, r77)])) (L2 := L) (s1 := []) (st := []) [.int x3, .int (o5.2 5)] (cmX11_joins X.2.1 G F x3 (o5.2 5) _ _ (upd o5.2 5 ((o5.2 5) + (1 : Int32))) r74 rfl rfl o9 ho9) (mj_rr rfl) rfl cw_X11_122 s0_71 a0_71 (by omega) rfl rfl (Nat.le_of_ble_eq_true rfl) ⟨Nat.zero_le _, Nat.zero_le _⟩ dX11_row_61 rfl ?_
          refine mj_sub [1, 2, 3, 0] [(0, .ref 71), (1, .int x1), (2, .int x2), (4, .int (o5.2 5))] rfl ?_
          exact jtX11_row_64 hR rw dd hd0 hrw F I L (upd o5.2 5 ((o5.2 5) + (1 : Int32))) o9 r77 x1 x2 (o5.2 5) o hf hc hx
      · replace hf := mj_pos c7 hf
        refine mj_sub [1] [(0, .ref 71)] rfl ?_
        obtain rfl := Option.some.inj hf
        have hZ := hx (.inr (o5.2, r74)) rfl
        replace hZ := mj_er hZ
        replace hZ := mj_u2p hZ
        exact hZ
set_option maxRecDepth 100000 in
set_option maxHeartbeats 4000000 in
theorem mtX11_row {X : mj_XT} {l : Launch} {G : mj_GT} {ad : Nat → Nat} {Qn : Option Value → mj_IT → mj_LT → Prop} (hR : mj_R X l G mj_P0 mj_S0 98 ad 0 0 Qn) (rw : (Nat → Int32) → (Nat → Int32) → (Nat → Int32) → Int32 → Option ((Int32) × (Nat → Int32) × (Nat → Int32))) (dd : Nat) (hd0 : 12 ≤ dd) (hrw : ∀ (l : Launch) (x1 : Int32) (I : mj_IT) (L : mj_LT) (r71 : Nat → Int32) (r74 : Nat → Int32) (r77 : Nat → Int32) (_ : I 71 = r71) (_ : I 74 = r74) (_ : I 77 = r77) (o : ((Int32) × (Nat → Int32) × (Nat → Int32))), rw r71 r74 r77 x1 = some o → mj_M l G yX11_row cX11_row 5 dd (some .int) 0 0 mj_P0 mj_S0 98 [.ref 71, .int x1] I L (mj_qd (some (.int o.1)) (mj_rows I [(71, o.2.1), (74, o.2.2), (77, r77)]) L)) (F : Nat) (I : mj_IT) (L : mj_LT) (r71 : Nat → Int32) (r74 : Nat → Int32) (r77 : Nat → Int32) (x1 : Int32) (o : ((Int32) × (Nat → Int32) × (Nat → Int32))) (hf : fnX11_row rw F r71 r74 r77 x1 = some o) (hq : (mj_u2 (fun ov => (mj_u2 (fun r71 r74 => Qn (some (.int ov)) (mj_rows I [(71, r71), (74, r74), (77, r77)]) L)))) o) : mj_W X G RX11 "row" cX11_row 5 (dd + 4) (some .int) mj_P0 mj_S0 98 ad 0 0 0 [(0, .ref 71), (1, .int x1)] [] (mj_rows I [(71, r71), (74, r74), (77, r77)]) L := by
  unfold fnX11_row at hf
  refine mj_iconst dX11_row_0 kc_iconst_m1 ?_
  refine mj_istore_n [(2, .int (-1 : Int32)), (0, .ref 71), (1, .int x1)] dX11_row_1 rfl (by decide) rfl ?_
  refine mj_iconst dX11_row_2 kc_iconst_m1 ?_
  refine mj_istore_n [(3, .int (-1 : Int32)), (2, .int (-1 : Int32)), (0, .ref 71), (1, .int x1)] dX11_row_3 rfl (by decide) rfl ?_
  refine mj_sub [2, 3, 1, 0] [(0, .ref 71), (1, .int x1), (2, .int (-1 : Int32)), (3, .int (-1 : Int32))] rfl ?_
  obtain ⟨e10, ho10, hf⟩ := mj_bd hf
  refine lpX11_row_4 hR rw dd hd0 hrw F I L r71 r74 r77 x1 F ((-1 : Int32), (-1 : Int32), r71, r74) e10 ho10 ?_
  rcases e10 with e10 | e10
  · replace hf := mj_ele hf
    obtain ⟨x2_10, x3_10, r71_10, r74_10⟩ := e10
    replace hf := mj_u2e hf
    replace hf := mj_u2e hf
    replace hf := mj_u2e hf
    refine mj_elq (?_)
    refine mj_u2q ?_
    refine mj_u2q ?_
    refine mj_u2q ?_
    refine mj_iload_n 3 dX11_row_88 rfl ?_
    refine mj_iconst dX11_row_89 kc_iconst_m1 ?_
    refine mj_icmp_eq 99 dX11_row_90 (by decide) (fun c11 => ?_) (fun c11 => ?_)
    · replace hf := mj_pos c11 hf
      refine mj_iload_n 2 dX11_row_99 rfl ?_
      refine mj_iconst dX11_row_100 kc_iconst_m1 ?_
      refine mj_icmp_ne 108 dX11_row_101 (by decide) (fun c12 => ?_) (fun c12 => ?_)
      · replace hf := mj_neg c12 hf
        refine mj_iload_n 2 dX11_row_108 rfl ?_
        obtain rfl := Option.some.inj hf
        have hZ := hq
        replace hZ := mj_u2p hZ
        replace hZ := mj_u2p hZ
        exact mj_iret hR ⟨Nat.le_refl _, Nat.le_refl _⟩ rfl rfl dX11_row_109 hZ
      · replace hf := mj_pos c12 hf
        refine mj_iload_n 1 dX11_row_104 rfl ?_
        refine mj_goto 109 dX11_row_105 (by decide) ?_
        obtain rfl := Option.some.inj hf
        have hZ := hq
        replace hZ := mj_u2p hZ
        replace hZ := mj_u2p hZ
        exact mj_iret hR ⟨Nat.le_refl _, Nat.le_refl _⟩ rfl rfl dX11_row_109 hZ
    · replace hf := mj_neg c11 hf
      refine mj_aload_n 0 dX11_row_93 rfl ?_
      refine mj_iload_n 3 dX11_row_94 rfl ?_
      refine mj_iload_n 1 dX11_row_95 rfl ?_
      obtain ⟨o13, ho13, hf⟩ := mj_bd hf
      refine mj_callVd (I2 := (mj_rows I [(71, r71_10), (74, o13), (77, r77)])) (L2 := L) (s1 := []) (st := []) [.int x3_10, .int x1] (cmX11_joins X.2.1 G F x3_10 x1 _ _ r71_10 r74_10 rfl rfl o13 ho13) (mj_rr rfl) rfl cw_X11_122 s0_71 a0_71 (by omega) rfl rfl (Nat.le_of_ble_eq_true rfl) ⟨Nat.zero_le _, Nat.zero_le _⟩ dX11_row_96 rfl ?_
      refine mj_iload_n 2 dX11_row_99 rfl ?_
      refine mj_iconst dX11_row_100 kc_iconst_m1 ?_
      refine mj_icmp_ne 108 dX11_row_101 (by decide) (fun c14 => ?_) (fun c14 => ?_)
      · replace hf := mj_neg c14 hf
        refine mj_iload_n 2 dX11_row_108 rfl ?_
        obtain rfl := Option.some.inj hf
        have hZ := hq
        replace hZ := mj_u2p hZ
        replace hZ := mj_u2p hZ
        exact mj_iret hR ⟨Nat.le_refl _, Nat.le_refl _⟩ rfl rfl dX11_row_109 hZ
      · replace hf := mj_pos c14 hf
        refine mj_iload_n 1 dX11_row_104 rfl ?_
        refine mj_goto 109 dX11_row_105 (by decide) ?_
        obtain rfl := Option.some.inj hf
        have hZ := hq
        replace hZ := mj_u2p hZ
        replace hZ := mj_u2p hZ
        exact mj_iret hR ⟨Nat.le_refl _, Nat.le_refl _⟩ rfl rfl dX11_row_109 hZ
  · replace hf := mj_ere hf
    obtain ⟨r71_10, r74_10⟩ := e10
    replace hf := mj_u2e hf
    refine mj_erq (?_)
    refine mj_u2q ?_
    refine mj_aload_n 0 dX11_row_31 rfl ?_
    refine mj_iconst dX11_row_32 kc_iconst_3 ?_
    refine mj_aload_n 0 dX11_row_33 rfl ?_
    refine mj_getIv (v := (r71_10 11)) rfl fl_X11_31 rfl s0_71 a0_71 dX11_row_34 ?_
    obtain ⟨o15, ho15, hf⟩ := mj_bd hf
    refine mj_callVd (I2 := (mj_rows I [(71, o15), (74, r74_10), (77, r77)])) (L2 := L) (s1 := []) (st := []) [.int (3 : Int32), .int (r71_10 11)] (cmX11_wrong X.2.1 G F (3 : Int32) (r71_10 11) _ _ r71_10 rfl o15 ho15) (mj_rr rfl) rfl cw_X11_64 s0_71 a0_71 (by omega) rfl rfl (Nat.le_of_ble_eq_true rfl) ⟨Nat.zero_le _, Nat.zero_le _⟩ dX11_row_37 rfl ?_
    refine mj_iconst dX11_row_40 kc_iconst_0 ?_
    obtain rfl := Option.some.inj hf
    have hZ := hq
    replace hZ := mj_u2p hZ
    replace hZ := mj_u2p hZ
    exact mj_iret hR ⟨Nat.le_refl _, Nat.le_refl _⟩ rfl rfl dX11_row_41 hZ
set_option maxRecDepth 100000 in
set_option maxHeartbeats 4000000 in
theorem cmX11_row (l : Launch) (G : mj_GT) (rw : (Nat → Int32) → (Nat → Int32) → (Nat → Int32) → Int32 → Option ((Int32) × (Nat → Int32) × (Nat → Int32))) (dd : Nat) (hd0 : 12 ≤ dd) (hrw : ∀ (l : Launch) (x1 : Int32) (I : mj_IT) (L : mj_LT) (r71 : Nat → Int32) (r74 : Nat → Int32) (r77 : Nat → Int32) (_ : I 71 = r71) (_ : I 74 = r74) (_ : I 77 = r77) (o : ((Int32) × (Nat → Int32) × (Nat → Int32))), rw r71 r74 r77 x1 = some o → mj_M l G yX11_row cX11_row 5 dd (some .int) 0 0 mj_P0 mj_S0 98 [.ref 71, .int x1] I L (mj_qd (some (.int o.1)) (mj_rows I [(71, o.2.1), (74, o.2.2), (77, r77)]) L)) (F : Nat) (x1 : Int32) (I : mj_IT) (L : mj_LT) (r71 : Nat → Int32) (r74 : Nat → Int32) (r77 : Nat → Int32) (hr71 : I 71 = r71) (hr74 : I 74 = r74) (hr77 : I 77 = r77) (o : ((Int32) × (Nat → Int32) × (Nat → Int32))) (hf : fnX11_row rw F r71 r74 r77 x1 = some o) : mj_M l G yX11_row cX11_row 5 (dd + 4) (some .int) 0 0 mj_P0 mj_S0 98 [.ref 71, .int x1] I L (mj_qd (some (.int o.1)) (mj_rows I [(71, o.2.1), (74, o.2.2), (77, r77)]) L) := by
  refine mj_in RX11 "row" [(0, .ref 71), (1, .int x1)] rfl rfl rfl (by decide) (Nat.le_of_ble_eq_true rfl) (fun X ad hR => ?_)
  refine mj_toI [(71, r71), (74, r74), (77, r77)] (by intro q hq; simp only [List.mem_cons, List.not_mem_nil, or_false] at hq; rcases hq with rfl | rfl | rfl <;> assumption) ?_
  refine mtX11_row hR rw dd hd0 hrw F I L r71 r74 r77 x1 o hf ?_
  obtain ⟨w0, w1, w2⟩ := o
  refine mj_u2q ?_
  refine mj_u2q ?_
  exact ⟨rfl, rfl, rfl⟩

-- X11_rowR
def fnX11_rowR (F : Nat) : Nat → (Nat → Int32) → (Nat → Int32) → (Nat → Int32) → Int32 → Option ((Int32) × (Nat → Int32) × (Nat → Int32))
  | 0 => fun _ _ _ _ => none
  | D + 1 => fnX11_row (fnX11_rowR F D) F
theorem cmX11_rowR (l : Launch) (G : mj_GT) (F D : Nat) (x1 : Int32) (I : mj_IT) (L : mj_LT) (r71 : Nat → Int32) (r74 : Nat → Int32) (r77 : Nat → Int32) (hr71 : I 71 = r71) (hr74 : I 74 = r74) (hr77 : I 77 = r77) (o : ((Int32) × (Nat → Int32) × (Nat → Int32))) (hf : fnX11_rowR F D r71 r74 r77 x1 = some o) : mj_M l G yX11_row cX11_row 5 (12 + 4 * D) (some .int) 0 0 mj_P0 mj_S0 98 [.ref 71, .int x1] I L (mj_qd (some (.int o.1)) (mj_rows I [(71, o.2.1), (74, o.2.2), (77, r77)]) L) := by
  induction D generalizing l x1 I L r71 r74 r77 o with
  | zero => cases hf
  | succ D ih => exact cmX11_row l G (fnX11_rowR F D) (12 + 4 * D) (by omega) (fun l x1 I L r71 r74 r77 hr71 hr74 hr77 o hf => ih l x1 I L r71 r74 r77 hr71 hr74 hr77 o hf) F x1 I L r71 r74 r77 hr71 hr74 hr77 o hf

-- X11_isOther
def fnX11_isOther (F : Nat) (r71 : Nat → Int32) : Option ((Nat → Int32)) := some (upd (upd r71 20 (0 : Int32)) 22 (0 : Int32))
set_option maxRecDepth 100000 in
set_option maxHeartbeats 4000000 in
theorem mtX11_isOther {X : mj_XT} {l : Launch} {G : mj_GT} {ad : Nat → Nat} {Qn : Option Value → mj_IT → mj_LT → Prop} (hR : mj_R X l G mj_P0 mj_S0 98 ad 0 0 Qn) (F : Nat) (I : mj_IT) (L : mj_LT) (r71 : Nat → Int32) (o : ((Nat → Int32))) (hf : fnX11_isOther F r71 = some o) (hq : (fun r71 => Qn none (mj_rows I [(71, r71)]) L) o) : mj_W X G RX11 "isOther" cX11_isOther 1 1 none mj_P0 mj_S0 98 ad 0 0 0 [(0, .ref 71)] [] (mj_rows I [(71, r71)]) L := by
  unfold fnX11_isOther at hf
  refine mj_aload_n 0 dX11_isOther_0 rfl ?_
  refine mj_iconst dX11_isOther_1 kc_iconst_0 ?_
  refine mj_putIr (ci := 9) (j := 20) [(71, (upd r71 20 (0 : Int32)))] rfl (by decide) fl_X11_208 rfl rfl s0_71 a0_71 dX11_isOther_2 ?_
  refine mj_aload_n 0 dX11_isOther_5 rfl ?_
  refine mj_iconst dX11_isOther_6 kc_iconst_0 ?_
  refine mj_putIr (ci := 9) (j := 22) [(71, (upd (upd r71 20 (0 : Int32)) 22 (0 : Int32)))] rfl (by decide) fl_X11_212 rfl rfl s0_71 a0_71 dX11_isOther_7 ?_
  obtain rfl := Option.some.inj hf
  have hZ := hq
  exact mj_vret hR ⟨Nat.le_refl _, Nat.le_refl _⟩ rfl dX11_isOther_10 hZ
set_option maxRecDepth 100000 in
set_option maxHeartbeats 4000000 in
theorem cmX11_isOther (l : Launch) (G : mj_GT) (F : Nat) (I : mj_IT) (L : mj_LT) (r71 : Nat → Int32) (hr71 : I 71 = r71) (o : ((Nat → Int32))) (hf : fnX11_isOther F r71 = some o) : mj_M l G yX11_isOther cX11_isOther 1 1 none 0 0 mj_P0 mj_S0 98 [.ref 71] I L (mj_qd none (mj_rows I [(71, o)]) L) := by
  refine mj_in RX11 "isOther" [(0, .ref 71)] rfl rfl rfl (by decide) (Nat.le_of_ble_eq_true rfl) (fun X ad hR => ?_)
  refine mj_toI [(71, r71)] (by intro q hq; simp only [List.mem_cons, List.not_mem_nil, or_false] at hq; rcases hq with rfl <;> assumption) ?_
  refine mtX11_isOther hR F I L r71 o hf ?_
  exact ⟨rfl, rfl, rfl⟩

-- X11_stands
def bdX11_stands_10 (F : Nat) (r71 : Nat → Int32) (r74 : Nat → Int32) (x1 : Int32) (r73 : Nat → Int32) : Option (((Int32) × (Nat → Int32)) ⊕ ((Nat → Int32))) := (if ((12 : Int32) * (r71 5)) ≤ x1 then some (.inr r73) else (if mj_ib x1 480 = true then (if mj_ib x1 480 = true then some (.inl ((x1 + (1)), (upd r73 x1.toNatClampNeg (r74 x1.toNatClampNeg)))) else none) else none))
def jnX11_stands_101 (F : Nat) (r71 : Nat → Int32) (x1 : Int32) (r73 : Nat → Int32) : Option (((Int32) × (Nat → Int32)) ⊕ ((Nat → Int32))) := (fnX11_of F r73 x1 (4 : Int32)).bind (fun o4 => (if o4 = (-2 : Int32) then (if mj_ib (((12 : Int32) * x1) + (4 : Int32)) 480 = true then some (.inl ((x1 + (1)), (upd r73 ((((12 : Int32) * x1) + (4 : Int32)).toNatClampNeg) ((r71 5) + (1 : Int32))))) else none) else some (.inl ((x1 + (1)), r73))))
def jnX11_stands_75 (F : Nat) (r71 : Nat → Int32) (x1 : Int32) (r73 : Nat → Int32) : Option (((Int32) × (Nat → Int32)) ⊕ ((Nat → Int32))) := (fnX11_of F r73 x1 (4 : Int32)).bind (fun o7 => (if o7 = (-3 : Int32) then (if mj_ib (((12 : Int32) * x1) + (4 : Int32)) 480 = true then jnX11_stands_101 F r71 x1 (upd r73 ((((12 : Int32) * x1) + (4 : Int32)).toNatClampNeg) (r71 5)) else none) else jnX11_stands_101 F r71 x1 r73))
def bdX11_stands_41 (F : Nat) (r71 : Nat → Int32) (x1 : Int32) (r73 : Nat → Int32) : Option (((Int32) × (Nat → Int32)) ⊕ ((Nat → Int32))) := (if (r71 5) ≤ x1 then some (.inr r73) else (fnX11_of F r73 x1 (3 : Int32)).bind (fun o11 => (if o11 = (-3 : Int32) then (if mj_ib (((12 : Int32) * x1) + (3 : Int32)) 480 = true then jnX11_stands_75 F r71 x1 (upd r73 ((((12 : Int32) * x1) + (3 : Int32)).toNatClampNeg) (r71 5)) else none) else jnX11_stands_75 F r71 x1 r73)))
def bdX11_stands_137 (F : Nat) (x1 : Int32) (r75 : Nat → Int32) : Option (((Int32) × (Nat → Int32)) ⊕ ((Nat → Int32))) := (if (6 : Int32) ≤ x1 then some (.inr r75) else (if mj_ib x1 6 = true then some (.inl ((x1 + (1)), (upd r75 x1.toNatClampNeg (0 : Int32)))) else none))
def fnX11_stands (F : Nat) (r71 : Nat → Int32) (r73 : Nat → Int32) (r74 : Nat → Int32) (r75 : Nat → Int32) : Option ((Nat → Int32) × (Nat → Int32) × (Nat → Int32)) := (mj_it (mj_u2 (fun z0 z1 => bdX11_stands_10 F (upd r71 4 (r71 5)) r74 z0 z1)) F ((0 : Int32), r73)).bind (fun r73_16 => (mj_it (mj_u2 (fun z0 z1 => bdX11_stands_41 F (upd r71 4 (r71 5)) z0 z1)) F ((0 : Int32), r73_16)).bind (fun r73_17 => (mj_it (mj_u2 (fun z0 z1 => bdX11_stands_137 F z0 z1)) F ((0 : Int32), r75)).bind (fun r75_18 => (fnX11_isOther F (upd (upd r71 4 (r71 5)) 17 (0 : Int32))).bind (fun o19 => some (o19, r73_17, r75_18)))))
set_option maxRecDepth 100000 in
set_option maxHeartbeats 4000000 in
theorem lpX11_stands_10 {X : mj_XT} {l : Launch} {G : mj_GT} {ad : Nat → Nat} {Qn : Option Value → mj_IT → mj_LT → Prop} (hR : mj_R X l G mj_P0 mj_S0 98 ad 0 0 Qn) (F : Nat) (I : mj_IT) (L : mj_LT) (r71 : Nat → Int32) (r73 : Nat → Int32) (r74 : Nat → Int32) (r75 : Nat → Int32) : ∀ (n : Nat) (s : ((Int32) × (Nat → Int32))) (e : ((Nat → Int32))), mj_it (mj_u2 (fun z0 z1 => bdX11_stands_10 F r71 r74 z0 z1)) n s = some e → (fun r73 => mj_W X G RX11 "stands" cX11_stands 2 2 none mj_P0 mj_S0 98 ad 0 0 39 [(0, .ref 71)] [] (mj_rows I [(71, r71), (73, r73), (74, r74), (75, r75)]) L) e → (mj_u2 (fun x1 r73 => mj_W X G RX11 "stands" cX11_stands 2 2 none mj_P0 mj_S0 98 ad 0 0 10 [(0, .ref 71), (1, .int x1)] [] (mj_rows I [(71, r71), (73, r73), (74, r74), (75, r75)]) L)) s := by
  refine mj_loop (fun s o hf hc hx => ?_)
  obtain ⟨x1, r73⟩ := s
  replace hf := mj_u2e hf
  refine mj_u2q ?_
  unfold bdX11_stands_10 at hf
  refine mj_iload_n 1 dX11_stands_10 rfl ?_
  refine mj_bipush dX11_stands_11 kc_bipush_12 ?_
  refine mj_aload_n 0 dX11_stands_13 rfl ?_
  refine mj_getIv (v := (r71 5)) rfl fl_X11_119 rfl s0_71 a0_71 dX11_stands_14 ?_
  refine mj_imul dX11_stands_17 ?_
  refine mj_icmp_ge 39 dX11_stands_18 (by decide) (fun c1 => ?_) (fun c1 => ?_)
  · replace hf := mj_pos c1 hf
    refine mj_sub [0] [(0, .ref 71)] rfl ?_
    obtain rfl := Option.some.inj hf
    have hZ := hx r73 rfl
    exact hZ
  · replace hf := mj_neg c1 hf
    refine mj_aload_n 0 dX11_stands_21 rfl ?_
    refine mj_getP p0_71_2 (by decide) fl_X11_11 rfl s0_71 a0_71 dX11_stands_22 ?_
    refine mj_iload_n 1 dX11_stands_25 rfl ?_
    refine mj_aload_n 0 dX11_stands_26 rfl ?_
    refine mj_getP p0_71_3 (by decide) fl_X11_95 rfl s0_71 a0_71 dX11_stands_27 ?_
    refine mj_iload_n 1 dX11_stands_30 rfl ?_
    obtain ⟨z2, hf⟩ := mj_ck hf
    refine mj_ialdv (x := r74) rfl s0_74 a0_74 z2 dX11_stands_31 ?_
    obtain ⟨z3, hf⟩ := mj_ck hf
    refine mj_iastr [(71, r71), (73, (upd r73 x1.toNatClampNeg (r74 x1.toNatClampNeg))), (74, r74), (75, r75)] rfl s0_73 a0_73 z3 dX11_stands_32 ?_
    refine mj_iinc 1 [(1, .int (x1 + (1))), (0, .ref 71)] dX11_stands_33 rfl (kz_1 _) (by decide) rfl ?_
    refine mj_goto 10 dX11_stands_36 (by decide) ?_
    refine mj_sub [1, 0] [(0, .ref 71), (1, .int (x1 + (1)))] rfl ?_
    obtain rfl := Option.some.inj hf
    have hZ := hc ((x1 + (1)), (upd r73 x1.toNatClampNeg (r74 x1.toNatClampNeg))) rfl
    replace hZ := mj_u2p hZ
    exact hZ
set_option maxRecDepth 100000 in
set_option maxHeartbeats 4000000 in
theorem jtX11_stands_101 {X : mj_XT} {l : Launch} {G : mj_GT} {ad : Nat → Nat} {Qn : Option Value → mj_IT → mj_LT → Prop} (hR : mj_R X l G mj_P0 mj_S0 98 ad 0 0 Qn) (F : Nat) (I : mj_IT) (L : mj_LT) (r71 : Nat → Int32) (r73 : Nat → Int32) (r74 : Nat → Int32) (r75 : Nat → Int32) (x1 : Int32) (o : (((Int32) × (Nat → Int32)) ⊕ ((Nat → Int32)))) (hf : jnX11_stands_101 F r71 x1 r73 = some o) (hc : ∀ s2 : ((Int32) × (Nat → Int32)), o = .inl s2 → (mj_u2 (fun x1 r73 => mj_W X G RX11 "stands" cX11_stands 2 2 none mj_P0 mj_S0 98 ad 0 0 41 [(0, .ref 71), (1, .int x1)] [] (mj_rows I [(71, r71), (73, r73), (74, r74), (75, r75)]) L)) s2) (hx : ∀ e2 : ((Nat → Int32)), o = .inr e2 → (fun r73 => mj_W X G RX11 "stands" cX11_stands 2 2 none mj_P0 mj_S0 98 ad 0 0 135 [(0, .ref 71)] [] (mj_rows I [(71, r71), (73, r73), (74, r74), (75, r75)]) L) e2) : mj_W X G RX11 "stands" cX11_stands 2 2 none mj_P0 mj_S0 98 ad 0 0 101 [(0, .ref 71), (1, .int x1)] [] (mj_rows I [(71, r71), (73, r73), (74, r74), (75, r75)]) L := by
  unfold jnX11_stands_101 at hf
  refine mj_aload_n 0 dX11_stands_101 rfl ?_
  refine mj_iload_n 1 dX11_stands_102 rfl ?_
  refine mj_iconst dX11_stands_103 kc_iconst_4 ?_
  obtain ⟨o4, ho4, hf⟩ := mj_bd hf
  refine mj_callVd (I2 := (mj_rows I [(71, r71), (73, r73), (74, r74), (75, r75)])) (L2 := L) (s1 := [.int o4]) (st := []) [.int x1, .int (4 : Int32)] (cmX11_of X.2.1 G F x1 (4 : Int32) _ _ r73 rfl o4 ho4) (mj_rr rfl) rfl cw_X11_175 s0_71 a0_71 (by decide) rfl rfl (Nat.le_of_ble_eq_true rfl) ⟨Nat.zero_le _, Nat.zero_le _⟩ dX11_stands_104 rfl ?_
  refine mj_bipush dX11_stands_107 kc_bipush_m2 ?_
  refine mj_icmp_ne 129 dX11_stands_109 (by decide) (fun c5 => ?_) (fun c5 => ?_)
  · replace hf := mj_neg c5 hf
    refine mj_iinc 1 [(1, .int (x1 + (1))), (0, .ref 71)] dX11_stands_129 rfl (kz_1 _) (by decide) rfl ?_
    refine mj_goto 41 dX11_stands_132 (by decide) ?_
    refine mj_sub [1, 0] [(0, .ref 71), (1, .int (x1 + (1)))] rfl ?_
    obtain rfl := Option.some.inj hf
    have hZ := hc ((x1 + (1)), r73) rfl
    replace hZ := mj_u2p hZ
    exact hZ
  · replace hf := mj_pos c5 hf
    refine mj_aload_n 0 dX11_stands_112 rfl ?_
    refine mj_getP p0_71_2 (by decide) fl_X11_11 rfl s0_71 a0_71 dX11_stands_113 ?_
    refine mj_bipush dX11_stands_116 kc_bipush_12 ?_
    refine mj_iload_n 1 dX11_stands_118 rfl ?_
    refine mj_imul dX11_stands_119 ?_
    refine mj_iconst dX11_stands_120 kc_iconst_4 ?_
    refine mj_iadd dX11_stands_121 ?_
    refine mj_aload_n 0 dX11_stands_122 rfl ?_
    refine mj_getIv (v := (r71 5)) rfl fl_X11_119 rfl s0_71 a0_71 dX11_stands_123 ?_
    refine mj_iconst dX11_stands_126 kc_iconst_1 ?_
    refine mj_iadd dX11_stands_127 ?_
    obtain ⟨z6, hf⟩ := mj_ck hf
    refine mj_iastr [(71, r71), (73, (upd r73 ((((12 : Int32) * x1) + (4 : Int32)).toNatClampNeg) ((r71 5) + (1 : Int32)))), (74, r74), (75, r75)] rfl s0_73 a0_73 z6 dX11_stands_128 ?_
    refine mj_iinc 1 [(1, .int (x1 + (1))), (0, .ref 71)] dX11_stands_129 rfl (kz_1 _) (by decide) rfl ?_
    refine mj_goto 41 dX11_stands_132 (by decide) ?_
    refine mj_sub [1, 0] [(0, .ref 71), (1, .int (x1 + (1)))] rfl ?_
    obtain rfl := Option.some.inj hf
    have hZ := hc ((x1 + (1)), (upd r73 ((((12 : Int32) * x1) + (4 : Int32)).toNatClampNeg) ((r71 5) + (1 : Int32)))) rfl
    replace hZ := mj_u2p hZ
    exact hZ
set_option maxRecDepth 100000 in
set_option maxHeartbeats 4000000 in
theorem jtX11_stands_75 {X : mj_XT} {l : Launch} {G : mj_GT} {ad : Nat → Nat} {Qn : Option Value → mj_IT → mj_LT → Prop} (hR : mj_R X l G mj_P0 mj_S0 98 ad 0 0 Qn) (F : Nat) (I : mj_IT) (L : mj_LT) (r71 : Nat → Int32) (r73 : Nat → Int32) (r74 : Nat → Int32) (r75 : Nat → Int32) (x1 : Int32) (o : (((Int32) × (Nat → Int32)) ⊕ ((Nat → Int32)))) (hf : jnX11_stands_75 F r71 x1 r73 = some o) (hc : ∀ s2 : ((Int32) × (Nat → Int32)), o = .inl s2 → (mj_u2 (fun x1 r73 => mj_W X G RX11 "stands" cX11_stands 2 2 none mj_P0 mj_S0 98 ad 0 0 41 [(0, .ref 71), (1, .int x1)] [] (mj_rows I [(71, r71), (73, r73), (74, r74), (75, r75)]) L)) s2) (hx : ∀ e2 : ((Nat → Int32)), o = .inr e2 → (fun r73 => mj_W X G RX11 "stands" cX11_stands 2 2 none mj_P0 mj_S0 98 ad 0 0 135 [(0, .ref 71)] [] (mj_rows I [(71, r71), (73, r73), (74, r74), (75, r75)]) L) e2) : mj_W X G RX11 "stands" cX11_stands 2 2 none mj_P0 mj_S0 98 ad 0 0 75 [(0, .ref 71), (1, .int x1)] [] (mj_rows I [(71, r71), (73, r73), (74, r74), (75, r75)]) L := by
  unfold jnX11_stands_75 at hf
  refine mj_aload_n 0 dX11_stands_75 rfl ?_
  refine mj_iload_n 1 dX11_stands_76 rfl ?_
  refine mj_iconst dX11_stands_77 kc_iconst_4 ?_
  obtain ⟨o7, ho7, hf⟩ := mj_bd hf
  refine mj_callVd (I2 := (mj_rows I [(71, r71), (73, r73), (74, r74), (75, r75)])) (L2 := L) (s1 := [.int o7]) (st := []) [.int x1, .int (4 : Int32)] (cmX11_of X.2.1 G F x1 (4 : Int32) _ _ r73 rfl o7 ho7) (mj_rr rfl) rfl cw_X11_175 s0_71 a0_71 (by decide) rfl rfl (Nat.le_of_ble_eq_true rfl) ⟨Nat.zero_le _, Nat.zero_le _⟩ dX11_stands_78 rfl ?_
  refine mj_bipush dX11_stands_81 kc_bipush_m3 ?_
  refine mj_icmp_ne 101 dX11_stands_83 (by decide) (fun c8 => ?_) (fun c8 => ?_)
  · replace hf := mj_neg c8 hf
    exact jtX11_stands_101 hR F I L r71 r73 r74 r75 x1 o hf hc hx
  · replace hf := mj_pos c8 hf
    refine mj_aload_n 0 dX11_stands_86 rfl ?_
    refine mj_getP p0_71_2 (by decide) fl_X11_11 rfl s0_71 a0_71 dX11_stands_87 ?_
    refine mj_bipush dX11_stands_90 kc_bipush_12 ?_
    refine mj_iload_n 1 dX11_stands_92 rfl ?_
    refine mj_imul dX11_stands_93 ?_
    refine mj_iconst dX11_stands_94 kc_iconst_4 ?_
    refine mj_iadd dX11_stands_95 ?_
    refine mj_aload_n 0 dX11_stands_96 rfl ?_
    refine mj_getIv (v := (r71 5)) rfl fl_X11_119 rfl s0_71 a0_71 dX11_stands_97 ?_
    obtain ⟨z9, hf⟩ := mj_ck hf
    refine mj_iastr [(71, r71), (73, (upd r73 ((((12 : Int32) * x1) + (4 : Int32)).toNatClampNeg) (r71 5))), (74, r74), (75, r75)] rfl s0_73 a0_73 z9 dX11_stands_100 ?_
    exact jtX11_stands_101 hR F I L r71 (upd r73 ((((12 : Int32) * x1) + (4 : Int32)).toNatClampNeg) (r71 5)) r74 r75 x1 o hf hc hx
set_option maxRecDepth 100000 in
set_option maxHeartbeats 4000000 in
theorem lpX11_stands_41 {X : mj_XT} {l : Launch} {G : mj_GT} {ad : Nat → Nat} {Qn : Option Value → mj_IT → mj_LT → Prop} (hR : mj_R X l G mj_P0 mj_S0 98 ad 0 0 Qn) (F : Nat) (I : mj_IT) (L : mj_LT) (r71 : Nat → Int32) (r73 : Nat → Int32) (r74 : Nat → Int32) (r75 : Nat → Int32) : ∀ (n : Nat) (s : ((Int32) × (Nat → Int32))) (e : ((Nat → Int32))), mj_it (mj_u2 (fun z0 z1 => bdX11_stands_41 F r71 z0 z1)) n s = some e → (fun r73 => mj_W X G RX11 "stands" cX11_stands 2 2 none mj_P0 mj_S0 98 ad 0 0 135 [(0, .ref 71)] [] (mj_rows I [(71, r71), (73, r73), (74, r74), (75, r75)]) L) e → (mj_u2 (fun x1 r73 => mj_W X G RX11 "stands" cX11_stands 2 2 none mj_P0 mj_S0 98 ad 0 0 41 [(0, .ref 71), (1, .int x1)] [] (mj_rows I [(71, r71), (73, r73), (74, r74), (75, r75)]) L)) s := by
  refine mj_loop (fun s o hf hc hx => ?_)
  obtain ⟨x1, r73⟩ := s
  replace hf := mj_u2e hf
  refine mj_u2q ?_
  unfold bdX11_stands_41 at hf
  refine mj_iload_n 1 dX11_stands_41 rfl ?_
  refine mj_aload_n 0 dX11_stands_42 rfl ?_
  refine mj_getIv (v := (r71 5)) rfl fl_X11_119 rfl s0_71 a0_71 dX11_stands_43 ?_
  refine mj_icmp_ge 135 dX11_stands_46 (by decide) (fun c10 => ?_) (fun c10 => ?_)
  · replace hf := mj_pos c10 hf
    refine mj_sub [0] [(0, .ref 71)] rfl ?_
    obtain rfl := Option.some.inj hf
    have hZ := hx r73 rfl
    exact hZ
  · replace hf := mj_neg c10 hf
    refine mj_aload_n 0 dX11_stands_49 rfl ?_
    refine mj_iload_n 1 dX11_stands_50 rfl ?_
    refine mj_iconst dX11_stands_51 kc_iconst_3 ?_
    obtain ⟨o11, ho11, hf⟩ := mj_bd hf
    refine mj_callVd (I2 := (mj_rows I [(71, r71), (73, r73), (74, r74), (75, r75)])) (L2 := L) (s1 := [.int o11]) (st := []) [.int x1, .int (3 : Int32)] (cmX11_of X.2.1 G F x1 (3 : Int32) _ _ r73 rfl o11 ho11) (mj_rr rfl) rfl cw_X11_175 s0_71 a0_71 (by decide) rfl rfl (Nat.le_of_ble_eq_true rfl) ⟨Nat.zero_le _, Nat.zero_le _⟩ dX11_stands_52 rfl ?_
    refine mj_bipush dX11_stands_55 kc_bipush_m3 ?_
    refine mj_icmp_ne 75 dX11_stands_57 (by decide) (fun c12 => ?_) (fun c12 => ?_)
    · replace hf := mj_neg c12 hf
      exact jtX11_stands_75 hR F I L r71 r73 r74 r75 x1 o hf hc hx
    · replace hf := mj_pos c12 hf
      refine mj_aload_n 0 dX11_stands_60 rfl ?_
      refine mj_getP p0_71_2 (by decide) fl_X11_11 rfl s0_71 a0_71 dX11_stands_61 ?_
      refine mj_bipush dX11_stands_64 kc_bipush_12 ?_
      refine mj_iload_n 1 dX11_stands_66 rfl ?_
      refine mj_imul dX11_stands_67 ?_
      refine mj_iconst dX11_stands_68 kc_iconst_3 ?_
      refine mj_iadd dX11_stands_69 ?_
      refine mj_aload_n 0 dX11_stands_70 rfl ?_
      refine mj_getIv (v := (r71 5)) rfl fl_X11_119 rfl s0_71 a0_71 dX11_stands_71 ?_
      obtain ⟨z13, hf⟩ := mj_ck hf
      refine mj_iastr [(71, r71), (73, (upd r73 ((((12 : Int32) * x1) + (3 : Int32)).toNatClampNeg) (r71 5))), (74, r74), (75, r75)] rfl s0_73 a0_73 z13 dX11_stands_74 ?_
      exact jtX11_stands_75 hR F I L r71 (upd r73 ((((12 : Int32) * x1) + (3 : Int32)).toNatClampNeg) (r71 5)) r74 r75 x1 o hf hc hx
set_option maxRecDepth 100000 in
set_option maxHeartbeats 4000000 in
theorem lpX11_stands_137 {X : mj_XT} {l : Launch} {G : mj_GT} {ad : Nat → Nat} {Qn : Option Value → mj_IT → mj_LT → Prop} (hR : mj_R X l G mj_P0 mj_S0 98 ad 0 0 Qn) (F : Nat) (I : mj_IT) (L : mj_LT) (r71 : Nat → Int32) (r73 : Nat → Int32) (r74 : Nat → Int32) (r75 : Nat → Int32) : ∀ (n : Nat) (s : ((Int32) × (Nat → Int32))) (e : ((Nat → Int32))), mj_it (mj_u2 (fun z0 z1 => bdX11_stands_137 F z0 z1)) n s = some e → (fun r75 => mj_W X G RX11 "stands" cX11_stands 2 2 none mj_P0 mj_S0 98 ad 0 0 156 [(0, .ref 71)] [] (mj_rows I [(71, r71), (73, r73), (74, r74), (75, r75)]) L) e → (mj_u2 (fun x1 r75 => mj_W X G RX11 "stands" cX11_stands 2 2 none mj_P0 mj_S0 98 ad 0 0 137 [(0, .ref 71), (1, .int x1)] [] (mj_rows I [(71, r71), (73, r73), (74, r74), (75, r75)]) L)) s := by
  refine mj_loop (fun s o hf hc hx => ?_)
  obtain ⟨x1, r75⟩ := s
  replace hf := mj_u2e hf
  refine mj_u2q ?_
  unfold bdX11_stands_137 at hf
  refine mj_iload_n 1 dX11_stands_137 rfl ?_
  refine mj_bipush dX11_stands_138 kc_bipush_6 ?_
  refine mj_icmp_ge 156 dX11_stands_140 (by decide) (fun c14 => ?_) (fun c14 => ?_)
  · replace hf := mj_pos c14 hf
    refine mj_sub [0] [(0, .ref 71)] rfl ?_
    obtain rfl := Option.some.inj hf
    have hZ := hx r75 rfl
    exact hZ
  · replace hf := mj_neg c14 hf
    refine mj_aload_n 0 dX11_stands_143 rfl ?_
    refine mj_getP p0_71_6 (by decide) fl_X11_178 rfl s0_71 a0_71 dX11_stands_144 ?_
    refine mj_iload_n 1 dX11_stands_147 rfl ?_
    refine mj_iconst dX11_stands_148 kc_iconst_0 ?_
    obtain ⟨z15, hf⟩ := mj_ck hf
    refine mj_iastr [(71, r71), (73, r73), (74, r74), (75, (upd r75 x1.toNatClampNeg (0 : Int32)))] rfl s0_75 a0_75 z15 dX11_stands_149 ?_
    refine mj_iinc 1 [(1, .int (x1 + (1))), (0, .ref 71)] dX11_stands_150 rfl (kz_1 _) (by decide) rfl ?_
    refine mj_goto 137 dX11_stands_153 (by decide) ?_
    refine mj_sub [1, 0] [(0, .ref 71), (1, .int (x1 + (1)))] rfl ?_
    obtain rfl := Option.some.inj hf
    have hZ := hc ((x1 + (1)), (upd r75 x1.toNatClampNeg (0 : Int32))) rfl
    replace hZ := mj_u2p hZ
    exact hZ
set_option maxRecDepth 100000 in
set_option maxHeartbeats 4000000 in
theorem mtX11_stands {X : mj_XT} {l : Launch} {G : mj_GT} {ad : Nat → Nat} {Qn : Option Value → mj_IT → mj_LT → Prop} (hR : mj_R X l G mj_P0 mj_S0 98 ad 0 0 Qn) (F : Nat) (I : mj_IT) (L : mj_LT) (r71 : Nat → Int32) (r73 : Nat → Int32) (r74 : Nat → Int32) (r75 : Nat → Int32) (o : ((Nat → Int32) × (Nat → Int32) × (Nat → Int32))) (hf : fnX11_stands F r71 r73 r74 r75 = some o) (hq : (mj_u2 (fun r71 => (mj_u2 (fun r73 r75 => Qn none (mj_rows I [(71, r71), (73, r73), (74, r74), (75, r75)]) L)))) o) : mj_W X G RX11 "stands" cX11_stands 2 2 none mj_P0 mj_S0 98 ad 0 0 0 [(0, .ref 71)] [] (mj_rows I [(71, r71), (73, r73), (74, r74), (75, r75)]) L := by
  unfold fnX11_stands at hf
  refine mj_aload_n 0 dX11_stands_0 rfl ?_
  refine mj_aload_n 0 dX11_stands_1 rfl ?_
  refine mj_getIv (v := (r71 5)) rfl fl_X11_119 rfl s0_71 a0_71 dX11_stands_2 ?_
  refine mj_putIr (ci := 9) (j := 4) [(71, (upd r71 4 (r71 5))), (73, r73), (74, r74), (75, r75)] rfl ⟨rfl, rfl⟩ fl_X11_172 rfl rfl s0_71 a0_71 dX11_stands_5 ?_
  refine mj_iconst dX11_stands_8 kc_iconst_0 ?_
  refine mj_istore_n [(1, .int (0 : Int32)), (0, .ref 71)] dX11_stands_9 rfl (by decide) rfl ?_
  refine mj_sub [1, 0] [(0, .ref 71), (1, .int (0 : Int32))] rfl ?_
  obtain ⟨r73_16, ho16, hf⟩ := mj_bd hf
  refine lpX11_stands_10 hR F I L (upd r71 4 (r71 5)) r73 r74 r75 F ((0 : Int32), r73) r73_16 ho16 ?_
  refine ?_
  refine mj_iconst dX11_stands_39 kc_iconst_0 ?_
  refine mj_istore_n [(1, .int (0 : Int32)), (0, .ref 71)] dX11_stands_40 rfl (by decide) rfl ?_
  refine mj_sub [1, 0] [(0, .ref 71), (1, .int (0 : Int32))] rfl ?_
  obtain ⟨r73_17, ho17, hf⟩ := mj_bd hf
  refine lpX11_stands_41 hR F I L (upd r71 4 (r71 5)) r73_16 r74 r75 F ((0 : Int32), r73_16) r73_17 ho17 ?_
  refine ?_
  refine mj_iconst dX11_stands_135 kc_iconst_0 ?_
  refine mj_istore_n [(1, .int (0 : Int32)), (0, .ref 71)] dX11_stands_136 rfl (by decide) rfl ?_
  refine mj_sub [1, 0] [(0, .ref 71), (1, .int (0 : Int32))] rfl ?_
  obtain ⟨r75_18, ho18, hf⟩ := mj_bd hf
  refine lpX11_stands_137 hR F I L (upd r71 4 (r71 5)) r73_17 r74 r75 F ((0 : Int32), r75) r75_18 ho18 ?_
  refine ?_
  refine mj_aload_n 0 dX11_stands_156 rfl ?_
  refine mj_iconst dX11_stands_157 kc_iconst_0 ?_
  refine mj_putIr (ci := 9) (j := 17) [(71, (upd (upd r71 4 (r71 5)) 17 (0 : Int32))), (73, r73_17), (74, r74), (75, r75_18)] rfl ⟨rfl, rfl⟩ fl_X11_181 rfl rfl s0_71 a0_71 dX11_stands_158 ?_
  refine mj_aload_n 0 dX11_stands_161 rfl ?_
  obtain ⟨o19, ho19, hf⟩ := mj_bd hf
  refine mj_callVd (I2 := (mj_rows I [(71, o19), (73, r73_17), (74, r74), (75, r75_18)])) (L2 := L) (s1 := []) (st := []) [] (cmX11_isOther X.2.1 G F  _ _ (upd (upd r71 4 (r71 5)) 17 (0 : Int32)) rfl o19 ho19) (mj_rr rfl) rfl cw_X11_184 s0_71 a0_71 (by decide) rfl rfl (Nat.le_of_ble_eq_true rfl) ⟨Nat.zero_le _, Nat.zero_le _⟩ dX11_stands_162 rfl ?_
  obtain rfl := Option.some.inj hf
  have hZ := hq
  replace hZ := mj_u2p hZ
  replace hZ := mj_u2p hZ
  exact mj_vret hR ⟨Nat.le_refl _, Nat.le_refl _⟩ rfl dX11_stands_165 hZ
set_option maxRecDepth 100000 in
set_option maxHeartbeats 4000000 in
theorem cmX11_stands (l : Launch) (G : mj_GT) (F : Nat) (I : mj_IT) (L : mj_LT) (r71 : Nat → Int32) (r73 : Nat → Int32) (r74 : Nat → Int32) (r75 : Nat → Int32) (hr71 : I 71 = r71) (hr73 : I 73 = r73) (hr74 : I 74 = r74) (hr75 : I 75 = r75) (o : ((Nat → Int32) × (Nat → Int32) × (Nat → Int32))) (hf : fnX11_stands F r71 r73 r74 r75 = some o) : mj_M l G yX11_stands cX11_stands 2 2 none 0 0 mj_P0 mj_S0 98 [.ref 71] I L (mj_qd none (mj_rows I [(71, o.1), (73, o.2.1), (74, r74), (75, o.2.2)]) L) := by
  refine mj_in RX11 "stands" [(0, .ref 71)] rfl rfl rfl (by decide) (Nat.le_of_ble_eq_true rfl) (fun X ad hR => ?_)
  refine mj_toI [(71, r71), (73, r73), (74, r74), (75, r75)] (by intro q hq; simp only [List.mem_cons, List.not_mem_nil, or_false] at hq; rcases hq with rfl | rfl | rfl | rfl <;> assumption) ?_
  refine mtX11_stands hR F I L r71 r73 r74 r75 o hf ?_
  obtain ⟨w0, w1, w2⟩ := o
  refine mj_u2q ?_
  refine mj_u2q ?_
  exact ⟨rfl, rfl, rfl⟩

-- X11_text
def bdX11_text_29 (F : Nat) (r76 : Nat → Int32) (x1 : Int32) (x2 : Int32) (r77 : Nat → Int32) : Option (((Int32) × (Nat → Int32)) ⊕ ((Nat → Int32))) := (if x1 ≤ x2 then some (.inr r77) else (if mj_ib x2 400 = true then (if mj_ib x2 400 = true then some (.inl ((x2 + (1)), (upd r77 x2.toNatClampNeg (vp_nar .byte (r76 x2.toNatClampNeg))))) else none) else none))
def jnX11_text_123 (F : Nat) (r76 : Nat → Int32) (r71 : Nat → Int32) (r72 : Nat → Int32) (r73 : Nat → Int32) (r74 : Nat → Int32) (r75 : Nat → Int32) (r77 : Nat → Int32) : Option ((Int32) × (Nat → Int32) × (Nat → Int32) × (Nat → Int32) × (Nat → Int32) × (Nat → Int32) × (Nat → Int32)) := (if (r71 14) ≤ 0 then (if (r71 14) ≤ 0 then (fnX11_stands F (upd r71 16 (-1 : Int32)) r73 r74 r75).bind (fun o6 => some ((o6.1 4), o6.1, r72, o6.2.1, r74, o6.2.2, r77)) else some (((r71 14) - (10 : Int32)), (upd r71 16 (-1 : Int32)), r72, r73, r74, r75, r77)) else (if (r71 14) ≤ 0 then (fnX11_stands F (upd r71 16 (r71 15)) r73 r74 r75).bind (fun o8 => some ((o8.1 4), o8.1, r72, o8.2.1, r74, o8.2.2, r77)) else some (((r71 14) - (10 : Int32)), (upd r71 16 (r71 15)), r72, r73, r74, r75, r77)))
def jnX11_text_114 (F : Nat) (r76 : Nat → Int32) (r71 : Nat → Int32) (r72 : Nat → Int32) (r73 : Nat → Int32) (r74 : Nat → Int32) (r75 : Nat → Int32) (r77 : Nat → Int32) : Option ((Int32) × (Nat → Int32) × (Nat → Int32) × (Nat → Int32) × (Nat → Int32) × (Nat → Int32) × (Nat → Int32)) := (fnX11_wrong F r71 (1 : Int32) (r71 11)).bind (fun o9 => jnX11_text_123 F r76 o9 r72 r73 r74 r75 r77)
def fnX11_text (F : Nat) (r71 : Nat → Int32) (r72 : Nat → Int32) (r73 : Nat → Int32) (r74 : Nat → Int32) (r75 : Nat → Int32) (r76 : Nat → Int32) (r77 : Nat → Int32) (x1 : Int32) : Option ((Int32) × (Nat → Int32) × (Nat → Int32) × (Nat → Int32) × (Nat → Int32) × (Nat → Int32) × (Nat → Int32)) := (fnX11_lies F x1.toInt64 (0 : Int64) ((r71 9).toInt64)).bind (fun o10 => (fnX11_isFine F (upd r71 0 (0 : Int32)) r72 o10 (1 : Int32) (1 : Int32)).bind (fun o11 => (if o11.1 = 0 then some ((0 : Int32), o11.2.1, o11.2.2, r73, r74, r75, r77) else (mj_it (mj_u2 (fun z0 z1 => bdX11_text_29 F r76 x1 z0 z1)) F ((0 : Int32), r77)).bind (fun r77_13 => (fnX11_rowR F 9 (upd (upd (upd (upd (upd (upd o11.2.1 9 (0 : Int32)) 10 x1) 11 (0 : Int32)) 13 (0 : Int32)) 5 (0 : Int32)) 14 (0 : Int32)) r74 r77_13 (-3 : Int32)).bind (fun o14 => (if (o14.2.1 14) = 0 then (fnX11_sign F o14.2.1 r77_13).bind (fun o16 => (if o16.1 = 0 then (if (o16.2 10) ≤ (o16.2 11) then jnX11_text_123 F r76 o16.2 o11.2.2 r73 o14.2.2 r75 r77_13 else jnX11_text_114 F r76 o16.2 o11.2.2 r73 o14.2.2 r75 r77_13) else jnX11_text_114 F r76 o16.2 o11.2.2 r73 o14.2.2 r75 r77_13)) else jnX11_text_123 F r76 o14.2.1 o11.2.2 r73 o14.2.2 r75 r77_13))))))
set_option maxRecDepth 100000 in
set_option maxHeartbeats 4000000 in
theorem lpX11_text_29 {X : mj_XT} {l : Launch} {G : mj_GT} {ad : Nat → Nat} {Qn : Option Value → mj_IT → mj_LT → Prop} (hR : mj_R X l G mj_P0 mj_S0 98 ad 0 0 Qn) (F : Nat) (I : mj_IT) (L : mj_LT) (r71 : Nat → Int32) (r72 : Nat → Int32) (r73 : Nat → Int32) (r74 : Nat → Int32) (r75 : Nat → Int32) (r76 : Nat → Int32) (r77 : Nat → Int32) (x1 : Int32) : ∀ (n : Nat) (s : ((Int32) × (Nat → Int32))) (e : ((Nat → Int32))), mj_it (mj_u2 (fun z0 z1 => bdX11_text_29 F r76 x1 z0 z1)) n s = some e → (fun r77 => mj_W X G RX11 "text" cX11_text 3 49 (some .int) mj_P0 mj_S0 98 ad 0 0 52 [(0, .ref 71), (1, .int x1)] [] (mj_rows I [(71, r71), (72, r72), (73, r73), (74, r74), (75, r75), (76, r76), (77, r77)]) L) e → (mj_u2 (fun x2 r77 => mj_W X G RX11 "text" cX11_text 3 49 (some .int) mj_P0 mj_S0 98 ad 0 0 29 [(0, .ref 71), (1, .int x1), (2, .int x2)] [] (mj_rows I [(71, r71), (72, r72), (73, r73), (74, r74), (75, r75), (76, r76), (77, r77)]) L)) s := by
  refine mj_loop (fun s o hf hc hx => ?_)
  obtain ⟨x2, r77⟩ := s
  replace hf := mj_u2e hf
  refine mj_u2q ?_
  unfold bdX11_text_29 at hf
  refine mj_iload_n 2 dX11_text_29 rfl ?_
  refine mj_iload_n 1 dX11_text_30 rfl ?_
  refine mj_icmp_ge 52 dX11_text_31 (by decide) (fun c1 => ?_) (fun c1 => ?_)
  · replace hf := mj_pos c1 hf
    refine mj_sub [0, 1] [(0, .ref 71), (1, .int x1)] rfl ?_
    obtain rfl := Option.some.inj hf
    have hZ := hx r77 rfl
    exact hZ
  · replace hf := mj_neg c1 hf
    refine mj_aload_n 0 dX11_text_34 rfl ?_
    refine mj_getP p0_71_8 (by decide) fl_X11_37 rfl s0_71 a0_71 dX11_text_35 ?_
    refine mj_iload_n 2 dX11_text_38 rfl ?_
    refine mj_aload_n 0 dX11_text_39 rfl ?_
    refine mj_getP p0_71_7 (by decide) fl_X11_21 rfl s0_71 a0_71 dX11_text_40 ?_
    refine mj_iload_n 2 dX11_text_43 rfl ?_
    obtain ⟨z2, hf⟩ := mj_ck hf
    refine mj_baldv (x := r76) rfl s0_76 a0_76 z2 dX11_text_44 ?_
    obtain ⟨z3, hf⟩ := mj_ck hf
    refine mj_bastr [(71, r71), (72, r72), (73, r73), (74, r74), (75, r75), (76, r76), (77, (upd r77 x2.toNatClampNeg (vp_nar .byte (r76 x2.toNatClampNeg))))] rfl s0_77 a0_77 z3 dX11_text_45 ?_
    refine mj_iinc 2 [(2, .int (x2 + (1))), (0, .ref 71), (1, .int x1)] dX11_text_46 rfl (kz_1 _) (by decide) rfl ?_
    refine mj_goto 29 dX11_text_49 (by decide) ?_
    refine mj_sub [1, 2, 0] [(0, .ref 71), (1, .int x1), (2, .int (x2 + (1)))] rfl ?_
    obtain rfl := Option.some.inj hf
    have hZ := hc ((x2 + (1)), (upd r77 x2.toNatClampNeg (vp_nar .byte (r76 x2.toNatClampNeg)))) rfl
    replace hZ := mj_u2p hZ
    exact hZ
set_option maxRecDepth 100000 in
set_option maxHeartbeats 4000000 in
theorem jtX11_text_123 {X : mj_XT} {l : Launch} {G : mj_GT} {ad : Nat → Nat} {Qn : Option Value → mj_IT → mj_LT → Prop} (hR : mj_R X l G mj_P0 mj_S0 98 ad 0 0 Qn) (F : Nat) (I : mj_IT) (L : mj_LT) (r71 : Nat → Int32) (r72 : Nat → Int32) (r73 : Nat → Int32) (r74 : Nat → Int32) (r75 : Nat → Int32) (r76 : Nat → Int32) (r77 : Nat → Int32) (o : ((Int32) × (Nat → Int32) × (Nat → Int32) × (Nat → Int32) × (Nat → Int32) × (Nat → Int32) × (Nat → Int32))) (hf : jnX11_text_123 F r76 r71 r72 r73 r74 r75 r77 = some o) (hq : (mj_u2 (fun ov => (mj_u2 (fun r71 => (mj_u2 (fun r72 => (mj_u2 (fun r73 => (mj_u2 (fun r74 => (mj_u2 (fun r75 r77 => Qn (some (.int ov)) (mj_rows I [(71, r71), (72, r72), (73, r73), (74, r74), (75, r75), (76, r76), (77, r77)]) L)))))))))))) o) : mj_W X G RX11 "text" cX11_text 3 49 (some .int) mj_P0 mj_S0 98 ad 0 0 123 [(0, .ref 71)] [] (mj_rows I [(71, r71), (72, r72), (73, r73), (74, r74), (75, r75), (76, r76), (77, r77)]) L := by
  unfold jnX11_text_123 at hf
  refine mj_aload_n 0 dX11_text_123 rfl ?_
  refine mj_aload_n 0 dX11_text_124 rfl ?_
  refine mj_getIv (v := (r71 14)) rfl fl_X11_25 rfl s0_71 a0_71 dX11_text_125 ?_
  refine mj_if_le 138 dX11_text_128 (by decide) (fun c4 => ?_) (fun c4 => ?_)
  · replace hf := mj_pos c4 hf
    refine mj_iconst dX11_text_138 kc_iconst_m1 ?_
    refine mj_putIr (ci := 9) (j := 16) [(71, (upd r71 16 (-1 : Int32))), (72, r72), (73, r73), (74, r74), (75, r75), (76, r76), (77, r77)] rfl ⟨rfl, rfl⟩ fl_X11_165 rfl rfl s0_71 a0_71 dX11_text_139 ?_
    refine mj_aload_n 0 dX11_text_142 rfl ?_
    refine mj_getIv (v := (r71 14)) rfl fl_X11_25 rfl s0_71 a0_71 dX11_text_143 ?_
    refine mj_if_le 157 dX11_text_146 (by decide) (fun c5 => ?_) (fun c5 => ?_)
    · replace hf := mj_pos c5 hf
      refine mj_aload_n 0 dX11_text_157 rfl ?_
      obtain ⟨o6, ho6, hf⟩ := mj_bd hf
      refine mj_callVd (I2 := (mj_rows I [(71, o6.1), (72, r72), (73, o6.2.1), (74, r74), (75, o6.2.2), (76, r76), (77, r77)])) (L2 := L) (s1 := []) (st := []) [] (cmX11_stands X.2.1 G F  _ _ (upd r71 16 (-1 : Int32)) r73 r74 r75 rfl rfl rfl rfl o6 ho6) (mj_rr rfl) rfl cw_X11_168 s0_71 a0_71 (by decide) rfl rfl (Nat.le_of_ble_eq_true rfl) ⟨Nat.zero_le _, Nat.zero_le _⟩ dX11_text_158 rfl ?_
      refine mj_aload_n 0 dX11_text_161 rfl ?_
      refine mj_getIv (v := (o6.1 4)) rfl fl_X11_172 rfl s0_71 a0_71 dX11_text_162 ?_
      obtain rfl := Option.some.inj hf
      have hZ := hq
      replace hZ := mj_u2p hZ
      replace hZ := mj_u2p hZ
      replace hZ := mj_u2p hZ
      replace hZ := mj_u2p hZ
      replace hZ := mj_u2p hZ
      replace hZ := mj_u2p hZ
      exact mj_iret hR ⟨Nat.le_refl _, Nat.le_refl _⟩ rfl rfl dX11_text_165 hZ
    · replace hf := mj_neg c5 hf
      refine mj_aload_n 0 dX11_text_149 rfl ?_
      refine mj_getIv (v := (r71 14)) rfl fl_X11_25 rfl s0_71 a0_71 dX11_text_150 ?_
      refine mj_bipush dX11_text_153 kc_bipush_10 ?_
      refine mj_isub dX11_text_155 ?_
      obtain rfl := Option.some.inj hf
      have hZ := hq
      replace hZ := mj_u2p hZ
      replace hZ := mj_u2p hZ
      replace hZ := mj_u2p hZ
      replace hZ := mj_u2p hZ
      replace hZ := mj_u2p hZ
      replace hZ := mj_u2p hZ
      exact mj_iret hR ⟨Nat.le_refl _, Nat.le_refl _⟩ rfl rfl dX11_text_156 hZ
  · replace hf := mj_neg c4 hf
    refine mj_aload_n 0 dX11_text_131 rfl ?_
    refine mj_getIv (v := (r71 15)) rfl fl_X11_28 rfl s0_71 a0_71 dX11_text_132 ?_
    refine mj_goto 139 dX11_text_135 (by decide) ?_
    refine mj_putIr (ci := 9) (j := 16) [(71, (upd r71 16 (r71 15))), (72, r72), (73, r73), (74, r74), (75, r75), (76, r76), (77, r77)] rfl ⟨rfl, rfl⟩ fl_X11_165 rfl rfl s0_71 a0_71 dX11_text_139 ?_
    refine mj_aload_n 0 dX11_text_142 rfl ?_
    refine mj_getIv (v := (r71 14)) rfl fl_X11_25 rfl s0_71 a0_71 dX11_text_143 ?_
    refine mj_if_le 157 dX11_text_146 (by decide) (fun c7 => ?_) (fun c7 => ?_)
    · replace hf := mj_pos c7 hf
      refine mj_aload_n 0 dX11_text_157 rfl ?_
      obtain ⟨o8, ho8, hf⟩ := mj_bd hf
      refine mj_callVd (I2 := (mj_rows I [(71, o8.1), (72, r72), (73, o8.2.1), (74, r74), (75, o8.2.2), (76, r76), (77, r77)])) (L2 := L) (s1 := []) (st := []) [] (cmX11_stands X.2.1 G F  _ _ (upd r71 16 (r71 15)) r73 r74 r75 rfl rfl rfl rfl o8 ho8) (mj_rr rfl) rfl cw_X11_168 s0_71 a0_71 (by decide) rfl rfl (Nat.le_of_ble_eq_true rfl) ⟨Nat.zero_le _, Nat.zero_le _⟩ dX11_text_158 rfl ?_
      refine mj_aload_n 0 dX11_text_161 rfl ?_
      refine mj_getIv (v := (o8.1 4)) rfl fl_X11_172 rfl s0_71 a0_71 dX11_text_162 ?_
      obtain rfl := Option.some.inj hf
      have hZ := hq
      replace hZ := mj_u2p hZ
      replace hZ := mj_u2p hZ
      replace hZ := mj_u2p hZ
      replace hZ := mj_u2p hZ
      replace hZ := mj_u2p hZ
      replace hZ := mj_u2p hZ
      exact mj_iret hR ⟨Nat.le_refl _, Nat.le_refl _⟩ rfl rfl dX11_text_165 hZ
    · replace hf := mj_neg c7 hf
      refine mj_aload_n 0 dX11_text_149 rfl ?_
      refine mj_getIv (v := (r71 14)) rfl fl_X11_25 rfl s0_71 a0_71 dX11_text_150 ?_
      refine mj_bipush dX11_text_153 kc_bipush_10 ?_
      refine mj_isub dX11_text_155 ?_
      obtain rfl := Option.some.inj hf
      have hZ := hq
      replace hZ := mj_u2p hZ
      replace hZ := mj_u2p hZ
      replace hZ := mj_u2p hZ
      replace hZ := mj_u2p hZ
      replace hZ := mj_u2p hZ
      replace hZ := mj_u2p hZ
      exact mj_iret hR ⟨Nat.le_refl _, Nat.le_refl _⟩ rfl rfl dX11_text_156 hZ
set_option maxRecDepth 100000 in
set_option maxHeartbeats 4000000 in
theorem jtX11_text_114 {X : mj_XT} {l : Launch} {G : mj_GT} {ad : Nat → Nat} {Qn : Option Value → mj_IT → mj_LT → Prop} (hR : mj_R X l G mj_P0 mj_S0 98 ad 0 0 Qn) (F : Nat) (I : mj_IT) (L : mj_LT) (r71 : Nat → Int32) (r72 : Nat → Int32) (r73 : Nat → Int32) (r74 : Nat → Int32) (r75 : Nat → Int32) (r76 : Nat → Int32) (r77 : Nat → Int32) (o : ((Int32) × (Nat → Int32) × (Nat → Int32) × (Nat → Int32) × (Nat → Int32) × (Nat → Int32) × (Nat → Int32))) (hf : jnX11_text_114 F r76 r71 r72 r73 r74 r75 r77 = some o) (hq : (mj_u2 (fun ov => (mj_u2 (fun r71 => (mj_u2 (fun r72 => (mj_u2 (fun r73 => (mj_u2 (fun r74 => (mj_u2 (fun r75 r77 => Qn (some (.int ov)) (mj_rows I [(71, r71), (72, r72), (73, r73), (74, r74), (75, r75), (76, r76), (77, r77)]) L)))))))))))) o) : mj_W X G RX11 "text" cX11_text 3 49 (some .int) mj_P0 mj_S0 98 ad 0 0 114 [(0, .ref 71)] [] (mj_rows I [(71, r71), (72, r72), (73, r73), (74, r74), (75, r75), (76, r76), (77, r77)]) L := by
  unfold jnX11_text_114 at hf
  refine mj_aload_n 0 dX11_text_114 rfl ?_
  refine mj_iconst dX11_text_115 kc_iconst_1 ?_
  refine mj_aload_n 0 dX11_text_116 rfl ?_
  refine mj_getIv (v := (r71 11)) rfl fl_X11_31 rfl s0_71 a0_71 dX11_text_117 ?_
  obtain ⟨o9, ho9, hf⟩ := mj_bd hf
  refine mj_callVd (I2 := (mj_rows I [(71, o9), (72, r72), (73, r73), (74, r74), (75, r75), (76, r76), (77, r77)])) (L2 := L) (s1 := []) (st := []) [.int (1 : Int32), .int (r71 11)] (cmX11_wrong X.2.1 G F (1 : Int32) (r71 11) _ _ r71 rfl o9 ho9) (mj_rr rfl) rfl cw_X11_64 s0_71 a0_71 (by decide) rfl rfl (Nat.le_of_ble_eq_true rfl) ⟨Nat.zero_le _, Nat.zero_le _⟩ dX11_text_120 rfl ?_
  exact jtX11_text_123 hR F I L o9 r72 r73 r74 r75 r76 r77 o hf hq
set_option maxRecDepth 100000 in
set_option maxHeartbeats 4000000 in
theorem mtX11_text {X : mj_XT} {l : Launch} {G : mj_GT} {ad : Nat → Nat} {Qn : Option Value → mj_IT → mj_LT → Prop} (hR : mj_R X l G mj_P0 mj_S0 98 ad 0 0 Qn) (F : Nat) (I : mj_IT) (L : mj_LT) (r71 : Nat → Int32) (r72 : Nat → Int32) (r73 : Nat → Int32) (r74 : Nat → Int32) (r75 : Nat → Int32) (r76 : Nat → Int32) (r77 : Nat → Int32) (x1 : Int32) (o : ((Int32) × (Nat → Int32) × (Nat → Int32) × (Nat → Int32) × (Nat → Int32) × (Nat → Int32) × (Nat → Int32))) (hf : fnX11_text F r71 r72 r73 r74 r75 r76 r77 x1 = some o) (hq : (mj_u2 (fun ov => (mj_u2 (fun r71 => (mj_u2 (fun r72 => (mj_u2 (fun r73 => (mj_u2 (fun r74 => (mj_u2 (fun r75 r77 => Qn (some (.int ov)) (mj_rows I [(71, r71), (72, r72), (73, r73), (74, r74), (75, r75), (76, r76), (77, r77)]) L)))))))))))) o) : mj_W X G RX11 "text" cX11_text 3 49 (some .int) mj_P0 mj_S0 98 ad 0 0 0 [(0, .ref 71), (1, .int x1)] [] (mj_rows I [(71, r71), (72, r72), (73, r73), (74, r74), (75, r75), (76, r76), (77, r77)]) L := by
  unfold fnX11_text at hf
  refine mj_aload_n 0 dX11_text_0 rfl ?_
  refine mj_iconst dX11_text_1 kc_iconst_0 ?_
  refine mj_putIr (ci := 9) (j := 0) [(71, (upd r71 0 (0 : Int32))), (72, r72), (73, r73), (74, r74), (75, r75), (76, r76), (77, r77)] rfl ⟨rfl, rfl⟩ fl_X11_1 rfl rfl s0_71 a0_71 dX11_text_2 ?_
  refine mj_aload_n 0 dX11_text_5 rfl ?_
  refine mj_iload_n 1 dX11_text_6 rfl ?_
  refine mj_i2l dX11_text_7 ?_
  refine mj_lconst (v := 0) dX11_text_8 (by decide) ?_
  refine mj_aload_n 0 dX11_text_9 rfl ?_
  refine mj_getIv (v := (r71 9)) rfl fl_X11_14 rfl s0_71 a0_71 dX11_text_10 ?_
  refine mj_i2l dX11_text_13 ?_
  obtain ⟨o10, ho10, hf⟩ := mj_bd hf
  refine mj_callSd (I2 := (mj_rows I [(71, (upd r71 0 (0 : Int32))), (72, r72), (73, r73), (74, r74), (75, r75), (76, r76), (77, r77)])) (L2 := L) (s1 := [.int o10, .ref 71]) (st := [.ref 71]) [.long x1.toInt64, .long (0 : Int64), .long ((r71 9).toInt64)] (cmX11_lies X.2.1 G F x1.toInt64 (0 : Int64) ((r71 9).toInt64) _ _   o10 ho10) rfl rfl cw_X11_157 (by decide) rfl rfl (Nat.le_of_ble_eq_true rfl) ⟨Nat.zero_le _, Nat.zero_le _⟩ dX11_text_14 rfl ?_
  refine mj_iconst dX11_text_17 kc_iconst_1 ?_
  refine mj_iconst dX11_text_18 kc_iconst_1 ?_
  obtain ⟨o11, ho11, hf⟩ := mj_bd hf
  refine mj_callVd (I2 := (mj_rows I [(71, o11.2.1), (72, o11.2.2), (73, r73), (74, r74), (75, r75), (76, r76), (77, r77)])) (L2 := L) (s1 := [.int o11.1]) (st := []) [.int o10, .int (1 : Int32), .int (1 : Int32)] (cmX11_isFine X.2.1 G F o10 (1 : Int32) (1 : Int32) _ _ (upd r71 0 (0 : Int32)) r72 rfl rfl o11 ho11) (mj_rr rfl) rfl cw_X11_161 s0_71 a0_71 (by decide) rfl rfl (Nat.le_of_ble_eq_true rfl) ⟨Nat.zero_le _, Nat.zero_le _⟩ dX11_text_19 rfl ?_
  refine mj_if_ne 27 dX11_text_22 (by decide) (fun c12 => ?_) (fun c12 => ?_)
  · replace hf := mj_neg c12 hf
    refine mj_iconst dX11_text_27 kc_iconst_0 ?_
    refine mj_istore_n [(2, .int (0 : Int32)), (0, .ref 71), (1, .int x1)] dX11_text_28 rfl (by decide) rfl ?_
    refine mj_sub [1, 2, 0] [(0, .ref 71), (1, .int x1), (2, .int (0 : Int32))] rfl ?_
    obtain ⟨r77_13, ho13, hf⟩ := mj_bd hf
    refine lpX11_text_29 hR F I L o11.2.1 o11.2.2 r73 r74 r75 r76 r77 x1 F ((0 : Int32), r77) r77_13 ho13 ?_
    refine ?_
    refine mj_aload_n 0 dX11_text_52 rfl ?_
    refine mj_iconst dX11_text_53 kc_iconst_0 ?_
    refine mj_putIr (ci := 9) (j := 9) [(71, (upd o11.2.1 9 (0 : Int32))), (72, o11.2.2), (73, r73), (74, r74), (75, r75), (76, r76), (77, r77_13)] rfl ⟨rfl, rfl⟩ fl_X11_14 rfl rfl s0_71 a0_71 dX11_text_54 ?_
    refine mj_aload_n 0 dX11_text_57 rfl ?_
    refine mj_iload_n 1 dX11_text_58 rfl ?_
    refine mj_putIr (ci := 9) (j := 10) [(71, (upd (upd o11.2.1 9 (0 : Int32)) 10 x1)), (72, o11.2.2), (73, r73), (74, r74), (75, r75), (76, r76), (77, r77_13)] rfl ⟨rfl, rfl⟩ fl_X11_34 rfl rfl s0_71 a0_71 dX11_text_59 ?_
    refine mj_aload_n 0 dX11_text_62 rfl ?_
    refine mj_iconst dX11_text_63 kc_iconst_0 ?_
    refine mj_putIr (ci := 9) (j := 11) [(71, (upd (upd (upd o11.2.1 9 (0 : Int32)) 10 x1) 11 (0 : Int32))), (72, o11.2.2), (73, r73), (74, r74), (75, r75), (76, r76), (77, r77_13)] rfl ⟨rfl, rfl⟩ fl_X11_31 rfl rfl s0_71 a0_71 dX11_text_64 ?_
    refine mj_aload_n 0 dX11_text_67 rfl ?_
    refine mj_iconst dX11_text_68 kc_iconst_0 ?_
    refine mj_putIr (ci := 9) (j := 13) [(71, (upd (upd (upd (upd o11.2.1 9 (0 : Int32)) 10 x1) 11 (0 : Int32)) 13 (0 : Int32))), (72, o11.2.2), (73, r73), (74, r74), (75, r75), (76, r76), (77, r77_13)] rfl ⟨rfl, rfl⟩ fl_X11_131 rfl rfl s0_71 a0_71 dX11_text_69 ?_
    refine mj_aload_n 0 dX11_text_72 rfl ?_
    refine mj_iconst dX11_text_73 kc_iconst_0 ?_
    refine mj_putIr (ci := 9) (j := 5) [(71, (upd (upd (upd (upd (upd o11.2.1 9 (0 : Int32)) 10 x1) 11 (0 : Int32)) 13 (0 : Int32)) 5 (0 : Int32))), (72, o11.2.2), (73, r73), (74, r74), (75, r75), (76, r76), (77, r77_13)] rfl ⟨rfl, rfl⟩ fl_X11_119 rfl rfl s0_71 a0_71 dX11_text_74 ?_
    refine mj_aload_n 0 dX11_text_77 rfl ?_
    refine mj_iconst dX11_text_78 kc_iconst_0 ?_
    refine mj_putIr (ci := 9) (j := 14) [(71, (upd (upd (upd (upd (upd (upd o11.2.1 9 (0 : Int32)) 10 x1) 11 (0 : Int32)) 13 (0 : Int32)) 5 (0 : Int32)) 14 (0 : Int32))), (72, o11.2.2), (73, r73), (74, r74), (75, r75), (76, r76), (77, r77_13)] rfl ⟨rfl, rfl⟩ fl_X11_25 rfl rfl s0_71 a0_71 dX11_text_79 ?_
    refine mj_aload_n 0 dX11_text_82 rfl ?_
    refine mj_bipush dX11_text_83 kc_bipush_m3 ?_
    obtain ⟨o14, ho14, hf⟩ := mj_bd hf
    refine mj_callVd (I2 := (mj_rows I [(71, o14.2.1), (72, o11.2.2), (73, r73), (74, o14.2.2), (75, r75), (76, r76), (77, r77_13)])) (L2 := L) (s1 := [.int o14.1]) (st := []) [.int (-3 : Int32)] (cmX11_rowR X.2.1 G F 9 (-3 : Int32) _ _ (upd (upd (upd (upd (upd (upd o11.2.1 9 (0 : Int32)) 10 x1) 11 (0 : Int32)) 13 (0 : Int32)) 5 (0 : Int32)) 14 (0 : Int32)) r74 r77_13 rfl rfl rfl o14 ho14) (mj_rr rfl) rfl cw_X11_137 s0_71 a0_71 (by decide) rfl rfl (Nat.le_of_ble_eq_true rfl) ⟨Nat.zero_le _, Nat.zero_le _⟩ dX11_text_85 rfl ?_
    refine mj_pop dX11_text_88 rfl ?_
    refine mj_aload_n 0 dX11_text_89 rfl ?_
    refine mj_getIv (v := (o14.2.1 14)) rfl fl_X11_25 rfl s0_71 a0_71 dX11_text_90 ?_
    refine mj_if_ne 123 dX11_text_93 (by decide) (fun c15 => ?_) (fun c15 => ?_)
    · replace hf := mj_neg c15 hf
      refine mj_sub [0] [(0, .ref 71)] rfl ?_
      exact jtX11_text_123 hR F I L o14.2.1 o11.2.2 r73 o14.2.2 r75 r76 r77_13 o hf hq
    · replace hf := mj_pos c15 hf
      refine mj_aload_n 0 dX11_text_96 rfl ?_
      obtain ⟨o16, ho16, hf⟩ := mj_bd hf
      refine mj_callVd (I2 := (mj_rows I [(71, o16.2), (72, o11.2.2), (73, r73), (74, o14.2.2), (75, r75), (76, r76), (77, r77_13)])) (L2 := L) (s1 := [.int o16.1]) (st := []) [] (cmX11_sign X.2.1 G F  _ _ o14.2.1 r77_13 rfl rfl o16 ho16) (mj_rr rfl) rfl cw_X11_40 s0_71 a0_71 (by decide) rfl rfl (Nat.le_of_ble_eq_true rfl) ⟨Nat.zero_le _, Nat.zero_le _⟩ dX11_text_97 rfl ?_
      refine mj_if_ne 114 dX11_text_100 (by decide) (fun c17 => ?_) (fun c17 => ?_)
      · replace hf := mj_neg c17 hf
        refine mj_sub [0] [(0, .ref 71)] rfl ?_
        exact jtX11_text_114 hR F I L o16.2 o11.2.2 r73 o14.2.2 r75 r76 r77_13 o hf hq
      · replace hf := mj_pos c17 hf
        refine mj_aload_n 0 dX11_text_103 rfl ?_
        refine mj_getIv (v := (o16.2 11)) rfl fl_X11_31 rfl s0_71 a0_71 dX11_text_104 ?_
        refine mj_aload_n 0 dX11_text_107 rfl ?_
        refine mj_getIv (v := (o16.2 10)) rfl fl_X11_34 rfl s0_71 a0_71 dX11_text_108 ?_
        refine mj_icmp_ge 123 dX11_text_111 (by decide) (fun c18 => ?_) (fun c18 => ?_)
        · replace hf := mj_pos c18 hf
          refine mj_sub [0] [(0, .ref 71)] rfl ?_
          exact jtX11_text_123 hR F I L o16.2 o11.2.2 r73 o14.2.2 r75 r76 r77_13 o hf hq
        · replace hf := mj_neg c18 hf
          refine mj_sub [0] [(0, .ref 71)] rfl ?_
          exact jtX11_text_114 hR F I L o16.2 o11.2.2 r73 o14.2.2 r75 r76 r77_13 o hf hq
  · replace hf := mj_pos c12 hf
    refine mj_iconst dX11_text_25 kc_iconst_0 ?_
    obtain rfl := Option.some.inj hf
    have hZ := hq
    replace hZ := mj_u2p hZ
    replace hZ := mj_u2p hZ
    replace hZ := mj_u2p hZ
    replace hZ := mj_u2p hZ
    replace hZ := mj_u2p hZ
    replace hZ := mj_u2p hZ
    exact mj_iret hR ⟨Nat.le_refl _, Nat.le_refl _⟩ rfl rfl dX11_text_26 hZ
set_option maxRecDepth 100000 in
set_option maxHeartbeats 4000000 in
theorem cmX11_text (l : Launch) (G : mj_GT) (F : Nat) (x1 : Int32) (I : mj_IT) (L : mj_LT) (r71 : Nat → Int32) (r72 : Nat → Int32) (r73 : Nat → Int32) (r74 : Nat → Int32) (r75 : Nat → Int32) (r76 : Nat → Int32) (r77 : Nat → Int32) (hr71 : I 71 = r71) (hr72 : I 72 = r72) (hr73 : I 73 = r73) (hr74 : I 74 = r74) (hr75 : I 75 = r75) (hr76 : I 76 = r76) (hr77 : I 77 = r77) (o : ((Int32) × (Nat → Int32) × (Nat → Int32) × (Nat → Int32) × (Nat → Int32) × (Nat → Int32) × (Nat → Int32))) (hf : fnX11_text F r71 r72 r73 r74 r75 r76 r77 x1 = some o) : mj_M l G yX11_text cX11_text 3 49 (some .int) 0 0 mj_P0 mj_S0 98 [.ref 71, .int x1] I L (mj_qd (some (.int o.1)) (mj_rows I [(71, o.2.1), (72, o.2.2.1), (73, o.2.2.2.1), (74, o.2.2.2.2.1), (75, o.2.2.2.2.2.1), (76, r76), (77, o.2.2.2.2.2.2)]) L) := by
  refine mj_in RX11 "text" [(0, .ref 71), (1, .int x1)] rfl rfl rfl (by decide) (Nat.le_of_ble_eq_true rfl) (fun X ad hR => ?_)
  refine mj_toI [(71, r71), (72, r72), (73, r73), (74, r74), (75, r75), (76, r76), (77, r77)] (by intro q hq; simp only [List.mem_cons, List.not_mem_nil, or_false] at hq; rcases hq with rfl | rfl | rfl | rfl | rfl | rfl | rfl <;> assumption) ?_
  refine mtX11_text hR F I L r71 r72 r73 r74 r75 r76 r77 x1 o hf ?_
  obtain ⟨w0, w1, w2, w3, w4, w5, w6⟩ := o
  refine mj_u2q ?_
  refine mj_u2q ?_
  refine mj_u2q ?_
  refine mj_u2q ?_
  refine mj_u2q ?_
  refine mj_u2q ?_
  exact ⟨rfl, rfl, rfl⟩

