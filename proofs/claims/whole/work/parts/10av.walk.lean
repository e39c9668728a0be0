-- X10_feed
def fnX10_feed (F : Nat) (r2 : Nat → Int32) (r3 : Nat → Int32) (x1 : Int32) (x2 : Int32) (x3 : Int32) (x4 : Int32) (x5 : Int32) : Option ((Int32) × (Nat → Int32) × (Nat → Int32)) := (if ((r2 0) + (20 : Int32)) ≤ (400 : Int32) then (fnX8_put F r2 r3 x1).bind (fun o2 => (fnX8_put F o2.1 o2.2 x2).bind (fun o3 => (fnX8_put F o3.1 o3.2 x3).bind (fun o4 => (fnX8_put F o4.1 o4.2 x4).bind (fun o5 => (fnX8_put F o5.1 o5.2 x5).bind (fun o6 => some ((o6.1 0), o6.1, o6.2)))))) else some ((-1 : Int32), r2, r3))
set_option maxRecDepth 100000 in
set_option maxHeartbeats 4000000 in
theorem mtX10_feed {X : mj_XT} {l : Launch} {G : mj_GT} {ad : Nat → Nat} {Qn : Option Value → mj_IT → mj_LT → Prop} (hR : mj_R X l G mj_P0 mj_S0 98 ad 0 0 Qn) (F : Nat) (I : mj_IT) (L : mj_LT) (r2 : Nat → Int32) (r3 : Nat → Int32) (x1 : Int32) (x2 : Int32) (x3 : Int32) (x4 : Int32) (x5 : Int32) (o : ((Int32) × (Nat → Int32) × (Nat → Int32))) (hf : fnX10_feed F r2 r3 x1 x2 x3 x4 x5 = some o) (hq : (mj_u2 (fun ov => (mj_u2 (fun r2 r3 => Qn (some (.int ov)) (mj_rows I [(2, r2), (3, r3)]) L)))) o) : mj_W X G RX10 "feed" cX10_feed 6 2 (some .int) mj_P0 mj_S0 98 ad 0 0 0 [(0, .ref 1), (1, .int x1), (2, .int x2), (3, .int x3), (4, .int x4), (5, .int x5)] [] (mj_rows I [(2, r2), (3, r3)]) L := by
  unfold fnX10_feed at hf
  refine mj_aload_n 0 dX10_feed_0 rfl ?_
  refine mj_getP p0_1_0 (by decide) fl_X10_10 rfl s0_1 a0_1 dX10_feed_1 ?_
  refine mj_getIv (v := (r2 0)) rfl fl_X10_73 rfl s0_2 a0_2 dX10_feed_4 ?_
  refine mj_bipush dX10_feed_7 kc_bipush_20 ?_
  refine mj_iadd dX10_feed_9 ?_
  refine mj_sipush dX10_feed_10 kc_sipush_400 ?_
  refine mj_icmp_le 18 dX10_feed_13 (by decide) (fun c1 => ?_) (fun c1 => ?_)
  · replace hf := mj_pos c1 hf
    refine mj_aload_n 0 dX10_feed_18 rfl ?_
    refine mj_getP p0_1_0 (by decide) fl_X10_10 rfl s0_1 a0_1 dX10_feed_19 ?_
    refine mj_iload_n 1 dX10_feed_22 rfl ?_
    obtain ⟨o2, ho2, hf⟩ := mj_bd hf
    refine mj_callVd (I2 := (mj_rows I [(2, o2.1), (3, o2.2)])) (L2 := L) (s1 := []) (st := []) [.int x1] (cmX8_put X.2.1 G F x1 _ _ r2 r3 rfl rfl o2 ho2) (mj_rq rfl rfl) rfl cw_X10_76 s0_2 a0_2 (by decide) rfl rfl (Nat.le_of_ble_eq_true rfl) ⟨Nat.zero_le _, Nat.zero_le _⟩ dX10_feed_23 rfl ?_
    refine mj_aload_n 0 dX10_feed_26 rfl ?_
    refine mj_getP p0_1_0 (by decide) fl_X10_10 rfl s0_1 a0_1 dX10_feed_27 ?_
    refine mj_iload_n 2 dX10_feed_30 rfl ?_
    obtain ⟨o3, ho3, hf⟩ := mj_bd hf
    refine mj_callVd (I2 := (mj_rows I [(2, o3.1), (3, o3.2)])) (L2 := L) (s1 := []) (st := []) [.int x2] (cmX8_put X.2.1 G F x2 _ _ o2.1 o2.2 rfl rfl o3 ho3) (mj_rq rfl rfl) rfl cw_X10_76 s0_2 a0_2 (by decide) rfl rfl (Nat.le_of_ble_eq_true rfl) ⟨Nat.zero_le _, Nat.zero_le _⟩ dX10_feed_31 rfl ?_
    refine mj_aload_n 0 dX10_feed_34 rfl ?_
    refine mj_getP p0_1_0 (by decide) fl_X10_10 rfl s0_1 a0_1 dX10_feed_35 ?_
    refine mj_iload_n 3 dX10_feed_38 rfl ?_
    obtain ⟨o4, ho4, hf⟩ := mj_bd hf
    refine mj_callVd (I2 := (mj_rows I [(2, o4.1), (3, o4.2)])) (L2 := L) (s1 := []) (st := []) [.int x3] (cmX8_put X.2.1 G F x3 _ _ o3.1 o3.2 rfl rfl o4 ho4) (mj_rq rfl rfl) rfl cw_X10_76 s0_2 a0_2 (by decide) rfl rfl (Nat.le_of_ble_eq_true rfl) ⟨Nat.zero_le _, Nat.zero_le _⟩ dX10_feed_39 rfl ?_
    refine mj_aload_n 0 dX10_feed_42 rfl ?_
    refine mj_getP p0_1_0 (by decide) fl_X10_10 rfl s0_1 a0_1 dX10_feed_43 ?_
    refine mj_iload 4 dX10_feed_46 rfl ?_
    obtain ⟨o5, ho5, hf⟩ := mj_bd hf
    refine mj_callVd (I2 := (mj_rows I [(2, o5.1), (3, o5.2)])) (L2 := L) (s1 := []) (st := []) [.int x4] (cmX8_put X.2.1 G F x4 _ _ o4.1 o4.2 rfl rfl o5 ho5) (mj_rq rfl rfl) rfl cw_X10_76 s0_2 a0_2 (by decide) rfl rfl (Nat.le_of_ble_eq_true rfl) ⟨Nat.zero_le _, Nat.zero_le _⟩ dX10_feed_48 rfl ?_
    refine mj_aload_n 0 dX10_feed_51 rfl ?_
    refine mj_getP p0_1_0 (by decide) fl_X10_10 rfl s0_1 a0_1 dX10_feed_52 ?_
    refine mj_iload 5 dX10_feed_55 rfl ?_
    obtain ⟨o6, ho6, hf⟩ := mj_bd hf
    refine mj_callVd (I2 := (mj_rows I [(2, o6.1), (3, o6.2)])) (L2 := L) (s1 := []) (st := []) [.int x5] (cmX8_put X.2.1 G F x5 _ _ o5.1 o5.2 rfl rfl o6 ho6) (mj_rq rfl rfl) rfl cw_X10_76 s0_2 a0_2 (by decide) rfl rfl (Nat.le_of_ble_eq_true rfl) ⟨Nat.zero_le _, Nat.zero_le _⟩ dX10_feed_57 rfl ?_
    refine mj_aload_n 0 dX10_feed_60 rfl ?_
    refine mj_getP p0_1_0 (by decide) fl_X10_10 rfl s0_1 a0_1 dX10_feed_61 ?_
    refine mj_getIv (v := (o6.1 0)) rfl fl_X10_73 rfl s0_2 a0_2 dX10_feed_64 ?_
    obtain rfl := Option.some.inj hf
    have hZ := hq
    replace hZ := mj_u2p hZ
    replace hZ := mj_u2p hZ
    exact mj_iret hR ⟨Nat.le_refl _, Nat.le_refl _⟩ rfl rfl dX10_feed_67 hZ
  · replace hf := mj_neg c1 hf
    refine mj_iconst dX10_feed_16 kc_iconst_m1 ?_
    obtain rfl := Option.some.inj hf
    have hZ := hq
    replace hZ := mj_u2p hZ
    replace hZ := mj_u2p hZ
    exact mj_iret hR ⟨Nat.le_refl _, Nat.le_refl _⟩ rfl rfl dX10_feed_17 hZ
set_option maxRecDepth 100000 in
set_option maxHeartbeats 4000000 in
theorem cmX10_feed (l : Launch) (G : mj_GT) (F : Nat) (x1 : Int32) (x2 : Int32) (x3 : Int32) (x4 : Int32) (x5 : Int32) (I : mj_IT) (L : mj_LT) (r2 : Nat → Int32) (r3 : Nat → Int32) (hr2 : I 2 = r2) (hr3 : I 3 = r3) (o : ((Int32) × (Nat → Int32) × (Nat → Int32))) (hf : fnX10_feed F r2 r3 x1 x2 x3 x4 x5 = some o) : mj_M l G yX10_feed cX10_feed 6 2 (some .int) 0 0 mj_P0 mj_S0 98 [.ref 1, .int x1, .int x2, .int x3, .int x4, .int x5] I L (mj_qd (some (.int o.1)) (mj_rows I [(2, o.2.1), (3, o.2.2)]) L) := by
  refine mj_in RX10 "feed" [(0, .ref 1), (1, .int x1), (2, .int x2), (3, .int x3), (4, .int x4), (5, .int x5)] rfl rfl rfl (by decide) (Nat.le_of_ble_eq_true rfl) (fun X ad hR => ?_)
  refine mj_toI [(2, r2), (3, r3)] (by intro q hq; simp only [List.mem_cons, List.not_mem_nil, or_false] at hq; rcases hq with rfl | rfl <;> assumption) ?_
  refine mtX10_feed hR F I L r2 r3 x1 x2 x3 x4 x5 o hf ?_
  obtain ⟨w0, w1, w2⟩ := o
  refine mj_u2q ?_
  refine mj_u2q ?_
  exact ⟨rfl, rfl, rfl⟩

-- X10_refuseArgument
theorem mj_sxr {α β γ : Type} {f : α → Option γ} {g : β → Option γ} {q : β → Prop} {s : α ⊕ β} {o : γ} (hf : Sum.elim f g s = some o) (hx : Sum.elim (fun _ => False) q s) : ∃ e, g e = some o ∧ q e := by
  rcases s with a | b
  · exact hx.elim
  · exact ⟨b, hf, hx⟩
theorem mj_sxl {α β γ : Type} {f : α → Option γ} {g : β → Option γ} {q : α → Prop} {s : α ⊕ β} {o : γ} (hf : Sum.elim f g s = some o) (hx : Sum.elim q (fun _ => False) s) : ∃ e, f e = some o ∧ q e := by
  rcases s with a | b
  · exact ⟨a, hf, hx⟩
  · exact hx.elim
def fnX10_refuseArgument (F : Nat) (r70 : Nat → Int32) : Option (((Nat → Int32)) ⊕ ((Nat) × (Nat → Int32))) := (if mj_ib (1 : Int32) 3 = true then (if mj_ib (1 : Int32) 3 = true then some (.inr (1, (upd r70 ((1 : Int32).toNatClampNeg) ((r70 ((1 : Int32).toNatClampNeg)) + (1 : Int32))))) else none) else none)
set_option maxRecDepth 100000 in
set_option maxHeartbeats 4000000 in
theorem mtX10_refuseArgument {X : mj_XT} {l : Launch} {G : mj_GT} {ad : Nat → Nat} {Qn : Option Value → mj_IT → mj_LT → Prop} {Qx : String → mj_IT → mj_LT → Prop} (hR : mj_Rx X l G mj_P0 mj_S0 98 ad 1 6 Qn Qx) (hlt : l.stackTraces = false) (F : Nat) (I : mj_IT) (L : mj_LT) (r70 : Nat → Int32) (o : (((Nat → Int32)) ⊕ ((Nat) × (Nat → Int32)))) (hf : fnX10_refuseArgument F r70 = some o) (hq : (Sum.elim (fun r70 => Qn none (mj_rows I [(70, r70)]) L) (mj_u2 (fun kx r70 => Qx (mj_en kx) (mj_rows I [(70, r70)]) L))) o) : mj_W X G RX10 "refuseArgument" cX10_refuseArgument 1 7 none mj_P0 mj_S0 98 ad 0 0 0 [(0, .ref 1)] [] (mj_rows I [(70, r70)]) L := by
  unfold fnX10_refuseArgument at hf
  refine mj_aload_n 0 dX10_refuseArgument_0 rfl ?_
  refine mj_getP p0_1_10 (by decide) fl_X10_69 rfl s0_1 a0_1 dX10_refuseArgument_1 ?_
  refine mj_iconst dX10_refuseArgument_4 kc_iconst_1 ?_
  refine mj_dup2 dX10_refuseArgument_5 rfl rfl ?_
  obtain ⟨z1, hf⟩ := mj_ck hf
  refine mj_ialdv (x := r70) rfl s0_70 a0_70 z1 dX10_refuseArgument_6 ?_
  refine mj_iconst dX10_refuseArgument_7 kc_iconst_1 ?_
  refine mj_iadd dX10_refuseArgument_8 ?_
  obtain ⟨z2, hf⟩ := mj_ck hf
  refine mj_iastr [(70, (upd r70 ((1 : Int32).toNatClampNeg) ((r70 ((1 : Int32).toNatClampNeg)) + (1 : Int32))))] rfl s0_70 a0_70 z2 dX10_refuseArgument_9 ?_
  obtain rfl := Option.some.inj hf
  have hZ := mj_er hq
  replace hZ := mj_u2p hZ
  exact mj_throw (names := ["java/lang/RuntimeException", "java/lang/Exception"]) hR hlt (by decide +kernel) (by decide +kernel) xk_303 xi_303 (List.mem_of_getElem? (i := 15) rfl) xw_303 dX10_refuseArgument_10 dX10_refuseArgument_13 dX10_refuseArgument_14 dX10_refuseArgument_17 dX10_refuseArgument_20 (by decide) (Nat.le_of_ble_eq_true rfl) ⟨by decide, by decide⟩ hZ
set_option maxRecDepth 100000 in
set_option maxHeartbeats 4000000 in
theorem cmX10_refuseArgument (l : Launch) (G : mj_GT) (hlt : l.stackTraces = false) (F : Nat) (I : mj_IT) (L : mj_LT) (r70 : Nat → Int32) (hr70 : I 70 = r70) (o : (((Nat → Int32)) ⊕ ((Nat) × (Nat → Int32)))) (hf : fnX10_refuseArgument F r70 = some o) : mj_Mx l G yX10_refuseArgument cX10_refuseArgument 1 7 none 1 6 mj_P0 mj_S0 98 [.ref 1] I L (fun rv I2 L2 => Sum.elim (fun o => rv = none ∧ I2 = (mj_rows I [(70, o)]) ∧ L2 = L) (fun _ => False) o) (fun E I2 L2 => Sum.elim (fun _ => False) (fun o => E = mj_en o.1 ∧ I2 = (mj_rows I [(70, o.2)]) ∧ L2 = L) o) := by
  refine mj_inx RX10 "refuseArgument" [(0, .ref 1)] rfl rfl rfl (by decide) (Nat.le_of_ble_eq_true rfl) (fun X ad hR => ?_)
  refine mj_toI [(70, r70)] (by intro q hq; simp only [List.mem_cons, List.not_mem_nil, or_false] at hq; rcases hq with rfl <;> assumption) ?_
  refine mtX10_refuseArgument hR hlt F I L r70 o hf ?_
  rcases o with o | o
  · refine mj_elq ?_
    refine mj_elq ?_
    exact ⟨rfl, rfl, rfl⟩
  · refine mj_erq ?_
    obtain ⟨w0, w1⟩ := o
    refine mj_u2q ?_
    refine mj_erq ?_
    exact ⟨rfl, rfl, rfl⟩

-- X10_needNumber
def fnX10_needNumber (F : Nat) (r70 : Nat → Int32) (x1 : Int32) (x2 : Int32) (x3 : Int32) : Option (((Nat → Int32)) ⊕ ((Nat) × (Nat → Int32))) := (if x1 < x2 then (fnX10_refuseArgument F r70).bind (Sum.elim (fun o2 => some (.inl o2)) (fun eo2 => some (.inr (eo2.1, eo2.2)))) else (if x1 ≤ x3 then some (.inl r70) else (fnX10_refuseArgument F r70).bind (Sum.elim (fun o4 => some (.inl o4)) (fun eo4 => some (.inr (eo4.1, eo4.2))))))
set_option maxRecDepth 100000 in
set_option maxHeartbeats 4000000 in
theorem mtX10_needNumber {X : mj_XT} {l : Launch} {G : mj_GT} {ad : Nat → Nat} {Qn : Option Value → mj_IT → mj_LT → Prop} {Qx : String → mj_IT → mj_LT → Prop} (hR : mj_Rx X l G mj_P0 mj_S0 98 ad 1 6 Qn Qx) (hlt : l.stackTraces = false) (F : Nat) (I : mj_IT) (L : mj_LT) (r70 : Nat → Int32) (x1 : Int32) (x2 : Int32) (x3 : Int32) (o : (((Nat → Int32)) ⊕ ((Nat) × (Nat → Int32)))) (hf : fnX10_needNumber F r70 x1 x2 x3 = some o) (hq : (Sum.elim (fun r70 => Qn none (mj_rows I [(70, r70)]) L) (mj_u2 (fun kx r70 => Qx (mj_en kx) (mj_rows I [(70, r70)]) L))) o) : mj_W X G RX10 "needNumber" cX10_needNumber 4 8 none mj_P0 mj_S0 98 ad 0 0 0 [(0, .ref 1), (1, .int x1), (2, .int x2), (3, .int x3)] [] (mj_rows I [(70, r70)]) L := by
  unfold fnX10_needNumber at hf
  refine mj_iload_n 1 dX10_needNumber_0 rfl ?_
  refine mj_iload_n 2 dX10_needNumber_1 rfl ?_
  refine mj_icmp_lt 10 dX10_needNumber_2 (by decide) (fun c1 => ?_) (fun c1 => ?_)
  · replace hf := mj_pos c1 hf
    refine mj_aload_n 0 dX10_needNumber_10 rfl ?_
    obtain ⟨so2, ho2, hf⟩ := mj_bd hf
    refine mj_callVx (st := []) [] hR (cmX10_refuseArgument l G hlt F  _ _ r70 rfl so2 ho2) cw_X10_129 s0_1 a0_1 (by decide) rfl rfl (Nat.le_of_ble_eq_true rfl) ⟨by decide, by decide⟩ dX10_needNumber_11 (fun E I2 L2 hx => ?_) (fun rv I2 L2 hx => ?_)
    · obtain ⟨eo2, hf, hx⟩ := mj_sxr hf hx
      obtain rfl := Option.some.inj hf
      obtain ⟨hE9, hI9, hL9⟩ := hx
      rw [hE9, hI9, hL9]
      have hZ := mj_er hq
      replace hZ := mj_u2p hZ
      rw [mj_rq (l' := [(70, eo2.2)]) rfl rfl]
      exact hZ
    · obtain ⟨o2, hf, hx⟩ := mj_sxl hf hx
      obtain ⟨hr9, hI9, hL9⟩ := hx
      refine mj_cnv (s1 := []) (I2 := (mj_rows I [(70, o2)])) (L2 := L) (by rw [hr9]; rfl) (hI9.trans (mj_rq rfl rfl)) hL9 ?_
      obtain rfl := Option.some.inj hf
      have hZ := mj_el hq
      exact mj_vretx hR ⟨by decide, by decide⟩ rfl dX10_needNumber_14 hZ
  · replace hf := mj_neg c1 hf
    refine mj_iload_n 1 dX10_needNumber_5 rfl ?_
    refine mj_iload_n 3 dX10_needNumber_6 rfl ?_
    refine mj_icmp_le 14 dX10_needNumber_7 (by decide) (fun c3 => ?_) (fun c3 => ?_)
    · replace hf := mj_pos c3 hf
      obtain rfl := Option.some.inj hf
      have hZ := mj_el hq
      exact mj_vretx hR ⟨by decide, by decide⟩ rfl dX10_needNumber_14 hZ
    · replace hf := mj_neg c3 hf
      refine mj_aload_n 0 dX10_needNumber_10 rfl ?_
      obtain ⟨so4, ho4, hf⟩ := mj_bd hf
      refine mj_callVx (st := []) [] hR (cmX10_refuseArgument l G hlt F  _ _ r70 rfl so4 ho4) cw_X10_129 s0_1 a0_1 (by decide) rfl rfl (Nat.le_of_ble_eq_true rfl) ⟨by decide, by decide⟩ dX10_needNumber_11 (fun E I2 L2 hx => ?_) (fun rv I2 L2 hx => ?_)
      · obtain ⟨eo4, hf, hx⟩ := mj_sxr hf hx
        obtain rfl := Option.some.inj hf
        obtain ⟨hE9, hI9, hL9⟩ := hx
        rw [hE9, hI9, hL9]
        have hZ := mj_er hq
        replace hZ := mj_u2p hZ
        rw [mj_rq (l' := [(70, eo4.2)]) rfl rfl]
        exact hZ
      · obtain ⟨o4, hf, hx⟩ := mj_sxl hf hx
        obtain ⟨hr9, hI9, hL9⟩ := hx
        refine mj_cnv (s1 := []) (I2 := (mj_rows I [(70, o4)])) (L2 := L) (by rw [hr9]; rfl) (hI9.trans (mj_rq rfl rfl)) hL9 ?_
        obtain rfl := Option.some.inj hf
        have hZ := mj_el hq
        exact mj_vretx hR ⟨by decide, by decide⟩ rfl dX10_needNumber_14 hZ
set_option maxRecDepth 100000 in
set_option maxHeartbeats 4000000 in
theorem cmX10_needNumber (l : Launch) (G : mj_GT) (hlt : l.stackTraces = false) (F : Nat) (x1 : Int32) (x2 : Int32) (x3 : Int32) (I : mj_IT) (L : mj_LT) (r70 : Nat → Int32) (hr70 : I 70 = r70) (o : (((Nat → Int32)) ⊕ ((Nat) × (Nat → Int32)))) (hf : fnX10_needNumber F r70 x1 x2 x3 = some o) : mj_Mx l G yX10_needNumber cX10_needNumber 4 8 none 1 6 mj_P0 mj_S0 98 [.ref 1, .int x1, .int x2, .int x3] I L (fun rv I2 L2 => Sum.elim (fun o => rv = none ∧ I2 = (mj_rows I [(70, o)]) ∧ L2 = L) (fun _ => False) o) (fun E I2 L2 => Sum.elim (fun _ => False) (fun o => E = mj_en o.1 ∧ I2 = (mj_rows I [(70, o.2)]) ∧ L2 = L) o) := by
  refine mj_inx RX10 "needNumber" [(0, .ref 1), (1, .int x1), (2, .int x2), (3, .int x3)] rfl rfl rfl (by decide) (Nat.le_of_ble_eq_true rfl) (fun X ad hR => ?_)
  refine mj_toI [(70, r70)] (by intro q hq; simp only [List.mem_cons, List.not_mem_nil, or_false] at hq; rcases hq with rfl <;> assumption) ?_
  refine mtX10_needNumber hR hlt F I L r70 x1 x2 x3 o hf ?_
  rcases o with o | o
  · refine mj_elq ?_
    refine mj_elq ?_
    exact ⟨rfl, rfl, rfl⟩
  · refine mj_erq ?_
    obtain ⟨w0, w1⟩ := o
    refine mj_u2q ?_
    refine mj_erq ?_
    exact ⟨rfl, rfl, rfl⟩

-- X10_fault
def fnX10_fault (F : Nat) (r1 : Nat → Int32) : Option ((Int32)) := some (r1 1)
set_option maxRecDepth 100000 in
set_option maxHeartbeats 4000000 in
theorem mtX10_fault {X : mj_XT} {l : Launch} {G : mj_GT} {ad : Nat → Nat} {Qn : Option Value → mj_IT → mj_LT → Prop} (hR : mj_R X l G mj_P0 mj_S0 98 ad 0 0 Qn) (F : Nat) (I : mj_IT) (L : mj_LT) (r1 : Nat → Int32) (o : ((Int32))) (hf : fnX10_fault F r1 = some o) (hq : (fun ov => Qn (some (.int ov)) (mj_rows I [(1, r1)]) L) o) : mj_W X G RX10 "fault" cX10_fault 1 1 (some .int) mj_P0 mj_S0 98 ad 0 0 0 [(0, .ref 1)] [] (mj_rows I [(1, r1)]) L := by
  unfold fnX10_fault at hf
  refine mj_aload_n 0 dX10_fault_0 rfl ?_
  refine mj_getIv (v := (r1 1)) rfl fl_X10_16 rfl s0_1 a0_1 dX10_fault_1 ?_
  obtain rfl := Option.some.inj hf
  have hZ := hq
  exact mj_iret hR ⟨Nat.le_refl _, Nat.le_refl _⟩ rfl rfl dX10_fault_4 hZ
set_option maxRecDepth 100000 in
set_option maxHeartbeats 4000000 in
theorem cmX10_fault (l : Launch) (G : mj_GT) (F : Nat) (I : mj_IT) (L : mj_LT) (r1 : Nat → Int32) (hr1 : I 1 = r1) (o : ((Int32))) (hf : fnX10_fault F r1 = some o) : mj_M l G yX10_fault cX10_fault 1 1 (some .int) 0 0 mj_P0 mj_S0 98 [.ref 1] I L (mj_qd (some (.int o)) (mj_rows I [(1, r1)]) L) := by
  refine mj_in RX10 "fault" [(0, .ref 1)] rfl rfl rfl (by decide) (Nat.le_of_ble_eq_true rfl) (fun X ad hR => ?_)
  refine mj_toI [(1, r1)] (by intro q hq; simp only [List.mem_cons, List.not_mem_nil, or_false] at hq; rcases hq with rfl <;> assumption) ?_
  refine mtX10_fault hR F I L r1 o hf ?_
  exact ⟨rfl, rfl, rfl⟩

-- X10_refuseElement
def fnX10_refuseElement (F : Nat) (r70 : Nat → Int32) : Option (((Nat → Int32)) ⊕ ((Nat) × (Nat → Int32))) := (if mj_ib (0 : Int32) 3 = true then (if mj_ib (0 : Int32) 3 = true then some (.inr (0, (upd r70 ((0 : Int32).toNatClampNeg) ((r70 ((0 : Int32).toNatClampNeg)) + (1 : Int32))))) else none) else none)
set_option maxRecDepth 100000 in
set_option maxHeartbeats 4000000 in
theorem mtX10_refuseElement {X : mj_XT} {l : Launch} {G : mj_GT} {ad : Nat → Nat} {Qn : Option Value → mj_IT → mj_LT → Prop} {Qx : String → mj_IT → mj_LT → Prop} (hR : mj_Rx X l G mj_P0 mj_S0 98 ad 1 6 Qn Qx) (hlt : l.stackTraces = false) (F : Nat) (I : mj_IT) (L : mj_LT) (r70 : Nat → Int32) (o : (((Nat → Int32)) ⊕ ((Nat) × (Nat → Int32)))) (hf : fnX10_refuseElement F r70 = some o) (hq : (Sum.elim (fun r70 => Qn none (mj_rows I [(70, r70)]) L) (mj_u2 (fun kx r70 => Qx (mj_en kx) (mj_rows I [(70, r70)]) L))) o) : mj_W X G RX10 "refuseElement" cX10_refuseElement 1 7 none mj_P0 mj_S0 98 ad 0 0 0 [(0, .ref 1)] [] (mj_rows I [(70, r70)]) L := by
  unfold fnX10_refuseElement at hf
  refine mj_aload_n 0 dX10_refuseElement_0 rfl ?_
  refine mj_getP p0_1_10 (by decide) fl_X10_69 rfl s0_1 a0_1 dX10_refuseElement_1 ?_
  refine mj_iconst dX10_refuseElement_4 kc_iconst_0 ?_
  refine mj_dup2 dX10_refuseElement_5 rfl rfl ?_
  obtain ⟨z1, hf⟩ := mj_ck hf
  refine mj_ialdv (x := r70) rfl s0_70 a0_70 z1 dX10_refuseElement_6 ?_
  refine mj_iconst dX10_refuseElement_7 kc_iconst_1 ?_
  refine mj_iadd dX10_refuseElement_8 ?_
  obtain ⟨z2, hf⟩ := mj_ck hf
  refine mj_iastr [(70, (upd r70 ((0 : Int32).toNatClampNeg) ((r70 ((0 : Int32).toNatClampNeg)) + (1 : Int32))))] rfl s0_70 a0_70 z2 dX10_refuseElement_9 ?_
  obtain rfl := Option.some.inj hf
  have hZ := mj_er hq
  replace hZ := mj_u2p hZ
  exact mj_throwN hR hlt xk_296 xi_296 (List.mem_of_getElem? (i := 14) rfl) xw_296 dX10_refuseElement_10 dX10_refuseElement_13 dX10_refuseElement_14 dX10_refuseElement_17 dX10_refuseElement_20 (by decide) (Nat.le_of_ble_eq_true rfl) ⟨by decide, by decide⟩ hZ
set_option maxRecDepth 100000 in
set_option maxHeartbeats 4000000 in
theorem cmX10_refuseElement (l : Launch) (G : mj_GT) (hlt : l.stackTraces = false) (F : Nat) (I : mj_IT) (L : mj_LT) (r70 : Nat → Int32) (hr70 : I 70 = r70) (o : (((Nat → Int32)) ⊕ ((Nat) × (Nat → Int32)))) (hf : fnX10_refuseElement F r70 = some o) : mj_Mx l G yX10_refuseElement cX10_refuseElement 1 7 none 1 6 mj_P0 mj_S0 98 [.ref 1] I L (fun rv I2 L2 => Sum.elim (fun o => rv = none ∧ I2 = (mj_rows I [(70, o)]) ∧ L2 = L) (fun _ => False) o) (fun E I2 L2 => Sum.elim (fun _ => False) (fun o => E = mj_en o.1 ∧ I2 = (mj_rows I [(70, o.2)]) ∧ L2 = L) o) := by
  refine mj_inx RX10 "refuseElement" [(0, .ref 1)] rfl rfl rfl (by decide) (Nat.le_of_ble_eq_true rfl) (fun X ad hR => ?_)
  refine mj_toI [(70, r70)] (by intro q hq; simp only [List.mem_cons, List.not_mem_nil, or_false] at hq; rcases hq with rfl <;> assumption) ?_
  refine mtX10_refuseElement hR hlt F I L r70 o hf ?_
  rcases o with o | o
  · refine mj_elq ?_
    refine mj_elq ?_
    exact ⟨rfl, rfl, rfl⟩
  · refine mj_erq ?_
    obtain ⟨w0, w1⟩ := o
    refine mj_u2q ?_
    refine mj_erq ?_
    exact ⟨rfl, rfl, rfl⟩

-- X10_needVariable
def fnX10_needVariable (F : Nat) (r70 : Nat → Int32) (x1 : Int32) : Option (((Nat → Int32)) ⊕ ((Nat) × (Nat → Int32))) := (if x1 < 0 then (fnX10_refuseElement F r70).bind (Sum.elim (fun o2 => some (.inl o2)) (fun eo2 => some (.inr (eo2.1, eo2.2)))) else (if x1 < (6 : Int32) then some (.inl r70) else (fnX10_refuseElement F r70).bind (Sum.elim (fun o4 => some (.inl o4)) (fun eo4 => some (.inr (eo4.1, eo4.2))))))
set_option maxRecDepth 100000 in
set_option maxHeartbeats 4000000 in
theorem mtX10_needVariable {X : mj_XT} {l : Launch} {G : mj_GT} {ad : Nat → Nat} {Qn : Option Value → mj_IT → mj_LT → Prop} {Qx : String → mj_IT → mj_LT → Prop} (hR : mj_Rx X l G mj_P0 mj_S0 98 ad 1 6 Qn Qx) (hlt : l.stackTraces = false) (F : Nat) (I : mj_IT) (L : mj_LT) (r70 : Nat → Int32) (x1 : Int32) (o : (((Nat → Int32)) ⊕ ((Nat) × (Nat → Int32)))) (hf : fnX10_needVariable F r70 x1 = some o) (hq : (Sum.elim (fun r70 => Qn none (mj_rows I [(70, r70)]) L) (mj_u2 (fun kx r70 => Qx (mj_en kx) (mj_rows I [(70, r70)]) L))) o) : mj_W X G RX10 "needVariable" cX10_needVariable 2 8 none mj_P0 mj_S0 98 ad 0 0 0 [(0, .ref 1), (1, .int x1)] [] (mj_rows I [(70, r70)]) L := by
  unfold fnX10_needVariable at hf
  refine mj_iload_n 1 dX10_needVariable_0 rfl ?_
  refine mj_if_lt 10 dX10_needVariable_1 (by decide) (fun c1 => ?_) (fun c1 => ?_)
  · replace hf := mj_pos c1 hf
    refine mj_aload_n 0 dX10_needVariable_10 rfl ?_
    obtain ⟨so2, ho2, hf⟩ := mj_bd hf
    refine mj_callVx (st := []) [] hR (cmX10_refuseElement l G hlt F  _ _ r70 rfl so2 ho2) cw_X10_197 s0_1 a0_1 (by decide) rfl rfl (Nat.le_of_ble_eq_true rfl) ⟨by decide, by decide⟩ dX10_needVariable_11 (fun E I2 L2 hx => ?_) (fun rv I2 L2 hx => ?_)
    · obtain ⟨eo2, hf, hx⟩ := mj_sxr hf hx
      obtain rfl := Option.some.inj hf
      obtain ⟨hE9, hI9, hL9⟩ := hx
      rw [hE9, hI9, hL9]
      have hZ := mj_er hq
      replace hZ := mj_u2p hZ
      rw [mj_rq (l' := [(70, eo2.2)]) rfl rfl]
      exact hZ
    · obtain ⟨o2, hf, hx⟩ := mj_sxl hf hx
      obtain ⟨hr9, hI9, hL9⟩ := hx
      refine mj_cnv (s1 := []) (I2 := (mj_rows I [(70, o2)])) (L2 := L) (by rw [hr9]; rfl) (hI9.trans (mj_rq rfl rfl)) hL9 ?_
      obtain rfl := Option.some.inj hf
      have hZ := mj_el hq
      exact mj_vretx hR ⟨by decide, by decide⟩ rfl dX10_needVariable_14 hZ
  · replace hf := mj_neg c1 hf
    refine mj_iload_n 1 dX10_needVariable_4 rfl ?_
    refine mj_bipush dX10_needVariable_5 kc_bipush_6 ?_
    refine mj_icmp_lt 14 dX10_needVariable_7 (by decide) (fun c3 => ?_) (fun c3 => ?_)
    · replace hf := mj_pos c3 hf
      obtain rfl := Option.some.inj hf
      have hZ := mj_el hq
      exact mj_vretx hR ⟨by decide, by decide⟩ rfl dX10_needVariable_14 hZ
    · replace hf := mj_neg c3 hf
      refine mj_aload_n 0 dX10_needVariable_10 rfl ?_
      obtain ⟨so4, ho4, hf⟩ := mj_bd hf
      refine mj_callVx (st := []) [] hR (cmX10_refuseElement l G hlt F  _ _ r70 rfl so4 ho4) cw_X10_197 s0_1 a0_1 (by decide) rfl rfl (Nat.le_of_ble_eq_true rfl) ⟨by decide, by decide⟩ dX10_needVariable_11 (fun E I2 L2 hx => ?_) (fun rv I2 L2 hx => ?_)
      · obtain ⟨eo4, hf, hx⟩ := mj_sxr hf hx
        obtain rfl := Option.some.inj hf
        obtain ⟨hE9, hI9, hL9⟩ := hx
        rw [hE9, hI9, hL9]
        have hZ := mj_er hq
        replace hZ := mj_u2p hZ
        rw [mj_rq (l' := [(70, eo4.2)]) rfl rfl]
        exact hZ
      · obtain ⟨o4, hf, hx⟩ := mj_sxl hf hx
        obtain ⟨hr9, hI9, hL9⟩ := hx
        refine mj_cnv (s1 := []) (I2 := (mj_rows I [(70, o4)])) (L2 := L) (by rw [hr9]; rfl) (hI9.trans (mj_rq rfl rfl)) hL9 ?_
        obtain rfl := Option.some.inj hf
        have hZ := mj_el hq
        exact mj_vretx hR ⟨by decide, by decide⟩ rfl dX10_needVariable_14 hZ
set_option maxRecDepth 100000 in
set_option maxHeartbeats 4000000 in
theorem cmX10_needVariable (l : Launch) (G : mj_GT) (hlt : l.stackTraces = false) (F : Nat) (x1 : Int32) (I : mj_IT) (L : mj_LT) (r70 : Nat → Int32) (hr70 : I 70 = r70) (o : (((Nat → Int32)) ⊕ ((Nat) × (Nat → Int32)))) (hf : fnX10_needVariable F r70 x1 = some o) : mj_Mx l G yX10_needVariable cX10_needVariable 2 8 none 1 6 mj_P0 mj_S0 98 [.ref 1, .int x1] I L (fun rv I2 L2 => Sum.elim (fun o => rv = none ∧ I2 = (mj_rows I [(70, o)]) ∧ L2 = L) (fun _ => False) o) (fun E I2 L2 => Sum.elim (fun _ => False) (fun o => E = mj_en o.1 ∧ I2 = (mj_rows I [(70, o.2)]) ∧ L2 = L) o) := by
  refine mj_inx RX10 "needVariable" [(0, .ref 1), (1, .int x1)] rfl rfl rfl (by decide) (Nat.le_of_ble_eq_true rfl) (fun X ad hR => ?_)
  refine mj_toI [(70, r70)] (by intro q hq; simp only [List.mem_cons, List.not_mem_nil, or_false] at hq; rcases hq with rfl <;> assumption) ?_
  refine mtX10_needVariable hR hlt F I L r70 x1 o hf ?_
  rcases o with o | o
  · refine mj_elq ?_
    refine mj_elq ?_
    exact ⟨rfl, rfl, rfl⟩
  · refine mj_erq ?_
    obtain ⟨w0, w1⟩ := o
    refine mj_u2q ?_
    refine mj_erq ?_
    exact ⟨rfl, rfl, rfl⟩

