-- X10_refuseArgument
theorem mj_sxr {α β γ : Type} {f : α → Option γ} {g : β → Option γ} {q : β → Prop} {s : α ⊕ β} {o : γ} (hf : Sum.elim f g s = some o) (hx : Sum.elim (fun _ => False) q s) : ∃ e, g e = some o ∧ q e := by
  rcases s with a | b
  · exact hx.elim
  · exact ⟨b, hf, hx⟩
theorem mj_sxl {α β γ : Type} {f : α → Option γ} {g : β → Option γ} {q : α → Prop} {s : α ⊕ β} {o : γ} (hf : Sum.elim f g s = some o) (hx : Sum.elim q (fun _ => False) s) : ∃ e, f e = some o ∧ q e := by
  rcases s with a | b
  · exact ⟨a, hf, hx⟩
  · exact hx.elim
def fnX10_refuseArgument (F : Nat) (r70 : Nat → Int32) : Option (((Nat → Int32)) ⊕ ((Nat) × (Nat → Int32))) := (if mj_ib (1 : Int32) 3 = true then (if mj_ib (1 : Int32) 3 = true then some (.inr (1, (upd r70 ((1 : Int32).toNatClampNeg) ((r70 ((1 : Int32).toNatClampNeg)) + (1 : Int32))))) else none) else none)
set_option maxRecDepth 100000 in
set_option maxHeartbeats 4000000 in
theorem mtX10_refuseArgument {X : mj_XT} {l : Launch} {G : mj_GT} {ad : Nat → Nat} {Qn : Option Value → mj_IT → mj_LT → Prop} {Qx : String → mj_IT → mj_LT → Prop} (hR : mj_Rx X l G mj_P0 mj_S0 98 ad 1 6 Qn Qx) (hlt : l.stackTraces = false) (F : Nat) (I : mj_IT) (L : mj_LT) (r70 : Nat → Int32) (o : (((Nat → Int32)) ⊕ ((Nat) × (Nat → Int32)))) (hf : fnX10_refuseArgument F r70 = some o) (hq : (Sum.elim (fun r70 => Qn none (mj_rows I [(70, r70)]) L) (mj_u2 (fun kx r70 => Qx (mj_en kx) (mj_rows I [(70, r70)]) L))) o) : mj_W X G RX10 "refuseArgument" cX10_refuseArgument 1 7 none mj_P0 mj_S0 98 ad 0 0 0 [(0, .ref 1)] [] (mj_rows I [(70, r70)]) L := by
  unfold fnX10_refuseArgument at hf
  refine mj_aload_n 0 dX10_refuseArgument_0 rfl ?_
  refine mj_getP p0_1_10 (by decide) fl_X10_69 rfl s0_1 a0_1 dX10_refuseArgument_1 ?_
  refine mj_iconst dX10_refuseArgument_4 kc_iconst_1 ?_
  refine mj_dup2 dX10_refuseArgument_5 rfl rfl ?_
  obtain ⟨z1, hf⟩ := mj_ck hf
  refine mj_ialdv (x := r70) rfl s0_70 a0_70 z1 dX10_refuseArgument_6 ?_
  refine mj_iconst dX10_refuseArgument_7 kc_iconst_1 ?_
  refine mj_iadd dX10_refuseArgument_8 ?_
  obtain ⟨z2, hf⟩ := mj_ck hf
  refine mj_iastr [(70, (upd r70 ((1 : Int32).toNatClampNeg) ((r70 ((1 : Int32).toNatClampNeg)) + (1 : Int32))))] rfl s0_70 a0_70 z2 dX10_refuseArgument_9 ?_
  obtain rfl := Option.some.inj hf
  have hZ := mj_er hq
  replace hZ := mj_u2p hZ
  exact mj_throw (names := ["java/lang/RuntimeException", "java/lang/Exception"]) hR hlt (by decide +kernel) (by decide +kernel) xk_303 xi_303 (List.mem_of_getElem? (i := 15) rfl) xw_303 dX10_refuseArgument_10 dX10_refuseArgument_13 dX10_refuseArgument_14 dX10_refuseArgument_17 dX10_refuseArgument_20 (by decide) (Nat.le_of_ble_eq_true rfl) ⟨by decide, by decide⟩ hZ
set_option maxRecDepth 100000 in
set_option maxHeartbeats 4000000 in
theorem cmX10_refuseArgument (l : Launch) (G : mj_GT) (hlt : l.stackTraces = false) (F : Nat) (I : mj_IT) (L : mj_LT) (r70 : Nat → Int32) (hr70 : I 70 = r70) (o : (((Nat → Int32)) ⊕ ((Nat) × (Nat → Int32)))) (hf : fnX10_refuseArgument F r70 = some o) : mj_Mx l G yX10_refuseArgument cX10_refuseArgument 1 7 none 1 6 mj_P0 mj_S0 98 [.ref 1] I L (fun rv I2 L2 => Sum.elim (fun o => rv = none ∧ I2 = (mj_rows I [(70, o)]) ∧ L2 = L) (fun _ => False) o) (fun E I2 L2 => Sum.elim (fun _ => False) (fun o => E = mj_en o.1 ∧ I2 = (mj_rows I [(70, o.2)]) ∧ L2 = L) o) := by
  refine mj_inx RX10 "refuseArgument" [(0, .ref 1)] rfl rfl rfl (by decide) (Nat.le_of_ble_eq_true rfl) (fun X ad hR => ?_)
  refine mj_toI [(70, r70)] (by intro q hq; simp only [List.mem_cons, List.not_mem_nil, or_false] at hq; rcases hq with rfl <;> assumption) ?_
  refine mtX10_refuseArgument hR hlt F I L r70 o hf ?_
  rcases o with o | o
  · refine mj_elq ?_
    refine mj_elq ?_
    exact ⟨rfl, rfl, rfl⟩
  · refine mj_erq ?_
    obtain ⟨w0, w1⟩ := o
    refine mj_u2q ?_
    refine mj_erq ?_
    exact ⟨rfl, rfl, rfl⟩

-- X10_needNumber
def fnX10_needNumber (F : Nat) (r70 : Nat → Int32) (x1 : Int32) (x2 : Int32) (x3 : Int32) : Option (((Nat → Int32)) ⊕ ((Nat) × (Nat → Int32))) := (if x1 < x2 then (fnX10_refuseArgument F r70).bind (Sum.elim (fun o2 => some (.inl o2)) (fun eo2 => some (.inr (eo2.1, eo2.2)))) else (if x1 ≤ x3 then some (.inl r70) else (fnX10_refuseArgument F r70).bind (Sum.elim (fun o4 => some (.inl o4)) (fun eo4 => some (.inr (eo4.1, eo4.2))))))
set_option maxRecDepth 100000 in
set_option maxHeartbeats 4000000 in
theorem mtX10_needNumber {X : mj_XT} {l : Launch} {G : mj_GT} {ad : Nat → Nat} {Qn : Option Value → mj_IT → mj_LT → Prop} {Qx : String → mj_IT → mj_LT → Prop} (hR : mj_Rx X l G mj_P0 mj_S0 98 ad 1 6 Qn Qx) (hlt : l.stackTraces = false) (F : Nat) (I : mj_IT) (L : mj_LT) (r70 : Nat → Int32) (x1 : Int32) (x2 : Int32) (x3 : Int32) (o : (((Nat → Int32)) ⊕ ((Nat) × (Nat → Int32)))) (hf : fnX10_needNumber F r70 x1 x2 x3 = some o) (hq : (Sum.elim (fun r70 => Qn none (mj_rows I [(70, r70)]) L) (mj_u2 (fun kx r70 => Qx (mj_en kx) (mj_rows I [(70, r70)]) L))) o) : mj_W X G RX10 "needNumber" cX10_needNumber 4 8 none mj_P0 mj_S0 98 ad 0 0 0 [(0, .ref 1), (1, .int x1), (2, .int x2), (3, .int x3)] [] (mj_rows I [(70, r70)]) L := by
  unfold fnX10_needNumber at hf
  refine mj_iload_n 1 dX10_needNumber_0 rfl ?_
  refine mj_iload_n 2 dX10_needNumber_1 rfl ?_
  refine mj_icmp_lt 10 dX10_needNumber_2 (by decide) (fun c1 => ?_) (fun c1 => ?_)
  · replace hf := mj_pos c1 hf
    refine mj_aload_n 0 dX10_needNumber_10 rfl ?_
    obtain ⟨so2, ho2, hf⟩ := mj_bd hf
    refine mj_callVx (st := []) [] hR (cmX10_refuseArgument l G hlt F  _ _ r70 rfl so2 ho2) cw_X10_129 s0_1 a0_1 (by decide) rfl rfl (Nat.le_of_ble_eq_true rfl) ⟨by decide, by decide⟩ dX10_needNumber_11 (fun E I2 L2 hx => ?_) (fun rv I2 L2 hx => ?_)
    · obtain ⟨eo2, hf, hx⟩ := mj_sxr hf hx
      obtain rfl := Option.some.inj hf
      obtain ⟨hE9, hI9, hL9⟩ := hx
      rw [hE9, hI9, hL9]
      have hZ := mj_er hq
      replace hZ := mj_u2p hZ
      rw [mj_rr (l' := [(70, eo2.2)]) rfl]
      exact hZ
    · obtain ⟨o2, hf, hx⟩ := mj_sxl hf hx
      obtain ⟨hr9, hI9, hL9⟩ := hx
      refine mj_cnv (s1 := []) (I2 := (mj_rows I [(70, o2)])) (L2 := L) (by rw [hr9]; rfl) (hI9.trans (mj_rr rfl)) hL9 ?_
      obtain rfl := Option.some.inj hf
      have hZ := mj_el hq
      exact mj_vretx hR ⟨by decide, by decide⟩ rfl dX10_needNumber_14 hZ
  · replace hf := mj_neg c1 hf
    refine mj_iload_n 1 dX10_needNumber_5 rfl ?_
    refine mj_iload_n 3 dX10_needNumber_6 rfl ?_
    refine mj_icmp_le 14 dX10_needNumber_7 (by decide) (fun c3 => ?_) (fun c3 => ?_)
    · replace hf := mj_pos c3 hf
      obtain rfl := Option.some.inj hf
      have hZ := mj_el hq
      exact mj_vretx hR ⟨by decide, by decide⟩ rfl dX10_needNumber_14 hZ
    · replace hf := mj_neg c3 hf
      refine mj_aload_n 0 dX10_needNumber_10 rfl ?_
      obtain ⟨so4, ho4, hf⟩ := mj_bd hf
      refine mj_callVx (st := []) [] hR (cmX10_refuseArgument l G hlt F  _ _ r70 rfl so4 ho4) cw_X10_129 s0_1 a0_1 (by decide) rfl rfl (Nat.le_of_ble_eq_true rfl) ⟨by decide, by decide⟩ dX10_needNumber_11 (fun E I2 L2 hx => ?_) (fun rv I2 L2 hx => ?_)
      · obtain ⟨eo4, hf, hx⟩ := mj_sxr hf hx
        obtain rfl := Option.some.inj hf
        obtain ⟨hE9, hI9, hL9⟩ := hx
        rw [hE9, hI9, hL9]
        have hZ := mj_er hq
        replace hZ := mj_u2p hZ
        rw [mj_rr (l' := [(70, eo4.2)]) rfl]
        exact hZ
      · obtain ⟨o4, hf, hx⟩ := mj_sxl hf hx
        obtain ⟨hr9, hI9, hL9⟩ := hx
        refine mj_cnv (s1 := []) (I2 := (mj_rows I [(70, o4)])) (L2 := L) (by rw [hr9]; rfl) (hI9.trans (mj_rr rfl)) hL9 ?_
        obtain rfl := Option.some.inj hf
        have hZ := mj_el hq
        exact mj_vretx hR ⟨by decide, by decide⟩ rfl dX10_needNumber_14 hZ
set_option maxRecDepth 100000 in
set_option maxHeartbeats 4000000 in
theorem cmX10_needNumber (l : Launch) (G : mj_GT) (hlt : l.stackTraces = false) (F : Nat) (x1 : Int32) (x2 : Int32) (x3 : Int32) (I : mj_IT) (L : mj_LT) (r70 : Nat → Int32) (hr70 : I 70 = r70) (o : (((Nat → Int32)) ⊕ ((Nat) × (Nat → Int32)))) (hf : fnX10_needNumber F r70 x1 x2 x3 = some o) : mj_Mx l G yX10_needNumber cX10_needNumber 4 8 none 1 6 mj_P0 mj_S0 98 [.ref 1, .int x1, .int x2, .int x3] I L (fun rv I2 L2 => Sum.elim (fun o => rv = none ∧ I2 = (mj_rows I [(70, o)]) ∧ L2 = L) (fun _ => False) o) (fun E I2 L2 => Sum.elim (fun _ => False) (fun o => E = mj_en o.1 ∧ I2 = (mj_rows I [(70, o.2)]) ∧ L2 = L) o) := by
  refine mj_inx RX10 "needNumber" [(0, .ref 1), (1, .int x1), (2, .int x2), (3, .int x3)] rfl rfl rfl (by decide) (Nat.le_of_ble_eq_true rfl) (fun X ad hR => ?_)
  refine mj_toI [(70, r70)] (by intro q hq; simp only [List.mem_cons, List.not_mem_nil, or_false] at hq; rcases hq with rfl <;> assumption) ?_
  refine mtX10_needNumber hR hlt F I L r70 x1 x2 x3 o hf ?_
  rcases o with o | o
  · refine mj_elq ?_
    refine mj_elq ?_
    exact ⟨rfl, rfl, rfl⟩
  · refine mj_erq ?_
    obtain ⟨w0, w1⟩ := o
    refine mj_u2q ?_
    refine mj_erq ?_
    exact ⟨rfl, rfl, rfl⟩

-- X10_fault
def fnX10_fault (F : Nat) (r1 : Nat → Int32) : Option ((Int32)) := some (r1 1)
set_option maxRecDepth 100000 in
set_option maxHeartbeats 4000000 in
theorem mtX10_fault {X : mj_XT} {l : Launch} {G : mj_GT} {ad : Nat → Nat} {Qn : Option Value → mj_IT → mj_LT → Prop} (hR : mj_R X l G mj_P0 mj_S0 98 ad 0 0 Qn) (F : Nat) (I : mj_IT) (L : mj_LT) (r1 : Nat → Int32) (o : ((Int32))) (hf : fnX10_fault F r1 = some o) (hq : (fun ov => Qn (some (.int ov)) (mj_rows I [(1, r1)]) L) o) : mj_W X G RX10 "fault" cX10_fault 1 1 (some .int) mj_P0 mj_S0 98 ad 0 0 0 [(0, .ref 1)] [] (mj_rows I [(1, r1)]) L := by
  unfold fnX10_fault at hf
  refine mj_aload_n 0 dX10_fault_0 rfl ?_
  refine mj_getIv (v := (r1 1)) rfl fl_X10_16 rfl s0_1 a0_1 dX10_fault_1 ?_
  obtain rfl := Option.some.inj hf
  have hZ := hq
  exact mj_iret hR ⟨Nat.le_refl _, Nat.le_refl _⟩ rfl rfl dX10_fault_4 hZ
set_option maxRecDepth 100000 in
set_option maxHeartbeats 4000000 in
theorem cmX10_fault (l : Launch) (G : mj_GT) (F : Nat) (I : mj_IT) (L : mj_LT) (r1 : Nat → Int32) (hr1 : I 1 = r1) (o : ((Int32))) (hf : fnX10_fault F r1 = some o) : mj_M l G yX10_fault cX10_fault 1 1 (some .int) 0 0 mj_P0 mj_S0 98 [.ref 1] I L (mj_qd (some (.int o)) (mj_rows I [(1, r1)]) L) := by
  refine mj_in RX10 "fault" [(0, .ref 1)] rfl rfl rfl (by decide) (Nat.le_of_ble_eq_true rfl) (fun X ad hR => ?_)
  refine mj_toI [(1, r1)] (by intro q hq; simp only [List.mem_cons, List.not_mem_nil, or_false] at hq; rcases hq with rfl <;> assumption) ?_
  refine mtX10_fault hR F I L r1 o hf ?_
  exact ⟨rfl, rfl, rfl⟩

-- X10_refuseElement
def fnX10_refuseElement (F : Nat) (r70 : Nat → Int32) : Option (((Nat → Int32)) ⊕ ((Nat) × (Nat → Int32))) := (if mj_ib (0 : Int32) 3 = true then (if mj_ib (0 : Int32) 3 = true then some (.inr (0, (upd r70 ((0 : Int32).toNatClampNeg) ((r70 ((0 : Int32).toNatClampNeg)) + (1 : Int32))))) else none) else none)
set_option maxRecDepth 100000 in
set_option maxHeartbeats 4000000 in
theorem mtX10_refuseElement {X : mj_XT} {l : Launch} {G : mj_GT} {ad : Nat → Nat} {Qn : Option Value → mj_IT → mj_LT → Prop} {Qx : String → mj_IT → mj_LT → Prop} (hR : mj_Rx X l G mj_P0 mj_S0 98 ad 1 6 Qn Qx) (hlt : l.stackTraces = false) (F : Nat) (I : mj_IT) (L : mj_LT) (r70 : Nat → Int32) (o : (((Nat → Int32)) ⊕ ((Nat) × (Nat → Int32)))) (hf : fnX10_refuseElement F r70 = some o) (hq : (Sum.elim (fun r70 => Qn none (mj_rows I [(70, r70)]) L) (mj_u2 (fun kx r70 => Qx (mj_en kx) (mj_rows I [(70, r70)]) L))) o) : mj_W X G RX10 "refuseElement" cX10_refuseElement 1 7 none mj_P0 mj_S0 98 ad 0 0 0 [(0, .ref 1)] [] (mj_rows I [(70, r70)]) L := by
  unfold fnX10_refuseElement at hf
  refine mj_aload_n 0 dX10_refuseElement_0 rfl ?_
  refine mj_getP p0_1_10 (by decide) fl_X10_69 rfl s0_1 a0_1 dX10_refuseElement_1 ?_
  refine mj_iconst dX10_refuseElement_4 kc_iconst_0 ?_
  refine mj_dup2 dX10_refuseElement_5 rfl rfl ?_
  obtain ⟨z1, hf⟩ := mj_ck hf
  refine mj_ialdv (x := r70) rfl s0_70 a0_70 z1 dX10_refuseElement_6 ?_
  refine mj_iconst dX10_refuseElement_7 kc_iconst_1 ?_
  refine mj_iadd dX10_refuseElement_8 ?_
  obtain ⟨z2, hf⟩ := mj_ck hf
  refine mj_iastr [(70, (upd r70 ((0 : Int32).toNatClampNeg) ((r70 ((0 : Int32).toNatClampNeg)) + (1 : Int32))))] rfl s0_70 a0_70 z2 dX10_refuseElement_9 ?_
  obtain rfl := Option.some.inj hf
  have hZ := mj_er hq
  replace hZ := mj_u2p hZ
  exact mj_throwN hR hlt xk_296 xi_296 (List.mem_of_getElem? (i := 14) rfl) xw_296 dX10_refuseElement_10 dX10_refuseElement_13 dX10_refuseElement_14 dX10_refuseElement_17 dX10_refuseElement_20 (by decide) (Nat.le_of_ble_eq_true rfl) ⟨by decide, by decide⟩ hZ
set_option maxRecDepth 100000 in
set_option maxHeartbeats 4000000 in
theorem cmX10_refuseElement (l : Launch) (G : mj_GT) (hlt : l.stackTraces = false) (F : Nat) (I : mj_IT) (L : mj_LT) (r70 : Nat → Int32) (hr70 : I 70 = r70) (o : (((Nat → Int32)) ⊕ ((Nat) × (Nat → Int32)))) (hf : fnX10_refuseElement F r70 = some o) : mj_Mx l G yX10_refuseElement cX10_refuseElement 1 7 none 1 6 mj_P0 mj_S0 98 [.ref 1] I L (fun rv I2 L2 => Sum.elim (fun o => rv = none ∧ I2 = (mj_rows I [(70, o)]) ∧ L2 = L) (fun _ => False) o) (fun E I2 L2 => Sum.elim (fun _ => False) (fun o => E = mj_en o.1 ∧ I2 = (mj_rows I [(70, o.2)]) ∧ L2 = L) o) := by
  refine mj_inx RX10 "refuseElement" [(0, .ref 1)] rfl rfl rfl (by decide) (Nat.le_of_ble_eq_true rfl) (fun X ad hR => ?_)
  refine mj_toI [(70, r70)] (by intro q hq; simp only [List.mem_cons, List.not_mem_nil, or_false] at hq; rcases hq with rfl <;> assumption) ?_
  refine mtX10_refuseElement hR hlt F I L r70 o hf ?_
  rcases o with o | o
  · refine mj_elq ?_
    refine mj_elq ?_
    exact ⟨rfl, rfl, rfl⟩
  · refine mj_erq ?_
    obtain ⟨w0, w1⟩ := o
    refine mj_u2q ?_
    refine mj_erq ?_
    exact ⟨rfl, rfl, rfl⟩

-- X10_needVariable
def fnX10_needVariable (F : Nat) (r70 : Nat → Int32) (x1 : Int32) : Option (((Nat → Int32)) ⊕ ((Nat) × (Nat → Int32))) := (if x1 < 0 then (fnX10_refuseElement F r70).bind (Sum.elim (fun o2 => some (.inl o2)) (fun eo2 => some (.inr (eo2.1, eo2.2)))) else (if x1 < (6 : Int32) then some (.inl r70) else (fnX10_refuseElement F r70).bind (Sum.elim (fun o4 => some (.inl o4)) (fun eo4 => some (.inr (eo4.1, eo4.2))))))
set_option maxRecDepth 100000 in
set_option maxHeartbeats 4000000 in
theorem mtX10_needVariable {X : mj_XT} {l : Launch} {G : mj_GT} {ad : Nat → Nat} {Qn : Option Value → mj_IT → mj_LT → Prop} {Qx : String → mj_IT → mj_LT → Prop} (hR : mj_Rx X l G mj_P0 mj_S0 98 ad 1 6 Qn Qx) (hlt : l.stackTraces = false) (F : Nat) (I : mj_IT) (L : mj_LT) (r70 : Nat → Int32) (x1 : Int32) (o : (((Nat → Int32)) ⊕ ((Nat) × (Nat → Int32)))) (hf : fnX10_needVariable F r70 x1 = some o) (hq : (Sum.elim (fun r70 => Qn none (mj_rows I [(70, r70)]) L) (mj_u2 (fun kx r70 => Qx (mj_en kx) (mj_rows I [(70, r70)]) L))) o) : mj_W X G RX10 "needVariable" cX10_needVariable 2 8 none mj_P0 mj_S0 98 ad 0 0 0 [(0, .ref 1), (1, .int x1)] [] (mj_rows I [(70, r70)]) L := by
  unfold fnX10_needVariable at hf
  refine mj_iload_n 1 dX10_needVariable_0 rfl ?_
  refine mj_if_lt 10 dX10_needVariable_1 (by decide) (fun c1 => ?_) (fun c1 => ?_)
  · replace hf := mj_pos c1 hf
    refine mj_aload_n 0 dX10_needVariable_10 rfl ?_
    obtain ⟨so2, ho2, hf⟩ := mj_bd hf
    refine mj_callVx (st := []) [] hR (cmX10_refuseElement l G hlt F  _ _ r70 rfl so2 ho2) cw_X10_197 s0_1 a0_1 (by decide) rfl rfl (Nat.le_of_ble_eq_true rfl) ⟨by decide, by decide⟩ dX10_needVariable_11 (fun E I2 L2 hx => ?_) (fun rv I2 L2 hx => ?_)
    · obtain ⟨eo2, hf, hx⟩ := mj_sxr hf hx
      obtain rfl := Option.some.inj hf
      obtain ⟨hE9, hI9, hL9⟩ := hx
      rw [hE9, hI9, hL9]
      have hZ := mj_er hq
      replace hZ := mj_u2p hZ
      rw [mj_rr (l' := [(70, eo2.2)]) rfl]
      exact hZ
    · obtain ⟨o2, hf, hx⟩ := mj_sxl hf hx
      obtain ⟨hr9, hI9, hL9⟩ := hx
      refine mj_cnv (s1 := []) (I2 := (mj_rows I [(70, o2)])) (L2 := L) (by rw [hr9]; rfl) (hI9.trans (mj_rr rfl)) hL9 ?_
      obtain rfl := Option.some.inj hf
      have hZ := mj_el hq
      exact mj_vretx hR ⟨by decide, by decide⟩ rfl dX10_needVariable_14 hZ
  · replace hf := mj_neg c1 hf
    refine mj_iload_n 1 dX10_needVariable_4 rfl ?_
    refine mj_bipush dX10_needVariable_5 kc_bipush_6 ?_
    refine mj_icmp_lt 14 dX10_needVariable_7 (by decide) (fun c3 => ?_) (fun c3 => ?_)
    · replace hf := mj_pos c3 hf
      obtain rfl := Option.some.inj hf
      have hZ := mj_el hq
      exact mj_vretx hR ⟨by decide, by decide⟩ rfl dX10_needVariable_14 hZ
    · replace hf := mj_neg c3 hf
      refine mj_aload_n 0 dX10_needVariable_10 rfl ?_
      obtain ⟨so4, ho4, hf⟩ := mj_bd hf
      refine mj_callVx (st := []) [] hR (cmX10_refuseElement l G hlt F  _ _ r70 rfl so4 ho4) cw_X10_197 s0_1 a0_1 (by decide) rfl rfl (Nat.le_of_ble_eq_true rfl) ⟨by decide, by decide⟩ dX10_needVariable_11 (fun E I2 L2 hx => ?_) (fun rv I2 L2 hx => ?_)
      · obtain ⟨eo4, hf, hx⟩ := mj_sxr hf hx
        obtain rfl := Option.some.inj hf
        obtain ⟨hE9, hI9, hL9⟩ := hx
        rw [hE9, hI9, hL9]
        have hZ := mj_er hq
        replace hZ := mj_u2p hZ
        rw [mj_rr (l' := [(70, eo4.2)]) rfl]
        exact hZ
      · obtain ⟨o4, hf, hx⟩ := mj_sxl hf hx
        obtain ⟨hr9, hI9, hL9⟩ := hx
        refine mj_cnv (s1 := []) (I2 := (mj_rows I [(70, o4)])) (L2 := L) (by rw [hr9]; rfl) (hI9.trans (mj_rr rfl)) hL9 ?_
        obtain rfl := Option.some.inj hf
        have hZ := mj_el hq
        exact mj_vretx hR ⟨by decide, by decide⟩ rfl dX10_needVariable_14 hZ
set_option maxRecDepth 100000 in
set_option maxHeartbeats 4000000 in
theorem cmX10_needVariable (l : Launch) (G : mj_GT) (hlt : l.stackTraces = false) (F : Nat) (x1 : Int32) (I : mj_IT) (L : mj_LT) (r70 : Nat → Int32) (hr70 : I 70 = r70) (o : (((Nat → Int32)) ⊕ ((Nat) × (Nat → Int32)))) (hf : fnX10_needVariable F r70 x1 = some o) : mj_Mx l G yX10_needVariable cX10_needVariable 2 8 none 1 6 mj_P0 mj_S0 98 [.ref 1, .int x1] I L (fun rv I2 L2 => Sum.elim (fun o => rv = none ∧ I2 = (mj_rows I [(70, o)]) ∧ L2 = L) (fun _ => False) o) (fun E I2 L2 => Sum.elim (fun _ => False) (fun o => E = mj_en o.1 ∧ I2 = (mj_rows I [(70, o.2)]) ∧ L2 = L) o) := by
  refine mj_inx RX10 "needVariable" [(0, .ref 1), (1, .int x1)] rfl rfl rfl (by decide) (Nat.le_of_ble_eq_true rfl) (fun X ad hR => ?_)
  refine mj_toI [(70, r70)] (by intro q hq; simp only [List.mem_cons, List.not_mem_nil, or_false] at hq; rcases hq with rfl <;> assumption) ?_
  refine mtX10_needVariable hR hlt F I L r70 x1 o hf ?_
  rcases o with o | o
  · refine mj_elq ?_
    refine mj_elq ?_
    exact ⟨rfl, rfl, rfl⟩
  · refine mj_erq ?_
    obtain ⟨w0, w1⟩ := o
    refine mj_u2q ?_
    refine mj_erq ?_
    exact ⟨rfl, rfl, rfl⟩

-- X10_first
def fnX10_first (F : Nat) (r1 : Nat → Int32) (r29 : Nat → Int32) (r30 : Nat → Int32) (r31 : Nat → Int32) (r32 : Nat → Int32) (r70 : Nat → Int32) (x1 : Int32) (x2 : Int32) : Option (((Int32) × (Nat → Int32) × (Nat → Int32) × (Nat → Int32) × (Nat → Int32) × (Nat → Int32) × (Nat → Int32)) ⊕ ((Nat) × (Nat → Int32) × (Nat → Int32) × (Nat → Int32) × (Nat → Int32) × (Nat → Int32) × (Nat → Int32))) := (fnX10_needVariable F r70 x1).bind (Sum.elim (fun o1 => (fnX10_needNumber F o1 x2 (0 : Int32) (9 : Int32)).bind (Sum.elim (fun o2 => (fnX1_get F (r1 3) x1).bind (fun o3 => (fnX0_keep F r29 r30 r31 x1 o3).bind (fun o4 => (fnX1_put F (r1 3) x1 x2).bind (fun o5 => (fnX4_forget F r32).bind (fun o6 => some (.inl (o3, (upd r1 3 o5), o4.1, o4.2.1, o4.2.2, o6, o2))))))) (fun eo2 => some (.inr (eo2.1, r1, r29, r30, r31, r32, eo2.2))))) (fun eo1 => some (.inr (eo1.1, r1, r29, r30, r31, r32, eo1.2))))
set_option maxRecDepth 100000 in
set_option maxHeartbeats 4000000 in
theorem mtX10_first {X : mj_XT} {l : Launch} {G : mj_GT} {ad : Nat → Nat} {Qn : Option Value → mj_IT → mj_LT → Prop} {Qx : String → mj_IT → mj_LT → Prop} (hR : mj_Rx X l G mj_P0 mj_S0 98 ad 2 12 Qn Qx) (hlt : l.stackTraces = false) (F : Nat) (I : mj_IT) (L : mj_LT) (r1 : Nat → Int32) (r29 : Nat → Int32) (r30 : Nat → Int32) (r31 : Nat → Int32) (r32 : Nat → Int32) (r70 : Nat → Int32) (x1 : Int32) (x2 : Int32) (o : (((Int32) × (Nat → Int32) × (Nat → Int32) × (Nat → Int32) × (Nat → Int32) × (Nat → Int32) × (Nat → Int32)) ⊕ ((Nat) × (Nat → Int32) × (Nat → Int32) × (Nat → Int32) × (Nat → Int32) × (Nat → Int32) × (Nat → Int32)))) (hf : fnX10_first F r1 r29 r30 r31 r32 r70 x1 x2 = some o) (hq : (Sum.elim (mj_u2 (fun ov => (mj_u2 (fun r1 => (mj_u2 (fun r29 => (mj_u2 (fun r30 => (mj_u2 (fun r31 => (mj_u2 (fun r32 r70 => Qn (some (.int ov)) (mj_rows I [(1, r1), (29, r29), (30, r30), (31, r31), (32, r32), (70, r70)]) L)))))))))))) (mj_u2 (fun kx => (mj_u2 (fun r1 => (mj_u2 (fun r29 => (mj_u2 (fun r30 => (mj_u2 (fun r31 => (mj_u2 (fun r32 r70 => Qx (mj_en kx) (mj_rows I [(1, r1), (29, r29), (30, r30), (31, r31), (32, r32), (70, r70)]) L))))))))))))) o) : mj_W X G RX10 "first" cX10_first 4 9 (some .int) mj_P0 mj_S0 98 ad 0 0 0 [(0, .ref 1), (1, .int x1), (2, .int x2)] [] (mj_rows I [(1, r1), (29, r29), (30, r30), (31, r31), (32, r32), (70, r70)]) L := by
  unfold fnX10_first at hf
  refine mj_aload_n 0 dX10_first_0 rfl ?_
  refine mj_iload_n 1 dX10_first_1 rfl ?_
  obtain ⟨so1, ho1, hf⟩ := mj_bd hf
  refine mj_callVx (st := []) [.int x1] hR (cmX10_needVariable l G hlt F x1 _ _ r70 rfl so1 ho1) cw_X10_107 s0_1 a0_1 (by decide) rfl rfl (Nat.le_of_ble_eq_true rfl) ⟨by decide, by decide⟩ dX10_first_2 (fun E I2 L2 hx => ?_) (fun rv I2 L2 hx => ?_)
  · obtain ⟨eo1, hf, hx⟩ := mj_sxr hf hx
    obtain rfl := Option.some.inj hf
    obtain ⟨hE9, hI9, hL9⟩ := hx
    rw [hE9, hI9, hL9]
    have hZ := mj_er hq
    replace hZ := mj_u2p hZ
    replace hZ := mj_u2p hZ
    replace hZ := mj_u2p hZ
    replace hZ := mj_u2p hZ
    replace hZ := mj_u2p hZ
    replace hZ := mj_u2p hZ
    rw [mj_rr (l' := [(1, r1), (29, r29), (30, r30), (31, r31), (32, r32), (70, eo1.2)]) rfl]
    exact hZ
  · obtain ⟨o1, hf, hx⟩ := mj_sxl hf hx
    obtain ⟨hr9, hI9, hL9⟩ := hx
    refine mj_cnv (s1 := []) (I2 := (mj_rows I [(1, r1), (29, r29), (30, r30), (31, r31), (32, r32), (70, o1)])) (L2 := L) (by rw [hr9]; rfl) (hI9.trans (mj_rr rfl)) hL9 ?_
    refine mj_aload_n 0 dX10_first_5 rfl ?_
    refine mj_iload_n 2 dX10_first_6 rfl ?_
    refine mj_iconst dX10_first_7 kc_iconst_0 ?_
    refine mj_bipush dX10_first_8 kc_bipush_9 ?_
    obtain ⟨so2, ho2, hf⟩ := mj_bd hf
    refine mj_callVx (st := []) [.int x2, .int (0 : Int32), .int (9 : Int32)] hR (cmX10_needNumber l G hlt F x2 (0 : Int32) (9 : Int32) _ _ o1 rfl so2 ho2) cw_X10_80 s0_1 a0_1 (by decide) rfl rfl (Nat.le_of_ble_eq_true rfl) ⟨by decide, by decide⟩ dX10_first_10 (fun E I2 L2 hx => ?_) (fun rv I2 L2 hx => ?_)
    · obtain ⟨eo2, hf, hx⟩ := mj_sxr hf hx
      obtain rfl := Option.some.inj hf
      obtain ⟨hE9, hI9, hL9⟩ := hx
      rw [hE9, hI9, hL9]
      have hZ := mj_er hq
      replace hZ := mj_u2p hZ
      replace hZ := mj_u2p hZ
      replace hZ := mj_u2p hZ
      replace hZ := mj_u2p hZ
      replace hZ := mj_u2p hZ
      replace hZ := mj_u2p hZ
      rw [mj_rr (l' := [(1, r1), (29, r29), (30, r30), (31, r31), (32, r32), (70, eo2.2)]) rfl]
      exact hZ
    · obtain ⟨o2, hf, hx⟩ := mj_sxl hf hx
      obtain ⟨hr9, hI9, hL9⟩ := hx
      refine mj_cnv (s1 := []) (I2 := (mj_rows I [(1, r1), (29, r29), (30, r30), (31, r31), (32, r32), (70, o2)])) (L2 := L) (by rw [hr9]; rfl) (hI9.trans (mj_rr rfl)) hL9 ?_
      refine mj_aload_n 0 dX10_first_13 rfl ?_
      refine mj_getIv (v := (r1 3)) rfl fl_X10_95 rfl s0_1 a0_1 dX10_first_14 ?_
      refine mj_iload_n 1 dX10_first_17 rfl ?_
      obtain ⟨o3, ho3, hf⟩ := mj_bd hf
      refine mj_callSd (I2 := (mj_rows I [(1, r1), (29, r29), (30, r30), (31, r31), (32, r32), (70, o2)])) (L2 := L) (s1 := [.int o3]) (st := []) [.int (r1 3), .int x1] (cmX1_get X.2.1 G F (r1 3) x1 _ _   o3 ho3) rfl rfl cw_X10_110 (by decide) rfl rfl (Nat.le_of_ble_eq_true rfl) (mj_rxc hR ⟨by decide, by decide⟩) dX10_first_18 rfl ?_
      refine mj_istore_n [(3, .int o3), (0, .ref 1), (1, .int x1), (2, .int x2)] dX10_first_21 rfl (by decide) rfl ?_
      refine mj_aload_n 1 dX10_first_22 rfl ?_
      refine mj_getP p0_1_4 (by decide) fl_X10_30 rfl s0_1 a0_1 dX10_first_23 ?_
      refine mj_iload_n 2 dX10_first_26 rfl ?_
      refine mj_iload_n 0 dX10_first_27 rfl ?_
      obtain ⟨o4, ho4, hf⟩ := mj_bd hf
      refine mj_callVd (I2 := (mj_rows I [(1, r1), (29, o4.1), (30, o4.2.1), (31, o4.2.2), (32, r32), (70, o2)])) (L2 := L) (s1 := []) (st := []) [.int x1, .int o3] (cmX0_keep X.2.1 G F x1 o3 _ _ r29 r30 r31 rfl rfl rfl o4 ho4) (mj_rr rfl) rfl cw_X10_116 s0_29 a0_29 (by decide) rfl rfl (Nat.le_of_ble_eq_true rfl) (mj_rxc hR ⟨by decide, by decide⟩) dX10_first_28 rfl ?_
      refine mj_aload_n 1 dX10_first_31 rfl ?_
      refine mj_aload_n 1 dX10_first_32 rfl ?_
      refine mj_getIv (v := (r1 3)) rfl fl_X10_95 rfl s0_1 a0_1 dX10_first_33 ?_
      refine mj_iload_n 2 dX10_first_36 rfl ?_
      refine mj_iload_n 3 dX10_first_37 rfl ?_
      obtain ⟨o5, ho5, hf⟩ := mj_bd hf
      refine mj_callSd (I2 := (mj_rows I [(1, r1), (29, o4.1), (30, o4.2.1), (31, o4.2.2), (32, r32), (70, o2)])) (L2 := L) (s1 := [.int o5, .ref 1]) (st := [.ref 1]) [.int (r1 3), .int x1, .int x2] (cmX1_put X.2.1 G F (r1 3) x1 x2 _ _   o5 ho5) rfl rfl cw_X10_120 (by decide) rfl rfl (Nat.le_of_ble_eq_true rfl) (mj_rxc hR ⟨by decide, by decide⟩) dX10_first_38 rfl ?_
      refine mj_putIr (ci := 8) (j := 3) [(1, (upd r1 3 o5)), (29, o4.1), (30, o4.2.1), (31, o4.2.2), (32, r32), (70, o2)] rfl ⟨rfl, rfl⟩ fl_X10_95 rfl rfl s0_1 a0_1 dX10_first_41 ?_
      refine mj_aload_n 1 dX10_first_44 rfl ?_
      refine mj_getP p0_1_5 (by decide) fl_X10_37 rfl s0_1 a0_1 dX10_first_45 ?_
      obtain ⟨o6, ho6, hf⟩ := mj_bd hf
      refine mj_callVd (I2 := (mj_rows I [(1, (upd r1 3 o5)), (29, o4.1), (30, o4.2.1), (31, o4.2.2), (32, o6), (70, o2)])) (L2 := L) (s1 := []) (st := []) [] (cmX4_forget X.2.1 G F  _ _ r32 rfl o6 ho6) (mj_rr rfl) rfl cw_X10_101 s0_32 a0_32 (by decide) rfl rfl (Nat.le_of_ble_eq_true rfl) (mj_rxc hR ⟨by decide, by decide⟩) dX10_first_48 rfl ?_
      refine mj_iload_n 0 dX10_first_51 rfl ?_
      obtain rfl := Option.some.inj hf
      have hZ := mj_el hq
      replace hZ := mj_u2p hZ
      replace hZ := mj_u2p hZ
      replace hZ := mj_u2p hZ
      replace hZ := mj_u2p hZ
      replace hZ := mj_u2p hZ
      replace hZ := mj_u2p hZ
      exact mj_iretx hR ⟨by decide, by decide⟩ rfl rfl dX10_first_52 hZ
set_option maxRecDepth 100000 in
set_option maxHeartbeats 4000000 in
theorem cmX10_first (l : Launch) (G : mj_GT) (hlt : l.stackTraces = false) (F : Nat) (x1 : Int32) (x2 : Int32) (I : mj_IT) (L : mj_LT) (r1 : Nat → Int32) (r29 : Nat → Int32) (r30 : Nat → Int32) (r31 : Nat → Int32) (r32 : Nat → Int32) (r70 : Nat → Int32) (hr1 : I 1 = r1) (hr29 : I 29 = r29) (hr30 : I 30 = r30) (hr31 : I 31 = r31) (hr32 : I 32 = r32) (hr70 : I 70 = r70) (o : (((Int32) × (Nat → Int32) × (Nat → Int32) × (Nat → Int32) × (Nat → Int32) × (Nat → Int32) × (Nat → Int32)) ⊕ ((Nat) × (Nat → Int32) × (Nat → Int32) × (Nat → Int32) × (Nat → Int32) × (Nat → Int32) × (Nat → Int32)))) (hf : fnX10_first F r1 r29 r30 r31 r32 r70 x1 x2 = some o) : mj_Mx l G yX10_first cX10_first 4 9 (some .int) 2 12 mj_P0 mj_S0 98 [.ref 1, .int x1, .int x2] I L (fun rv I2 L2 => Sum.elim (fun o => rv = (some (.int o.1)) ∧ I2 = (mj_rows I [(1, o.2.1), (29, o.2.2.1), (30, o.2.2.2.1), (31, o.2.2.2.2.1), (32, o.2.2.2.2.2.1), (70, o.2.2.2.2.2.2)]) ∧ L2 = L) (fun _ => False) o) (fun E I2 L2 => Sum.elim (fun _ => False) (fun o => E = mj_en o.1 ∧ I2 = (mj_rows I [(1, o.2.1), (29, o.2.2.1), (30, o.2.2.2.1), (31, o.2.2.2.2.1), (32, o.2.2.2.2.2.1), (70, o.2.2.2.2.2.2)]) ∧ L2 = L) o) := by
  refine mj_inx RX10 "first" [(0, .ref 1), (1, .int x1), (2, .int x2)] rfl rfl rfl (by decide) (Nat.le_of_ble_eq_true rfl) (fun X ad hR => ?_)
  refine mj_toI [(1, r1), (29, r29), (30, r30), (31, r31), (32, r32), (70, r70)] (by intro q hq; simp only [List.mem_cons, List.not_mem_nil, or_false] at hq; rcases hq with rfl | rfl | rfl | rfl | rfl | rfl <;> assumption) ?_
  refine mtX10_first hR hlt F I L r1 r29 r30 r31 r32 r70 x1 x2 o hf ?_
  rcases o with o | o
  · refine mj_elq ?_
    obtain ⟨w0, w1, w2, w3, w4, w5, w6⟩ := o
    refine mj_u2q ?_
    refine mj_u2q ?_
    refine mj_u2q ?_
    refine mj_u2q ?_
    refine mj_u2q ?_
    refine mj_u2q ?_
    refine mj_elq ?_
    exact ⟨rfl, rfl, rfl⟩
  · refine mj_erq ?_
    obtain ⟨w0, w1, w2, w3, w4, w5, w6⟩ := o
    refine mj_u2q ?_
    refine mj_u2q ?_
    refine mj_u2q ?_
    refine mj_u2q ?_
    refine mj_u2q ?_
    refine mj_u2q ?_
    refine mj_erq ?_
    exact ⟨rfl, rfl, rfl⟩

-- X10_needStatement
def fnX10_needStatement (F : Nat) (r18 : Nat → Int32) (r70 : Nat → Int32) (x1 : Int32) : Option (((Nat → Int32)) ⊕ ((Nat) × (Nat → Int32))) := (if x1 < 0 then (fnX10_refuseElement F r70).bind (Sum.elim (fun o2 => some (.inl o2)) (fun eo2 => some (.inr (eo2.1, eo2.2)))) else (if x1 < (r18 0) then some (.inl r70) else (fnX10_refuseElement F r70).bind (Sum.elim (fun o4 => some (.inl o4)) (fun eo4 => some (.inr (eo4.1, eo4.2))))))
set_option maxRecDepth 100000 in
set_option maxHeartbeats 4000000 in
theorem mtX10_needStatement {X : mj_XT} {l : Launch} {G : mj_GT} {ad : Nat → Nat} {Qn : Option Value → mj_IT → mj_LT → Prop} {Qx : String → mj_IT → mj_LT → Prop} (hR : mj_Rx X l G mj_P0 mj_S0 98 ad 1 6 Qn Qx) (hlt : l.stackTraces = false) (F : Nat) (I : mj_IT) (L : mj_LT) (r18 : Nat → Int32) (r70 : Nat → Int32) (x1 : Int32) (o : (((Nat → Int32)) ⊕ ((Nat) × (Nat → Int32)))) (hf : fnX10_needStatement F r18 r70 x1 = some o) (hq : (Sum.elim (fun r70 => Qn none (mj_rows I [(18, r18), (70, r70)]) L) (mj_u2 (fun kx r70 => Qx (mj_en kx) (mj_rows I [(18, r18), (70, r70)]) L))) o) : mj_W X G RX10 "needStatement" cX10_needStatement 2 8 none mj_P0 mj_S0 98 ad 0 0 0 [(0, .ref 1), (1, .int x1)] [] (mj_rows I [(18, r18), (70, r70)]) L := by
  unfold fnX10_needStatement at hf
  refine mj_iload_n 1 dX10_needStatement_0 rfl ?_
  refine mj_if_lt 15 dX10_needStatement_1 (by decide) (fun c1 => ?_) (fun c1 => ?_)
  · replace hf := mj_pos c1 hf
    refine mj_aload_n 0 dX10_needStatement_15 rfl ?_
    obtain ⟨so2, ho2, hf⟩ := mj_bd hf
    refine mj_callVx (st := []) [] hR (cmX10_refuseElement l G hlt F  _ _ r70 rfl so2 ho2) cw_X10_197 s0_1 a0_1 (by decide) rfl rfl (Nat.le_of_ble_eq_true rfl) ⟨by decide, by decide⟩ dX10_needStatement_16 (fun E I2 L2 hx => ?_) (fun rv I2 L2 hx => ?_)
    · obtain ⟨eo2, hf, hx⟩ := mj_sxr hf hx
      obtain rfl := Option.some.inj hf
      obtain ⟨hE9, hI9, hL9⟩ := hx
      rw [hE9, hI9, hL9]
      have hZ := mj_er hq
      replace hZ := mj_u2p hZ
      rw [mj_rr (l' := [(18, r18), (70, eo2.2)]) rfl]
      exact hZ
    · obtain ⟨o2, hf, hx⟩ := mj_sxl hf hx
      obtain ⟨hr9, hI9, hL9⟩ := hx
      refine mj_cnv (s1 := []) (I2 := (mj_rows I [(18, r18), (70, o2)])) (L2 := L) (by rw [hr9]; rfl) (hI9.trans (mj_rr rfl)) hL9 ?_
      obtain rfl := Option.some.inj hf
      have hZ := mj_el hq
      exact mj_vretx hR ⟨by decide, by decide⟩ rfl dX10_needStatement_19 hZ
  · replace hf := mj_neg c1 hf
    refine mj_iload_n 1 dX10_needStatement_4 rfl ?_
    refine mj_aload_n 0 dX10_needStatement_5 rfl ?_
    refine mj_getP p0_1_2 (by decide) fl_X10_23 rfl s0_1 a0_1 dX10_needStatement_6 ?_
    refine mj_getIv (v := (r18 0)) rfl fl_X10_104 rfl s0_18 a0_18 dX10_needStatement_9 ?_
    refine mj_icmp_lt 19 dX10_needStatement_12 (by decide) (fun c3 => ?_) (fun c3 => ?_)
    · replace hf := mj_pos c3 hf
      obtain rfl := Option.some.inj hf
      have hZ := mj_el hq
      exact mj_vretx hR ⟨by decide, by decide⟩ rfl dX10_needStatement_19 hZ
    · replace hf := mj_neg c3 hf
      refine mj_aload_n 0 dX10_needStatement_15 rfl ?_
      obtain ⟨so4, ho4, hf⟩ := mj_bd hf
      refine mj_callVx (st := []) [] hR (cmX10_refuseElement l G hlt F  _ _ r70 rfl so4 ho4) cw_X10_197 s0_1 a0_1 (by decide) rfl rfl (Nat.le_of_ble_eq_true rfl) ⟨by decide, by decide⟩ dX10_needStatement_16 (fun E I2 L2 hx => ?_) (fun rv I2 L2 hx => ?_)
      · obtain ⟨eo4, hf, hx⟩ := mj_sxr hf hx
        obtain rfl := Option.some.inj hf
        obtain ⟨hE9, hI9, hL9⟩ := hx
        rw [hE9, hI9, hL9]
        have hZ := mj_er hq
        replace hZ := mj_u2p hZ
        rw [mj_rr (l' := [(18, r18), (70, eo4.2)]) rfl]
        exact hZ
      · obtain ⟨o4, hf, hx⟩ := mj_sxl hf hx
        obtain ⟨hr9, hI9, hL9⟩ := hx
        refine mj_cnv (s1 := []) (I2 := (mj_rows I [(18, r18), (70, o4)])) (L2 := L) (by rw [hr9]; rfl) (hI9.trans (mj_rr rfl)) hL9 ?_
        obtain rfl := Option.some.inj hf
        have hZ := mj_el hq
        exact mj_vretx hR ⟨by decide, by decide⟩ rfl dX10_needStatement_19 hZ
set_option maxRecDepth 100000 in
set_option maxHeartbeats 4000000 in
theorem cmX10_needStatement (l : Launch) (G : mj_GT) (hlt : l.stackTraces = false) (F : Nat) (x1 : Int32) (I : mj_IT) (L : mj_LT) (r18 : Nat → Int32) (r70 : Nat → Int32) (hr18 : I 18 = r18) (hr70 : I 70 = r70) (o : (((Nat → Int32)) ⊕ ((Nat) × (Nat → Int32)))) (hf : fnX10_needStatement F r18 r70 x1 = some o) : mj_Mx l G yX10_needStatement cX10_needStatement 2 8 none 1 6 mj_P0 mj_S0 98 [.ref 1, .int x1] I L (fun rv I2 L2 => Sum.elim (fun o => rv = none ∧ I2 = (mj_rows I [(18, r18), (70, o)]) ∧ L2 = L) (fun _ => False) o) (fun E I2 L2 => Sum.elim (fun _ => False) (fun o => E = mj_en o.1 ∧ I2 = (mj_rows I [(18, r18), (70, o.2)]) ∧ L2 = L) o) := by
  refine mj_inx RX10 "needStatement" [(0, .ref 1), (1, .int x1)] rfl rfl rfl (by decide) (Nat.le_of_ble_eq_true rfl) (fun X ad hR => ?_)
  refine mj_toI [(18, r18), (70, r70)] (by intro q hq; simp only [List.mem_cons, List.not_mem_nil, or_false] at hq; rcases hq with rfl | rfl <;> assumption) ?_
  refine mtX10_needStatement hR hlt F I L r18 r70 x1 o hf ?_
  rcases o with o | o
  · refine mj_elq ?_
    refine mj_elq ?_
    exact ⟨rfl, rfl, rfl⟩
  · refine mj_erq ?_
    obtain ⟨w0, w1⟩ := o
    refine mj_u2q ?_
    refine mj_erq ?_
    exact ⟨rfl, rfl, rfl⟩

-- X10_chance
def jnX10_chance_30 (F : Nat) (r18 : Nat → Int32) (r19 : Nat → Int32) (x1 : Int32) (x2 : Int32) (r21 : Nat → Int32) (r29 : Nat → Int32) (r30 : Nat → Int32) (r31 : Nat → Int32) (r32 : Nat → Int32) (r70 : Nat → Int32) : Option (((Int32) × (Nat → Int32) × (Nat → Int32) × (Nat → Int32) × (Nat → Int32) × (Nat → Int32) × (Nat → Int32)) ⊕ ((Nat) × (Nat → Int32) × (Nat → Int32) × (Nat → Int32) × (Nat → Int32) × (Nat → Int32) × (Nat → Int32))) := (if mj_ib x1 40 = true then (fnX0_keep F r29 r30 r31 ((6 : Int32) + x1) (r21 x1.toNatClampNeg)).bind (fun o2 => (if mj_ib x1 40 = true then (fnX4_forget F r32).bind (fun o4 => some (.inl ((r21 x1.toNatClampNeg), (upd r21 x1.toNatClampNeg x2), o2.1, o2.2.1, o2.2.2, o4, r70))) else none)) else none)
def fnX10_chance (F : Nat) (r18 : Nat → Int32) (r19 : Nat → Int32) (r21 : Nat → Int32) (r29 : Nat → Int32) (r30 : Nat → Int32) (r31 : Nat → Int32) (r32 : Nat → Int32) (r70 : Nat → Int32) (x1 : Int32) (x2 : Int32) : Option (((Int32) × (Nat → Int32) × (Nat → Int32) × (Nat → Int32) × (Nat → Int32) × (Nat → Int32) × (Nat → Int32)) ⊕ ((Nat) × (Nat → Int32) × (Nat → Int32) × (Nat → Int32) × (Nat → Int32) × (Nat → Int32) × (Nat → Int32))) := (fnX10_needStatement F r18 r70 x1).bind (Sum.elim (fun o5 => (fnX10_needNumber F o5 x2 (0 : Int32) (60 : Int32)).bind (Sum.elim (fun o6 => (if mj_ib x1 40 = true then (if (r19 x1.toNatClampNeg) = (2 : Int32) then jnX10_chance_30 F r18 r19 x1 x2 r21 r29 r30 r31 r32 o6 else (fnX10_refuseArgument F o6).bind (Sum.elim (fun o9 => jnX10_chance_30 F r18 r19 x1 x2 r21 r29 r30 r31 r32 o9) (fun eo9 => some (.inr (eo9.1, r21, r29, r30, r31, r32, eo9.2))))) else none)) (fun eo6 => some (.inr (eo6.1, r21, r29, r30, r31, r32, eo6.2))))) (fun eo5 => some (.inr (eo5.1, r21, r29, r30, r31, r32, eo5.2))))
set_option maxRecDepth 100000 in
set_option maxHeartbeats 4000000 in
theorem jtX10_chance_30 {X : mj_XT} {l : Launch} {G : mj_GT} {ad : Nat → Nat} {Qn : Option Value → mj_IT → mj_LT → Prop} {Qx : String → mj_IT → mj_LT → Prop} (hR : mj_Rx X l G mj_P0 mj_S0 98 ad 3 18 Qn Qx) (hlt : l.stackTraces = false) (F : Nat) (I : mj_IT) (L : mj_LT) (r18 : Nat → Int32) (r19 : Nat → Int32) (r21 : Nat → Int32) (r29 : Nat → Int32) (r30 : Nat → Int32) (r31 : Nat → Int32) (r32 : Nat → Int32) (r70 : Nat → Int32) (x1 : Int32) (x2 : Int32) (o : (((Int32) × (Nat → Int32) × (Nat → Int32) × (Nat → Int32) × (Nat → Int32) × (Nat → Int32) × (Nat → Int32)) ⊕ ((Nat) × (Nat → Int32) × (Nat → Int32) × (Nat → Int32) × (Nat → Int32) × (Nat → Int32) × (Nat → Int32)))) (hf : jnX10_chance_30 F r18 r19 x1 x2 r21 r29 r30 r31 r32 r70 = some o) (hq : (Sum.elim (mj_u2 (fun ov => (mj_u2 (fun r21 => (mj_u2 (fun r29 => (mj_u2 (fun r30 => (mj_u2 (fun r31 => (mj_u2 (fun r32 r70 => Qn (some (.int ov)) (mj_rows I [(18, r18), (19, r19), (21, r21), (29, r29), (30, r30), (31, r31), (32, r32), (70, r70)]) L)))))))))))) (mj_u2 (fun kx => (mj_u2 (fun r21 => (mj_u2 (fun r29 => (mj_u2 (fun r30 => (mj_u2 (fun r31 => (mj_u2 (fun r32 r70 => Qx (mj_en kx) (mj_rows I [(18, r18), (19, r19), (21, r21), (29, r29), (30, r30), (31, r31), (32, r32), (70, r70)]) L))))))))))))) o) : mj_W X G RX10 "chance" cX10_chance 4 9 (some .int) mj_P0 mj_S0 98 ad 3 18 30 [(0, .ref 1), (1, .int x1), (2, .int x2)] [] (mj_rows I [(18, r18), (19, r19), (21, r21), (29, r29), (30, r30), (31, r31), (32, r32), (70, r70)]) L := by
  unfold jnX10_chance_30 at hf
  refine mj_aload_n 0 dX10_chance_30 rfl ?_
  refine mj_getP p0_1_2 (by decide) fl_X10_23 rfl s0_1 a0_1 dX10_chance_31 ?_
  refine mj_getP p0_18_3 (by decide) fl_X10_132 rfl s0_18 a0_18 dX10_chance_34 ?_
  refine mj_iload_n 1 dX10_chance_37 rfl ?_
  obtain ⟨z1, hf⟩ := mj_ck hf
  refine mj_ialdv (x := r21) rfl s0_21 a0_21 z1 dX10_chance_38 ?_
  refine mj_istore_n [(3, .int (r21 x1.toNatClampNeg)), (0, .ref 1), (1, .int x1), (2, .int x2)] dX10_chance_39 rfl (by decide) rfl ?_
  refine mj_aload_n 1 dX10_chance_40 rfl ?_
  refine mj_getP p0_1_4 (by decide) fl_X10_30 rfl s0_1 a0_1 dX10_chance_41 ?_
  refine mj_bipush dX10_chance_44 kc_bipush_6 ?_
  refine mj_iload_n 2 dX10_chance_46 rfl ?_
  refine mj_iadd dX10_chance_47 ?_
  refine mj_iload_n 0 dX10_chance_48 rfl ?_
  obtain ⟨o2, ho2, hf⟩ := mj_bd hf
  refine mj_callVd (I2 := (mj_rows I [(18, r18), (19, r19), (21, r21), (29, o2.1), (30, o2.2.1), (31, o2.2.2), (32, r32), (70, r70)])) (L2 := L) (s1 := []) (st := []) [.int ((6 : Int32) + x1), .int (r21 x1.toNatClampNeg)] (cmX0_keep X.2.1 G F ((6 : Int32) + x1) (r21 x1.toNatClampNeg) _ _ r29 r30 r31 rfl rfl rfl o2 ho2) (mj_rr rfl) rfl cw_X10_116 s0_29 a0_29 (by decide) rfl rfl (Nat.le_of_ble_eq_true rfl) (mj_rxc hR ⟨by decide, by decide⟩) dX10_chance_49 rfl ?_
  refine mj_aload_n 1 dX10_chance_52 rfl ?_
  refine mj_getP p0_1_2 (by decide) fl_X10_23 rfl s0_1 a0_1 dX10_chance_53 ?_
  refine mj_getP p0_18_3 (by decide) fl_X10_132 rfl s0_18 a0_18 dX10_chance_56 ?_
  refine mj_iload_n 2 dX10_chance_59 rfl ?_
  refine mj_iload_n 3 dX10_chance_60 rfl ?_
  obtain ⟨z3, hf⟩ := mj_ck hf
  refine mj_iastr [(18, r18), (19, r19), (21, (upd r21 x1.toNatClampNeg x2)), (29, o2.1), (30, o2.2.1), (31, o2.2.2), (32, r32), (70, r70)] rfl s0_21 a0_21 z3 dX10_chance_61 ?_
  refine mj_aload_n 1 dX10_chance_62 rfl ?_
  refine mj_getP p0_1_5 (by decide) fl_X10_37 rfl s0_1 a0_1 dX10_chance_63 ?_
  obtain ⟨o4, ho4, hf⟩ := mj_bd hf
  refine mj_callVd (I2 := (mj_rows I [(18, r18), (19, r19), (21, (upd r21 x1.toNatClampNeg x2)), (29, o2.1), (30, o2.2.1), (31, o2.2.2), (32, o4), (70, r70)])) (L2 := L) (s1 := []) (st := []) [] (cmX4_forget X.2.1 G F  _ _ r32 rfl o4 ho4) (mj_rr rfl) rfl cw_X10_101 s0_32 a0_32 (by decide) rfl rfl (Nat.le_of_ble_eq_true rfl) (mj_rxc hR ⟨by decide, by decide⟩) dX10_chance_66 rfl ?_
  refine mj_iload_n 0 dX10_chance_69 rfl ?_
  obtain rfl := Option.some.inj hf
  have hZ := mj_el hq
  replace hZ := mj_u2p hZ
  replace hZ := mj_u2p hZ
  replace hZ := mj_u2p hZ
  replace hZ := mj_u2p hZ
  replace hZ := mj_u2p hZ
  replace hZ := mj_u2p hZ
  exact mj_iretx hR ⟨by decide, by decide⟩ rfl rfl dX10_chance_70 hZ
set_option maxRecDepth 100000 in
set_option maxHeartbeats 4000000 in
theorem mtX10_chance {X : mj_XT} {l : Launch} {G : mj_GT} {ad : Nat → Nat} {Qn : Option Value → mj_IT → mj_LT → Prop} {Qx : String → mj_IT → mj_LT → Prop} (hR : mj_Rx X l G mj_P0 mj_S0 98 ad 3 18 Qn Qx) (hlt : l.stackTraces = false) (F : Nat) (I : mj_IT) (L : mj_LT) (r18 : Nat → Int32) (r19 : Nat → Int32) (r21 : Nat → Int32) (r29 : Nat → Int32) (r30 : Nat → Int32) (r31 : Nat → Int32) (r32 : Nat → Int32) (r70 : Nat → Int32) (x1 : Int32) (x2 : Int32) (o : (((Int32) × (Nat → Int32) × (Nat → Int32) × (Nat → Int32) × (Nat → Int32) × (Nat → Int32) × (Nat → Int32)) ⊕ ((Nat) × (Nat → Int32) × (Nat → Int32) × (Nat → Int32) × (Nat → Int32) × (Nat → Int32) × (Nat → Int32)))) (hf : fnX10_chance F r18 r19 r21 r29 r30 r31 r32 r70 x1 x2 = some o) (hq : (Sum.elim (mj_u2 (fun ov => (mj_u2 (fun r21 => (mj_u2 (fun r29 => (mj_u2 (fun r30 => (mj_u2 (fun r31 => (mj_u2 (fun r32 r70 => Qn (some (.int ov)) (mj_rows I [(18, r18), (19, r19), (21, r21), (29, r29), (30, r30), (31, r31), (32, r32), (70, r70)]) L)))))))))))) (mj_u2 (fun kx => (mj_u2 (fun r21 => (mj_u2 (fun r29 => (mj_u2 (fun r30 => (mj_u2 (fun r31 => (mj_u2 (fun r32 r70 => Qx (mj_en kx) (mj_rows I [(18, r18), (19, r19), (21, r21), (29, r29), (30, r30), (31, r31), (32, r32), (70, r70)]) L))))))))))))) o) : mj_W X G RX10 "chance" cX10_chance 4 9 (some .int) mj_P0 mj_S0 98 ad 0 0 0 [(0, .ref 1), (1, .int x1), (2, .int x2)] [] (mj_rows I [(18, r18), (19, r19), (21, r21), (29, r29), (30, r30), (31, r31), (32, r32), (70, r70)]) L := by
  unfold fnX10_chance at hf
  refine mj_aload_n 0 dX10_chance_0 rfl ?_
  refine mj_iload_n 1 dX10_chance_1 rfl ?_
  obtain ⟨so5, ho5, hf⟩ := mj_bd hf
  refine mj_callVx (st := []) [.int x1] hR (cmX10_needStatement l G hlt F x1 _ _ r18 r70 rfl rfl so5 ho5) cw_X10_123 s0_1 a0_1 (by decide) rfl rfl (Nat.le_of_ble_eq_true rfl) ⟨by decide, by decide⟩ dX10_chance_2 (fun E I2 L2 hx => ?_) (fun rv I2 L2 hx => ?_)
  · obtain ⟨eo5, hf, hx⟩ := mj_sxr hf hx
    obtain rfl := Option.some.inj hf
    obtain ⟨hE9, hI9, hL9⟩ := hx
    rw [hE9, hI9, hL9]
    have hZ := mj_er hq
    replace hZ := mj_u2p hZ
    replace hZ := mj_u2p hZ
    replace hZ := mj_u2p hZ
    replace hZ := mj_u2p hZ
    replace hZ := mj_u2p hZ
    replace hZ := mj_u2p hZ
    rw [mj_rr (l' := [(18, r18), (19, r19), (21, r21), (29, r29), (30, r30), (31, r31), (32, r32), (70, eo5.2)]) rfl]
    exact hZ
  · obtain ⟨o5, hf, hx⟩ := mj_sxl hf hx
    obtain ⟨hr9, hI9, hL9⟩ := hx
    refine mj_cnv (s1 := []) (I2 := (mj_rows I [(18, r18), (19, r19), (21, r21), (29, r29), (30, r30), (31, r31), (32, r32), (70, o5)])) (L2 := L) (by rw [hr9]; rfl) (hI9.trans (mj_rr rfl)) hL9 ?_
    refine mj_aload_n 0 dX10_chance_5 rfl ?_
    refine mj_iload_n 2 dX10_chance_6 rfl ?_
    refine mj_iconst dX10_chance_7 kc_iconst_0 ?_
    refine mj_bipush dX10_chance_8 kc_bipush_60 ?_
    obtain ⟨so6, ho6, hf⟩ := mj_bd hf
    refine mj_callVx (st := []) [.int x2, .int (0 : Int32), .int (60 : Int32)] hR (cmX10_needNumber l G hlt F x2 (0 : Int32) (60 : Int32) _ _ o5 rfl so6 ho6) cw_X10_80 s0_1 a0_1 (by decide) rfl rfl (Nat.le_of_ble_eq_true rfl) ⟨by decide, by decide⟩ dX10_chance_10 (fun E I2 L2 hx => ?_) (fun rv I2 L2 hx => ?_)
    · obtain ⟨eo6, hf, hx⟩ := mj_sxr hf hx
      obtain rfl := Option.some.inj hf
      obtain ⟨hE9, hI9, hL9⟩ := hx
      rw [hE9, hI9, hL9]
      have hZ := mj_er hq
      replace hZ := mj_u2p hZ
      replace hZ := mj_u2p hZ
      replace hZ := mj_u2p hZ
      replace hZ := mj_u2p hZ
      replace hZ := mj_u2p hZ
      replace hZ := mj_u2p hZ
      rw [mj_rr (l' := [(18, r18), (19, r19), (21, r21), (29, r29), (30, r30), (31, r31), (32, r32), (70, eo6.2)]) rfl]
      exact hZ
    · obtain ⟨o6, hf, hx⟩ := mj_sxl hf hx
      obtain ⟨hr9, hI9, hL9⟩ := hx
      refine mj_cnv (s1 := []) (I2 := (mj_rows I [(18, r18), (19, r19), (21, r21), (29, r29), (30, r30), (31, r31), (32, r32), (70, o6)])) (L2 := L) (by rw [hr9]; rfl) (hI9.trans (mj_rr rfl)) hL9 ?_
      refine mj_aload_n 0 dX10_chance_13 rfl ?_
      refine mj_getP p0_1_2 (by decide) fl_X10_23 rfl s0_1 a0_1 dX10_chance_14 ?_
      refine mj_getP p0_18_1 (by decide) fl_X10_126 rfl s0_18 a0_18 dX10_chance_17 ?_
      refine mj_iload_n 1 dX10_chance_20 rfl ?_
      obtain ⟨z7, hf⟩ := mj_ck hf
      refine mj_ialdv (x := r19) rfl s0_19 a0_19 z7 dX10_chance_21 ?_
      refine mj_iconst dX10_chance_22 kc_iconst_2 ?_
      refine mj_icmp_eq 30 dX10_chance_23 (by decide) (fun c8 => ?_) (fun c8 => ?_)
      · replace hf := mj_pos c8 hf
        refine mj_wid (kc' := 3) (ks' := 18) (by decide) (by decide) ?_
        exact jtX10_chance_30 hR hlt F I L r18 r19 r21 r29 r30 r31 r32 o6 x1 x2 o hf hq
      · replace hf := mj_neg c8 hf
        refine mj_aload_n 0 dX10_chance_26 rfl ?_
        obtain ⟨so9, ho9, hf⟩ := mj_bd hf
        refine mj_callVx (st := []) [] hR (cmX10_refuseArgument l G hlt F  _ _ o6 rfl so9 ho9) cw_X10_129 s0_1 a0_1 (by decide) rfl rfl (Nat.le_of_ble_eq_true rfl) ⟨by decide, by decide⟩ dX10_chance_27 (fun E I2 L2 hx => ?_) (fun rv I2 L2 hx => ?_)
        · obtain ⟨eo9, hf, hx⟩ := mj_sxr hf hx
          obtain rfl := Option.some.inj hf
          obtain ⟨hE9, hI9, hL9⟩ := hx
          rw [hE9, hI9, hL9]
          have hZ := mj_er hq
          replace hZ := mj_u2p hZ
          replace hZ := mj_u2p hZ
          replace hZ := mj_u2p hZ
          replace hZ := mj_u2p hZ
          replace hZ := mj_u2p hZ
          replace hZ := mj_u2p hZ
          rw [mj_rr (l' := [(18, r18), (19, r19), (21, r21), (29, r29), (30, r30), (31, r31), (32, r32), (70, eo9.2)]) rfl]
          exact hZ
        · obtain ⟨o9, hf, hx⟩ := mj_sxl hf hx
          obtain ⟨hr9, hI9, hL9⟩ := hx
          refine mj_cnv (s1 := []) (I2 := (mj_rows I [(18, r18), (19, r19), (21, r21), (29, r29), (30, r30), (31, r31), (32, r32), (70, o9)])) (L2 := L) (by rw [hr9]; rfl) (hI9.trans (mj_rr rfl)) hL9 ?_
          exact jtX10_chance_30 hR hlt F I L r18 r19 r21 r29 r30 r31 r32 o9 x1 x2 o hf hq
set_option maxRecDepth 100000 in
set_option maxHeartbeats 4000000 in
theorem cmX10_chance (l : Launch) (G : mj_GT) (hlt : l.stackTraces = false) (F : Nat) (x1 : Int32) (x2 : Int32) (I : mj_IT) (L : mj_LT) (r18 : Nat → Int32) (r19 : Nat → Int32) (r21 : Nat → Int32) (r29 : Nat → Int32) (r30 : Nat → Int32) (r31 : Nat → Int32) (r32 : Nat → Int32) (r70 : Nat → Int32) (hr18 : I 18 = r18) (hr19 : I 19 = r19) (hr21 : I 21 = r21) (hr29 : I 29 = r29) (hr30 : I 30 = r30) (hr31 : I 31 = r31) (hr32 : I 32 = r32) (hr70 : I 70 = r70) (o : (((Int32) × (Nat → Int32) × (Nat → Int32) × (Nat → Int32) × (Nat → Int32) × (Nat → Int32) × (Nat → Int32)) ⊕ ((Nat) × (Nat → Int32) × (Nat → Int32) × (Nat → Int32) × (Nat → Int32) × (Nat → Int32) × (Nat → Int32)))) (hf : fnX10_chance F r18 r19 r21 r29 r30 r31 r32 r70 x1 x2 = some o) : mj_Mx l G yX10_chance cX10_chance 4 9 (some .int) 3 18 mj_P0 mj_S0 98 [.ref 1, .int x1, .int x2] I L (fun rv I2 L2 => Sum.elim (fun o => rv = (some (.int o.1)) ∧ I2 = (mj_rows I [(18, r18), (19, r19), (21, o.2.1), (29, o.2.2.1), (30, o.2.2.2.1), (31, o.2.2.2.2.1), (32, o.2.2.2.2.2.1), (70, o.2.2.2.2.2.2)]) ∧ L2 = L) (fun _ => False) o) (fun E I2 L2 => Sum.elim (fun _ => False) (fun o => E = mj_en o.1 ∧ I2 = (mj_rows I [(18, r18), (19, r19), (21, o.2.1), (29, o.2.2.1), (30, o.2.2.2.1), (31, o.2.2.2.2.1), (32, o.2.2.2.2.2.1), (70, o.2.2.2.2.2.2)]) ∧ L2 = L) o) := by
  refine mj_inx RX10 "chance" [(0, .ref 1), (1, .int x1), (2, .int x2)] rfl rfl rfl (by decide) (Nat.le_of_ble_eq_true rfl) (fun X ad hR => ?_)
  refine mj_toI [(18, r18), (19, r19), (21, r21), (29, r29), (30, r30), (31, r31), (32, r32), (70, r70)] (by intro q hq; simp only [List.mem_cons, List.not_mem_nil, or_false] at hq; rcases hq with rfl | rfl | rfl | rfl | rfl | rfl | rfl | rfl <;> assumption) ?_
  refine mtX10_chance hR hlt F I L r18 r19 r21 r29 r30 r31 r32 r70 x1 x2 o hf ?_
  rcases o with o | o
  · refine mj_elq ?_
    obtain ⟨w0, w1, w2, w3, w4, w5, w6⟩ := o
    refine mj_u2q ?_
    refine mj_u2q ?_
    refine mj_u2q ?_
    refine mj_u2q ?_
    refine mj_u2q ?_
    refine mj_u2q ?_
    refine mj_elq ?_
    exact ⟨rfl, rfl, rfl⟩
  · refine mj_erq ?_
    obtain ⟨w0, w1, w2, w3, w4, w5, w6⟩ := o
    refine mj_u2q ?_
    refine mj_u2q ?_
    refine mj_u2q ?_
    refine mj_u2q ?_
    refine mj_u2q ?_
    refine mj_u2q ?_
    refine mj_erq ?_
    exact ⟨rfl, rfl, rfl⟩

-- X10_undo
def fnX10_undo (F : Nat) (r1 : Nat → Int32) (r21 : Nat → Int32) (r29 : Nat → Int32) (r30 : Nat → Int32) (r31 : Nat → Int32) (r32 : Nat → Int32) : Option ((Int32) × (Nat → Int32) × (Nat → Int32) × (Nat → Int32) × (Nat → Int32)) := (if (r29 0) = 0 then some ((-1 : Int32), r1, r21, r29, r32) else (fnX0_latestWhere F r29 r30).bind (fun o2 => (fnX0_latestWas F r29 r31).bind (fun o3 => (fnX0_drop F r29).bind (fun o4 => (if (6 : Int32) ≤ o2 then (if (40 : Int32) ≤ (o2 - (6 : Int32)) then (fnX4_forget F r32).bind (fun o7 => some ((o4 0), r1, r21, o4, o7)) else (if mj_ib (o2 - (6 : Int32)) 40 = true then (fnX4_forget F r32).bind (fun o9 => some ((o4 0), r1, (upd r21 ((o2 - (6 : Int32)).toNatClampNeg) o3), o4, o9)) else none)) else (fnX1_put F (r1 3) o2 o3).bind (fun o10 => (fnX4_forget F r32).bind (fun o11 => some ((o4 0), (upd r1 3 o10), r21, o4, o11))))))))
set_option maxRecDepth 100000 in
set_option maxHeartbeats 4000000 in
theorem mtX10_undo {X : mj_XT} {l : Launch} {G : mj_GT} {ad : Nat → Nat} {Qn : Option Value → mj_IT → mj_LT → Prop} (hR : mj_R X l G mj_P0 mj_S0 98 ad 0 0 Qn) (F : Nat) (I : mj_IT) (L : mj_LT) (r1 : Nat → Int32) (r21 : Nat → Int32) (r29 : Nat → Int32) (r30 : Nat → Int32) (r31 : Nat → Int32) (r32 : Nat → Int32) (o : ((Int32) × (Nat → Int32) × (Nat → Int32) × (Nat → Int32) × (Nat → Int32))) (hf : fnX10_undo F r1 r21 r29 r30 r31 r32 = some o) (hq : (mj_u2 (fun ov => (mj_u2 (fun r1 => (mj_u2 (fun r21 => (mj_u2 (fun r29 r32 => Qn (some (.int ov)) (mj_rows I [(1, r1), (21, r21), (29, r29), (30, r30), (31, r31), (32, r32)]) L)))))))) o) : mj_W X G RX10 "undo" cX10_undo 3 3 (some .int) mj_P0 mj_S0 98 ad 0 0 0 [(0, .ref 1)] [] (mj_rows I [(1, r1), (21, r21), (29, r29), (30, r30), (31, r31), (32, r32)]) L := by
  unfold fnX10_undo at hf
  refine mj_aload_n 0 dX10_undo_0 rfl ?_
  refine mj_getP p0_1_4 (by decide) fl_X10_30 rfl s0_1 a0_1 dX10_undo_1 ?_
  refine mj_getIv (v := (r29 0)) rfl fl_X10_135 rfl s0_29 a0_29 dX10_undo_4 ?_
  refine mj_if_ne 12 dX10_undo_7 (by decide) (fun c1 => ?_) (fun c1 => ?_)
  · replace hf := mj_neg c1 hf
    refine mj_aload_n 0 dX10_undo_12 rfl ?_
    refine mj_getP p0_1_4 (by decide) fl_X10_30 rfl s0_1 a0_1 dX10_undo_13 ?_
    obtain ⟨o2, ho2, hf⟩ := mj_bd hf
    refine mj_callVd (I2 := (mj_rows I [(1, r1), (21, r21), (29, r29), (30, r30), (31, r31), (32, r32)])) (L2 := L) (s1 := [.int o2]) (st := []) [] (cmX0_latestWhere X.2.1 G F  _ _ r29 r30 rfl rfl o2 ho2) (mj_rr rfl) rfl cw_X10_136 s0_29 a0_29 (by decide) rfl rfl (Nat.le_of_ble_eq_true rfl) ⟨Nat.zero_le _, Nat.zero_le _⟩ dX10_undo_16 rfl ?_
    refine mj_istore_n [(1, .int o2), (0, .ref 1)] dX10_undo_19 rfl (by decide) rfl ?_
    refine mj_aload_n 1 dX10_undo_20 rfl ?_
    refine mj_getP p0_1_4 (by decide) fl_X10_30 rfl s0_1 a0_1 dX10_undo_21 ?_
    obtain ⟨o3, ho3, hf⟩ := mj_bd hf
    refine mj_callVd (I2 := (mj_rows I [(1, r1), (21, r21), (29, r29), (30, r30), (31, r31), (32, r32)])) (L2 := L) (s1 := [.int o3]) (st := []) [] (cmX0_latestWas X.2.1 G F  _ _ r29 r31 rfl rfl o3 ho3) (mj_rr rfl) rfl cw_X10_139 s0_29 a0_29 (by decide) rfl rfl (Nat.le_of_ble_eq_true rfl) ⟨Nat.zero_le _, Nat.zero_le _⟩ dX10_undo_24 rfl ?_
    refine mj_istore_n [(2, .int o3), (1, .int o2), (0, .ref 1)] dX10_undo_27 rfl (by decide) rfl ?_
    refine mj_aload_n 2 dX10_undo_28 rfl ?_
    refine mj_getP p0_1_4 (by decide) fl_X10_30 rfl s0_1 a0_1 dX10_undo_29 ?_
    obtain ⟨o4, ho4, hf⟩ := mj_bd hf
    refine mj_callVd (I2 := (mj_rows I [(1, r1), (21, r21), (29, o4), (30, r30), (31, r31), (32, r32)])) (L2 := L) (s1 := []) (st := []) [] (cmX0_drop X.2.1 G F  _ _ r29 rfl o4 ho4) (mj_rr rfl) rfl cw_X10_142 s0_29 a0_29 (by decide) rfl rfl (Nat.le_of_ble_eq_true rfl) ⟨Nat.zero_le _, Nat.zero_le _⟩ dX10_undo_32 rfl ?_
    refine mj_iload_n 1 dX10_undo_35 rfl ?_
    refine mj_bipush dX10_undo_36 kc_bipush_6 ?_
    refine mj_icmp_ge 57 dX10_undo_38 (by decide) (fun c5 => ?_) (fun c5 => ?_)
    · replace hf := mj_pos c5 hf
      refine mj_iload_n 1 dX10_undo_57 rfl ?_
      refine mj_bipush dX10_undo_58 kc_bipush_6 ?_
      refine mj_isub dX10_undo_60 ?_
      refine mj_bipush dX10_undo_61 kc_bipush_40 ?_
      refine mj_icmp_ge 79 dX10_undo_63 (by decide) (fun c6 => ?_) (fun c6 => ?_)
      · replace hf := mj_pos c6 hf
        refine mj_aload_n 2 dX10_undo_79 rfl ?_
        refine mj_getP p0_1_5 (by decide) fl_X10_37 rfl s0_1 a0_1 dX10_undo_80 ?_
        obtain ⟨o7, ho7, hf⟩ := mj_bd hf
        refine mj_callVd (I2 := (mj_rows I [(1, r1), (21, r21), (29, o4), (30, r30), (31, r31), (32, o7)])) (L2 := L) (s1 := []) (st := []) [] (cmX4_forget X.2.1 G F  _ _ r32 rfl o7 ho7) (mj_rr rfl) rfl cw_X10_101 s0_32 a0_32 (by decide) rfl rfl (Nat.le_of_ble_eq_true rfl) ⟨Nat.zero_le _, Nat.zero_le _⟩ dX10_undo_83 rfl ?_
        refine mj_aload_n 2 dX10_undo_86 rfl ?_
        refine mj_getP p0_1_4 (by decide) fl_X10_30 rfl s0_1 a0_1 dX10_undo_87 ?_
        refine mj_getIv (v := (o4 0)) rfl fl_X10_135 rfl s0_29 a0_29 dX10_undo_90 ?_
        obtain rfl := Option.some.inj hf
        have hZ := hq
        replace hZ := mj_u2p hZ
        replace hZ := mj_u2p hZ
        replace hZ := mj_u2p hZ
        replace hZ := mj_u2p hZ
        exact mj_iret hR ⟨Nat.le_refl _, Nat.le_refl _⟩ rfl rfl dX10_undo_93 hZ
      · replace hf := mj_neg c6 hf
        refine mj_aload_n 2 dX10_undo_66 rfl ?_
        refine mj_getP p0_1_2 (by decide) fl_X10_23 rfl s0_1 a0_1 dX10_undo_67 ?_
        refine mj_getP p0_18_3 (by decide) fl_X10_132 rfl s0_18 a0_18 dX10_undo_70 ?_
        refine mj_iload_n 1 dX10_undo_73 rfl ?_
        refine mj_bipush dX10_undo_74 kc_bipush_6 ?_
        refine mj_isub dX10_undo_76 ?_
        refine mj_iload_n 0 dX10_undo_77 rfl ?_
        obtain ⟨z8, hf⟩ := mj_ck hf
        refine mj_iastr [(1, r1), (21, (upd r21 ((o2 - (6 : Int32)).toNatClampNeg) o3)), (29, o4), (30, r30), (31, r31), (32, r32)] rfl s0_21 a0_21 z8 dX10_undo_78 ?_
        refine mj_aload_n 2 dX10_undo_79 rfl ?_
        refine mj_getP p0_1_5 (by decide) fl_X10_37 rfl s0_1 a0_1 dX10_undo_80 ?_
        obtain ⟨o9, ho9, hf⟩ := mj_bd hf
        refine mj_callVd (I2 := (mj_rows I [(1, r1), (21, (upd r21 ((o2 - (6 : Int32)).toNatClampNeg) o3)), (29, o4), (30, r30), (31, r31), (32, o9)])) (L2 := L) (s1 := []) (st := []) [] (cmX4_forget X.2.1 G F  _ _ r32 rfl o9 ho9) (mj_rr rfl) rfl cw_X10_101 s0_32 a0_32 (by decide) rfl rfl (Nat.le_of_ble_eq_true rfl) ⟨Nat.zero_le _, Nat.zero_le _⟩ dX10_undo_83 rfl ?_
        refine mj_aload_n 2 dX10_undo_86 rfl ?_
        refine mj_getP p0_1_4 (by decide) fl_X10_30 rfl s0_1 a0_1 dX10_undo_87 ?_
        refine mj_getIv (v := (o4 0)) rfl fl_X10_135 rfl s0_29 a0_29 dX10_undo_90 ?_
        obtain rfl := Option.some.inj hf
        have hZ := hq
        replace hZ := mj_u2p hZ
        replace hZ := mj_u2p hZ
        replace hZ := mj_u2p hZ
        replace hZ := mj_u2p hZ
        exact mj_iret hR ⟨Nat.le_refl _, Nat.le_refl _⟩ rfl rfl dX10_undo_93 hZ
    · replace hf := mj_neg c5 hf
      refine mj_aload_n 2 dX10_undo_41 rfl ?_
      refine mj_aload_n 2 dX10_undo_42 rfl ?_
      refine mj_getIv (v := (r1 3)) rfl fl_X10_95 rfl s0_1 a0_1 dX10_undo_43 ?_
      refine mj_iload_n 1 dX10_undo_46 rfl ?_
      refine mj_iload_n 0 dX10_undo_47 rfl ?_
      obtain ⟨o10, ho10, hf⟩ := mj_bd hf
      refine mj_callSd (I2 := (mj_rows I [(1, r1), (21, r21), (29, o4), (30, r30), (31, r31), (32, r32)])) (L2 := L) (s1 := [.int o10, .ref 1]) (st := [.ref 1]) [.int (r1 3), .int o2, .int o3] (cmX1_put X.2.1 G F (r1 3) o2 o3 _ _   o10 ho10) rfl rfl cw_X10_120 (by decide) rfl rfl (Nat.le_of_ble_eq_true rfl) ⟨Nat.zero_le _, Nat.zero_le _⟩ dX10_undo_48 rfl ?_
      refine mj_putIr (ci := 8) (j := 3) [(1, (upd r1 3 o10)), (21, r21), (29, o4), (30, r30), (31, r31), (32, r32)] rfl ⟨rfl, rfl⟩ fl_X10_95 rfl rfl s0_1 a0_1 dX10_undo_51 ?_
      refine mj_goto 79 dX10_undo_54 (by decide) ?_
      refine mj_aload_n 2 dX10_undo_79 rfl ?_
      refine mj_getP p0_1_5 (by decide) fl_X10_37 rfl s0_1 a0_1 dX10_undo_80 ?_
      obtain ⟨o11, ho11, hf⟩ := mj_bd hf
      refine mj_callVd (I2 := (mj_rows I [(1, (upd r1 3 o10)), (21, r21), (29, o4), (30, r30), (31, r31), (32, o11)])) (L2 := L) (s1 := []) (st := []) [] (cmX4_forget X.2.1 G F  _ _ r32 rfl o11 ho11) (mj_rr rfl) rfl cw_X10_101 s0_32 a0_32 (by decide) rfl rfl (Nat.le_of_ble_eq_true rfl) ⟨Nat.zero_le _, Nat.zero_le _⟩ dX10_undo_83 rfl ?_
      refine mj_aload_n 2 dX10_undo_86 rfl ?_
      refine mj_getP p0_1_4 (by decide) fl_X10_30 rfl s0_1 a0_1 dX10_undo_87 ?_
      refine mj_getIv (v := (o4 0)) rfl fl_X10_135 rfl s0_29 a0_29 dX10_undo_90 ?_
      obtain rfl := Option.some.inj hf
      have hZ := hq
      replace hZ := mj_u2p hZ
      replace hZ := mj_u2p hZ
      replace hZ := mj_u2p hZ
      replace hZ := mj_u2p hZ
      exact mj_iret hR ⟨Nat.le_refl _, Nat.le_refl _⟩ rfl rfl dX10_undo_93 hZ
  · replace hf := mj_pos c1 hf
    refine mj_iconst dX10_undo_10 kc_iconst_m1 ?_
    obtain rfl := Option.some.inj hf
    have hZ := hq
    replace hZ := mj_u2p hZ
    replace hZ := mj_u2p hZ
    replace hZ := mj_u2p hZ
    replace hZ := mj_u2p hZ
    exact mj_iret hR ⟨Nat.le_refl _, Nat.le_refl _⟩ rfl rfl dX10_undo_11 hZ
set_option maxRecDepth 100000 in
set_option maxHeartbeats 4000000 in
theorem cmX10_undo (l : Launch) (G : mj_GT) (F : Nat) (I : mj_IT) (L : mj_LT) (r1 : Nat → Int32) (r21 : Nat → Int32) (r29 : Nat → Int32) (r30 : Nat → Int32) (r31 : Nat → Int32) (r32 : Nat → Int32) (hr1 : I 1 = r1) (hr21 : I 21 = r21) (hr29 : I 29 = r29) (hr30 : I 30 = r30) (hr31 : I 31 = r31) (hr32 : I 32 = r32) (o : ((Int32) × (Nat → Int32) × (Nat → Int32) × (Nat → Int32) × (Nat → Int32))) (hf : fnX10_undo F r1 r21 r29 r30 r31 r32 = some o) : mj_M l G yX10_undo cX10_undo 3 3 (some .int) 0 0 mj_P0 mj_S0 98 [.ref 1] I L (mj_qd (some (.int o.1)) (mj_rows I [(1, o.2.1), (21, o.2.2.1), (29, o.2.2.2.1), (30, r30), (31, r31), (32, o.2.2.2.2)]) L) := by
  refine mj_in RX10 "undo" [(0, .ref 1)] rfl rfl rfl (by decide) (Nat.le_of_ble_eq_true rfl) (fun X ad hR => ?_)
  refine mj_toI [(1, r1), (21, r21), (29, r29), (30, r30), (31, r31), (32, r32)] (by intro q hq; simp only [List.mem_cons, List.not_mem_nil, or_false] at hq; rcases hq with rfl | rfl | rfl | rfl | rfl | rfl <;> assumption) ?_
  refine mtX10_undo hR F I L r1 r21 r29 r30 r31 r32 o hf ?_
  obtain ⟨w0, w1, w2, w3, w4⟩ := o
  refine mj_u2q ?_
  refine mj_u2q ?_
  refine mj_u2q ?_
  refine mj_u2q ?_
  exact ⟨rfl, rfl, rfl⟩

-- X10_told
def fnX10_told (F : Nat) (r1 : Nat → Int32) (r2 : Nat → Int32) (r18 : Nat → Int32) (r19 : Nat → Int32) (r20 : Nat → Int32) (r21 : Nat → Int32) (r22 : Nat → Int32) (r23 : Nat → Int32) (r24 : Nat → Int32) (r25 : Nat → Int32) (r26 : Nat → Int32) (r29 : Nat → Int32) (r32 : Nat → Int32) (r33 : Nat → Int32) (r34 : Nat → Int32) (r35 : Nat → Int32) (r36 : Nat → Int32) (r37 : Nat → Int32) (r38 : Nat → Int32) (r39 : Nat → Int32) (r40 : Nat → Int32) (r70 : Nat → Int32) (x1 : Int32) : Option (((Int32) × (Nat → Int32) × (Nat → Int32) × (Nat → Int32) × (Nat → Int32) × (Nat → Int32) × (Nat → Int32) × (Nat → Int32) × (Nat → Int32) × (Nat → Int32) × (Nat → Int32)) ⊕ ((Nat) × (Nat → Int32) × (Nat → Int32) × (Nat → Int32) × (Nat → Int32) × (Nat → Int32) × (Nat → Int32) × (Nat → Int32) × (Nat → Int32) × (Nat → Int32) × (Nat → Int32))) := (fnX10_needNumber F r70 x1 (0 : Int32) (7 : Int32)).bind (Sum.elim (fun o1 => (if x1 = 0 then some (.inl ((r18 0), r32, r33, r34, r35, r36, r37, r38, r39, r40, o1)) else (if x1 = (6 : Int32) then some (.inl ((r2 0), r32, r33, r34, r35, r36, r37, r38, r39, r40, o1)) else (if x1 = (7 : Int32) then some (.inl ((r29 0), r32, r33, r34, r35, r36, r37, r38, r39, r40, o1)) else (fnX4_explore F r18 r19 r20 r21 r22 r23 r24 r25 r26 r32 r33 r34 r35 r36 r37 r38 r39 r40 (r1 3)).bind (fun o5 => (if (o5.1 6) = 0 then (if x1 = (1 : Int32) then some (.inl ((o5.1 2), o5.1, o5.2.1, o5.2.2.1, o5.2.2.2.1, o5.2.2.2.2.1, o5.2.2.2.2.2.1, o5.2.2.2.2.2.2.1, o5.2.2.2.2.2.2.2.1, o5.2.2.2.2.2.2.2.2, o1)) else (if x1 = (2 : Int32) then some (.inl ((o5.1 4), o5.1, o5.2.1, o5.2.2.1, o5.2.2.2.1, o5.2.2.2.2.1, o5.2.2.2.2.2.1, o5.2.2.2.2.2.2.1, o5.2.2.2.2.2.2.2.1, o5.2.2.2.2.2.2.2.2, o1)) else (if x1 = (3 : Int32) then some (.inl ((o5.1 5), o5.1, o5.2.1, o5.2.2.1, o5.2.2.2.1, o5.2.2.2.2.1, o5.2.2.2.2.2.1, o5.2.2.2.2.2.2.1, o5.2.2.2.2.2.2.2.1, o5.2.2.2.2.2.2.2.2, o1)) else (if x1 = (4 : Int32) then some (.inl ((o5.1 3), o5.1, o5.2.1, o5.2.2.1, o5.2.2.2.1, o5.2.2.2.2.1, o5.2.2.2.2.2.1, o5.2.2.2.2.2.2.1, o5.2.2.2.2.2.2.2.1, o5.2.2.2.2.2.2.2.2, o1)) else (fnX4_greatestLevel F o5.1 o5.2.2.2.1).bind (fun o8 => some (.inl (o8, o5.1, o5.2.1, o5.2.2.1, o5.2.2.2.1, o5.2.2.2.2.1, o5.2.2.2.2.2.1, o5.2.2.2.2.2.2.1, o5.2.2.2.2.2.2.2.1, o5.2.2.2.2.2.2.2.2, o1))))))) else some (.inl ((-1 : Int32), o5.1, o5.2.1, o5.2.2.1, o5.2.2.2.1, o5.2.2.2.2.1, o5.2.2.2.2.2.1, o5.2.2.2.2.2.2.1, o5.2.2.2.2.2.2.2.1, o5.2.2.2.2.2.2.2.2, o1)))))))) (fun eo1 => some (.inr (eo1.1, r32, r33, r34, r35, r36, r37, r38, r39, r40, eo1.2))))
set_option maxRecDepth 100000 in
set_option maxHeartbeats 4000000 in
theorem mtX10_told {X : mj_XT} {l : Launch} {G : mj_GT} {ad : Nat → Nat} {Qn : Option Value → mj_IT → mj_LT → Prop} {Qx : String → mj_IT → mj_LT → Prop} (hR : mj_Rx X l G mj_P0 mj_S0 98 ad 1 6 Qn Qx) (hlt : l.stackTraces = false) (F : Nat) (I : mj_IT) (L : mj_LT) (r1 : Nat → Int32) (r2 : Nat → Int32) (r18 : Nat → Int32) (r19 : Nat → Int32) (r20 : Nat → Int32) (r21 : Nat → Int32) (r22 : Nat → Int32) (r23 : Nat → Int32) (r24 : Nat → Int32) (r25 : Nat → Int32) (r26 : Nat → Int32) (r29 : Nat → Int32) (r32 : Nat → Int32) (r33 : Nat → Int32) (r34 : Nat → Int32) (r35 : Nat → Int32) (r36 : Nat → Int32) (r37 : Nat → Int32) (r38 : Nat → Int32) (r39 : Nat → Int32) (r40 : Nat → Int32) (r70 : Nat → Int32) (x1 : Int32) (o : (((Int32) × (Nat → Int32) × (Nat → Int32) × (Nat → Int32) × (Nat → Int32) × (Nat → Int32) × (Nat → Int32) × (Nat → Int32) × (Nat → Int32) × (Nat → Int32) × (Nat → Int32)) ⊕ ((Nat) × (Nat → Int32) × (Nat → Int32) × (Nat → Int32) × (Nat → Int32) × (Nat → Int32) × (Nat → Int32) × (Nat → Int32) × (Nat → Int32) × (Nat → Int32) × (Nat → Int32)))) (hf : fnX10_told F r1 r2 r18 r19 r20 r21 r22 r23 r24 r25 r26 r29 r32 r33 r34 r35 r36 r37 r38 r39 r40 r70 x1 = some o) (hq : (Sum.elim (mj_u2 (fun ov => (mj_u2 (fun r32 => (mj_u2 (fun r33 => (mj_u2 (fun r34 => (mj_u2 (fun r35 => (mj_u2 (fun r36 => (mj_u2 (fun r37 => (mj_u2 (fun r38 => (mj_u2 (fun r39 => (mj_u2 (fun r40 r70 => Qn (some (.int ov)) (mj_rows I [(1, r1), (2, r2), (18, r18), (19, r19), (20, r20), (21, r21), (22, r22), (23, r23), (24, r24), (25, r25), (26, r26), (29, r29), (32, r32), (33, r33), (34, r34), (35, r35), (36, r36), (37, r37), (38, r38), (39, r39), (40, r40), (70, r70)]) L)))))))))))))))))))) (mj_u2 (fun kx => (mj_u2 (fun r32 => (mj_u2 (fun r33 => (mj_u2 (fun r34 => (mj_u2 (fun r35 => (mj_u2 (fun r36 => (mj_u2 (fun r37 => (mj_u2 (fun r38 => (mj_u2 (fun r39 => (mj_u2 (fun r40 r70 => Qx (mj_en kx) (mj_rows I [(1, r1), (2, r2), (18, r18), (19, r19), (20, r20), (21, r21), (22, r22), (23, r23), (24, r24), (25, r25), (26, r26), (29, r29), (32, r32), (33, r33), (34, r34), (35, r35), (36, r36), (37, r37), (38, r38), (39, r39), (40, r40), (70, r70)]) L))))))))))))))))))))) o) : mj_W X G RX10 "told" cX10_told 2 9 (some .int) mj_P0 mj_S0 98 ad 0 0 0 [(0, .ref 1), (1, .int x1)] [] (mj_rows I [(1, r1), (2, r2), (18, r18), (19, r19), (20, r20), (21, r21), (22, r22), (23, r23), (24, r24), (25, r25), (26, r26), (29, r29), (32, r32), (33, r33), (34, r34), (35, r35), (36, r36), (37, r37), (38, r38), (39, r39), (40, r40), (70, r70)]) L := by
  unfold fnX10_told at hf
  refine mj_aload_n 0 dX10_told_0 rfl ?_
  refine mj_iload_n 1 dX10_told_1 rfl ?_
  refine mj_iconst dX10_told_2 kc_iconst_0 ?_
  refine mj_bipush dX10_told_3 kc_bipush_7 ?_
  obtain ⟨so1, ho1, hf⟩ := mj_bd hf
  refine mj_callVx (st := []) [.int x1, .int (0 : Int32), .int (7 : Int32)] hR (cmX10_needNumber l G hlt F x1 (0 : Int32) (7 : Int32) _ _ r70 rfl so1 ho1) cw_X10_80 s0_1 a0_1 (by decide) rfl rfl (Nat.le_of_ble_eq_true rfl) ⟨by decide, by decide⟩ dX10_told_5 (fun E I2 L2 hx => ?_) (fun rv I2 L2 hx => ?_)
  · obtain ⟨eo1, hf, hx⟩ := mj_sxr hf hx
    obtain rfl := Option.some.inj hf
    obtain ⟨hE9, hI9, hL9⟩ := hx
    rw [hE9, hI9, hL9]
    have hZ := mj_er hq
    replace hZ := mj_u2p hZ
    replace hZ := mj_u2p hZ
    replace hZ := mj_u2p hZ
    replace hZ := mj_u2p hZ
    replace hZ := mj_u2p hZ
    replace hZ := mj_u2p hZ
    replace hZ := mj_u2p hZ
    replace hZ := mj_u2p hZ
    replace hZ := mj_u2p hZ
    replace hZ := mj_u2p hZ
    rw [mj_rr (l' := [(1, r1), (2, r2), (18, r18), (19, r19), (20, r20), (21, r21), (22, r22), (23, r23), (24, r24), (25, r25), (26, r26), (29, r29), (32, r32), (33, r33), (34, r34), (35, r35), (36, r36), (37, r37), (38, r38), (39, r39), (40, r40), (70, eo1.2)]) rfl]
    exact hZ
  · obtain ⟨o1, hf, hx⟩ := mj_sxl hf hx
    obtain ⟨hr9, hI9, hL9⟩ := hx
    refine mj_cnv (s1 := []) (I2 := (mj_rows I [(1, r1), (2, r2), (18, r18), (19, r19), (20, r20), (21, r21), (22, r22), (23, r23), (24, r24), (25, r25), (26, r26), (29, r29), (32, r32), (33, r33), (34, r34), (35, r35), (36, r36), (37, r37), (38, r38), (39, r39), (40, r40), (70, o1)])) (L2 := L) (by rw [hr9]; rfl) (hI9.trans (mj_rr rfl)) hL9 ?_
    refine mj_iload_n 1 dX10_told_8 rfl ?_
    refine mj_if_ne 20 dX10_told_9 (by decide) (fun c2 => ?_) (fun c2 => ?_)
    · replace hf := mj_neg c2 hf
      refine mj_iload_n 1 dX10_told_20 rfl ?_
      refine mj_bipush dX10_told_21 kc_bipush_6 ?_
      refine mj_icmp_ne 34 dX10_told_23 (by decide) (fun c3 => ?_) (fun c3 => ?_)
      · replace hf := mj_neg c3 hf
        refine mj_iload_n 1 dX10_told_34 rfl ?_
        refine mj_bipush dX10_told_35 kc_bipush_7 ?_
        refine mj_icmp_ne 48 dX10_told_37 (by decide) (fun c4 => ?_) (fun c4 => ?_)
        · replace hf := mj_neg c4 hf
          refine mj_aload_n 0 dX10_told_48 rfl ?_
          refine mj_getP p0_1_5 (by decide) fl_X10_37 rfl s0_1 a0_1 dX10_told_49 ?_
          refine mj_aload_n 0 dX10_told_52 rfl ?_
          refine mj_getP p0_1_2 (by decide) fl_X10_23 rfl s0_1 a0_1 dX10_told_53 ?_
          refine mj_aload_n 0 dX10_told_56 rfl ?_
          refine mj_getIv (v := (r1 3)) rfl fl_X10_95 rfl s0_1 a0_1 dX10_told_57 ?_
          obtain ⟨o5, ho5, hf⟩ := mj_bd hf
          refine mj_callVd (I2 := (mj_rows I [(1, r1), (2, r2), (18, r18), (19, r19), (20, r20), (21, r21), (22, r22), (23, r23), (24, r24), (25, r25), (26, r26), (29, r29), (32, o5.1), (33, o5.2.1), (34, o5.2.2.1), (35, o5.2.2.2.1), (36, o5.2.2.2.2.1), (37, o5.2.2.2.2.2.1), (38, o5.2.2.2.2.2.2.1), (39, o5.2.2.2.2.2.2.2.1), (40, o5.2.2.2.2.2.2.2.2), (70, o1)])) (L2 := L) (s1 := []) (st := []) [.ref 18, .int (r1 3)] (cmX4_explore X.2.1 G F (r1 3) _ _ r18 r19 r20 r21 r22 r23 r24 r25 r26 r32 r33 r34 r35 r36 r37 r38 r39 r40 rfl rfl rfl rfl rfl rfl rfl rfl rfl rfl rfl rfl rfl rfl rfl rfl rfl rfl o5 ho5) (mj_rr rfl) rfl cw_X10_145 s0_32 a0_32 (by decide) rfl rfl (Nat.le_of_ble_eq_true rfl) (mj_rxc hR ⟨by decide, by decide⟩) dX10_told_60 rfl ?_
          refine mj_aload_n 0 dX10_told_63 rfl ?_
          refine mj_getP p0_1_5 (by decide) fl_X10_37 rfl s0_1 a0_1 dX10_told_64 ?_
          refine mj_getIv (v := (o5.1 6)) rfl fl_X10_149 rfl s0_32 a0_32 dX10_told_67 ?_
          refine mj_if_eq 75 dX10_told_70 (by decide) (fun c6 => ?_) (fun c6 => ?_)
          · replace hf := mj_pos c6 hf
            refine mj_iload_n 1 dX10_told_75 rfl ?_
            by_cases c7_0 : x1 = (1 : Int32)
            · replace hf := mj_pos c7_0 hf
              refine mj_tsI (off := 32) 108 c7_0 dX10_told_76 (by decide) (by decide) (by decide) (by decide) ?_
              refine mj_aload_n 0 dX10_told_108 rfl ?_
              refine mj_getP p0_1_5 (by decide) fl_X10_37 rfl s0_1 a0_1 dX10_told_109 ?_
              refine mj_getIv (v := (o5.1 2)) rfl fl_X10_153 rfl s0_32 a0_32 dX10_told_112 ?_
              obtain rfl := Option.some.inj hf
              have hZ := mj_el hq
              replace hZ := mj_u2p hZ
              replace hZ := mj_u2p hZ
              replace hZ := mj_u2p hZ
              replace hZ := mj_u2p hZ
              replace hZ := mj_u2p hZ
              replace hZ := mj_u2p hZ
              replace hZ := mj_u2p hZ
              replace hZ := mj_u2p hZ
              replace hZ := mj_u2p hZ
              replace hZ := mj_u2p hZ
              exact mj_iretx hR ⟨by decide, by decide⟩ rfl rfl dX10_told_115 hZ
            · replace hf := mj_neg c7_0 hf
              by_cases c7_1 : x1 = (2 : Int32)
              · replace hf := mj_pos c7_1 hf
                refine mj_tsI (off := 40) 116 c7_1 dX10_told_76 (by decide) (by decide) (by decide) (by decide) ?_
                refine mj_aload_n 0 dX10_told_116 rfl ?_
                refine mj_getP p0_1_5 (by decide) fl_X10_37 rfl s0_1 a0_1 dX10_told_117 ?_
                refine mj_getIv (v := (o5.1 4)) rfl fl_X10_154 rfl s0_32 a0_32 dX10_told_120 ?_
                obtain rfl := Option.some.inj hf
                have hZ := mj_el hq
                replace hZ := mj_u2p hZ
                replace hZ := mj_u2p hZ
                replace hZ := mj_u2p hZ
                replace hZ := mj_u2p hZ
                replace hZ := mj_u2p hZ
                replace hZ := mj_u2p hZ
                replace hZ := mj_u2p hZ
                replace hZ := mj_u2p hZ
                replace hZ := mj_u2p hZ
                replace hZ := mj_u2p hZ
                exact mj_iretx hR ⟨by decide, by decide⟩ rfl rfl dX10_told_123 hZ
              · replace hf := mj_neg c7_1 hf
                by_cases c7_2 : x1 = (3 : Int32)
                · replace hf := mj_pos c7_2 hf
                  refine mj_tsI (off := 48) 124 c7_2 dX10_told_76 (by decide) (by decide) (by decide) (by decide) ?_
                  refine mj_aload_n 0 dX10_told_124 rfl ?_
                  refine mj_getP p0_1_5 (by decide) fl_X10_37 rfl s0_1 a0_1 dX10_told_125 ?_
                  refine mj_getIv (v := (o5.1 5)) rfl fl_X10_157 rfl s0_32 a0_32 dX10_told_128 ?_
                  obtain rfl := Option.some.inj hf
                  have hZ := mj_el hq
                  replace hZ := mj_u2p hZ
                  replace hZ := mj_u2p hZ
                  replace hZ := mj_u2p hZ
                  replace hZ := mj_u2p hZ
                  replace hZ := mj_u2p hZ
                  replace hZ := mj_u2p hZ
                  replace hZ := mj_u2p hZ
                  replace hZ := mj_u2p hZ
                  replace hZ := mj_u2p hZ
                  replace hZ := mj_u2p hZ
                  exact mj_iretx hR ⟨by decide, by decide⟩ rfl rfl dX10_told_131 hZ
                · replace hf := mj_neg c7_2 hf
                  by_cases c7_3 : x1 = (4 : Int32)
                  · replace hf := mj_pos c7_3 hf
                    refine mj_tsI (off := 56) 132 c7_3 dX10_told_76 (by decide) (by decide) (by decide) (by decide) ?_
                    refine mj_aload_n 0 dX10_told_132 rfl ?_
                    refine mj_getP p0_1_5 (by decide) fl_X10_37 rfl s0_1 a0_1 dX10_told_133 ?_
                    refine mj_getIv (v := (o5.1 3)) rfl fl_X10_160 rfl s0_32 a0_32 dX10_told_136 ?_
                    obtain rfl := Option.some.inj hf
                    have hZ := mj_el hq
                    replace hZ := mj_u2p hZ
                    replace hZ := mj_u2p hZ
                    replace hZ := mj_u2p hZ
                    replace hZ := mj_u2p hZ
                    replace hZ := mj_u2p hZ
                    replace hZ := mj_u2p hZ
                    replace hZ := mj_u2p hZ
                    replace hZ := mj_u2p hZ
                    replace hZ := mj_u2p hZ
                    replace hZ := mj_u2p hZ
                    exact mj_iretx hR ⟨by decide, by decide⟩ rfl rfl dX10_told_139 hZ
                  · replace hf := mj_neg c7_3 hf
                    refine mj_tsO 140 (ts_1_4 _ c7_0 c7_1 c7_2 c7_3) dX10_told_76 (by decide) ?_
                    refine mj_aload_n 0 dX10_told_140 rfl ?_
                    refine mj_getP p0_1_5 (by decide) fl_X10_37 rfl s0_1 a0_1 dX10_told_141 ?_
                    obtain ⟨o8, ho8, hf⟩ := mj_bd hf
                    refine mj_callVd (I2 := (mj_rows I [(1, r1), (2, r2), (18, r18), (19, r19), (20, r20), (21, r21), (22, r22), (23, r23), (24, r24), (25, r25), (26, r26), (29, r29), (32, o5.1), (33, o5.2.1), (34, o5.2.2.1), (35, o5.2.2.2.1), (36, o5.2.2.2.2.1), (37, o5.2.2.2.2.2.1), (38, o5.2.2.2.2.2.2.1), (39, o5.2.2.2.2.2.2.2.1), (40, o5.2.2.2.2.2.2.2.2), (70, o1)])) (L2 := L) (s1 := [.int o8]) (st := []) [] (cmX4_greatestLevel X.2.1 G F  _ _ o5.1 o5.2.2.2.1 rfl rfl o8 ho8) (mj_rr rfl) rfl cw_X10_163 s0_32 a0_32 (by decide) rfl rfl (Nat.le_of_ble_eq_true rfl) (mj_rxc hR ⟨by decide, by decide⟩) dX10_told_144 rfl ?_
                    obtain rfl := Option.some.inj hf
                    have hZ := mj_el hq
                    replace hZ := mj_u2p hZ
                    replace hZ := mj_u2p hZ
                    replace hZ := mj_u2p hZ
                    replace hZ := mj_u2p hZ
                    replace hZ := mj_u2p hZ
                    replace hZ := mj_u2p hZ
                    replace hZ := mj_u2p hZ
                    replace hZ := mj_u2p hZ
                    replace hZ := mj_u2p hZ
                    replace hZ := mj_u2p hZ
                    exact mj_iretx hR ⟨by decide, by decide⟩ rfl rfl dX10_told_147 hZ
          · replace hf := mj_neg c6 hf
            refine mj_iconst dX10_told_73 kc_iconst_m1 ?_
            obtain rfl := Option.some.inj hf
            have hZ := mj_el hq
            replace hZ := mj_u2p hZ
            replace hZ := mj_u2p hZ
            replace hZ := mj_u2p hZ
            replace hZ := mj_u2p hZ
            replace hZ := mj_u2p hZ
            replace hZ := mj_u2p hZ
            replace hZ := mj_u2p hZ
            replace hZ := mj_u2p hZ
            replace hZ := mj_u2p hZ
            replace hZ := mj_u2p hZ
            exact mj_iretx hR ⟨by decide, by decide⟩ rfl rfl dX10_told_74 hZ
        · replace hf := mj_pos c4 hf
          refine mj_aload_n 0 dX10_told_40 rfl ?_
          refine mj_getP p0_1_4 (by decide) fl_X10_30 rfl s0_1 a0_1 dX10_told_41 ?_
          refine mj_getIv (v := (r29 0)) rfl fl_X10_135 rfl s0_29 a0_29 dX10_told_44 ?_
          obtain rfl := Option.some.inj hf
          have hZ := mj_el hq
          replace hZ := mj_u2p hZ
          replace hZ := mj_u2p hZ
          replace hZ := mj_u2p hZ
          replace hZ := mj_u2p hZ
          replace hZ := mj_u2p hZ
          replace hZ := mj_u2p hZ
          replace hZ := mj_u2p hZ
          replace hZ := mj_u2p hZ
          replace hZ := mj_u2p hZ
          replace hZ := mj_u2p hZ
          exact mj_iretx hR ⟨by decide, by decide⟩ rfl rfl dX10_told_47 hZ
      · replace hf := mj_pos c3 hf
        refine mj_aload_n 0 dX10_told_26 rfl ?_
        refine mj_getP p0_1_0 (by decide) fl_X10_10 rfl s0_1 a0_1 dX10_told_27 ?_
        refine mj_getIv (v := (r2 0)) rfl fl_X10_73 rfl s0_2 a0_2 dX10_told_30 ?_
        obtain rfl := Option.some.inj hf
        have hZ := mj_el hq
        replace hZ := mj_u2p hZ
        replace hZ := mj_u2p hZ
        replace hZ := mj_u2p hZ
        replace hZ := mj_u2p hZ
        replace hZ := mj_u2p hZ
        replace hZ := mj_u2p hZ
        replace hZ := mj_u2p hZ
        replace hZ := mj_u2p hZ
        replace hZ := mj_u2p hZ
        replace hZ := mj_u2p hZ
        exact mj_iretx hR ⟨by decide, by decide⟩ rfl rfl dX10_told_33 hZ
    · replace hf := mj_pos c2 hf
      refine mj_aload_n 0 dX10_told_12 rfl ?_
      refine mj_getP p0_1_2 (by decide) fl_X10_23 rfl s0_1 a0_1 dX10_told_13 ?_
      refine mj_getIv (v := (r18 0)) rfl fl_X10_104 rfl s0_18 a0_18 dX10_told_16 ?_
      obtain rfl := Option.some.inj hf
      have hZ := mj_el hq
      replace hZ := mj_u2p hZ
      replace hZ := mj_u2p hZ
      replace hZ := mj_u2p hZ
      replace hZ := mj_u2p hZ
      replace hZ := mj_u2p hZ
      replace hZ := mj_u2p hZ
      replace hZ := mj_u2p hZ
      replace hZ := mj_u2p hZ
      replace hZ := mj_u2p hZ
      replace hZ := mj_u2p hZ
      exact mj_iretx hR ⟨by decide, by decide⟩ rfl rfl dX10_told_19 hZ
set_option maxRecDepth 100000 in
set_option maxHeartbeats 4000000 in
theorem cmX10_told (l : Launch) (G : mj_GT) (hlt : l.stackTraces = false) (F : Nat) (x1 : Int32) (I : mj_IT) (L : mj_LT) (r1 : Nat → Int32) (r2 : Nat → Int32) (r18 : Nat → Int32) (r19 : Nat → Int32) (r20 : Nat → Int32) (r21 : Nat → Int32) (r22 : Nat → Int32) (r23 : Nat → Int32) (r24 : Nat → Int32) (r25 : Nat → Int32) (r26 : Nat → Int32) (r29 : Nat → Int32) (r32 : Nat → Int32) (r33 : Nat → Int32) (r34 : Nat → Int32) (r35 : Nat → Int32) (r36 : Nat → Int32) (r37 : Nat → Int32) (r38 : Nat → Int32) (r39 : Nat → Int32) (r40 : Nat → Int32) (r70 : Nat → Int32) (hr1 : I 1 = r1) (hr2 : I 2 = r2) (hr18 : I 18 = r18) (hr19 : I 19 = r19) (hr20 : I 20 = r20) (hr21 : I 21 = r21) (hr22 : I 22 = r22) (hr23 : I 23 = r23) (hr24 : I 24 = r24) (hr25 : I 25 = r25) (hr26 : I 26 = r26) (hr29 : I 29 = r29) (hr32 : I 32 = r32) (hr33 : I 33 = r33) (hr34 : I 34 = r34) (hr35 : I 35 = r35) (hr36 : I 36 = r36) (hr37 : I 37 = r37) (hr38 : I 38 = r38) (hr39 : I 39 = r39) (hr40 : I 40 = r40) (hr70 : I 70 = r70) (o : (((Int32) × (Nat → Int32) × (Nat → Int32) × (Nat → Int32) × (Nat → Int32) × (Nat → Int32) × (Nat → Int32) × (Nat → Int32) × (Nat → Int32) × (Nat → Int32) × (Nat → Int32)) ⊕ ((Nat) × (Nat → Int32) × (Nat → Int32) × (Nat → Int32) × (Nat → Int32) × (Nat → Int32) × (Nat → Int32) × (Nat → Int32) × (Nat → Int32) × (Nat → Int32) × (Nat → Int32)))) (hf : fnX10_told F r1 r2 r18 r19 r20 r21 r22 r23 r24 r25 r26 r29 r32 r33 r34 r35 r36 r37 r38 r39 r40 r70 x1 = some o) : mj_Mx l G yX10_told cX10_told 2 9 (some .int) 1 6 mj_P0 mj_S0 98 [.ref 1, .int x1] I L (fun rv I2 L2 => Sum.elim (fun o => rv = (some (.int o.1)) ∧ I2 = (mj_rows I [(1, r1), (2, r2), (18, r18), (19, r19), (20, r20), (21, r21), (22, r22), (23, r23), (24, r24), (25, r25), (26, r26), (29, r29), (32, o.2.1), (33, o.2.2.1), (34, o.2.2.2.1), (35, o.2.2.2.2.1), (36, o.2.2.2.2.2.1), (37, o.2.2.2.2.2.2.1), (38, o.2.2.2.2.2.2.2.1), (39, o.2.2.2.2.2.2.2.2.1), (40, o.2.2.2.2.2.2.2.2.2.1), (70, o.2.2.2.2.2.2.2.2.2.2)]) ∧ L2 = L) (fun _ => False) o) (fun E I2 L2 => Sum.elim (fun _ => False) (fun o => E = mj_en o.1 ∧ I2 = (mj_rows I [(1, r1), (2, r2), (18, r18), (19, r19), (20, r20), (21, r21), (22, r22), (23, r23), (24, r24), (25, r25), (26, r26), (29, r29), (32, o.2.1), (33, o.2.2.1), (34, o.2.2.2.1), (35, o.2.2.2.2.1), (36, o.2.2.2.2.2.1), (37, o.2.2.2.2.2.2.1), (38, o.2.2.2.2.2.2.2.1), (39, o.2.2.2.2.2.2.2.2.1), (40, o.2.2.2.2.2.2.2.2.2.1), (70, o.2.2.2.2.2.2.2.2.2.2)]) ∧ L2 = L) o) := by
  refine mj_inx RX10 "told" [(0, .ref 1), (1, .int x1)] rfl rfl rfl (by decide) (Nat.le_of_ble_eq_true rfl) (fun X ad hR => ?_)
  refine mj_toI [(1, r1), (2, r2), (18, r18), (19, r19), (20, r20), (21, r21), (22, r22), (23, r23), (24, r24), (25, r25), (26, r26), (29, r29), (32, r32), (33, r33), (34, r34), (35, r35), (36, r36), (37, r37), (38, r38), (39, r39), (40, r40), (70, r70)] (by intro q hq; simp only [List.mem_cons, List.not_mem_nil, or_false] at hq; rcases hq with rfl | rfl | rfl | rfl | rfl | rfl | rfl | rfl | rfl | rfl | rfl | rfl | rfl | rfl | rfl | rfl | rfl | rfl | rfl | rfl | rfl | rfl <;> assumption) ?_
  refine mtX10_told hR hlt F I L r1 r2 r18 r19 r20 r21 r22 r23 r24 r25 r26 r29 r32 r33 r34 r35 r36 r37 r38 r39 r40 r70 x1 o hf ?_
  rcases o with o | o
  · refine mj_elq ?_
    obtain ⟨w0, w1, w2, w3, w4, w5, w6, w7, w8, w9, w10⟩ := o
    refine mj_u2q ?_
    refine mj_u2q ?_
    refine mj_u2q ?_
    refine mj_u2q ?_
    refine mj_u2q ?_
    refine mj_u2q ?_
    refine mj_u2q ?_
    refine mj_u2q ?_
    refine mj_u2q ?_
    refine mj_u2q ?_
    refine mj_elq ?_
    exact ⟨rfl, rfl, rfl⟩
  · refine mj_erq ?_
    obtain ⟨w0, w1, w2, w3, w4, w5, w6, w7, w8, w9, w10⟩ := o
    refine mj_u2q ?_
    refine mj_u2q ?_
    refine mj_u2q ?_
    refine mj_u2q ?_
    refine mj_u2q ?_
    refine mj_u2q ?_
    refine mj_u2q ?_
    refine mj_u2q ?_
    refine mj_u2q ?_
    refine mj_u2q ?_
    refine mj_erq ?_
    exact ⟨rfl, rfl, rfl⟩

-- X10_statement
def fnX10_statement (F : Nat) (r18 : Nat → Int32) (r19 : Nat → Int32) (r20 : Nat → Int32) (r21 : Nat → Int32) (r25 : Nat → Int32) (r26 : Nat → Int32) (r70 : Nat → Int32) (x1 : Int32) (x2 : Int32) : Option (((Int32) × (Nat → Int32)) ⊕ ((Nat) × (Nat → Int32))) := (fnX10_needStatement F r18 r70 x1).bind (Sum.elim (fun o1 => (fnX10_needNumber F o1 x2 (0 : Int32) (4 : Int32)).bind (Sum.elim (fun o2 => (if mj_ib x1 40 = true then (if x2 = (0 : Int32) then some (.inl ((r19 x1.toNatClampNeg), o2)) else (if x2 = (1 : Int32) then (if (r19 x1.toNatClampNeg) = 0 then (if mj_ib x1 40 = true then some (.inl ((r20 x1.toNatClampNeg), o2)) else none) else (if (r19 x1.toNatClampNeg) = (1 : Int32) then (if mj_ib x1 40 = true then some (.inl ((r20 x1.toNatClampNeg), o2)) else none) else some (.inl ((-1 : Int32), o2)))) else (if x2 = (2 : Int32) then (if (r19 x1.toNatClampNeg) = (1 : Int32) then (if mj_ib x1 40 = true then some (.inl ((r21 x1.toNatClampNeg), o2)) else none) else (if (r19 x1.toNatClampNeg) = (2 : Int32) then (if mj_ib x1 40 = true then some (.inl ((r21 x1.toNatClampNeg), o2)) else none) else some (.inl ((-1 : Int32), o2)))) else (if x2 = (3 : Int32) then (if mj_ib x1 40 = true then some (.inl ((r25 x1.toNatClampNeg), o2)) else none) else (if mj_ib x1 40 = true then some (.inl ((r26 x1.toNatClampNeg), o2)) else none))))) else none)) (fun eo2 => some (.inr (eo2.1, eo2.2))))) (fun eo1 => some (.inr (eo1.1, eo1.2))))
set_option maxRecDepth 100000 in
set_option maxHeartbeats 4000000 in
theorem mtX10_statement {X : mj_XT} {l : Launch} {G : mj_GT} {ad : Nat → Nat} {Qn : Option Value → mj_IT → mj_LT → Prop} {Qx : String → mj_IT → mj_LT → Prop} (hR : mj_Rx X l G mj_P0 mj_S0 98 ad 2 12 Qn Qx) (hlt : l.stackTraces = false) (F : Nat) (I : mj_IT) (L : mj_LT) (r18 : Nat → Int32) (r19 : Nat → Int32) (r20 : Nat → Int32) (r21 : Nat → Int32) (r25 : Nat → Int32) (r26 : Nat → Int32) (r70 : Nat → Int32) (x1 : Int32) (x2 : Int32) (o : (((Int32) × (Nat → Int32)) ⊕ ((Nat) × (Nat → Int32)))) (hf : fnX10_statement F r18 r19 r20 r21 r25 r26 r70 x1 x2 = some o) (hq : (Sum.elim (mj_u2 (fun ov r70 => Qn (some (.int ov)) (mj_rows I [(18, r18), (19, r19), (20, r20), (21, r21), (25, r25), (26, r26), (70, r70)]) L)) (mj_u2 (fun kx r70 => Qx (mj_en kx) (mj_rows I [(18, r18), (19, r19), (20, r20), (21, r21), (25, r25), (26, r26), (70, r70)]) L))) o) : mj_W X G RX10 "statement" cX10_statement 4 9 (some .int) mj_P0 mj_S0 98 ad 0 0 0 [(0, .ref 1), (1, .int x1), (2, .int x2)] [] (mj_rows I [(18, r18), (19, r19), (20, r20), (21, r21), (25, r25), (26, r26), (70, r70)]) L := by
  unfold fnX10_statement at hf
  refine mj_aload_n 0 dX10_statement_0 rfl ?_
  refine mj_iload_n 1 dX10_statement_1 rfl ?_
  obtain ⟨so1, ho1, hf⟩ := mj_bd hf
  refine mj_callVx (st := []) [.int x1] hR (cmX10_needStatement l G hlt F x1 _ _ r18 r70 rfl rfl so1 ho1) cw_X10_123 s0_1 a0_1 (by decide) rfl rfl (Nat.le_of_ble_eq_true rfl) ⟨by decide, by decide⟩ dX10_statement_2 (fun E I2 L2 hx => ?_) (fun rv I2 L2 hx => ?_)
  · obtain ⟨eo1, hf, hx⟩ := mj_sxr hf hx
    obtain rfl := Option.some.inj hf
    obtain ⟨hE9, hI9, hL9⟩ := hx
    rw [hE9, hI9, hL9]
    have hZ := mj_er hq
    replace hZ := mj_u2p hZ
    rw [mj_rr (l' := [(18, r18), (19, r19), (20, r20), (21, r21), (25, r25), (26, r26), (70, eo1.2)]) rfl]
    exact hZ
  · obtain ⟨o1, hf, hx⟩ := mj_sxl hf hx
    obtain ⟨hr9, hI9, hL9⟩ := hx
    refine mj_cnv (s1 := []) (I2 := (mj_rows I [(18, r18), (19, r19), (20, r20), (21, r21), (25, r25), (26, r26), (70, o1)])) (L2 := L) (by rw [hr9]; rfl) (hI9.trans (mj_rr rfl)) hL9 ?_
    refine mj_aload_n 0 dX10_statement_5 rfl ?_
    refine mj_iload_n 2 dX10_statement_6 rfl ?_
    refine mj_iconst dX10_statement_7 kc_iconst_0 ?_
    refine mj_iconst dX10_statement_8 kc_iconst_4 ?_
    obtain ⟨so2, ho2, hf⟩ := mj_bd hf
    refine mj_callVx (st := []) [.int x2, .int (0 : Int32), .int (4 : Int32)] hR (cmX10_needNumber l G hlt F x2 (0 : Int32) (4 : Int32) _ _ o1 rfl so2 ho2) cw_X10_80 s0_1 a0_1 (by decide) rfl rfl (Nat.le_of_ble_eq_true rfl) ⟨by decide, by decide⟩ dX10_statement_9 (fun E I2 L2 hx => ?_) (fun rv I2 L2 hx => ?_)
    · obtain ⟨eo2, hf, hx⟩ := mj_sxr hf hx
      obtain rfl := Option.some.inj hf
      obtain ⟨hE9, hI9, hL9⟩ := hx
      rw [hE9, hI9, hL9]
      have hZ := mj_er hq
      replace hZ := mj_u2p hZ
      rw [mj_rr (l' := [(18, r18), (19, r19), (20, r20), (21, r21), (25, r25), (26, r26), (70, eo2.2)]) rfl]
      exact hZ
    · obtain ⟨o2, hf, hx⟩ := mj_sxl hf hx
      obtain ⟨hr9, hI9, hL9⟩ := hx
      refine mj_cnv (s1 := []) (I2 := (mj_rows I [(18, r18), (19, r19), (20, r20), (21, r21), (25, r25), (26, r26), (70, o2)])) (L2 := L) (by rw [hr9]; rfl) (hI9.trans (mj_rr rfl)) hL9 ?_
      refine mj_aload_n 0 dX10_statement_12 rfl ?_
      refine mj_getP p0_1_2 (by decide) fl_X10_23 rfl s0_1 a0_1 dX10_statement_13 ?_
      refine mj_getP p0_18_1 (by decide) fl_X10_126 rfl s0_18 a0_18 dX10_statement_16 ?_
      refine mj_iload_n 1 dX10_statement_19 rfl ?_
      obtain ⟨z3, hf⟩ := mj_ck hf
      refine mj_ialdv (x := r19) rfl s0_19 a0_19 z3 dX10_statement_20 ?_
      refine mj_istore_n [(3, .int (r19 x1.toNatClampNeg)), (0, .ref 1), (1, .int x1), (2, .int x2)] dX10_statement_21 rfl (by decide) rfl ?_
      refine mj_iload_n 3 dX10_statement_22 rfl ?_
      by_cases c4_0 : x2 = (0 : Int32)
      · replace hf := mj_pos c4_0 hf
        refine mj_tsI (off := 29) 52 c4_0 dX10_statement_23 (by decide) (by decide) (by decide) (by decide) ?_
        refine mj_iload_n 0 dX10_statement_52 rfl ?_
        obtain rfl := Option.some.inj hf
        have hZ := mj_el hq
        replace hZ := mj_u2p hZ
        exact mj_iretx hR ⟨by decide, by decide⟩ rfl rfl dX10_statement_53 hZ
      · replace hf := mj_neg c4_0 hf
        by_cases c4_1 : x2 = (1 : Int32)
        · replace hf := mj_pos c4_1 hf
          refine mj_tsI (off := 31) 54 c4_1 dX10_statement_23 (by decide) (by decide) (by decide) (by decide) ?_
          refine mj_iload_n 0 dX10_statement_54 rfl ?_
          refine mj_if_eq 63 dX10_statement_55 (by decide) (fun c5 => ?_) (fun c5 => ?_)
          · replace hf := mj_pos c5 hf
            refine mj_aload_n 1 dX10_statement_63 rfl ?_
            refine mj_getP p0_1_2 (by decide) fl_X10_23 rfl s0_1 a0_1 dX10_statement_64 ?_
            refine mj_getP p0_18_2 (by decide) fl_X10_166 rfl s0_18 a0_18 dX10_statement_67 ?_
            refine mj_iload_n 2 dX10_statement_70 rfl ?_
            obtain ⟨z6, hf⟩ := mj_ck hf
            refine mj_ialdv (x := r20) rfl s0_20 a0_20 z6 dX10_statement_71 ?_
            refine mj_goto 76 dX10_statement_72 (by decide) ?_
            obtain rfl := Option.some.inj hf
            have hZ := mj_el hq
            replace hZ := mj_u2p hZ
            exact mj_iretx hR ⟨by decide, by decide⟩ rfl rfl dX10_statement_76 hZ
          · replace hf := mj_neg c5 hf
            refine mj_iload_n 0 dX10_statement_58 rfl ?_
            refine mj_iconst dX10_statement_59 kc_iconst_1 ?_
            refine mj_icmp_ne 75 dX10_statement_60 (by decide) (fun c7 => ?_) (fun c7 => ?_)
            · replace hf := mj_neg c7 hf
              refine mj_iconst dX10_statement_75 kc_iconst_m1 ?_
              obtain rfl := Option.some.inj hf
              have hZ := mj_el hq
              replace hZ := mj_u2p hZ
              exact mj_iretx hR ⟨by decide, by decide⟩ rfl rfl dX10_statement_76 hZ
            · replace hf := mj_pos c7 hf
              refine mj_aload_n 1 dX10_statement_63 rfl ?_
              refine mj_getP p0_1_2 (by decide) fl_X10_23 rfl s0_1 a0_1 dX10_statement_64 ?_
              refine mj_getP p0_18_2 (by decide) fl_X10_166 rfl s0_18 a0_18 dX10_statement_67 ?_
              refine mj_iload_n 2 dX10_statement_70 rfl ?_
              obtain ⟨z8, hf⟩ := mj_ck hf
              refine mj_ialdv (x := r20) rfl s0_20 a0_20 z8 dX10_statement_71 ?_
              refine mj_goto 76 dX10_statement_72 (by decide) ?_
              obtain rfl := Option.some.inj hf
              have hZ := mj_el hq
              replace hZ := mj_u2p hZ
              exact mj_iretx hR ⟨by decide, by decide⟩ rfl rfl dX10_statement_76 hZ
        · replace hf := mj_neg c4_1 hf
          by_cases c4_2 : x2 = (2 : Int32)
          · replace hf := mj_pos c4_2 hf
            refine mj_tsI (off := 54) 77 c4_2 dX10_statement_23 (by decide) (by decide) (by decide) (by decide) ?_
            refine mj_iload_n 0 dX10_statement_77 rfl ?_
            refine mj_iconst dX10_statement_78 kc_iconst_1 ?_
            refine mj_icmp_eq 87 dX10_statement_79 (by decide) (fun c9 => ?_) (fun c9 => ?_)
            · replace hf := mj_pos c9 hf
              refine mj_aload_n 1 dX10_statement_87 rfl ?_
              refine mj_getP p0_1_2 (by decide) fl_X10_23 rfl s0_1 a0_1 dX10_statement_88 ?_
              refine mj_getP p0_18_3 (by decide) fl_X10_132 rfl s0_18 a0_18 dX10_statement_91 ?_
              refine mj_iload_n 2 dX10_statement_94 rfl ?_
              obtain ⟨z10, hf⟩ := mj_ck hf
              refine mj_ialdv (x := r21) rfl s0_21 a0_21 z10 dX10_statement_95 ?_
              refine mj_goto 100 dX10_statement_96 (by decide) ?_
              obtain rfl := Option.some.inj hf
              have hZ := mj_el hq
              replace hZ := mj_u2p hZ
              exact mj_iretx hR ⟨by decide, by decide⟩ rfl rfl dX10_statement_100 hZ
            · replace hf := mj_neg c9 hf
              refine mj_iload_n 0 dX10_statement_82 rfl ?_
              refine mj_iconst dX10_statement_83 kc_iconst_2 ?_
              refine mj_icmp_ne 99 dX10_statement_84 (by decide) (fun c11 => ?_) (fun c11 => ?_)
              · replace hf := mj_neg c11 hf
                refine mj_iconst dX10_statement_99 kc_iconst_m1 ?_
                obtain rfl := Option.some.inj hf
                have hZ := mj_el hq
                replace hZ := mj_u2p hZ
                exact mj_iretx hR ⟨by decide, by decide⟩ rfl rfl dX10_statement_100 hZ
              · replace hf := mj_pos c11 hf
                refine mj_aload_n 1 dX10_statement_87 rfl ?_
                refine mj_getP p0_1_2 (by decide) fl_X10_23 rfl s0_1 a0_1 dX10_statement_88 ?_
                refine mj_getP p0_18_3 (by decide) fl_X10_132 rfl s0_18 a0_18 dX10_statement_91 ?_
                refine mj_iload_n 2 dX10_statement_94 rfl ?_
                obtain ⟨z12, hf⟩ := mj_ck hf
                refine mj_ialdv (x := r21) rfl s0_21 a0_21 z12 dX10_statement_95 ?_
                refine mj_goto 100 dX10_statement_96 (by decide) ?_
                obtain rfl := Option.some.inj hf
                have hZ := mj_el hq
                replace hZ := mj_u2p hZ
                exact mj_iretx hR ⟨by decide, by decide⟩ rfl rfl dX10_statement_100 hZ
          · replace hf := mj_neg c4_2 hf
            by_cases c4_3 : x2 = (3 : Int32)
            · replace hf := mj_pos c4_3 hf
              refine mj_tsI (off := 78) 101 c4_3 dX10_statement_23 (by decide) (by decide) (by decide) (by decide) ?_
              refine mj_aload_n 1 dX10_statement_101 rfl ?_
              refine mj_getP p0_1_2 (by decide) fl_X10_23 rfl s0_1 a0_1 dX10_statement_102 ?_
              refine mj_getP p0_18_7 (by decide) fl_X10_169 rfl s0_18 a0_18 dX10_statement_105 ?_
              refine mj_iload_n 2 dX10_statement_108 rfl ?_
              obtain ⟨z13, hf⟩ := mj_ck hf
              refine mj_ialdv (x := r25) rfl s0_25 a0_25 z13 dX10_statement_109 ?_
              obtain rfl := Option.some.inj hf
              have hZ := mj_el hq
              replace hZ := mj_u2p hZ
              exact mj_iretx hR ⟨by decide, by decide⟩ rfl rfl dX10_statement_110 hZ
            · replace hf := mj_neg c4_3 hf
              refine mj_tsO 111 (ts_0_3 _ c4_0 c4_1 c4_2 c4_3) dX10_statement_23 (by decide) ?_
              refine mj_aload_n 1 dX10_statement_111 rfl ?_
              refine mj_getP p0_1_2 (by decide) fl_X10_23 rfl s0_1 a0_1 dX10_statement_112 ?_
              refine mj_getP p0_18_8 (by decide) fl_X10_172 rfl s0_18 a0_18 dX10_statement_115 ?_
              refine mj_iload_n 2 dX10_statement_118 rfl ?_
              obtain ⟨z14, hf⟩ := mj_ck hf
              refine mj_ialdv (x := r26) rfl s0_26 a0_26 z14 dX10_statement_119 ?_
              obtain rfl := Option.some.inj hf
              have hZ := mj_el hq
              replace hZ := mj_u2p hZ
              exact mj_iretx hR ⟨by decide, by decide⟩ rfl rfl dX10_statement_120 hZ
set_option maxRecDepth 100000 in
set_option maxHeartbeats 4000000 in
theorem cmX10_statement (l : Launch) (G : mj_GT) (hlt : l.stackTraces = false) (F : Nat) (x1 : Int32) (x2 : Int32) (I : mj_IT) (L : mj_LT) (r18 : Nat → Int32) (r19 : Nat → Int32) (r20 : Nat → Int32) (r21 : Nat → Int32) (r25 : Nat → Int32) (r26 : Nat → Int32) (r70 : Nat → Int32) (hr18 : I 18 = r18) (hr19 : I 19 = r19) (hr20 : I 20 = r20) (hr21 : I 21 = r21) (hr25 : I 25 = r25) (hr26 : I 26 = r26) (hr70 : I 70 = r70) (o : (((Int32) × (Nat → Int32)) ⊕ ((Nat) × (Nat → Int32)))) (hf : fnX10_statement F r18 r19 r20 r21 r25 r26 r70 x1 x2 = some o) : mj_Mx l G yX10_statement cX10_statement 4 9 (some .int) 2 12 mj_P0 mj_S0 98 [.ref 1, .int x1, .int x2] I L (fun rv I2 L2 => Sum.elim (fun o => rv = (some (.int o.1)) ∧ I2 = (mj_rows I [(18, r18), (19, r19), (20, r20), (21, r21), (25, r25), (26, r26), (70, o.2)]) ∧ L2 = L) (fun _ => False) o) (fun E I2 L2 => Sum.elim (fun _ => False) (fun o => E = mj_en o.1 ∧ I2 = (mj_rows I [(18, r18), (19, r19), (20, r20), (21, r21), (25, r25), (26, r26), (70, o.2)]) ∧ L2 = L) o) := by
  refine mj_inx RX10 "statement" [(0, .ref 1), (1, .int x1), (2, .int x2)] rfl rfl rfl (by decide) (Nat.le_of_ble_eq_true rfl) (fun X ad hR => ?_)
  refine mj_toI [(18, r18), (19, r19), (20, r20), (21, r21), (25, r25), (26, r26), (70, r70)] (by intro q hq; simp only [List.mem_cons, List.not_mem_nil, or_false] at hq; rcases hq with rfl | rfl | rfl | rfl | rfl | rfl | rfl <;> assumption) ?_
  refine mtX10_statement hR hlt F I L r18 r19 r20 r21 r25 r26 r70 x1 x2 o hf ?_
  rcases o with o | o
  · refine mj_elq ?_
    obtain ⟨w0, w1⟩ := o
    refine mj_u2q ?_
    refine mj_elq ?_
    exact ⟨rfl, rfl, rfl⟩
  · refine mj_erq ?_
    obtain ⟨w0, w1⟩ := o
    refine mj_u2q ?_
    refine mj_erq ?_
    exact ⟨rfl, rfl, rfl⟩

-- X10_firstOf
def fnX10_firstOf (F : Nat) (r1 : Nat → Int32) (r70 : Nat → Int32) (x1 : Int32) : Option (((Int32) × (Nat → Int32)) ⊕ ((Nat) × (Nat → Int32))) := (fnX10_needVariable F r70 x1).bind (Sum.elim (fun o1 => (fnX1_get F (r1 3) x1).bind (fun o2 => some (.inl (o2, o1)))) (fun eo1 => some (.inr (eo1.1, eo1.2))))
set_option maxRecDepth 100000 in
set_option maxHeartbeats 4000000 in
theorem mtX10_firstOf {X : mj_XT} {l : Launch} {G : mj_GT} {ad : Nat → Nat} {Qn : Option Value → mj_IT → mj_LT → Prop} {Qx : String → mj_IT → mj_LT → Prop} (hR : mj_Rx X l G mj_P0 mj_S0 98 ad 1 6 Qn Qx) (hlt : l.stackTraces = false) (F : Nat) (I : mj_IT) (L : mj_LT) (r1 : Nat → Int32) (r70 : Nat → Int32) (x1 : Int32) (o : (((Int32) × (Nat → Int32)) ⊕ ((Nat) × (Nat → Int32)))) (hf : fnX10_firstOf F r1 r70 x1 = some o) (hq : (Sum.elim (mj_u2 (fun ov r70 => Qn (some (.int ov)) (mj_rows I [(1, r1), (70, r70)]) L)) (mj_u2 (fun kx r70 => Qx (mj_en kx) (mj_rows I [(1, r1), (70, r70)]) L))) o) : mj_W X G RX10 "firstOf" cX10_firstOf 2 9 (some .int) mj_P0 mj_S0 98 ad 0 0 0 [(0, .ref 1), (1, .int x1)] [] (mj_rows I [(1, r1), (70, r70)]) L := by
  unfold fnX10_firstOf at hf
  refine mj_aload_n 0 dX10_firstOf_0 rfl ?_
  refine mj_iload_n 1 dX10_firstOf_1 rfl ?_
  obtain ⟨so1, ho1, hf⟩ := mj_bd hf
  refine mj_callVx (st := []) [.int x1] hR (cmX10_needVariable l G hlt F x1 _ _ r70 rfl so1 ho1) cw_X10_107 s0_1 a0_1 (by decide) rfl rfl (Nat.le_of_ble_eq_true rfl) ⟨by decide, by decide⟩ dX10_firstOf_2 (fun E I2 L2 hx => ?_) (fun rv I2 L2 hx => ?_)
  · obtain ⟨eo1, hf, hx⟩ := mj_sxr hf hx
    obtain rfl := Option.some.inj hf
    obtain ⟨hE9, hI9, hL9⟩ := hx
    rw [hE9, hI9, hL9]
    have hZ := mj_er hq
    replace hZ := mj_u2p hZ
    rw [mj_rr (l' := [(1, r1), (70, eo1.2)]) rfl]
    exact hZ
  · obtain ⟨o1, hf, hx⟩ := mj_sxl hf hx
    obtain ⟨hr9, hI9, hL9⟩ := hx
    refine mj_cnv (s1 := []) (I2 := (mj_rows I [(1, r1), (70, o1)])) (L2 := L) (by rw [hr9]; rfl) (hI9.trans (mj_rr rfl)) hL9 ?_
    refine mj_aload_n 0 dX10_firstOf_5 rfl ?_
    refine mj_getIv (v := (r1 3)) rfl fl_X10_95 rfl s0_1 a0_1 dX10_firstOf_6 ?_
    refine mj_iload_n 1 dX10_firstOf_9 rfl ?_
    obtain ⟨o2, ho2, hf⟩ := mj_bd hf
    refine mj_callSd (I2 := (mj_rows I [(1, r1), (70, o1)])) (L2 := L) (s1 := [.int o2]) (st := []) [.int (r1 3), .int x1] (cmX1_get X.2.1 G F (r1 3) x1 _ _   o2 ho2) rfl rfl cw_X10_110 (by decide) rfl rfl (Nat.le_of_ble_eq_true rfl) (mj_rxc hR ⟨by decide, by decide⟩) dX10_firstOf_10 rfl ?_
    obtain rfl := Option.some.inj hf
    have hZ := mj_el hq
    replace hZ := mj_u2p hZ
    exact mj_iretx hR ⟨by decide, by decide⟩ rfl rfl dX10_firstOf_13 hZ
set_option maxRecDepth 100000 in
set_option maxHeartbeats 4000000 in
theorem cmX10_firstOf (l : Launch) (G : mj_GT) (hlt : l.stackTraces = false) (F : Nat) (x1 : Int32) (I : mj_IT) (L : mj_LT) (r1 : Nat → Int32) (r70 : Nat → Int32) (hr1 : I 1 = r1) (hr70 : I 70 = r70) (o : (((Int32) × (Nat → Int32)) ⊕ ((Nat) × (Nat → Int32)))) (hf : fnX10_firstOf F r1 r70 x1 = some o) : mj_Mx l G yX10_firstOf cX10_firstOf 2 9 (some .int) 1 6 mj_P0 mj_S0 98 [.ref 1, .int x1] I L (fun rv I2 L2 => Sum.elim (fun o => rv = (some (.int o.1)) ∧ I2 = (mj_rows I [(1, r1), (70, o.2)]) ∧ L2 = L) (fun _ => False) o) (fun E I2 L2 => Sum.elim (fun _ => False) (fun o => E = mj_en o.1 ∧ I2 = (mj_rows I [(1, r1), (70, o.2)]) ∧ L2 = L) o) := by
  refine mj_inx RX10 "firstOf" [(0, .ref 1), (1, .int x1)] rfl rfl rfl (by decide) (Nat.le_of_ble_eq_true rfl) (fun X ad hR => ?_)
  refine mj_toI [(1, r1), (70, r70)] (by intro q hq; simp only [List.mem_cons, List.not_mem_nil, or_false] at hq; rcases hq with rfl | rfl <;> assumption) ?_
  refine mtX10_firstOf hR hlt F I L r1 r70 x1 o hf ?_
  rcases o with o | o
  · refine mj_elq ?_
    obtain ⟨w0, w1⟩ := o
    refine mj_u2q ?_
    refine mj_elq ?_
    exact ⟨rfl, rfl, rfl⟩
  · refine mj_erq ?_
    obtain ⟨w0, w1⟩ := o
    refine mj_u2q ?_
    refine mj_erq ?_
    exact ⟨rfl, rfl, rfl⟩

-- X10_refuseState
def fnX10_refuseState (F : Nat) (r70 : Nat → Int32) : Option (((Nat → Int32)) ⊕ ((Nat) × (Nat → Int32))) := (if mj_ib (2 : Int32) 3 = true then (if mj_ib (2 : Int32) 3 = true then some (.inr (2, (upd r70 ((2 : Int32).toNatClampNeg) ((r70 ((2 : Int32).toNatClampNeg)) + (1 : Int32))))) else none) else none)
set_option maxRecDepth 100000 in
set_option maxHeartbeats 4000000 in
theorem mtX10_refuseState {X : mj_XT} {l : Launch} {G : mj_GT} {ad : Nat → Nat} {Qn : Option Value → mj_IT → mj_LT → Prop} {Qx : String → mj_IT → mj_LT → Prop} (hR : mj_Rx X l G mj_P0 mj_S0 98 ad 1 6 Qn Qx) (hlt : l.stackTraces = false) (F : Nat) (I : mj_IT) (L : mj_LT) (r70 : Nat → Int32) (o : (((Nat → Int32)) ⊕ ((Nat) × (Nat → Int32)))) (hf : fnX10_refuseState F r70 = some o) (hq : (Sum.elim (fun r70 => Qn none (mj_rows I [(70, r70)]) L) (mj_u2 (fun kx r70 => Qx (mj_en kx) (mj_rows I [(70, r70)]) L))) o) : mj_W X G RX10 "refuseState" cX10_refuseState 1 7 none mj_P0 mj_S0 98 ad 0 0 0 [(0, .ref 1)] [] (mj_rows I [(70, r70)]) L := by
  unfold fnX10_refuseState at hf
  refine mj_aload_n 0 dX10_refuseState_0 rfl ?_
  refine mj_getP p0_1_10 (by decide) fl_X10_69 rfl s0_1 a0_1 dX10_refuseState_1 ?_
  refine mj_iconst dX10_refuseState_4 kc_iconst_2 ?_
  refine mj_dup2 dX10_refuseState_5 rfl rfl ?_
  obtain ⟨z1, hf⟩ := mj_ck hf
  refine mj_ialdv (x := r70) rfl s0_70 a0_70 z1 dX10_refuseState_6 ?_
  refine mj_iconst dX10_refuseState_7 kc_iconst_1 ?_
  refine mj_iadd dX10_refuseState_8 ?_
  obtain ⟨z2, hf⟩ := mj_ck hf
  refine mj_iastr [(70, (upd r70 ((2 : Int32).toNatClampNeg) ((r70 ((2 : Int32).toNatClampNeg)) + (1 : Int32))))] rfl s0_70 a0_70 z2 dX10_refuseState_9 ?_
  obtain rfl := Option.some.inj hf
  have hZ := mj_er hq
  replace hZ := mj_u2p hZ
  exact mj_throw (names := ["java/lang/RuntimeException", "java/lang/Exception"]) hR hlt (by decide +kernel) (by decide +kernel) xk_308 xi_308 (List.mem_of_getElem? (i := 16) rfl) xw_308 dX10_refuseState_10 dX10_refuseState_13 dX10_refuseState_14 dX10_refuseState_17 dX10_refuseState_20 (by decide) (Nat.le_of_ble_eq_true rfl) ⟨by decide, by decide⟩ hZ
set_option maxRecDepth 100000 in
set_option maxHeartbeats 4000000 in
theorem cmX10_refuseState (l : Launch) (G : mj_GT) (hlt : l.stackTraces = false) (F : Nat) (I : mj_IT) (L : mj_LT) (r70 : Nat → Int32) (hr70 : I 70 = r70) (o : (((Nat → Int32)) ⊕ ((Nat) × (Nat → Int32)))) (hf : fnX10_refuseState F r70 = some o) : mj_Mx l G yX10_refuseState cX10_refuseState 1 7 none 1 6 mj_P0 mj_S0 98 [.ref 1] I L (fun rv I2 L2 => Sum.elim (fun o => rv = none ∧ I2 = (mj_rows I [(70, o)]) ∧ L2 = L) (fun _ => False) o) (fun E I2 L2 => Sum.elim (fun _ => False) (fun o => E = mj_en o.1 ∧ I2 = (mj_rows I [(70, o.2)]) ∧ L2 = L) o) := by
  refine mj_inx RX10 "refuseState" [(0, .ref 1)] rfl rfl rfl (by decide) (Nat.le_of_ble_eq_true rfl) (fun X ad hR => ?_)
  refine mj_toI [(70, r70)] (by intro q hq; simp only [List.mem_cons, List.not_mem_nil, or_false] at hq; rcases hq with rfl <;> assumption) ?_
  refine mtX10_refuseState hR hlt F I L r70 o hf ?_
  rcases o with o | o
  · refine mj_elq ?_
    refine mj_elq ?_
    exact ⟨rfl, rfl, rfl⟩
  · refine mj_erq ?_
    obtain ⟨w0, w1⟩ := o
    refine mj_u2q ?_
    refine mj_erq ?_
    exact ⟨rfl, rfl, rfl⟩

-- X10_needStates
def fnX10_needStates (F : Nat) (r1 : Nat → Int32) (r18 : Nat → Int32) (r19 : Nat → Int32) (r20 : Nat → Int32) (r21 : Nat → Int32) (r22 : Nat → Int32) (r23 : Nat → Int32) (r24 : Nat → Int32) (r25 : Nat → Int32) (r26 : Nat → Int32) (r32 : Nat → Int32) (r33 : Nat → Int32) (r34 : Nat → Int32) (r35 : Nat → Int32) (r36 : Nat → Int32) (r37 : Nat → Int32) (r38 : Nat → Int32) (r39 : Nat → Int32) (r40 : Nat → Int32) (r70 : Nat → Int32) : Option (((Nat → Int32) × (Nat → Int32) × (Nat → Int32) × (Nat → Int32) × (Nat → Int32) × (Nat → Int32) × (Nat → Int32) × (Nat → Int32) × (Nat → Int32) × (Nat → Int32)) ⊕ ((Nat) × (Nat → Int32) × (Nat → Int32) × (Nat → Int32) × (Nat → Int32) × (Nat → Int32) × (Nat → Int32) × (Nat → Int32) × (Nat → Int32) × (Nat → Int32) × (Nat → Int32))) := (fnX4_explore F r18 r19 r20 r21 r22 r23 r24 r25 r26 r32 r33 r34 r35 r36 r37 r38 r39 r40 (r1 3)).bind (fun o1 => (if (o1.1 6) = 0 then some (.inl (o1.1, o1.2.1, o1.2.2.1, o1.2.2.2.1, o1.2.2.2.2.1, o1.2.2.2.2.2.1, o1.2.2.2.2.2.2.1, o1.2.2.2.2.2.2.2.1, o1.2.2.2.2.2.2.2.2, r70)) else (fnX10_refuseState F r70).bind (Sum.elim (fun o3 => some (.inl (o1.1, o1.2.1, o1.2.2.1, o1.2.2.2.1, o1.2.2.2.2.1, o1.2.2.2.2.2.1, o1.2.2.2.2.2.2.1, o1.2.2.2.2.2.2.2.1, o1.2.2.2.2.2.2.2.2, o3))) (fun eo3 => some (.inr (eo3.1, o1.1, o1.2.1, o1.2.2.1, o1.2.2.2.1, o1.2.2.2.2.1, o1.2.2.2.2.2.1, o1.2.2.2.2.2.2.1, o1.2.2.2.2.2.2.2.1, o1.2.2.2.2.2.2.2.2, eo3.2))))))
set_option maxRecDepth 100000 in
set_option maxHeartbeats 4000000 in
theorem mtX10_needStates {X : mj_XT} {l : Launch} {G : mj_GT} {ad : Nat → Nat} {Qn : Option Value → mj_IT → mj_LT → Prop} {Qx : String → mj_IT → mj_LT → Prop} (hR : mj_Rx X l G mj_P0 mj_S0 98 ad 1 6 Qn Qx) (hlt : l.stackTraces = false) (F : Nat) (I : mj_IT) (L : mj_LT) (r1 : Nat → Int32) (r18 : Nat → Int32) (r19 : Nat → Int32) (r20 : Nat → Int32) (r21 : Nat → Int32) (r22 : Nat → Int32) (r23 : Nat → Int32) (r24 : Nat → Int32) (r25 : Nat → Int32) (r26 : Nat → Int32) (r32 : Nat → Int32) (r33 : Nat → Int32) (r34 : Nat → Int32) (r35 : Nat → Int32) (r36 : Nat → Int32) (r37 : Nat → Int32) (r38 : Nat → Int32) (r39 : Nat → Int32) (r40 : Nat → Int32) (r70 : Nat → Int32) (o : (((Nat → Int32) × (Nat → Int32) × (Nat → Int32) × (Nat → Int32) × (Nat → Int32) × (Nat → Int32) × (Nat → Int32) × (Nat → Int32) × (Nat → Int32) × (Nat → Int32)) ⊕ ((Nat) × (Nat → Int32) × (Nat → Int32) × (Nat → Int32) × (Nat → Int32) × (Nat → Int32) × (Nat → Int32) × (Nat → Int32) × (Nat → Int32) × (Nat → Int32) × (Nat → Int32)))) (hf : fnX10_needStates F r1 r18 r19 r20 r21 r22 r23 r24 r25 r26 r32 r33 r34 r35 r36 r37 r38 r39 r40 r70 = some o) (hq : (Sum.elim (mj_u2 (fun r32 => (mj_u2 (fun r33 => (mj_u2 (fun r34 => (mj_u2 (fun r35 => (mj_u2 (fun r36 => (mj_u2 (fun r37 => (mj_u2 (fun r38 => (mj_u2 (fun r39 => (mj_u2 (fun r40 r70 => Qn none (mj_rows I [(1, r1), (18, r18), (19, r19), (20, r20), (21, r21), (22, r22), (23, r23), (24, r24), (25, r25), (26, r26), (32, r32), (33, r33), (34, r34), (35, r35), (36, r36), (37, r37), (38, r38), (39, r39), (40, r40), (70, r70)]) L)))))))))))))))))) (mj_u2 (fun kx => (mj_u2 (fun r32 => (mj_u2 (fun r33 => (mj_u2 (fun r34 => (mj_u2 (fun r35 => (mj_u2 (fun r36 => (mj_u2 (fun r37 => (mj_u2 (fun r38 => (mj_u2 (fun r39 => (mj_u2 (fun r40 r70 => Qx (mj_en kx) (mj_rows I [(1, r1), (18, r18), (19, r19), (20, r20), (21, r21), (22, r22), (23, r23), (24, r24), (25, r25), (26, r26), (32, r32), (33, r33), (34, r34), (35, r35), (36, r36), (37, r37), (38, r38), (39, r39), (40, r40), (70, r70)]) L))))))))))))))))))))) o) : mj_W X G RX10 "needStates" cX10_needStates 1 8 none mj_P0 mj_S0 98 ad 0 0 0 [(0, .ref 1)] [] (mj_rows I [(1, r1), (18, r18), (19, r19), (20, r20), (21, r21), (22, r22), (23, r23), (24, r24), (25, r25), (26, r26), (32, r32), (33, r33), (34, r34), (35, r35), (36, r36), (37, r37), (38, r38), (39, r39), (40, r40), (70, r70)]) L := by
  unfold fnX10_needStates at hf
  refine mj_aload_n 0 dX10_needStates_0 rfl ?_
  refine mj_getP p0_1_5 (by decide) fl_X10_37 rfl s0_1 a0_1 dX10_needStates_1 ?_
  refine mj_aload_n 0 dX10_needStates_4 rfl ?_
  refine mj_getP p0_1_2 (by decide) fl_X10_23 rfl s0_1 a0_1 dX10_needStates_5 ?_
  refine mj_aload_n 0 dX10_needStates_8 rfl ?_
  refine mj_getIv (v := (r1 3)) rfl fl_X10_95 rfl s0_1 a0_1 dX10_needStates_9 ?_
  obtain ⟨o1, ho1, hf⟩ := mj_bd hf
  refine mj_callVd (I2 := (mj_rows I [(1, r1), (18, r18), (19, r19), (20, r20), (21, r21), (22, r22), (23, r23), (24, r24), (25, r25), (26, r26), (32, o1.1), (33, o1.2.1), (34, o1.2.2.1), (35, o1.2.2.2.1), (36, o1.2.2.2.2.1), (37, o1.2.2.2.2.2.1), (38, o1.2.2.2.2.2.2.1), (39, o1.2.2.2.2.2.2.2.1), (40, o1.2.2.2.2.2.2.2.2), (70, r70)])) (L2 := L) (s1 := []) (st := []) [.ref 18, .int (r1 3)] (cmX4_explore X.2.1 G F (r1 3) _ _ r18 r19 r20 r21 r22 r23 r24 r25 r26 r32 r33 r34 r35 r36 r37 r38 r39 r40 rfl rfl rfl rfl rfl rfl rfl rfl rfl rfl rfl rfl rfl rfl rfl rfl rfl rfl o1 ho1) (mj_rr rfl) rfl cw_X10_145 s0_32 a0_32 (by decide) rfl rfl (Nat.le_of_ble_eq_true rfl) (mj_rxc hR ⟨by decide, by decide⟩) dX10_needStates_12 rfl ?_
  refine mj_aload_n 0 dX10_needStates_15 rfl ?_
  refine mj_getP p0_1_5 (by decide) fl_X10_37 rfl s0_1 a0_1 dX10_needStates_16 ?_
  refine mj_getIv (v := (o1.1 6)) rfl fl_X10_149 rfl s0_32 a0_32 dX10_needStates_19 ?_
  refine mj_if_eq 29 dX10_needStates_22 (by decide) (fun c2 => ?_) (fun c2 => ?_)
  · replace hf := mj_pos c2 hf
    obtain rfl := Option.some.inj hf
    have hZ := mj_el hq
    replace hZ := mj_u2p hZ
    replace hZ := mj_u2p hZ
    replace hZ := mj_u2p hZ
    replace hZ := mj_u2p hZ
    replace hZ := mj_u2p hZ
    replace hZ := mj_u2p hZ
    replace hZ := mj_u2p hZ
    replace hZ := mj_u2p hZ
    replace hZ := mj_u2p hZ
    exact mj_vretx hR ⟨by decide, by decide⟩ rfl dX10_needStates_29 hZ
  · replace hf := mj_neg c2 hf
    refine mj_aload_n 0 dX10_needStates_25 rfl ?_
    obtain ⟨so3, ho3, hf⟩ := mj_bd hf
    refine mj_callVx (st := []) [] hR (cmX10_refuseState l G hlt F  _ _ r70 rfl so3 ho3) cw_X10_289 s0_1 a0_1 (by decide) rfl rfl (Nat.le_of_ble_eq_true rfl) ⟨by decide, by decide⟩ dX10_needStates_26 (fun E I2 L2 hx => ?_) (fun rv I2 L2 hx => ?_)
    · obtain ⟨eo3, hf, hx⟩ := mj_sxr hf hx
      obtain rfl := Option.some.inj hf
      obtain ⟨hE9, hI9, hL9⟩ := hx
      rw [hE9, hI9, hL9]
      have hZ := mj_er hq
      replace hZ := mj_u2p hZ
      replace hZ := mj_u2p hZ
      replace hZ := mj_u2p hZ
      replace hZ := mj_u2p hZ
      replace hZ := mj_u2p hZ
      replace hZ := mj_u2p hZ
      replace hZ := mj_u2p hZ
      replace hZ := mj_u2p hZ
      replace hZ := mj_u2p hZ
      replace hZ := mj_u2p hZ
      rw [mj_rr (l' := [(1, r1), (18, r18), (19, r19), (20, r20), (21, r21), (22, r22), (23, r23), (24, r24), (25, r25), (26, r26), (32, o1.1), (33, o1.2.1), (34, o1.2.2.1), (35, o1.2.2.2.1), (36, o1.2.2.2.2.1), (37, o1.2.2.2.2.2.1), (38, o1.2.2.2.2.2.2.1), (39, o1.2.2.2.2.2.2.2.1), (40, o1.2.2.2.2.2.2.2.2), (70, eo3.2)]) rfl]
      exact hZ
    · obtain ⟨o3, hf, hx⟩ := mj_sxl hf hx
      obtain ⟨hr9, hI9, hL9⟩ := hx
      refine mj_cnv (s1 := []) (I2 := (mj_rows I [(1, r1), (18, r18), (19, r19), (20, r20), (21, r21), (22, r22), (23, r23), (24, r24), (25, r25), (26, r26), (32, o1.1), (33, o1.2.1), (34, o1.2.2.1), (35, o1.2.2.2.1), (36, o1.2.2.2.2.1), (37, o1.2.2.2.2.2.1), (38, o1.2.2.2.2.2.2.1), (39, o1.2.2.2.2.2.2.2.1), (40, o1.2.2.2.2.2.2.2.2), (70, o3)])) (L2 := L) (by rw [hr9]; rfl) (hI9.trans (mj_rr rfl)) hL9 ?_
      obtain rfl := Option.some.inj hf
      have hZ := mj_el hq
      replace hZ := mj_u2p hZ
      replace hZ := mj_u2p hZ
      replace hZ := mj_u2p hZ
      replace hZ := mj_u2p hZ
      replace hZ := mj_u2p hZ
      replace hZ := mj_u2p hZ
      replace hZ := mj_u2p hZ
      replace hZ := mj_u2p hZ
      replace hZ := mj_u2p hZ
      exact mj_vretx hR ⟨by decide, by decide⟩ rfl dX10_needStates_29 hZ
set_option maxRecDepth 100000 in
set_option maxHeartbeats 4000000 in
theorem cmX10_needStates (l : Launch) (G : mj_GT) (hlt : l.stackTraces = false) (F : Nat) (I : mj_IT) (L : mj_LT) (r1 : Nat → Int32) (r18 : Nat → Int32) (r19 : Nat → Int32) (r20 : Nat → Int32) (r21 : Nat → Int32) (r22 : Nat → Int32) (r23 : Nat → Int32) (r24 : Nat → Int32) (r25 : Nat → Int32) (r26 : Nat → Int32) (r32 : Nat → Int32) (r33 : Nat → Int32) (r34 : Nat → Int32) (r35 : Nat → Int32) (r36 : Nat → Int32) (r37 : Nat → Int32) (r38 : Nat → Int32) (r39 : Nat → Int32) (r40 : Nat → Int32) (r70 : Nat → Int32) (hr1 : I 1 = r1) (hr18 : I 18 = r18) (hr19 : I 19 = r19) (hr20 : I 20 = r20) (hr21 : I 21 = r21) (hr22 : I 22 = r22) (hr23 : I 23 = r23) (hr24 : I 24 = r24) (hr25 : I 25 = r25) (hr26 : I 26 = r26) (hr32 : I 32 = r32) (hr33 : I 33 = r33) (hr34 : I 34 = r34) (hr35 : I 35 = r35) (hr36 : I 36 = r36) (hr37 : I 37 = r37) (hr38 : I 38 = r38) (hr39 : I 39 = r39) (hr40 : I 40 = r40) (hr70 : I 70 = r70) (o : (((Nat → Int32) × (Nat → Int32) × (Nat → Int32) × (Nat → Int32) × (Nat → Int32) × (Nat → Int32) × (Nat → Int32) × (Nat → Int32) × (Nat → Int32) × (Nat → Int32)) ⊕ ((Nat) × (Nat → Int32) × (Nat → Int32) × (Nat → Int32) × (Nat → Int32) × (Nat → Int32) × (Nat → Int32) × (Nat → Int32) × (Nat → Int32) × (Nat → Int32) × (Nat → Int32)))) (hf : fnX10_needStates F r1 r18 r19 r20 r21 r22 r23 r24 r25 r26 r32 r33 r34 r35 r36 r37 r38 r39 r40 r70 = some o) : mj_Mx l G yX10_needStates cX10_needStates 1 8 none 1 6 mj_P0 mj_S0 98 [.ref 1] I L (fun rv I2 L2 => Sum.elim (fun o => rv = none ∧ I2 = (mj_rows I [(1, r1), (18, r18), (19, r19), (20, r20), (21, r21), (22, r22), (23, r23), (24, r24), (25, r25), (26, r26), (32, o.1), (33, o.2.1), (34, o.2.2.1), (35, o.2.2.2.1), (36, o.2.2.2.2.1), (37, o.2.2.2.2.2.1), (38, o.2.2.2.2.2.2.1), (39, o.2.2.2.2.2.2.2.1), (40, o.2.2.2.2.2.2.2.2.1), (70, o.2.2.2.2.2.2.2.2.2)]) ∧ L2 = L) (fun _ => False) o) (fun E I2 L2 => Sum.elim (fun _ => False) (fun o => E = mj_en o.1 ∧ I2 = (mj_rows I [(1, r1), (18, r18), (19, r19), (20, r20), (21, r21), (22, r22), (23, r23), (24, r24), (25, r25), (26, r26), (32, o.2.1), (33, o.2.2.1), (34, o.2.2.2.1), (35, o.2.2.2.2.1), (36, o.2.2.2.2.2.1), (37, o.2.2.2.2.2.2.1), (38, o.2.2.2.2.2.2.2.1), (39, o.2.2.2.2.2.2.2.2.1), (40, o.2.2.2.2.2.2.2.2.2.1), (70, o.2.2.2.2.2.2.2.2.2.2)]) ∧ L2 = L) o) := by
  refine mj_inx RX10 "needStates" [(0, .ref 1)] rfl rfl rfl (by decide) (Nat.le_of_ble_eq_true rfl) (fun X ad hR => ?_)
  refine mj_toI [(1, r1), (18, r18), (19, r19), (20, r20), (21, r21), (22, r22), (23, r23), (24, r24), (25, r25), (26, r26), (32, r32), (33, r33), (34, r34), (35, r35), (36, r36), (37, r37), (38, r38), (39, r39), (40, r40), (70, r70)] (by intro q hq; simp only [List.mem_cons, List.not_mem_nil, or_false] at hq; rcases hq with rfl | rfl | rfl | rfl | rfl | rfl | rfl | rfl | rfl | rfl | rfl | rfl | rfl | rfl | rfl | rfl | rfl | rfl | rfl | rfl <;> assumption) ?_
  refine mtX10_needStates hR hlt F I L r1 r18 r19 r20 r21 r22 r23 r24 r25 r26 r32 r33 r34 r35 r36 r37 r38 r39 r40 r70 o hf ?_
  rcases o with o | o
  · refine mj_elq ?_
    obtain ⟨w0, w1, w2, w3, w4, w5, w6, w7, w8, w9⟩ := o
    refine mj_u2q ?_
    refine mj_u2q ?_
    refine mj_u2q ?_
    refine mj_u2q ?_
    refine mj_u2q ?_
    refine mj_u2q ?_
    refine mj_u2q ?_
    refine mj_u2q ?_
    refine mj_u2q ?_
    refine mj_elq ?_
    exact ⟨rfl, rfl, rfl⟩
  · refine mj_erq ?_
    obtain ⟨w0, w1, w2, w3, w4, w5, w6, w7, w8, w9, w10⟩ := o
    refine mj_u2q ?_
    refine mj_u2q ?_
    refine mj_u2q ?_
    refine mj_u2q ?_
    refine mj_u2q ?_
    refine mj_u2q ?_
    refine mj_u2q ?_
    refine mj_u2q ?_
    refine mj_u2q ?_
    refine mj_u2q ?_
    refine mj_erq ?_
    exact ⟨rfl, rfl, rfl⟩

-- X10_needState
def fnX10_needState (F : Nat) (r32 : Nat → Int32) (r70 : Nat → Int32) (x1 : Int32) : Option (((Nat → Int32)) ⊕ ((Nat) × (Nat → Int32))) := (if x1 < 0 then (fnX10_refuseElement F r70).bind (Sum.elim (fun o2 => some (.inl o2)) (fun eo2 => some (.inr (eo2.1, eo2.2)))) else (if x1 < (r32 2) then some (.inl r70) else (fnX10_refuseElement F r70).bind (Sum.elim (fun o4 => some (.inl o4)) (fun eo4 => some (.inr (eo4.1, eo4.2))))))
set_option maxRecDepth 100000 in
set_option maxHeartbeats 4000000 in
theorem mtX10_needState {X : mj_XT} {l : Launch} {G : mj_GT} {ad : Nat → Nat} {Qn : Option Value → mj_IT → mj_LT → Prop} {Qx : String → mj_IT → mj_LT → Prop} (hR : mj_Rx X l G mj_P0 mj_S0 98 ad 1 6 Qn Qx) (hlt : l.stackTraces = false) (F : Nat) (I : mj_IT) (L : mj_LT) (r32 : Nat → Int32) (r70 : Nat → Int32) (x1 : Int32) (o : (((Nat → Int32)) ⊕ ((Nat) × (Nat → Int32)))) (hf : fnX10_needState F r32 r70 x1 = some o) (hq : (Sum.elim (fun r70 => Qn none (mj_rows I [(32, r32), (70, r70)]) L) (mj_u2 (fun kx r70 => Qx (mj_en kx) (mj_rows I [(32, r32), (70, r70)]) L))) o) : mj_W X G RX10 "needState" cX10_needState 2 8 none mj_P0 mj_S0 98 ad 0 0 0 [(0, .ref 1), (1, .int x1)] [] (mj_rows I [(32, r32), (70, r70)]) L := by
  unfold fnX10_needState at hf
  refine mj_iload_n 1 dX10_needState_0 rfl ?_
  refine mj_if_lt 15 dX10_needState_1 (by decide) (fun c1 => ?_) (fun c1 => ?_)
  · replace hf := mj_pos c1 hf
    refine mj_aload_n 0 dX10_needState_15 rfl ?_
    obtain ⟨so2, ho2, hf⟩ := mj_bd hf
    refine mj_callVx (st := []) [] hR (cmX10_refuseElement l G hlt F  _ _ r70 rfl so2 ho2) cw_X10_197 s0_1 a0_1 (by decide) rfl rfl (Nat.le_of_ble_eq_true rfl) ⟨by decide, by decide⟩ dX10_needState_16 (fun E I2 L2 hx => ?_) (fun rv I2 L2 hx => ?_)
    · obtain ⟨eo2, hf, hx⟩ := mj_sxr hf hx
      obtain rfl := Option.some.inj hf
      obtain ⟨hE9, hI9, hL9⟩ := hx
      rw [hE9, hI9, hL9]
      have hZ := mj_er hq
      replace hZ := mj_u2p hZ
      rw [mj_rr (l' := [(32, r32), (70, eo2.2)]) rfl]
      exact hZ
    · obtain ⟨o2, hf, hx⟩ := mj_sxl hf hx
      obtain ⟨hr9, hI9, hL9⟩ := hx
      refine mj_cnv (s1 := []) (I2 := (mj_rows I [(32, r32), (70, o2)])) (L2 := L) (by rw [hr9]; rfl) (hI9.trans (mj_rr rfl)) hL9 ?_
      obtain rfl := Option.some.inj hf
      have hZ := mj_el hq
      exact mj_vretx hR ⟨by decide, by decide⟩ rfl dX10_needState_19 hZ
  · replace hf := mj_neg c1 hf
    refine mj_iload_n 1 dX10_needState_4 rfl ?_
    refine mj_aload_n 0 dX10_needState_5 rfl ?_
    refine mj_getP p0_1_5 (by decide) fl_X10_37 rfl s0_1 a0_1 dX10_needState_6 ?_
    refine mj_getIv (v := (r32 2)) rfl fl_X10_153 rfl s0_32 a0_32 dX10_needState_9 ?_
    refine mj_icmp_lt 19 dX10_needState_12 (by decide) (fun c3 => ?_) (fun c3 => ?_)
    · replace hf := mj_pos c3 hf
      obtain rfl := Option.some.inj hf
      have hZ := mj_el hq
      exact mj_vretx hR ⟨by decide, by decide⟩ rfl dX10_needState_19 hZ
    · replace hf := mj_neg c3 hf
      refine mj_aload_n 0 dX10_needState_15 rfl ?_
      obtain ⟨so4, ho4, hf⟩ := mj_bd hf
      refine mj_callVx (st := []) [] hR (cmX10_refuseElement l G hlt F  _ _ r70 rfl so4 ho4) cw_X10_197 s0_1 a0_1 (by decide) rfl rfl (Nat.le_of_ble_eq_true rfl) ⟨by decide, by decide⟩ dX10_needState_16 (fun E I2 L2 hx => ?_) (fun rv I2 L2 hx => ?_)
      · obtain ⟨eo4, hf, hx⟩ := mj_sxr hf hx
        obtain rfl := Option.some.inj hf
        obtain ⟨hE9, hI9, hL9⟩ := hx
        rw [hE9, hI9, hL9]
        have hZ := mj_er hq
        replace hZ := mj_u2p hZ
        rw [mj_rr (l' := [(32, r32), (70, eo4.2)]) rfl]
        exact hZ
      · obtain ⟨o4, hf, hx⟩ := mj_sxl hf hx
        obtain ⟨hr9, hI9, hL9⟩ := hx
        refine mj_cnv (s1 := []) (I2 := (mj_rows I [(32, r32), (70, o4)])) (L2 := L) (by rw [hr9]; rfl) (hI9.trans (mj_rr rfl)) hL9 ?_
        obtain rfl := Option.some.inj hf
        have hZ := mj_el hq
        exact mj_vretx hR ⟨by decide, by decide⟩ rfl dX10_needState_19 hZ
set_option maxRecDepth 100000 in
set_option maxHeartbeats 4000000 in
theorem cmX10_needState (l : Launch) (G : mj_GT) (hlt : l.stackTraces = false) (F : Nat) (x1 : Int32) (I : mj_IT) (L : mj_LT) (r32 : Nat → Int32) (r70 : Nat → Int32) (hr32 : I 32 = r32) (hr70 : I 70 = r70) (o : (((Nat → Int32)) ⊕ ((Nat) × (Nat → Int32)))) (hf : fnX10_needState F r32 r70 x1 = some o) : mj_Mx l G yX10_needState cX10_needState 2 8 none 1 6 mj_P0 mj_S0 98 [.ref 1, .int x1] I L (fun rv I2 L2 => Sum.elim (fun o => rv = none ∧ I2 = (mj_rows I [(32, r32), (70, o)]) ∧ L2 = L) (fun _ => False) o) (fun E I2 L2 => Sum.elim (fun _ => False) (fun o => E = mj_en o.1 ∧ I2 = (mj_rows I [(32, r32), (70, o.2)]) ∧ L2 = L) o) := by
  refine mj_inx RX10 "needState" [(0, .ref 1), (1, .int x1)] rfl rfl rfl (by decide) (Nat.le_of_ble_eq_true rfl) (fun X ad hR => ?_)
  refine mj_toI [(32, r32), (70, r70)] (by intro q hq; simp only [List.mem_cons, List.not_mem_nil, or_false] at hq; rcases hq with rfl | rfl <;> assumption) ?_
  refine mtX10_needState hR hlt F I L r32 r70 x1 o hf ?_
  rcases o with o | o
  · refine mj_elq ?_
    refine mj_elq ?_
    exact ⟨rfl, rfl, rfl⟩
  · refine mj_erq ?_
    obtain ⟨w0, w1⟩ := o
    refine mj_u2q ?_
    refine mj_erq ?_
    exact ⟨rfl, rfl, rfl⟩

