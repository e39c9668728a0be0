-- X10_needForm
def fnX10_needForm (F : Nat) (r70 : Nat → Int32) (x1 : Int32) : Option (((Nat → Int32)) ⊕ ((Nat) × (Nat → Int32))) := (fnX10_needNumber F r70 x1 (0 : Int32) (2 : Int32)).bind (Sum.elim (fun o1 => some (.inl o1)) (fun eo1 => some (.inr (eo1.1, eo1.2))))
set_option maxRecDepth 100000 in
set_option maxHeartbeats 4000000 in
theorem mtX10_needForm {X : mj_XT} {l : Launch} {G : mj_GT} {ad : Nat → Nat} {Qn : Option Value → mj_IT → mj_LT → Prop} {Qx : String → mj_IT → mj_LT → Prop} (hR : mj_Rx X l G mj_P0 mj_S0 98 ad 1 6 Qn Qx) (hlt : l.stackTraces = false) (F : Nat) (I : mj_IT) (L : mj_LT) (r70 : Nat → Int32) (x1 : Int32) (o : (((Nat → Int32)) ⊕ ((Nat) × (Nat → Int32)))) (hf : fnX10_needForm F r70 x1 = some o) (hq : (Sum.elim (fun r70 => Qn none (mj_rows I [(70, r70)]) L) (mj_u2 (fun kx r70 => Qx (mj_en kx) (mj_rows I [(70, r70)]) L))) o) : mj_W X G RX10 "needForm" cX10_needForm 2 9 none mj_P0 mj_S0 98 ad 0 0 0 [(0, .ref 1), (1, .int x1)] [] (mj_rows I [(70, r70)]) L := by
  unfold fnX10_needForm at hf
  refine mj_aload_n 0 dX10_needForm_0 rfl ?_
  refine mj_iload_n 1 dX10_needForm_1 rfl ?_
  refine mj_iconst dX10_needForm_2 kc_iconst_0 ?_
  refine mj_iconst dX10_needForm_3 kc_iconst_2 ?_
  obtain ⟨so1, ho1, hf⟩ := mj_bd hf
  refine mj_callVx (st := []) [.int x1, .int (0 : Int32), .int (2 : Int32)] hR (cmX10_needNumber l G hlt F x1 (0 : Int32) (2 : Int32) _ _ r70 rfl so1 ho1) cw_X10_80 s0_1 a0_1 (by decide) rfl rfl (Nat.le_of_ble_eq_true rfl) ⟨by decide, by decide⟩ dX10_needForm_4 (fun E I2 L2 hx => ?_) (fun rv I2 L2 hx => ?_)
  · obtain ⟨eo1, hf, hx⟩ := mj_sxr hf hx
    obtain rfl := Option.some.inj hf
    obtain ⟨hE9, hI9, hL9⟩ := hx
    rw [hE9, hI9, hL9]
    have hZ := mj_er hq
    replace hZ := mj_u2p hZ
    rw [mj_rq (l' := [(70, eo1.2)]) rfl rfl]
    exact hZ
  · obtain ⟨o1, hf, hx⟩ := mj_sxl hf hx
    obtain ⟨hr9, hI9, hL9⟩ := hx
    refine mj_cnv (s1 := []) (I2 := (mj_rows I [(70, o1)])) (L2 := L) (by rw [hr9]; rfl) (hI9.trans (mj_rq rfl rfl)) hL9 ?_
    obtain rfl := Option.some.inj hf
    have hZ := mj_el hq
    exact mj_vretx hR ⟨by decide, by decide⟩ rfl dX10_needForm_7 hZ
set_option maxRecDepth 100000 in
set_option maxHeartbeats 4000000 in
theorem cmX10_needForm (l : Launch) (G : mj_GT) (hlt : l.stackTraces = false) (F : Nat) (x1 : Int32) (I : mj_IT) (L : mj_LT) (r70 : Nat → Int32) (hr70 : I 70 = r70) (o : (((Nat → Int32)) ⊕ ((Nat) × (Nat → Int32)))) (hf : fnX10_needForm F r70 x1 = some o) : mj_Mx l G yX10_needForm cX10_needForm 2 9 none 1 6 mj_P0 mj_S0 98 [.ref 1, .int x1] I L (fun rv I2 L2 => Sum.elim (fun o => rv = none ∧ I2 = (mj_rows I [(70, o)]) ∧ L2 = L) (fun _ => False) o) (fun E I2 L2 => Sum.elim (fun _ => False) (fun o => E = mj_en o.1 ∧ I2 = (mj_rows I [(70, o.2)]) ∧ L2 = L) o) := by
  refine mj_inx RX10 "needForm" [(0, .ref 1), (1, .int x1)] rfl rfl rfl (by decide) (Nat.le_of_ble_eq_true rfl) (fun X ad hR => ?_)
  refine mj_toI [(70, r70)] (by intro q hq; simp only [List.mem_cons, List.not_mem_nil, or_false] at hq; rcases hq with rfl <;> assumption) ?_
  refine mtX10_needForm hR hlt F I L r70 x1 o hf ?_
  rcases o with o | o
  · refine mj_elq ?_
    refine mj_elq ?_
    exact ⟨rfl, rfl, rfl⟩
  · refine mj_erq ?_
    obtain ⟨w0, w1⟩ := o
    refine mj_u2q ?_
    refine mj_erq ?_
    exact ⟨rfl, rfl, rfl⟩

