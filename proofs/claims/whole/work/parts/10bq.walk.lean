-- X10_status
def fnX10_status (F : Nat) (r70 : Nat → Int32) (x1 : Int32) : Option ((Int32)) := (if x1 < 0 then some (-1 : Int32) else (if (3 : Int32) ≤ x1 then some (-1 : Int32) else (if mj_ib x1 3 = true then some (r70 x1.toNatClampNeg) else none)))
set_option maxRecDepth 100000 in
set_option maxHeartbeats 4000000 in
theorem mtX10_status {X : mj_XT} {l : Launch} {G : mj_GT} {ad : Nat → Nat} {Qn : Option Value → mj_IT → mj_LT → Prop} (hR : mj_R X l G mj_P0 mj_S0 98 ad 0 0 Qn) (F : Nat) (I : mj_IT) (L : mj_LT) (r70 : Nat → Int32) (x1 : Int32) (o : ((Int32))) (hf : fnX10_status F r70 x1 = some o) (hq : (fun ov => Qn (some (.int ov)) (mj_rows I [(70, r70)]) L) o) : mj_W X G RX10 "status" cX10_status 2 1 (some .int) mj_P0 mj_S0 98 ad 0 0 0 [(0, .ref 1), (1, .int x1)] [] (mj_rows I [(70, r70)]) L := by
  unfold fnX10_status at hf
  refine mj_iload_n 1 dX10_status_0 rfl ?_
  refine mj_if_lt 22 dX10_status_1 (by decide) (fun c1 => ?_) (fun c1 => ?_)
  · replace hf := mj_pos c1 hf
    refine mj_iconst dX10_status_22 kc_iconst_m1 ?_
    obtain rfl := Option.some.inj hf
    have hZ := hq
    exact mj_iret hR ⟨Nat.le_refl _, Nat.le_refl _⟩ rfl rfl dX10_status_23 hZ
  · replace hf := mj_neg c1 hf
    refine mj_iload_n 1 dX10_status_4 rfl ?_
    refine mj_aload_n 0 dX10_status_5 rfl ?_
    refine mj_getP p0_1_10 (by decide) fl_X10_69 rfl s0_1 a0_1 dX10_status_6 ?_
    refine mj_alen (v := 3) s0_70 (by decide) a0_70 (by decide +kernel) dX10_status_9 ?_
    refine mj_icmp_ge 22 dX10_status_10 (by decide) (fun c2 => ?_) (fun c2 => ?_)
    · replace hf := mj_pos c2 hf
      refine mj_iconst dX10_status_22 kc_iconst_m1 ?_
      obtain rfl := Option.some.inj hf
      have hZ := hq
      exact mj_iret hR ⟨Nat.le_refl _, Nat.le_refl _⟩ rfl rfl dX10_status_23 hZ
    · replace hf := mj_neg c2 hf
      refine mj_aload_n 0 dX10_status_13 rfl ?_
      refine mj_getP p0_1_10 (by decide) fl_X10_69 rfl s0_1 a0_1 dX10_status_14 ?_
      refine mj_iload_n 1 dX10_status_17 rfl ?_
      obtain ⟨z3, hf⟩ := mj_ck hf
      refine mj_ialdv (x := r70) rfl s0_70 a0_70 z3 dX10_status_18 ?_
      refine mj_goto 23 dX10_status_19 (by decide) ?_
      obtain rfl := Option.some.inj hf
      have hZ := hq
      exact mj_iret hR ⟨Nat.le_refl _, Nat.le_refl _⟩ rfl rfl dX10_status_23 hZ
set_option maxRecDepth 100000 in
set_option maxHeartbeats 4000000 in
theorem cmX10_status (l : Launch) (G : mj_GT) (F : Nat) (x1 : Int32) (I : mj_IT) (L : mj_LT) (r70 : Nat → Int32) (hr70 : I 70 = r70) (o : ((Int32))) (hf : fnX10_status F r70 x1 = some o) : mj_M l G yX10_status cX10_status 2 1 (some .int) 0 0 mj_P0 mj_S0 98 [.ref 1, .int x1] I L (mj_qd (some (.int o)) (mj_rows I [(70, r70)]) L) := by
  refine mj_in RX10 "status" [(0, .ref 1), (1, .int x1)] rfl rfl rfl (by decide) (Nat.le_of_ble_eq_true rfl) (fun X ad hR => ?_)
  refine mj_toI [(70, r70)] (by intro q hq; simp only [List.mem_cons, List.not_mem_nil, or_false] at hq; rcases hq with rfl <;> assumption) ?_
  refine mtX10_status hR F I L r70 x1 o hf ?_
  exact ⟨rfl, rfl, rfl⟩

