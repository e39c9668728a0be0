/-! ===== the law's own methods that catch ===== -/
-- text
abbrev hh_text : List (Nat × Nat × Nat × Nat) := [(0, 9, 12, 13)]
theorem hd_text_1 : mj_hd RL cL_text 4 hh_text 4 (mj_en 1) 1 := ⟨[], ⟨0, 9, 12, 13⟩, [], "java/lang/IllegalArgumentException", 3, 1, 1, rfl, (fun q hq => absurd hq List.not_mem_nil), rfl, by decide, mj_seg_3 (j := 59) (by decide +kernel) rfl, by decide +kernel, by decide, Or.inr ⟨3, rfl, dL_text_12, rfl⟩, dL_text_13, by decide +kernel, dL_text_14⟩
def wk_text (k : Nat) : Int32 := match k with
  | 1 => 1
  | _ => 0
def ok_text (k : Nat) : Bool := k == 1
def wr_text (o : (Int32 × mj_IT × mj_LT) ⊕ (Nat × mj_IT × mj_LT)) : Int32 × mj_IT × mj_LT := Sum.elim (fun o => (0, o.2.1, va_up o.2.2 98 (vp_updL (o.2.2 98) 0 o.1.toInt64))) (fun o => (wk_text o.1, o.2.1, o.2.2)) o
set_option maxRecDepth 100000 in
set_option maxHeartbeats 4000000 in
theorem csL_text (l : Launch) (G : mj_GT) (hlt : l.stackTraces = false) (F : Nat) (x1 : Int32) (I : mj_IT) (L : mj_LT) (o : (Int32 × mj_IT × mj_LT) ⊕ (Nat × mj_IT × mj_LT)) (hf : stX10_text F I L x1 = some o) (hk : ∀ q, o = .inr q → ok_text q.1 = true) : mj_MW l G yL_text cL_text 4 10 (some .int) hh_text 1 6 mj_P0 mj_S0 98 [.ref 1, .int x1, .ref 98] I L (fun rv P2 I2 L2 => rv = some (.int (wr_text o).1) ∧ P2 = mj_P0 ∧ I2 = (wr_text o).2.1 ∧ L2 = (wr_text o).2.2) := by
  refine mj_inw RL "text" [(0, .ref 1), (1, .int x1), (2, .ref 98)] rfl rfl rfl (by decide) (Nat.le_of_ble_eq_true rfl) (fun X ad hR hT => ?_)
  have hM := csX10_text l G hlt F x1 I L o hf
  refine mj_aload_n 2 dL_text_0 rfl ?_
  refine mj_iconst (v := 0) dL_text_1 (by decide +kernel) ?_
  refine mj_aload_n 0 dL_text_2 rfl ?_
  refine mj_iload_n 1 dL_text_3 rfl ?_
  refine mj_callCv (st := [.int 0, .ref 98]) [.int x1] hR hT hM cw_L_7 s0_1 (by decide) (by decide) rfl rfl (Nat.le_of_ble_eq_true rfl) ⟨Nat.le_of_ble_eq_true rfl, Nat.le_of_ble_eq_true rfl⟩ rfl dL_text_4 rfl rfl (fun E I1 L1 hq => ?_) (fun r P1 I1 L1 ad1 hag hq => ?_)
  · rcases o with o | o
    · exact absurd hq (fun h => h)
    · obtain ⟨k, I0, L0⟩ := o
      obtain ⟨rfl, rfl, rfl⟩ := hq
      have h1 := hk _ rfl
      simp only [ok_text, Bool.or_eq_true, beq_iff_eq] at h1
      subst h1
      exact ⟨_, hd_text_1, rfl, rfl, rfl, rfl⟩
  · rcases o with o | o
    · obtain ⟨v, I0, L0⟩ := o
      obtain ⟨rfl, rfl, rfl, rfl⟩ := hq
      refine mj_i2l dL_text_7 ?_
      refine mj_last (i := 0) (x := v.toInt64) s0_98 (by decide) (mj_ib_in (by decide +kernel)) dL_text_8 ?_
      refine mj_goto 15 dL_text_9 (by decide) ?_
      refine mj_iconst (v := 0) dL_text_15 (by decide +kernel) ?_
      exact mj_iretv hR hag ⟨Nat.le_of_ble_eq_true rfl, Nat.le_of_ble_eq_true rfl⟩ rfl rfl dL_text_16 ⟨rfl, rfl, rfl, rfl⟩
    · exact absurd hq (fun h => h)
-- first
abbrev hh_first : List (Nat × Nat × Nat × Nat) := [(0, 10, 13, 19), (0, 10, 17, 13)]
theorem hd_first_0 : mj_hd RL cL_first 5 hh_first 5 (mj_en 0) 1 := ⟨[], ⟨0, 10, 13, 19⟩, [⟨0, 10, 17, 13⟩], "java/util/NoSuchElementException", 4, 2, 1, rfl, (fun q hq => absurd hq List.not_mem_nil), rfl, by decide, mj_seg_4 (j := 64) (by decide +kernel) rfl, by decide +kernel, by decide, Or.inl ⟨dL_first_13, rfl⟩, dL_first_15, by decide +kernel, dL_first_16⟩
theorem hd_first_1 : mj_hd RL cL_first 5 hh_first 5 (mj_en 1) 2 := ⟨[⟨0, 10, 13, 19⟩], ⟨0, 10, 17, 13⟩, [], "java/lang/IllegalArgumentException", 4, 2, 2, rfl, (fun q hq => by
    simp only [List.mem_cons, List.not_mem_nil, or_false] at hq
    rcases hq with rfl
    · exact Or.inr ⟨by decide, "java/util/NoSuchElementException", mj_seg_4 (j := 64) (by decide +kernel) rfl, by decide +kernel⟩), rfl, by decide, mj_seg_3 (j := 59) (by decide +kernel) rfl, by decide +kernel, by decide, Or.inl ⟨dL_first_17, rfl⟩, dL_first_19, by decide +kernel, dL_first_20⟩
def wk_first (k : Nat) : Int32 := match k with
  | 0 => 1
  | 1 => 2
  | _ => 0
def ok_first (k : Nat) : Bool := k == 0 || (k == 1)
def wr_first (o : (Int32 × mj_IT × mj_LT) ⊕ (Nat × mj_IT × mj_LT)) : Int32 × mj_IT × mj_LT := Sum.elim (fun o => (0, o.2.1, va_up o.2.2 98 (vp_updL (o.2.2 98) 0 o.1.toInt64))) (fun o => (wk_first o.1, o.2.1, o.2.2)) o
set_option maxRecDepth 100000 in
set_option maxHeartbeats 4000000 in
theorem csL_first (l : Launch) (G : mj_GT) (hlt : l.stackTraces = false) (F : Nat) (x1 : Int32) (x2 : Int32) (I : mj_IT) (L : mj_LT) (o : (Int32 × mj_IT × mj_LT) ⊕ (Nat × mj_IT × mj_LT)) (hf : stX10_first F I L x1 x2 = some o) (hk : ∀ q, o = .inr q → ok_first q.1 = true) : mj_MW l G yL_first cL_first 5 10 (some .int) hh_first 2 12 mj_P0 mj_S0 98 [.ref 1, .int x1, .int x2, .ref 98] I L (fun rv P2 I2 L2 => rv = some (.int (wr_first o).1) ∧ P2 = mj_P0 ∧ I2 = (wr_first o).2.1 ∧ L2 = (wr_first o).2.2) := by
  refine mj_inw RL "first" [(0, .ref 1), (1, .int x1), (2, .int x2), (3, .ref 98)] rfl rfl rfl (by decide) (Nat.le_of_ble_eq_true rfl) (fun X ad hR hT => ?_)
  have hM := csX10_first l G hlt F x1 x2 I L o hf
  refine mj_aload_n 3 dL_first_0 rfl ?_
  refine mj_iconst (v := 0) dL_first_1 (by decide +kernel) ?_
  refine mj_aload_n 0 dL_first_2 rfl ?_
  refine mj_iload_n 1 dL_first_3 rfl ?_
  refine mj_iload_n 2 dL_first_4 rfl ?_
  refine mj_callC (st := [.int 0, .ref 98]) [.int x1, .int x2] hR hT hM cw_L_15 s0_1 (by decide) (by decide) rfl rfl (Nat.le_of_ble_eq_true rfl) ⟨Nat.le_of_ble_eq_true rfl, Nat.le_of_ble_eq_true rfl⟩ rfl dL_first_5 (fun E I1 L1 hq => ?_) (fun r I1 L1 hq => ?_)
  · rcases o with o | o
    · exact absurd hq (fun h => h)
    · obtain ⟨k, I0, L0⟩ := o
      obtain ⟨rfl, rfl, rfl⟩ := hq
      have h1 := hk _ rfl
      simp only [ok_first, Bool.or_eq_true, beq_iff_eq] at h1
      rcases h1 with rfl | rfl
      · exact ⟨_, hd_first_0, rfl, rfl, rfl, rfl⟩
      · exact ⟨_, hd_first_1, rfl, rfl, rfl, rfl⟩
  · rcases o with o | o
    · obtain ⟨v, I0, L0⟩ := o
      obtain ⟨rfl, rfl, rfl⟩ := hq
      refine mj_i2l dL_first_8 ?_
      refine mj_last (i := 0) (x := v.toInt64) s0_98 (by decide) (mj_ib_in (by decide +kernel)) dL_first_9 ?_
      refine mj_goto 21 dL_first_10 (by decide) ?_
      refine mj_iconst (v := 0) dL_first_21 (by decide +kernel) ?_
      exact mj_iretv hR mj_ag.rf ⟨Nat.le_of_ble_eq_true rfl, Nat.le_of_ble_eq_true rfl⟩ rfl rfl dL_first_22 ⟨rfl, rfl, rfl, rfl⟩
    · exact absurd hq (fun h => h)
-- chance
abbrev hh_chance : List (Nat × Nat × Nat × Nat) := [(0, 10, 13, 19), (0, 10, 17, 13)]
theorem hd_chance_0 : mj_hd RL cL_chance 5 hh_chance 5 (mj_en 0) 1 := ⟨[], ⟨0, 10, 13, 19⟩, [⟨0, 10, 17, 13⟩], "java/util/NoSuchElementException", 4, 2, 1, rfl, (fun q hq => absurd hq List.not_mem_nil), rfl, by decide, mj_seg_4 (j := 64) (by decide +kernel) rfl, by decide +kernel, by decide, Or.inl ⟨dL_chance_13, rfl⟩, dL_chance_15, by decide +kernel, dL_chance_16⟩
theorem hd_chance_1 : mj_hd RL cL_chance 5 hh_chance 5 (mj_en 1) 2 := ⟨[⟨0, 10, 13, 19⟩], ⟨0, 10, 17, 13⟩, [], "java/lang/IllegalArgumentException", 4, 2, 2, rfl, (fun q hq => by
    simp only [List.mem_cons, List.not_mem_nil, or_false] at hq
    rcases hq with rfl
    · exact Or.inr ⟨by decide, "java/util/NoSuchElementException", mj_seg_4 (j := 64) (by decide +kernel) rfl, by decide +kernel⟩), rfl, by decide, mj_seg_3 (j := 59) (by decide +kernel) rfl, by decide +kernel, by decide, Or.inl ⟨dL_chance_17, rfl⟩, dL_chance_19, by decide +kernel, dL_chance_20⟩
def wk_chance (k : Nat) : Int32 := match k with
  | 0 => 1
  | 1 => 2
  | _ => 0
def ok_chance (k : Nat) : Bool := k == 0 || (k == 1)
def wr_chance (o : (Int32 × mj_IT × mj_LT) ⊕ (Nat × mj_IT × mj_LT)) : Int32 × mj_IT × mj_LT := Sum.elim (fun o => (0, o.2.1, va_up o.2.2 98 (vp_updL (o.2.2 98) 0 o.1.toInt64))) (fun o => (wk_chance o.1, o.2.1, o.2.2)) o
set_option maxRecDepth 100000 in
set_option maxHeartbeats 4000000 in
theorem csL_chance (l : Launch) (G : mj_GT) (hlt : l.stackTraces = false) (F : Nat) (x1 : Int32) (x2 : Int32) (I : mj_IT) (L : mj_LT) (o : (Int32 × mj_IT × mj_LT) ⊕ (Nat × mj_IT × mj_LT)) (hf : stX10_chance F I L x1 x2 = some o) (hk : ∀ q, o = .inr q → ok_chance q.1 = true) : mj_MW l G yL_chance cL_chance 5 10 (some .int) hh_chance 3 18 mj_P0 mj_S0 98 [.ref 1, .int x1, .int x2, .ref 98] I L (fun rv P2 I2 L2 => rv = some (.int (wr_chance o).1) ∧ P2 = mj_P0 ∧ I2 = (wr_chance o).2.1 ∧ L2 = (wr_chance o).2.2) := by
  refine mj_inw RL "chance" [(0, .ref 1), (1, .int x1), (2, .int x2), (3, .ref 98)] rfl rfl rfl (by decide) (Nat.le_of_ble_eq_true rfl) (fun X ad hR hT => ?_)
  have hM := csX10_chance l G hlt F x1 x2 I L o hf
  refine mj_aload_n 3 dL_chance_0 rfl ?_
  refine mj_iconst (v := 0) dL_chance_1 (by decide +kernel) ?_
  refine mj_aload_n 0 dL_chance_2 rfl ?_
  refine mj_iload_n 1 dL_chance_3 rfl ?_
  refine mj_iload_n 2 dL_chance_4 rfl ?_
  refine mj_callC (st := [.int 0, .ref 98]) [.int x1, .int x2] hR hT hM cw_L_21 s0_1 (by decide) (by decide) rfl rfl (Nat.le_of_ble_eq_true rfl) ⟨Nat.le_of_ble_eq_true rfl, Nat.le_of_ble_eq_true rfl⟩ rfl dL_chance_5 (fun E I1 L1 hq => ?_) (fun r I1 L1 hq => ?_)
  · rcases o with o | o
    · exact absurd hq (fun h => h)
    · obtain ⟨k, I0, L0⟩ := o
      obtain ⟨rfl, rfl, rfl⟩ := hq
      have h1 := hk _ rfl
      simp only [ok_chance, Bool.or_eq_true, beq_iff_eq] at h1
      rcases h1 with rfl | rfl
      · exact ⟨_, hd_chance_0, rfl, rfl, rfl, rfl⟩
      · exact ⟨_, hd_chance_1, rfl, rfl, rfl, rfl⟩
  · rcases o with o | o
    · obtain ⟨v, I0, L0⟩ := o
      obtain ⟨rfl, rfl, rfl⟩ := hq
      refine mj_i2l dL_chance_8 ?_
      refine mj_last (i := 0) (x := v.toInt64) s0_98 (by decide) (mj_ib_in (by decide +kernel)) dL_chance_9 ?_
      refine mj_goto 21 dL_chance_10 (by decide) ?_
      refine mj_iconst (v := 0) dL_chance_21 (by decide +kernel) ?_
      exact mj_iretv hR mj_ag.rf ⟨Nat.le_of_ble_eq_true rfl, Nat.le_of_ble_eq_true rfl⟩ rfl rfl dL_chance_22 ⟨rfl, rfl, rfl, rfl⟩
    · exact absurd hq (fun h => h)
-- told
abbrev hh_told : List (Nat × Nat × Nat × Nat) := [(0, 9, 12, 13)]
theorem hd_told_1 : mj_hd RL cL_told 4 hh_told 4 (mj_en 1) 1 := ⟨[], ⟨0, 9, 12, 13⟩, [], "java/lang/IllegalArgumentException", 3, 1, 1, rfl, (fun q hq => absurd hq List.not_mem_nil), rfl, by decide, mj_seg_3 (j := 59) (by decide +kernel) rfl, by decide +kernel, by decide, Or.inr ⟨3, rfl, dL_told_12, rfl⟩, dL_told_13, by decide +kernel, dL_told_14⟩
def wk_told (k : Nat) : Int32 := match k with
  | 1 => 1
  | _ => 0
def ok_told (k : Nat) : Bool := k == 1
def wr_told (o : (Int32 × mj_IT × mj_LT) ⊕ (Nat × mj_IT × mj_LT)) : Int32 × mj_IT × mj_LT := Sum.elim (fun o => (0, o.2.1, va_up o.2.2 98 (vp_updL (o.2.2 98) 0 o.1.toInt64))) (fun o => (wk_told o.1, o.2.1, o.2.2)) o
set_option maxRecDepth 100000 in
set_option maxHeartbeats 4000000 in
theorem csL_told (l : Launch) (G : mj_GT) (hlt : l.stackTraces = false) (F : Nat) (x1 : Int32) (I : mj_IT) (L : mj_LT) (o : (Int32 × mj_IT × mj_LT) ⊕ (Nat × mj_IT × mj_LT)) (hf : stX10_told F I L x1 = some o) (hk : ∀ q, o = .inr q → ok_told q.1 = true) : mj_MW l G yL_told cL_told 4 10 (some .int) hh_told 1 6 mj_P0 mj_S0 98 [.ref 1, .int x1, .ref 98] I L (fun rv P2 I2 L2 => rv = some (.int (wr_told o).1) ∧ P2 = mj_P0 ∧ I2 = (wr_told o).2.1 ∧ L2 = (wr_told o).2.2) := by
  refine mj_inw RL "told" [(0, .ref 1), (1, .int x1), (2, .ref 98)] rfl rfl rfl (by decide) (Nat.le_of_ble_eq_true rfl) (fun X ad hR hT => ?_)
  have hM := csX10_told l G hlt F x1 I L o hf
  refine mj_aload_n 2 dL_told_0 rfl ?_
  refine mj_iconst (v := 0) dL_told_1 (by decide +kernel) ?_
  refine mj_aload_n 0 dL_told_2 rfl ?_
  refine mj_iload_n 1 dL_told_3 rfl ?_
  refine mj_callC (st := [.int 0, .ref 98]) [.int x1] hR hT hM cw_L_24 s0_1 (by decide) (by decide) rfl rfl (Nat.le_of_ble_eq_true rfl) ⟨Nat.le_of_ble_eq_true rfl, Nat.le_of_ble_eq_true rfl⟩ rfl dL_told_4 (fun E I1 L1 hq => ?_) (fun r I1 L1 hq => ?_)
  · rcases o with o | o
    · exact absurd hq (fun h => h)
    · obtain ⟨k, I0, L0⟩ := o
      obtain ⟨rfl, rfl, rfl⟩ := hq
      have h1 := hk _ rfl
      simp only [ok_told, Bool.or_eq_true, beq_iff_eq] at h1
      subst h1
      exact ⟨_, hd_told_1, rfl, rfl, rfl, rfl⟩
  · rcases o with o | o
    · obtain ⟨v, I0, L0⟩ := o
      obtain ⟨rfl, rfl, rfl⟩ := hq
      refine mj_i2l dL_told_7 ?_
      refine mj_last (i := 0) (x := v.toInt64) s0_98 (by decide) (mj_ib_in (by decide +kernel)) dL_told_8 ?_
      refine mj_goto 15 dL_told_9 (by decide) ?_
      refine mj_iconst (v := 0) dL_told_15 (by decide +kernel) ?_
      exact mj_iretv hR mj_ag.rf ⟨Nat.le_of_ble_eq_true rfl, Nat.le_of_ble_eq_true rfl⟩ rfl rfl dL_told_16 ⟨rfl, rfl, rfl, rfl⟩
    · exact absurd hq (fun h => h)
-- statement
abbrev hh_statement : List (Nat × Nat × Nat × Nat) := [(0, 10, 13, 19), (0, 10, 17, 13)]
theorem hd_statement_0 : mj_hd RL cL_statement 5 hh_statement 5 (mj_en 0) 1 := ⟨[], ⟨0, 10, 13, 19⟩, [⟨0, 10, 17, 13⟩], "java/util/NoSuchElementException", 4, 2, 1, rfl, (fun q hq => absurd hq List.not_mem_nil), rfl, by decide, mj_seg_4 (j := 64) (by decide +kernel) rfl, by decide +kernel, by decide, Or.inl ⟨dL_statement_13, rfl⟩, dL_statement_15, by decide +kernel, dL_statement_16⟩
theorem hd_statement_1 : mj_hd RL cL_statement 5 hh_statement 5 (mj_en 1) 2 := ⟨[⟨0, 10, 13, 19⟩], ⟨0, 10, 17, 13⟩, [], "java/lang/IllegalArgumentException", 4, 2, 2, rfl, (fun q hq => by
    simp only [List.mem_cons, List.not_mem_nil, or_false] at hq
    rcases hq with rfl
    · exact Or.inr ⟨by decide, "java/util/NoSuchElementException", mj_seg_4 (j := 64) (by decide +kernel) rfl, by decide +kernel⟩), rfl, by decide, mj_seg_3 (j := 59) (by decide +kernel) rfl, by decide +kernel, by decide, Or.inl ⟨dL_statement_17, rfl⟩, dL_statement_19, by decide +kernel, dL_statement_20⟩
def wk_statement (k : Nat) : Int32 := match k with
  | 0 => 1
  | 1 => 2
  | _ => 0
def ok_statement (k : Nat) : Bool := k == 0 || (k == 1)
def wr_statement (o : (Int32 × mj_IT × mj_LT) ⊕ (Nat × mj_IT × mj_LT)) : Int32 × mj_IT × mj_LT := Sum.elim (fun o => (0, o.2.1, va_up o.2.2 98 (vp_updL (o.2.2 98) 0 o.1.toInt64))) (fun o => (wk_statement o.1, o.2.1, o.2.2)) o
set_option maxRecDepth 100000 in
set_option maxHeartbeats 4000000 in
theorem csL_statement (l : Launch) (G : mj_GT) (hlt : l.stackTraces = false) (F : Nat) (x1 : Int32) (x2 : Int32) (I : mj_IT) (L : mj_LT) (o : (Int32 × mj_IT × mj_LT) ⊕ (Nat × mj_IT × mj_LT)) (hf : stX10_statement F I L x1 x2 = some o) (hk : ∀ q, o = .inr q → ok_statement q.1 = true) : mj_MW l G yL_statement cL_statement 5 10 (some .int) hh_statement 2 12 mj_P0 mj_S0 98 [.ref 1, .int x1, .int x2, .ref 98] I L (fun rv P2 I2 L2 => rv = some (.int (wr_statement o).1) ∧ P2 = mj_P0 ∧ I2 = (wr_statement o).2.1 ∧ L2 = (wr_statement o).2.2) := by
  refine mj_inw RL "statement" [(0, .ref 1), (1, .int x1), (2, .int x2), (3, .ref 98)] rfl rfl rfl (by decide) (Nat.le_of_ble_eq_true rfl) (fun X ad hR hT => ?_)
  have hM := csX10_statement l G hlt F x1 x2 I L o hf
  refine mj_aload_n 3 dL_statement_0 rfl ?_
  refine mj_iconst (v := 0) dL_statement_1 (by decide +kernel) ?_
  refine mj_aload_n 0 dL_statement_2 rfl ?_
  refine mj_iload_n 1 dL_statement_3 rfl ?_
  refine mj_iload_n 2 dL_statement_4 rfl ?_
  refine mj_callC (st := [.int 0, .ref 98]) [.int x1, .int x2] hR hT hM cw_L_27 s0_1 (by decide) (by decide) rfl rfl (Nat.le_of_ble_eq_true rfl) ⟨Nat.le_of_ble_eq_true rfl, Nat.le_of_ble_eq_true rfl⟩ rfl dL_statement_5 (fun E I1 L1 hq => ?_) (fun r I1 L1 hq => ?_)
  · rcases o with o | o
    · exact absurd hq (fun h => h)
    · obtain ⟨k, I0, L0⟩ := o
      obtain ⟨rfl, rfl, rfl⟩ := hq
      have h1 := hk _ rfl
      simp only [ok_statement, Bool.or_eq_true, beq_iff_eq] at h1
      rcases h1 with rfl | rfl
      · exact ⟨_, hd_statement_0, rfl, rfl, rfl, rfl⟩
      · exact ⟨_, hd_statement_1, rfl, rfl, rfl, rfl⟩
  · rcases o with o | o
    · obtain ⟨v, I0, L0⟩ := o
      obtain ⟨rfl, rfl, rfl⟩ := hq
      refine mj_i2l dL_statement_8 ?_
      refine mj_last (i := 0) (x := v.toInt64) s0_98 (by decide) (mj_ib_in (by decide +kernel)) dL_statement_9 ?_
      refine mj_goto 21 dL_statement_10 (by decide) ?_
      refine mj_iconst (v := 0) dL_statement_21 (by decide +kernel) ?_
      exact mj_iretv hR mj_ag.rf ⟨Nat.le_of_ble_eq_true rfl, Nat.le_of_ble_eq_true rfl⟩ rfl rfl dL_statement_22 ⟨rfl, rfl, rfl, rfl⟩
    · exact absurd hq (fun h => h)
-- firstOf
abbrev hh_firstOf : List (Nat × Nat × Nat × Nat) := [(0, 9, 12, 19)]
theorem hd_firstOf_0 : mj_hd RL cL_firstOf 4 hh_firstOf 4 (mj_en 0) 1 := ⟨[], ⟨0, 9, 12, 19⟩, [], "java/util/NoSuchElementException", 3, 1, 1, rfl, (fun q hq => absurd hq List.not_mem_nil), rfl, by decide, mj_seg_4 (j := 64) (by decide +kernel) rfl, by decide +kernel, by decide, Or.inr ⟨3, rfl, dL_firstOf_12, rfl⟩, dL_firstOf_13, by decide +kernel, dL_firstOf_14⟩
def wk_firstOf (k : Nat) : Int32 := match k with
  | 0 => 1
  | _ => 0
def ok_firstOf (k : Nat) : Bool := k == 0
def wr_firstOf (o : (Int32 × mj_IT × mj_LT) ⊕ (Nat × mj_IT × mj_LT)) : Int32 × mj_IT × mj_LT := Sum.elim (fun o => (0, o.2.1, va_up o.2.2 98 (vp_updL (o.2.2 98) 0 o.1.toInt64))) (fun o => (wk_firstOf o.1, o.2.1, o.2.2)) o
set_option maxRecDepth 100000 in
set_option maxHeartbeats 4000000 in
theorem csL_firstOf (l : Launch) (G : mj_GT) (hlt : l.stackTraces = false) (F : Nat) (x1 : Int32) (I : mj_IT) (L : mj_LT) (o : (Int32 × mj_IT × mj_LT) ⊕ (Nat × mj_IT × mj_LT)) (hf : stX10_firstOf F I L x1 = some o) (hk : ∀ q, o = .inr q → ok_firstOf q.1 = true) : mj_MW l G yL_firstOf cL_firstOf 4 10 (some .int) hh_firstOf 1 6 mj_P0 mj_S0 98 [.ref 1, .int x1, .ref 98] I L (fun rv P2 I2 L2 => rv = some (.int (wr_firstOf o).1) ∧ P2 = mj_P0 ∧ I2 = (wr_firstOf o).2.1 ∧ L2 = (wr_firstOf o).2.2) := by
  refine mj_inw RL "firstOf" [(0, .ref 1), (1, .int x1), (2, .ref 98)] rfl rfl rfl (by decide) (Nat.le_of_ble_eq_true rfl) (fun X ad hR hT => ?_)
  have hM := csX10_firstOf l G hlt F x1 I L o hf
  refine mj_aload_n 2 dL_firstOf_0 rfl ?_
  refine mj_iconst (v := 0) dL_firstOf_1 (by decide +kernel) ?_
  refine mj_aload_n 0 dL_firstOf_2 rfl ?_
  refine mj_iload_n 1 dL_firstOf_3 rfl ?_
  refine mj_callC (st := [.int 0, .ref 98]) [.int x1] hR hT hM cw_L_30 s0_1 (by decide) (by decide) rfl rfl (Nat.le_of_ble_eq_true rfl) ⟨Nat.le_of_ble_eq_true rfl, Nat.le_of_ble_eq_true rfl⟩ rfl dL_firstOf_4 (fun E I1 L1 hq => ?_) (fun r I1 L1 hq => ?_)
  · rcases o with o | o
    · exact absurd hq (fun h => h)
    · obtain ⟨k, I0, L0⟩ := o
      obtain ⟨rfl, rfl, rfl⟩ := hq
      have h1 := hk _ rfl
      simp only [ok_firstOf, Bool.or_eq_true, beq_iff_eq] at h1
      subst h1
      exact ⟨_, hd_firstOf_0, rfl, rfl, rfl, rfl⟩
  · rcases o with o | o
    · obtain ⟨v, I0, L0⟩ := o
      obtain ⟨rfl, rfl, rfl⟩ := hq
      refine mj_i2l dL_firstOf_7 ?_
      refine mj_last (i := 0) (x := v.toInt64) s0_98 (by decide) (mj_ib_in (by decide +kernel)) dL_firstOf_8 ?_
      refine mj_goto 15 dL_firstOf_9 (by decide) ?_
      refine mj_iconst (v := 0) dL_firstOf_15 (by decide +kernel) ?_
      exact mj_iretv hR mj_ag.rf ⟨Nat.le_of_ble_eq_true rfl, Nat.le_of_ble_eq_true rfl⟩ rfl rfl dL_firstOf_16 ⟨rfl, rfl, rfl, rfl⟩
    · exact absurd hq (fun h => h)
-- state
abbrev hh_state : List (Nat × Nat × Nat × Nat) := [(0, 10, 13, 36), (0, 10, 17, 19), (0, 10, 21, 13)]
theorem hd_state_2 : mj_hd RL cL_state 5 hh_state 5 (mj_en 2) 1 := ⟨[], ⟨0, 10, 13, 36⟩, [⟨0, 10, 17, 19⟩, ⟨0, 10, 21, 13⟩], "java/lang/IllegalStateException", 4, 2, 1, rfl, (fun q hq => absurd hq List.not_mem_nil), rfl, by decide, mj_seg_4 (j := 140) (by decide +kernel) rfl, by decide +kernel, by decide, Or.inl ⟨dL_state_13, rfl⟩, dL_state_15, by decide +kernel, dL_state_16⟩
theorem hd_state_0 : mj_hd RL cL_state 5 hh_state 5 (mj_en 0) 2 := ⟨[⟨0, 10, 13, 36⟩], ⟨0, 10, 17, 19⟩, [⟨0, 10, 21, 13⟩], "java/util/NoSuchElementException", 4, 2, 2, rfl, (fun q hq => by
    simp only [List.mem_cons, List.not_mem_nil, or_false] at hq
    rcases hq with rfl
    · exact Or.inr ⟨by decide, "java/lang/IllegalStateException", mj_seg_4 (j := 140) (by decide +kernel) rfl, by decide +kernel⟩), rfl, by decide, mj_seg_4 (j := 64) (by decide +kernel) rfl, by decide +kernel, by decide, Or.inl ⟨dL_state_17, rfl⟩, dL_state_19, by decide +kernel, dL_state_20⟩
theorem hd_state_1 : mj_hd RL cL_state 5 hh_state 5 (mj_en 1) 3 := ⟨[⟨0, 10, 13, 36⟩, ⟨0, 10, 17, 19⟩], ⟨0, 10, 21, 13⟩, [], "java/lang/IllegalArgumentException", 4, 2, 3, rfl, (fun q hq => by
    simp only [List.mem_cons, List.not_mem_nil, or_false] at hq
    rcases hq with rfl | rfl
    · exact Or.inr ⟨by decide, "java/lang/IllegalStateException", mj_seg_4 (j := 140) (by decide +kernel) rfl, by decide +kernel⟩
    · exact Or.inr ⟨by decide, "java/util/NoSuchElementException", mj_seg_4 (j := 64) (by decide +kernel) rfl, by decide +kernel⟩), rfl, by decide, mj_seg_3 (j := 59) (by decide +kernel) rfl, by decide +kernel, by decide, Or.inl ⟨dL_state_21, rfl⟩, dL_state_23, by decide +kernel, dL_state_24⟩
def wk_state (k : Nat) : Int32 := match k with
  | 0 => 2
  | 1 => 3
  | 2 => 1
  | _ => 0
def ok_state (k : Nat) : Bool := k == 0 || (k == 1 || (k == 2))
def wr_state (o : (Int32 × mj_IT × mj_LT) ⊕ (Nat × mj_IT × mj_LT)) : Int32 × mj_IT × mj_LT := Sum.elim (fun o => (0, o.2.1, va_up o.2.2 98 (vp_updL (o.2.2 98) 0 o.1.toInt64))) (fun o => (wk_state o.1, o.2.1, o.2.2)) o
set_option maxRecDepth 100000 in
set_option maxHeartbeats 4000000 in
theorem csL_state (l : Launch) (G : mj_GT) (hlt : l.stackTraces = false) (F : Nat) (x1 : Int32) (x2 : Int32) (I : mj_IT) (L : mj_LT) (o : (Int32 × mj_IT × mj_LT) ⊕ (Nat × mj_IT × mj_LT)) (hf : stX10_state F I L x1 x2 = some o) (hk : ∀ q, o = .inr q → ok_state q.1 = true) : mj_MW l G yL_state cL_state 5 10 (some .int) hh_state 3 18 mj_P0 mj_S0 98 [.ref 1, .int x1, .int x2, .ref 98] I L (fun rv P2 I2 L2 => rv = some (.int (wr_state o).1) ∧ P2 = mj_P0 ∧ I2 = (wr_state o).2.1 ∧ L2 = (wr_state o).2.2) := by
  refine mj_inw RL "state" [(0, .ref 1), (1, .int x1), (2, .int x2), (3, .ref 98)] rfl rfl rfl (by decide) (Nat.le_of_ble_eq_true rfl) (fun X ad hR hT => ?_)
  have hM := csX10_state l G hlt F x1 x2 I L o hf
  refine mj_aload_n 3 dL_state_0 rfl ?_
  refine mj_iconst (v := 0) dL_state_1 (by decide +kernel) ?_
  refine mj_aload_n 0 dL_state_2 rfl ?_
  refine mj_iload_n 1 dL_state_3 rfl ?_
  refine mj_iload_n 2 dL_state_4 rfl ?_
  refine mj_callC (st := [.int 0, .ref 98]) [.int x1, .int x2] hR hT hM cw_L_33 s0_1 (by decide) (by decide) rfl rfl (Nat.le_of_ble_eq_true rfl) ⟨Nat.le_of_ble_eq_true rfl, Nat.le_of_ble_eq_true rfl⟩ rfl dL_state_5 (fun E I1 L1 hq => ?_) (fun r I1 L1 hq => ?_)
  · rcases o with o | o
    · exact absurd hq (fun h => h)
    · obtain ⟨k, I0, L0⟩ := o
      obtain ⟨rfl, rfl, rfl⟩ := hq
      have h1 := hk _ rfl
      simp only [ok_state, Bool.or_eq_true, beq_iff_eq] at h1
      rcases h1 with rfl | rfl | rfl
      · exact ⟨_, hd_state_0, rfl, rfl, rfl, rfl⟩
      · exact ⟨_, hd_state_1, rfl, rfl, rfl, rfl⟩
      · exact ⟨_, hd_state_2, rfl, rfl, rfl, rfl⟩
  · rcases o with o | o
    · obtain ⟨v, I0, L0⟩ := o
      obtain ⟨rfl, rfl, rfl⟩ := hq
      refine mj_i2l dL_state_8 ?_
      refine mj_last (i := 0) (x := v.toInt64) s0_98 (by decide) (mj_ib_in (by decide +kernel)) dL_state_9 ?_
      refine mj_goto 25 dL_state_10 (by decide) ?_
      refine mj_iconst (v := 0) dL_state_25 (by decide +kernel) ?_
      exact mj_iretv hR mj_ag.rf ⟨Nat.le_of_ble_eq_true rfl, Nat.le_of_ble_eq_true rfl⟩ rfl rfl dL_state_26 ⟨rfl, rfl, rfl, rfl⟩
    · exact absurd hq (fun h => h)
-- arc
abbrev hh_arc : List (Nat × Nat × Nat × Nat) := [(0, 12, 15, 36), (0, 12, 19, 19), (0, 12, 23, 13)]
theorem hd_arc_2 : mj_hd RL cL_arc 6 hh_arc 7 (mj_en 2) 1 := ⟨[], ⟨0, 12, 15, 36⟩, [⟨0, 12, 19, 19⟩, ⟨0, 12, 23, 13⟩], "java/lang/IllegalStateException", 5, 2, 1, rfl, (fun q hq => absurd hq List.not_mem_nil), rfl, by decide, mj_seg_4 (j := 140) (by decide +kernel) rfl, by decide +kernel, by decide, Or.inl ⟨dL_arc_15, rfl⟩, dL_arc_17, by decide +kernel, dL_arc_18⟩
theorem hd_arc_0 : mj_hd RL cL_arc 6 hh_arc 7 (mj_en 0) 2 := ⟨[⟨0, 12, 15, 36⟩], ⟨0, 12, 19, 19⟩, [⟨0, 12, 23, 13⟩], "java/util/NoSuchElementException", 5, 2, 2, rfl, (fun q hq => by
    simp only [List.mem_cons, List.not_mem_nil, or_false] at hq
    rcases hq with rfl
    · exact Or.inr ⟨by decide, "java/lang/IllegalStateException", mj_seg_4 (j := 140) (by decide +kernel) rfl, by decide +kernel⟩), rfl, by decide, mj_seg_4 (j := 64) (by decide +kernel) rfl, by decide +kernel, by decide, Or.inl ⟨dL_arc_19, rfl⟩, dL_arc_21, by decide +kernel, dL_arc_22⟩
theorem hd_arc_1 : mj_hd RL cL_arc 6 hh_arc 7 (mj_en 1) 3 := ⟨[⟨0, 12, 15, 36⟩, ⟨0, 12, 19, 19⟩], ⟨0, 12, 23, 13⟩, [], "java/lang/IllegalArgumentException", 5, 2, 3, rfl, (fun q hq => by
    simp only [List.mem_cons, List.not_mem_nil, or_false] at hq
    rcases hq with rfl | rfl
    · exact Or.inr ⟨by decide, "java/lang/IllegalStateException", mj_seg_4 (j := 140) (by decide +kernel) rfl, by decide +kernel⟩
    · exact Or.inr ⟨by decide, "java/util/NoSuchElementException", mj_seg_4 (j := 64) (by decide +kernel) rfl, by decide +kernel⟩), rfl, by decide, mj_seg_3 (j := 59) (by decide +kernel) rfl, by decide +kernel, by decide, Or.inl ⟨dL_arc_23, rfl⟩, dL_arc_25, by decide +kernel, dL_arc_26⟩
def wk_arc (k : Nat) : Int32 := match k with
  | 0 => 2
  | 1 => 3
  | 2 => 1
  | _ => 0
def ok_arc (k : Nat) : Bool := k == 0 || (k == 1 || (k == 2))
def wr_arc (o : (Int32 × mj_IT × mj_LT) ⊕ (Nat × mj_IT × mj_LT)) : Int32 × mj_IT × mj_LT := Sum.elim (fun o => (0, o.2.1, va_up o.2.2 98 (vp_updL (o.2.2 98) 0 o.1.toInt64))) (fun o => (wk_arc o.1, o.2.1, o.2.2)) o
set_option maxRecDepth 100000 in
set_option maxHeartbeats 4000000 in
theorem csL_arc (l : Launch) (G : mj_GT) (hlt : l.stackTraces = false) (F : Nat) (x1 : Int32) (x2 : Int32) (x3 : Int32) (I : mj_IT) (L : mj_LT) (o : (Int32 × mj_IT × mj_LT) ⊕ (Nat × mj_IT × mj_LT)) (hf : stX10_arc F I L x1 x2 x3 = some o) (hk : ∀ q, o = .inr q → ok_arc q.1 = true) : mj_MW l G yL_arc cL_arc 6 10 (some .int) hh_arc 4 24 mj_P0 mj_S0 98 [.ref 1, .int x1, .int x2, .int x3, .ref 98] I L (fun rv P2 I2 L2 => rv = some (.int (wr_arc o).1) ∧ P2 = mj_P0 ∧ I2 = (wr_arc o).2.1 ∧ L2 = (wr_arc o).2.2) := by
  refine mj_inw RL "arc" [(0, .ref 1), (1, .int x1), (2, .int x2), (3, .int x3), (4, .ref 98)] rfl rfl rfl (by decide) (Nat.le_of_ble_eq_true rfl) (fun X ad hR hT => ?_)
  have hM := csX10_arc l G hlt F x1 x2 x3 I L o hf
  refine mj_aload 4 dL_arc_0 rfl ?_
  refine mj_iconst (v := 0) dL_arc_2 (by decide +kernel) ?_
  refine mj_aload_n 0 dL_arc_3 rfl ?_
  refine mj_iload_n 1 dL_arc_4 rfl ?_
  refine mj_iload_n 2 dL_arc_5 rfl ?_
  refine mj_iload_n 3 dL_arc_6 rfl ?_
  refine mj_callC (st := [.int 0, .ref 98]) [.int x1, .int x2, .int x3] hR hT hM cw_L_38 s0_1 (by decide) (by decide) rfl rfl (Nat.le_of_ble_eq_true rfl) ⟨Nat.le_of_ble_eq_true rfl, Nat.le_of_ble_eq_true rfl⟩ rfl dL_arc_7 (fun E I1 L1 hq => ?_) (fun r I1 L1 hq => ?_)
  · rcases o with o | o
    · exact absurd hq (fun h => h)
    · obtain ⟨k, I0, L0⟩ := o
      obtain ⟨rfl, rfl, rfl⟩ := hq
      have h1 := hk _ rfl
      simp only [ok_arc, Bool.or_eq_true, beq_iff_eq] at h1
      rcases h1 with rfl | rfl | rfl
      · exact ⟨_, hd_arc_0, rfl, rfl, rfl, rfl⟩
      · exact ⟨_, hd_arc_1, rfl, rfl, rfl, rfl⟩
      · exact ⟨_, hd_arc_2, rfl, rfl, rfl, rfl⟩
  · rcases o with o | o
    · obtain ⟨v, I0, L0⟩ := o
      obtain ⟨rfl, rfl, rfl⟩ := hq
      refine mj_i2l dL_arc_10 ?_
      refine mj_last (i := 0) (x := v.toInt64) s0_98 (by decide) (mj_ib_in (by decide +kernel)) dL_arc_11 ?_
      refine mj_goto 27 dL_arc_12 (by decide) ?_
      refine mj_iconst (v := 0) dL_arc_27 (by decide +kernel) ?_
      exact mj_iretv hR mj_ag.rf ⟨Nat.le_of_ble_eq_true rfl, Nat.le_of_ble_eq_true rfl⟩ rfl rfl dL_arc_28 ⟨rfl, rfl, rfl, rfl⟩
    · exact absurd hq (fun h => h)
-- total
abbrev hh_total : List (Nat × Nat × Nat × Nat) := [(0, 10, 13, 36), (0, 10, 17, 13)]
theorem hd_total_2 : mj_hd RL cL_total 5 hh_total 5 (mj_en 2) 1 := ⟨[], ⟨0, 10, 13, 36⟩, [⟨0, 10, 17, 13⟩], "java/lang/IllegalStateException", 4, 2, 1, rfl, (fun q hq => absurd hq List.not_mem_nil), rfl, by decide, mj_seg_4 (j := 140) (by decide +kernel) rfl, by decide +kernel, by decide, Or.inl ⟨dL_total_13, rfl⟩, dL_total_15, by decide +kernel, dL_total_16⟩
theorem hd_total_1 : mj_hd RL cL_total 5 hh_total 5 (mj_en 1) 2 := ⟨[⟨0, 10, 13, 36⟩], ⟨0, 10, 17, 13⟩, [], "java/lang/IllegalArgumentException", 4, 2, 2, rfl, (fun q hq => by
    simp only [List.mem_cons, List.not_mem_nil, or_false] at hq
    rcases hq with rfl
    · exact Or.inr ⟨by decide, "java/lang/IllegalStateException", mj_seg_4 (j := 140) (by decide +kernel) rfl, by decide +kernel⟩), rfl, by decide, mj_seg_3 (j := 59) (by decide +kernel) rfl, by decide +kernel, by decide, Or.inl ⟨dL_total_17, rfl⟩, dL_total_19, by decide +kernel, dL_total_20⟩
def wk_total (k : Nat) : Int32 := match k with
  | 1 => 2
  | 2 => 1
  | _ => 0
def ok_total (k : Nat) : Bool := k == 1 || (k == 2)
def wr_total (o : (Int32 × mj_IT × mj_LT) ⊕ (Nat × mj_IT × mj_LT)) : Int32 × mj_IT × mj_LT := Sum.elim (fun o => (0, o.2.1, va_up o.2.2 98 (vp_updL (o.2.2 98) 0 o.1.toInt64))) (fun o => (wk_total o.1, o.2.1, o.2.2)) o
set_option maxRecDepth 100000 in
set_option maxHeartbeats 4000000 in
theorem csL_total (l : Launch) (G : mj_GT) (hlt : l.stackTraces = false) (F : Nat) (x1 : Int32) (x2 : Int32) (I : mj_IT) (L : mj_LT) (o : (Int32 × mj_IT × mj_LT) ⊕ (Nat × mj_IT × mj_LT)) (hf : stX10_total F I L x1 x2 = some o) (hk : ∀ q, o = .inr q → ok_total q.1 = true) : mj_MW l G yL_total cL_total 5 11 (some .int) hh_total 3 18 mj_P0 mj_S0 98 [.ref 1, .int x1, .int x2, .ref 98] I L (fun rv P2 I2 L2 => rv = some (.int (wr_total o).1) ∧ P2 = mj_P0 ∧ I2 = (wr_total o).2.1 ∧ L2 = (wr_total o).2.2) := by
  refine mj_inw RL "total" [(0, .ref 1), (1, .int x1), (2, .int x2), (3, .ref 98)] rfl rfl rfl (by decide) (Nat.le_of_ble_eq_true rfl) (fun X ad hR hT => ?_)
  have hM := csX10_total l G hlt F x1 x2 I L o hf
  refine mj_aload_n 3 dL_total_0 rfl ?_
  refine mj_iconst (v := 0) dL_total_1 (by decide +kernel) ?_
  refine mj_aload_n 0 dL_total_2 rfl ?_
  refine mj_iload_n 1 dL_total_3 rfl ?_
  refine mj_iload_n 2 dL_total_4 rfl ?_
  refine mj_callC (st := [.int 0, .ref 98]) [.int x1, .int x2] hR hT hM cw_L_42 s0_1 (by decide) (by decide) rfl rfl (Nat.le_of_ble_eq_true rfl) ⟨Nat.le_of_ble_eq_true rfl, Nat.le_of_ble_eq_true rfl⟩ rfl dL_total_5 (fun E I1 L1 hq => ?_) (fun r I1 L1 hq => ?_)
  · rcases o with o | o
    · exact absurd hq (fun h => h)
    · obtain ⟨k, I0, L0⟩ := o
      obtain ⟨rfl, rfl, rfl⟩ := hq
      have h1 := hk _ rfl
      simp only [ok_total, Bool.or_eq_true, beq_iff_eq] at h1
      rcases h1 with rfl | rfl
      · exact ⟨_, hd_total_1, rfl, rfl, rfl, rfl⟩
      · exact ⟨_, hd_total_2, rfl, rfl, rfl, rfl⟩
  · rcases o with o | o
    · obtain ⟨v, I0, L0⟩ := o
      obtain ⟨rfl, rfl, rfl⟩ := hq
      refine mj_i2l dL_total_8 ?_
      refine mj_last (i := 0) (x := v.toInt64) s0_98 (by decide) (mj_ib_in (by decide +kernel)) dL_total_9 ?_
      refine mj_goto 21 dL_total_10 (by decide) ?_
      refine mj_iconst (v := 0) dL_total_21 (by decide +kernel) ?_
      exact mj_iretv hR mj_ag.rf ⟨Nat.le_of_ble_eq_true rfl, Nat.le_of_ble_eq_true rfl⟩ rfl rfl dL_total_22 ⟨rfl, rfl, rfl, rfl⟩
    · exact absurd hq (fun h => h)
-- value
abbrev hh_value : List (Nat × Nat × Nat × Nat) := [(0, 12, 15, 36), (0, 12, 19, 19), (0, 12, 23, 13)]
theorem hd_value_2 : mj_hd RL cL_value 6 hh_value 7 (mj_en 2) 1 := ⟨[], ⟨0, 12, 15, 36⟩, [⟨0, 12, 19, 19⟩, ⟨0, 12, 23, 13⟩], "java/lang/IllegalStateException", 5, 2, 1, rfl, (fun q hq => absurd hq List.not_mem_nil), rfl, by decide, mj_seg_4 (j := 140) (by decide +kernel) rfl, by decide +kernel, by decide, Or.inl ⟨dL_value_15, rfl⟩, dL_value_17, by decide +kernel, dL_value_18⟩
theorem hd_value_0 : mj_hd RL cL_value 6 hh_value 7 (mj_en 0) 2 := ⟨[⟨0, 12, 15, 36⟩], ⟨0, 12, 19, 19⟩, [⟨0, 12, 23, 13⟩], "java/util/NoSuchElementException", 5, 2, 2, rfl, (fun q hq => by
    simp only [List.mem_cons, List.not_mem_nil, or_false] at hq
    rcases hq with rfl
    · exact Or.inr ⟨by decide, "java/lang/IllegalStateException", mj_seg_4 (j := 140) (by decide +kernel) rfl, by decide +kernel⟩), rfl, by decide, mj_seg_4 (j := 64) (by decide +kernel) rfl, by decide +kernel, by decide, Or.inl ⟨dL_value_19, rfl⟩, dL_value_21, by decide +kernel, dL_value_22⟩
theorem hd_value_1 : mj_hd RL cL_value 6 hh_value 7 (mj_en 1) 3 := ⟨[⟨0, 12, 15, 36⟩, ⟨0, 12, 19, 19⟩], ⟨0, 12, 23, 13⟩, [], "java/lang/IllegalArgumentException", 5, 2, 3, rfl, (fun q hq => by
    simp only [List.mem_cons, List.not_mem_nil, or_false] at hq
    rcases hq with rfl | rfl
    · exact Or.inr ⟨by decide, "java/lang/IllegalStateException", mj_seg_4 (j := 140) (by decide +kernel) rfl, by decide +kernel⟩
    · exact Or.inr ⟨by decide, "java/util/NoSuchElementException", mj_seg_4 (j := 64) (by decide +kernel) rfl, by decide +kernel⟩), rfl, by decide, mj_seg_3 (j := 59) (by decide +kernel) rfl, by decide +kernel, by decide, Or.inl ⟨dL_value_23, rfl⟩, dL_value_25, by decide +kernel, dL_value_26⟩
def wk_value (k : Nat) : Int32 := match k with
  | 0 => 2
  | 1 => 3
  | 2 => 1
  | _ => 0
def ok_value (k : Nat) : Bool := k == 0 || (k == 1 || (k == 2))
def wr_value (o : (Int32 × mj_IT × mj_LT) ⊕ (Nat × mj_IT × mj_LT)) : Int32 × mj_IT × mj_LT := Sum.elim (fun o => (0, o.2.1, va_up o.2.2 98 (vp_updL (o.2.2 98) 0 o.1.toInt64))) (fun o => (wk_value o.1, o.2.1, o.2.2)) o
set_option maxRecDepth 100000 in
set_option maxHeartbeats 4000000 in
theorem csL_value (l : Launch) (G : mj_GT) (hlt : l.stackTraces = false) (F : Nat) (x1 : Int32) (x2 : Int32) (x3 : Int32) (I : mj_IT) (L : mj_LT) (o : (Int32 × mj_IT × mj_LT) ⊕ (Nat × mj_IT × mj_LT)) (hf : stX10_value F I L x1 x2 x3 = some o) (hk : ∀ q, o = .inr q → ok_value q.1 = true) : mj_MW l G yL_value cL_value 6 11 (some .int) hh_value 5 30 mj_P0 mj_S0 98 [.ref 1, .int x1, .int x2, .int x3, .ref 98] I L (fun rv P2 I2 L2 => rv = some (.int (wr_value o).1) ∧ P2 = mj_P0 ∧ I2 = (wr_value o).2.1 ∧ L2 = (wr_value o).2.2) := by
  refine mj_inw RL "value" [(0, .ref 1), (1, .int x1), (2, .int x2), (3, .int x3), (4, .ref 98)] rfl rfl rfl (by decide) (Nat.le_of_ble_eq_true rfl) (fun X ad hR hT => ?_)
  have hM := csX10_value l G hlt F x1 x2 x3 I L o hf
  refine mj_aload 4 dL_value_0 rfl ?_
  refine mj_iconst (v := 0) dL_value_2 (by decide +kernel) ?_
  refine mj_aload_n 0 dL_value_3 rfl ?_
  refine mj_iload_n 1 dL_value_4 rfl ?_
  refine mj_iload_n 2 dL_value_5 rfl ?_
  refine mj_iload_n 3 dL_value_6 rfl ?_
  refine mj_callC (st := [.int 0, .ref 98]) [.int x1, .int x2, .int x3] hR hT hM cw_L_45 s0_1 (by decide) (by decide) rfl rfl (Nat.le_of_ble_eq_true rfl) ⟨Nat.le_of_ble_eq_true rfl, Nat.le_of_ble_eq_true rfl⟩ rfl dL_value_7 (fun E I1 L1 hq => ?_) (fun r I1 L1 hq => ?_)
  · rcases o with o | o
    · exact absurd hq (fun h => h)
    · obtain ⟨k, I0, L0⟩ := o
      obtain ⟨rfl, rfl, rfl⟩ := hq
      have h1 := hk _ rfl
      simp only [ok_value, Bool.or_eq_true, beq_iff_eq] at h1
      rcases h1 with rfl | rfl | rfl
      · exact ⟨_, hd_value_0, rfl, rfl, rfl, rfl⟩
      · exact ⟨_, hd_value_1, rfl, rfl, rfl, rfl⟩
      · exact ⟨_, hd_value_2, rfl, rfl, rfl, rfl⟩
  · rcases o with o | o
    · obtain ⟨v, I0, L0⟩ := o
      obtain ⟨rfl, rfl, rfl⟩ := hq
      refine mj_i2l dL_value_10 ?_
      refine mj_last (i := 0) (x := v.toInt64) s0_98 (by decide) (mj_ib_in (by decide +kernel)) dL_value_11 ?_
      refine mj_goto 27 dL_value_12 (by decide) ?_
      refine mj_iconst (v := 0) dL_value_27 (by decide +kernel) ?_
      exact mj_iretv hR mj_ag.rf ⟨Nat.le_of_ble_eq_true rfl, Nat.le_of_ble_eq_true rfl⟩ rfl rfl dL_value_28 ⟨rfl, rfl, rfl, rfl⟩
    · exact absurd hq (fun h => h)
-- both
abbrev hh_both : List (Nat × Nat × Nat × Nat) := [(0, 16, 19, 36), (0, 16, 23, 19), (0, 16, 27, 13)]
theorem hd_both_2 : mj_hd RL cL_both 8 hh_both 11 (mj_en 2) 1 := ⟨[], ⟨0, 16, 19, 36⟩, [⟨0, 16, 23, 19⟩, ⟨0, 16, 27, 13⟩], "java/lang/IllegalStateException", 7, 2, 1, rfl, (fun q hq => absurd hq List.not_mem_nil), rfl, by decide, mj_seg_4 (j := 140) (by decide +kernel) rfl, by decide +kernel, by decide, Or.inl ⟨dL_both_19, rfl⟩, dL_both_21, by decide +kernel, dL_both_22⟩
theorem hd_both_0 : mj_hd RL cL_both 8 hh_both 11 (mj_en 0) 2 := ⟨[⟨0, 16, 19, 36⟩], ⟨0, 16, 23, 19⟩, [⟨0, 16, 27, 13⟩], "java/util/NoSuchElementException", 7, 2, 2, rfl, (fun q hq => by
    simp only [List.mem_cons, List.not_mem_nil, or_false] at hq
    rcases hq with rfl
    · exact Or.inr ⟨by decide, "java/lang/IllegalStateException", mj_seg_4 (j := 140) (by decide +kernel) rfl, by decide +kernel⟩), rfl, by decide, mj_seg_4 (j := 64) (by decide +kernel) rfl, by decide +kernel, by decide, Or.inl ⟨dL_both_23, rfl⟩, dL_both_25, by decide +kernel, dL_both_26⟩
theorem hd_both_1 : mj_hd RL cL_both 8 hh_both 11 (mj_en 1) 3 := ⟨[⟨0, 16, 19, 36⟩, ⟨0, 16, 23, 19⟩], ⟨0, 16, 27, 13⟩, [], "java/lang/IllegalArgumentException", 7, 2, 3, rfl, (fun q hq => by
    simp only [List.mem_cons, List.not_mem_nil, or_false] at hq
    rcases hq with rfl | rfl
    · exact Or.inr ⟨by decide, "java/lang/IllegalStateException", mj_seg_4 (j := 140) (by decide +kernel) rfl, by decide +kernel⟩
    · exact Or.inr ⟨by decide, "java/util/NoSuchElementException", mj_seg_4 (j := 64) (by decide +kernel) rfl, by decide +kernel⟩), rfl, by decide, mj_seg_3 (j := 59) (by decide +kernel) rfl, by decide +kernel, by decide, Or.inl ⟨dL_both_27, rfl⟩, dL_both_29, by decide +kernel, dL_both_30⟩
def wk_both (k : Nat) : Int32 := match k with
  | 0 => 2
  | 1 => 3
  | 2 => 1
  | _ => 0
def ok_both (k : Nat) : Bool := k == 0 || (k == 1 || (k == 2))
def wr_both (o : (Int32 × mj_IT × mj_LT) ⊕ (Nat × mj_IT × mj_LT)) : Int32 × mj_IT × mj_LT := Sum.elim (fun o => (0, o.2.1, va_up o.2.2 98 (vp_updL (o.2.2 98) 0 o.1.toInt64))) (fun o => (wk_both o.1, o.2.1, o.2.2)) o
set_option maxRecDepth 100000 in
set_option maxHeartbeats 4000000 in
theorem csL_both (l : Launch) (G : mj_GT) (hlt : l.stackTraces = false) (F : Nat) (x1 : Int32) (x2 : Int32) (x3 : Int32) (x4 : Int32) (x5 : Int32) (I : mj_IT) (L : mj_LT) (o : (Int32 × mj_IT × mj_LT) ⊕ (Nat × mj_IT × mj_LT)) (hf : stX10_both F I L x1 x2 x3 x4 x5 = some o) (hk : ∀ q, o = .inr q → ok_both q.1 = true) : mj_MW l G yL_both cL_both 8 11 (some .int) hh_both 7 42 mj_P0 mj_S0 98 [.ref 1, .int x1, .int x2, .int x3, .int x4, .int x5, .ref 98] I L (fun rv P2 I2 L2 => rv = some (.int (wr_both o).1) ∧ P2 = mj_P0 ∧ I2 = (wr_both o).2.1 ∧ L2 = (wr_both o).2.2) := by
  refine mj_inw RL "both" [(0, .ref 1), (1, .int x1), (2, .int x2), (3, .int x3), (4, .int x4), (5, .int x5), (6, .ref 98)] rfl rfl rfl (by decide) (Nat.le_of_ble_eq_true rfl) (fun X ad hR hT => ?_)
  have hM := csX10_both l G hlt F x1 x2 x3 x4 x5 I L o hf
  refine mj_aload 6 dL_both_0 rfl ?_
  refine mj_iconst (v := 0) dL_both_2 (by decide +kernel) ?_
  refine mj_aload_n 0 dL_both_3 rfl ?_
  refine mj_iload_n 1 dL_both_4 rfl ?_
  refine mj_iload_n 2 dL_both_5 rfl ?_
  refine mj_iload_n 3 dL_both_6 rfl ?_
  refine mj_iload 4 dL_both_7 rfl ?_
  refine mj_iload 5 dL_both_9 rfl ?_
  refine mj_callC (st := [.int 0, .ref 98]) [.int x1, .int x2, .int x3, .int x4, .int x5] hR hT hM cw_L_48 s0_1 (by decide) (by decide) rfl rfl (Nat.le_of_ble_eq_true rfl) ⟨Nat.le_of_ble_eq_true rfl, Nat.le_of_ble_eq_true rfl⟩ rfl dL_both_11 (fun E I1 L1 hq => ?_) (fun r I1 L1 hq => ?_)
  · rcases o with o | o
    · exact absurd hq (fun h => h)
    · obtain ⟨k, I0, L0⟩ := o
      obtain ⟨rfl, rfl, rfl⟩ := hq
      have h1 := hk _ rfl
      simp only [ok_both, Bool.or_eq_true, beq_iff_eq] at h1
      rcases h1 with rfl | rfl | rfl
      · exact ⟨_, hd_both_0, rfl, rfl, rfl, rfl⟩
      · exact ⟨_, hd_both_1, rfl, rfl, rfl, rfl⟩
      · exact ⟨_, hd_both_2, rfl, rfl, rfl, rfl⟩
  · rcases o with o | o
    · obtain ⟨v, I0, L0⟩ := o
      obtain ⟨rfl, rfl, rfl⟩ := hq
      refine mj_i2l dL_both_14 ?_
      refine mj_last (i := 0) (x := v.toInt64) s0_98 (by decide) (mj_ib_in (by decide +kernel)) dL_both_15 ?_
      refine mj_goto 31 dL_both_16 (by decide) ?_
      refine mj_iconst (v := 0) dL_both_31 (by decide +kernel) ?_
      exact mj_iretv hR mj_ag.rf ⟨Nat.le_of_ble_eq_true rfl, Nat.le_of_ble_eq_true rfl⟩ rfl rfl dL_both_32 ⟨rfl, rfl, rfl, rfl⟩
    · exact absurd hq (fun h => h)
-- mean
abbrev hh_mean : List (Nat × Nat × Nat × Nat) := [(0, 10, 13, 36), (0, 10, 17, 19), (0, 10, 21, 13)]
theorem hd_mean_2 : mj_hd RL cL_mean 5 hh_mean 5 (mj_en 2) 1 := ⟨[], ⟨0, 10, 13, 36⟩, [⟨0, 10, 17, 19⟩, ⟨0, 10, 21, 13⟩], "java/lang/IllegalStateException", 4, 2, 1, rfl, (fun q hq => absurd hq List.not_mem_nil), rfl, by decide, mj_seg_4 (j := 140) (by decide +kernel) rfl, by decide +kernel, by decide, Or.inl ⟨dL_mean_13, rfl⟩, dL_mean_15, by decide +kernel, dL_mean_16⟩
theorem hd_mean_0 : mj_hd RL cL_mean 5 hh_mean 5 (mj_en 0) 2 := ⟨[⟨0, 10, 13, 36⟩], ⟨0, 10, 17, 19⟩, [⟨0, 10, 21, 13⟩], "java/util/NoSuchElementException", 4, 2, 2, rfl, (fun q hq => by
    simp only [List.mem_cons, List.not_mem_nil, or_false] at hq
    rcases hq with rfl
    · exact Or.inr ⟨by decide, "java/lang/IllegalStateException", mj_seg_4 (j := 140) (by decide +kernel) rfl, by decide +kernel⟩), rfl, by decide, mj_seg_4 (j := 64) (by decide +kernel) rfl, by decide +kernel, by decide, Or.inl ⟨dL_mean_17, rfl⟩, dL_mean_19, by decide +kernel, dL_mean_20⟩
theorem hd_mean_1 : mj_hd RL cL_mean 5 hh_mean 5 (mj_en 1) 3 := ⟨[⟨0, 10, 13, 36⟩, ⟨0, 10, 17, 19⟩], ⟨0, 10, 21, 13⟩, [], "java/lang/IllegalArgumentException", 4, 2, 3, rfl, (fun q hq => by
    simp only [List.mem_cons, List.not_mem_nil, or_false] at hq
    rcases hq with rfl | rfl
    · exact Or.inr ⟨by decide, "java/lang/IllegalStateException", mj_seg_4 (j := 140) (by decide +kernel) rfl, by decide +kernel⟩
    · exact Or.inr ⟨by decide, "java/util/NoSuchElementException", mj_seg_4 (j := 64) (by decide +kernel) rfl, by decide +kernel⟩), rfl, by decide, mj_seg_3 (j := 59) (by decide +kernel) rfl, by decide +kernel, by decide, Or.inl ⟨dL_mean_21, rfl⟩, dL_mean_23, by decide +kernel, dL_mean_24⟩
def wk_mean (k : Nat) : Int32 := match k with
  | 0 => 2
  | 1 => 3
  | 2 => 1
  | _ => 0
def ok_mean (k : Nat) : Bool := k == 0 || (k == 1 || (k == 2))
def wr_mean (o : (Int32 × mj_IT × mj_LT) ⊕ (Nat × mj_IT × mj_LT)) : Int32 × mj_IT × mj_LT := Sum.elim (fun o => (0, o.2.1, va_up o.2.2 98 (vp_updL (o.2.2 98) 0 o.1.toInt64))) (fun o => (wk_mean o.1, o.2.1, o.2.2)) o
set_option maxRecDepth 100000 in
set_option maxHeartbeats 4000000 in
theorem csL_mean (l : Launch) (G : mj_GT) (hlt : l.stackTraces = false) (F : Nat) (x1 : Int32) (x2 : Int32) (I : mj_IT) (L : mj_LT) (o : (Int32 × mj_IT × mj_LT) ⊕ (Nat × mj_IT × mj_LT)) (hf : stX10_mean F I L x1 x2 = some o) (hk : ∀ q, o = .inr q → ok_mean q.1 = true) : mj_MW l G yL_mean cL_mean 5 11 (some .int) hh_mean 4 24 mj_P0 mj_S0 98 [.ref 1, .int x1, .int x2, .ref 98] I L (fun rv P2 I2 L2 => rv = some (.int (wr_mean o).1) ∧ P2 = mj_P0 ∧ I2 = (wr_mean o).2.1 ∧ L2 = (wr_mean o).2.2) := by
  refine mj_inw RL "mean" [(0, .ref 1), (1, .int x1), (2, .int x2), (3, .ref 98)] rfl rfl rfl (by decide) (Nat.le_of_ble_eq_true rfl) (fun X ad hR hT => ?_)
  have hM := csX10_mean l G hlt F x1 x2 I L o hf
  refine mj_aload_n 3 dL_mean_0 rfl ?_
  refine mj_iconst (v := 0) dL_mean_1 (by decide +kernel) ?_
  refine mj_aload_n 0 dL_mean_2 rfl ?_
  refine mj_iload_n 1 dL_mean_3 rfl ?_
  refine mj_iload_n 2 dL_mean_4 rfl ?_
  refine mj_callC (st := [.int 0, .ref 98]) [.int x1, .int x2] hR hT hM cw_L_52 s0_1 (by decide) (by decide) rfl rfl (Nat.le_of_ble_eq_true rfl) ⟨Nat.le_of_ble_eq_true rfl, Nat.le_of_ble_eq_true rfl⟩ rfl dL_mean_5 (fun E I1 L1 hq => ?_) (fun r I1 L1 hq => ?_)
  · rcases o with o | o
    · exact absurd hq (fun h => h)
    · obtain ⟨k, I0, L0⟩ := o
      obtain ⟨rfl, rfl, rfl⟩ := hq
      have h1 := hk _ rfl
      simp only [ok_mean, Bool.or_eq_true, beq_iff_eq] at h1
      rcases h1 with rfl | rfl | rfl
      · exact ⟨_, hd_mean_0, rfl, rfl, rfl, rfl⟩
      · exact ⟨_, hd_mean_1, rfl, rfl, rfl, rfl⟩
      · exact ⟨_, hd_mean_2, rfl, rfl, rfl, rfl⟩
  · rcases o with o | o
    · obtain ⟨v, I0, L0⟩ := o
      obtain ⟨rfl, rfl, rfl⟩ := hq
      refine mj_i2l dL_mean_8 ?_
      refine mj_last (i := 0) (x := v.toInt64) s0_98 (by decide) (mj_ib_in (by decide +kernel)) dL_mean_9 ?_
      refine mj_goto 25 dL_mean_10 (by decide) ?_
      refine mj_iconst (v := 0) dL_mean_25 (by decide +kernel) ?_
      exact mj_iretv hR mj_ag.rf ⟨Nat.le_of_ble_eq_true rfl, Nat.le_of_ble_eq_true rfl⟩ rfl rfl dL_mean_26 ⟨rfl, rfl, rfl, rfl⟩
    · exact absurd hq (fun h => h)
-- independent
abbrev hh_independent : List (Nat × Nat × Nat × Nat) := [(0, 10, 13, 36), (0, 10, 17, 19)]
theorem hd_independent_2 : mj_hd RL cL_independent 5 hh_independent 5 (mj_en 2) 1 := ⟨[], ⟨0, 10, 13, 36⟩, [⟨0, 10, 17, 19⟩], "java/lang/IllegalStateException", 4, 2, 1, rfl, (fun q hq => absurd hq List.not_mem_nil), rfl, by decide, mj_seg_4 (j := 140) (by decide +kernel) rfl, by decide +kernel, by decide, Or.inl ⟨dL_independent_13, rfl⟩, dL_independent_15, by decide +kernel, dL_independent_16⟩
theorem hd_independent_0 : mj_hd RL cL_independent 5 hh_independent 5 (mj_en 0) 2 := ⟨[⟨0, 10, 13, 36⟩], ⟨0, 10, 17, 19⟩, [], "java/util/NoSuchElementException", 4, 2, 2, rfl, (fun q hq => by
    simp only [List.mem_cons, List.not_mem_nil, or_false] at hq
    rcases hq with rfl
    · exact Or.inr ⟨by decide, "java/lang/IllegalStateException", mj_seg_4 (j := 140) (by decide +kernel) rfl, by decide +kernel⟩), rfl, by decide, mj_seg_4 (j := 64) (by decide +kernel) rfl, by decide +kernel, by decide, Or.inl ⟨dL_independent_17, rfl⟩, dL_independent_19, by decide +kernel, dL_independent_20⟩
def wk_independent (k : Nat) : Int32 := match k with
  | 0 => 2
  | 2 => 1
  | _ => 0
def ok_independent (k : Nat) : Bool := k == 0 || (k == 2)
def wr_independent (o : (Int32 × mj_IT × mj_LT) ⊕ (Nat × mj_IT × mj_LT)) : Int32 × mj_IT × mj_LT := Sum.elim (fun o => (0, o.2.1, va_up o.2.2 98 (vp_updL (o.2.2 98) 0 o.1.toInt64))) (fun o => (wk_independent o.1, o.2.1, o.2.2)) o
set_option maxRecDepth 100000 in
set_option maxHeartbeats 4000000 in
theorem csL_independent (l : Launch) (G : mj_GT) (hlt : l.stackTraces = false) (F : Nat) (x1 : Int32) (x2 : Int32) (I : mj_IT) (L : mj_LT) (o : (Int32 × mj_IT × mj_LT) ⊕ (Nat × mj_IT × mj_LT)) (hf : stX10_independent F I L x1 x2 = some o) (hk : ∀ q, o = .inr q → ok_independent q.1 = true) : mj_MW l G yL_independent cL_independent 5 10 (some .int) hh_independent 4 24 mj_P0 mj_S0 98 [.ref 1, .int x1, .int x2, .ref 98] I L (fun rv P2 I2 L2 => rv = some (.int (wr_independent o).1) ∧ P2 = mj_P0 ∧ I2 = (wr_independent o).2.1 ∧ L2 = (wr_independent o).2.2) := by
  refine mj_inw RL "independent" [(0, .ref 1), (1, .int x1), (2, .int x2), (3, .ref 98)] rfl rfl rfl (by decide) (Nat.le_of_ble_eq_true rfl) (fun X ad hR hT => ?_)
  have hM := csX10_independent l G hlt F x1 x2 I L o hf
  refine mj_aload_n 3 dL_independent_0 rfl ?_
  refine mj_iconst (v := 0) dL_independent_1 (by decide +kernel) ?_
  refine mj_aload_n 0 dL_independent_2 rfl ?_
  refine mj_iload_n 1 dL_independent_3 rfl ?_
  refine mj_iload_n 2 dL_independent_4 rfl ?_
  refine mj_callC (st := [.int 0, .ref 98]) [.int x1, .int x2] hR hT hM cw_L_55 s0_1 (by decide) (by decide) rfl rfl (Nat.le_of_ble_eq_true rfl) ⟨Nat.le_of_ble_eq_true rfl, Nat.le_of_ble_eq_true rfl⟩ rfl dL_independent_5 (fun E I1 L1 hq => ?_) (fun r I1 L1 hq => ?_)
  · rcases o with o | o
    · exact absurd hq (fun h => h)
    · obtain ⟨k, I0, L0⟩ := o
      obtain ⟨rfl, rfl, rfl⟩ := hq
      have h1 := hk _ rfl
      simp only [ok_independent, Bool.or_eq_true, beq_iff_eq] at h1
      rcases h1 with rfl | rfl
      · exact ⟨_, hd_independent_0, rfl, rfl, rfl, rfl⟩
      · exact ⟨_, hd_independent_2, rfl, rfl, rfl, rfl⟩
  · rcases o with o | o
    · obtain ⟨v, I0, L0⟩ := o
      obtain ⟨rfl, rfl, rfl⟩ := hq
      refine mj_i2l dL_independent_8 ?_
      refine mj_last (i := 0) (x := v.toInt64) s0_98 (by decide) (mj_ib_in (by decide +kernel)) dL_independent_9 ?_
      refine mj_goto 21 dL_independent_10 (by decide) ?_
      refine mj_iconst (v := 0) dL_independent_21 (by decide +kernel) ?_
      exact mj_iretv hR mj_ag.rf ⟨Nat.le_of_ble_eq_true rfl, Nat.le_of_ble_eq_true rfl⟩ rfl rfl dL_independent_22 ⟨rfl, rfl, rfl, rfl⟩
    · exact absurd hq (fun h => h)
-- visits
abbrev hh_visits : List (Nat × Nat × Nat × Nat) := [(0, 10, 13, 36), (0, 10, 17, 19), (0, 10, 21, 13)]
theorem hd_visits_2 : mj_hd RL cL_visits 5 hh_visits 5 (mj_en 2) 1 := ⟨[], ⟨0, 10, 13, 36⟩, [⟨0, 10, 17, 19⟩, ⟨0, 10, 21, 13⟩], "java/lang/IllegalStateException", 4, 2, 1, rfl, (fun q hq => absurd hq List.not_mem_nil), rfl, by decide, mj_seg_4 (j := 140) (by decide +kernel) rfl, by decide +kernel, by decide, Or.inl ⟨dL_visits_13, rfl⟩, dL_visits_15, by decide +kernel, dL_visits_16⟩
theorem hd_visits_0 : mj_hd RL cL_visits 5 hh_visits 5 (mj_en 0) 2 := ⟨[⟨0, 10, 13, 36⟩], ⟨0, 10, 17, 19⟩, [⟨0, 10, 21, 13⟩], "java/util/NoSuchElementException", 4, 2, 2, rfl, (fun q hq => by
    simp only [List.mem_cons, List.not_mem_nil, or_false] at hq
    rcases hq with rfl
    · exact Or.inr ⟨by decide, "java/lang/IllegalStateException", mj_seg_4 (j := 140) (by decide +kernel) rfl, by decide +kernel⟩), rfl, by decide, mj_seg_4 (j := 64) (by decide +kernel) rfl, by decide +kernel, by decide, Or.inl ⟨dL_visits_17, rfl⟩, dL_visits_19, by decide +kernel, dL_visits_20⟩
theorem hd_visits_1 : mj_hd RL cL_visits 5 hh_visits 5 (mj_en 1) 3 := ⟨[⟨0, 10, 13, 36⟩, ⟨0, 10, 17, 19⟩], ⟨0, 10, 21, 13⟩, [], "java/lang/IllegalArgumentException", 4, 2, 3, rfl, (fun q hq => by
    simp only [List.mem_cons, List.not_mem_nil, or_false] at hq
    rcases hq with rfl | rfl
    · exact Or.inr ⟨by decide, "java/lang/IllegalStateException", mj_seg_4 (j := 140) (by decide +kernel) rfl, by decide +kernel⟩
    · exact Or.inr ⟨by decide, "java/util/NoSuchElementException", mj_seg_4 (j := 64) (by decide +kernel) rfl, by decide +kernel⟩), rfl, by decide, mj_seg_3 (j := 59) (by decide +kernel) rfl, by decide +kernel, by decide, Or.inl ⟨dL_visits_21, rfl⟩, dL_visits_23, by decide +kernel, dL_visits_24⟩
def wk_visits (k : Nat) : Int32 := match k with
  | 0 => 2
  | 1 => 3
  | 2 => 1
  | _ => 0
def ok_visits (k : Nat) : Bool := k == 0 || (k == 1 || (k == 2))
def wr_visits (o : (Int32 × mj_IT × mj_LT) ⊕ (Nat × mj_IT × mj_LT)) : Int32 × mj_IT × mj_LT := Sum.elim (fun o => (0, o.2.1, va_up o.2.2 98 (vp_updL (o.2.2 98) 0 o.1.toInt64))) (fun o => (wk_visits o.1, o.2.1, o.2.2)) o
set_option maxRecDepth 100000 in
set_option maxHeartbeats 4000000 in
theorem csL_visits (l : Launch) (G : mj_GT) (hlt : l.stackTraces = false) (F : Nat) (x1 : Int32) (x2 : Int32) (I : mj_IT) (L : mj_LT) (o : (Int32 × mj_IT × mj_LT) ⊕ (Nat × mj_IT × mj_LT)) (hf : stX10_visits F I L x1 x2 = some o) (hk : ∀ q, o = .inr q → ok_visits q.1 = true) : mj_MW l G yL_visits cL_visits 5 11 (some .int) hh_visits 3 18 mj_P0 mj_S0 98 [.ref 1, .int x1, .int x2, .ref 98] I L (fun rv P2 I2 L2 => rv = some (.int (wr_visits o).1) ∧ P2 = mj_P0 ∧ I2 = (wr_visits o).2.1 ∧ L2 = (wr_visits o).2.2) := by
  refine mj_inw RL "visits" [(0, .ref 1), (1, .int x1), (2, .int x2), (3, .ref 98)] rfl rfl rfl (by decide) (Nat.le_of_ble_eq_true rfl) (fun X ad hR hT => ?_)
  have hM := csX10_visits l G hlt F x1 x2 I L o hf
  refine mj_aload_n 3 dL_visits_0 rfl ?_
  refine mj_iconst (v := 0) dL_visits_1 (by decide +kernel) ?_
  refine mj_aload_n 0 dL_visits_2 rfl ?_
  refine mj_iload_n 1 dL_visits_3 rfl ?_
  refine mj_iload_n 2 dL_visits_4 rfl ?_
  refine mj_callC (st := [.int 0, .ref 98]) [.int x1, .int x2] hR hT hM cw_L_58 s0_1 (by decide) (by decide) rfl rfl (Nat.le_of_ble_eq_true rfl) ⟨Nat.le_of_ble_eq_true rfl, Nat.le_of_ble_eq_true rfl⟩ rfl dL_visits_5 (fun E I1 L1 hq => ?_) (fun r I1 L1 hq => ?_)
  · rcases o with o | o
    · exact absurd hq (fun h => h)
    · obtain ⟨k, I0, L0⟩ := o
      obtain ⟨rfl, rfl, rfl⟩ := hq
      have h1 := hk _ rfl
      simp only [ok_visits, Bool.or_eq_true, beq_iff_eq] at h1
      rcases h1 with rfl | rfl | rfl
      · exact ⟨_, hd_visits_0, rfl, rfl, rfl, rfl⟩
      · exact ⟨_, hd_visits_1, rfl, rfl, rfl, rfl⟩
      · exact ⟨_, hd_visits_2, rfl, rfl, rfl, rfl⟩
  · rcases o with o | o
    · obtain ⟨v, I0, L0⟩ := o
      obtain ⟨rfl, rfl, rfl⟩ := hq
      refine mj_i2l dL_visits_8 ?_
      refine mj_last (i := 0) (x := v.toInt64) s0_98 (by decide) (mj_ib_in (by decide +kernel)) dL_visits_9 ?_
      refine mj_goto 25 dL_visits_10 (by decide) ?_
      refine mj_iconst (v := 0) dL_visits_25 (by decide +kernel) ?_
      exact mj_iretv hR mj_ag.rf ⟨Nat.le_of_ble_eq_true rfl, Nat.le_of_ble_eq_true rfl⟩ rfl rfl dL_visits_26 ⟨rfl, rfl, rfl, rfl⟩
    · exact absurd hq (fun h => h)
-- steps
abbrev hh_steps : List (Nat × Nat × Nat × Nat) := [(0, 9, 12, 36), (0, 9, 15, 13)]
theorem hd_steps_2 : mj_hd RL cL_steps 4 hh_steps 4 (mj_en 2) 1 := ⟨[], ⟨0, 9, 12, 36⟩, [⟨0, 9, 15, 13⟩], "java/lang/IllegalStateException", 3, 1, 1, rfl, (fun q hq => absurd hq List.not_mem_nil), rfl, by decide, mj_seg_4 (j := 140) (by decide +kernel) rfl, by decide +kernel, by decide, Or.inr ⟨3, rfl, dL_steps_12, rfl⟩, dL_steps_13, by decide +kernel, dL_steps_14⟩
theorem hd_steps_1 : mj_hd RL cL_steps 4 hh_steps 4 (mj_en 1) 2 := ⟨[⟨0, 9, 12, 36⟩], ⟨0, 9, 15, 13⟩, [], "java/lang/IllegalArgumentException", 3, 1, 2, rfl, (fun q hq => by
    simp only [List.mem_cons, List.not_mem_nil, or_false] at hq
    rcases hq with rfl
    · exact Or.inr ⟨by decide, "java/lang/IllegalStateException", mj_seg_4 (j := 140) (by decide +kernel) rfl, by decide +kernel⟩), rfl, by decide, mj_seg_3 (j := 59) (by decide +kernel) rfl, by decide +kernel, by decide, Or.inr ⟨3, rfl, dL_steps_15, rfl⟩, dL_steps_16, by decide +kernel, dL_steps_17⟩
def wk_steps (k : Nat) : Int32 := match k with
  | 1 => 2
  | 2 => 1
  | _ => 0
def ok_steps (k : Nat) : Bool := k == 1 || (k == 2)
def wr_steps (o : (Int32 × mj_IT × mj_LT) ⊕ (Nat × mj_IT × mj_LT)) : Int32 × mj_IT × mj_LT := Sum.elim (fun o => (0, o.2.1, va_up o.2.2 98 (vp_updL (o.2.2 98) 0 o.1.toInt64))) (fun o => (wk_steps o.1, o.2.1, o.2.2)) o
set_option maxRecDepth 100000 in
set_option maxHeartbeats 4000000 in
theorem csL_steps (l : Launch) (G : mj_GT) (hlt : l.stackTraces = false) (F : Nat) (x1 : Int32) (I : mj_IT) (L : mj_LT) (o : (Int32 × mj_IT × mj_LT) ⊕ (Nat × mj_IT × mj_LT)) (hf : stX10_steps F I L x1 = some o) (hk : ∀ q, o = .inr q → ok_steps q.1 = true) : mj_MW l G yL_steps cL_steps 4 11 (some .int) hh_steps 2 12 mj_P0 mj_S0 98 [.ref 1, .int x1, .ref 98] I L (fun rv P2 I2 L2 => rv = some (.int (wr_steps o).1) ∧ P2 = mj_P0 ∧ I2 = (wr_steps o).2.1 ∧ L2 = (wr_steps o).2.2) := by
  refine mj_inw RL "steps" [(0, .ref 1), (1, .int x1), (2, .ref 98)] rfl rfl rfl (by decide) (Nat.le_of_ble_eq_true rfl) (fun X ad hR hT => ?_)
  have hM := csX10_steps l G hlt F x1 I L o hf
  refine mj_aload_n 2 dL_steps_0 rfl ?_
  refine mj_iconst (v := 0) dL_steps_1 (by decide +kernel) ?_
  refine mj_aload_n 0 dL_steps_2 rfl ?_
  refine mj_iload_n 1 dL_steps_3 rfl ?_
  refine mj_callC (st := [.int 0, .ref 98]) [.int x1] hR hT hM cw_L_61 s0_1 (by decide) (by decide) rfl rfl (Nat.le_of_ble_eq_true rfl) ⟨Nat.le_of_ble_eq_true rfl, Nat.le_of_ble_eq_true rfl⟩ rfl dL_steps_4 (fun E I1 L1 hq => ?_) (fun r I1 L1 hq => ?_)
  · rcases o with o | o
    · exact absurd hq (fun h => h)
    · obtain ⟨k, I0, L0⟩ := o
      obtain ⟨rfl, rfl, rfl⟩ := hq
      have h1 := hk _ rfl
      simp only [ok_steps, Bool.or_eq_true, beq_iff_eq] at h1
      rcases h1 with rfl | rfl
      · exact ⟨_, hd_steps_1, rfl, rfl, rfl, rfl⟩
      · exact ⟨_, hd_steps_2, rfl, rfl, rfl, rfl⟩
  · rcases o with o | o
    · obtain ⟨v, I0, L0⟩ := o
      obtain ⟨rfl, rfl, rfl⟩ := hq
      refine mj_i2l dL_steps_7 ?_
      refine mj_last (i := 0) (x := v.toInt64) s0_98 (by decide) (mj_ib_in (by decide +kernel)) dL_steps_8 ?_
      refine mj_goto 18 dL_steps_9 (by decide) ?_
      refine mj_iconst (v := 0) dL_steps_18 (by decide +kernel) ?_
      exact mj_iretv hR mj_ag.rf ⟨Nat.le_of_ble_eq_true rfl, Nat.le_of_ble_eq_true rfl⟩ rfl rfl dL_steps_19 ⟨rfl, rfl, rfl, rfl⟩
    · exact absurd hq (fun h => h)
-- within
abbrev hh_within : List (Nat × Nat × Nat × Nat) := [(0, 10, 13, 36), (0, 10, 17, 13)]
theorem hd_within_2 : mj_hd RL cL_within 5 hh_within 5 (mj_en 2) 1 := ⟨[], ⟨0, 10, 13, 36⟩, [⟨0, 10, 17, 13⟩], "java/lang/IllegalStateException", 4, 2, 1, rfl, (fun q hq => absurd hq List.not_mem_nil), rfl, by decide, mj_seg_4 (j := 140) (by decide +kernel) rfl, by decide +kernel, by decide, Or.inl ⟨dL_within_13, rfl⟩, dL_within_15, by decide +kernel, dL_within_16⟩
theorem hd_within_1 : mj_hd RL cL_within 5 hh_within 5 (mj_en 1) 2 := ⟨[⟨0, 10, 13, 36⟩], ⟨0, 10, 17, 13⟩, [], "java/lang/IllegalArgumentException", 4, 2, 2, rfl, (fun q hq => by
    simp only [List.mem_cons, List.not_mem_nil, or_false] at hq
    rcases hq with rfl
    · exact Or.inr ⟨by decide, "java/lang/IllegalStateException", mj_seg_4 (j := 140) (by decide +kernel) rfl, by decide +kernel⟩), rfl, by decide, mj_seg_3 (j := 59) (by decide +kernel) rfl, by decide +kernel, by decide, Or.inl ⟨dL_within_17, rfl⟩, dL_within_19, by decide +kernel, dL_within_20⟩
def wk_within (k : Nat) : Int32 := match k with
  | 1 => 2
  | 2 => 1
  | _ => 0
def ok_within (k : Nat) : Bool := k == 1 || (k == 2)
def wr_within (o : (Int32 × mj_IT × mj_LT) ⊕ (Nat × mj_IT × mj_LT)) : Int32 × mj_IT × mj_LT := Sum.elim (fun o => (0, o.2.1, va_up o.2.2 98 (vp_updL (o.2.2 98) 0 o.1.toInt64))) (fun o => (wk_within o.1, o.2.1, o.2.2)) o
set_option maxRecDepth 100000 in
set_option maxHeartbeats 4000000 in
theorem csL_within (l : Launch) (G : mj_GT) (hlt : l.stackTraces = false) (F : Nat) (x1 : Int32) (x2 : Int32) (I : mj_IT) (L : mj_LT) (o : (Int32 × mj_IT × mj_LT) ⊕ (Nat × mj_IT × mj_LT)) (hf : stX10_within F I L x1 x2 = some o) (hk : ∀ q, o = .inr q → ok_within q.1 = true) : mj_MW l G yL_within cL_within 5 11 (some .int) hh_within 3 18 mj_P0 mj_S0 98 [.ref 1, .int x1, .int x2, .ref 98] I L (fun rv P2 I2 L2 => rv = some (.int (wr_within o).1) ∧ P2 = mj_P0 ∧ I2 = (wr_within o).2.1 ∧ L2 = (wr_within o).2.2) := by
  refine mj_inw RL "within" [(0, .ref 1), (1, .int x1), (2, .int x2), (3, .ref 98)] rfl rfl rfl (by decide) (Nat.le_of_ble_eq_true rfl) (fun X ad hR hT => ?_)
  have hM := csX10_within l G hlt F x1 x2 I L o hf
  refine mj_aload_n 3 dL_within_0 rfl ?_
  refine mj_iconst (v := 0) dL_within_1 (by decide +kernel) ?_
  refine mj_aload_n 0 dL_within_2 rfl ?_
  refine mj_iload_n 1 dL_within_3 rfl ?_
  refine mj_iload_n 2 dL_within_4 rfl ?_
  refine mj_callCv (st := [.int 0, .ref 98]) [.int x1, .int x2] hR hT hM cw_L_64 s0_1 (by decide) (by decide) rfl rfl (Nat.le_of_ble_eq_true rfl) ⟨Nat.le_of_ble_eq_true rfl, Nat.le_of_ble_eq_true rfl⟩ rfl dL_within_5 rfl rfl (fun E I1 L1 hq => ?_) (fun r P1 I1 L1 ad1 hag hq => ?_)
  · rcases o with o | o
    · exact absurd hq (fun h => h)
    · obtain ⟨k, I0, L0⟩ := o
      obtain ⟨rfl, rfl, rfl⟩ := hq
      have h1 := hk _ rfl
      simp only [ok_within, Bool.or_eq_true, beq_iff_eq] at h1
      rcases h1 with rfl | rfl
      · exact ⟨_, hd_within_1, rfl, rfl, rfl, rfl⟩
      · exact ⟨_, hd_within_2, rfl, rfl, rfl, rfl⟩
  · rcases o with o | o
    · obtain ⟨v, I0, L0⟩ := o
      obtain ⟨rfl, rfl, rfl, rfl⟩ := hq
      refine mj_i2l dL_within_8 ?_
      refine mj_last (i := 0) (x := v.toInt64) s0_98 (by decide) (mj_ib_in (by decide +kernel)) dL_within_9 ?_
      refine mj_goto 21 dL_within_10 (by decide) ?_
      refine mj_iconst (v := 0) dL_within_21 (by decide +kernel) ?_
      exact mj_iretv hR hag ⟨Nat.le_of_ble_eq_true rfl, Nat.le_of_ble_eq_true rfl⟩ rfl rfl dL_within_22 ⟨rfl, rfl, rfl, rfl⟩
    · exact absurd hq (fun h => h)
-- classes
abbrev hh_classes : List (Nat × Nat × Nat × Nat) := [(0, 9, 12, 36), (0, 9, 15, 19)]
theorem hd_classes_2 : mj_hd RL cL_classes 4 hh_classes 4 (mj_en 2) 1 := ⟨[], ⟨0, 9, 12, 36⟩, [⟨0, 9, 15, 19⟩], "java/lang/IllegalStateException", 3, 1, 1, rfl, (fun q hq => absurd hq List.not_mem_nil), rfl, by decide, mj_seg_4 (j := 140) (by decide +kernel) rfl, by decide +kernel, by decide, Or.inr ⟨3, rfl, dL_classes_12, rfl⟩, dL_classes_13, by decide +kernel, dL_classes_14⟩
theorem hd_classes_0 : mj_hd RL cL_classes 4 hh_classes 4 (mj_en 0) 2 := ⟨[⟨0, 9, 12, 36⟩], ⟨0, 9, 15, 19⟩, [], "java/util/NoSuchElementException", 3, 1, 2, rfl, (fun q hq => by
    simp only [List.mem_cons, List.not_mem_nil, or_false] at hq
    rcases hq with rfl
    · exact Or.inr ⟨by decide, "java/lang/IllegalStateException", mj_seg_4 (j := 140) (by decide +kernel) rfl, by decide +kernel⟩), rfl, by decide, mj_seg_4 (j := 64) (by decide +kernel) rfl, by decide +kernel, by decide, Or.inr ⟨3, rfl, dL_classes_15, rfl⟩, dL_classes_16, by decide +kernel, dL_classes_17⟩
def wk_classes (k : Nat) : Int32 := match k with
  | 0 => 2
  | 2 => 1
  | _ => 0
def ok_classes (k : Nat) : Bool := k == 0 || (k == 2)
def wr_classes (o : (Int32 × mj_IT × mj_LT) ⊕ (Nat × mj_IT × mj_LT)) : Int32 × mj_IT × mj_LT := Sum.elim (fun o => (0, o.2.1, va_up o.2.2 98 (vp_updL (o.2.2 98) 0 o.1.toInt64))) (fun o => (wk_classes o.1, o.2.1, o.2.2)) o
set_option maxRecDepth 100000 in
set_option maxHeartbeats 4000000 in
theorem csL_classes (l : Launch) (G : mj_GT) (hlt : l.stackTraces = false) (F : Nat) (x1 : Int32) (I : mj_IT) (L : mj_LT) (o : (Int32 × mj_IT × mj_LT) ⊕ (Nat × mj_IT × mj_LT)) (hf : stX10_classes F I L x1 = some o) (hk : ∀ q, o = .inr q → ok_classes q.1 = true) : mj_MW l G yL_classes cL_classes 4 10 (some .int) hh_classes 2 12 mj_P0 mj_S0 98 [.ref 1, .int x1, .ref 98] I L (fun rv P2 I2 L2 => rv = some (.int (wr_classes o).1) ∧ P2 = mj_P0 ∧ I2 = (wr_classes o).2.1 ∧ L2 = (wr_classes o).2.2) := by
  refine mj_inw RL "classes" [(0, .ref 1), (1, .int x1), (2, .ref 98)] rfl rfl rfl (by decide) (Nat.le_of_ble_eq_true rfl) (fun X ad hR hT => ?_)
  have hM := csX10_classes l G hlt F x1 I L o hf
  refine mj_aload_n 2 dL_classes_0 rfl ?_
  refine mj_iconst (v := 0) dL_classes_1 (by decide +kernel) ?_
  refine mj_aload_n 0 dL_classes_2 rfl ?_
  refine mj_iload_n 1 dL_classes_3 rfl ?_
  refine mj_callC (st := [.int 0, .ref 98]) [.int x1] hR hT hM cw_L_67 s0_1 (by decide) (by decide) rfl rfl (Nat.le_of_ble_eq_true rfl) ⟨Nat.le_of_ble_eq_true rfl, Nat.le_of_ble_eq_true rfl⟩ rfl dL_classes_4 (fun E I1 L1 hq => ?_) (fun r I1 L1 hq => ?_)
  · rcases o with o | o
    · exact absurd hq (fun h => h)
    · obtain ⟨k, I0, L0⟩ := o
      obtain ⟨rfl, rfl, rfl⟩ := hq
      have h1 := hk _ rfl
      simp only [ok_classes, Bool.or_eq_true, beq_iff_eq] at h1
      rcases h1 with rfl | rfl
      · exact ⟨_, hd_classes_0, rfl, rfl, rfl, rfl⟩
      · exact ⟨_, hd_classes_2, rfl, rfl, rfl, rfl⟩
  · rcases o with o | o
    · obtain ⟨v, I0, L0⟩ := o
      obtain ⟨rfl, rfl, rfl⟩ := hq
      refine mj_i2l dL_classes_7 ?_
      refine mj_last (i := 0) (x := v.toInt64) s0_98 (by decide) (mj_ib_in (by decide +kernel)) dL_classes_8 ?_
      refine mj_goto 18 dL_classes_9 (by decide) ?_
      refine mj_iconst (v := 0) dL_classes_18 (by decide +kernel) ?_
      exact mj_iretv hR mj_ag.rf ⟨Nat.le_of_ble_eq_true rfl, Nat.le_of_ble_eq_true rfl⟩ rfl rfl dL_classes_19 ⟨rfl, rfl, rfl, rfl⟩
    · exact absurd hq (fun h => h)
-- classOf
abbrev hh_classOf : List (Nat × Nat × Nat × Nat) := [(0, 10, 13, 36), (0, 10, 17, 19)]
theorem hd_classOf_2 : mj_hd RL cL_classOf 5 hh_classOf 5 (mj_en 2) 1 := ⟨[], ⟨0, 10, 13, 36⟩, [⟨0, 10, 17, 19⟩], "java/lang/IllegalStateException", 4, 2, 1, rfl, (fun q hq => absurd hq List.not_mem_nil), rfl, by decide, mj_seg_4 (j := 140) (by decide +kernel) rfl, by decide +kernel, by decide, Or.inl ⟨dL_classOf_13, rfl⟩, dL_classOf_15, by decide +kernel, dL_classOf_16⟩
theorem hd_classOf_0 : mj_hd RL cL_classOf 5 hh_classOf 5 (mj_en 0) 2 := ⟨[⟨0, 10, 13, 36⟩], ⟨0, 10, 17, 19⟩, [], "java/util/NoSuchElementException", 4, 2, 2, rfl, (fun q hq => by
    simp only [List.mem_cons, List.not_mem_nil, or_false] at hq
    rcases hq with rfl
    · exact Or.inr ⟨by decide, "java/lang/IllegalStateException", mj_seg_4 (j := 140) (by decide +kernel) rfl, by decide +kernel⟩), rfl, by decide, mj_seg_4 (j := 64) (by decide +kernel) rfl, by decide +kernel, by decide, Or.inl ⟨dL_classOf_17, rfl⟩, dL_classOf_19, by decide +kernel, dL_classOf_20⟩
def wk_classOf (k : Nat) : Int32 := match k with
  | 0 => 2
  | 2 => 1
  | _ => 0
def ok_classOf (k : Nat) : Bool := k == 0 || (k == 2)
def wr_classOf (o : (Int32 × mj_IT × mj_LT) ⊕ (Nat × mj_IT × mj_LT)) : Int32 × mj_IT × mj_LT := Sum.elim (fun o => (0, o.2.1, va_up o.2.2 98 (vp_updL (o.2.2 98) 0 o.1.toInt64))) (fun o => (wk_classOf o.1, o.2.1, o.2.2)) o
set_option maxRecDepth 100000 in
set_option maxHeartbeats 4000000 in
theorem csL_classOf (l : Launch) (G : mj_GT) (hlt : l.stackTraces = false) (F : Nat) (x1 : Int32) (x2 : Int32) (I : mj_IT) (L : mj_LT) (o : (Int32 × mj_IT × mj_LT) ⊕ (Nat × mj_IT × mj_LT)) (hf : stX10_classOf F I L x1 x2 = some o) (hk : ∀ q, o = .inr q → ok_classOf q.1 = true) : mj_MW l G yL_classOf cL_classOf 5 10 (some .int) hh_classOf 3 18 mj_P0 mj_S0 98 [.ref 1, .int x1, .int x2, .ref 98] I L (fun rv P2 I2 L2 => rv = some (.int (wr_classOf o).1) ∧ P2 = mj_P0 ∧ I2 = (wr_classOf o).2.1 ∧ L2 = (wr_classOf o).2.2) := by
  refine mj_inw RL "classOf" [(0, .ref 1), (1, .int x1), (2, .int x2), (3, .ref 98)] rfl rfl rfl (by decide) (Nat.le_of_ble_eq_true rfl) (fun X ad hR hT => ?_)
  have hM := csX10_classOf l G hlt F x1 x2 I L o hf
  refine mj_aload_n 3 dL_classOf_0 rfl ?_
  refine mj_iconst (v := 0) dL_classOf_1 (by decide +kernel) ?_
  refine mj_aload_n 0 dL_classOf_2 rfl ?_
  refine mj_iload_n 1 dL_classOf_3 rfl ?_
  refine mj_iload_n 2 dL_classOf_4 rfl ?_
  refine mj_callC (st := [.int 0, .ref 98]) [.int x1, .int x2] hR hT hM cw_L_70 s0_1 (by decide) (by decide) rfl rfl (Nat.le_of_ble_eq_true rfl) ⟨Nat.le_of_ble_eq_true rfl, Nat.le_of_ble_eq_true rfl⟩ rfl dL_classOf_5 (fun E I1 L1 hq => ?_) (fun r I1 L1 hq => ?_)
  · rcases o with o | o
    · exact absurd hq (fun h => h)
    · obtain ⟨k, I0, L0⟩ := o
      obtain ⟨rfl, rfl, rfl⟩ := hq
      have h1 := hk _ rfl
      simp only [ok_classOf, Bool.or_eq_true, beq_iff_eq] at h1
      rcases h1 with rfl | rfl
      · exact ⟨_, hd_classOf_0, rfl, rfl, rfl, rfl⟩
      · exact ⟨_, hd_classOf_2, rfl, rfl, rfl, rfl⟩
  · rcases o with o | o
    · obtain ⟨v, I0, L0⟩ := o
      obtain ⟨rfl, rfl, rfl⟩ := hq
      refine mj_i2l dL_classOf_8 ?_
      refine mj_last (i := 0) (x := v.toInt64) s0_98 (by decide) (mj_ib_in (by decide +kernel)) dL_classOf_9 ?_
      refine mj_goto 21 dL_classOf_10 (by decide) ?_
      refine mj_iconst (v := 0) dL_classOf_21 (by decide +kernel) ?_
      exact mj_iretv hR mj_ag.rf ⟨Nat.le_of_ble_eq_true rfl, Nat.le_of_ble_eq_true rfl⟩ rfl rfl dL_classOf_22 ⟨rfl, rfl, rfl, rfl⟩
    · exact absurd hq (fun h => h)
-- run
abbrev hh_run : List (Nat × Nat × Nat × Nat) := [(0, 9, 12, 36)]
theorem hd_run_2 : mj_hd RL cL_run 4 hh_run 4 (mj_en 2) 1 := ⟨[], ⟨0, 9, 12, 36⟩, [], "java/lang/IllegalStateException", 3, 1, 1, rfl, (fun q hq => absurd hq List.not_mem_nil), rfl, by decide, mj_seg_4 (j := 140) (by decide +kernel) rfl, by decide +kernel, by decide, Or.inr ⟨3, rfl, dL_run_12, rfl⟩, dL_run_13, by decide +kernel, dL_run_14⟩
def wk_run (k : Nat) : Int32 := match k with
  | 2 => 1
  | _ => 0
def ok_run (k : Nat) : Bool := k == 2
def wr_run (o : (Int32 × mj_IT × mj_LT) ⊕ (Nat × mj_IT × mj_LT)) : Int32 × mj_IT × mj_LT := Sum.elim (fun o => (0, o.2.1, va_up o.2.2 98 (vp_updL (o.2.2 98) 0 o.1.toInt64))) (fun o => (wk_run o.1, o.2.1, o.2.2)) o
set_option maxRecDepth 100000 in
set_option maxHeartbeats 4000000 in
theorem csL_run (l : Launch) (G : mj_GT) (hlt : l.stackTraces = false) (F : Nat) (x1 : Int32) (I : mj_IT) (L : mj_LT) (o : (Int32 × mj_IT × mj_LT) ⊕ (Nat × mj_IT × mj_LT)) (hf : stX10_run F I L x1 = some o) (hk : ∀ q, o = .inr q → ok_run q.1 = true) : mj_MW l G yL_run cL_run 4 10 (some .int) hh_run 1 6 mj_P0 mj_S0 98 [.ref 1, .int x1, .ref 98] I L (fun rv P2 I2 L2 => rv = some (.int (wr_run o).1) ∧ P2 = mj_P0 ∧ I2 = (wr_run o).2.1 ∧ L2 = (wr_run o).2.2) := by
  refine mj_inw RL "run" [(0, .ref 1), (1, .int x1), (2, .ref 98)] rfl rfl rfl (by decide) (Nat.le_of_ble_eq_true rfl) (fun X ad hR hT => ?_)
  have hM := csX10_run l G hlt F x1 I L o hf
  refine mj_aload_n 2 dL_run_0 rfl ?_
  refine mj_iconst (v := 0) dL_run_1 (by decide +kernel) ?_
  refine mj_aload_n 0 dL_run_2 rfl ?_
  refine mj_iload_n 1 dL_run_3 rfl ?_
  refine mj_callC (st := [.int 0, .ref 98]) [.int x1] hR hT hM cw_L_73 s0_1 (by decide) (by decide) rfl rfl (Nat.le_of_ble_eq_true rfl) ⟨Nat.le_of_ble_eq_true rfl, Nat.le_of_ble_eq_true rfl⟩ rfl dL_run_4 (fun E I1 L1 hq => ?_) (fun r I1 L1 hq => ?_)
  · rcases o with o | o
    · exact absurd hq (fun h => h)
    · obtain ⟨k, I0, L0⟩ := o
      obtain ⟨rfl, rfl, rfl⟩ := hq
      have h1 := hk _ rfl
      simp only [ok_run, Bool.or_eq_true, beq_iff_eq] at h1
      subst h1
      exact ⟨_, hd_run_2, rfl, rfl, rfl, rfl⟩
  · rcases o with o | o
    · obtain ⟨v, I0, L0⟩ := o
      obtain ⟨rfl, rfl, rfl⟩ := hq
      refine mj_i2l dL_run_7 ?_
      refine mj_last (i := 0) (x := v.toInt64) s0_98 (by decide) (mj_ib_in (by decide +kernel)) dL_run_8 ?_
      refine mj_goto 15 dL_run_9 (by decide) ?_
      refine mj_iconst (v := 0) dL_run_15 (by decide +kernel) ?_
      exact mj_iretv hR mj_ag.rf ⟨Nat.le_of_ble_eq_true rfl, Nat.le_of_ble_eq_true rfl⟩ rfl rfl dL_run_16 ⟨rfl, rfl, rfl, rfl⟩
    · exact absurd hq (fun h => h)
-- worth
abbrev hh_worth : List (Nat × Nat × Nat × Nat) := [(0, 7, 10, 36)]
theorem hd_worth_2 : mj_hd RL cL_worth 3 hh_worth 3 (mj_en 2) 1 := ⟨[], ⟨0, 7, 10, 36⟩, [], "java/lang/IllegalStateException", 2, 1, 1, rfl, (fun q hq => absurd hq List.not_mem_nil), rfl, by decide, mj_seg_4 (j := 140) (by decide +kernel) rfl, by decide +kernel, by decide, Or.inr ⟨2, rfl, dL_worth_10, rfl⟩, dL_worth_11, by decide +kernel, dL_worth_12⟩
def wk_worth (k : Nat) : Int32 := match k with
  | 2 => 1
  | _ => 0
def ok_worth (k : Nat) : Bool := k == 2
def wr_worth (o : (Int64 × mj_IT × mj_LT) ⊕ (Nat × mj_IT × mj_LT)) : Int32 × mj_IT × mj_LT := Sum.elim (fun o => (0, o.2.1, va_up o.2.2 98 (vp_updL (o.2.2 98) 0 o.1))) (fun o => (wk_worth o.1, o.2.1, o.2.2)) o
set_option maxRecDepth 100000 in
set_option maxHeartbeats 4000000 in
theorem csL_worth (l : Launch) (G : mj_GT) (hlt : l.stackTraces = false) (F : Nat) (I : mj_IT) (L : mj_LT) (o : (Int64 × mj_IT × mj_LT) ⊕ (Nat × mj_IT × mj_LT)) (hf : stX10_worth F I L = some o) (hk : ∀ q, o = .inr q → ok_worth q.1 = true) : mj_MW l G yL_worth cL_worth 3 10 (some .int) hh_worth 1 6 mj_P0 mj_S0 98 [.ref 1, .ref 98] I L (fun rv P2 I2 L2 => rv = some (.int (wr_worth o).1) ∧ P2 = mj_P0 ∧ I2 = (wr_worth o).2.1 ∧ L2 = (wr_worth o).2.2) := by
  refine mj_inw RL "worth" [(0, .ref 1), (1, .ref 98)] rfl rfl rfl (by decide) (Nat.le_of_ble_eq_true rfl) (fun X ad hR hT => ?_)
  have hM := csX10_worth l G hlt F I L o hf
  refine mj_aload_n 1 dL_worth_0 rfl ?_
  refine mj_iconst (v := 0) dL_worth_1 (by decide +kernel) ?_
  refine mj_aload_n 0 dL_worth_2 rfl ?_
  refine mj_callC (st := [.int 0, .ref 98]) [] hR hT hM cw_L_76 s0_1 (by decide) (by decide) rfl rfl (Nat.le_of_ble_eq_true rfl) ⟨Nat.le_of_ble_eq_true rfl, Nat.le_of_ble_eq_true rfl⟩ rfl dL_worth_3 (fun E I1 L1 hq => ?_) (fun r I1 L1 hq => ?_)
  · rcases o with o | o
    · exact absurd hq (fun h => h)
    · obtain ⟨k, I0, L0⟩ := o
      obtain ⟨rfl, rfl, rfl⟩ := hq
      have h1 := hk _ rfl
      simp only [ok_worth, Bool.or_eq_true, beq_iff_eq] at h1
      subst h1
      exact ⟨_, hd_worth_2, rfl, rfl, rfl, rfl⟩
  · rcases o with o | o
    · obtain ⟨v, I0, L0⟩ := o
      obtain ⟨rfl, rfl, rfl⟩ := hq
      refine mj_last (i := 0) (x := v) s0_98 (by decide) (mj_ib_in (by decide +kernel)) dL_worth_6 ?_
      refine mj_goto 13 dL_worth_7 (by decide) ?_
      refine mj_iconst (v := 0) dL_worth_13 (by decide +kernel) ?_
      exact mj_iretv hR mj_ag.rf ⟨Nat.le_of_ble_eq_true rfl, Nat.le_of_ble_eq_true rfl⟩ rfl rfl dL_worth_14 ⟨rfl, rfl, rfl, rfl⟩
    · exact absurd hq (fun h => h)
