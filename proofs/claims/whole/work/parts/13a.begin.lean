/-! ===== the law's beginning ===== -/
def mj_z2 : mj_PT := fun _ _ => 0
def mj_z3 : mj_IT := fun _ _ => 0
def mj_z4 : mj_LT := fun _ _ => 0
def mj_ps : mj_PT := cP_71 (mj_zp (cP_1 (mj_zp mj_z2 1)) 71)
def mj_is : mj_IT := cI_71 (mj_zi (cI_1 (mj_zi mj_z3 1)) 71)
def mj_ls : mj_LT := mj_zl (cL_71 (mj_zl (cL_1 (mj_zl mj_z4 1)) 71)) 98
theorem mj_ps_ok : ∀ a, a < 99 → ∀ k, k < 46 → mj_ps a k = mj_P0 a k := by decide +kernel
set_option maxRecDepth 100000 in
set_option maxHeartbeats 4000000 in
theorem lw_begin {X : mj_XT} {G : mj_GT} {nm : String} {ad : Nat → Nat} {N : Nat} {xs : Nat → Int32} (hsc : mj_scr X G N xs) (hN : N ≤ 3072) (hlt : X.2.1.stackTraces = false) (F : Nat) (Inv : Nat → mj_IT → mj_LT → Prop) (hB : pb_all F Inv) (hmono : ∀ j I L, Inv j I L → Inv (j + 1) I L) (h0 : Inv 0 mj_is mj_ls) (hroom : X.2.2.2.1.cells = 601024 ∧ X.2.2.2.1.slots = 7293034)
    (k : ∀ (j : Nat) (ad : Nat → Nat) (I : mj_IT) (L : mj_LT) (kc ks : Nat), kc ≤ 3682 ∧ ks ≤ 128020 → mj_W X G RL nm cL_law 8 51 (some .boolean) mj_P0 mj_S0 98 ad kc ks 1623 [(0, .ref 2050), (1, .ref 1), (2, .ref 71), (3, .ref 98), (4, .int (Int32.ofNat (6 * j)))] [] I L) : mj_W X G RL nm cL_law 8 51 (some .boolean) mj_z2 mj_S0 0 ad 0 0 0 [(0, .ref 2050)] [] mj_z3 mj_z4 := by
  have r : ∀ a b : Nat, a ≤ 601024 → b ≤ 7293034 → a ≤ X.2.2.2.1.cells ∧ b ≤ X.2.2.2.1.slots := fun a b h1 h2 => ⟨by rw [hroom.1]; exact h1, by rw [hroom.2]; exact h2⟩
  have p0 : mj_in9 mj_z2 0 := fun _ _ => Nat.le_refl 0
  refine mj_n_obj (ci := 8) (n' := 1) (N := 11) (kc' := 1) (ks' := 11) rfl ⟨rfl, rfl⟩ k1_8 rfl dv_8 s0_1 (by decide) p0 (by decide +kernel) rfl ⟨mj_seg_1 (j := 31) (by decide +kernel) rfl, mj_seg_1 (j := 32) (by decide +kernel) rfl, mj_seg_1 (j := 1) (by decide +kernel) rfl⟩ (r _ _ (Nat.le_of_ble_eq_true rfl) (Nat.le_of_ble_eq_true rfl)) dL_law_0 (fun ad1 hy1 => ?_)
  have p1 : mj_in9 (mj_zp mj_z2 1) 1 := mj_in9_zp (mj_in9_le p0 (by decide))
  refine mj_dup dL_law_3 rfl ?_
  have hM1 := ct_1 X.2.1 G (mj_zp mj_z2 1) (mj_zi mj_z3 1) (mj_zl mj_z4 1) p1
  refine mj_callI (n' := 70) (st := [.ref 1]) [] hM1 ⟨⟨mj_seg_1 (j := 35) (by decide +kernel) rfl, mj_seg_1 (j := 1) (by decide +kernel) rfl, mj_seg_1 (j := 33) (by decide +kernel) rfl, ⟨by decide, by decide, by decide +kernel⟩, by decide⟩, rfl, mj_seg_1 (j := 34) (by decide +kernel) rfl⟩ (by decide) rfl rfl (by decide) (r _ _ (Nat.le_of_ble_eq_true rfl) (Nat.le_of_ble_eq_true rfl)) dL_law_4 (by decide +kernel) (by decide +kernel) (fun P9 I9 L9 ad2 hy2 hq => ?_)
  obtain ⟨rfl, rfl, rfl⟩ := hq
  refine mj_kk (kc' := 70) (ks' := 55807) rfl rfl ?_
  have p2 : mj_in9 (cP_1 (mj_zp mj_z2 1)) 70 := ci_1 p1
  refine mj_astore_n (i := 1) [(1, .ref 1), (0, .ref 2050)] dL_law_7 rfl (by decide) rfl ?_
  refine mj_n_obj (ci := 9) (n' := 71) (N := 46) (kc' := 71) (ks' := 55853) rfl ⟨rfl, rfl⟩ k1_9 rfl dv_9 s0_71 (by decide) p2 (by decide +kernel) rfl ⟨mj_seg_8 (j := 116) (by decide +kernel) rfl, mj_seg_6 (j := 204) (by decide +kernel) rfl, mj_seg_1 (j := 10) (by decide +kernel) rfl⟩ (r _ _ (Nat.le_of_ble_eq_true rfl) (Nat.le_of_ble_eq_true rfl)) dL_law_8 (fun ad3 hy3 => ?_)
  have p3 : mj_in9 (mj_zp (cP_1 (mj_zp mj_z2 1)) 71) 71 := mj_in9_zp (mj_in9_le p2 (by decide))
  refine mj_dup dL_law_11 rfl ?_
  have hM2 := ct_71 X.2.1 G (mj_zp (cP_1 (mj_zp mj_z2 1)) 71) (mj_zi (cI_1 (mj_zi mj_z3 1)) 71) (mj_zl (cL_1 (mj_zl mj_z4 1)) 71) p3
  refine mj_callI (n' := 97) (st := [.ref 71]) [] hM2 ⟨⟨mj_seg_8 (j := 119) (by decide +kernel) rfl, mj_seg_1 (j := 10) (by decide +kernel) rfl, mj_seg_8 (j := 117) (by decide +kernel) rfl, ⟨by decide, by decide, by decide +kernel⟩, by decide⟩, rfl, mj_seg_8 (j := 118) (by decide +kernel) rfl⟩ (by decide) rfl rfl (by decide) (r _ _ (Nat.le_of_ble_eq_true rfl) (Nat.le_of_ble_eq_true rfl)) dL_law_12 (by decide +kernel) (by decide +kernel) (fun P9 I9 L9 ad4 hy4 hq => ?_)
  obtain ⟨rfl, rfl, rfl⟩ := hq
  refine mj_kk (kc' := 97) (ks' := 106515) rfl rfl ?_
  have p4 := ci_71 p3
  refine mj_astore_n (i := 2) [(2, .ref 71), (1, .ref 1), (0, .ref 2050)] dL_law_15 rfl (by decide) rfl ?_
  refine mj_iconst (v := 1) dL_law_16 (by decide +kernel) ?_
  refine mj_n_long (n' := 98) (N := 1) (kc' := 98) (ks' := 106516) rfl ⟨rfl, rfl⟩ ⟨by decide +kernel, by decide +kernel, (Nat.le_of_ble_eq_true rfl)⟩ s0_98 (by decide) p4 (by decide +kernel) rfl ac_long (r _ _ (Nat.le_of_ble_eq_true rfl) (Nat.le_of_ble_eq_true rfl)) dL_law_17 (fun ad5 hy5 => ?_)
  refine mj_astore_n (i := 3) [(3, .ref 98), (2, .ref 71), (1, .ref 1), (0, .ref 2050)] dL_law_19 rfl (by decide) rfl ?_
  refine mj_iconst (v := 0) dL_law_20 (by decide +kernel) ?_
  refine mj_istore [(4, .int 0), (3, .ref 98), (2, .ref 71), (1, .ref 1), (0, .ref 2050)] dL_law_21 (by decide) rfl ?_
  refine mj_sub [4, 3, 2, 1, 0] [(0, .ref 2050), (1, .ref 1), (2, .ref 71), (3, .ref 98), (4, .int (Int32.ofNat (6 * 0)))] rfl ?_
  refine mj_Pcong (P' := mj_P0) mj_ps_ok ?_
  exact lw_turns hsc hN hlt F Inv hB hmono 3682 128020 (r _ _ (Nat.le_of_ble_eq_true rfl) (Nat.le_of_ble_eq_true rfl)) k 512 0 ad5 mj_is mj_ls 98 106516 (by omega) (by omega) h0 ⟨(Nat.le_of_ble_eq_true rfl), (Nat.le_of_ble_eq_true rfl)⟩
