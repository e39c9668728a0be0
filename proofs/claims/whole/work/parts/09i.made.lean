/-! ===== constructors, walked ===== -/
def mj_sp (P : mj_PT) (a k b : Nat) : mj_PT := va_up P a (va_up (P a) k b)
def mj_zp (P : mj_PT) (a : Nat) : mj_PT := va_up P a (fun _ => 0)
def mj_si (I : mj_IT) (a k : Nat) (v : Int32) : mj_IT := va_up I a (upd (I a) k v)
def mj_zi (I : mj_IT) (a : Nat) : mj_IT := va_up I a (fun _ => 0)
def mj_zl (L : mj_LT) (a : Nat) : mj_LT := va_up L a (fun _ => 0)
theorem mj_in9_sp {P : mj_PT} {n a k b : Nat} (h : mj_in9 P n) (hb : b ≤ n) : mj_in9 (mj_sp P a k b) n := mj_in9_put h hb
theorem mj_in9_zp {P : mj_PT} {n a : Nat} (h : mj_in9 P n) : mj_in9 (mj_zp P a) n := mj_in9_new h
section MZ
variable {X : mj_XT} {l : Launch} {G : mj_GT} {own nm : String} {cc : ByteArray} {mL d : Nat} {ret : Option FieldType} {P : mj_PT} {S : mj_ST} {n n' : Nat} {ad : Nat → Nat} {mc ms kc ks kc' ks' pc : Nat} {ls : List (Nat × Value)} {st : List Value} {I : mj_IT} {L : mj_LT}
theorem mj_n_int {N : Nat} {v : Int32} (hn' : n + 1 = n') (hk' : kc + 1 = kc' ∧ ks + N = ks') (hv : ¬ v < 0 ∧ v.toNatClampNeg = N ∧ N * 8 ≤ 536870912) (hs : S n' = (1, N)) (hn : n < 1999) (hp : mj_in9 P n) (hls : ls.all (fun q => mj_lv n q.2) = true) (hst : st.all (mj_lv n) = true) (hw : Cond.arrayClass .int ∈ mj_tb) (hf : kc' ≤ X.2.2.2.1.cells ∧ ks' ≤ X.2.2.2.1.slots) (hd : decode cc pc = .ok (.newarray .int, 2))
    (k : ∀ ad' : Nat → Nat, mj_ex n ad ad' → mj_W X G own nm cc mL d ret P S n' ad' kc' ks' (pc + 2) ls (.ref n' :: st) (mj_zi I n') L) : mj_W X G own nm cc mL d ret P S n ad kc ks pc ls (.int v :: st) I L := by
  subst hn'
  obtain ⟨rfl, rfl⟩ := hk'
  exact mj_newaI hv hs hn hp hls hst hw hf hd (fun q => k _ (mj_ex_up hn ad q))
theorem mj_n_long {N : Nat} {v : Int32} (hn' : n + 1 = n') (hk' : kc + 1 = kc' ∧ ks + N = ks') (hv : ¬ v < 0 ∧ v.toNatClampNeg = N ∧ N * 8 ≤ 536870912) (hs : S n' = (2, N)) (hn : n < 1999) (hp : mj_in9 P n) (hls : ls.all (fun q => mj_lv n q.2) = true) (hst : st.all (mj_lv n) = true) (hw : Cond.arrayClass .long ∈ mj_tb) (hf : kc' ≤ X.2.2.2.1.cells ∧ ks' ≤ X.2.2.2.1.slots) (hd : decode cc pc = .ok (.newarray .long, 2))
    (k : ∀ ad' : Nat → Nat, mj_ex n ad ad' → mj_W X G own nm cc mL d ret P S n' ad' kc' ks' (pc + 2) ls (.ref n' :: st) I (mj_zl L n')) : mj_W X G own nm cc mL d ret P S n ad kc ks pc ls (.int v :: st) I L := by
  subst hn'
  obtain ⟨rfl, rfl⟩ := hk'
  exact mj_newaJ hv hs hn hp hls hst hw hf hd (fun q => k _ (mj_ex_up hn ad q))
theorem mj_n_boolean {N : Nat} {v : Int32} (hn' : n + 1 = n') (hk' : kc + 1 = kc' ∧ ks + N = ks') (hv : ¬ v < 0 ∧ v.toNatClampNeg = N ∧ N * 8 ≤ 536870912) (hs : S n' = (3, N)) (hn : n < 1999) (hp : mj_in9 P n) (hls : ls.all (fun q => mj_lv n q.2) = true) (hst : st.all (mj_lv n) = true) (hw : Cond.arrayClass .boolean ∈ mj_tb) (hf : kc' ≤ X.2.2.2.1.cells ∧ ks' ≤ X.2.2.2.1.slots) (hd : decode cc pc = .ok (.newarray .boolean, 2))
    (k : ∀ ad' : Nat → Nat, mj_ex n ad ad' → mj_W X G own nm cc mL d ret P S n' ad' kc' ks' (pc + 2) ls (.ref n' :: st) (mj_zi I n') L) : mj_W X G own nm cc mL d ret P S n ad kc ks pc ls (.int v :: st) I L := by
  subst hn'
  obtain ⟨rfl, rfl⟩ := hk'
  exact mj_newaZ hv hs hn hp hls hst hw hf hd (fun q => k _ (mj_ex_up hn ad q))
theorem mj_n_byte {N : Nat} {v : Int32} (hn' : n + 1 = n') (hk' : kc + 1 = kc' ∧ ks + N = ks') (hv : ¬ v < 0 ∧ v.toNatClampNeg = N ∧ N * 8 ≤ 536870912) (hs : S n' = (4, N)) (hn : n < 1999) (hp : mj_in9 P n) (hls : ls.all (fun q => mj_lv n q.2) = true) (hst : st.all (mj_lv n) = true) (hw : Cond.arrayClass .byte ∈ mj_tb) (hf : kc' ≤ X.2.2.2.1.cells ∧ ks' ≤ X.2.2.2.1.slots) (hd : decode cc pc = .ok (.newarray .byte, 2))
    (k : ∀ ad' : Nat → Nat, mj_ex n ad ad' → mj_W X G own nm cc mL d ret P S n' ad' kc' ks' (pc + 2) ls (.ref n' :: st) (mj_zi I n') L) : mj_W X G own nm cc mL d ret P S n ad kc ks pc ls (.int v :: st) I L := by
  subst hn'
  obtain ⟨rfl, rfl⟩ := hk'
  exact mj_newaB hv hs hn hp hls hst hw hf hd (fun q => k _ (mj_ex_up hn ad q))
theorem mj_n_obj {ix ci N : Nat} (hn' : n + 1 = n') (hk' : kc + 1 = kc' ∧ ks + N = ks') (hc : mj_K1 ci) (hN : mj_nf ci = N) (hdf : ∀ j, j < mj_nf ci → defaultValue (mj_ft ci j) = mj_dv (mj_ft ci j)) (hs : S n' = (0, ci)) (hn : n < 1999) (hp : mj_in9 P n) (hls : ls.all (fun q => mj_lv n q.2) = true) (hst : st.all (mj_lv n) = true) (hw : Cond.classLink own ix (mj_Rn ci) ∈ mj_tb ∧ Cond.instantiable (mj_Rn ci) N ∈ mj_tb ∧ Cond.initialized (mj_Rn ci) ∈ mj_tb) (hf : kc' ≤ X.2.2.2.1.cells ∧ ks' ≤ X.2.2.2.1.slots) (hd : decode cc pc = .ok (.new ix, 3))
    (k : ∀ ad' : Nat → Nat, mj_ex n ad ad' → mj_W X G own nm cc mL d ret (mj_zp P n') S n' ad' kc' ks' (pc + 3) ls (.ref n' :: st) (mj_zi I n') (mj_zl L n')) : mj_W X G own nm cc mL d ret P S n ad kc ks pc ls st I L := by
  subst hn'
  obtain ⟨rfl, rfl⟩ := hk'
  exact mj_new hc hN hdf hs hn hp hls hst hw hf hd (fun q => k _ (mj_ex_up hn ad q))
theorem mj_p_fin {ix ci a j : Nat} {b : Nat} (hb : b ≠ 0) (hf : mj_fl own ix ci j) (ht : mj_tc (mj_ft ci j) = 2) (hfin : (mj_T ci j).2.2.2 = true) (hnm : nm = "<init>") (hown : (mj_T ci j).1 = own) (hs : S a = (0, ci)) (ha : 0 < a ∧ a ≤ n) (hd : decode cc pc = .ok (.putfield ix, 3)) (k : mj_W X G own nm cc mL d ret (mj_sp P a j b) S n ad kc ks (pc + 3) ls st I L) : mj_W X G own nm cc mL d ret P S n ad kc ks pc ls (.ref b :: .ref a :: st) I L := mj_putPF hb hf ht hfin hnm hown hs ha hd k
theorem mj_p_ref {ix ci a j : Nat} {b : Nat} (hb : b ≠ 0) (hf : mj_fl own ix ci j) (ht : mj_tc (mj_ft ci j) = 2) (hfin : (mj_T ci j).2.2.2 = false) (hs : S a = (0, ci)) (ha : 0 < a ∧ a ≤ n) (hd : decode cc pc = .ok (.putfield ix, 3)) (k : mj_W X G own nm cc mL d ret (mj_sp P a j b) S n ad kc ks (pc + 3) ls st I L) : mj_W X G own nm cc mL d ret P S n ad kc ks pc ls (.ref b :: .ref a :: st) I L := mj_putP hb hf ht hfin hs ha hd k
theorem mj_p_int {ix ci a j : Nat} {v : Int32} (hv : narrow (mj_ft ci j) (.int v) = .int v ∧ fits (mj_ft ci j) (.int v) = true) (hf : mj_fl own ix ci j) (ht : mj_tc (mj_ft ci j) = 0) (hfin : (mj_T ci j).2.2.2 = false) (hs : S a = (0, ci)) (ha : 0 < a ∧ a ≤ n) (hd : decode cc pc = .ok (.putfield ix, 3)) (k : mj_W X G own nm cc mL d ret P S n ad kc ks (pc + 3) ls st (mj_si I a j v) L) : mj_W X G own nm cc mL d ret P S n ad kc ks pc ls (.int v :: .ref a :: st) I L := mj_putI hv hf ht hfin hs ha hd k
theorem mj_p_ia {a N j : Nat} {i x : Int32} (hj : i.toNatClampNeg = j) (hs : S a = (1, N)) (ha : 0 < a ∧ a ≤ n) (hi : vp_in i N) (hd : decode cc pc = .ok (.iastore, 1)) (k : mj_W X G own nm cc mL d ret P S n ad kc ks (pc + 1) ls st (mj_si I a j x) L) : mj_W X G own nm cc mL d ret P S n ad kc ks pc ls (.int x :: .int i :: .ref a :: st) I L := by
  subst hj
  exact mj_iast hs ha hi hd k
end MZ
theorem ac_int : Cond.arrayClass .int ∈ mj_tb := mj_seg_1 (j := 106) (by decide +kernel) rfl
theorem ac_long : Cond.arrayClass .long ∈ mj_tb := mj_seg_2 (j := 166) (by decide +kernel) rfl
theorem ac_boolean : Cond.arrayClass .boolean ∈ mj_tb := mj_seg_1 (j := 151) (by decide +kernel) rfl
theorem ac_byte : Cond.arrayClass .byte ∈ mj_tb := mj_seg_3 (j := 139) (by decide +kernel) rfl
theorem oi_i : Cond.instanceMethod objectInit ∈ mj_tb := mj_seg_1 (j := 37) (by decide +kernel) rfl
theorem oi_c : Cond.code objectInit ⟨#[0xb1]⟩ 1 none ∈ mj_tb := mj_seg_1 (j := 38) (by decide +kernel) rfl
theorem dv_0 : ∀ j, j < mj_nf 0 → defaultValue (mj_ft 0 j) = mj_dv (mj_ft 0 j) := by decide +kernel
theorem dv_1 : ∀ j, j < mj_nf 1 → defaultValue (mj_ft 1 j) = mj_dv (mj_ft 1 j) := by decide +kernel
theorem dv_2 : ∀ j, j < mj_nf 2 → defaultValue (mj_ft 2 j) = mj_dv (mj_ft 2 j) := by decide +kernel
theorem dv_3 : ∀ j, j < mj_nf 3 → defaultValue (mj_ft 3 j) = mj_dv (mj_ft 3 j) := by decide +kernel
theorem dv_4 : ∀ j, j < mj_nf 4 → defaultValue (mj_ft 4 j) = mj_dv (mj_ft 4 j) := by decide +kernel
theorem dv_5 : ∀ j, j < mj_nf 5 → defaultValue (mj_ft 5 j) = mj_dv (mj_ft 5 j) := by decide +kernel
theorem dv_6 : ∀ j, j < mj_nf 6 → defaultValue (mj_ft 6 j) = mj_dv (mj_ft 6 j) := by decide +kernel
theorem dv_7 : ∀ j, j < mj_nf 7 → defaultValue (mj_ft 7 j) = mj_dv (mj_ft 7 j) := by decide +kernel
theorem dv_8 : ∀ j, j < mj_nf 8 → defaultValue (mj_ft 8 j) = mj_dv (mj_ft 8 j) := by decide +kernel
theorem dv_9 : ∀ j, j < mj_nf 9 → defaultValue (mj_ft 9 j) = mj_dv (mj_ft 9 j) := by decide +kernel
theorem mj_kk {X : mj_XT} {G : mj_GT} {own nm : String} {cc : ByteArray} {mL d : Nat} {ret : Option FieldType} {P : mj_PT} {S : mj_ST} {n : Nat} {ad : Nat → Nat} {kc ks kc' ks' pc : Nat} {ls : List (Nat × Value)} {st : List Value} {I : mj_IT} {L : mj_LT} (h1 : kc = kc') (h2 : ks = ks') (k : mj_W X G own nm cc mL d ret P S n ad kc' ks' pc ls st I L) : mj_W X G own nm cc mL d ret P S n ad kc ks pc ls st I L := by
  subst h1; subst h2; exact k
def cP_4 (P : mj_PT) : mj_PT := (mj_sp (mj_sp (mj_sp (mj_sp (mj_sp (mj_sp (mj_sp (mj_sp (mj_sp (mj_sp P 4 1 5) 4 2 6) 4 3 7) 4 4 8) 4 5 9) 4 6 10) 4 7 11) 4 8 12) 4 9 13) 4 10 14)
def cI_4 (I : mj_IT) : mj_IT := (mj_zi (mj_zi (mj_zi (mj_zi (mj_zi (mj_zi (mj_zi (mj_zi (mj_zi (mj_zi I 5) 6) 7) 8) 9) 10) 11) 12) 13) 14)
def cL_4 (L : mj_LT) : mj_LT := L
theorem ci_4 {P : mj_PT} (hp : mj_in9 P 4) : mj_in9 (cP_4 P) 14 := by
  unfold cP_4
  exact mj_in9_sp (mj_in9_sp (mj_in9_sp (mj_in9_sp (mj_in9_sp (mj_in9_sp (mj_in9_sp (mj_in9_sp (mj_in9_sp (mj_in9_sp (mj_in9_le hp (by decide)) (by decide)) (by decide)) (by decide)) (by decide)) (by decide)) (by decide)) (by decide)) (by decide)) (by decide)) (by decide)
set_option maxRecDepth 100000 in
set_option maxHeartbeats 4000000 in
theorem ct_4 (l : Launch) (G : mj_GT) (P : mj_PT) (I : mj_IT) (L : mj_LT) (hp : mj_in9 P 4) : mj_Mc l G yX7_init cX7_init 1 1 10 400 P mj_S0 4 14 [.ref 4] I L (fun P' I' L' => P' = cP_4 P ∧ I' = cI_4 I ∧ L' = cL_4 L) := by
  refine mj_inc RX7 "<init>" [(0, .ref 4)] rfl rfl rfl (by decide) (by decide) (fun X ad hR => ?_)
  have hx0 : mj_ex 4 ad ad := mj_ex.rf
  refine mj_aload_n 0 dX7_init_0 rfl ?_
  refine mj_objInit ⟨mj_seg_1 (j := 50) (by decide +kernel) rfl, oi_i, oi_c⟩ (by decide) (by decide) dX7_init_1 ?_
  refine mj_aload_n 0 dX7_init_4 rfl ?_
  refine mj_bipush (v := 40) dX7_init_5 (by decide +kernel) ?_
  refine mj_n_int (n' := 5) (N := 40) (kc' := 1) (ks' := 40) rfl ⟨rfl, rfl⟩ ⟨by decide +kernel, by decide +kernel, Nat.le_of_ble_eq_true rfl⟩ s0_5 (by decide) hp (by decide +kernel) (by decide +kernel) ac_int (mj_rcc hR ⟨Nat.le_of_ble_eq_true rfl, Nat.le_of_ble_eq_true rfl⟩) dX7_init_7 (fun ad1 hy1 => ?_)
  have hx1 := mj_ex.tr (n := 4) (n' := 4) (by decide) hx0 hy1
  have hp1 := mj_in9_le (n' := 5) hp (by decide)
  refine mj_p_fin (by decide) fl_X7_9 rfl rfl rfl rfl s0_4 (by decide) dX7_init_9 ?_
  have hp2 : mj_in9 (mj_sp P 4 1 5) 5 := mj_in9_sp hp1 (by decide)
  refine mj_aload_n 0 dX7_init_12 rfl ?_
  refine mj_bipush (v := 40) dX7_init_13 (by decide +kernel) ?_
  refine mj_n_int (n' := 6) (N := 40) (kc' := 2) (ks' := 80) rfl ⟨rfl, rfl⟩ ⟨by decide +kernel, by decide +kernel, Nat.le_of_ble_eq_true rfl⟩ s0_6 (by decide) hp2 (by decide +kernel) (by decide +kernel) ac_int (mj_rcc hR ⟨Nat.le_of_ble_eq_true rfl, Nat.le_of_ble_eq_true rfl⟩) dX7_init_15 (fun ad3 hy3 => ?_)
  have hx3 := mj_ex.tr (n := 4) (n' := 5) (by decide) hx1 hy3
  have hp3 := mj_in9_le (n' := 6) hp2 (by decide)
  refine mj_p_fin (by decide) fl_X7_15 rfl rfl rfl rfl s0_4 (by decide) dX7_init_17 ?_
  have hp4 : mj_in9 (mj_sp (mj_sp P 4 1 5) 4 2 6) 6 := mj_in9_sp hp3 (by decide)
  refine mj_aload_n 0 dX7_init_20 rfl ?_
  refine mj_bipush (v := 40) dX7_init_21 (by decide +kernel) ?_
  refine mj_n_int (n' := 7) (N := 40) (kc' := 3) (ks' := 120) rfl ⟨rfl, rfl⟩ ⟨by decide +kernel, by decide +kernel, Nat.le_of_ble_eq_true rfl⟩ s0_7 (by decide) hp4 (by decide +kernel) (by decide +kernel) ac_int (mj_rcc hR ⟨Nat.le_of_ble_eq_true rfl, Nat.le_of_ble_eq_true rfl⟩) dX7_init_23 (fun ad5 hy5 => ?_)
  have hx5 := mj_ex.tr (n := 4) (n' := 6) (by decide) hx3 hy5
  have hp5 := mj_in9_le (n' := 7) hp4 (by decide)
  refine mj_p_fin (by decide) fl_X7_18 rfl rfl rfl rfl s0_4 (by decide) dX7_init_25 ?_
  have hp6 : mj_in9 (mj_sp (mj_sp (mj_sp P 4 1 5) 4 2 6) 4 3 7) 7 := mj_in9_sp hp5 (by decide)
  refine mj_aload_n 0 dX7_init_28 rfl ?_
  refine mj_bipush (v := 40) dX7_init_29 (by decide +kernel) ?_
  refine mj_n_int (n' := 8) (N := 40) (kc' := 4) (ks' := 160) rfl ⟨rfl, rfl⟩ ⟨by decide +kernel, by decide +kernel, Nat.le_of_ble_eq_true rfl⟩ s0_8 (by decide) hp6 (by decide +kernel) (by decide +kernel) ac_int (mj_rcc hR ⟨Nat.le_of_ble_eq_true rfl, Nat.le_of_ble_eq_true rfl⟩) dX7_init_31 (fun ad7 hy7 => ?_)
  have hx7 := mj_ex.tr (n := 4) (n' := 7) (by decide) hx5 hy7
  have hp7 := mj_in9_le (n' := 8) hp6 (by decide)
  refine mj_p_fin (by decide) fl_X7_21 rfl rfl rfl rfl s0_4 (by decide) dX7_init_33 ?_
  have hp8 : mj_in9 (mj_sp (mj_sp (mj_sp (mj_sp P 4 1 5) 4 2 6) 4 3 7) 4 4 8) 8 := mj_in9_sp hp7 (by decide)
  refine mj_aload_n 0 dX7_init_36 rfl ?_
  refine mj_bipush (v := 40) dX7_init_37 (by decide +kernel) ?_
  refine mj_n_int (n' := 9) (N := 40) (kc' := 5) (ks' := 200) rfl ⟨rfl, rfl⟩ ⟨by decide +kernel, by decide +kernel, Nat.le_of_ble_eq_true rfl⟩ s0_9 (by decide) hp8 (by decide +kernel) (by decide +kernel) ac_int (mj_rcc hR ⟨Nat.le_of_ble_eq_true rfl, Nat.le_of_ble_eq_true rfl⟩) dX7_init_39 (fun ad9 hy9 => ?_)
  have hx9 := mj_ex.tr (n := 4) (n' := 8) (by decide) hx7 hy9
  have hp9 := mj_in9_le (n' := 9) hp8 (by decide)
  refine mj_p_fin (by decide) fl_X7_24 rfl rfl rfl rfl s0_4 (by decide) dX7_init_41 ?_
  have hp10 : mj_in9 (mj_sp (mj_sp (mj_sp (mj_sp (mj_sp P 4 1 5) 4 2 6) 4 3 7) 4 4 8) 4 5 9) 9 := mj_in9_sp hp9 (by decide)
  refine mj_aload_n 0 dX7_init_44 rfl ?_
  refine mj_bipush (v := 40) dX7_init_45 (by decide +kernel) ?_
  refine mj_n_int (n' := 10) (N := 40) (kc' := 6) (ks' := 240) rfl ⟨rfl, rfl⟩ ⟨by decide +kernel, by decide +kernel, Nat.le_of_ble_eq_true rfl⟩ s0_10 (by decide) hp10 (by decide +kernel) (by decide +kernel) ac_int (mj_rcc hR ⟨Nat.le_of_ble_eq_true rfl, Nat.le_of_ble_eq_true rfl⟩) dX7_init_47 (fun ad11 hy11 => ?_)
  have hx11 := mj_ex.tr (n := 4) (n' := 9) (by decide) hx9 hy11
  have hp11 := mj_in9_le (n' := 10) hp10 (by decide)
  refine mj_p_fin (by decide) fl_X7_27 rfl rfl rfl rfl s0_4 (by decide) dX7_init_49 ?_
  have hp12 : mj_in9 (mj_sp (mj_sp (mj_sp (mj_sp (mj_sp (mj_sp P 4 1 5) 4 2 6) 4 3 7) 4 4 8) 4 5 9) 4 6 10) 10 := mj_in9_sp hp11 (by decide)
  refine mj_aload_n 0 dX7_init_52 rfl ?_
  refine mj_bipush (v := 40) dX7_init_53 (by decide +kernel) ?_
  refine mj_n_int (n' := 11) (N := 40) (kc' := 7) (ks' := 280) rfl ⟨rfl, rfl⟩ ⟨by decide +kernel, by decide +kernel, Nat.le_of_ble_eq_true rfl⟩ s0_11 (by decide) hp12 (by decide +kernel) (by decide +kernel) ac_int (mj_rcc hR ⟨Nat.le_of_ble_eq_true rfl, Nat.le_of_ble_eq_true rfl⟩) dX7_init_55 (fun ad13 hy13 => ?_)
  have hx13 := mj_ex.tr (n := 4) (n' := 10) (by decide) hx11 hy13
  have hp13 := mj_in9_le (n' := 11) hp12 (by decide)
  refine mj_p_fin (by decide) fl_X7_30 rfl rfl rfl rfl s0_4 (by decide) dX7_init_57 ?_
  have hp14 : mj_in9 (mj_sp (mj_sp (mj_sp (mj_sp (mj_sp (mj_sp (mj_sp P 4 1 5) 4 2 6) 4 3 7) 4 4 8) 4 5 9) 4 6 10) 4 7 11) 11 := mj_in9_sp hp13 (by decide)
  refine mj_aload_n 0 dX7_init_60 rfl ?_
  refine mj_bipush (v := 40) dX7_init_61 (by decide +kernel) ?_
  refine mj_n_int (n' := 12) (N := 40) (kc' := 8) (ks' := 320) rfl ⟨rfl, rfl⟩ ⟨by decide +kernel, by decide +kernel, Nat.le_of_ble_eq_true rfl⟩ s0_12 (by decide) hp14 (by decide +kernel) (by decide +kernel) ac_int (mj_rcc hR ⟨Nat.le_of_ble_eq_true rfl, Nat.le_of_ble_eq_true rfl⟩) dX7_init_63 (fun ad15 hy15 => ?_)
  have hx15 := mj_ex.tr (n := 4) (n' := 11) (by decide) hx13 hy15
  have hp15 := mj_in9_le (n' := 12) hp14 (by decide)
  refine mj_p_fin (by decide) fl_X7_33 rfl rfl rfl rfl s0_4 (by decide) dX7_init_65 ?_
  have hp16 : mj_in9 (mj_sp (mj_sp (mj_sp (mj_sp (mj_sp (mj_sp (mj_sp (mj_sp P 4 1 5) 4 2 6) 4 3 7) 4 4 8) 4 5 9) 4 6 10) 4 7 11) 4 8 12) 12 := mj_in9_sp hp15 (by decide)
  refine mj_aload_n 0 dX7_init_68 rfl ?_
  refine mj_bipush (v := 40) dX7_init_69 (by decide +kernel) ?_
  refine mj_n_int (n' := 13) (N := 40) (kc' := 9) (ks' := 360) rfl ⟨rfl, rfl⟩ ⟨by decide +kernel, by decide +kernel, Nat.le_of_ble_eq_true rfl⟩ s0_13 (by decide) hp16 (by decide +kernel) (by decide +kernel) ac_int (mj_rcc hR ⟨Nat.le_of_ble_eq_true rfl, Nat.le_of_ble_eq_true rfl⟩) dX7_init_71 (fun ad17 hy17 => ?_)
  have hx17 := mj_ex.tr (n := 4) (n' := 12) (by decide) hx15 hy17
  have hp17 := mj_in9_le (n' := 13) hp16 (by decide)
  refine mj_p_fin (by decide) fl_X7_36 rfl rfl rfl rfl s0_4 (by decide) dX7_init_73 ?_
  have hp18 : mj_in9 (mj_sp (mj_sp (mj_sp (mj_sp (mj_sp (mj_sp (mj_sp (mj_sp (mj_sp P 4 1 5) 4 2 6) 4 3 7) 4 4 8) 4 5 9) 4 6 10) 4 7 11) 4 8 12) 4 9 13) 13 := mj_in9_sp hp17 (by decide)
  refine mj_aload_n 0 dX7_init_76 rfl ?_
  refine mj_bipush (v := 40) dX7_init_77 (by decide +kernel) ?_
  refine mj_n_int (n' := 14) (N := 40) (kc' := 10) (ks' := 400) rfl ⟨rfl, rfl⟩ ⟨by decide +kernel, by decide +kernel, Nat.le_of_ble_eq_true rfl⟩ s0_14 (by decide) hp18 (by decide +kernel) (by decide +kernel) ac_int (mj_rcc hR ⟨Nat.le_of_ble_eq_true rfl, Nat.le_of_ble_eq_true rfl⟩) dX7_init_79 (fun ad19 hy19 => ?_)
  have hx19 := mj_ex.tr (n := 4) (n' := 13) (by decide) hx17 hy19
  have hp19 := mj_in9_le (n' := 14) hp18 (by decide)
  refine mj_p_fin (by decide) fl_X7_39 rfl rfl rfl rfl s0_4 (by decide) dX7_init_81 ?_
  have hp20 : mj_in9 (mj_sp (mj_sp (mj_sp (mj_sp (mj_sp (mj_sp (mj_sp (mj_sp (mj_sp (mj_sp P 4 1 5) 4 2 6) 4 3 7) 4 4 8) 4 5 9) 4 6 10) 4 7 11) 4 8 12) 4 9 13) 4 10 14) 14 := mj_in9_sp hp19 (by decide)
  exact mj_vretc hR hx19 ⟨Nat.le_refl _, Nat.le_refl _⟩ rfl dX7_init_84 ⟨rfl, rfl, rfl⟩
def cP_2 (P : mj_PT) : mj_PT := (mj_sp (mj_sp (mj_sp (mj_sp (cP_4 (mj_zp (mj_sp P 2 1 3) 4)) 2 2 4) 2 11 15) 2 12 16) 2 13 17)
def cI_2 (I : mj_IT) : mj_IT := (mj_zi (mj_zi (mj_zi (mj_si (cI_4 (mj_zi (mj_zi I 3) 4)) 2 9 (-1)) 15) 16) 17)
def cL_2 (L : mj_LT) : mj_LT := (cL_4 (mj_zl L 4))
theorem ci_2 {P : mj_PT} (hp : mj_in9 P 2) : mj_in9 (cP_2 P) 17 := by
  unfold cP_2
  exact mj_in9_sp (mj_in9_sp (mj_in9_sp (mj_in9_sp (mj_in9_le (n := 14) (ci_4 (mj_in9_zp (mj_in9_sp (mj_in9_le hp (by decide)) (by decide)))) (by decide)) (by decide)) (by decide)) (by decide)) (by decide)
set_option maxRecDepth 100000 in
set_option maxHeartbeats 4000000 in
theorem ct_2 (l : Launch) (G : mj_GT) (P : mj_PT) (I : mj_IT) (L : mj_LT) (hp : mj_in9 P 2) : mj_Mc l G yX8_init cX8_init 1 2 15 832 P mj_S0 2 17 [.ref 2] I L (fun P' I' L' => P' = cP_2 P ∧ I' = cI_2 I ∧ L' = cL_2 L) := by
  refine mj_inc RX8 "<init>" [(0, .ref 2)] rfl rfl rfl (by decide) (by decide) (fun X ad hR => ?_)
  have hx0 : mj_ex 2 ad ad := mj_ex.rf
  refine mj_aload_n 0 dX8_init_0 rfl ?_
  refine mj_objInit ⟨mj_seg_1 (j := 44) (by decide +kernel) rfl, oi_i, oi_c⟩ (by decide) (by decide) dX8_init_1 ?_
  refine mj_aload_n 0 dX8_init_4 rfl ?_
  refine mj_sipush (v := 400) dX8_init_5 (by decide +kernel) ?_
  refine mj_n_int (n' := 3) (N := 400) (kc' := 1) (ks' := 400) rfl ⟨rfl, rfl⟩ ⟨by decide +kernel, by decide +kernel, Nat.le_of_ble_eq_true rfl⟩ s0_3 (by decide) hp (by decide +kernel) (by decide +kernel) ac_int (mj_rcc hR ⟨Nat.le_of_ble_eq_true rfl, Nat.le_of_ble_eq_true rfl⟩) dX8_init_8 (fun ad1 hy1 => ?_)
  have hx1 := mj_ex.tr (n := 2) (n' := 2) (by decide) hx0 hy1
  have hp1 := mj_in9_le (n' := 3) hp (by decide)
  refine mj_p_fin (by decide) fl_X8_9 rfl rfl rfl rfl s0_2 (by decide) dX8_init_10 ?_
  have hp2 : mj_in9 (mj_sp P 2 1 3) 3 := mj_in9_sp hp1 (by decide)
  refine mj_aload_n 0 dX8_init_13 rfl ?_
  refine mj_n_obj (ci := 5) (n' := 4) (N := 11) (kc' := 2) (ks' := 411) rfl ⟨rfl, rfl⟩ k1_5 rfl dv_5 s0_4 (by decide) hp2 (by decide +kernel) (by decide +kernel) ⟨mj_seg_1 (j := 45) (by decide +kernel) rfl, mj_seg_1 (j := 46) (by decide +kernel) rfl, mj_seg_1 (j := 3) (by decide +kernel) rfl⟩ (mj_rcc hR ⟨Nat.le_of_ble_eq_true rfl, Nat.le_of_ble_eq_true rfl⟩) dX8_init_14 (fun ad3 hy3 => ?_)
  have hx3 := mj_ex.tr (n := 2) (n' := 3) (by decide) hx1 hy3
  have hp3 : mj_in9 (mj_zp (mj_sp P 2 1 3) 4) 4 := mj_in9_zp (mj_in9_le (n' := 4) hp2 (by decide))
  refine mj_dup dX8_init_17 rfl ?_
  have hM4 := ct_4 X.2.1 G (mj_zp (mj_sp P 2 1 3) 4) (mj_zi (mj_zi I 3) 4) (mj_zl L 4) hp3
  refine mj_callIN (n' := 14) (st := [.ref 4, .ref 2]) (host := "OddsSolver") [] hM4 ⟨mj_seg_1 (j := 49) (by decide +kernel) rfl, mj_seg_1 (j := 3) (by decide +kernel) rfl, mj_seg_1 (j := 48) (by decide +kernel) rfl, by decide +kernel, ⟨by decide, by decide, by decide +kernel⟩, by decide, rfl⟩ (by decide) rfl rfl (by decide) (mj_rcc hR ⟨Nat.le_of_ble_eq_true rfl, Nat.le_of_ble_eq_true rfl⟩) dX8_init_18 (by decide +kernel) (by decide +kernel) (fun P4 I4 L4 ad4 hy4 hq4 => ?_)
  obtain ⟨rfl, rfl, rfl⟩ := hq4
  have hx4 := mj_ex.tr (n := 2) (n' := 4) (by decide) hx3 hy4
  refine mj_kk (kc' := 12) (ks' := 811) rfl rfl ?_
  have hp4 : mj_in9 (cP_4 (mj_zp (mj_sp P 2 1 3) 4)) 14 := ci_4 hp3
  refine mj_p_ref (by decide) fl_X8_18 rfl rfl s0_2 (by decide) dX8_init_21 ?_
  have hp5 : mj_in9 (mj_sp (cP_4 (mj_zp (mj_sp P 2 1 3) 4)) 2 2 4) 14 := mj_in9_sp hp4 (by decide)
  refine mj_aload_n 0 dX8_init_24 rfl ?_
  refine mj_iconst (v := -1) dX8_init_25 (by decide +kernel) ?_
  refine mj_p_int ⟨rfl, rfl⟩ fl_X8_22 rfl rfl s0_2 (by decide) dX8_init_26 ?_
  refine mj_aload_n 0 dX8_init_29 rfl ?_
  refine mj_bipush (v := 7) dX8_init_30 (by decide +kernel) ?_
  refine mj_n_int (n' := 15) (N := 7) (kc' := 13) (ks' := 818) rfl ⟨rfl, rfl⟩ ⟨by decide +kernel, by decide +kernel, Nat.le_of_ble_eq_true rfl⟩ s0_15 (by decide) hp5 (by decide +kernel) (by decide +kernel) ac_int (mj_rcc hR ⟨Nat.le_of_ble_eq_true rfl, Nat.le_of_ble_eq_true rfl⟩) dX8_init_32 (fun ad6 hy6 => ?_)
  have hx6 := mj_ex.tr (n := 2) (n' := 14) (by decide) hx4 hy6
  have hp6 := mj_in9_le (n' := 15) hp5 (by decide)
  refine mj_p_fin (by decide) fl_X8_26 rfl rfl rfl rfl s0_2 (by decide) dX8_init_34 ?_
  have hp7 : mj_in9 (mj_sp (mj_sp (cP_4 (mj_zp (mj_sp P 2 1 3) 4)) 2 2 4) 2 11 15) 15 := mj_in9_sp hp6 (by decide)
  refine mj_aload_n 0 dX8_init_37 rfl ?_
  refine mj_bipush (v := 7) dX8_init_38 (by decide +kernel) ?_
  refine mj_n_int (n' := 16) (N := 7) (kc' := 14) (ks' := 825) rfl ⟨rfl, rfl⟩ ⟨by decide +kernel, by decide +kernel, Nat.le_of_ble_eq_true rfl⟩ s0_16 (by decide) hp7 (by decide +kernel) (by decide +kernel) ac_int (mj_rcc hR ⟨Nat.le_of_ble_eq_true rfl, Nat.le_of_ble_eq_true rfl⟩) dX8_init_40 (fun ad8 hy8 => ?_)
  have hx8 := mj_ex.tr (n := 2) (n' := 15) (by decide) hx6 hy8
  have hp8 := mj_in9_le (n' := 16) hp7 (by decide)
  refine mj_p_fin (by decide) fl_X8_29 rfl rfl rfl rfl s0_2 (by decide) dX8_init_42 ?_
  have hp9 : mj_in9 (mj_sp (mj_sp (mj_sp (cP_4 (mj_zp (mj_sp P 2 1 3) 4)) 2 2 4) 2 11 15) 2 12 16) 16 := mj_in9_sp hp8 (by decide)
  refine mj_aload_n 0 dX8_init_45 rfl ?_
  refine mj_bipush (v := 7) dX8_init_46 (by decide +kernel) ?_
  refine mj_n_boolean (n' := 17) (N := 7) (kc' := 15) (ks' := 832) rfl ⟨rfl, rfl⟩ ⟨by decide +kernel, by decide +kernel, Nat.le_of_ble_eq_true rfl⟩ s0_17 (by decide) hp9 (by decide +kernel) (by decide +kernel) ac_boolean (mj_rcc hR ⟨Nat.le_of_ble_eq_true rfl, Nat.le_of_ble_eq_true rfl⟩) dX8_init_48 (fun ad10 hy10 => ?_)
  have hx10 := mj_ex.tr (n := 2) (n' := 16) (by decide) hx8 hy10
  have hp10 := mj_in9_le (n' := 17) hp9 (by decide)
  refine mj_p_fin (by decide) fl_X8_32 rfl rfl rfl rfl s0_2 (by decide) dX8_init_50 ?_
  have hp11 : mj_in9 (mj_sp (mj_sp (mj_sp (mj_sp (cP_4 (mj_zp (mj_sp P 2 1 3) 4)) 2 2 4) 2 11 15) 2 12 16) 2 13 17) 17 := mj_in9_sp hp10 (by decide)
  exact mj_vretc hR hx10 ⟨Nat.le_refl _, Nat.le_refl _⟩ rfl dX8_init_53 ⟨rfl, rfl, rfl⟩
def cP_18 (P : mj_PT) : mj_PT := (mj_sp (mj_sp (mj_sp (mj_sp (mj_sp (mj_sp (mj_sp (mj_sp (mj_sp (mj_sp P 18 1 19) 18 2 20) 18 3 21) 18 4 22) 18 5 23) 18 6 24) 18 7 25) 18 8 26) 18 9 27) 18 10 28)
def cI_18 (I : mj_IT) : mj_IT := (mj_zi (mj_zi (mj_zi (mj_zi (mj_zi (mj_zi (mj_zi (mj_zi (mj_zi (mj_zi I 19) 20) 21) 22) 23) 24) 25) 26) 27) 28)
def cL_18 (L : mj_LT) : mj_LT := L
theorem ci_18 {P : mj_PT} (hp : mj_in9 P 18) : mj_in9 (cP_18 P) 28 := by
  unfold cP_18
  exact mj_in9_sp (mj_in9_sp (mj_in9_sp (mj_in9_sp (mj_in9_sp (mj_in9_sp (mj_in9_sp (mj_in9_sp (mj_in9_sp (mj_in9_sp (mj_in9_le hp (by decide)) (by decide)) (by decide)) (by decide)) (by decide)) (by decide)) (by decide)) (by decide)) (by decide)) (by decide)) (by decide)
set_option maxRecDepth 100000 in
set_option maxHeartbeats 4000000 in
theorem ct_18 (l : Launch) (G : mj_GT) (P : mj_PT) (I : mj_IT) (L : mj_LT) (hp : mj_in9 P 18) : mj_Mc l G yX7_init cX7_init 1 1 10 400 P mj_S0 18 28 [.ref 18] I L (fun P' I' L' => P' = cP_18 P ∧ I' = cI_18 I ∧ L' = cL_18 L) := by
  refine mj_inc RX7 "<init>" [(0, .ref 18)] rfl rfl rfl (by decide) (by decide) (fun X ad hR => ?_)
  have hx0 : mj_ex 18 ad ad := mj_ex.rf
  refine mj_aload_n 0 dX7_init_0 rfl ?_
  refine mj_objInit ⟨mj_seg_1 (j := 50) (by decide +kernel) rfl, oi_i, oi_c⟩ (by decide) (by decide) dX7_init_1 ?_
  refine mj_aload_n 0 dX7_init_4 rfl ?_
  refine mj_bipush (v := 40) dX7_init_5 (by decide +kernel) ?_
  refine mj_n_int (n' := 19) (N := 40) (kc' := 1) (ks' := 40) rfl ⟨rfl, rfl⟩ ⟨by decide +kernel, by decide +kernel, Nat.le_of_ble_eq_true rfl⟩ s0_19 (by decide) hp (by decide +kernel) (by decide +kernel) ac_int (mj_rcc hR ⟨Nat.le_of_ble_eq_true rfl, Nat.le_of_ble_eq_true rfl⟩) dX7_init_7 (fun ad1 hy1 => ?_)
  have hx1 := mj_ex.tr (n := 18) (n' := 18) (by decide) hx0 hy1
  have hp1 := mj_in9_le (n' := 19) hp (by decide)
  refine mj_p_fin (by decide) fl_X7_9 rfl rfl rfl rfl s0_18 (by decide) dX7_init_9 ?_
  have hp2 : mj_in9 (mj_sp P 18 1 19) 19 := mj_in9_sp hp1 (by decide)
  refine mj_aload_n 0 dX7_init_12 rfl ?_
  refine mj_bipush (v := 40) dX7_init_13 (by decide +kernel) ?_
  refine mj_n_int (n' := 20) (N := 40) (kc' := 2) (ks' := 80) rfl ⟨rfl, rfl⟩ ⟨by decide +kernel, by decide +kernel, Nat.le_of_ble_eq_true rfl⟩ s0_20 (by decide) hp2 (by decide +kernel) (by decide +kernel) ac_int (mj_rcc hR ⟨Nat.le_of_ble_eq_true rfl, Nat.le_of_ble_eq_true rfl⟩) dX7_init_15 (fun ad3 hy3 => ?_)
  have hx3 := mj_ex.tr (n := 18) (n' := 19) (by decide) hx1 hy3
  have hp3 := mj_in9_le (n' := 20) hp2 (by decide)
  refine mj_p_fin (by decide) fl_X7_15 rfl rfl rfl rfl s0_18 (by decide) dX7_init_17 ?_
  have hp4 : mj_in9 (mj_sp (mj_sp P 18 1 19) 18 2 20) 20 := mj_in9_sp hp3 (by decide)
  refine mj_aload_n 0 dX7_init_20 rfl ?_
  refine mj_bipush (v := 40) dX7_init_21 (by decide +kernel) ?_
  refine mj_n_int (n' := 21) (N := 40) (kc' := 3) (ks' := 120) rfl ⟨rfl, rfl⟩ ⟨by decide +kernel, by decide +kernel, Nat.le_of_ble_eq_true rfl⟩ s0_21 (by decide) hp4 (by decide +kernel) (by decide +kernel) ac_int (mj_rcc hR ⟨Nat.le_of_ble_eq_true rfl, Nat.le_of_ble_eq_true rfl⟩) dX7_init_23 (fun ad5 hy5 => ?_)
  have hx5 := mj_ex.tr (n := 18) (n' := 20) (by decide) hx3 hy5
  have hp5 := mj_in9_le (n' := 21) hp4 (by decide)
  refine mj_p_fin (by decide) fl_X7_18 rfl rfl rfl rfl s0_18 (by decide) dX7_init_25 ?_
  have hp6 : mj_in9 (mj_sp (mj_sp (mj_sp P 18 1 19) 18 2 20) 18 3 21) 21 := mj_in9_sp hp5 (by decide)
  refine mj_aload_n 0 dX7_init_28 rfl ?_
  refine mj_bipush (v := 40) dX7_init_29 (by decide +kernel) ?_
  refine mj_n_int (n' := 22) (N := 40) (kc' := 4) (ks' := 160) rfl ⟨rfl, rfl⟩ ⟨by decide +kernel, by decide +kernel, Nat.le_of_ble_eq_true rfl⟩ s0_22 (by decide) hp6 (by decide +kernel) (by decide +kernel) ac_int (mj_rcc hR ⟨Nat.le_of_ble_eq_true rfl, Nat.le_of_ble_eq_true rfl⟩) dX7_init_31 (fun ad7 hy7 => ?_)
  have hx7 := mj_ex.tr (n := 18) (n' := 21) (by decide) hx5 hy7
  have hp7 := mj_in9_le (n' := 22) hp6 (by decide)
  refine mj_p_fin (by decide) fl_X7_21 rfl rfl rfl rfl s0_18 (by decide) dX7_init_33 ?_
  have hp8 : mj_in9 (mj_sp (mj_sp (mj_sp (mj_sp P 18 1 19) 18 2 20) 18 3 21) 18 4 22) 22 := mj_in9_sp hp7 (by decide)
  refine mj_aload_n 0 dX7_init_36 rfl ?_
  refine mj_bipush (v := 40) dX7_init_37 (by decide +kernel) ?_
  refine mj_n_int (n' := 23) (N := 40) (kc' := 5) (ks' := 200) rfl ⟨rfl, rfl⟩ ⟨by decide +kernel, by decide +kernel, Nat.le_of_ble_eq_true rfl⟩ s0_23 (by decide) hp8 (by decide +kernel) (by decide +kernel) ac_int (mj_rcc hR ⟨Nat.le_of_ble_eq_true rfl, Nat.le_of_ble_eq_true rfl⟩) dX7_init_39 (fun ad9 hy9 => ?_)
  have hx9 := mj_ex.tr (n := 18) (n' := 22) (by decide) hx7 hy9
  have hp9 := mj_in9_le (n' := 23) hp8 (by decide)
  refine mj_p_fin (by decide) fl_X7_24 rfl rfl rfl rfl s0_18 (by decide) dX7_init_41 ?_
  have hp10 : mj_in9 (mj_sp (mj_sp (mj_sp (mj_sp (mj_sp P 18 1 19) 18 2 20) 18 3 21) 18 4 22) 18 5 23) 23 := mj_in9_sp hp9 (by decide)
  refine mj_aload_n 0 dX7_init_44 rfl ?_
  refine mj_bipush (v := 40) dX7_init_45 (by decide +kernel) ?_
  refine mj_n_int (n' := 24) (N := 40) (kc' := 6) (ks' := 240) rfl ⟨rfl, rfl⟩ ⟨by decide +kernel, by decide +kernel, Nat.le_of_ble_eq_true rfl⟩ s0_24 (by decide) hp10 (by decide +kernel) (by decide +kernel) ac_int (mj_rcc hR ⟨Nat.le_of_ble_eq_true rfl, Nat.le_of_ble_eq_true rfl⟩) dX7_init_47 (fun ad11 hy11 => ?_)
  have hx11 := mj_ex.tr (n := 18) (n' := 23) (by decide) hx9 hy11
  have hp11 := mj_in9_le (n' := 24) hp10 (by decide)
  refine mj_p_fin (by decide) fl_X7_27 rfl rfl rfl rfl s0_18 (by decide) dX7_init_49 ?_
  have hp12 : mj_in9 (mj_sp (mj_sp (mj_sp (mj_sp (mj_sp (mj_sp P 18 1 19) 18 2 20) 18 3 21) 18 4 22) 18 5 23) 18 6 24) 24 := mj_in9_sp hp11 (by decide)
  refine mj_aload_n 0 dX7_init_52 rfl ?_
  refine mj_bipush (v := 40) dX7_init_53 (by decide +kernel) ?_
  refine mj_n_int (n' := 25) (N := 40) (kc' := 7) (ks' := 280) rfl ⟨rfl, rfl⟩ ⟨by decide +kernel, by decide +kernel, Nat.le_of_ble_eq_true rfl⟩ s0_25 (by decide) hp12 (by decide +kernel) (by decide +kernel) ac_int (mj_rcc hR ⟨Nat.le_of_ble_eq_true rfl, Nat.le_of_ble_eq_true rfl⟩) dX7_init_55 (fun ad13 hy13 => ?_)
  have hx13 := mj_ex.tr (n := 18) (n' := 24) (by decide) hx11 hy13
  have hp13 := mj_in9_le (n' := 25) hp12 (by decide)
  refine mj_p_fin (by decide) fl_X7_30 rfl rfl rfl rfl s0_18 (by decide) dX7_init_57 ?_
  have hp14 : mj_in9 (mj_sp (mj_sp (mj_sp (mj_sp (mj_sp (mj_sp (mj_sp P 18 1 19) 18 2 20) 18 3 21) 18 4 22) 18 5 23) 18 6 24) 18 7 25) 25 := mj_in9_sp hp13 (by decide)
  refine mj_aload_n 0 dX7_init_60 rfl ?_
  refine mj_bipush (v := 40) dX7_init_61 (by decide +kernel) ?_
  refine mj_n_int (n' := 26) (N := 40) (kc' := 8) (ks' := 320) rfl ⟨rfl, rfl⟩ ⟨by decide +kernel, by decide +kernel, Nat.le_of_ble_eq_true rfl⟩ s0_26 (by decide) hp14 (by decide +kernel) (by decide +kernel) ac_int (mj_rcc hR ⟨Nat.le_of_ble_eq_true rfl, Nat.le_of_ble_eq_true rfl⟩) dX7_init_63 (fun ad15 hy15 => ?_)
  have hx15 := mj_ex.tr (n := 18) (n' := 25) (by decide) hx13 hy15
  have hp15 := mj_in9_le (n' := 26) hp14 (by decide)
  refine mj_p_fin (by decide) fl_X7_33 rfl rfl rfl rfl s0_18 (by decide) dX7_init_65 ?_
  have hp16 : mj_in9 (mj_sp (mj_sp (mj_sp (mj_sp (mj_sp (mj_sp (mj_sp (mj_sp P 18 1 19) 18 2 20) 18 3 21) 18 4 22) 18 5 23) 18 6 24) 18 7 25) 18 8 26) 26 := mj_in9_sp hp15 (by decide)
  refine mj_aload_n 0 dX7_init_68 rfl ?_
  refine mj_bipush (v := 40) dX7_init_69 (by decide +kernel) ?_
  refine mj_n_int (n' := 27) (N := 40) (kc' := 9) (ks' := 360) rfl ⟨rfl, rfl⟩ ⟨by decide +kernel, by decide +kernel, Nat.le_of_ble_eq_true rfl⟩ s0_27 (by decide) hp16 (by decide +kernel) (by decide +kernel) ac_int (mj_rcc hR ⟨Nat.le_of_ble_eq_true rfl, Nat.le_of_ble_eq_true rfl⟩) dX7_init_71 (fun ad17 hy17 => ?_)
  have hx17 := mj_ex.tr (n := 18) (n' := 26) (by decide) hx15 hy17
  have hp17 := mj_in9_le (n' := 27) hp16 (by decide)
  refine mj_p_fin (by decide) fl_X7_36 rfl rfl rfl rfl s0_18 (by decide) dX7_init_73 ?_
  have hp18 : mj_in9 (mj_sp (mj_sp (mj_sp (mj_sp (mj_sp (mj_sp (mj_sp (mj_sp (mj_sp P 18 1 19) 18 2 20) 18 3 21) 18 4 22) 18 5 23) 18 6 24) 18 7 25) 18 8 26) 18 9 27) 27 := mj_in9_sp hp17 (by decide)
  refine mj_aload_n 0 dX7_init_76 rfl ?_
  refine mj_bipush (v := 40) dX7_init_77 (by decide +kernel) ?_
  refine mj_n_int (n' := 28) (N := 40) (kc' := 10) (ks' := 400) rfl ⟨rfl, rfl⟩ ⟨by decide +kernel, by decide +kernel, Nat.le_of_ble_eq_true rfl⟩ s0_28 (by decide) hp18 (by decide +kernel) (by decide +kernel) ac_int (mj_rcc hR ⟨Nat.le_of_ble_eq_true rfl, Nat.le_of_ble_eq_true rfl⟩) dX7_init_79 (fun ad19 hy19 => ?_)
  have hx19 := mj_ex.tr (n := 18) (n' := 27) (by decide) hx17 hy19
  have hp19 := mj_in9_le (n' := 28) hp18 (by decide)
  refine mj_p_fin (by decide) fl_X7_39 rfl rfl rfl rfl s0_18 (by decide) dX7_init_81 ?_
  have hp20 : mj_in9 (mj_sp (mj_sp (mj_sp (mj_sp (mj_sp (mj_sp (mj_sp (mj_sp (mj_sp (mj_sp P 18 1 19) 18 2 20) 18 3 21) 18 4 22) 18 5 23) 18 6 24) 18 7 25) 18 8 26) 18 9 27) 18 10 28) 28 := mj_in9_sp hp19 (by decide)
  exact mj_vretc hR hx19 ⟨Nat.le_refl _, Nat.le_refl _⟩ rfl dX7_init_84 ⟨rfl, rfl, rfl⟩
def cP_29 (P : mj_PT) : mj_PT := (mj_sp (mj_sp P 29 1 30) 29 2 31)
def cI_29 (I : mj_IT) : mj_IT := (mj_zi (mj_zi I 30) 31)
def cL_29 (L : mj_LT) : mj_LT := L
theorem ci_29 {P : mj_PT} (hp : mj_in9 P 29) : mj_in9 (cP_29 P) 31 := by
  unfold cP_29
  exact mj_in9_sp (mj_in9_sp (mj_in9_le hp (by decide)) (by decide)) (by decide)
set_option maxRecDepth 100000 in
set_option maxHeartbeats 4000000 in
theorem ct_29 (l : Launch) (G : mj_GT) (P : mj_PT) (I : mj_IT) (L : mj_LT) (hp : mj_in9 P 29) : mj_Mc l G yX0_init cX0_init 1 1 2 24 P mj_S0 29 31 [.ref 29] I L (fun P' I' L' => P' = cP_29 P ∧ I' = cI_29 I ∧ L' = cL_29 L) := by
  refine mj_inc RX0 "<init>" [(0, .ref 29)] rfl rfl rfl (by decide) (by decide) (fun X ad hR => ?_)
  have hx0 : mj_ex 29 ad ad := mj_ex.rf
  refine mj_aload_n 0 dX0_init_0 rfl ?_
  refine mj_objInit ⟨mj_seg_1 (j := 159) (by decide +kernel) rfl, oi_i, oi_c⟩ (by decide) (by decide) dX0_init_1 ?_
  refine mj_aload_n 0 dX0_init_4 rfl ?_
  refine mj_bipush (v := 12) dX0_init_5 (by decide +kernel) ?_
  refine mj_n_int (n' := 30) (N := 12) (kc' := 1) (ks' := 12) rfl ⟨rfl, rfl⟩ ⟨by decide +kernel, by decide +kernel, Nat.le_of_ble_eq_true rfl⟩ s0_30 (by decide) hp (by decide +kernel) (by decide +kernel) ac_int (mj_rcc hR ⟨Nat.le_of_ble_eq_true rfl, Nat.le_of_ble_eq_true rfl⟩) dX0_init_7 (fun ad1 hy1 => ?_)
  have hx1 := mj_ex.tr (n := 29) (n' := 29) (by decide) hx0 hy1
  have hp1 := mj_in9_le (n' := 30) hp (by decide)
  refine mj_p_fin (by decide) fl_X0_9 rfl rfl rfl rfl s0_29 (by decide) dX0_init_9 ?_
  have hp2 : mj_in9 (mj_sp P 29 1 30) 30 := mj_in9_sp hp1 (by decide)
  refine mj_aload_n 0 dX0_init_12 rfl ?_
  refine mj_bipush (v := 12) dX0_init_13 (by decide +kernel) ?_
  refine mj_n_int (n' := 31) (N := 12) (kc' := 2) (ks' := 24) rfl ⟨rfl, rfl⟩ ⟨by decide +kernel, by decide +kernel, Nat.le_of_ble_eq_true rfl⟩ s0_31 (by decide) hp2 (by decide +kernel) (by decide +kernel) ac_int (mj_rcc hR ⟨Nat.le_of_ble_eq_true rfl, Nat.le_of_ble_eq_true rfl⟩) dX0_init_15 (fun ad3 hy3 => ?_)
  have hx3 := mj_ex.tr (n := 29) (n' := 30) (by decide) hx1 hy3
  have hp3 := mj_in9_le (n' := 31) hp2 (by decide)
  refine mj_p_fin (by decide) fl_X0_15 rfl rfl rfl rfl s0_29 (by decide) dX0_init_17 ?_
  have hp4 : mj_in9 (mj_sp (mj_sp P 29 1 30) 29 2 31) 31 := mj_in9_sp hp3 (by decide)
  exact mj_vretc hR hx3 ⟨Nat.le_refl _, Nat.le_refl _⟩ rfl dX0_init_20 ⟨rfl, rfl, rfl⟩
def cP_32 (P : mj_PT) : mj_PT := (mj_sp (mj_sp (mj_sp (mj_sp (mj_sp (mj_sp (mj_sp (mj_sp P 32 8 33) 32 9 34) 32 10 35) 32 11 36) 32 12 37) 32 13 38) 32 14 39) 32 15 40)
def cI_32 (I : mj_IT) : mj_IT := (mj_zi (mj_zi (mj_zi (mj_zi (mj_zi (mj_zi (mj_zi (mj_zi I 33) 34) 35) 36) 37) 38) 39) 40)
def cL_32 (L : mj_LT) : mj_LT := L
theorem ci_32 {P : mj_PT} (hp : mj_in9 P 32) : mj_in9 (cP_32 P) 40 := by
  unfold cP_32
  exact mj_in9_sp (mj_in9_sp (mj_in9_sp (mj_in9_sp (mj_in9_sp (mj_in9_sp (mj_in9_sp (mj_in9_sp (mj_in9_le hp (by decide)) (by decide)) (by decide)) (by decide)) (by decide)) (by decide)) (by decide)) (by decide)) (by decide)
set_option maxRecDepth 100000 in
set_option maxHeartbeats 4000000 in
theorem ct_32 (l : Launch) (G : mj_GT) (P : mj_PT) (I : mj_IT) (L : mj_LT) (hp : mj_in9 P 32) : mj_Mc l G yX4_init cX4_init 1 1 8 5513 P mj_S0 32 40 [.ref 32] I L (fun P' I' L' => P' = cP_32 P ∧ I' = cI_32 I ∧ L' = cL_32 L) := by
  refine mj_inc RX4 "<init>" [(0, .ref 32)] rfl rfl rfl (by decide) (by decide) (fun X ad hR => ?_)
  have hx0 : mj_ex 32 ad ad := mj_ex.rf
  refine mj_aload_n 0 dX4_init_0 rfl ?_
  refine mj_objInit ⟨mj_seg_1 (j := 176) (by decide +kernel) rfl, oi_i, oi_c⟩ (by decide) (by decide) dX4_init_1 ?_
  refine mj_aload_n 0 dX4_init_4 rfl ?_
  refine mj_sipush (v := 200) dX4_init_5 (by decide +kernel) ?_
  refine mj_n_int (n' := 33) (N := 200) (kc' := 1) (ks' := 200) rfl ⟨rfl, rfl⟩ ⟨by decide +kernel, by decide +kernel, Nat.le_of_ble_eq_true rfl⟩ s0_33 (by decide) hp (by decide +kernel) (by decide +kernel) ac_int (mj_rcc hR ⟨Nat.le_of_ble_eq_true rfl, Nat.le_of_ble_eq_true rfl⟩) dX4_init_8 (fun ad1 hy1 => ?_)
  have hx1 := mj_ex.tr (n := 32) (n' := 32) (by decide) hx0 hy1
  have hp1 := mj_in9_le (n' := 33) hp (by decide)
  refine mj_p_fin (by decide) fl_X4_9 rfl rfl rfl rfl s0_32 (by decide) dX4_init_10 ?_
  have hp2 : mj_in9 (mj_sp P 32 8 33) 33 := mj_in9_sp hp1 (by decide)
  refine mj_aload_n 0 dX4_init_13 rfl ?_
  refine mj_sipush (v := 200) dX4_init_14 (by decide +kernel) ?_
  refine mj_n_int (n' := 34) (N := 200) (kc' := 2) (ks' := 400) rfl ⟨rfl, rfl⟩ ⟨by decide +kernel, by decide +kernel, Nat.le_of_ble_eq_true rfl⟩ s0_34 (by decide) hp2 (by decide +kernel) (by decide +kernel) ac_int (mj_rcc hR ⟨Nat.le_of_ble_eq_true rfl, Nat.le_of_ble_eq_true rfl⟩) dX4_init_17 (fun ad3 hy3 => ?_)
  have hx3 := mj_ex.tr (n := 32) (n' := 33) (by decide) hx1 hy3
  have hp3 := mj_in9_le (n' := 34) hp2 (by decide)
  refine mj_p_fin (by decide) fl_X4_15 rfl rfl rfl rfl s0_32 (by decide) dX4_init_19 ?_
  have hp4 : mj_in9 (mj_sp (mj_sp P 32 8 33) 32 9 34) 34 := mj_in9_sp hp3 (by decide)
  refine mj_aload_n 0 dX4_init_22 rfl ?_
  refine mj_sipush (v := 200) dX4_init_23 (by decide +kernel) ?_
  refine mj_n_int (n' := 35) (N := 200) (kc' := 3) (ks' := 600) rfl ⟨rfl, rfl⟩ ⟨by decide +kernel, by decide +kernel, Nat.le_of_ble_eq_true rfl⟩ s0_35 (by decide) hp4 (by decide +kernel) (by decide +kernel) ac_int (mj_rcc hR ⟨Nat.le_of_ble_eq_true rfl, Nat.le_of_ble_eq_true rfl⟩) dX4_init_26 (fun ad5 hy5 => ?_)
  have hx5 := mj_ex.tr (n := 32) (n' := 34) (by decide) hx3 hy5
  have hp5 := mj_in9_le (n' := 35) hp4 (by decide)
  refine mj_p_fin (by decide) fl_X4_18 rfl rfl rfl rfl s0_32 (by decide) dX4_init_28 ?_
  have hp6 : mj_in9 (mj_sp (mj_sp (mj_sp P 32 8 33) 32 9 34) 32 10 35) 35 := mj_in9_sp hp5 (by decide)
  refine mj_aload_n 0 dX4_init_31 rfl ?_
  refine mj_sipush (v := 200) dX4_init_32 (by decide +kernel) ?_
  refine mj_n_boolean (n' := 36) (N := 200) (kc' := 4) (ks' := 800) rfl ⟨rfl, rfl⟩ ⟨by decide +kernel, by decide +kernel, Nat.le_of_ble_eq_true rfl⟩ s0_36 (by decide) hp6 (by decide +kernel) (by decide +kernel) ac_boolean (mj_rcc hR ⟨Nat.le_of_ble_eq_true rfl, Nat.le_of_ble_eq_true rfl⟩) dX4_init_35 (fun ad7 hy7 => ?_)
  have hx7 := mj_ex.tr (n := 32) (n' := 35) (by decide) hx5 hy7
  have hp7 := mj_in9_le (n' := 36) hp6 (by decide)
  refine mj_p_fin (by decide) fl_X4_21 rfl rfl rfl rfl s0_32 (by decide) dX4_init_37 ?_
  have hp8 : mj_in9 (mj_sp (mj_sp (mj_sp (mj_sp P 32 8 33) 32 9 34) 32 10 35) 32 11 36) 36 := mj_in9_sp hp7 (by decide)
  refine mj_aload_n 0 dX4_init_40 rfl ?_
  refine mj_sipush (v := 201) dX4_init_41 (by decide +kernel) ?_
  refine mj_n_int (n' := 37) (N := 201) (kc' := 5) (ks' := 1001) rfl ⟨rfl, rfl⟩ ⟨by decide +kernel, by decide +kernel, Nat.le_of_ble_eq_true rfl⟩ s0_37 (by decide) hp8 (by decide +kernel) (by decide +kernel) ac_int (mj_rcc hR ⟨Nat.le_of_ble_eq_true rfl, Nat.le_of_ble_eq_true rfl⟩) dX4_init_44 (fun ad9 hy9 => ?_)
  have hx9 := mj_ex.tr (n := 32) (n' := 36) (by decide) hx7 hy9
  have hp9 := mj_in9_le (n' := 37) hp8 (by decide)
  refine mj_p_fin (by decide) fl_X4_25 rfl rfl rfl rfl s0_32 (by decide) dX4_init_46 ?_
  have hp10 : mj_in9 (mj_sp (mj_sp (mj_sp (mj_sp (mj_sp P 32 8 33) 32 9 34) 32 10 35) 32 11 36) 32 12 37) 37 := mj_in9_sp hp9 (by decide)
  refine mj_aload_n 0 dX4_init_49 rfl ?_
  refine mj_sipush (v := 2000) dX4_init_50 (by decide +kernel) ?_
  refine mj_n_int (n' := 38) (N := 2000) (kc' := 6) (ks' := 3001) rfl ⟨rfl, rfl⟩ ⟨by decide +kernel, by decide +kernel, Nat.le_of_ble_eq_true rfl⟩ s0_38 (by decide) hp10 (by decide +kernel) (by decide +kernel) ac_int (mj_rcc hR ⟨Nat.le_of_ble_eq_true rfl, Nat.le_of_ble_eq_true rfl⟩) dX4_init_53 (fun ad11 hy11 => ?_)
  have hx11 := mj_ex.tr (n := 32) (n' := 37) (by decide) hx9 hy11
  have hp11 := mj_in9_le (n' := 38) hp10 (by decide)
  refine mj_p_fin (by decide) fl_X4_28 rfl rfl rfl rfl s0_32 (by decide) dX4_init_55 ?_
  have hp12 : mj_in9 (mj_sp (mj_sp (mj_sp (mj_sp (mj_sp (mj_sp P 32 8 33) 32 9 34) 32 10 35) 32 11 36) 32 12 37) 32 13 38) 38 := mj_in9_sp hp11 (by decide)
  refine mj_aload_n 0 dX4_init_58 rfl ?_
  refine mj_sipush (v := 2000) dX4_init_59 (by decide +kernel) ?_
  refine mj_n_int (n' := 39) (N := 2000) (kc' := 7) (ks' := 5001) rfl ⟨rfl, rfl⟩ ⟨by decide +kernel, by decide +kernel, Nat.le_of_ble_eq_true rfl⟩ s0_39 (by decide) hp12 (by decide +kernel) (by decide +kernel) ac_int (mj_rcc hR ⟨Nat.le_of_ble_eq_true rfl, Nat.le_of_ble_eq_true rfl⟩) dX4_init_62 (fun ad13 hy13 => ?_)
  have hx13 := mj_ex.tr (n := 32) (n' := 38) (by decide) hx11 hy13
  have hp13 := mj_in9_le (n' := 39) hp12 (by decide)
  refine mj_p_fin (by decide) fl_X4_31 rfl rfl rfl rfl s0_32 (by decide) dX4_init_64 ?_
  have hp14 : mj_in9 (mj_sp (mj_sp (mj_sp (mj_sp (mj_sp (mj_sp (mj_sp P 32 8 33) 32 9 34) 32 10 35) 32 11 36) 32 12 37) 32 13 38) 32 14 39) 39 := mj_in9_sp hp13 (by decide)
  refine mj_aload_n 0 dX4_init_67 rfl ?_
  refine mj_sipush (v := 512) dX4_init_68 (by decide +kernel) ?_
  refine mj_n_int (n' := 40) (N := 512) (kc' := 8) (ks' := 5513) rfl ⟨rfl, rfl⟩ ⟨by decide +kernel, by decide +kernel, Nat.le_of_ble_eq_true rfl⟩ s0_40 (by decide) hp14 (by decide +kernel) (by decide +kernel) ac_int (mj_rcc hR ⟨Nat.le_of_ble_eq_true rfl, Nat.le_of_ble_eq_true rfl⟩) dX4_init_71 (fun ad15 hy15 => ?_)
  have hx15 := mj_ex.tr (n := 32) (n' := 39) (by decide) hx13 hy15
  have hp15 := mj_in9_le (n' := 40) hp14 (by decide)
  refine mj_p_fin (by decide) fl_X4_34 rfl rfl rfl rfl s0_32 (by decide) dX4_init_73 ?_
  have hp16 : mj_in9 (mj_sp (mj_sp (mj_sp (mj_sp (mj_sp (mj_sp (mj_sp (mj_sp P 32 8 33) 32 9 34) 32 10 35) 32 11 36) 32 12 37) 32 13 38) 32 14 39) 32 15 40) 40 := mj_in9_sp hp15 (by decide)
  exact mj_vretc hR hx15 ⟨Nat.le_refl _, Nat.le_refl _⟩ rfl dX4_init_76 ⟨rfl, rfl, rfl⟩
def cP_41 (P : mj_PT) : mj_PT := (mj_sp (mj_sp (mj_sp (mj_sp (mj_sp (mj_sp (mj_sp (mj_sp (mj_sp P 41 3 42) 41 7 43) 41 8 44) 41 9 45) 41 10 46) 41 11 47) 41 12 48) 41 13 49) 41 14 50)
def cI_41 (I : mj_IT) : mj_IT := (mj_zi (mj_zi (mj_zi (mj_zi (mj_zi (mj_zi (mj_zi (mj_zi (mj_zi I 42) 43) 44) 45) 46) 47) 48) 49) 50)
def cL_41 (L : mj_LT) : mj_LT := L
theorem ci_41 {P : mj_PT} (hp : mj_in9 P 41) : mj_in9 (cP_41 P) 50 := by
  unfold cP_41
  exact mj_in9_sp (mj_in9_sp (mj_in9_sp (mj_in9_sp (mj_in9_sp (mj_in9_sp (mj_in9_sp (mj_in9_sp (mj_in9_sp (mj_in9_le hp (by decide)) (by decide)) (by decide)) (by decide)) (by decide)) (by decide)) (by decide)) (by decide)) (by decide)) (by decide)
set_option maxRecDepth 100000 in
set_option maxHeartbeats 4000000 in
theorem ct_41 (l : Launch) (G : mj_GT) (P : mj_PT) (I : mj_IT) (L : mj_LT) (hp : mj_in9 P 41) : mj_Mc l G yX2_init cX2_init 1 1 9 41321 P mj_S0 41 50 [.ref 41] I L (fun P' I' L' => P' = cP_41 P ∧ I' = cI_41 I ∧ L' = cL_41 L) := by
  refine mj_inc RX2 "<init>" [(0, .ref 41)] rfl rfl rfl (by decide) (by decide) (fun X ad hR => ?_)
  have hx0 : mj_ex 41 ad ad := mj_ex.rf
  refine mj_aload_n 0 dX2_init_0 rfl ?_
  refine mj_objInit ⟨mj_seg_2 (j := 27) (by decide +kernel) rfl, oi_i, oi_c⟩ (by decide) (by decide) dX2_init_1 ?_
  refine mj_aload_n 0 dX2_init_4 rfl ?_
  refine mj_sipush (v := 200) dX2_init_5 (by decide +kernel) ?_
  refine mj_n_int (n' := 42) (N := 200) (kc' := 1) (ks' := 200) rfl ⟨rfl, rfl⟩ ⟨by decide +kernel, by decide +kernel, Nat.le_of_ble_eq_true rfl⟩ s0_42 (by decide) hp (by decide +kernel) (by decide +kernel) ac_int (mj_rcc hR ⟨Nat.le_of_ble_eq_true rfl, Nat.le_of_ble_eq_true rfl⟩) dX2_init_8 (fun ad1 hy1 => ?_)
  have hx1 := mj_ex.tr (n := 41) (n' := 41) (by decide) hx0 hy1
  have hp1 := mj_in9_le (n' := 42) hp (by decide)
  refine mj_p_fin (by decide) fl_X2_9 rfl rfl rfl rfl s0_41 (by decide) dX2_init_10 ?_
  have hp2 : mj_in9 (mj_sp P 41 3 42) 42 := mj_in9_sp hp1 (by decide)
  refine mj_aload_n 0 dX2_init_13 rfl ?_
  refine mj_sipush (v := 200) dX2_init_14 (by decide +kernel) ?_
  refine mj_n_int (n' := 43) (N := 200) (kc' := 2) (ks' := 400) rfl ⟨rfl, rfl⟩ ⟨by decide +kernel, by decide +kernel, Nat.le_of_ble_eq_true rfl⟩ s0_43 (by decide) hp2 (by decide +kernel) (by decide +kernel) ac_int (mj_rcc hR ⟨Nat.le_of_ble_eq_true rfl, Nat.le_of_ble_eq_true rfl⟩) dX2_init_17 (fun ad3 hy3 => ?_)
  have hx3 := mj_ex.tr (n := 41) (n' := 42) (by decide) hx1 hy3
  have hp3 := mj_in9_le (n' := 43) hp2 (by decide)
  refine mj_p_fin (by decide) fl_X2_15 rfl rfl rfl rfl s0_41 (by decide) dX2_init_19 ?_
  have hp4 : mj_in9 (mj_sp (mj_sp P 41 3 42) 41 7 43) 43 := mj_in9_sp hp3 (by decide)
  refine mj_aload_n 0 dX2_init_22 rfl ?_
  refine mj_sipush (v := 200) dX2_init_23 (by decide +kernel) ?_
  refine mj_n_int (n' := 44) (N := 200) (kc' := 3) (ks' := 600) rfl ⟨rfl, rfl⟩ ⟨by decide +kernel, by decide +kernel, Nat.le_of_ble_eq_true rfl⟩ s0_44 (by decide) hp4 (by decide +kernel) (by decide +kernel) ac_int (mj_rcc hR ⟨Nat.le_of_ble_eq_true rfl, Nat.le_of_ble_eq_true rfl⟩) dX2_init_26 (fun ad5 hy5 => ?_)
  have hx5 := mj_ex.tr (n := 41) (n' := 43) (by decide) hx3 hy5
  have hp5 := mj_in9_le (n' := 44) hp4 (by decide)
  refine mj_p_fin (by decide) fl_X2_18 rfl rfl rfl rfl s0_41 (by decide) dX2_init_28 ?_
  have hp6 : mj_in9 (mj_sp (mj_sp (mj_sp P 41 3 42) 41 7 43) 41 8 44) 44 := mj_in9_sp hp5 (by decide)
  refine mj_aload_n 0 dX2_init_31 rfl ?_
  refine mj_sipush (v := 200) dX2_init_32 (by decide +kernel) ?_
  refine mj_n_int (n' := 45) (N := 200) (kc' := 4) (ks' := 800) rfl ⟨rfl, rfl⟩ ⟨by decide +kernel, by decide +kernel, Nat.le_of_ble_eq_true rfl⟩ s0_45 (by decide) hp6 (by decide +kernel) (by decide +kernel) ac_int (mj_rcc hR ⟨Nat.le_of_ble_eq_true rfl, Nat.le_of_ble_eq_true rfl⟩) dX2_init_35 (fun ad7 hy7 => ?_)
  have hx7 := mj_ex.tr (n := 41) (n' := 44) (by decide) hx5 hy7
  have hp7 := mj_in9_le (n' := 45) hp6 (by decide)
  refine mj_p_fin (by decide) fl_X2_21 rfl rfl rfl rfl s0_41 (by decide) dX2_init_37 ?_
  have hp8 : mj_in9 (mj_sp (mj_sp (mj_sp (mj_sp P 41 3 42) 41 7 43) 41 8 44) 41 9 45) 45 := mj_in9_sp hp7 (by decide)
  refine mj_aload_n 0 dX2_init_40 rfl ?_
  refine mj_sipush (v := 201) dX2_init_41 (by decide +kernel) ?_
  refine mj_n_int (n' := 46) (N := 201) (kc' := 5) (ks' := 1001) rfl ⟨rfl, rfl⟩ ⟨by decide +kernel, by decide +kernel, Nat.le_of_ble_eq_true rfl⟩ s0_46 (by decide) hp8 (by decide +kernel) (by decide +kernel) ac_int (mj_rcc hR ⟨Nat.le_of_ble_eq_true rfl, Nat.le_of_ble_eq_true rfl⟩) dX2_init_44 (fun ad9 hy9 => ?_)
  have hx9 := mj_ex.tr (n := 41) (n' := 45) (by decide) hx7 hy9
  have hp9 := mj_in9_le (n' := 46) hp8 (by decide)
  refine mj_p_fin (by decide) fl_X2_24 rfl rfl rfl rfl s0_41 (by decide) dX2_init_46 ?_
  have hp10 : mj_in9 (mj_sp (mj_sp (mj_sp (mj_sp (mj_sp P 41 3 42) 41 7 43) 41 8 44) 41 9 45) 41 10 46) 46 := mj_in9_sp hp9 (by decide)
  refine mj_aload_n 0 dX2_init_49 rfl ?_
  refine mj_bipush (v := 100) dX2_init_50 (by decide +kernel) ?_
  refine mj_n_int (n' := 47) (N := 100) (kc' := 6) (ks' := 1101) rfl ⟨rfl, rfl⟩ ⟨by decide +kernel, by decide +kernel, Nat.le_of_ble_eq_true rfl⟩ s0_47 (by decide) hp10 (by decide +kernel) (by decide +kernel) ac_int (mj_rcc hR ⟨Nat.le_of_ble_eq_true rfl, Nat.le_of_ble_eq_true rfl⟩) dX2_init_52 (fun ad11 hy11 => ?_)
  have hx11 := mj_ex.tr (n := 41) (n' := 46) (by decide) hx9 hy11
  have hp11 := mj_in9_le (n' := 47) hp10 (by decide)
  refine mj_p_fin (by decide) fl_X2_27 rfl rfl rfl rfl s0_41 (by decide) dX2_init_54 ?_
  have hp12 : mj_in9 (mj_sp (mj_sp (mj_sp (mj_sp (mj_sp (mj_sp P 41 3 42) 41 7 43) 41 8 44) 41 9 45) 41 10 46) 41 11 47) 47 := mj_in9_sp hp11 (by decide)
  refine mj_aload_n 0 dX2_init_57 rfl ?_
  refine mj_bipush (v := 10) dX2_init_58 (by decide +kernel) ?_
  refine mj_n_int (n' := 48) (N := 10) (kc' := 7) (ks' := 1111) rfl ⟨rfl, rfl⟩ ⟨by decide +kernel, by decide +kernel, Nat.le_of_ble_eq_true rfl⟩ s0_48 (by decide) hp12 (by decide +kernel) (by decide +kernel) ac_int (mj_rcc hR ⟨Nat.le_of_ble_eq_true rfl, Nat.le_of_ble_eq_true rfl⟩) dX2_init_60 (fun ad13 hy13 => ?_)
  have hx13 := mj_ex.tr (n := 41) (n' := 47) (by decide) hx11 hy13
  have hp13 := mj_in9_le (n' := 48) hp12 (by decide)
  refine mj_p_fin (by decide) fl_X2_30 rfl rfl rfl rfl s0_41 (by decide) dX2_init_62 ?_
  have hp14 : mj_in9 (mj_sp (mj_sp (mj_sp (mj_sp (mj_sp (mj_sp (mj_sp P 41 3 42) 41 7 43) 41 8 44) 41 9 45) 41 10 46) 41 11 47) 41 12 48) 48 := mj_in9_sp hp13 (by decide)
  refine mj_aload_n 0 dX2_init_65 rfl ?_
  refine mj_bipush (v := 10) dX2_init_66 (by decide +kernel) ?_
  refine mj_n_int (n' := 49) (N := 10) (kc' := 8) (ks' := 1121) rfl ⟨rfl, rfl⟩ ⟨by decide +kernel, by decide +kernel, Nat.le_of_ble_eq_true rfl⟩ s0_49 (by decide) hp14 (by decide +kernel) (by decide +kernel) ac_int (mj_rcc hR ⟨Nat.le_of_ble_eq_true rfl, Nat.le_of_ble_eq_true rfl⟩) dX2_init_68 (fun ad15 hy15 => ?_)
  have hx15 := mj_ex.tr (n := 41) (n' := 48) (by decide) hx13 hy15
  have hp15 := mj_in9_le (n' := 49) hp14 (by decide)
  refine mj_p_fin (by decide) fl_X2_33 rfl rfl rfl rfl s0_41 (by decide) dX2_init_70 ?_
  have hp16 : mj_in9 (mj_sp (mj_sp (mj_sp (mj_sp (mj_sp (mj_sp (mj_sp (mj_sp P 41 3 42) 41 7 43) 41 8 44) 41 9 45) 41 10 46) 41 11 47) 41 12 48) 41 13 49) 49 := mj_in9_sp hp15 (by decide)
  refine mj_aload_n 0 dX2_init_73 rfl ?_
  refine mj_ldc kk_X2_36 dX2_init_74 ?_
  refine mj_n_int (n' := 50) (N := 40200) (kc' := 9) (ks' := 41321) rfl ⟨rfl, rfl⟩ ⟨by decide +kernel, by decide +kernel, Nat.le_of_ble_eq_true rfl⟩ s0_50 (by decide) hp16 (by decide +kernel) (by decide +kernel) ac_int (mj_rcc hR ⟨Nat.le_of_ble_eq_true rfl, Nat.le_of_ble_eq_true rfl⟩) dX2_init_76 (fun ad17 hy17 => ?_)
  have hx17 := mj_ex.tr (n := 41) (n' := 49) (by decide) hx15 hy17
  have hp17 := mj_in9_le (n' := 50) hp16 (by decide)
  refine mj_p_fin (by decide) fl_X2_37 rfl rfl rfl rfl s0_41 (by decide) dX2_init_78 ?_
  have hp18 : mj_in9 (mj_sp (mj_sp (mj_sp (mj_sp (mj_sp (mj_sp (mj_sp (mj_sp (mj_sp P 41 3 42) 41 7 43) 41 8 44) 41 9 45) 41 10 46) 41 11 47) 41 12 48) 41 13 49) 41 14 50) 50 := mj_in9_sp hp17 (by decide)
  exact mj_vretc hR hx17 ⟨Nat.le_refl _, Nat.le_refl _⟩ rfl dX2_init_81 ⟨rfl, rfl, rfl⟩
def cP_51 (P : mj_PT) : mj_PT := (mj_sp (mj_sp (mj_sp P 51 2 52) 51 3 53) 51 4 54)
def cI_51 (I : mj_IT) : mj_IT := (mj_zi (mj_zi (mj_zi I 52) 53) 54)
def cL_51 (L : mj_LT) : mj_LT := L
theorem ci_51 {P : mj_PT} (hp : mj_in9 P 51) : mj_in9 (cP_51 P) 54 := by
  unfold cP_51
  exact mj_in9_sp (mj_in9_sp (mj_in9_sp (mj_in9_le hp (by decide)) (by decide)) (by decide)) (by decide)
set_option maxRecDepth 100000 in
set_option maxHeartbeats 4000000 in
theorem ct_51 (l : Launch) (G : mj_GT) (P : mj_PT) (I : mj_IT) (L : mj_LT) (hp : mj_in9 P 51) : mj_Mc l G yX9_init cX9_init 1 1 3 601 P mj_S0 51 54 [.ref 51] I L (fun P' I' L' => P' = cP_51 P ∧ I' = cI_51 I ∧ L' = cL_51 L) := by
  refine mj_inc RX9 "<init>" [(0, .ref 51)] rfl rfl rfl (by decide) (by decide) (fun X ad hR => ?_)
  have hx0 : mj_ex 51 ad ad := mj_ex.rf
  refine mj_aload_n 0 dX9_init_0 rfl ?_
  refine mj_objInit ⟨mj_seg_2 (j := 84) (by decide +kernel) rfl, oi_i, oi_c⟩ (by decide) (by decide) dX9_init_1 ?_
  refine mj_aload_n 0 dX9_init_4 rfl ?_
  refine mj_sipush (v := 200) dX9_init_5 (by decide +kernel) ?_
  refine mj_n_int (n' := 52) (N := 200) (kc' := 1) (ks' := 200) rfl ⟨rfl, rfl⟩ ⟨by decide +kernel, by decide +kernel, Nat.le_of_ble_eq_true rfl⟩ s0_52 (by decide) hp (by decide +kernel) (by decide +kernel) ac_int (mj_rcc hR ⟨Nat.le_of_ble_eq_true rfl, Nat.le_of_ble_eq_true rfl⟩) dX9_init_8 (fun ad1 hy1 => ?_)
  have hx1 := mj_ex.tr (n := 51) (n' := 51) (by decide) hx0 hy1
  have hp1 := mj_in9_le (n' := 52) hp (by decide)
  refine mj_p_ref (by decide) fl_X9_9 rfl rfl s0_51 (by decide) dX9_init_10 ?_
  have hp2 : mj_in9 (mj_sp P 51 2 52) 52 := mj_in9_sp hp1 (by decide)
  refine mj_aload_n 0 dX9_init_13 rfl ?_
  refine mj_sipush (v := 200) dX9_init_14 (by decide +kernel) ?_
  refine mj_n_int (n' := 53) (N := 200) (kc' := 2) (ks' := 400) rfl ⟨rfl, rfl⟩ ⟨by decide +kernel, by decide +kernel, Nat.le_of_ble_eq_true rfl⟩ s0_53 (by decide) hp2 (by decide +kernel) (by decide +kernel) ac_int (mj_rcc hR ⟨Nat.le_of_ble_eq_true rfl, Nat.le_of_ble_eq_true rfl⟩) dX9_init_17 (fun ad3 hy3 => ?_)
  have hx3 := mj_ex.tr (n := 51) (n' := 52) (by decide) hx1 hy3
  have hp3 := mj_in9_le (n' := 53) hp2 (by decide)
  refine mj_p_ref (by decide) fl_X9_15 rfl rfl s0_51 (by decide) dX9_init_19 ?_
  have hp4 : mj_in9 (mj_sp (mj_sp P 51 2 52) 51 3 53) 53 := mj_in9_sp hp3 (by decide)
  refine mj_aload_n 0 dX9_init_22 rfl ?_
  refine mj_sipush (v := 201) dX9_init_23 (by decide +kernel) ?_
  refine mj_n_int (n' := 54) (N := 201) (kc' := 3) (ks' := 601) rfl ⟨rfl, rfl⟩ ⟨by decide +kernel, by decide +kernel, Nat.le_of_ble_eq_true rfl⟩ s0_54 (by decide) hp4 (by decide +kernel) (by decide +kernel) ac_int (mj_rcc hR ⟨Nat.le_of_ble_eq_true rfl, Nat.le_of_ble_eq_true rfl⟩) dX9_init_26 (fun ad5 hy5 => ?_)
  have hx5 := mj_ex.tr (n := 51) (n' := 53) (by decide) hx3 hy5
  have hp5 := mj_in9_le (n' := 54) hp4 (by decide)
  refine mj_p_fin (by decide) fl_X9_18 rfl rfl rfl rfl s0_51 (by decide) dX9_init_28 ?_
  have hp6 : mj_in9 (mj_sp (mj_sp (mj_sp P 51 2 52) 51 3 53) 51 4 54) 54 := mj_in9_sp hp5 (by decide)
  exact mj_vretc hR hx5 ⟨Nat.le_refl _, Nat.le_refl _⟩ rfl dX9_init_31 ⟨rfl, rfl, rfl⟩
def cP_55 (P : mj_PT) : mj_PT := (mj_sp (mj_sp (mj_sp (mj_sp (mj_sp (mj_sp (mj_sp (mj_sp (mj_sp P 55 0 56) 55 1 57) 55 2 58) 55 3 59) 55 4 60) 55 5 61) 55 6 62) 55 7 63) 55 8 64)
def cI_55 (I : mj_IT) : mj_IT := (mj_zi (mj_zi (mj_zi (mj_zi (mj_zi (mj_zi (mj_zi (mj_zi (mj_zi I 56) 57) 58) 59) 60) 61) 62) 63) 64)
def cL_55 (L : mj_LT) : mj_LT := L
theorem ci_55 {P : mj_PT} (hp : mj_in9 P 55) : mj_in9 (cP_55 P) 64 := by
  unfold cP_55
  exact mj_in9_sp (mj_in9_sp (mj_in9_sp (mj_in9_sp (mj_in9_sp (mj_in9_sp (mj_in9_sp (mj_in9_sp (mj_in9_sp (mj_in9_le hp (by decide)) (by decide)) (by decide)) (by decide)) (by decide)) (by decide)) (by decide)) (by decide)) (by decide)) (by decide)
set_option maxRecDepth 100000 in
set_option maxHeartbeats 4000000 in
theorem ct_55 (l : Launch) (G : mj_GT) (P : mj_PT) (I : mj_IT) (L : mj_LT) (hp : mj_in9 P 55) : mj_Mc l G yX6_init cX6_init 1 1 9 2412 P mj_S0 55 64 [.ref 55] I L (fun P' I' L' => P' = cP_55 P ∧ I' = cI_55 I ∧ L' = cL_55 L) := by
  refine mj_inc RX6 "<init>" [(0, .ref 55)] rfl rfl rfl (by decide) (by decide) (fun X ad hR => ?_)
  have hx0 : mj_ex 55 ad ad := mj_ex.rf
  refine mj_aload_n 0 dX6_init_0 rfl ?_
  refine mj_objInit ⟨mj_seg_2 (j := 106) (by decide +kernel) rfl, oi_i, oi_c⟩ (by decide) (by decide) dX6_init_1 ?_
  refine mj_aload_n 0 dX6_init_4 rfl ?_
  refine mj_bipush (v := 6) dX6_init_5 (by decide +kernel) ?_
  refine mj_n_int (n' := 56) (N := 6) (kc' := 1) (ks' := 6) rfl ⟨rfl, rfl⟩ ⟨by decide +kernel, by decide +kernel, Nat.le_of_ble_eq_true rfl⟩ s0_56 (by decide) hp (by decide +kernel) (by decide +kernel) ac_int (mj_rcc hR ⟨Nat.le_of_ble_eq_true rfl, Nat.le_of_ble_eq_true rfl⟩) dX6_init_7 (fun ad1 hy1 => ?_)
  have hx1 := mj_ex.tr (n := 55) (n' := 55) (by decide) hx0 hy1
  have hp1 := mj_in9_le (n' := 56) hp (by decide)
  refine mj_p_fin (by decide) fl_X6_9 rfl rfl rfl rfl s0_55 (by decide) dX6_init_9 ?_
  have hp2 : mj_in9 (mj_sp P 55 0 56) 56 := mj_in9_sp hp1 (by decide)
  refine mj_aload_n 0 dX6_init_12 rfl ?_
  refine mj_bipush (v := 6) dX6_init_13 (by decide +kernel) ?_
  refine mj_n_int (n' := 57) (N := 6) (kc' := 2) (ks' := 12) rfl ⟨rfl, rfl⟩ ⟨by decide +kernel, by decide +kernel, Nat.le_of_ble_eq_true rfl⟩ s0_57 (by decide) hp2 (by decide +kernel) (by decide +kernel) ac_int (mj_rcc hR ⟨Nat.le_of_ble_eq_true rfl, Nat.le_of_ble_eq_true rfl⟩) dX6_init_15 (fun ad3 hy3 => ?_)
  have hx3 := mj_ex.tr (n := 55) (n' := 56) (by decide) hx1 hy3
  have hp3 := mj_in9_le (n' := 57) hp2 (by decide)
  refine mj_p_fin (by decide) fl_X6_15 rfl rfl rfl rfl s0_55 (by decide) dX6_init_17 ?_
  have hp4 : mj_in9 (mj_sp (mj_sp P 55 0 56) 55 1 57) 57 := mj_in9_sp hp3 (by decide)
  refine mj_aload_n 0 dX6_init_20 rfl ?_
  refine mj_sipush (v := 1200) dX6_init_21 (by decide +kernel) ?_
  refine mj_n_int (n' := 58) (N := 1200) (kc' := 3) (ks' := 1212) rfl ⟨rfl, rfl⟩ ⟨by decide +kernel, by decide +kernel, Nat.le_of_ble_eq_true rfl⟩ s0_58 (by decide) hp4 (by decide +kernel) (by decide +kernel) ac_int (mj_rcc hR ⟨Nat.le_of_ble_eq_true rfl, Nat.le_of_ble_eq_true rfl⟩) dX6_init_24 (fun ad5 hy5 => ?_)
  have hx5 := mj_ex.tr (n := 55) (n' := 57) (by decide) hx3 hy5
  have hp5 := mj_in9_le (n' := 58) hp4 (by decide)
  refine mj_p_fin (by decide) fl_X6_18 rfl rfl rfl rfl s0_55 (by decide) dX6_init_26 ?_
  have hp6 : mj_in9 (mj_sp (mj_sp (mj_sp P 55 0 56) 55 1 57) 55 2 58) 58 := mj_in9_sp hp5 (by decide)
  refine mj_aload_n 0 dX6_init_29 rfl ?_
  refine mj_sipush (v := 200) dX6_init_30 (by decide +kernel) ?_
  refine mj_n_int (n' := 59) (N := 200) (kc' := 4) (ks' := 1412) rfl ⟨rfl, rfl⟩ ⟨by decide +kernel, by decide +kernel, Nat.le_of_ble_eq_true rfl⟩ s0_59 (by decide) hp6 (by decide +kernel) (by decide +kernel) ac_int (mj_rcc hR ⟨Nat.le_of_ble_eq_true rfl, Nat.le_of_ble_eq_true rfl⟩) dX6_init_33 (fun ad7 hy7 => ?_)
  have hx7 := mj_ex.tr (n := 55) (n' := 58) (by decide) hx5 hy7
  have hp7 := mj_in9_le (n' := 59) hp6 (by decide)
  refine mj_p_fin (by decide) fl_X6_21 rfl rfl rfl rfl s0_55 (by decide) dX6_init_35 ?_
  have hp8 : mj_in9 (mj_sp (mj_sp (mj_sp (mj_sp P 55 0 56) 55 1 57) 55 2 58) 55 3 59) 59 := mj_in9_sp hp7 (by decide)
  refine mj_aload_n 0 dX6_init_38 rfl ?_
  refine mj_sipush (v := 200) dX6_init_39 (by decide +kernel) ?_
  refine mj_n_int (n' := 60) (N := 200) (kc' := 5) (ks' := 1612) rfl ⟨rfl, rfl⟩ ⟨by decide +kernel, by decide +kernel, Nat.le_of_ble_eq_true rfl⟩ s0_60 (by decide) hp8 (by decide +kernel) (by decide +kernel) ac_int (mj_rcc hR ⟨Nat.le_of_ble_eq_true rfl, Nat.le_of_ble_eq_true rfl⟩) dX6_init_42 (fun ad9 hy9 => ?_)
  have hx9 := mj_ex.tr (n := 55) (n' := 59) (by decide) hx7 hy9
  have hp9 := mj_in9_le (n' := 60) hp8 (by decide)
  refine mj_p_fin (by decide) fl_X6_24 rfl rfl rfl rfl s0_55 (by decide) dX6_init_44 ?_
  have hp10 : mj_in9 (mj_sp (mj_sp (mj_sp (mj_sp (mj_sp P 55 0 56) 55 1 57) 55 2 58) 55 3 59) 55 4 60) 60 := mj_in9_sp hp9 (by decide)
  refine mj_aload_n 0 dX6_init_47 rfl ?_
  refine mj_sipush (v := 200) dX6_init_48 (by decide +kernel) ?_
  refine mj_n_int (n' := 61) (N := 200) (kc' := 6) (ks' := 1812) rfl ⟨rfl, rfl⟩ ⟨by decide +kernel, by decide +kernel, Nat.le_of_ble_eq_true rfl⟩ s0_61 (by decide) hp10 (by decide +kernel) (by decide +kernel) ac_int (mj_rcc hR ⟨Nat.le_of_ble_eq_true rfl, Nat.le_of_ble_eq_true rfl⟩) dX6_init_51 (fun ad11 hy11 => ?_)
  have hx11 := mj_ex.tr (n := 55) (n' := 60) (by decide) hx9 hy11
  have hp11 := mj_in9_le (n' := 61) hp10 (by decide)
  refine mj_p_fin (by decide) fl_X6_27 rfl rfl rfl rfl s0_55 (by decide) dX6_init_53 ?_
  have hp12 : mj_in9 (mj_sp (mj_sp (mj_sp (mj_sp (mj_sp (mj_sp P 55 0 56) 55 1 57) 55 2 58) 55 3 59) 55 4 60) 55 5 61) 61 := mj_in9_sp hp11 (by decide)
  refine mj_aload_n 0 dX6_init_56 rfl ?_
  refine mj_sipush (v := 200) dX6_init_57 (by decide +kernel) ?_
  refine mj_n_int (n' := 62) (N := 200) (kc' := 7) (ks' := 2012) rfl ⟨rfl, rfl⟩ ⟨by decide +kernel, by decide +kernel, Nat.le_of_ble_eq_true rfl⟩ s0_62 (by decide) hp12 (by decide +kernel) (by decide +kernel) ac_int (mj_rcc hR ⟨Nat.le_of_ble_eq_true rfl, Nat.le_of_ble_eq_true rfl⟩) dX6_init_60 (fun ad13 hy13 => ?_)
  have hx13 := mj_ex.tr (n := 55) (n' := 61) (by decide) hx11 hy13
  have hp13 := mj_in9_le (n' := 62) hp12 (by decide)
  refine mj_p_fin (by decide) fl_X6_30 rfl rfl rfl rfl s0_55 (by decide) dX6_init_62 ?_
  have hp14 : mj_in9 (mj_sp (mj_sp (mj_sp (mj_sp (mj_sp (mj_sp (mj_sp P 55 0 56) 55 1 57) 55 2 58) 55 3 59) 55 4 60) 55 5 61) 55 6 62) 62 := mj_in9_sp hp13 (by decide)
  refine mj_aload_n 0 dX6_init_65 rfl ?_
  refine mj_sipush (v := 200) dX6_init_66 (by decide +kernel) ?_
  refine mj_n_int (n' := 63) (N := 200) (kc' := 8) (ks' := 2212) rfl ⟨rfl, rfl⟩ ⟨by decide +kernel, by decide +kernel, Nat.le_of_ble_eq_true rfl⟩ s0_63 (by decide) hp14 (by decide +kernel) (by decide +kernel) ac_int (mj_rcc hR ⟨Nat.le_of_ble_eq_true rfl, Nat.le_of_ble_eq_true rfl⟩) dX6_init_69 (fun ad15 hy15 => ?_)
  have hx15 := mj_ex.tr (n := 55) (n' := 62) (by decide) hx13 hy15
  have hp15 := mj_in9_le (n' := 63) hp14 (by decide)
  refine mj_p_fin (by decide) fl_X6_33 rfl rfl rfl rfl s0_55 (by decide) dX6_init_71 ?_
  have hp16 : mj_in9 (mj_sp (mj_sp (mj_sp (mj_sp (mj_sp (mj_sp (mj_sp (mj_sp P 55 0 56) 55 1 57) 55 2 58) 55 3 59) 55 4 60) 55 5 61) 55 6 62) 55 7 63) 63 := mj_in9_sp hp15 (by decide)
  refine mj_aload_n 0 dX6_init_74 rfl ?_
  refine mj_sipush (v := 200) dX6_init_75 (by decide +kernel) ?_
  refine mj_n_int (n' := 64) (N := 200) (kc' := 9) (ks' := 2412) rfl ⟨rfl, rfl⟩ ⟨by decide +kernel, by decide +kernel, Nat.le_of_ble_eq_true rfl⟩ s0_64 (by decide) hp16 (by decide +kernel) (by decide +kernel) ac_int (mj_rcc hR ⟨Nat.le_of_ble_eq_true rfl, Nat.le_of_ble_eq_true rfl⟩) dX6_init_78 (fun ad17 hy17 => ?_)
  have hx17 := mj_ex.tr (n := 55) (n' := 63) (by decide) hx15 hy17
  have hp17 := mj_in9_le (n' := 64) hp16 (by decide)
  refine mj_p_fin (by decide) fl_X6_36 rfl rfl rfl rfl s0_55 (by decide) dX6_init_80 ?_
  have hp18 : mj_in9 (mj_sp (mj_sp (mj_sp (mj_sp (mj_sp (mj_sp (mj_sp (mj_sp (mj_sp P 55 0 56) 55 1 57) 55 2 58) 55 3 59) 55 4 60) 55 5 61) 55 6 62) 55 7 63) 55 8 64) 64 := mj_in9_sp hp17 (by decide)
  exact mj_vretc hR hx17 ⟨Nat.le_refl _, Nat.le_refl _⟩ rfl dX6_init_83 ⟨rfl, rfl, rfl⟩
def cP_65 (P : mj_PT) : mj_PT := (mj_sp (mj_sp (mj_sp (mj_sp P 65 3 66) 65 4 67) 65 5 68) 65 6 69)
def cI_65 (I : mj_IT) : mj_IT := (mj_zi (mj_zi (mj_zi I 66) 67) 69)
def cL_65 (L : mj_LT) : mj_LT := (mj_zl L 68)
theorem ci_65 {P : mj_PT} (hp : mj_in9 P 65) : mj_in9 (cP_65 P) 69 := by
  unfold cP_65
  exact mj_in9_sp (mj_in9_sp (mj_in9_sp (mj_in9_sp (mj_in9_le hp (by decide)) (by decide)) (by decide)) (by decide)) (by decide)
set_option maxRecDepth 100000 in
set_option maxHeartbeats 4000000 in
theorem ct_65 (l : Launch) (G : mj_GT) (P : mj_PT) (I : mj_IT) (L : mj_LT) (hp : mj_in9 P 65) : mj_Mc l G yX5_init cX5_init 1 1 4 4610 P mj_S0 65 69 [.ref 65] I L (fun P' I' L' => P' = cP_65 P ∧ I' = cI_65 I ∧ L' = cL_65 L) := by
  refine mj_inc RX5 "<init>" [(0, .ref 65)] rfl rfl rfl (by decide) (by decide) (fun X ad hR => ?_)
  have hx0 : mj_ex 65 ad ad := mj_ex.rf
  refine mj_aload_n 0 dX5_init_0 rfl ?_
  refine mj_objInit ⟨mj_seg_2 (j := 140) (by decide +kernel) rfl, oi_i, oi_c⟩ (by decide) (by decide) dX5_init_1 ?_
  refine mj_aload_n 0 dX5_init_4 rfl ?_
  refine mj_bipush (v := 10) dX5_init_5 (by decide +kernel) ?_
  refine mj_n_int (n' := 66) (N := 10) (kc' := 1) (ks' := 10) rfl ⟨rfl, rfl⟩ ⟨by decide +kernel, by decide +kernel, Nat.le_of_ble_eq_true rfl⟩ s0_66 (by decide) hp (by decide +kernel) (by decide +kernel) ac_int (mj_rcc hR ⟨Nat.le_of_ble_eq_true rfl, Nat.le_of_ble_eq_true rfl⟩) dX5_init_7 (fun ad1 hy1 => ?_)
  have hx1 := mj_ex.tr (n := 65) (n' := 65) (by decide) hx0 hy1
  have hp1 := mj_in9_le (n' := 66) hp (by decide)
  refine mj_p_fin (by decide) fl_X5_9 rfl rfl rfl rfl s0_65 (by decide) dX5_init_9 ?_
  have hp2 : mj_in9 (mj_sp P 65 3 66) 66 := mj_in9_sp hp1 (by decide)
  refine mj_aload_n 0 dX5_init_12 rfl ?_
  refine mj_sipush (v := 200) dX5_init_13 (by decide +kernel) ?_
  refine mj_n_int (n' := 67) (N := 200) (kc' := 2) (ks' := 210) rfl ⟨rfl, rfl⟩ ⟨by decide +kernel, by decide +kernel, Nat.le_of_ble_eq_true rfl⟩ s0_67 (by decide) hp2 (by decide +kernel) (by decide +kernel) ac_int (mj_rcc hR ⟨Nat.le_of_ble_eq_true rfl, Nat.le_of_ble_eq_true rfl⟩) dX5_init_16 (fun ad3 hy3 => ?_)
  have hx3 := mj_ex.tr (n := 65) (n' := 66) (by decide) hx1 hy3
  have hp3 := mj_in9_le (n' := 67) hp2 (by decide)
  refine mj_p_fin (by decide) fl_X5_15 rfl rfl rfl rfl s0_65 (by decide) dX5_init_18 ?_
  have hp4 : mj_in9 (mj_sp (mj_sp P 65 3 66) 65 4 67) 67 := mj_in9_sp hp3 (by decide)
  refine mj_aload_n 0 dX5_init_21 rfl ?_
  refine mj_sipush (v := 2200) dX5_init_22 (by decide +kernel) ?_
  refine mj_n_long (n' := 68) (N := 2200) (kc' := 3) (ks' := 2410) rfl ⟨rfl, rfl⟩ ⟨by decide +kernel, by decide +kernel, Nat.le_of_ble_eq_true rfl⟩ s0_68 (by decide) hp4 (by decide +kernel) (by decide +kernel) ac_long (mj_rcc hR ⟨Nat.le_of_ble_eq_true rfl, Nat.le_of_ble_eq_true rfl⟩) dX5_init_25 (fun ad5 hy5 => ?_)
  have hx5 := mj_ex.tr (n := 65) (n' := 67) (by decide) hx3 hy5
  have hp5 := mj_in9_le (n' := 68) hp4 (by decide)
  refine mj_p_fin (by decide) fl_X5_18 rfl rfl rfl rfl s0_65 (by decide) dX5_init_27 ?_
  have hp6 : mj_in9 (mj_sp (mj_sp (mj_sp P 65 3 66) 65 4 67) 65 5 68) 68 := mj_in9_sp hp5 (by decide)
  refine mj_aload_n 0 dX5_init_30 rfl ?_
  refine mj_sipush (v := 2200) dX5_init_31 (by decide +kernel) ?_
  refine mj_n_int (n' := 69) (N := 2200) (kc' := 4) (ks' := 4610) rfl ⟨rfl, rfl⟩ ⟨by decide +kernel, by decide +kernel, Nat.le_of_ble_eq_true rfl⟩ s0_69 (by decide) hp6 (by decide +kernel) (by decide +kernel) ac_int (mj_rcc hR ⟨Nat.le_of_ble_eq_true rfl, Nat.le_of_ble_eq_true rfl⟩) dX5_init_34 (fun ad7 hy7 => ?_)
  have hx7 := mj_ex.tr (n := 65) (n' := 68) (by decide) hx5 hy7
  have hp7 := mj_in9_le (n' := 69) hp6 (by decide)
  refine mj_p_fin (by decide) fl_X5_22 rfl rfl rfl rfl s0_65 (by decide) dX5_init_36 ?_
  have hp8 : mj_in9 (mj_sp (mj_sp (mj_sp (mj_sp P 65 3 66) 65 4 67) 65 5 68) 65 6 69) 69 := mj_in9_sp hp7 (by decide)
  exact mj_vretc hR hx7 ⟨Nat.le_refl _, Nat.le_refl _⟩ rfl dX5_init_39 ⟨rfl, rfl, rfl⟩
def cP_1 (P : mj_PT) : mj_PT := (mj_sp (mj_sp (cP_65 (mj_zp (mj_sp (cP_55 (mj_zp (mj_sp (cP_51 (mj_zp (mj_sp (cP_41 (mj_zp (mj_sp (cP_32 (mj_zp (mj_sp (cP_29 (mj_zp (mj_sp (cP_18 (mj_zp (mj_sp (cP_2 (mj_zp P 2)) 1 0 2) 18)) 1 2 18) 29)) 1 4 29) 32)) 1 5 32) 41)) 1 6 41) 51)) 1 7 51) 55)) 1 8 55) 65)) 1 9 65) 1 10 70)
def cI_1 (I : mj_IT) : mj_IT := (mj_zi (cI_65 (mj_zi (cI_55 (mj_zi (cI_51 (mj_zi (cI_41 (mj_zi (cI_32 (mj_zi (cI_29 (mj_zi (cI_18 (mj_zi (mj_si (cI_2 (mj_zi I 2)) 1 1 (-1)) 18)) 29)) 32)) 41)) 51)) 55)) 65)) 70)
def cL_1 (L : mj_LT) : mj_LT := (cL_65 (mj_zl (cL_55 (mj_zl (cL_51 (mj_zl (cL_41 (mj_zl (cL_32 (mj_zl (cL_29 (mj_zl (cL_18 (mj_zl (cL_2 (mj_zl L 2)) 18)) 29)) 32)) 41)) 51)) 55)) 65))
theorem ci_1 {P : mj_PT} (hp : mj_in9 P 1) : mj_in9 (cP_1 P) 70 := by
  unfold cP_1
  exact mj_in9_sp (mj_in9_sp (mj_in9_le (n := 69) (ci_65 (mj_in9_zp (mj_in9_sp (mj_in9_le (n := 64) (ci_55 (mj_in9_zp (mj_in9_sp (mj_in9_le (n := 54) (ci_51 (mj_in9_zp (mj_in9_sp (mj_in9_le (n := 50) (ci_41 (mj_in9_zp (mj_in9_sp (mj_in9_le (n := 40) (ci_32 (mj_in9_zp (mj_in9_sp (mj_in9_le (n := 31) (ci_29 (mj_in9_zp (mj_in9_sp (mj_in9_le (n := 28) (ci_18 (mj_in9_zp (mj_in9_sp (mj_in9_le (n := 17) (ci_2 (mj_in9_zp (mj_in9_le hp (by decide)))) (by decide)) (by decide)))) (by decide)) (by decide)))) (by decide)) (by decide)))) (by decide)) (by decide)))) (by decide)) (by decide)))) (by decide)) (by decide)))) (by decide)) (by decide)))) (by decide)) (by decide)) (by decide)
set_option maxRecDepth 100000 in
set_option maxHeartbeats 4000000 in
theorem ct_1 (l : Launch) (G : mj_GT) (P : mj_PT) (I : mj_IT) (L : mj_LT) (hp : mj_in9 P 1) : mj_Mc l G yX10_init cX10_init 1 3 69 55796 P mj_S0 1 70 [.ref 1] I L (fun P' I' L' => P' = cP_1 P ∧ I' = cI_1 I ∧ L' = cL_1 L) := by
  refine mj_inc RX10 "<init>" [(0, .ref 1)] rfl rfl rfl (by decide) (by decide) (fun X ad hR => ?_)
  have hx0 : mj_ex 1 ad ad := mj_ex.rf
  refine mj_aload_n 0 dX10_init_0 rfl ?_
  refine mj_objInit ⟨mj_seg_1 (j := 36) (by decide +kernel) rfl, oi_i, oi_c⟩ (by decide) (by decide) dX10_init_1 ?_
  refine mj_aload_n 0 dX10_init_4 rfl ?_
  refine mj_n_obj (ci := 6) (n' := 2) (N := 14) (kc' := 1) (ks' := 14) rfl ⟨rfl, rfl⟩ k1_6 rfl dv_6 s0_2 (by decide) hp (by decide +kernel) (by decide +kernel) ⟨mj_seg_1 (j := 39) (by decide +kernel) rfl, mj_seg_1 (j := 40) (by decide +kernel) rfl, mj_seg_1 (j := 2) (by decide +kernel) rfl⟩ (mj_rcc hR ⟨Nat.le_of_ble_eq_true rfl, Nat.le_of_ble_eq_true rfl⟩) dX10_init_5 (fun ad1 hy1 => ?_)
  have hx1 := mj_ex.tr (n := 1) (n' := 1) (by decide) hx0 hy1
  have hp1 : mj_in9 (mj_zp P 2) 2 := mj_in9_zp (mj_in9_le (n' := 2) hp (by decide))
  refine mj_dup dX10_init_8 rfl ?_
  have hM2 := ct_2 X.2.1 G (mj_zp P 2) (mj_zi I 2) (mj_zl L 2) hp1
  refine mj_callIN (n' := 17) (st := [.ref 2, .ref 1]) (host := "OddsSolver") [] hM2 ⟨mj_seg_1 (j := 43) (by decide +kernel) rfl, mj_seg_1 (j := 2) (by decide +kernel) rfl, mj_seg_1 (j := 42) (by decide +kernel) rfl, by decide +kernel, ⟨by decide, by decide, by decide +kernel⟩, by decide, rfl⟩ (by decide) rfl rfl (by decide) (mj_rcc hR ⟨Nat.le_of_ble_eq_true rfl, Nat.le_of_ble_eq_true rfl⟩) dX10_init_9 (by decide +kernel) (by decide +kernel) (fun P2 I2 L2 ad2 hy2 hq2 => ?_)
  obtain ⟨rfl, rfl, rfl⟩ := hq2
  have hx2 := mj_ex.tr (n := 1) (n' := 2) (by decide) hx1 hy2
  refine mj_kk (kc' := 16) (ks' := 846) rfl rfl ?_
  have hp2 : mj_in9 (cP_2 (mj_zp P 2)) 17 := ci_2 hp1
  refine mj_p_fin (by decide) fl_X10_10 rfl rfl rfl rfl s0_1 (by decide) dX10_init_12 ?_
  have hp3 : mj_in9 (mj_sp (cP_2 (mj_zp P 2)) 1 0 2) 17 := mj_in9_sp hp2 (by decide)
  refine mj_aload_n 0 dX10_init_15 rfl ?_
  refine mj_iconst (v := -1) dX10_init_16 (by decide +kernel) ?_
  refine mj_p_int ⟨rfl, rfl⟩ fl_X10_16 rfl rfl s0_1 (by decide) dX10_init_17 ?_
  refine mj_aload_n 0 dX10_init_20 rfl ?_
  refine mj_n_obj (ci := 5) (n' := 18) (N := 11) (kc' := 17) (ks' := 857) rfl ⟨rfl, rfl⟩ k1_5 rfl dv_5 s0_18 (by decide) hp3 (by decide +kernel) (by decide +kernel) ⟨mj_seg_1 (j := 152) (by decide +kernel) rfl, mj_seg_1 (j := 46) (by decide +kernel) rfl, mj_seg_1 (j := 3) (by decide +kernel) rfl⟩ (mj_rcc hR ⟨Nat.le_of_ble_eq_true rfl, Nat.le_of_ble_eq_true rfl⟩) dX10_init_21 (fun ad4 hy4 => ?_)
  have hx4 := mj_ex.tr (n := 1) (n' := 17) (by decide) hx2 hy4
  have hp4 : mj_in9 (mj_zp (mj_sp (cP_2 (mj_zp P 2)) 1 0 2) 18) 18 := mj_in9_zp (mj_in9_le (n' := 18) hp3 (by decide))
  refine mj_dup dX10_init_24 rfl ?_
  have hM5 := ct_18 X.2.1 G (mj_zp (mj_sp (cP_2 (mj_zp P 2)) 1 0 2) 18) (mj_zi (mj_si (cI_2 (mj_zi I 2)) 1 1 (-1)) 18) (mj_zl (cL_2 (mj_zl L 2)) 18) hp4
  refine mj_callIN (n' := 28) (st := [.ref 18, .ref 1]) (host := "OddsSolver") [] hM5 ⟨mj_seg_1 (j := 49) (by decide +kernel) rfl, mj_seg_1 (j := 3) (by decide +kernel) rfl, mj_seg_1 (j := 48) (by decide +kernel) rfl, by decide +kernel, ⟨by decide, by decide, by decide +kernel⟩, by decide, rfl⟩ (by decide) rfl rfl (by decide) (mj_rcc hR ⟨Nat.le_of_ble_eq_true rfl, Nat.le_of_ble_eq_true rfl⟩) dX10_init_25 (by decide +kernel) (by decide +kernel) (fun P5 I5 L5 ad5 hy5 hq5 => ?_)
  obtain ⟨rfl, rfl, rfl⟩ := hq5
  have hx5 := mj_ex.tr (n := 1) (n' := 18) (by decide) hx4 hy5
  refine mj_kk (kc' := 27) (ks' := 1257) rfl rfl ?_
  have hp5 : mj_in9 (cP_18 (mj_zp (mj_sp (cP_2 (mj_zp P 2)) 1 0 2) 18)) 28 := ci_18 hp4
  refine mj_p_ref (by decide) fl_X10_23 rfl rfl s0_1 (by decide) dX10_init_28 ?_
  have hp6 : mj_in9 (mj_sp (cP_18 (mj_zp (mj_sp (cP_2 (mj_zp P 2)) 1 0 2) 18)) 1 2 18) 28 := mj_in9_sp hp5 (by decide)
  refine mj_aload_n 0 dX10_init_31 rfl ?_
  refine mj_n_obj (ci := 0) (n' := 29) (N := 3) (kc' := 28) (ks' := 1260) rfl ⟨rfl, rfl⟩ k1_0 rfl dv_0 s0_29 (by decide) hp6 (by decide +kernel) (by decide +kernel) ⟨mj_seg_1 (j := 154) (by decide +kernel) rfl, mj_seg_1 (j := 155) (by decide +kernel) rfl, mj_seg_1 (j := 4) (by decide +kernel) rfl⟩ (mj_rcc hR ⟨Nat.le_of_ble_eq_true rfl, Nat.le_of_ble_eq_true rfl⟩) dX10_init_32 (fun ad7 hy7 => ?_)
  have hx7 := mj_ex.tr (n := 1) (n' := 28) (by decide) hx5 hy7
  have hp7 : mj_in9 (mj_zp (mj_sp (cP_18 (mj_zp (mj_sp (cP_2 (mj_zp P 2)) 1 0 2) 18)) 1 2 18) 29) 29 := mj_in9_zp (mj_in9_le (n' := 29) hp6 (by decide))
  refine mj_dup dX10_init_35 rfl ?_
  have hM8 := ct_29 X.2.1 G (mj_zp (mj_sp (cP_18 (mj_zp (mj_sp (cP_2 (mj_zp P 2)) 1 0 2) 18)) 1 2 18) 29) (mj_zi (cI_18 (mj_zi (mj_si (cI_2 (mj_zi I 2)) 1 1 (-1)) 18)) 29) (mj_zl (cL_18 (mj_zl (cL_2 (mj_zl L 2)) 18)) 29) hp7
  refine mj_callIN (n' := 31) (st := [.ref 29, .ref 1]) (host := "OddsSolver") [] hM8 ⟨mj_seg_1 (j := 158) (by decide +kernel) rfl, mj_seg_1 (j := 4) (by decide +kernel) rfl, mj_seg_1 (j := 157) (by decide +kernel) rfl, by decide +kernel, ⟨by decide, by decide, by decide +kernel⟩, by decide, rfl⟩ (by decide) rfl rfl (by decide) (mj_rcc hR ⟨Nat.le_of_ble_eq_true rfl, Nat.le_of_ble_eq_true rfl⟩) dX10_init_36 (by decide +kernel) (by decide +kernel) (fun P8 I8 L8 ad8 hy8 hq8 => ?_)
  obtain ⟨rfl, rfl, rfl⟩ := hq8
  have hx8 := mj_ex.tr (n := 1) (n' := 29) (by decide) hx7 hy8
  refine mj_kk (kc' := 30) (ks' := 1284) rfl rfl ?_
  have hp8 : mj_in9 (cP_29 (mj_zp (mj_sp (cP_18 (mj_zp (mj_sp (cP_2 (mj_zp P 2)) 1 0 2) 18)) 1 2 18) 29)) 31 := ci_29 hp7
  refine mj_p_fin (by decide) fl_X10_30 rfl rfl rfl rfl s0_1 (by decide) dX10_init_39 ?_
  have hp9 : mj_in9 (mj_sp (cP_29 (mj_zp (mj_sp (cP_18 (mj_zp (mj_sp (cP_2 (mj_zp P 2)) 1 0 2) 18)) 1 2 18) 29)) 1 4 29) 31 := mj_in9_sp hp8 (by decide)
  refine mj_aload_n 0 dX10_init_42 rfl ?_
  refine mj_n_obj (ci := 2) (n' := 32) (N := 16) (kc' := 31) (ks' := 1300) rfl ⟨rfl, rfl⟩ k1_2 rfl dv_2 s0_32 (by decide) hp9 (by decide +kernel) (by decide +kernel) ⟨mj_seg_1 (j := 171) (by decide +kernel) rfl, mj_seg_1 (j := 172) (by decide +kernel) rfl, mj_seg_1 (j := 5) (by decide +kernel) rfl⟩ (mj_rcc hR ⟨Nat.le_of_ble_eq_true rfl, Nat.le_of_ble_eq_true rfl⟩) dX10_init_43 (fun ad10 hy10 => ?_)
  have hx10 := mj_ex.tr (n := 1) (n' := 31) (by decide) hx8 hy10
  have hp10 : mj_in9 (mj_zp (mj_sp (cP_29 (mj_zp (mj_sp (cP_18 (mj_zp (mj_sp (cP_2 (mj_zp P 2)) 1 0 2) 18)) 1 2 18) 29)) 1 4 29) 32) 32 := mj_in9_zp (mj_in9_le (n' := 32) hp9 (by decide))
  refine mj_dup dX10_init_46 rfl ?_
  have hM11 := ct_32 X.2.1 G (mj_zp (mj_sp (cP_29 (mj_zp (mj_sp (cP_18 (mj_zp (mj_sp (cP_2 (mj_zp P 2)) 1 0 2) 18)) 1 2 18) 29)) 1 4 29) 32) (mj_zi (cI_29 (mj_zi (cI_18 (mj_zi (mj_si (cI_2 (mj_zi I 2)) 1 1 (-1)) 18)) 29)) 32) (mj_zl (cL_29 (mj_zl (cL_18 (mj_zl (cL_2 (mj_zl L 2)) 18)) 29)) 32) hp10
  refine mj_callIN (n' := 40) (st := [.ref 32, .ref 1]) (host := "OddsSolver") [] hM11 ⟨mj_seg_1 (j := 175) (by decide +kernel) rfl, mj_seg_1 (j := 5) (by decide +kernel) rfl, mj_seg_1 (j := 174) (by decide +kernel) rfl, by decide +kernel, ⟨by decide, by decide, by decide +kernel⟩, by decide, rfl⟩ (by decide) rfl rfl (by decide) (mj_rcc hR ⟨Nat.le_of_ble_eq_true rfl, Nat.le_of_ble_eq_true rfl⟩) dX10_init_47 (by decide +kernel) (by decide +kernel) (fun P11 I11 L11 ad11 hy11 hq11 => ?_)
  obtain ⟨rfl, rfl, rfl⟩ := hq11
  have hx11 := mj_ex.tr (n := 1) (n' := 32) (by decide) hx10 hy11
  refine mj_kk (kc' := 39) (ks' := 6813) rfl rfl ?_
  have hp11 : mj_in9 (cP_32 (mj_zp (mj_sp (cP_29 (mj_zp (mj_sp (cP_18 (mj_zp (mj_sp (cP_2 (mj_zp P 2)) 1 0 2) 18)) 1 2 18) 29)) 1 4 29) 32)) 40 := ci_32 hp10
  refine mj_p_fin (by decide) fl_X10_37 rfl rfl rfl rfl s0_1 (by decide) dX10_init_50 ?_
  have hp12 : mj_in9 (mj_sp (cP_32 (mj_zp (mj_sp (cP_29 (mj_zp (mj_sp (cP_18 (mj_zp (mj_sp (cP_2 (mj_zp P 2)) 1 0 2) 18)) 1 2 18) 29)) 1 4 29) 32)) 1 5 32) 40 := mj_in9_sp hp11 (by decide)
  refine mj_aload_n 0 dX10_init_53 rfl ?_
  refine mj_n_obj (ci := 1) (n' := 41) (N := 15) (kc' := 40) (ks' := 6828) rfl ⟨rfl, rfl⟩ k1_1 rfl dv_1 s0_41 (by decide) hp12 (by decide +kernel) (by decide +kernel) ⟨mj_seg_2 (j := 22) (by decide +kernel) rfl, mj_seg_2 (j := 23) (by decide +kernel) rfl, mj_seg_1 (j := 6) (by decide +kernel) rfl⟩ (mj_rcc hR ⟨Nat.le_of_ble_eq_true rfl, Nat.le_of_ble_eq_true rfl⟩) dX10_init_54 (fun ad13 hy13 => ?_)
  have hx13 := mj_ex.tr (n := 1) (n' := 40) (by decide) hx11 hy13
  have hp13 : mj_in9 (mj_zp (mj_sp (cP_32 (mj_zp (mj_sp (cP_29 (mj_zp (mj_sp (cP_18 (mj_zp (mj_sp (cP_2 (mj_zp P 2)) 1 0 2) 18)) 1 2 18) 29)) 1 4 29) 32)) 1 5 32) 41) 41 := mj_in9_zp (mj_in9_le (n' := 41) hp12 (by decide))
  refine mj_dup dX10_init_57 rfl ?_
  have hM14 := ct_41 X.2.1 G (mj_zp (mj_sp (cP_32 (mj_zp (mj_sp (cP_29 (mj_zp (mj_sp (cP_18 (mj_zp (mj_sp (cP_2 (mj_zp P 2)) 1 0 2) 18)) 1 2 18) 29)) 1 4 29) 32)) 1 5 32) 41) (mj_zi (cI_32 (mj_zi (cI_29 (mj_zi (cI_18 (mj_zi (mj_si (cI_2 (mj_zi I 2)) 1 1 (-1)) 18)) 29)) 32)) 41) (mj_zl (cL_32 (mj_zl (cL_29 (mj_zl (cL_18 (mj_zl (cL_2 (mj_zl L 2)) 18)) 29)) 32)) 41) hp13
  refine mj_callIN (n' := 50) (st := [.ref 41, .ref 1]) (host := "OddsSolver") [] hM14 ⟨mj_seg_2 (j := 26) (by decide +kernel) rfl, mj_seg_1 (j := 6) (by decide +kernel) rfl, mj_seg_2 (j := 25) (by decide +kernel) rfl, by decide +kernel, ⟨by decide, by decide, by decide +kernel⟩, by decide, rfl⟩ (by decide) rfl rfl (by decide) (mj_rcc hR ⟨Nat.le_of_ble_eq_true rfl, Nat.le_of_ble_eq_true rfl⟩) dX10_init_58 (by decide +kernel) (by decide +kernel) (fun P14 I14 L14 ad14 hy14 hq14 => ?_)
  obtain ⟨rfl, rfl, rfl⟩ := hq14
  have hx14 := mj_ex.tr (n := 1) (n' := 41) (by decide) hx13 hy14
  refine mj_kk (kc' := 49) (ks' := 48149) rfl rfl ?_
  have hp14 : mj_in9 (cP_41 (mj_zp (mj_sp (cP_32 (mj_zp (mj_sp (cP_29 (mj_zp (mj_sp (cP_18 (mj_zp (mj_sp (cP_2 (mj_zp P 2)) 1 0 2) 18)) 1 2 18) 29)) 1 4 29) 32)) 1 5 32) 41)) 50 := ci_41 hp13
  refine mj_p_fin (by decide) fl_X10_44 rfl rfl rfl rfl s0_1 (by decide) dX10_init_61 ?_
  have hp15 : mj_in9 (mj_sp (cP_41 (mj_zp (mj_sp (cP_32 (mj_zp (mj_sp (cP_29 (mj_zp (mj_sp (cP_18 (mj_zp (mj_sp (cP_2 (mj_zp P 2)) 1 0 2) 18)) 1 2 18) 29)) 1 4 29) 32)) 1 5 32) 41)) 1 6 41) 50 := mj_in9_sp hp14 (by decide)
  refine mj_aload_n 0 dX10_init_64 rfl ?_
  refine mj_n_obj (ci := 7) (n' := 51) (N := 5) (kc' := 50) (ks' := 48154) rfl ⟨rfl, rfl⟩ k1_7 rfl dv_7 s0_51 (by decide) hp15 (by decide +kernel) (by decide +kernel) ⟨mj_seg_2 (j := 79) (by decide +kernel) rfl, mj_seg_2 (j := 80) (by decide +kernel) rfl, mj_seg_1 (j := 7) (by decide +kernel) rfl⟩ (mj_rcc hR ⟨Nat.le_of_ble_eq_true rfl, Nat.le_of_ble_eq_true rfl⟩) dX10_init_65 (fun ad16 hy16 => ?_)
  have hx16 := mj_ex.tr (n := 1) (n' := 50) (by decide) hx14 hy16
  have hp16 : mj_in9 (mj_zp (mj_sp (cP_41 (mj_zp (mj_sp (cP_32 (mj_zp (mj_sp (cP_29 (mj_zp (mj_sp (cP_18 (mj_zp (mj_sp (cP_2 (mj_zp P 2)) 1 0 2) 18)) 1 2 18) 29)) 1 4 29) 32)) 1 5 32) 41)) 1 6 41) 51) 51 := mj_in9_zp (mj_in9_le (n' := 51) hp15 (by decide))
  refine mj_dup dX10_init_68 rfl ?_
  have hM17 := ct_51 X.2.1 G (mj_zp (mj_sp (cP_41 (mj_zp (mj_sp (cP_32 (mj_zp (mj_sp (cP_29 (mj_zp (mj_sp (cP_18 (mj_zp (mj_sp (cP_2 (mj_zp P 2)) 1 0 2) 18)) 1 2 18) 29)) 1 4 29) 32)) 1 5 32) 41)) 1 6 41) 51) (mj_zi (cI_41 (mj_zi (cI_32 (mj_zi (cI_29 (mj_zi (cI_18 (mj_zi (mj_si (cI_2 (mj_zi I 2)) 1 1 (-1)) 18)) 29)) 32)) 41)) 51) (mj_zl (cL_41 (mj_zl (cL_32 (mj_zl (cL_29 (mj_zl (cL_18 (mj_zl (cL_2 (mj_zl L 2)) 18)) 29)) 32)) 41)) 51) hp16
  refine mj_callIN (n' := 54) (st := [.ref 51, .ref 1]) (host := "OddsSolver") [] hM17 ⟨mj_seg_2 (j := 83) (by decide +kernel) rfl, mj_seg_1 (j := 7) (by decide +kernel) rfl, mj_seg_2 (j := 82) (by decide +kernel) rfl, by decide +kernel, ⟨by decide, by decide, by decide +kernel⟩, by decide, rfl⟩ (by decide) rfl rfl (by decide) (mj_rcc hR ⟨Nat.le_of_ble_eq_true rfl, Nat.le_of_ble_eq_true rfl⟩) dX10_init_69 (by decide +kernel) (by decide +kernel) (fun P17 I17 L17 ad17 hy17 hq17 => ?_)
  obtain ⟨rfl, rfl, rfl⟩ := hq17
  have hx17 := mj_ex.tr (n := 1) (n' := 51) (by decide) hx16 hy17
  refine mj_kk (kc' := 53) (ks' := 48755) rfl rfl ?_
  have hp17 : mj_in9 (cP_51 (mj_zp (mj_sp (cP_41 (mj_zp (mj_sp (cP_32 (mj_zp (mj_sp (cP_29 (mj_zp (mj_sp (cP_18 (mj_zp (mj_sp (cP_2 (mj_zp P 2)) 1 0 2) 18)) 1 2 18) 29)) 1 4 29) 32)) 1 5 32) 41)) 1 6 41) 51)) 54 := ci_51 hp16
  refine mj_p_fin (by decide) fl_X10_51 rfl rfl rfl rfl s0_1 (by decide) dX10_init_72 ?_
  have hp18 : mj_in9 (mj_sp (cP_51 (mj_zp (mj_sp (cP_41 (mj_zp (mj_sp (cP_32 (mj_zp (mj_sp (cP_29 (mj_zp (mj_sp (cP_18 (mj_zp (mj_sp (cP_2 (mj_zp P 2)) 1 0 2) 18)) 1 2 18) 29)) 1 4 29) 32)) 1 5 32) 41)) 1 6 41) 51)) 1 7 51) 54 := mj_in9_sp hp17 (by decide)
  refine mj_aload_n 0 dX10_init_75 rfl ?_
  refine mj_n_obj (ci := 4) (n' := 55) (N := 9) (kc' := 54) (ks' := 48764) rfl ⟨rfl, rfl⟩ k1_4 rfl dv_4 s0_55 (by decide) hp18 (by decide +kernel) (by decide +kernel) ⟨mj_seg_2 (j := 101) (by decide +kernel) rfl, mj_seg_2 (j := 102) (by decide +kernel) rfl, mj_seg_1 (j := 8) (by decide +kernel) rfl⟩ (mj_rcc hR ⟨Nat.le_of_ble_eq_true rfl, Nat.le_of_ble_eq_true rfl⟩) dX10_init_76 (fun ad19 hy19 => ?_)
  have hx19 := mj_ex.tr (n := 1) (n' := 54) (by decide) hx17 hy19
  have hp19 : mj_in9 (mj_zp (mj_sp (cP_51 (mj_zp (mj_sp (cP_41 (mj_zp (mj_sp (cP_32 (mj_zp (mj_sp (cP_29 (mj_zp (mj_sp (cP_18 (mj_zp (mj_sp (cP_2 (mj_zp P 2)) 1 0 2) 18)) 1 2 18) 29)) 1 4 29) 32)) 1 5 32) 41)) 1 6 41) 51)) 1 7 51) 55) 55 := mj_in9_zp (mj_in9_le (n' := 55) hp18 (by decide))
  refine mj_dup dX10_init_79 rfl ?_
  have hM20 := ct_55 X.2.1 G (mj_zp (mj_sp (cP_51 (mj_zp (mj_sp (cP_41 (mj_zp (mj_sp (cP_32 (mj_zp (mj_sp (cP_29 (mj_zp (mj_sp (cP_18 (mj_zp (mj_sp (cP_2 (mj_zp P 2)) 1 0 2) 18)) 1 2 18) 29)) 1 4 29) 32)) 1 5 32) 41)) 1 6 41) 51)) 1 7 51) 55) (mj_zi (cI_51 (mj_zi (cI_41 (mj_zi (cI_32 (mj_zi (cI_29 (mj_zi (cI_18 (mj_zi (mj_si (cI_2 (mj_zi I 2)) 1 1 (-1)) 18)) 29)) 32)) 41)) 51)) 55) (mj_zl (cL_51 (mj_zl (cL_41 (mj_zl (cL_32 (mj_zl (cL_29 (mj_zl (cL_18 (mj_zl (cL_2 (mj_zl L 2)) 18)) 29)) 32)) 41)) 51)) 55) hp19
  refine mj_callIN (n' := 64) (st := [.ref 55, .ref 1]) (host := "OddsSolver") [] hM20 ⟨mj_seg_2 (j := 105) (by decide +kernel) rfl, mj_seg_1 (j := 8) (by decide +kernel) rfl, mj_seg_2 (j := 104) (by decide +kernel) rfl, by decide +kernel, ⟨by decide, by decide, by decide +kernel⟩, by decide, rfl⟩ (by decide) rfl rfl (by decide) (mj_rcc hR ⟨Nat.le_of_ble_eq_true rfl, Nat.le_of_ble_eq_true rfl⟩) dX10_init_80 (by decide +kernel) (by decide +kernel) (fun P20 I20 L20 ad20 hy20 hq20 => ?_)
  obtain ⟨rfl, rfl, rfl⟩ := hq20
  have hx20 := mj_ex.tr (n := 1) (n' := 55) (by decide) hx19 hy20
  refine mj_kk (kc' := 63) (ks' := 51176) rfl rfl ?_
  have hp20 : mj_in9 (cP_55 (mj_zp (mj_sp (cP_51 (mj_zp (mj_sp (cP_41 (mj_zp (mj_sp (cP_32 (mj_zp (mj_sp (cP_29 (mj_zp (mj_sp (cP_18 (mj_zp (mj_sp (cP_2 (mj_zp P 2)) 1 0 2) 18)) 1 2 18) 29)) 1 4 29) 32)) 1 5 32) 41)) 1 6 41) 51)) 1 7 51) 55)) 64 := ci_55 hp19
  refine mj_p_fin (by decide) fl_X10_58 rfl rfl rfl rfl s0_1 (by decide) dX10_init_83 ?_
  have hp21 : mj_in9 (mj_sp (cP_55 (mj_zp (mj_sp (cP_51 (mj_zp (mj_sp (cP_41 (mj_zp (mj_sp (cP_32 (mj_zp (mj_sp (cP_29 (mj_zp (mj_sp (cP_18 (mj_zp (mj_sp (cP_2 (mj_zp P 2)) 1 0 2) 18)) 1 2 18) 29)) 1 4 29) 32)) 1 5 32) 41)) 1 6 41) 51)) 1 7 51) 55)) 1 8 55) 64 := mj_in9_sp hp20 (by decide)
  refine mj_aload_n 0 dX10_init_86 rfl ?_
  refine mj_n_obj (ci := 3) (n' := 65) (N := 7) (kc' := 64) (ks' := 51183) rfl ⟨rfl, rfl⟩ k1_3 rfl dv_3 s0_65 (by decide) hp21 (by decide +kernel) (by decide +kernel) ⟨mj_seg_2 (j := 135) (by decide +kernel) rfl, mj_seg_2 (j := 136) (by decide +kernel) rfl, mj_seg_1 (j := 9) (by decide +kernel) rfl⟩ (mj_rcc hR ⟨Nat.le_of_ble_eq_true rfl, Nat.le_of_ble_eq_true rfl⟩) dX10_init_87 (fun ad22 hy22 => ?_)
  have hx22 := mj_ex.tr (n := 1) (n' := 64) (by decide) hx20 hy22
  have hp22 : mj_in9 (mj_zp (mj_sp (cP_55 (mj_zp (mj_sp (cP_51 (mj_zp (mj_sp (cP_41 (mj_zp (mj_sp (cP_32 (mj_zp (mj_sp (cP_29 (mj_zp (mj_sp (cP_18 (mj_zp (mj_sp (cP_2 (mj_zp P 2)) 1 0 2) 18)) 1 2 18) 29)) 1 4 29) 32)) 1 5 32) 41)) 1 6 41) 51)) 1 7 51) 55)) 1 8 55) 65) 65 := mj_in9_zp (mj_in9_le (n' := 65) hp21 (by decide))
  refine mj_dup dX10_init_90 rfl ?_
  have hM23 := ct_65 X.2.1 G (mj_zp (mj_sp (cP_55 (mj_zp (mj_sp (cP_51 (mj_zp (mj_sp (cP_41 (mj_zp (mj_sp (cP_32 (mj_zp (mj_sp (cP_29 (mj_zp (mj_sp (cP_18 (mj_zp (mj_sp (cP_2 (mj_zp P 2)) 1 0 2) 18)) 1 2 18) 29)) 1 4 29) 32)) 1 5 32) 41)) 1 6 41) 51)) 1 7 51) 55)) 1 8 55) 65) (mj_zi (cI_55 (mj_zi (cI_51 (mj_zi (cI_41 (mj_zi (cI_32 (mj_zi (cI_29 (mj_zi (cI_18 (mj_zi (mj_si (cI_2 (mj_zi I 2)) 1 1 (-1)) 18)) 29)) 32)) 41)) 51)) 55)) 65) (mj_zl (cL_55 (mj_zl (cL_51 (mj_zl (cL_41 (mj_zl (cL_32 (mj_zl (cL_29 (mj_zl (cL_18 (mj_zl (cL_2 (mj_zl L 2)) 18)) 29)) 32)) 41)) 51)) 55)) 65) hp22
  refine mj_callIN (n' := 69) (st := [.ref 65, .ref 1]) (host := "OddsSolver") [] hM23 ⟨mj_seg_2 (j := 139) (by decide +kernel) rfl, mj_seg_1 (j := 9) (by decide +kernel) rfl, mj_seg_2 (j := 138) (by decide +kernel) rfl, by decide +kernel, ⟨by decide, by decide, by decide +kernel⟩, by decide, rfl⟩ (by decide) rfl rfl (by decide) (mj_rcc hR ⟨Nat.le_of_ble_eq_true rfl, Nat.le_of_ble_eq_true rfl⟩) dX10_init_91 (by decide +kernel) (by decide +kernel) (fun P23 I23 L23 ad23 hy23 hq23 => ?_)
  obtain ⟨rfl, rfl, rfl⟩ := hq23
  have hx23 := mj_ex.tr (n := 1) (n' := 65) (by decide) hx22 hy23
  refine mj_kk (kc' := 68) (ks' := 55793) rfl rfl ?_
  have hp23 : mj_in9 (cP_65 (mj_zp (mj_sp (cP_55 (mj_zp (mj_sp (cP_51 (mj_zp (mj_sp (cP_41 (mj_zp (mj_sp (cP_32 (mj_zp (mj_sp (cP_29 (mj_zp (mj_sp (cP_18 (mj_zp (mj_sp (cP_2 (mj_zp P 2)) 1 0 2) 18)) 1 2 18) 29)) 1 4 29) 32)) 1 5 32) 41)) 1 6 41) 51)) 1 7 51) 55)) 1 8 55) 65)) 69 := ci_65 hp22
  refine mj_p_fin (by decide) fl_X10_65 rfl rfl rfl rfl s0_1 (by decide) dX10_init_94 ?_
  have hp24 : mj_in9 (mj_sp (cP_65 (mj_zp (mj_sp (cP_55 (mj_zp (mj_sp (cP_51 (mj_zp (mj_sp (cP_41 (mj_zp (mj_sp (cP_32 (mj_zp (mj_sp (cP_29 (mj_zp (mj_sp (cP_18 (mj_zp (mj_sp (cP_2 (mj_zp P 2)) 1 0 2) 18)) 1 2 18) 29)) 1 4 29) 32)) 1 5 32) 41)) 1 6 41) 51)) 1 7 51) 55)) 1 8 55) 65)) 1 9 65) 69 := mj_in9_sp hp23 (by decide)
  refine mj_aload_n 0 dX10_init_97 rfl ?_
  refine mj_iconst (v := 3) dX10_init_98 (by decide +kernel) ?_
  refine mj_n_int (n' := 70) (N := 3) (kc' := 69) (ks' := 55796) rfl ⟨rfl, rfl⟩ ⟨by decide +kernel, by decide +kernel, Nat.le_of_ble_eq_true rfl⟩ s0_70 (by decide) hp24 (by decide +kernel) (by decide +kernel) ac_int (mj_rcc hR ⟨Nat.le_of_ble_eq_true rfl, Nat.le_of_ble_eq_true rfl⟩) dX10_init_99 (fun ad25 hy25 => ?_)
  have hx25 := mj_ex.tr (n := 1) (n' := 69) (by decide) hx23 hy25
  have hp25 := mj_in9_le (n' := 70) hp24 (by decide)
  refine mj_p_fin (by decide) fl_X10_69 rfl rfl rfl rfl s0_1 (by decide) dX10_init_101 ?_
  have hp26 : mj_in9 (mj_sp (mj_sp (cP_65 (mj_zp (mj_sp (cP_55 (mj_zp (mj_sp (cP_51 (mj_zp (mj_sp (cP_41 (mj_zp (mj_sp (cP_32 (mj_zp (mj_sp (cP_29 (mj_zp (mj_sp (cP_18 (mj_zp (mj_sp (cP_2 (mj_zp P 2)) 1 0 2) 18)) 1 2 18) 29)) 1 4 29) 32)) 1 5 32) 41)) 1 6 41) 51)) 1 7 51) 55)) 1 8 55) 65)) 1 9 65) 1 10 70) 70 := mj_in9_sp hp25 (by decide)
  exact mj_vretc hR hx25 ⟨Nat.le_refl _, Nat.le_refl _⟩ rfl dX10_init_104 ⟨rfl, rfl, rfl⟩
