/-! ===== the words of the text: String constants, length() and charAt() ===== -/
def mj_ch (i k : Nat) : Int32 := (mj_stb.getD i []).getD k 0
section MS
variable {X : mj_XT} {G : mj_GT} {own nm : String} {cc : ByteArray} {mL d : Nat} {ret : Option FieldType} {P : mj_PT} {S : mj_ST} {n : Nat} {ad : Nat → Nat} {kc ks pc : Nat} {ls : List (Nat × Value)} {st : List Value} {I : mj_IT} {L : mj_LT}
theorem mj_ldcS {ix j b : Nat} {tx : String} (hm : (own, ix, tx, j) ∈ mj_str) (hb : b = 2000 + j) (hd : decode cc pc = .ok (.ldc ix, 2)) (k : mj_W X G own nm cc mL d ret P S n ad kc ks (pc + 2) ls (.ref b :: st) (I) (L)) : mj_W X G own nm cc mL d ret P S n ad kc ks pc ls (st) (I) (L) := by
  obtain ⟨p, l, e, R, s, m, args, below, meth, c, Q, A⟩ := X
  intro C H locs la hP hD hS hl
  have k' := k C H locs la hP hD hS hl
  have e : ad b = G.2.2.2.2.2 j := by rw [hb]; exact C.2.2.2.2.2.2.2.2.2.2.2.2 j
  simp only [List.map_cons, mj_v, e] at k'
  exact va_ldcS C.1 C.2.1 C.2.2.2.1 (C.2.2.2.2.2.2.2.2.2.2.2.1.2.2.1.1 _ hm) hd k'
theorem mj_sV {i a b : Nat} (ha : a = 2001 + i) (hb : b = 2011 + i) (hi : i < 7) (hw : Cond.fieldLink own 9 "java/lang/String" "value" "[B" ∈ mj_tb) (hd : decode cc pc = .ok (.getfield 9, 3)) (k : mj_W X G own nm cc mL d ret P S n ad kc ks (pc + 3) ls (.ref b :: st) (I) (L)) : mj_W X G own nm cc mL d ret P S n ad kc ks pc ls (.ref a :: st) (I) (L) := by
  obtain ⟨p, l, e, R, s, m, args, below, meth, c, Q, A⟩ := X
  intro C H locs la hP hD hS hl
  have k' := k C H locs la hP hD hS hl
  have e : ad b = G.2.2.2.2.2 (11 + i) := by rw [hb, show 2011 + i = 2000 + (11 + i) by omega]; exact C.2.2.2.2.2.2.2.2.2.2.2.2 (11 + i)
  have e2 : ad a = G.2.2.2.2.2 (1 + i) := by rw [ha, show 2001 + i = 2000 + (1 + i) by omega]; exact C.2.2.2.2.2.2.2.2.2.2.2.2 (1 + i)
  simp only [List.map_cons, mj_v, e] at k'
  simp only [List.map_cons, mj_v, e2]
  exact vk_getf C.1 C.2.1 (C.2.2.2.2.2.2.2.2.2.2.2.1.2.2.2.2.1.1 i hi).2.2.1 hS C.2.2.2.1 (C.2.2.2.2.1 _ hw) (fun _ h => h) hd k'
theorem mj_sC {i a : Nat} (ha : a = 2001 + i) (hi : i < 7) (hw : Cond.fieldLink own 15 "java/lang/String" "coder" "B" ∈ mj_tb) (hd : decode cc pc = .ok (.getfield 15, 3)) (k : mj_W X G own nm cc mL d ret P S n ad kc ks (pc + 3) ls (.int 0 :: st) (I) (L)) : mj_W X G own nm cc mL d ret P S n ad kc ks pc ls (.ref a :: st) (I) (L) := by
  obtain ⟨p, l, e, R, s, m, args, below, meth, c, Q, A⟩ := X
  intro C H locs la hP hD hS hl
  have k' := k C H locs la hP hD hS hl
  have e2 : ad a = G.2.2.2.2.2 (1 + i) := by rw [ha, show 2001 + i = 2000 + (1 + i) by omega]; exact C.2.2.2.2.2.2.2.2.2.2.2.2 (1 + i)
  simp only [List.map_cons, mj_v] at k'
  simp only [List.map_cons, mj_v, e2]
  exact vk_getf C.1 C.2.1 (C.2.2.2.2.2.2.2.2.2.2.2.1.2.2.2.2.1.1 i hi).2.1 hS C.2.2.2.1 (C.2.2.2.2.1 _ hw) (fun _ h => h) hd k'
theorem mj_sL {i a : Nat} {v : Int32} (ha : a = 2011 + i) (hi : i < 7) (hv : Int32.ofNat (mj_stl.getD i 0) = v) (hd : decode cc pc = .ok (.arraylength, 1)) (k : mj_W X G own nm cc mL d ret P S n ad kc ks (pc + 1) ls (.int v :: st) (I) (L)) : mj_W X G own nm cc mL d ret P S n ad kc ks pc ls (.ref a :: st) (I) (L) := by
  obtain ⟨p, l, e, R, s, m, args, below, meth, c, Q, A⟩ := X
  intro C H locs la hP hD hS hl
  have e2 : ad a = G.2.2.2.2.2 (11 + i) := by rw [ha, show 2011 + i = 2000 + (11 + i) by omega]; exact C.2.2.2.2.2.2.2.2.2.2.2.2 (11 + i)
  simp only [List.map_cons, mj_v, e2]
  exact va_tlen C.1 C.2.1 (C.2.2.2.2.2.2.2.2.2.2.2.1.2.2.2.2.1.1 i hi).2.2.2 hS hv hd (k C H locs la hP hD hS hl)
theorem mj_sB {i a : Nat} {j : Int32} (ha : a = 2011 + i) (hi : i < 7) (hj : vp_in j (mj_stl.getD i 0)) (hd : decode cc pc = .ok (.baload, 1)) (k : mj_W X G own nm cc mL d ret P S n ad kc ks (pc + 1) ls (.int (mj_ch i j.toNatClampNeg) :: st) (I) (L)) : mj_W X G own nm cc mL d ret P S n ad kc ks pc ls (.int j :: .ref a :: st) (I) (L) := by
  obtain ⟨p, l, e, R, s, m, args, below, meth, c, Q, A⟩ := X
  intro C H locs la hP hD hS hl
  have e2 : ad a = G.2.2.2.2.2 (11 + i) := by rw [ha, show 2011 + i = 2000 + (11 + i) by omega]; exact C.2.2.2.2.2.2.2.2.2.2.2.2 (11 + i)
  simp only [List.map_cons, mj_v, e2]
  exact va_tb C.1 C.2.1 (C.2.2.2.2.2.2.2.2.2.2.2.1.2.2.2.2.1.1 i hi).2.2.2 hS hj rfl hd (k C H locs la hP hD hS hl)
theorem mj_sP (hw : Cond.fieldLink own 38 "java/lang/String" "COMPACT_STRINGS" "Z" ∈ mj_tb) (hd : decode cc pc = .ok (.getstatic 38, 3)) (k : mj_W X G own nm cc mL d ret P S n ad kc ks (pc + 3) ls (.int 1 :: st) (I) (L)) : mj_W X G own nm cc mL d ret P S n ad kc ks pc ls (st) (I) (L) := by
  obtain ⟨p, l, e, R, s, m, args, below, meth, c, Q, A⟩ := X
  intro C H locs la hP hD hS hl
  exact va_gets C.1 C.2.1 C.2.2.2.2.2.2.2.2.2.2.2.1.2.2.2.1 hS C.2.2.2.1 (C.2.2.2.2.1 _ hw) (fun _ h => h) hd (k C H locs la hP hD hS hl)
theorem mj_sF (hw : Cond.fieldLink own 1053 "jdk/internal/util/Preconditions" "SIOOBE_FORMATTER" "Ljava/util/function/BiFunction;" ∈ mj_tb) (hd : decode cc pc = .ok (.getstatic 1053, 3)) (k : ∀ v : Value, v = .null ∨ v = .ref 2040 → mj_W X G own nm cc mL d ret P S n ad kc ks (pc + 3) ls (v :: st) (I) (L)) : mj_W X G own nm cc mL d ret P S n ad kc ks pc ls (st) (I) (L) := by
  obtain ⟨p, l, e, R, s, m, args, below, meth, c, Q, A⟩ := X
  intro C H locs la hP hD hS hl
  rcases C.2.2.2.2.2.2.2.2.2.2.2.1.2.2.2.2.2.1 with h | h
  · exact va_gets C.1 C.2.1 h hS C.2.2.2.1 (C.2.2.2.2.1 _ hw) (fun _ h => h) hd (k .null (Or.inl rfl) C H locs la hP hD hS hl)
  · have k' := k (.ref 2040) (Or.inr rfl) C H locs la hP hD hS hl
    have e : ad 2040 = G.2.2.2.2.2 40 := C.2.2.2.2.2.2.2.2.2.2.2.2 40
    simp only [List.map_cons, mj_v, e] at k'
    exact va_gets C.1 C.2.1 h hS C.2.2.2.1 (C.2.2.2.2.1 _ hw) (fun _ h => h) hd k'
theorem mj_i2c {x v : Int32} (hd : decode cc pc = .ok (.i2c, 1)) (hv : (x.toUInt32 % 65536).toInt32 = v) (k : mj_W X G own nm cc mL d ret P S n ad kc ks (pc + 1) ls (.int v :: st) (I) (L)) : mj_W X G own nm cc mL d ret P S n ad kc ks pc ls (.int x :: st) (I) (L) := by
  obtain ⟨p, l, e, R, s, m, args, below, meth, c, Q, A⟩ := X
  intro C H locs la hP hD hS hl
  exact lv_i2c C.1 C.2.1 hd hv (k C H locs la hP hD hS hl)
theorem mj_callVs {ix np d' mL' i b : Nat} {y : MethodName} {cc' : ByteArray} {ret' : Option FieldType} {s0 s1 : List Value} {r0 : Option Value} {I1 I2 : mj_IT} {L1 L2 : mj_LT} (as : List Value) (hM : mj_M X.2.1 G y cc' mL' d' ret' 0 0 P S n (.ref b :: as) I L (mj_qd r0 I1 L1)) (hI : I1 = I2) (hL : L1 = L2) (hw : mj_cvS own ix y cc' mL' ret' np) (hb : b = 2001 + i) (hi : i < 7) (hdd : d' + 1 ≤ d) (hnp : as.length = np) (hst : s0 = as.reverse ++ .ref b :: st) (hsm : (st.map fun v => v.category).sum ≤ 8) (hf : kc ≤ X.2.2.2.1.cells ∧ ks ≤ X.2.2.2.1.slots) (hd : decode cc pc = .ok (.invokevirtual ix, 3)) (hs1 : r0.toList ++ st = s1) (k : mj_W X G own nm cc mL d ret P S n ad kc ks (pc + 3) ls (s1) (I2) (L2)) : mj_W X G own nm cc mL d ret P S n ad kc ks pc ls (s0) (I) (L) := by
  subst hI; subst hL; subst hs1
  obtain ⟨p, l, e, R, s, m, args, below, meth, c, Q, A⟩ := X
  intro C H locs la hP hD hS hl
  subst hst
  obtain ⟨hbl, hpre, hfree⟩ := mj_pre (as := .ref b :: as) C.2.2.2.2.2.2.2.2.2.1 C.2.2.2.2.2.2.2.2.2.2.1 C.2.2.2.2.2.2.2.2.2.2.2.1 C.2.2.2.2.2.2.2.2.2.2.2.2 hP hD hS
  have hrv := vk_recv C.2.2.2.2.2.2.2.2.2.2.2.1.2.2.2.2.1 hi hS
  have e2 : ad b = G.2.2.2.2.2 (1 + i) := by rw [hb, show 2001 + i = 2000 + (1 + i) by omega]; exact C.2.2.2.2.2.2.2.2.2.2.2.2 (1 + i)
  rw [← e2] at hrv
  refine mj_back (Qn := mj_qd r0 I1 L1) (va_runV (C := "java/lang/String") (b := ad b) (As := as.map (mj_v ad)) (rest := st.map (mj_v ad)) ⟨C.1, C.2.1, C.2.2.1, C.2.2.2.1, C.2.2.2.2.1⟩ (hM ad H.size) ⟨mj_callB C.2.2.2.2.1 hw.1 hdd C.2.2.2.2.2.2.2.2.1, C.2.2.2.2.1 _ hw.2.1, C.2.2.2.2.1 _ hw.2.2⟩ ⟨hbl, hrv, hpre⟩ rfl (by rw [List.length_map]; exact hnp) hl.1 (mj_rev ad as (.ref b :: st)) (mj_room hsm) hd hf) hS hfree (fun r I' L' H1 locs1 hq hP1 hS1 => ?_)
  obtain ⟨rfl, rfl, rfl⟩ := hq
  have k1 := k C H1 locs1 la hP1 (mj_D hD) hS1 hl
  have e : (r.toList ++ st).map (mj_v ad) = (r.map (mj_v ad)).toList ++ st.map (mj_v ad) := by cases r <;> rfl
  rw [e] at k1
  exact k1
end MS
set_option maxRecDepth 100000 in
theorem cmJ3_checkIndex (l : Launch) (G : mj_GT) (x0 x1 : Int32) (v : Value) (hv : v = .null ∨ v = .ref 2040) (I : mj_IT) (L : mj_LT) (h : mj_ib x0 x1.toNatClampNeg = true) : mj_M l G yJ3_checkIndex_8e157 cJ3_checkIndex_8e157 3 1 (some .int) 0 0 mj_P0 mj_S0 98 [.int x0, .int x1, v] I L (mj_qd (some (.int x0)) I L) := by
  have h0 := mj_ib_in h
  have hlo : ¬ x0 < 0 := fun z => h0 (Or.inl z)
  have hlt : x0 < x1 := by
    have h2 : x0.toNatClampNeg < x1.toNatClampNeg := Nat.not_le.mp (fun z => h0 (Or.inr z))
    have h3 : (0 : Int) ≤ x0.toInt := by
      have := hlo
      rw [Int32.lt_iff_toInt_lt, Int32.toInt_zero] at this
      omega
    rw [Int32.lt_iff_toInt_lt]
    have e0 : x0.toNatClampNeg = x0.toInt.toNat := rfl
    have e1 : x1.toNatClampNeg = x1.toInt.toNat := rfl
    omega
  refine mj_in RJ3 "checkIndex" [(0, .int x0), (1, .int x1), (2, v)] rfl rfl rfl (by decide) (by rcases hv with rfl | rfl <;> exact Nat.le_of_ble_eq_true rfl) (fun X ad hR => ?_)
  refine mj_iload_n 0 dJ3_checkIndex_8e157_0 rfl ?_
  refine mj_if_lt 9 dJ3_checkIndex_8e157_1 (by decide) (fun c => absurd c hlo) (fun c => ?_)
  refine mj_iload_n 0 dJ3_checkIndex_8e157_4 rfl ?_
  refine mj_iload_n 1 dJ3_checkIndex_8e157_5 rfl ?_
  refine mj_icmp_lt 16 dJ3_checkIndex_8e157_6 (by decide) (fun c => ?_) (fun c => absurd hlt c)
  refine mj_iload_n 0 dJ3_checkIndex_8e157_16 rfl ?_
  exact mj_iret hR ⟨Nat.le_refl _, Nat.le_refl _⟩ rfl rfl dJ3_checkIndex_8e157_17 ⟨rfl, rfl, rfl⟩
set_option maxRecDepth 100000 in
theorem cmJ0_checkIndex (l : Launch) (G : mj_GT) (x0 x1 : Int32) (I : mj_IT) (L : mj_LT) (h : mj_ib x0 x1.toNatClampNeg = true) : mj_M l G yJ0_checkIndex_df160 cJ0_checkIndex_df160 2 2 none 0 0 mj_P0 mj_S0 98 [.int x0, .int x1] I L (mj_qd none I L) := by
  refine mj_in RJ0 "checkIndex" [(0, .int x0), (1, .int x1)] rfl rfl rfl (by decide) (Nat.le_of_ble_eq_true rfl) (fun X ad hR => ?_)
  refine mj_iload_n 0 dJ0_checkIndex_df160_0 rfl ?_
  refine mj_iload_n 1 dJ0_checkIndex_df160_1 rfl ?_
  refine mj_sF sf_sioobe dJ0_checkIndex_df160_2 (fun v hv => ?_)
  refine mj_callSd (I2 := I) (L2 := L) (s1 := [.int x0]) (st := []) [.int x0, .int x1, v] (cmJ3_checkIndex X.2.1 G x0 x1 v hv I L h) rfl rfl cw_J0_1059 (by decide) rfl rfl (Nat.le_of_ble_eq_true rfl) ⟨Nat.zero_le _, Nat.zero_le _⟩ dJ0_checkIndex_df160_5 rfl ?_
  refine mj_pop dJ0_checkIndex_df160_8 rfl ?_
  exact mj_vret hR ⟨Nat.le_refl _, Nat.le_refl _⟩ rfl dJ0_checkIndex_df160_9 ⟨rfl, rfl, rfl⟩
theorem mj_ch_c : ∀ i, i < 7 → ∀ k, k < mj_stl.getD i 0 → ((mj_ch i k &&& 255).toUInt32 % 65536).toInt32 = mj_ch i k ∧ narrow .char (.int (mj_ch i k)) = .int (mj_ch i k) := by decide +kernel
theorem mj_stl_c : ∀ i, i < 7 → (Int32.ofNat (mj_stl.getD i 0)).toNatClampNeg = mj_stl.getD i 0 ∧ Int32.ofNat (mj_stl.getD i 0) >>> ((0 : Int32) &&& 31) = Int32.ofNat (mj_stl.getD i 0) := by decide +kernel
set_option maxRecDepth 100000 in
theorem cmJ1_charAt (l : Launch) (G : mj_GT) (i b : Nat) (hb : b = 2011 + i) (hi : i < 7) (x1 : Int32) (I : mj_IT) (L : mj_LT) (h : mj_ib x1 (mj_stl.getD i 0) = true) : mj_M l G yJ1_charAt_3b067 cJ1_charAt_3b067 2 3 (some .char) 0 0 mj_P0 mj_S0 98 [.ref b, .int x1] I L (mj_qd (some (.int (mj_ch i x1.toNatClampNeg))) I L) := by
  have hk : x1.toNatClampNeg < mj_stl.getD i 0 := Nat.not_le.mp (fun z => (mj_ib_in h) (Or.inr z))
  refine mj_in RJ1 "charAt" [(0, .ref b), (1, .int x1)] rfl rfl rfl (by decide) (Nat.le_of_ble_eq_true rfl) (fun X ad hR => ?_)
  refine mj_iload_n 1 dJ1_charAt_3b067_0 rfl ?_
  refine mj_aload_n 0 dJ1_charAt_3b067_1 rfl ?_
  refine mj_sL (v := Int32.ofNat (mj_stl.getD i 0)) hb hi rfl dJ1_charAt_3b067_2 ?_
  refine mj_callSd (I2 := I) (L2 := L) (s1 := []) (st := []) [.int x1, .int (Int32.ofNat (mj_stl.getD i 0))] (cmJ0_checkIndex X.2.1 G x1 _ I L (by rw [(mj_stl_c i hi).1]; exact h)) rfl rfl cw_J1_9 (by decide) rfl rfl (Nat.le_of_ble_eq_true rfl) ⟨Nat.zero_le _, Nat.zero_le _⟩ dJ1_charAt_3b067_3 rfl ?_
  refine mj_aload_n 0 dJ1_charAt_3b067_6 rfl ?_
  refine mj_iload_n 1 dJ1_charAt_3b067_7 rfl ?_
  refine mj_sB hb hi (mj_ib_in h) dJ1_charAt_3b067_8 ?_
  refine mj_sipush (v := 255) dJ1_charAt_3b067_9 (by decide) ?_
  refine mj_iand dJ1_charAt_3b067_12 ?_
  refine mj_i2c dJ1_charAt_3b067_13 (mj_ch_c i hi _ hk).1 ?_
  exact mj_iret hR ⟨Nat.le_refl _, Nat.le_refl _⟩ rfl (mj_ch_c i hi _ hk).2 dJ1_charAt_3b067_14 ⟨rfl, rfl, rfl⟩
set_option maxRecDepth 100000 in
theorem cmJ0_coder (l : Launch) (G : mj_GT) (i b : Nat) (hb : b = 2001 + i) (hi : i < 7) (I : mj_IT) (L : mj_LT) : mj_M l G yJ0_coder_7d493 cJ0_coder_7d493 1 1 (some .byte) 0 0 mj_P0 mj_S0 98 [.ref b] I L (mj_qd (some (.int 0)) I L) := by
  refine mj_in RJ0 "coder" [(0, .ref b)] rfl rfl rfl (by decide) (Nat.le_of_ble_eq_true rfl) (fun X ad hR => ?_)
  refine mj_sP sf_COMPACT_STRINGS dJ0_coder_7d493_0 ?_
  refine mj_if_eq 13 dJ0_coder_7d493_3 (by decide) (fun c => absurd c (by decide)) (fun c => ?_)
  refine mj_aload_n 0 dJ0_coder_7d493_6 rfl ?_
  refine mj_sC hb hi sf_coder dJ0_coder_7d493_7 ?_
  refine mj_goto 14 dJ0_coder_7d493_10 (by decide) ?_
  exact mj_iret hR ⟨Nat.le_refl _, Nat.le_refl _⟩ rfl (by decide) dJ0_coder_7d493_14 ⟨rfl, rfl, rfl⟩
set_option maxRecDepth 100000 in
theorem cmJ0_isLatin1 (l : Launch) (G : mj_GT) (i b : Nat) (hb : b = 2001 + i) (hi : i < 7) (I : mj_IT) (L : mj_LT) : mj_M l G yJ0_isLatin1_aae02 cJ0_isLatin1_aae02 1 1 (some .boolean) 0 0 mj_P0 mj_S0 98 [.ref b] I L (mj_qd (some (.int 1)) I L) := by
  refine mj_in RJ0 "isLatin1" [(0, .ref b)] rfl rfl rfl (by decide) (Nat.le_of_ble_eq_true rfl) (fun X ad hR => ?_)
  refine mj_sP sf_COMPACT_STRINGS dJ0_isLatin1_aae02_0 ?_
  refine mj_if_eq 17 dJ0_isLatin1_aae02_3 (by decide) (fun c => absurd c (by decide)) (fun c => ?_)
  refine mj_aload_n 0 dJ0_isLatin1_aae02_6 rfl ?_
  refine mj_sC hb hi sf_coder dJ0_isLatin1_aae02_7 ?_
  refine mj_if_ne 17 dJ0_isLatin1_aae02_10 (by decide) (fun c => absurd rfl c) (fun c => ?_)
  refine mj_iconst dJ0_isLatin1_aae02_13 kc_iconst_1 ?_
  refine mj_goto 18 dJ0_isLatin1_aae02_14 (by decide) ?_
  exact mj_iret hR ⟨Nat.le_refl _, Nat.le_refl _⟩ rfl (by decide) dJ0_isLatin1_aae02_18 ⟨rfl, rfl, rfl⟩
set_option maxRecDepth 100000 in
theorem cmJ0_length (l : Launch) (G : mj_GT) (i b : Nat) (hb : b = 2001 + i) (hi : i < 7) (I : mj_IT) (L : mj_LT) : mj_M l G yJ0_length_8abf5 cJ0_length_8abf5 1 2 (some .int) 0 0 mj_P0 mj_S0 98 [.ref b] I L (mj_qd (some (.int (Int32.ofNat (mj_stl.getD i 0)))) I L) := by
  refine mj_in RJ0 "length" [(0, .ref b)] rfl rfl rfl (by decide) (Nat.le_of_ble_eq_true rfl) (fun X ad hR => ?_)
  refine mj_aload_n 0 dJ0_length_8abf5_0 rfl ?_
  refine mj_sV hb rfl hi sf_value dJ0_length_8abf5_1 ?_
  refine mj_sL (v := Int32.ofNat (mj_stl.getD i 0)) rfl hi rfl dJ0_length_8abf5_4 ?_
  refine mj_aload_n 0 dJ0_length_8abf5_5 rfl ?_
  refine mj_callVs (I2 := I) (L2 := L) (s1 := [.int 0, .int (Int32.ofNat (mj_stl.getD i 0))]) (st := [.int (Int32.ofNat (mj_stl.getD i 0))]) [] (cmJ0_coder X.2.1 G i b hb hi I L) rfl rfl cw_J0_335 hb hi (by decide) rfl rfl (Nat.le_of_ble_eq_true rfl) ⟨Nat.zero_le _, Nat.zero_le _⟩ dJ0_length_8abf5_6 rfl ?_
  refine mj_ishr dJ0_length_8abf5_9 ?_
  rw [(mj_stl_c i hi).2]
  exact mj_iret hR ⟨Nat.le_refl _, Nat.le_refl _⟩ rfl rfl dJ0_length_8abf5_10 ⟨rfl, rfl, rfl⟩
set_option maxRecDepth 100000 in
theorem cmJ0_charAt (l : Launch) (G : mj_GT) (i b : Nat) (hb : b = 2001 + i) (hi : i < 7) (x1 : Int32) (I : mj_IT) (L : mj_LT) (h : mj_ib x1 (mj_stl.getD i 0) = true) : mj_M l G yJ0_charAt_5068e cJ0_charAt_5068e 2 4 (some .char) 0 0 mj_P0 mj_S0 98 [.ref b, .int x1] I L (mj_qd (some (.int (mj_ch i x1.toNatClampNeg))) I L) := by
  have hk : x1.toNatClampNeg < mj_stl.getD i 0 := Nat.not_le.mp (fun z => (mj_ib_in h) (Or.inr z))
  refine mj_in RJ0 "charAt" [(0, .ref b), (1, .int x1)] rfl rfl rfl (by decide) (Nat.le_of_ble_eq_true rfl) (fun X ad hR => ?_)
  refine mj_aload_n 0 dJ0_charAt_5068e_0 rfl ?_
  refine mj_callVs (I2 := I) (L2 := L) (s1 := [.int 1]) (st := []) [] (cmJ0_isLatin1 X.2.1 G i b hb hi I L) rfl rfl cw_J0_492 hb hi (by decide) rfl rfl (Nat.le_of_ble_eq_true rfl) ⟨Nat.zero_le _, Nat.zero_le _⟩ dJ0_charAt_5068e_1 rfl ?_
  refine mj_if_eq 16 dJ0_charAt_5068e_4 (by decide) (fun c => absurd c (by decide)) (fun c => ?_)
  refine mj_aload_n 0 dJ0_charAt_5068e_7 rfl ?_
  refine mj_sV hb rfl hi sf_value dJ0_charAt_5068e_8 ?_
  refine mj_iload_n 1 dJ0_charAt_5068e_11 rfl ?_
  refine mj_callSd (I2 := I) (L2 := L) (s1 := [.int (mj_ch i x1.toNatClampNeg)]) (st := []) [.ref (2011 + i), .int x1] (cmJ1_charAt X.2.1 G i _ rfl hi x1 I L h) rfl rfl cw_J0_495 (by decide) rfl rfl (Nat.le_of_ble_eq_true rfl) ⟨Nat.zero_le _, Nat.zero_le _⟩ dJ0_charAt_5068e_12 rfl ?_
  exact mj_iret hR ⟨Nat.le_refl _, Nat.le_refl _⟩ rfl (mj_ch_c i hi _ hk).2 dJ0_charAt_5068e_15 ⟨rfl, rfl, rfl⟩
