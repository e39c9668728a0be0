/-! ===== System.arraycopy of int rows ===== -/
def mj_cpk (sp dp n : Int32) (N1 N2 : Nat) : Bool := decide (0 ≤ sp) && decide (0 ≤ dp) && decide (0 ≤ n) && decide (sp.toNatClampNeg + n.toNatClampNeg ≤ N1) && decide (dp.toNatClampNeg + n.toNatClampNeg ≤ N2)
def mj_aw (own : String) (ix : Nat) : Prop := Cond.methodLink own ix arraycopyName ∈ mj_tb ∧ Cond.native arraycopyName ∈ mj_tb ∧ Cond.static arraycopyName ∈ mj_tb ∧ Cond.initialized "java/lang/System" ∈ mj_tb
theorem mj_nn {x : Int32} (h : 0 ≤ x) : ¬ x < 0 := by
  intro q
  have h1 := Int32.le_iff_toInt_le.mp h
  have h2 := Int32.lt_iff_toInt_lt.mp q
  omega
theorem mj_acopy {X : mj_XT} {G : mj_GT} {own nm : String} {cc : ByteArray} {mL d : Nat} {ret : Option FieldType} {P : mj_PT} {S : mj_ST} {n : Nat} {ad : Nat → Nat} {kc ks pc : Nat} {ls : List (Nat × Value)} {st : List Value} {I0 : mj_IT} {L : mj_LT} {l : List (Nat × (Nat → Int32))} {ix a b N1 N2 : Nat} {sp dp m9 : Int32} (l' : List (Nat × (Nat → Int32)))
    (hl' : mj_ins l b (va_cpy (mj_rows I0 l a) (mj_rows I0 l b) sp.toNatClampNeg dp.toNatClampNeg m9.toNatClampNeg) = l') (hs : S a = (1, N1)) (ha : 0 < a ∧ a ≤ n) (hs2 : S b = (1, N2)) (hb : 0 < b ∧ b ≤ n) (hc : mj_cpk sp dp m9 N1 N2 = true) (hw : mj_aw own ix) (hdd : 8 + (nativeFrameWords "java/lang/System" "arraycopy" 5 + 11) ≤ 41 * d ∧ 1 ≤ d) (hsm : (st.map fun v => v.category).sum ≤ 8) (hd : decode cc pc = .ok (.invokestatic ix, 3)) (k : mj_W X G own nm cc mL d ret P S n ad kc ks (pc + 3) ls (st) (mj_rows I0 l') (L)) : mj_W X G own nm cc mL d ret P S n ad kc ks pc ls (.int m9 :: .int dp :: .ref b :: .int sp :: .ref a :: st) (mj_rows I0 l) (L) := by
  obtain ⟨p, l0, e, R, s, m, args, below, meth, c, Q, A⟩ := X
  intro C H locs la hP hD hS hl
  simp only [mj_cpk, Bool.and_eq_true, decide_eq_true_eq] at hc
  obtain ⟨⟨⟨⟨c1, c2⟩, c3⟩, c4⟩, c5⟩ := hc
  have hr := C.2.2.2.2.2.2.2.2.1
  have e2 : ((st.map (mj_v ad)).map fun v => v.category).sum ≤ 8 := by
    rw [List.map_map, show (fun v : Value => v.category) ∘ mj_v ad = fun v : Value => v.category from funext (mj_v_cat ad)]
    exact hsm
  have h1 : 1 ≤ R.frames := by omega
  have h2 : ((st.map (mj_v ad)).map fun v => v.category).sum + (nativeFrameWords "java/lang/System" "arraycopy" 5 + 11) ≤ R.locals := by omega
  refine va_copyi C.1 C.2.1 (C.2.2.1.trans hl.1.symm) C.2.2.2.1 (C.2.2.2.2.1 _ hw.1) (C.2.2.2.2.1 _ hw.2.1) (C.2.2.2.2.1 _ hw.2.2.1) (C.2.2.2.2.1 _ hw.2.2.2) C.2.2.2.2.2.2.2.2.2.1 hP hD hS (a - 1) (b - 1) 0 0 (by rw [mj_w_at ha.1 ha.2, mj_E1 hs]) (by rw [mj_w_at hb.1 hb.2, mj_E1 hs2]) rfl rfl rfl (mj_nn c1) (mj_nn c2) (mj_nn c3) c4 c5 (fun _ _ => rfl) h1 h2 hd (fun H1 locs1 hP1 hD1 hS1 => ?_)
  have e : (mj_w G ad P S n (mj_rows I0 l) L).set (b - 1) (ad b, .inl (G.2.1, N2, .inl (va_cpy (mj_rows I0 l a) (mj_rows I0 l b) sp.toNatClampNeg dp.toNatClampNeg m9.toNatClampNeg))) = mj_w G ad P S n (va_up (mj_rows I0 l) b (va_cpy (mj_rows I0 l a) (mj_rows I0 l b) sp.toNatClampNeg dp.toNatClampNeg m9.toNatClampNeg)) L := mj_w_set hb.1 (by rw [mj_E1 hs2]; simp [va_up]) (fun q hq => mj_oI q hq)
  rw [e, mj_upr hl'] at hP1 hD1
  exact k C H1 locs1 la hP1 hD1 hS1 hl
theorem ac_X0_22 : mj_aw RX0 22 := ⟨mj_seg_4 (j := 98) (by decide +kernel) rfl, mj_seg_4 (j := 100) (by decide +kernel) rfl, mj_seg_4 (j := 99) (by decide +kernel) rfl, mj_seg_1 (j := 22) (by decide +kernel) rfl⟩
theorem ac_X6_55 : mj_aw RX6 55 := ⟨mj_seg_6 (j := 134) (by decide +kernel) rfl, mj_seg_4 (j := 100) (by decide +kernel) rfl, mj_seg_4 (j := 99) (by decide +kernel) rfl, mj_seg_1 (j := 22) (by decide +kernel) rfl⟩
