/-! ===== methods that exchange rows: the cells' numbers are dealt anew ===== -/
def mj_mv (a : Nat) : Bool := (decide (4 ≤ a) && decide (a ≤ 14)) || (decide (18 ≤ a) && decide (a ≤ 28)) || decide (a = 52) || decide (a = 53)
def mj_ag (ad ad' : Nat → Nat) : Prop := ∀ a, mj_mv a = false → ad' a = ad a
theorem mj_ag.rf {ad : Nat → Nat} : mj_ag ad ad := fun _ _ => rfl
theorem mj_ag.tr {a b c : Nat → Nat} (h1 : mj_ag a b) (h2 : mj_ag b c) : mj_ag a c := fun x hx => (h2 x hx).trans (h1 x hx)
theorem mj_mv_st (i : Nat) : mj_mv (2000 + i) = false := by
  simp only [mj_mv, Bool.or_eq_false_iff, Bool.and_eq_false_iff, decide_eq_false_iff_not]
  omega
def mj_fx (v : Value) : Bool := match v with
  | .ref a => !mj_mv a
  | _ => true
theorem mj_fx_v {ad ad' : Nat → Nat} (h : mj_ag ad ad') {v : Value} (hv : mj_fx v = true) : mj_v ad' v = mj_v ad v := by
  cases v with
  | ref a =>
    have h1 : mj_mv a = false := by simpa [mj_fx] using hv
    simp only [mj_v, h a h1]
  | _ => rfl
theorem mj_fx_st {ad ad' : Nat → Nat} (h : mj_ag ad ad') {st : List Value} (hv : st.all mj_fx = true) : st.map (mj_v ad') = st.map (mj_v ad) := by
  apply List.map_congr_left
  intro v hm
  exact mj_fx_v h (List.all_eq_true.mp hv v hm)
theorem mj_fx_ls {ad ad' : Nat → Nat} (h : mj_ag ad ad') {ls : List (Nat × Value)} (hv : ls.all (fun q => mj_fx q.2) = true) : ls.map (fun q => (q.1, mj_v ad' q.2)) = ls.map (fun q => (q.1, mj_v ad q.2)) := by
  apply List.map_congr_left
  intro q hm
  rw [mj_fx_v h (List.all_eq_true.mp hv q hm)]
def mj_Qv (G : mj_GT) (ad : Nat → Nat) (S : mj_ST) (n : Nat) (A : Nat → Prop) (Qn : Option Value → mj_PT → mj_IT → mj_LT → Prop) : Array Value → State → Outcome → State → Prop := fun _ s o t =>
  (∃ (r : Option Value) (P : mj_PT) (I : mj_IT) (L : mj_LT) (ad' : Nat → Nat), mj_ag ad ad' ∧ o = .returned (r.map (mj_v ad')) ∧ Qn r P I L ∧ va_P G.1 mj_cl (mj_w G ad' P S n I L) t.heap ∧ va_D A (mj_w G ad' P S n I L)) ∧ va_F A s t
def mj_Mv (l : Launch) (G : mj_GT) (y : MethodName) (cc : ByteArray) (mL d : Nat) (ret : Option FieldType) (mc ms : Nat) (P : mj_PT) (S : mj_ST) (n : Nat) (as : List Value) (I : mj_IT) (L : mj_LT) (Qn : Option Value → mj_PT → mj_IT → mj_LT → Prop) : Prop :=
  ∀ (ad : Nat → Nat) (sz : Nat), Met l y (.code y cc mL ret :: mj_tb) { frames := d, cells := mc, slots := ms, locals := 41 * d } (va_Pc (as.map (mj_v ad)) (mj_B G ad P S n I L sz)) (mj_Qv G ad S n (va_A (mj_w G ad P S n I L) sz) Qn) mc ms (va_A (mj_w G ad P S n I L) sz)
def mj_Rv (X : mj_XT) (l : Launch) (G : mj_GT) (S : mj_ST) (n : Nat) (ad : Nat → Nat) (mc ms : Nat) (Qn : Option Value → mj_PT → mj_IT → mj_LT → Prop) : Prop := match X with
  | (_, l', _, R, s, _, args, below, _, _, Q, A) => l' = l ∧ Q = MQ below (mj_Qv G ad S n A Qn) args s mc ms A ∧ R.cells = mc ∧ R.slots = ms
/-- .. that may throw, before anything was exchanged -/
def mj_Mxv (l : Launch) (G : mj_GT) (y : MethodName) (cc : ByteArray) (mL d : Nat) (ret : Option FieldType) (mc ms : Nat) (P : mj_PT) (S : mj_ST) (n : Nat) (as : List Value) (I : mj_IT) (L : mj_LT) (Qn : Option Value → mj_PT → mj_IT → mj_LT → Prop) (Qx : String → mj_IT → mj_LT → Prop) : Prop :=
  ∀ (ad : Nat → Nat) (sz : Nat), vx_Met l y (.code y cc mL ret :: mj_tb) { frames := d, cells := mc, slots := ms, locals := 41 * d } (va_Pc (as.map (mj_v ad)) (mj_B G ad P S n I L sz)) (mj_Qv G ad S n (va_A (mj_w G ad P S n I L) sz) Qn) (mj_XC G ad P S n (va_A (mj_w G ad P S n I L) sz) Qx) mc ms (va_A (mj_w G ad P S n I L) sz)
def mj_Rxv (X : mj_XT) (l : Launch) (G : mj_GT) (P : mj_PT) (S : mj_ST) (n : Nat) (ad : Nat → Nat) (mc ms : Nat) (Qn : Option Value → mj_PT → mj_IT → mj_LT → Prop) (Qx : String → mj_IT → mj_LT → Prop) : Prop := match X with
  | (_, l', _, R, s, _, args, below, _, c, Q, A) => l' = l ∧ Q = vx_MQ below (mj_Qv G ad S n A Qn) (mj_XC G ad P S n A Qx) args s mc ms A ∧ R.cells = mc ∧ R.slots = ms ∧ ∀ x ∈ c.exceptionTable.toList, False
theorem mj_inv {l : Launch} {G : mj_GT} {y : MethodName} {cc : ByteArray} {mL d : Nat} {ret : Option FieldType} {mc ms : Nat} {P : mj_PT} {S : mj_ST} {n : Nat} {as : List Value} {I : mj_IT} {L : mj_LT} {Qn : Option Value → mj_PT → mj_IT → mj_LT → Prop} (own nm : String) (ls : List (Nat × Value)) (ho : y.cls = own) (hn : y.name = nm) (hls : lv_args 0 as = ls)
    (hy : plainName y.cls = true) (hlen : (lg_sl as).length ≤ mL) (k : ∀ (X : mj_XT) (ad : Nat → Nat), mj_Rv X l G S n ad mc ms Qn → mj_W X G own nm cc mL d ret P S n ad 0 0 0 ls [] I L) : mj_Mv l G y cc mL d ret mc ms P S n as I L Qn := by
  subst ho; subst hn; subst hls
  intro ad sz
  refine Met.ofW (cc := cc) (maxL := mL) (ret := ret) hy rfl ?_
  intro p e s m args below meth c s₁ B hml hv
  obtain ⟨rfl, hsz, hP, hK, hD0, hZ, had⟩ := hv
  have hts := atoms_spec (ws := .code y cc mL ret :: mj_tb) B.pre
  have hown : s.vm.findClass y.cls = some m.cls := findClass_of_methodNamed B.named
  subst hsz
  have hD := hD0.self (sz := s.heap.size)
  generalize hAe : va_A (mj_w G ad P S n I L) s.heap.size = A at hD hZ ⊢
  have hA : ∀ q : Nat, s.heap.size ≤ q → A q := fun q h => by rw [← hAe]; exact Or.inr h
  have hl := lv_entry (as.map (mj_v ad)) (n := mL) (by rw [mj_sl]; exact hlen)
  rw [mj_args] at hl
  rw [lg_entry_eq]
  exact k (p, l, e, _, s, m, _, below, meth, c, _, A) ad ⟨rfl, rfl, rfl, rfl⟩ ⟨B.exec, B.bytes, hml, hown, fun w hw => hts w (List.mem_cons_of_mem _ hw), B.returns, B.notSynchronized, (name_of_methodNamed B.named B.method).1, ⟨Nat.le_refl _, Nat.le_refl _⟩, hK, hA, hZ, had⟩ s.heap [] _ hP hD va_S.rf hl
theorem mj_inxv {l : Launch} {G : mj_GT} {y : MethodName} {cc : ByteArray} {mL d : Nat} {ret : Option FieldType} {mc ms : Nat} {P : mj_PT} {S : mj_ST} {n : Nat} {as : List Value} {I : mj_IT} {L : mj_LT} {Qn : Option Value → mj_PT → mj_IT → mj_LT → Prop} {Qx : String → mj_IT → mj_LT → Prop} (own nm : String) (ls : List (Nat × Value)) (ho : y.cls = own) (hn : y.name = nm) (hls : lv_args 0 as = ls)
    (hy : plainName y.cls = true) (hlen : (lg_sl as).length ≤ mL) (k : ∀ (X : mj_XT) (ad : Nat → Nat), mj_Rxv X l G P S n ad mc ms Qn Qx → mj_W X G own nm cc mL d ret P S n ad 0 0 0 ls [] I L) : mj_Mxv l G y cc mL d ret mc ms P S n as I L Qn Qx := by
  subst ho; subst hn; subst hls
  intro ad sz
  refine vx_ofW (cc := cc) (maxL := mL) (ret := ret) hy rfl ?_
  intro p e s m args below meth c s₁ B hml hTb hv
  obtain ⟨rfl, hsz, hP, hK, hD0, hZ, had⟩ := hv
  have hts := atoms_spec (ws := .code y cc mL ret :: mj_tb) B.pre
  have hown : s.vm.findClass y.cls = some m.cls := findClass_of_methodNamed B.named
  subst hsz
  have hD := hD0.self (sz := s.heap.size)
  generalize hAe : va_A (mj_w G ad P S n I L) s.heap.size = A at hD hZ ⊢
  have hA : ∀ q : Nat, s.heap.size ≤ q → A q := fun q h => by rw [← hAe]; exact Or.inr h
  have hl := lv_entry (as.map (mj_v ad)) (n := mL) (by rw [mj_sl]; exact hlen)
  rw [mj_args] at hl
  rw [lg_entry_eq]
  exact k (p, l, e, _, s, m, _, below, meth, c, _, A) ad ⟨rfl, rfl, rfl, rfl, hTb⟩ ⟨B.exec, B.bytes, hml, hown, fun w hw => hts w (List.mem_cons_of_mem _ hw), B.returns, B.notSynchronized, (name_of_methodNamed B.named B.method).1, ⟨Nat.le_refl _, Nat.le_refl _⟩, hK, hA, hZ, had⟩ s.heap [] _ hP hD va_S.rf hl
section MVX
variable {X : mj_XT} {l : Launch} {G : mj_GT} {own nm : String} {cc : ByteArray} {mL d : Nat} {ret : Option FieldType} {P P1 : mj_PT} {S : mj_ST} {n : Nat} {ad ad0 : Nat → Nat} {mc ms kc ks pc : Nat} {ls : List (Nat × Value)} {st : List Value} {I : mj_IT} {L : mj_LT} {Qn Qn' : Option Value → mj_PT → mj_IT → mj_LT → Prop} {Qx : String → mj_IT → mj_LT → Prop}
theorem mj_iretv {x : Int32} {ty : FieldType} (hR : mj_Rv X l G S n ad0 mc ms Qn) (hag : mj_ag ad0 ad) (hk : kc ≤ mc ∧ ks ≤ ms) (hr : ret = some ty) (hn : narrow ty (.int x) = .int x) (hd : decode cc pc = .ok (.ireturn, 1)) (hq : Qn (some (.int x)) P I L) : mj_W X G own nm cc mL d ret P S n ad kc ks pc ls ([.int x]) (I) (L) := by
  obtain ⟨p, l0, e, R, s, m, args, below, meth, c, Q, A⟩ := X
  obtain ⟨rfl, rfl, hRc, hRs⟩ := hR
  intro C H locs la hP hD hS hl
  have hlocks : meth.locks = false := C.2.2.2.2.2.2.1
  refine W.widen hk.1 hk.2 ?_
  exact W.zret C.1 C.2.1 (C.2.2.2.2.2.1.trans hr) hn (fun t ht hW => ⟨⟨some (.int x), P, I, L, ad, hag, rfl, hq, by rw [ht]; exact hP, hD⟩, hS.F ht⟩) hS.2.2 hd
theorem mj_iretxv {x : Int32} {ty : FieldType} (hR : mj_Rxv X l G P1 S n ad0 mc ms Qn Qx) (hag : mj_ag ad0 ad) (hk : kc ≤ mc ∧ ks ≤ ms) (hr : ret = some ty) (hn : narrow ty (.int x) = .int x) (hd : decode cc pc = .ok (.ireturn, 1)) (hq : Qn (some (.int x)) P I L) : mj_W X G own nm cc mL d ret P S n ad kc ks pc ls ([.int x]) (I) (L) := by
  obtain ⟨p, l0, e, R, s, m, args, below, meth, c, Q, A⟩ := X
  obtain ⟨rfl, rfl, hRc, hRs, hTb⟩ := hR
  intro C H locs la hP hD hS hl
  have hlocks : meth.locks = false := C.2.2.2.2.2.2.1
  refine W.widen hk.1 hk.2 (vx_ret ?_)
  exact W.zret C.1 C.2.1 (C.2.2.2.2.2.1.trans hr) hn (fun t ht hW => ⟨⟨some (.int x), P, I, L, ad, hag, rfl, hq, by rw [ht]; exact hP, hD⟩, hS.F ht⟩) hS.2.2 hd
theorem mj_vretv (hR : mj_Rv X l G S n ad0 mc ms Qn) (hag : mj_ag ad0 ad) (hk : kc ≤ mc ∧ ks ≤ ms) (hr : ret = none) (hd : decode cc pc = .ok (.return_, 1)) (hq : Qn (none) P I L) : mj_W X G own nm cc mL d ret P S n ad kc ks pc ls ([]) (I) (L) := by
  obtain ⟨p, l0, e, R, s, m, args, below, meth, c, Q, A⟩ := X
  obtain ⟨rfl, rfl, hRc, hRs⟩ := hR
  intro C H locs la hP hD hS hl
  have hlocks : meth.locks = false := C.2.2.2.2.2.2.1
  refine W.widen hk.1 hk.2 ?_
  exact W.vret C.1 C.2.1 (C.2.2.2.2.2.1.trans hr) (fun t ht hW => ⟨⟨none, P, I, L, ad, hag, rfl, hq, by rw [ht]; exact hP, hD⟩, hS.F ht⟩) hS.2.2 hd
theorem mj_vretxv (hR : mj_Rxv X l G P1 S n ad0 mc ms Qn Qx) (hag : mj_ag ad0 ad) (hk : kc ≤ mc ∧ ks ≤ ms) (hr : ret = none) (hd : decode cc pc = .ok (.return_, 1)) (hq : Qn (none) P I L) : mj_W X G own nm cc mL d ret P S n ad kc ks pc ls ([]) (I) (L) := by
  obtain ⟨p, l0, e, R, s, m, args, below, meth, c, Q, A⟩ := X
  obtain ⟨rfl, rfl, hRc, hRs, hTb⟩ := hR
  intro C H locs la hP hD hS hl
  have hlocks : meth.locks = false := C.2.2.2.2.2.2.1
  refine W.widen hk.1 hk.2 (vx_ret ?_)
  exact W.vret C.1 C.2.1 (C.2.2.2.2.2.1.trans hr) (fun t ht hW => ⟨⟨none, P, I, L, ad, hag, rfl, hq, by rw [ht]; exact hP, hD⟩, hS.F ht⟩) hS.2.2 hd
theorem mj_aretv {a : Nat} {t : String} (hR : mj_Rv X l G S n ad0 mc ms Qn) (hag : mj_ag ad0 ad) (hk : kc ≤ mc ∧ ks ≤ ms) (hr : ret = some (.object t)) (hd : decode cc pc = .ok (.areturn, 1)) (hq : Qn (some (.ref a)) P I L) : mj_W X G own nm cc mL d ret P S n ad kc ks pc ls ([.ref a]) (I) (L) := by
  obtain ⟨p, l0, e, R, s, m, args, below, meth, c, Q, A⟩ := X
  obtain ⟨rfl, rfl, hRc, hRs⟩ := hR
  intro C H locs la hP hD hS hl
  have hlocks : meth.locks = false := C.2.2.2.2.2.2.1
  refine W.widen hk.1 hk.2 ?_
  exact W.aret C.1 C.2.1 (C.2.2.2.2.2.1.trans hr) (Or.inl ⟨t, rfl⟩) (Or.inr ⟨ad a, rfl⟩) (fun t ht hW => ⟨⟨some (.ref a), P, I, L, ad, hag, rfl, hq, by rw [ht]; exact hP, hD⟩, hS.F ht⟩) hS.2.2 hd
theorem mj_aretxv {a : Nat} {t : String} (hR : mj_Rxv X l G P1 S n ad0 mc ms Qn Qx) (hag : mj_ag ad0 ad) (hk : kc ≤ mc ∧ ks ≤ ms) (hr : ret = some (.object t)) (hd : decode cc pc = .ok (.areturn, 1)) (hq : Qn (some (.ref a)) P I L) : mj_W X G own nm cc mL d ret P S n ad kc ks pc ls ([.ref a]) (I) (L) := by
  obtain ⟨p, l0, e, R, s, m, args, below, meth, c, Q, A⟩ := X
  obtain ⟨rfl, rfl, hRc, hRs, hTb⟩ := hR
  intro C H locs la hP hD hS hl
  have hlocks : meth.locks = false := C.2.2.2.2.2.2.1
  refine W.widen hk.1 hk.2 (vx_ret ?_)
  exact W.aret C.1 C.2.1 (C.2.2.2.2.2.1.trans hr) (Or.inl ⟨t, rfl⟩) (Or.inr ⟨ad a, rfl⟩) (fun t ht hW => ⟨⟨some (.ref a), P, I, L, ad, hag, rfl, hq, by rw [ht]; exact hP, hD⟩, hS.F ht⟩) hS.2.2 hd
/-- the cells' numbers dealt anew -/
theorem mj_ren (pi : Nat → Nat) (P0 : mj_PT) (I' : mj_IT) (hI : ∀ a, I' a = I (pi a)) (hpi : ∀ a, pi (pi a) = a) (hb : ∀ a, 0 < a ∧ a ≤ n → 0 < pi a ∧ pi a ≤ n) (hS0 : ∀ a, S (pi a) = S a) (hPP : ∀ a, 0 < a ∧ a ≤ n → ∀ k, k < 46 → P1 (pi a) k = pi (P0 a k)) (hz : ∀ a, pi a = 0 ↔ a = 0) (hfx : ∀ a, mj_mv a = false → pi a = a) (hkd : ∀ a, 0 < a ∧ a ≤ n → pi a ≠ a → (S a).1 = 1 ∨ S a = (0, 5)) (hls : ls.all (fun q => mj_fx q.2) = true) (hst : st.all mj_fx = true)
    (k : mj_W X G own nm cc mL d ret P0 S n (fun a => ad (pi a)) kc ks pc ls (st) (I') (L)) : mj_W X G own nm cc mL d ret P1 S n ad kc ks pc ls (st) (I) (L) := by
  obtain ⟨p, l0, e, R, s, m, args, below, meth, c, Q, A⟩ := X
  intro C H locs la hP hD hS hl
  have hag : mj_ag ad (fun a => ad (pi a)) := fun a ha => by show ad (pi a) = ad a; rw [hfx a ha]
  have nf46 : ∀ ci, mj_nf ci ≤ 46 := by
    intro ci
    rcases ci with _ | _ | _ | _ | _ | _ | _ | _ | _ | _ | ci <;> first | (show _ ≤ 46; decide) | (simp [mj_nf])
  have href : ∀ a, 0 < a ∧ a ≤ n → ∀ j, j < 46 → (if P0 a j = 0 then Value.null else .ref (ad (pi (P0 a j)))) = (if P1 (pi a) j = 0 then Value.null else .ref (ad (P1 (pi a) j))) := by
    intro a ha j hj
    rw [hPP a ha j hj]
    by_cases h0 : P0 a j = 0
    · simp only [h0, if_true, (hz 0).mpr rfl]
    · have h1 : ¬ pi (P0 a j) = 0 := fun z => h0 ((hz _).mp z)
      simp only [if_neg h0, if_neg h1]
  have hE : ∀ a, 0 < a ∧ a ≤ n → mj_E G (fun a => ad (pi a)) P0 S I' L a = mj_E G ad P1 S I L (pi a) := by
    intro a ha
    by_cases hpa : pi a = a
    · have hfv : ∀ ci, (List.range (mj_nf ci)).map (mj_fv (fun a => ad (pi a)) P0 I' L ci a) = (List.range (mj_nf ci)).map (mj_fv ad P1 I L ci (pi a)) := by
        intro ci
        apply List.map_congr_left
        intro j hj
        have hr := href a ha j (Nat.lt_of_lt_of_le (List.mem_range.mp hj) (nf46 ci))
        simp only [mj_fv, hI a]
        rw [hpa] at hr ⊢
        rw [hr]
      simp only [mj_E, hS0 a, hfv, hI a]
      rw [hpa]
    · rcases hkd a ha hpa with h1 | h1
      · obtain ⟨N, hN⟩ : ∃ N, S a = (1, N) := ⟨(S a).2, by rw [← h1]⟩
        rw [mj_E1 hN, mj_E1 ((hS0 a).trans hN), hI a]
      · rw [mj_E0 h1, mj_E0 ((hS0 a).trans h1)]
        refine congrArg (fun z => Sum.inr (5, z)) ?_
        apply List.map_congr_left
        intro j hj
        have hj2 := List.mem_range.mp hj
        have hr := href a ha j (Nat.lt_of_lt_of_le hj2 (nf46 5))
        have ht : mj_tc (mj_ft 5 j) = 0 ∨ mj_tc (mj_ft 5 j) = 2 := by
          have : ∀ j, j < mj_nf 5 → mj_tc (mj_ft 5 j) = 0 ∨ mj_tc (mj_ft 5 j) = 2 := by decide
          exact this j hj2
        rcases ht with ht | ht
        · simp only [mj_fv, ht, hI a]
        · simp only [mj_fv, ht]
          exact hr
  have hP2 : va_P G.1 mj_cl (mj_w G (fun a => ad (pi a)) P0 S n I' L) H := by
    intro i q hq
    obtain ⟨h1, h2⟩ := mj_w_get hq
    subst h2
    have hb1 := hb (i + 1) ⟨by omega, by omega⟩
    have h3 := hP (pi (i + 1) - 1) _ (mj_w_at hb1.1 hb1.2)
    rw [hE (i + 1) ⟨by omega, by omega⟩]
    exact h3
  have hD2 : va_D A (mj_w G (fun a => ad (pi a)) P0 S n I' L) := by
    refine ⟨fun i j x y hx hy hxy => ?_, fun i q hq => ?_⟩
    · obtain ⟨h1, h2⟩ := mj_w_get hx
      obtain ⟨h3, h4⟩ := mj_w_get hy
      subst h2; subst h4
      have hb1 := hb (i + 1) ⟨by omega, by omega⟩
      have hb2 := hb (j + 1) ⟨by omega, by omega⟩
      have h5 := hD.1 _ _ _ _ (mj_w_at hb1.1 hb1.2) (mj_w_at hb2.1 hb2.2) hxy
      have h6 : pi (i + 1) = pi (j + 1) := by omega
      have h7 := congrArg pi h6
      rw [hpi, hpi] at h7
      omega
    · obtain ⟨h1, h2⟩ := mj_w_get hq
      subst h2
      have hb1 := hb (i + 1) ⟨by omega, by omega⟩
      exact hD.2 (pi (i + 1) - 1) (ad (pi (i + 1)), mj_E G ad P1 S I L (pi (i + 1))) (mj_w_at hb1.1 hb1.2)
  have C2 : mj_C (p, l0, e, R, s, m, args, below, meth, c, Q, A) G own nm cc mL d ret (fun a => ad (pi a)) := by
    obtain ⟨c1, c2, c3, c4, c5, c6, c7, c8, c9, c10, c11, c12, c13⟩ := C
    exact ⟨c1, c2, c3, c4, c5, c6, c7, c8, c9, c10, c11, c12, fun i => (hag _ (mj_mv_st i)).trans (c13 i)⟩
  have k1 := k C2 H locs la hP2 hD2 hS (by rw [mj_fx_ls hag hls]; exact hl)
  rw [mj_fx_st hag hst] at k1
  exact k1
/-- a call behind which numbers may be dealt anew -/
theorem mj_callVv {ix np d' mL' ci b : Nat} {y : MethodName} {cc' : ByteArray} {ret' : Option FieldType} {s0 : List Value} (as : List Value) (hM : mj_Mv X.2.1 G y cc' mL' d' ret' 0 0 P S n (.ref b :: as) I L Qn') (hw : mj_cv own ix y cc' mL' ret' np ci) (hs : S b = (0, ci)) (hb : 0 < b ∧ b ≤ n) (hdd : d' + 1 ≤ d) (hnp : as.length = np) (hst : s0 = as.reverse ++ .ref b :: st) (hsm : (st.map fun v => v.category).sum ≤ 8) (hf : kc ≤ X.2.2.2.1.cells ∧ ks ≤ X.2.2.2.1.slots) (hd : decode cc pc = .ok (.invokevirtual ix, 3)) (hfl : ls.all (fun q => mj_fx q.2) = true) (hfs : st.all mj_fx = true)
    (k : ∀ (r : Option Value) (P' : mj_PT) (I' : mj_IT) (L' : mj_LT) (ad' : Nat → Nat), mj_ag ad ad' → Qn' r P' I' L' → mj_W X G own nm cc mL d ret P' S n ad' kc ks (pc + 3) ls (r.toList ++ st) (I') (L')) : mj_W X G own nm cc mL d ret P S n ad kc ks pc ls (s0) (I) (L) := by
  obtain ⟨p, l0, e, R, s, m, args, below, meth, c, Q, A⟩ := X
  intro C H locs la hP hD hS hl
  subst hst
  obtain ⟨hbl, hpre, hfree⟩ := mj_pre (as := .ref b :: as) C.2.2.2.2.2.2.2.2.2.1 C.2.2.2.2.2.2.2.2.2.2.1 C.2.2.2.2.2.2.2.2.2.2.2.1 C.2.2.2.2.2.2.2.2.2.2.2.2 hP hD hS
  have hr := va_runV (C := mj_Rn ci) (b := ad b) (As := as.map (mj_v ad)) (rest := st.map (mj_v ad)) (g := F0 m pc la ((as.reverse ++ .ref b :: st).map (mj_v ad))) (p := p) (e := e) (below := below) (meth := meth) (locs := locs) (cells := kc) (slots := ks) ⟨C.1, C.2.1, C.2.2.1, C.2.2.2.1, C.2.2.2.2.1⟩ (hM ad H.size) ⟨mj_callB C.2.2.2.2.1 hw.1 hdd C.2.2.2.2.2.2.2.2.1, C.2.2.2.2.1 _ hw.2.1, C.2.2.2.2.1 _ hw.2.2.1⟩ ⟨hbl, va_recv C.2.2.2.2.2.2.2.2.2.1 hP (mj_cl_at hw.2.2.2) (q0 := b - 1) (by rw [mj_w_at hb.1 hb.2, mj_E0 hs]), hpre⟩ rfl (by rw [List.length_map]; exact hnp) hl.1 (mj_rev ad as (.ref b :: st)) (mj_room hsm) hd hf
  intro T9 hT X9
  obtain ⟨v, st₀, t, T', L9, h0, X', hL, e1, e2, ⟨⟨r, P', I', L', ad', hag, hv, hq, hp, hd9⟩, hF⟩, stp⟩ := hr T9 hT X9
  cases hv
  obtain ⟨k1, k2, k3⟩ := vx_keep h0 e1 hS (fun q _ h => hfree q h) hfree hL hF
  have C2 : mj_C (p, l0, e, R, s, m, args, below, meth, c, Q, A) G own nm cc mL d ret ad' := by
    obtain ⟨c1, c2, c3, c4, c5, c6, c7, c8, c9, c10, c11, c12, c13⟩ := C
    exact ⟨c1, c2, c3, c4, c5, c6, c7, c8, c9, c10, c11, c12, fun i => (hag _ (mj_mv_st i)).trans (c13 i)⟩
  have kk := k r P' I' L' ad' hag hq C2 T'.heap (locs ++ L9) la (by rw [e1]; exact hp) (hd9.weaken (fun _ _ _ h => hfree _ h)) k3 (by rw [mj_fx_ls hag hfl]; exact hl)
  have e9 : (r.toList ++ st).map (mj_v ad') = (r.map (mj_v ad')).toList ++ st.map (mj_v ad) := by
    rw [List.map_append, mj_fx_st hag hfs]
    cases r <;> rfl
  rw [e9] at kk
  obtain ⟨t2, a1, b1⟩ := kk T' rfl X'
  exact ⟨t2, stp t2 a1, b1⟩
theorem mj_dummy : True := trivial
theorem mj_callVxv {ix np d' mL' ci b mc' ms' : Nat} {y : MethodName} {cc' : ByteArray} {ret' : Option FieldType} {s0 : List Value} {Qn9 : Option Value → mj_IT → mj_LT → Prop} {Qx9 : String → mj_IT → mj_LT → Prop} (as : List Value) (hR : mj_Rxv X l G P S n ad mc ms Qn Qx) (hM : mj_Mx l G y cc' mL' d' ret' mc' ms' P S n (.ref b :: as) I L Qn9 Qx9) (hw : mj_cv own ix y cc' mL' ret' np ci) (hs : S b = (0, ci)) (hb : 0 < b ∧ b ≤ n) (hdd : d' + 1 ≤ d) (hnp : as.length = np) (hst : s0 = as.reverse ++ .ref b :: st) (hsm : (st.map fun v => v.category).sum ≤ 8) (hf : kc + mc' ≤ mc ∧ ks + ms' ≤ ms) (hd : decode cc pc = .ok (.invokevirtual ix, 3))
    (kx : ∀ (E : String) (I' : mj_IT) (L' : mj_LT), Qx9 E I' L' → Qx E I' L')
    (k : ∀ (r : Option Value) (I' : mj_IT) (L' : mj_LT), Qn9 r I' L' → mj_W X G own nm cc mL d ret P S n ad (kc + mc') (ks + ms') (pc + 3) ls (r.toList ++ st) (I') (L')) : mj_W X G own nm cc mL d ret P S n ad kc ks pc ls (s0) (I) (L) := by
  obtain ⟨p, l0, e, R, s, m, args, below, meth, c, Q, A⟩ := X
  obtain ⟨rfl, rfl, hRc, hRs, hTb⟩ := hR
  intro C H locs la hP hD hS hl
  have hlocks : meth.locks = false := C.2.2.2.2.2.2.1
  subst hst
  obtain ⟨hbl, hpre, hfree⟩ := mj_pre (as := .ref b :: as) C.2.2.2.2.2.2.2.2.2.1 C.2.2.2.2.2.2.2.2.2.2.1 C.2.2.2.2.2.2.2.2.2.2.2.1 C.2.2.2.2.2.2.2.2.2.2.2.2 hP hD hS
  have hr := vx_runV (C := mj_Rn ci) (b := ad b) (As := as.map (mj_v ad)) (rest := st.map (mj_v ad)) (g := F0 m pc la ((as.reverse ++ .ref b :: st).map (mj_v ad))) (p := p) (e := e) (below := below) (meth := meth) (locs := locs) (cells := kc) (slots := ks) ⟨C.1, C.2.1, C.2.2.1, C.2.2.2.1, C.2.2.2.2.1⟩ (hM ad H.size) ⟨mj_callB C.2.2.2.2.1 hw.1 hdd C.2.2.2.2.2.2.2.2.1, C.2.2.2.2.1 _ hw.2.1, C.2.2.2.2.1 _ hw.2.2.1⟩ ⟨hbl, va_recv C.2.2.2.2.2.2.2.2.2.1 hP (mj_cl_at hw.2.2.2) (q0 := b - 1) (by rw [mj_w_at hb.1 hb.2, mj_E0 hs]), hpre⟩ rfl (by rw [List.length_map]; exact hnp) hl.1 (mj_rev ad as (.ref b :: st)) (mj_room hsm) hd ⟨by rw [hRc]; exact hf.1, by rw [hRs]; exact hf.2⟩
  intro T9 hT X9
  rcases hr T9 hT X9 with ⟨v, st₀, t, T', L9, h0, X', hL, e1, e2, ⟨⟨r, I', L', hv, hq, hp⟩, hF⟩, stp⟩ | ⟨q, st₀, t, T', L9, E, ce, h0, X', hL, e1, e2, ⟨I', L', hq, hp, hF⟩, hce, hcv, hcl, stp⟩
  · cases hv
    obtain ⟨k1, k2, k3⟩ := vx_keep h0 e1 hS (fun q _ h => hfree q h) hfree hL hF
    have kk := k r I' L' hq C T'.heap (locs ++ L9) la (by rw [e1]; exact hp) (mj_D hD) k3 hl
    have e9 : (r.toList ++ st).map (mj_v ad) = (r.map (mj_v ad)).toList ++ st.map (mj_v ad) := by cases r <;> rfl
    rw [e9] at kk
    obtain ⟨t2, a1, b1⟩ := kk T' rfl X'
    exact ⟨t2, stp t2 a1, b1⟩
  · obtain ⟨k1, k2, k3⟩ := vx_keep h0 e1 hS (fun q _ h => hfree q h) hfree hL hF
    have hP1 : va_P G.1 mj_cl (mj_w G ad P S n I' L') T'.heap := by rw [e1]; exact hp
    have ko : vx_W p l0 e R s m args below meth c T'.heap (locs ++ L9) (kc + mc') (ks + ms') (vx_MQ below (mj_Qv G ad S n A Qn) (mj_XC G ad P S n A Qx) args s mc ms A) (F0 m pc la (st.map (mj_v ad))) q :=
      vx_out (E := E) (ce := ce) (fun x hx => (hTb x hx).elim) hlocks (by rw [e1]; exact hce) hcv hcl (fun t9 ht9 _ => ⟨I', L', kx E I' L' hq, by rw [ht9]; exact hP1, k3.F ht9⟩) k3.2.2 hf.1 hf.2
    obtain ⟨t2, a1, b1⟩ := ko T' rfl X'
    exact ⟨t2, stp.trans a1, b1⟩
theorem mj_rxvc (hR : mj_Rxv X l G P S n ad0 mc ms Qn Qx) (h : kc ≤ mc ∧ ks ≤ ms) : kc ≤ X.2.2.2.1.cells ∧ ks ≤ X.2.2.2.1.slots := by
  obtain ⟨p, l0, e, R, s, m, args, below, meth, c, Q, A⟩ := X
  obtain ⟨rfl, rfl, hRc, hRs, hTb⟩ := hR
  exact ⟨by show kc ≤ R.cells; rw [hRc]; exact h.1, by show ks ≤ R.slots; rw [hRs]; exact h.2⟩
end MVX
/-- here and there -/
def mj_pis (a : Nat) : Nat := if a = 52 then 53 else if a = 53 then 52 else a
/-- program and draft -/
def mj_pip (a : Nat) : Nat := if 4 ≤ a ∧ a ≤ 14 then a + 14 else if 18 ≤ a ∧ a ≤ 28 then a - 14 else a
theorem mj_pis_2 (a : Nat) : mj_pis (mj_pis a) = a := by unfold mj_pis; split <;> (try split) <;> (try split) <;> omega
theorem mj_pip_2 (a : Nat) : mj_pip (mj_pip a) = a := by unfold mj_pip; split <;> (try split) <;> (try split) <;> omega
theorem mj_pis_b (a : Nat) (h : 0 < a ∧ a ≤ 98) : 0 < mj_pis a ∧ mj_pis a ≤ 98 := by unfold mj_pis; split <;> (try split) <;> omega
theorem mj_pip_b (a : Nat) (h : 0 < a ∧ a ≤ 98) : 0 < mj_pip a ∧ mj_pip a ≤ 98 := by unfold mj_pip; split <;> (try split) <;> omega
theorem mj_pis_z (a : Nat) : mj_pis a = 0 ↔ a = 0 := by unfold mj_pis; split <;> (try split) <;> omega
theorem mj_pip_z (a : Nat) : mj_pip a = 0 ↔ a = 0 := by unfold mj_pip; split <;> (try split) <;> omega
theorem mj_pis_f (a : Nat) (h : mj_mv a = false) : mj_pis a = a := by
  simp only [mj_mv, Bool.or_eq_false_iff, Bool.and_eq_false_iff, decide_eq_false_iff_not] at h
  unfold mj_pis; split <;> (try split) <;> omega
theorem mj_pip_f (a : Nat) (h : mj_mv a = false) : mj_pip a = a := by
  simp only [mj_mv, Bool.or_eq_false_iff, Bool.and_eq_false_iff, decide_eq_false_iff_not] at h
  unfold mj_pip; split <;> (try split) <;> omega
theorem mj_S0_big (a : Nat) (h : 98 < a) : mj_S0 a = (9, 0) := by
  unfold mj_S0
  rw [List.getD_eq_getElem?_getD, List.getElem?_eq_none (by show mj_St.length ≤ a; have : mj_St.length = 99 := rfl; omega), Option.getD_none]
theorem mj_pis_S (a : Nat) : mj_S0 (mj_pis a) = mj_S0 a := by
  by_cases h : a ≤ 98
  · exact (by decide +kernel : ∀ a, a < 99 → mj_S0 (mj_pis a) = mj_S0 a) a (by omega)
  · rw [show mj_pis a = a by unfold mj_pis; split <;> (try split) <;> omega]
theorem mj_pip_S (a : Nat) : mj_S0 (mj_pip a) = mj_S0 a := by
  by_cases h : a ≤ 98
  · exact (by decide +kernel : ∀ a, a < 99 → mj_S0 (mj_pip a) = mj_S0 a) a (by omega)
  · rw [show mj_pip a = a by unfold mj_pip; split <;> (try split) <;> omega]
/-- the references with here and there exchanged; with program and draft exchanged -/
def mj_Ps : mj_PT := va_up (va_up mj_P0 51 (va_up (mj_P0 51) 2 53)) 51 (va_up (va_up mj_P0 51 (va_up (mj_P0 51) 2 53) 51) 3 52)
def mj_Pd : mj_PT := va_up mj_P0 2 (va_up (mj_P0 2) 2 18)
def mj_Pp : mj_PT := va_up mj_Pd 1 (va_up (mj_Pd 1) 2 4)
theorem mj_Ps_P (a : Nat) (h : 0 < a ∧ a ≤ 98) (k : Nat) (hk : k < 46) : mj_Ps (mj_pis a) k = mj_pis (mj_P0 a k) := (by decide +kernel : ∀ a, a < 99 → ∀ k, k < 46 → mj_Ps (mj_pis a) k = mj_pis (mj_P0 a k)) a (by omega) k hk
theorem mj_Pp_P (a : Nat) (h : 0 < a ∧ a ≤ 98) (k : Nat) (hk : k < 46) : mj_Pp (mj_pip a) k = mj_pip (mj_P0 a k) := (by decide +kernel : ∀ a, a < 99 → ∀ k, k < 46 → mj_Pp (mj_pip a) k = mj_pip (mj_P0 a k)) a (by omega) k hk
theorem mj_pis_k (a : Nat) (h : 0 < a ∧ a ≤ 98) (hp : mj_pis a ≠ a) : (mj_S0 a).1 = 1 ∨ mj_S0 a = (0, 5) := (by decide +kernel : ∀ a, a < 99 → mj_pis a ≠ a → (mj_S0 a).1 = 1 ∨ mj_S0 a = (0, 5)) a (by omega) hp
theorem mj_pip_k (a : Nat) (h : 0 < a ∧ a ≤ 98) (hp : mj_pip a ≠ a) : (mj_S0 a).1 = 1 ∨ mj_S0 a = (0, 5) := (by decide +kernel : ∀ a, a < 99 → mj_pip a ≠ a → (mj_S0 a).1 = 1 ∨ mj_S0 a = (0, 5)) a (by omega) hp
theorem mj_pis_ag (ad : Nat → Nat) : mj_ag ad (fun a => ad (mj_pis a)) := fun a ha => by show ad (mj_pis a) = ad a; rw [mj_pis_f a ha]
theorem mj_pip_ag (ad : Nat → Nat) : mj_ag ad (fun a => ad (mj_pip a)) := fun a ha => by show ad (mj_pip a) = ad a; rw [mj_pip_f a ha]
set_option maxRecDepth 100000 in
theorem cmX8_exchange (l : Launch) (G : mj_GT) (I : mj_IT) (L : mj_LT) : mj_Mv l G yX8_exchange cX8_exchange 3 2 (some (.object "OddsSolver$Program")) 0 0 mj_P0 mj_S0 98 [.ref 2, .ref 18] I L (fun rv P2 I2 L2 => rv = some (.ref 4) ∧ P2 = mj_Pd ∧ I2 = I ∧ L2 = L) := by
  refine mj_inv RX8 "exchange" [(0, .ref 2), (1, .ref 18)] rfl rfl rfl (by decide) (Nat.le_of_ble_eq_true rfl) (fun X ad hR => ?_)
  refine mj_aload_n 0 dX8_exchange_0 rfl ?_
  refine mj_getP p0_2_2 (by decide) fl_X8_18 rfl s0_2 a0_2 dX8_exchange_1 ?_
  refine mj_astore_n [(2, .ref 4), (0, .ref 2), (1, .ref 18)] dX8_exchange_4 rfl (by decide) rfl ?_
  refine mj_aload_n 1 dX8_exchange_5 rfl ?_
  refine mj_aload_n 2 dX8_exchange_6 rfl ?_
  refine mj_putP (b := 18) (by decide) fl_X8_18 rfl rfl s0_2 a0_2 dX8_exchange_7 ?_
  refine mj_aload_n 0 dX8_exchange_10 rfl ?_
  exact mj_aretv hR mj_ag.rf ⟨Nat.le_refl _, Nat.le_refl _⟩ rfl dX8_exchange_11 ⟨rfl, rfl, rfl, rfl⟩
