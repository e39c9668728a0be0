/-! ===== methods that may throw ===== -/
def mj_XC (G : mj_GT) (ad : Nat → Nat) (P : mj_PT) (S : mj_ST) (n : Nat) (A : Nat → Prop) (Qx : String → mj_IT → mj_LT → Prop) : String → State → State → Prop := fun E s t =>
  ∃ (I : mj_IT) (L : mj_LT), Qx E I L ∧ va_P G.1 mj_cl (mj_w G ad P S n I L) t.heap ∧ va_F A s t
def mj_Mx (l : Launch) (G : mj_GT) (y : MethodName) (cc : ByteArray) (mL d : Nat) (ret : Option FieldType) (mc ms : Nat) (P : mj_PT) (S : mj_ST) (n : Nat) (as : List Value) (I : mj_IT) (L : mj_LT) (Qn : Option Value → mj_IT → mj_LT → Prop) (Qx : String → mj_IT → mj_LT → Prop) : Prop :=
  ∀ (ad : Nat → Nat) (sz : Nat), vx_Met l y (.code y cc mL ret :: mj_tb) { frames := d, cells := mc, slots := ms, locals := 41 * d } (va_Pc (as.map (mj_v ad)) (mj_B G ad P S n I L sz)) (mj_Q G ad P S n (va_A (mj_w G ad P S n I L) sz) Qn) (mj_XC G ad P S n (va_A (mj_w G ad P S n I L) sz) Qx) mc ms (va_A (mj_w G ad P S n I L) sz)
def mj_Rx (X : mj_XT) (l : Launch) (G : mj_GT) (P : mj_PT) (S : mj_ST) (n : Nat) (ad : Nat → Nat) (mc ms : Nat) (Qn : Option Value → mj_IT → mj_LT → Prop) (Qx : String → mj_IT → mj_LT → Prop) : Prop := match X with
  | (_, l', _, R, s, _, args, below, _, c, Q, A) => l' = l ∧ Q = vx_MQ below (mj_Q G ad P S n A Qn) (mj_XC G ad P S n A Qx) args s mc ms A ∧ R.cells = mc ∧ R.slots = ms ∧ ∀ x ∈ c.exceptionTable.toList, False
theorem mj_inx {l : Launch} {G : mj_GT} {y : MethodName} {cc : ByteArray} {mL d : Nat} {ret : Option FieldType} {mc ms : Nat} {P : mj_PT} {S : mj_ST} {n : Nat} {as : List Value} {I : mj_IT} {L : mj_LT} {Qn : Option Value → mj_IT → mj_LT → Prop} {Qx : String → mj_IT → mj_LT → Prop} (own nm : String) (ls : List (Nat × Value)) (ho : y.cls = own) (hn : y.name = nm) (hls : lv_args 0 as = ls)
    (hy : plainName y.cls = true) (hlen : (lg_sl as).length ≤ mL) (k : ∀ (X : mj_XT) (ad : Nat → Nat), mj_Rx X l G P S n ad mc ms Qn Qx → mj_W X G own nm cc mL d ret P S n ad 0 0 0 ls [] I L) : mj_Mx l G y cc mL d ret mc ms P S n as I L Qn Qx := by
  subst ho; subst hn; subst hls
  intro ad sz
  refine vx_ofW (cc := cc) (maxL := mL) (ret := ret) hy rfl ?_
  intro p e s m args below meth c s₁ B hml hTb hv
  obtain ⟨rfl, hsz, hP, hK, hD0, hZ, had⟩ := hv
  have hts := atoms_spec (ws := .code y cc mL ret :: mj_tb) B.pre
  have hown : s.vm.findClass y.cls = some m.cls := findClass_of_methodNamed B.named
  subst hsz
  have hD := hD0.self (sz := s.heap.size)
  generalize hAe : va_A (mj_w G ad P S n I L) s.heap.size = A at hD hZ ⊢
  have hA : ∀ q : Nat, s.heap.size ≤ q → A q := fun q h => by rw [← hAe]; exact Or.inr h
  have hl := lv_entry (as.map (mj_v ad)) (n := mL) (by rw [mj_sl]; exact hlen)
  rw [mj_args] at hl
  rw [lg_entry_eq]
  exact k (p, l, e, _, s, m, _, below, meth, c, _, A) ad ⟨rfl, rfl, rfl, rfl, hTb⟩ ⟨B.exec, B.bytes, hml, hown, fun w hw => hts w (List.mem_cons_of_mem _ hw), B.returns, B.notSynchronized, (name_of_methodNamed B.named B.method).1, ⟨Nat.le_refl _, Nat.le_refl _⟩, hK, hA, hZ, had⟩ s.heap [] _ hP hD va_S.rf hl
section MX
variable {X : mj_XT} {l : Launch} {G : mj_GT} {own nm : String} {cc : ByteArray} {mL d : Nat} {ret : Option FieldType} {P : mj_PT} {S : mj_ST} {n : Nat} {ad : Nat → Nat} {mc ms kc ks pc : Nat} {ls : List (Nat × Value)} {st : List Value} {I : mj_IT} {L : mj_LT} {Qn Qn' : Option Value → mj_IT → mj_LT → Prop} {Qx Qx' : String → mj_IT → mj_LT → Prop}
theorem mj_iretx {x : Int32} {ty : FieldType} (hR : mj_Rx X l G P S n ad mc ms Qn Qx) (hk : kc ≤ mc ∧ ks ≤ ms) (hr : ret = some ty) (hn : narrow ty (.int x) = .int x) (hd : decode cc pc = .ok (.ireturn, 1)) (hq : Qn (some (.int x)) I L) : mj_W X G own nm cc mL d ret P S n ad kc ks pc ls ([.int x]) (I) (L) := by
  obtain ⟨p, l0, e, R, s, m, args, below, meth, c, Q, A⟩ := X
  obtain ⟨rfl, rfl, hRc, hRs, hTb⟩ := hR
  intro C H locs la hP hD hS hl
  have hlocks : meth.locks = false := C.2.2.2.2.2.2.1
  refine W.widen hk.1 hk.2 (vx_ret ?_)
  exact W.zret C.1 C.2.1 (C.2.2.2.2.2.1.trans hr) hn (fun t ht hW => ⟨⟨some (.int x), I, L, rfl, hq, by rw [ht]; exact hP⟩, hS.F ht⟩) hS.2.2 hd
theorem mj_vretx (hR : mj_Rx X l G P S n ad mc ms Qn Qx) (hk : kc ≤ mc ∧ ks ≤ ms) (hr : ret = none) (hd : decode cc pc = .ok (.return_, 1)) (hq : Qn (none) I L) : mj_W X G own nm cc mL d ret P S n ad kc ks pc ls ([]) (I) (L) := by
  obtain ⟨p, l0, e, R, s, m, args, below, meth, c, Q, A⟩ := X
  obtain ⟨rfl, rfl, hRc, hRs, hTb⟩ := hR
  intro C H locs la hP hD hS hl
  have hlocks : meth.locks = false := C.2.2.2.2.2.2.1
  refine W.widen hk.1 hk.2 (vx_ret ?_)
  exact W.vret C.1 C.2.1 (C.2.2.2.2.2.1.trans hr) (fun t ht hW => ⟨⟨none, I, L, rfl, hq, by rw [ht]; exact hP⟩, hS.F ht⟩) hS.2.2 hd
theorem mj_lretx {x : Int64} (hR : mj_Rx X l G P S n ad mc ms Qn Qx) (hk : kc ≤ mc ∧ ks ≤ ms) (hr : ret = some .long) (hd : decode cc pc = .ok (.lreturn, 1)) (hq : Qn (some (.long x)) I L) : mj_W X G own nm cc mL d ret P S n ad kc ks pc ls ([.long x]) (I) (L) := by
  obtain ⟨p, l0, e, R, s, m, args, below, meth, c, Q, A⟩ := X
  obtain ⟨rfl, rfl, hRc, hRs, hTb⟩ := hR
  intro C H locs la hP hD hS hl
  have hlocks : meth.locks = false := C.2.2.2.2.2.2.1
  refine W.widen hk.1 hk.2 (vx_ret ?_)
  exact W.lret C.1 C.2.1 (C.2.2.2.2.2.1.trans hr) (fun t ht hW => ⟨⟨some (.long x), I, L, rfl, hq, by rw [ht]; exact hP⟩, hS.F ht⟩) hS.2.2 hd
/-- a call of a method that may throw, out of a method that catches nothing -/
theorem mj_callVx {ix np d' mL' ci b mc' ms' : Nat} {y : MethodName} {cc' : ByteArray} {ret' : Option FieldType} {s0 : List Value} (as : List Value) (hR : mj_Rx X l G P S n ad mc ms Qn Qx) (hM : mj_Mx l G y cc' mL' d' ret' mc' ms' P S n (.ref b :: as) I L Qn' Qx') (hw : mj_cv own ix y cc' mL' ret' np ci) (hs : S b = (0, ci)) (hb : 0 < b ∧ b ≤ n) (hdd : d' + 1 ≤ d) (hnp : as.length = np) (hst : s0 = as.reverse ++ .ref b :: st) (hsm : (st.map fun v => v.category).sum ≤ 8) (hf : kc + mc' ≤ mc ∧ ks + ms' ≤ ms) (hd : decode cc pc = .ok (.invokevirtual ix, 3))
    (kx : ∀ (E : String) (I' : mj_IT) (L' : mj_LT), Qx' E I' L' → Qx E I' L')
    (k : ∀ (r : Option Value) (I' : mj_IT) (L' : mj_LT), Qn' r I' L' → mj_W X G own nm cc mL d ret P S n ad (kc + mc') (ks + ms') (pc + 3) ls (r.toList ++ st) (I') (L')) : mj_W X G own nm cc mL d ret P S n ad kc ks pc ls (s0) (I) (L) := by
  obtain ⟨p, l0, e, R, s, m, args, below, meth, c, Q, A⟩ := X
  obtain ⟨rfl, rfl, hRc, hRs, hTb⟩ := hR
  intro C H locs la hP hD hS hl
  have hlocks : meth.locks = false := C.2.2.2.2.2.2.1
  subst hst
  obtain ⟨hbl, hpre, hfree⟩ := mj_pre (as := .ref b :: as) C.2.2.2.2.2.2.2.2.2.1 C.2.2.2.2.2.2.2.2.2.2.1 C.2.2.2.2.2.2.2.2.2.2.2.1 C.2.2.2.2.2.2.2.2.2.2.2.2 hP hD hS
  have hr := vx_runV (C := mj_Rn ci) (b := ad b) (As := as.map (mj_v ad)) (rest := st.map (mj_v ad)) (g := F0 m pc la ((as.reverse ++ .ref b :: st).map (mj_v ad))) (p := p) (e := e) (below := below) (meth := meth) (locs := locs) (cells := kc) (slots := ks) ⟨C.1, C.2.1, C.2.2.1, C.2.2.2.1, C.2.2.2.2.1⟩ (hM ad H.size) ⟨mj_callB C.2.2.2.2.1 hw.1 hdd C.2.2.2.2.2.2.2.2.1, C.2.2.2.2.1 _ hw.2.1, C.2.2.2.2.1 _ hw.2.2.1⟩ ⟨hbl, va_recv C.2.2.2.2.2.2.2.2.2.1 hP (mj_cl_at hw.2.2.2) (q0 := b - 1) (by rw [mj_w_at hb.1 hb.2, mj_E0 hs]), hpre⟩ rfl (by rw [List.length_map]; exact hnp) hl.1 (mj_rev ad as (.ref b :: st)) (mj_room hsm) hd ⟨by rw [hRc]; exact hf.1, by rw [hRs]; exact hf.2⟩
  intro T9 hT X9
  rcases hr T9 hT X9 with ⟨v, st₀, t, T', L9, h0, X', hL, e1, e2, ⟨⟨r, I', L', hv, hq, hp⟩, hF⟩, stp⟩ | ⟨q, st₀, t, T', L9, E, ce, h0, X', hL, e1, e2, ⟨I', L', hq, hp, hF⟩, hce, hcv, hcl, stp⟩
  · cases hv
    obtain ⟨k1, k2, k3⟩ := vx_keep h0 e1 hS (fun q _ h => hfree q h) hfree hL hF
    have kk := k r I' L' hq C T'.heap (locs ++ L9) la (by rw [e1]; exact hp) (mj_D hD) k3 hl
    have e9 : (r.toList ++ st).map (mj_v ad) = (r.map (mj_v ad)).toList ++ st.map (mj_v ad) := by cases r <;> rfl
    rw [e9] at kk
    obtain ⟨t2, a1, b1⟩ := kk T' rfl X'
    exact ⟨t2, stp t2 a1, b1⟩
  · obtain ⟨k1, k2, k3⟩ := vx_keep h0 e1 hS (fun q _ h => hfree q h) hfree hL hF
    have hP1 : va_P G.1 mj_cl (mj_w G ad P S n I' L') T'.heap := by rw [e1]; exact hp
    have ko : vx_W p l0 e R s m args below meth c T'.heap (locs ++ L9) (kc + mc') (ks + ms') (vx_MQ below (mj_Q G ad P S n A Qn) (mj_XC G ad P S n A Qx) args s mc ms A) (F0 m pc la (st.map (mj_v ad))) q :=
      vx_out (E := E) (ce := ce) (fun x hx => (hTb x hx).elim) hlocks (by rw [e1]; exact hce) hcv hcl (fun t9 ht9 _ => ⟨I', L', kx E I' L' hq, by rw [ht9]; exact hP1, k3.F ht9⟩) k3.2.2 hf.1 hf.2
    obtain ⟨t2, a1, b1⟩ := ko T' rfl X'
    exact ⟨t2, stp.trans a1, b1⟩
/-- throw new E("text") -/
theorem mj_throw {ik is ic j : Nat} {cls text : String} {names : List String} (hR : mj_Rx X l G P S n ad mc ms Qn Qx) (hlt : l.stackTraces = false) (hcls : Bundle.fit cls = true) (hnames : ∀ n ∈ names, Bundle.fit n = true) (hk : Cond.classLink own ik cls ∈ mj_tb) (hini : Cond.initialized cls ∈ mj_tb) (hstr : (own, is, text, j) ∈ mj_str) (hat : ∀ w ∈ vx_atS own ic cls names, w ∈ mj_tb ∨ w ∈ mj_nw)
    (d0 : decode cc pc = .ok (.new ik, 3)) (d3 : decode cc (pc + 3) = .ok (.dup, 1)) (d4 : decode cc (pc + 4) = .ok (.ldc_w is, 3)) (d6 : decode cc (pc + 7) = .ok (.invokespecial ic, 3)) (d9 : decode cc (pc + 10) = .ok (.athrow, 1))
    (hdd : names.length + 3 < d ∧ 8 + (13 * (names.length + 1) + 43) ≤ 41 * d) (hsm : (st.map fun v => v.category).sum ≤ 8) (hc : kc + 1 ≤ mc ∧ ks + 6 ≤ ms) (hq : Qx cls I L) : mj_W X G own nm cc mL d ret P S n ad kc ks pc ls (st) (I) (L) := by
  obtain ⟨p, l0, e, R, s, m, args, below, meth, c, Q, A⟩ := X
  obtain ⟨rfl, rfl, hRc, hRs, hTb⟩ := hR
  intro C H locs la hP hD hS hl
  have hlocks : meth.locks = false := C.2.2.2.2.2.2.1
  have hr := C.2.2.2.2.2.2.2.2.1
  have e2 : ((st.map (mj_v ad)).map fun v => v.category).sum ≤ 8 := by
    rw [List.map_map, show (fun v : Value => v.category) ∘ mj_v ad = fun v : Value => v.category from funext (mj_v_cat ad)]
    exact hsm
  have h1 : names.length + 3 < R.frames := by omega
  have h2 : ((st.map (mj_v ad)).map fun v => v.category).sum + (13 * (names.length + 1) + 43) ≤ R.locals := by omega
  refine vx_throwSW C.1 C.2.1 hlt (own := own) (cls := cls) (text := text) (names := names) (A := A) C.2.2.2.1 hcls hnames (C.2.2.2.2.1 _ hk) (C.2.2.2.2.1 _ hini) (C.2.2.2.2.2.2.2.2.2.2.2.1.2.2.1.1 _ hstr) (fun w hw => (hat w hw).elim (fun h => C.2.2.2.2.1 _ h) (fun h => va_Nw.use (mj_nw_on w h) (C.2.2.2.2.2.2.2.2.2.2.2.1.2.2.1.2.1 w h))) ?_ C.2.2.2.2.2.2.2.2.2.2.2.1.2.2.2.2.2.2.1 C.2.2.2.2.2.2.2.2.2.2.2.1.2.2.2.2.2.2.2 hS (hl.1.trans C.2.2.1.symm) d0 d3 d4 d6 d9 (fun x hx => (hTb x hx).elim) h1 h2 (by rw [hRc]; exact hc.1) (by rw [hRs]; exact hc.2) hlocks ?_ hS.2.2 hc.1 hc.2
  · intro w hw
    have hw' : w ∈ mj_tb ∨ w ∈ mj_nw := by
      rcases List.mem_cons.mp hw with h | h
      · rw [h]; exact Or.inl hk
      · rcases List.mem_cons.mp h with h | h
        · rw [h]; exact Or.inl hini
        · exact hat w h
    show (w.onTables || goodWord w) = true
    rcases hw' with h | h
    · rw [(List.mem_filter.mp h).2, Bool.or_true]
    · rw [mj_nw_on w h, Bool.true_or]
  · intro t _ hz hsame
    refine ⟨I, L, hq, hP.kept (fun k q hk => hsame q.1 (hP k q hk).lt), ?_⟩
    exact ⟨Nat.le_trans hS.1 hz, fun q h1 h2 => by rw [hsame q (Nat.lt_of_lt_of_le h1 hS.1)]; exact hS.2.1 q h1 h2⟩
theorem mj_rxc (hR : mj_Rx X l G P S n ad mc ms Qn Qx) (h : kc ≤ mc ∧ ks ≤ ms) : kc ≤ X.2.2.2.1.cells ∧ ks ≤ X.2.2.2.1.slots := by
  obtain ⟨p, l0, e, R, s, m, args, below, meth, c, Q, A⟩ := X
  obtain ⟨rfl, rfl, hRc, hRs, hTb⟩ := hR
  exact ⟨by show kc ≤ R.cells; rw [hRc]; exact h.1, by show ks ≤ R.slots; rw [hRs]; exact h.2⟩
theorem mj_cnv {s1 : List Value} {I2 : mj_IT} {L2 : mj_LT} (h1 : st = s1) (h2 : I = I2) (h3 : L = L2) (k : mj_W X G own nm cc mL d ret P S n ad kc ks pc ls s1 I2 L2) : mj_W X G own nm cc mL d ret P S n ad kc ks pc ls st I L := by subst h1; subst h2; subst h3; exact k
theorem mj_wid {kc' ks' : Nat} (h1 : kc ≤ kc') (h2 : ks ≤ ks') (k : mj_W X G own nm cc mL d ret P S n ad kc' ks' pc ls st I L) : mj_W X G own nm cc mL d ret P S n ad kc ks pc ls st I L := by
  obtain ⟨p, l0, e, R, s, m, args, below, meth, c, Q, A⟩ := X
  intro C H locs la hP hD hS hl
  exact W.widen h1 h2 (k C H locs la hP hD hS hl)
theorem mj_lsI {x v : Int32} {dflt : Int} {ps : Array (Int × Int)} {len : Nat} {off : Int} (tgt : Nat) (hx : x = v) (hd : decode cc pc = .ok (.lookupswitch dflt ps, len)) (hp : (ps.toList.zip (ps.toList.drop 1)).all (fun (a, next) => a.1 < next.1) = true) (ho : Op.lookupswitch.offset ps.toList dflt v.toInt = off) (ht : (pc : Int) + off = (tgt : Int)) (k : mj_W X G own nm cc mL d ret P S n ad kc ks tgt ls st I L) : mj_W X G own nm cc mL d ret P S n ad kc ks pc ls (.int x :: st) I L := by
  obtain ⟨p, l0, e, R, s, m, args, below, meth, c, Q, A⟩ := X
  intro C H locs la hP hD hS hl
  subst hx
  exact lv_lookup C.1 C.2.1 hd hp ho ht (k C H locs la hP hD hS hl)
theorem mj_lsO {x : Int32} {o0 o1 dflt : Int} {len : Nat} (tgt : Nat) (h0 : ¬ x = (0 : Int32)) (h1 : ¬ x = (1 : Int32)) (hd : decode cc pc = .ok (.lookupswitch dflt #[(0, o0), (1, o1)], len)) (ht : (pc : Int) + dflt = (tgt : Int)) (k : mj_W X G own nm cc mL d ret P S n ad kc ks tgt ls st I L) : mj_W X G own nm cc mL d ret P S n ad kc ks pc ls (.int x :: st) I L := by
  obtain ⟨p, l0, e, R, s, m, args, below, meth, c, Q, A⟩ := X
  intro C H locs la hP hD hS hl
  have e0 : ¬ (0 : Int) = x.toInt := fun z => h0 (Int32.toInt_inj.mp (z.symm.trans (by decide)))
  have e1 : ¬ (1 : Int) = x.toInt := fun z => h1 (Int32.toInt_inj.mp (z.symm.trans (by decide)))
  have e0' : ¬ x.toInt = 0 := fun z => e0 z.symm
  have e1' : ¬ x.toInt = 1 := fun z => e1 z.symm
  exact lv_lookup (off := dflt) C.1 C.2.1 hd (by simp) (by simp [Op.lookupswitch.offset, e0, e1, e0', e1']) ht (k C H locs la hP hD hS hl)
end MX
/-- the refusals' classes -/
def mj_en (k : Nat) : String := match k with
  | 0 => "java/util/NoSuchElementException"
  | 1 => "java/lang/IllegalArgumentException"
  | _ => "java/lang/IllegalStateException"
theorem xk_296 : Cond.classLink RX10 292 "java/util/NoSuchElementException" ∈ mj_tb := mj_seg_4 (j := 77) (by decide +kernel) rfl
theorem xi_296 : Cond.initialized "java/util/NoSuchElementException" ∈ mj_tb := mj_seg_1 (j := 20) (by decide +kernel) rfl
theorem xk_303 : Cond.classLink RX10 299 "java/lang/IllegalArgumentException" ∈ mj_tb := mj_seg_3 (j := 72) (by decide +kernel) rfl
theorem xi_303 : Cond.initialized "java/lang/IllegalArgumentException" ∈ mj_tb := mj_seg_1 (j := 14) (by decide +kernel) rfl
theorem xw_303 : ∀ w ∈ vx_atS RX10 303 "java/lang/IllegalArgumentException" ["java/lang/RuntimeException", "java/lang/Exception"], w ∈ mj_tb ∨ w ∈ mj_nw := by
  have h : (vx_atS RX10 303 "java/lang/IllegalArgumentException" ["java/lang/RuntimeException", "java/lang/Exception"]).all (fun w => (decide (w ∈ tables_1 ++ k2_sels lw_privs) && goodWord w) || decide (w ∈ mj_nw)) = true := by decide +kernel
  intro w hw
  have h1 := List.all_eq_true.mp h w hw
  simp only [Bool.or_eq_true, Bool.and_eq_true, decide_eq_true_eq] at h1
  rcases h1 with ⟨h1, h2⟩ | h1
  · exact Or.inl (List.mem_filter.mpr ⟨by rcases List.mem_append.mp h1 with h | h
                                          · exact List.mem_append_right _ h
                                          · exact List.mem_append_left _ h, h2⟩)
  · exact Or.inr h1
theorem xk_308 : Cond.classLink RX10 304 "java/lang/IllegalStateException" ∈ mj_tb := mj_seg_4 (j := 153) (by decide +kernel) rfl
theorem xi_308 : Cond.initialized "java/lang/IllegalStateException" ∈ mj_tb := mj_seg_1 (j := 24) (by decide +kernel) rfl
theorem xw_308 : ∀ w ∈ vx_atS RX10 308 "java/lang/IllegalStateException" ["java/lang/RuntimeException", "java/lang/Exception"], w ∈ mj_tb ∨ w ∈ mj_nw := by
  have h : (vx_atS RX10 308 "java/lang/IllegalStateException" ["java/lang/RuntimeException", "java/lang/Exception"]).all (fun w => (decide (w ∈ tables_1 ++ k2_sels lw_privs) && goodWord w) || decide (w ∈ mj_nw)) = true := by decide +kernel
  intro w hw
  have h1 := List.all_eq_true.mp h w hw
  simp only [Bool.or_eq_true, Bool.and_eq_true, decide_eq_true_eq] at h1
  rcases h1 with ⟨h1, h2⟩ | h1
  · exact Or.inl (List.mem_filter.mpr ⟨by rcases List.mem_append.mp h1 with h | h
                                          · exact List.mem_append_right _ h
                                          · exact List.mem_append_left _ h, h2⟩)
  · exact Or.inr h1
