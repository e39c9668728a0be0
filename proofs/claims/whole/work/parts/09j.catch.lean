/-! ===== methods that catch ===== -/
def mj_MW (l : Launch) (G : mj_GT) (y : MethodName) (cc : ByteArray) (mL d : Nat) (ret : Option FieldType) (hh : List (Nat × Nat × Nat × Nat)) (mc ms : Nat) (P : mj_PT) (S : mj_ST) (n : Nat) (as : List Value) (I : mj_IT) (L : mj_LT) (Qn : Option Value → mj_PT → mj_IT → mj_LT → Prop) : Prop :=
  ∀ (ad : Nat → Nat) (sz : Nat), Met l y (.codeWith y cc mL ret hh :: mj_tb) { frames := d, cells := mc, slots := ms, locals := 41 * d } (va_Pc (as.map (mj_v ad)) (mj_B G ad P S n I L sz)) (mj_Qv G ad S n (va_A (mj_w G ad P S n I L) sz) Qn) mc ms (va_A (mj_w G ad P S n I L) sz)
def mj_tbl (X : mj_XT) : List ExceptionTableEntry := X.2.2.2.2.2.2.2.2.2.1.exceptionTable.toList
theorem mj_inw {l : Launch} {G : mj_GT} {y : MethodName} {cc : ByteArray} {mL d : Nat} {ret : Option FieldType} {hh : List (Nat × Nat × Nat × Nat)} {mc ms : Nat} {P : mj_PT} {S : mj_ST} {n : Nat} {as : List Value} {I : mj_IT} {L : mj_LT} {Qn : Option Value → mj_PT → mj_IT → mj_LT → Prop} (own nm : String) (ls : List (Nat × Value)) (ho : y.cls = own) (hn : y.name = nm) (hls : lv_args 0 as = ls)
    (hy : plainName y.cls = true) (hlen : (lg_sl as).length ≤ mL) (k : ∀ (X : mj_XT) (ad : Nat → Nat), mj_Rv X l G S n ad mc ms Qn → mj_tbl X = tableOf hh → mj_W X G own nm cc mL d ret P S n ad 0 0 0 ls [] I L) : mj_MW l G y cc mL d ret hh mc ms P S n as I L Qn := by
  subst ho; subst hn; subst hls
  intro ad sz
  refine va_MetW (cc := cc) (maxL := mL) (ret := ret) (hh := hh) hy rfl ?_
  intro p e s m args below meth c s₁ B hml hv
  obtain ⟨rfl, hsz, hP, hK, hD0, hZ, had⟩ := hv
  have hts := atoms_spec (ws := .codeWith y cc mL ret hh :: mj_tb) B.pre
  have hown : s.vm.findClass y.cls = some m.cls := findClass_of_methodNamed B.named
  have htab : c.exceptionTable.toList = tableOf hh := vx_table (x := y) B (hts _ List.mem_cons_self)
  subst hsz
  have hD := hD0.self (sz := s.heap.size)
  generalize hAe : va_A (mj_w G ad P S n I L) s.heap.size = A at hD hZ ⊢
  have hA : ∀ q : Nat, s.heap.size ≤ q → A q := fun q h => by rw [← hAe]; exact Or.inr h
  have hl := lv_entry (as.map (mj_v ad)) (n := mL) (by rw [mj_sl]; exact hlen)
  rw [mj_args] at hl
  rw [lg_entry_eq]
  exact k (p, l, e, _, s, m, _, below, meth, c, _, A) ad ⟨rfl, rfl, rfl, rfl⟩ htab ⟨B.exec, B.bytes, hml, hown, fun w hw => hts w (List.mem_cons_of_mem _ hw), B.returns, B.notSynchronized, (name_of_methodNamed B.named B.method).1, ⟨Nat.le_refl _, Nat.le_refl _⟩, hK, hA, hZ, had⟩ s.heap [] _ hP hD va_S.rf hl
/-- how a throw of E at pc is answered: the row of the table, its three instructions, the answer -/
def mj_hd (own : String) (cc : ByteArray) (mL : Nat) (hh : List (Nat × Nat × Nat × Nat)) (pc : Nat) (E : String) (v : Int32) : Prop :=
  ∃ (pre : List ExceptionTableEntry) (x : ExceptionTableEntry) (suf : List ExceptionTableEntry) (name : String) (i ln : Nat) (z : Int), tableOf hh = pre ++ x :: suf ∧
    (∀ q ∈ pre, covers q pc = false ∨ (q.catchType ≠ 0 ∧ ∃ nm : String, Cond.classLink own q.catchType nm ∈ mj_tb ∧ (E, nm) ∈ mj_nc)) ∧ covers x pc = true ∧ x.catchType ≠ 0 ∧ Cond.classLink own x.catchType name ∈ mj_tb ∧ Cond.castable E name ∈ mj_nw ∧
    i < mL ∧ ((decode cc x.handlerPc = .ok (.astore i, 2) ∧ ln = 2) ∨ (∃ k : Fin 4, (k : Nat) = i ∧ decode cc x.handlerPc = .ok (.astore_n k, 1) ∧ ln = 1)) ∧ decode cc (x.handlerPc + ln) = .ok (.iconst z, 1) ∧ Int32.ofInt z = v ∧ decode cc (x.handlerPc + ln + 1) = .ok (.ireturn, 1)
section MCC
variable {X : mj_XT} {l : Launch} {G : mj_GT} {own nm : String} {cc : ByteArray} {mL d : Nat} {ret : Option FieldType} {P : mj_PT} {S : mj_ST} {n : Nat} {ad : Nat → Nat} {mc ms kc ks pc : Nat} {ls : List (Nat × Value)} {st : List Value} {I : mj_IT} {L : mj_LT} {Qn : Option Value → mj_PT → mj_IT → mj_LT → Prop}
theorem mj_caught {hh : List (Nat × Nat × Nat × Nat)} {p : Program} {e : Env} {R : Room} {s : State} {m : MethodId} {args : Array Value} {below : List Frame} {meth : Method} {c : Code} {A : Nat → Prop} {H : Heap} {locs : List Loc} {la : Array Slot} {rest : List Value} {E : String} {ce : Cell} {q : Addr} {v : Int32} {lv : List (Nat × Value)}
    (hx : p.tables.exec = Jvm.exec) (hb : c.code = cc) (hown : s.vm.findClass own = some m.cls) (hts : ∀ w ∈ mj_tb, w.before args s = true) (hret : meth.sig.returnType = some .int) (hlocks : meth.locks = false) (hnw : ∀ w ∈ mj_nw, va_Nw w s) (hnc : ∀ q ∈ mj_nc, va_Nc q.1 q.2 s) (hT : c.exceptionTable.toList = tableOf hh) (hl : lv_has la mL lv) (hcell : H[q]? = some ce) (hv : ce.vm = .none) (hcl : s.vm.findClass E = some ce.cls) (hh9 : mj_hd own cc mL hh pc E v) (hk : kc ≤ mc ∧ ks ≤ ms)
    (hend : ∀ t : State, t.heap = H → mj_Qv G ad S n A Qn args s (.returned (some (.int v))) t) (hf : ∀ z ∈ locs, A z.base) :
    vx_W p l e R s m args below meth c H locs kc ks (MQ below (mj_Qv G ad S n A Qn) args s mc ms A) (F0 m pc la rest) q := by
  obtain ⟨pre, x, suf, name, i, ln, z, h1, h2, h3, h4, h5, h6, h7, h8, h10, h11, h12⟩ := hh9
  refine vx_catch (E := E) (ce := ce) (name := name) hown pre x suf (hT.trans h1) (fun z9 hz9 => ?_) h3 h4 (hts _ h5) (va_tabs (mj_nw_on _ h6) rfl (hnw _ h6)) hcell hv hcl ?_
  · rcases h2 z9 hz9 with h | ⟨ha, nm9, hb9, hc9⟩
    · exact Or.inl h
    · exact Or.inr ⟨ha, nm9, hts _ hb9, hnc _ hc9⟩
  have fin : ∀ la' : Array Slot, W p l e R s m args below meth c H locs kc ks (MQ below (mj_Qv G ad S n A Qn) args s mc ms A) (F0 m (x.handlerPc + ln) la' []) := by
    intro la'
    refine lv_iconst hx hb h10 h11 ?_
    refine W.widen hk.1 hk.2 ?_
    exact W.zret hx hb hret rfl (fun t ht _ => hend t ht) hf h12
  rcases h8 with ⟨h8, rfl⟩ | ⟨k9, hk9, h8, rfl⟩
  · exact lv_astore hx hb h8 hl h7 rfl (fun la' _ => fin la')
  · exact lv_astore_n hx hb h8 hk9 hl h7 rfl (fun la' _ => fin la')
theorem mj_callC {ix np d' mL' ci b mc' ms' : Nat} {y : MethodName} {cc' : ByteArray} {ret' : Option FieldType} {s0 : List Value} {hh : List (Nat × Nat × Nat × Nat)} {Qn9 : Option Value → mj_IT → mj_LT → Prop} {Qx9 : String → mj_IT → mj_LT → Prop} (as : List Value) (hR : mj_Rv X l G S n ad mc ms Qn) (hTb : mj_tbl X = tableOf hh) (hM : mj_Mx l G y cc' mL' d' ret' mc' ms' P S n (.ref b :: as) I L Qn9 Qx9) (hw : mj_cv own ix y cc' mL' ret' np ci) (hs : S b = (0, ci)) (hb : 0 < b ∧ b ≤ n) (hdd : d' + 1 ≤ d) (hnp : as.length = np) (hst : s0 = as.reverse ++ .ref b :: st) (hsm : (st.map fun v => v.category).sum ≤ 8) (hf : kc + mc' ≤ mc ∧ ks + ms' ≤ ms) (hr9 : ret = some .int) (hd : decode cc pc = .ok (.invokevirtual ix, 3))
    (kx : ∀ (E : String) (I' : mj_IT) (L' : mj_LT), Qx9 E I' L' → ∃ v : Int32, mj_hd own cc mL hh pc E v ∧ Qn (some (.int v)) P I' L')
    (k : ∀ (r : Option Value) (I' : mj_IT) (L' : mj_LT), Qn9 r I' L' → mj_W X G own nm cc mL d ret P S n ad (kc + mc') (ks + ms') (pc + 3) ls (r.toList ++ st) (I') (L')) : mj_W X G own nm cc mL d ret P S n ad kc ks pc ls (s0) (I) (L) := by
  obtain ⟨p, l0, e, R, s, m, args, below, meth, c, Q, A⟩ := X
  obtain ⟨rfl, rfl, hRc, hRs⟩ := hR
  intro C H locs la hP hD hS hl
  have hlocks : meth.locks = false := C.2.2.2.2.2.2.1
  subst hst
  obtain ⟨hbl, hpre, hfree⟩ := mj_pre (as := .ref b :: as) C.2.2.2.2.2.2.2.2.2.1 C.2.2.2.2.2.2.2.2.2.2.1 C.2.2.2.2.2.2.2.2.2.2.2.1 C.2.2.2.2.2.2.2.2.2.2.2.2 hP hD hS
  have hr := vx_runV (C := mj_Rn ci) (b := ad b) (As := as.map (mj_v ad)) (rest := st.map (mj_v ad)) (g := F0 m pc la ((as.reverse ++ .ref b :: st).map (mj_v ad))) (p := p) (e := e) (below := below) (meth := meth) (locs := locs) (cells := kc) (slots := ks) ⟨C.1, C.2.1, C.2.2.1, C.2.2.2.1, C.2.2.2.2.1⟩ (hM ad H.size) ⟨mj_callB C.2.2.2.2.1 hw.1 hdd C.2.2.2.2.2.2.2.2.1, C.2.2.2.2.1 _ hw.2.1, C.2.2.2.2.1 _ hw.2.2.1⟩ ⟨hbl, va_recv C.2.2.2.2.2.2.2.2.2.1 hP (mj_cl_at hw.2.2.2) (q0 := b - 1) (by rw [mj_w_at hb.1 hb.2, mj_E0 hs]), hpre⟩ rfl (by rw [List.length_map]; exact hnp) hl.1 (mj_rev ad as (.ref b :: st)) (mj_room hsm) hd ⟨by rw [hRc]; exact hf.1, by rw [hRs]; exact hf.2⟩
  intro T9 hT X9
  rcases hr T9 hT X9 with ⟨v, st₀, t, T', L9, h0, X', hL, e1, e2, ⟨⟨r, I', L', hv, hq, hp⟩, hF⟩, stp⟩ | ⟨q, st₀, t, T', L9, E, ce, h0, X', hL, e1, e2, ⟨I', L', hq, hp, hF⟩, hce, hcv, hcl, stp⟩
  · cases hv
    obtain ⟨k1, k2, k3⟩ := vx_keep h0 e1 hS (fun q _ h => hfree q h) hfree hL hF
    have kk := k r I' L' hq C T'.heap (locs ++ L9) la (by rw [e1]; exact hp) (mj_D hD) k3 hl
    have e9 : (r.toList ++ st).map (mj_v ad) = (r.map (mj_v ad)).toList ++ st.map (mj_v ad) := by cases r <;> rfl
    rw [e9] at kk
    obtain ⟨t2, a1, b1⟩ := kk T' rfl X'
    exact ⟨t2, stp t2 a1, b1⟩
  · obtain ⟨k1, k2, k3⟩ := vx_keep h0 e1 hS (fun q _ h => hfree q h) hfree hL hF
    have hP1 : va_P G.1 mj_cl (mj_w G ad P S n I' L') T'.heap := by rw [e1]; exact hp
    obtain ⟨v9, hh9, hq9⟩ := kx E I' L' hq
    have ko := mj_caught (l := l0) (e := e) (R := R) (below := below) (G := G) (ad := ad) (S := S) (n := n) (Qn := Qn) (A := A) (rest := st.map (mj_v ad)) (kc := kc + mc') (ks := ks + ms') (mc := mc) (ms := ms) (v := v9) C.1 C.2.1 C.2.2.2.1 C.2.2.2.2.1 (C.2.2.2.2.2.1.trans hr9) hlocks C.2.2.2.2.2.2.2.2.2.2.2.1.2.2.1.2.1 C.2.2.2.2.2.2.2.2.2.2.2.1.2.2.1.2.2 hTb hl (by rw [e1]; exact hce) hcv hcl hh9 hf
      (fun t9 ht9 => ⟨⟨some (.int v9), P, I', L', ad, mj_ag.rf, rfl, hq9, by rw [ht9]; exact hP1, mj_D hD⟩, k3.F ht9⟩) k3.2.2
    obtain ⟨t2, a1, b1⟩ := ko T' rfl X'
    exact ⟨t2, stp.trans a1, b1⟩
theorem mj_callCv {ix np d' mL' ci b mc' ms' : Nat} {y : MethodName} {cc' : ByteArray} {ret' : Option FieldType} {s0 : List Value} {hh : List (Nat × Nat × Nat × Nat)} {Qn9 : Option Value → mj_PT → mj_IT → mj_LT → Prop} {Qx9 : String → mj_IT → mj_LT → Prop} (as : List Value) (hR : mj_Rv X l G S n ad mc ms Qn) (hTb : mj_tbl X = tableOf hh) (hM : mj_Mxv l G y cc' mL' d' ret' mc' ms' P S n (.ref b :: as) I L Qn9 Qx9) (hw : mj_cv own ix y cc' mL' ret' np ci) (hs : S b = (0, ci)) (hb : 0 < b ∧ b ≤ n) (hdd : d' + 1 ≤ d) (hnp : as.length = np) (hst : s0 = as.reverse ++ .ref b :: st) (hsm : (st.map fun v => v.category).sum ≤ 8) (hf : kc + mc' ≤ mc ∧ ks + ms' ≤ ms) (hr9 : ret = some .int) (hd : decode cc pc = .ok (.invokevirtual ix, 3)) (hfl : ls.all (fun q => mj_fx q.2) = true) (hfs : st.all mj_fx = true)
    (kx : ∀ (E : String) (I' : mj_IT) (L' : mj_LT), Qx9 E I' L' → ∃ v : Int32, mj_hd own cc mL hh pc E v ∧ Qn (some (.int v)) P I' L')
    (k : ∀ (r : Option Value) (P' : mj_PT) (I' : mj_IT) (L' : mj_LT) (ad' : Nat → Nat), mj_ag ad ad' → Qn9 r P' I' L' → mj_W X G own nm cc mL d ret P' S n ad' (kc + mc') (ks + ms') (pc + 3) ls (r.toList ++ st) (I') (L')) : mj_W X G own nm cc mL d ret P S n ad kc ks pc ls (s0) (I) (L) := by
  obtain ⟨p, l0, e, R, s, m, args, below, meth, c, Q, A⟩ := X
  obtain ⟨rfl, rfl, hRc, hRs⟩ := hR
  intro C H locs la hP hD hS hl
  have hlocks : meth.locks = false := C.2.2.2.2.2.2.1
  subst hst
  obtain ⟨hbl, hpre, hfree⟩ := mj_pre (as := .ref b :: as) C.2.2.2.2.2.2.2.2.2.1 C.2.2.2.2.2.2.2.2.2.2.1 C.2.2.2.2.2.2.2.2.2.2.2.1 C.2.2.2.2.2.2.2.2.2.2.2.2 hP hD hS
  have hr := vx_runV (C := mj_Rn ci) (b := ad b) (As := as.map (mj_v ad)) (rest := st.map (mj_v ad)) (g := F0 m pc la ((as.reverse ++ .ref b :: st).map (mj_v ad))) (p := p) (e := e) (below := below) (meth := meth) (locs := locs) (cells := kc) (slots := ks) ⟨C.1, C.2.1, C.2.2.1, C.2.2.2.1, C.2.2.2.2.1⟩ (hM ad H.size) ⟨mj_callB C.2.2.2.2.1 hw.1 hdd C.2.2.2.2.2.2.2.2.1, C.2.2.2.2.1 _ hw.2.1, C.2.2.2.2.1 _ hw.2.2.1⟩ ⟨hbl, va_recv C.2.2.2.2.2.2.2.2.2.1 hP (mj_cl_at hw.2.2.2) (q0 := b - 1) (by rw [mj_w_at hb.1 hb.2, mj_E0 hs]), hpre⟩ rfl (by rw [List.length_map]; exact hnp) hl.1 (mj_rev ad as (.ref b :: st)) (mj_room hsm) hd ⟨by rw [hRc]; exact hf.1, by rw [hRs]; exact hf.2⟩
  intro T9 hT X9
  rcases hr T9 hT X9 with ⟨v, st₀, t, T', L9, h0, X', hL, e1, e2, ⟨⟨r, P', I', L', ad', hag, hv, hq, hp, hd9⟩, hF⟩, stp⟩ | ⟨q, st₀, t, T', L9, E, ce, h0, X', hL, e1, e2, ⟨I', L', hq, hp, hF⟩, hce, hcv, hcl, stp⟩
  · cases hv
    obtain ⟨k1, k2, k3⟩ := vx_keep h0 e1 hS (fun q _ h => hfree q h) hfree hL hF
    have C2 : mj_C (p, l0, e, R, s, m, args, below, meth, c, MQ below (mj_Qv G ad S n A Qn) args s mc ms A, A) G own nm cc mL d ret ad' := by
      obtain ⟨c1, c2, c3, c4, c5, c6, c7, c8, c9, c10, c11, c12, c13⟩ := C
      exact ⟨c1, c2, c3, c4, c5, c6, c7, c8, c9, c10, c11, c12, fun i => (hag _ (mj_mv_st i)).trans (c13 i)⟩
    have kk := k r P' I' L' ad' hag hq C2 T'.heap (locs ++ L9) la (by rw [e1]; exact hp) (hd9.weaken (fun _ _ _ h => hfree _ h)) k3 (by rw [mj_fx_ls hag hfl]; exact hl)
    have e9 : (r.toList ++ st).map (mj_v ad') = (r.map (mj_v ad')).toList ++ st.map (mj_v ad) := by rw [List.map_append, mj_fx_st hag hfs]; cases r <;> rfl
    rw [e9] at kk
    obtain ⟨t2, a1, b1⟩ := kk T' rfl X'
    exact ⟨t2, stp t2 a1, b1⟩
  · obtain ⟨k1, k2, k3⟩ := vx_keep h0 e1 hS (fun q _ h => hfree q h) hfree hL hF
    have hP1 : va_P G.1 mj_cl (mj_w G ad P S n I' L') T'.heap := by rw [e1]; exact hp
    obtain ⟨v9, hh9, hq9⟩ := kx E I' L' hq
    have ko := mj_caught (l := l0) (e := e) (R := R) (below := below) (G := G) (ad := ad) (S := S) (n := n) (Qn := Qn) (A := A) (rest := st.map (mj_v ad)) (kc := kc + mc') (ks := ks + ms') (mc := mc) (ms := ms) (v := v9) C.1 C.2.1 C.2.2.2.1 C.2.2.2.2.1 (C.2.2.2.2.2.1.trans hr9) hlocks C.2.2.2.2.2.2.2.2.2.2.2.1.2.2.1.2.1 C.2.2.2.2.2.2.2.2.2.2.2.1.2.2.1.2.2 hTb hl (by rw [e1]; exact hce) hcv hcl hh9 hf
      (fun t9 ht9 => ⟨⟨some (.int v9), P, I', L', ad, mj_ag.rf, rfl, hq9, by rw [ht9]; exact hP1, mj_D hD⟩, k3.F ht9⟩) k3.2.2
    obtain ⟨t2, a1, b1⟩ := ko T' rfl X'
    exact ⟨t2, stp.trans a1, b1⟩
end MCC
/-- a wrapper's link -/
def mj_cW (own : String) (ix : Nat) (y : MethodName) (cc : ByteArray) (mL : Nat) (ret : Option FieldType) (hh : List (Nat × Nat × Nat × Nat)) (np : Nat) : Prop :=
  Cond.codeWith y cc mL ret hh ∈ mj_tb ∧ (∀ w ∈ va_wsS own ix y [], w ∈ mj_tb) ∧ (y.cls ≠ "java/lang/invoke/MethodHandle" ∧ y.cls ≠ "java/lang/invoke/VarHandle" ∧ (parseMethodDescriptor y.desc).map (fun d => d.parameters.length) = some np) ∧ mL ≤ 22
