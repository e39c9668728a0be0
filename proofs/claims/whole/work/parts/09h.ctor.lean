/-! ===== constructors: contracts that make cells ===== -/
def mj_Qc (G : mj_GT) (ad : Nat → Nat) (S : mj_ST) (n n' : Nat) (A : Nat → Prop) (Qn : mj_PT → mj_IT → mj_LT → Prop) : Array Value → State → Outcome → State → Prop := fun _ s o t =>
  (∃ (P : mj_PT) (I : mj_IT) (L : mj_LT) (ad' : Nat → Nat), mj_ex n ad ad' ∧ o = .returned none ∧ Qn P I L ∧ va_P G.1 mj_cl (mj_w G ad' P S n' I L) t.heap ∧ va_D A (mj_w G ad' P S n' I L)) ∧ va_F A s t
def mj_Mc (l : Launch) (G : mj_GT) (y : MethodName) (cc : ByteArray) (mL d mc ms : Nat) (P : mj_PT) (S : mj_ST) (n n' : Nat) (as : List Value) (I : mj_IT) (L : mj_LT) (Qn : mj_PT → mj_IT → mj_LT → Prop) : Prop :=
  ∀ (ad : Nat → Nat) (sz : Nat), Met l y (.code y cc mL none :: mj_tb) { frames := d, cells := mc, slots := ms, locals := 41 * d } (va_Pc (as.map (mj_v ad)) (mj_B G ad P S n I L sz)) (mj_Qc G ad S n n' (va_A (mj_w G ad P S n I L) sz) Qn) mc ms (va_A (mj_w G ad P S n I L) sz)
def mj_Rc (X : mj_XT) (l : Launch) (G : mj_GT) (S : mj_ST) (n n' : Nat) (ad : Nat → Nat) (mc ms : Nat) (Qn : mj_PT → mj_IT → mj_LT → Prop) : Prop := match X with
  | (_, l', _, R, s, _, args, below, _, _, Q, A) => l' = l ∧ Q = MQ below (mj_Qc G ad S n n' A Qn) args s mc ms A ∧ R.cells = mc ∧ R.slots = ms
theorem mj_inc {l : Launch} {G : mj_GT} {y : MethodName} {cc : ByteArray} {mL d mc ms : Nat} {P : mj_PT} {S : mj_ST} {n n' : Nat} {as : List Value} {I : mj_IT} {L : mj_LT} {Qn : mj_PT → mj_IT → mj_LT → Prop} (own nm : String) (ls : List (Nat × Value)) (ho : y.cls = own) (hn : y.name = nm) (hls : lv_args 0 as = ls)
    (hy : plainName y.cls = true) (hlen : (lg_sl as).length ≤ mL) (k : ∀ (X : mj_XT) (ad : Nat → Nat), mj_Rc X l G S n n' ad mc ms Qn → mj_W X G own nm cc mL d none P S n ad 0 0 0 ls [] I L) : mj_Mc l G y cc mL d mc ms P S n n' as I L Qn := by
  subst ho; subst hn; subst hls
  intro ad sz
  refine Met.ofW (cc := cc) (maxL := mL) (ret := none) hy rfl ?_
  intro p e s m args below meth c s₁ B hml hv
  obtain ⟨rfl, hsz, hP, hK, hD0, hZ, had⟩ := hv
  have hts := atoms_spec (ws := .code y cc mL none :: mj_tb) B.pre
  have hown : s.vm.findClass y.cls = some m.cls := findClass_of_methodNamed B.named
  subst hsz
  have hD := hD0.self (sz := s.heap.size)
  generalize hAe : va_A (mj_w G ad P S n I L) s.heap.size = A at hD hZ ⊢
  have hA : ∀ q : Nat, s.heap.size ≤ q → A q := fun q h => by rw [← hAe]; exact Or.inr h
  have hl := lv_entry (as.map (mj_v ad)) (n := mL) (by rw [mj_sl]; exact hlen)
  rw [mj_args] at hl
  rw [lg_entry_eq]
  exact k (p, l, e, _, s, m, _, below, meth, c, _, A) ad ⟨rfl, rfl, rfl, rfl⟩ ⟨B.exec, B.bytes, hml, hown, fun w hw => hts w (List.mem_cons_of_mem _ hw), B.returns, B.notSynchronized, (name_of_methodNamed B.named B.method).1, ⟨Nat.le_refl _, Nat.le_refl _⟩, hK, hA, hZ, had⟩ s.heap [] _ hP hD va_S.rf hl
theorem mj_rcc {X : mj_XT} {l : Launch} {G : mj_GT} {S : mj_ST} {n n' : Nat} {ad : Nat → Nat} {mc ms kc ks : Nat} {Qn : mj_PT → mj_IT → mj_LT → Prop} (hR : mj_Rc X l G S n n' ad mc ms Qn) (h : kc ≤ mc ∧ ks ≤ ms) : kc ≤ X.2.2.2.1.cells ∧ ks ≤ X.2.2.2.1.slots := by
  obtain ⟨p, l0, e, R, s, m, args, below, meth, c, Q, A⟩ := X
  obtain ⟨rfl, rfl, hRc, hRs⟩ := hR
  exact ⟨by show kc ≤ R.cells; rw [hRc]; exact h.1, by show ks ≤ R.slots; rw [hRs]; exact h.2⟩
def mj_cI (own : String) (ix : Nat) (y : MethodName) (cc : ByteArray) (mL np : Nat) (host : String) : Prop :=
  Cond.code y cc mL none ∈ mj_tb ∧ Cond.initialized y.cls ∈ mj_tb ∧ Cond.instanceMethod y ∈ mj_tb ∧ Cond.methodLinkNest own ix y host ∈ mj_nw ∧ (y.cls ≠ "java/lang/invoke/MethodHandle" ∧ y.cls ≠ "java/lang/invoke/VarHandle" ∧ (parseMethodDescriptor y.desc).map (fun d => d.parameters.length) = some np) ∧ mL ≤ 22 ∧ y.name = "<init>"
section MC
variable {X : mj_XT} {l : Launch} {G : mj_GT} {own nm : String} {cc : ByteArray} {mL d : Nat} {ret : Option FieldType} {P : mj_PT} {S : mj_ST} {n n' n0 : Nat} {ad ad0 : Nat → Nat} {mc ms kc ks pc : Nat} {ls : List (Nat × Value)} {st : List Value} {I : mj_IT} {L : mj_LT} {Qn Qn' : mj_PT → mj_IT → mj_LT → Prop}
theorem mj_vretc (hR : mj_Rc X l G S n0 n ad0 mc ms Qn) (hex : mj_ex n0 ad0 ad) (hk : kc ≤ mc ∧ ks ≤ ms) (hr : ret = none) (hd : decode cc pc = .ok (.return_, 1)) (hq : Qn P I L) : mj_W X G own nm cc mL d ret P S n ad kc ks pc ls ([]) (I) (L) := by
  obtain ⟨p, l0, e, R, s, m, args, below, meth, c, Q, A⟩ := X
  obtain ⟨rfl, rfl, hRc, hRs⟩ := hR
  intro C H locs la hP hD hS hl
  have hlocks : meth.locks = false := C.2.2.2.2.2.2.1
  refine W.widen hk.1 hk.2 ?_
  exact W.vret C.1 C.2.1 (C.2.2.2.2.2.1.trans hr) (fun t ht hW => ⟨⟨P, I, L, ad, hex, rfl, hq, by rw [ht]; exact hP, hD⟩, hS.F ht⟩) hS.2.2 hd
theorem mj_callIN {ix np d' mL' b mc' ms' : Nat} {y : MethodName} {cc' : ByteArray} {host : String} {s0 : List Value} (as : List Value) (hM : mj_Mc X.2.1 G y cc' mL' d' mc' ms' P S n n' (.ref b :: as) I L Qn') (hw : mj_cI own ix y cc' mL' np host) (hdd : d' + 1 ≤ d) (hnp : as.length = np) (hst : s0 = as.reverse ++ .ref b :: st) (hsm : (st.map fun v => v.category).sum ≤ 8) (hf : kc + mc' ≤ X.2.2.2.1.cells ∧ ks + ms' ≤ X.2.2.2.1.slots) (hd : decode cc pc = .ok (.invokespecial ix, 3)) (hfl : ls.all (fun q => mj_lv n q.2) = true) (hfs : st.all (mj_lv n) = true)
    (k : ∀ (P' : mj_PT) (I' : mj_IT) (L' : mj_LT) (ad' : Nat → Nat), mj_ex n ad ad' → Qn' P' I' L' → mj_W X G own nm cc mL d ret P' S n' ad' (kc + mc') (ks + ms') (pc + 3) ls (st) (I') (L')) : mj_W X G own nm cc mL d ret P S n ad kc ks pc ls (s0) (I) (L) := by
  obtain ⟨p, l0, e, R, s, m, args, below, meth, c, Q, A⟩ := X
  intro C H locs la hP hD hS hl
  subst hst
  obtain ⟨hbl, hpre, hfree⟩ := mj_pre (as := .ref b :: as) C.2.2.2.2.2.2.2.2.2.1 C.2.2.2.2.2.2.2.2.2.2.1 C.2.2.2.2.2.2.2.2.2.2.2.1 C.2.2.2.2.2.2.2.2.2.2.2.2 hP hD hS
  have hr0 := C.2.2.2.2.2.2.2.2.1
  have hml := hw.2.2.2.2.2.1
  have hr := va_runIN (b := ad b) (As := as.map (mj_v ad)) (rest := st.map (mj_v ad)) (g := F0 m pc la ((as.reverse ++ .ref b :: st).map (mj_v ad))) (p := p) (e := e) (below := below) (meth := meth) (locs := locs) (cells := kc) (slots := ks) ⟨C.1, C.2.1, C.2.2.1, C.2.2.2.1, C.2.2.2.2.1⟩ (hM ad H.size)
    ⟨va_cnB np C.2.2.2.2.1 (mj_goodIn (fun w h => by
      rcases List.mem_cons.mp h with h | h
      · rw [h]; exact hw.1
      · exact h)) rfl rfl rfl (C.2.2.2.2.2.2.2.2.2.2.2.1.2.2.1.2.1 _ hw.2.2.2.1) (C.2.2.2.2.1 _ hw.2.1) hw.2.2.2.2.1 ⟨by show d' + 1 ≤ R.frames; omega, by show 8 + (mL' + 11) + 41 * d' ≤ R.locals; omega⟩, hw.2.2.2.2.2.2, C.2.2.2.2.1 _ hw.2.2.1⟩ ⟨hbl, hpre⟩ rfl (by rw [List.length_map]; exact hnp) hl.1 (mj_rev ad as (.ref b :: st)) (mj_room hsm) hd hf
  intro T9 hT X9
  obtain ⟨v, st₀, t, T', L9, h0, X', hL, e1, e2, ⟨⟨P', I', L', ad', hag, hv, hq, hp, hd9⟩, hF⟩, stp⟩ := hr T9 hT X9
  cases hv
  obtain ⟨k1, k2, k3⟩ := vx_keep h0 e1 hS (fun q _ h => hfree q h) hfree hL hF
  have C2 : mj_C (p, l0, e, R, s, m, args, below, meth, c, Q, A) G own nm cc mL d ret ad' := by
    obtain ⟨c1, c2, c3, c4, c5, c6, c7, c8, c9, c10, c11, c12, c13⟩ := C
    exact ⟨c1, c2, c3, c4, c5, c6, c7, c8, c9, c10, c11, c12, fun i => (hag _ (Or.inr (by omega))).trans (c13 i)⟩
  have kk := k P' I' L' ad' hag hq C2 T'.heap (locs ++ L9) la (by rw [e1]; exact hp) (hd9.weaken (fun _ _ _ h => hfree _ h)) k3 (by rw [mj_lv_ls hag hfl]; exact hl)
  rw [mj_lv_st hag hfs] at kk
  obtain ⟨t2, a1, b1⟩ := kk T' rfl X'
  exact ⟨t2, stp t2 a1, b1⟩
end MC
theorem mj_in9_put {P : mj_PT} {n a k b : Nat} (h : mj_in9 P n) (hb : b ≤ n) : mj_in9 (va_up P a (va_up (P a) k b)) n := by
  intro x j
  by_cases hx : x = a
  · subst hx
    by_cases hj : j = k
    · simp [va_up, hj, hb]
    · simp [va_up, hj, h x j]
  · simp [va_up, hx, h x j]
theorem mj_in9_new {P : mj_PT} {n a : Nat} (h : mj_in9 P n) : mj_in9 (va_up P a (fun _ => 0)) n := by
  intro x j
  by_cases hx : x = a
  · simp [va_up, hx]
  · simp [va_up, hx, h x j]
theorem mj_in9_le {P : mj_PT} {n n' : Nat} (h : mj_in9 P n) (hn : n ≤ n') : mj_in9 P n' := fun x j => Nat.le_trans (h x j) hn
