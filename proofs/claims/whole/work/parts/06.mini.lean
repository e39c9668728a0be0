/-! ===== the mini world: cells by small numbers, int rows, long rows, references, shapes ===== -/
abbrev mj_IT : Type := Nat → Nat → Int32
abbrev mj_LT : Type := Nat → Nat → Int64
abbrev mj_PT : Type := Nat → Nat → Nat
abbrev mj_ST : Type := Nat → Nat × Nat
/-- what stays: the classes' numbers and slots; the array classes int, long, boolean, byte; where statics lie -/
abbrev mj_GT : Type := va_G × ClassId × ClassId × ClassId × ClassId × (Nat → Nat)
def mj_tys (G : mj_GT) : List (ClassId × FieldType) := [(G.2.1, .int), (G.2.2.1, .long), (G.2.2.2.1, .boolean), (G.2.2.2.2.1, .byte)]
def mj_v (ad : Nat → Nat) (v : Value) : Value := match v with
  | .ref a => .ref (ad a)
  | v => v
theorem mj_v_cat (ad : Nat → Nat) (v : Value) : (mj_v ad v).category = v.category := by cases v <;> rfl
def mj_fv (ad : Nat → Nat) (P : mj_PT) (I : mj_IT) (L : mj_LT) (ci a k : Nat) : Value := match mj_tc (mj_ft ci k) with
  | 0 => .int (I a k)
  | 1 => .long (L a k)
  | _ => if P a k = 0 then .null else .ref (ad (P a k))
def mj_E (G : mj_GT) (ad : Nat → Nat) (P : mj_PT) (S : mj_ST) (I : mj_IT) (L : mj_LT) (a : Nat) : va_E := match (S a).1 with
  | 0 => .inr ((S a).2, (List.range (mj_nf (S a).2)).map (mj_fv ad P I L (S a).2 a))
  | 1 => .inl (G.2.1, (S a).2, .inl (I a))
  | 2 => .inl (G.2.2.1, (S a).2, .inr (.inl (L a)))
  | 3 => .inl (G.2.2.2.1, (S a).2, .inl (I a))
  | _ => .inl (G.2.2.2.2.1, (S a).2, .inl (I a))
def mj_w (G : mj_GT) (ad : Nat → Nat) (P : mj_PT) (S : mj_ST) (n : Nat) (I : mj_IT) (L : mj_LT) : va_W := (List.range n).map (fun i => (ad (i + 1), mj_E G ad P S I L (i + 1)))
theorem mj_w_at {G : mj_GT} {ad : Nat → Nat} {P : mj_PT} {S : mj_ST} {n : Nat} {I : mj_IT} {L : mj_LT} {a : Nat} (h0 : 0 < a) (h : a ≤ n) : (mj_w G ad P S n I L)[a - 1]? = some (ad a, mj_E G ad P S I L a) := by
  obtain ⟨b, rfl⟩ : ∃ b, a = b + 1 := ⟨a - 1, by omega⟩
  have hb : b < n := by omega
  simp [mj_w, hb]
theorem mj_w_get {G : mj_GT} {ad : Nat → Nat} {P : mj_PT} {S : mj_ST} {n : Nat} {I : mj_IT} {L : mj_LT} {k : Nat} {q : Nat × va_E} (h : (mj_w G ad P S n I L)[k]? = some q) : k < n ∧ q = (ad (k + 1), mj_E G ad P S I L (k + 1)) := by
  have hk : k < n := by
    have := (List.getElem?_eq_some_iff.mp h).1
    simpa [mj_w] using this
  refine ⟨hk, ?_⟩
  simp [mj_w, hk] at h
  exact h.symm
theorem mj_w_set {G : mj_GT} {ad : Nat → Nat} {P P' : mj_PT} {S : mj_ST} {n : Nat} {I I' : mj_IT} {L L' : mj_LT} {a : Nat} {x : va_E} (h0 : 0 < a) (he : mj_E G ad P' S I' L' a = x) (ho : ∀ b, b ≠ a → mj_E G ad P' S I' L' b = mj_E G ad P S I L b) : (mj_w G ad P S n I L).set (a - 1) (ad a, x) = mj_w G ad P' S n I' L' := by
  apply List.ext_getElem?
  intro k
  by_cases hk : k < n
  · by_cases hka : k = a - 1
    · subst hka
      have e1 : a - 1 + 1 = a := by omega
      rw [List.getElem?_set_self (by simp [mj_w]; exact hk)]
      simp [mj_w, hk, e1, he]
    · rw [List.getElem?_set_ne (fun z => hka z.symm)]
      simp only [mj_w, List.getElem?_map, List.getElem?_range hk, Option.map_some]
      rw [ho (k + 1) (by omega)]
  · rw [List.getElem?_eq_none (by simp [mj_w]; omega), List.getElem?_eq_none (by simp [mj_w]; omega)]
theorem mj_D {A : Nat → Prop} {G : mj_GT} {ad : Nat → Nat} {P P' : mj_PT} {S S' : mj_ST} {n : Nat} {I I' : mj_IT} {L L' : mj_LT} (h : va_D A (mj_w G ad P S n I L)) : va_D A (mj_w G ad P' S' n I' L') := by
  have key : ∀ (k : Nat) (q : Nat × va_E), (mj_w G ad P' S' n I' L')[k]? = some q → (mj_w G ad P S n I L)[k]? = some (q.1, mj_E G ad P S I L (k + 1)) := by
    intro k q hq
    obtain ⟨h1, h2⟩ := mj_w_get hq
    subst h2
    simp [mj_w, h1]
  exact ⟨fun i j x y hx hy hxy => h.1 i j _ _ (key i x hx) (key j y hy) hxy, fun k q hq => h.2 k (q.1, mj_E G ad P S I L (k + 1)) (key k q hq)⟩
theorem mj_A {G : mj_GT} {ad : Nat → Nat} {P P' : mj_PT} {S S' : mj_ST} {n : Nat} {I I' : mj_IT} {L L' : mj_LT} {sz q : Nat} (h : va_A (mj_w G ad P S n I L) sz q) : va_A (mj_w G ad P' S' n I' L') sz q := by
  rcases h with ⟨k, e, h⟩ | h
  · obtain ⟨h1, h2⟩ := mj_w_get h
    refine Or.inl ⟨k, mj_E G ad P' S' I' L' (k + 1), ?_⟩
    have h3 : q = ad (k + 1) := congrArg Prod.fst h2
    simp [mj_w, h1, h3]
  · exact Or.inr h
/-- the static row of units -/
def mj_un : Nat → Int32 := fun k => match k with
  | 0 => 100000
  | 1 => 10000
  | 2 => 1000
  | 3 => 100
  | 4 => 10
  | _ => 1
/-- the words of the text and of the refusals: owner, entry, text, place among the statics -/
def mj_str : List (String × Nat × String × Nat) := [("OddsSolver$Reader", 97, "draw", 1), ("OddsSolver$Reader", 103, "flip", 2), ("OddsSolver$Reader", 105, "if", 3), ("OddsSolver$Reader", 107, "while", 4), ("OddsSolver$Reader", 109, "observe", 5), ("OddsSolver$Reader", 111, "stop", 6), ("OddsSolver$Reader", 170, "else", 7), ("OddsSolverModel", 104, "draw", 1), ("OddsSolverModel", 106, "flip", 2), ("OddsSolverModel", 108, "if", 3), ("OddsSolverModel", 110, "while", 4), ("OddsSolverModel", 112, "observe", 5), ("OddsSolverModel", 114, "stop", 6), ("OddsSolverModel", 155, "else", 7), ("OddsSolver", 294, "no such variable, statement, state or arc", 21), ("OddsSolver", 301, "a number that can't stand here", 22), ("OddsSolver", 306, "too many states, or none at the end", 23)]
def mj_stl : List Nat := [4, 4, 2, 5, 7, 4, 4]
def mj_stb : List (List Int32) := [[100, 114, 97, 119], [102, 108, 105, 112], [105, 102], [119, 104, 105, 108, 101], [111, 98, 115, 101, 114, 118, 101], [115, 116, 111, 112], [101, 108, 115, 101]]
/-- words that calls do not hand on by themselves -/
def mj_nw : List Cond := [.castable "java/util/NoSuchElementException" "java/util/NoSuchElementException", .castable "java/lang/IllegalArgumentException" "java/lang/IllegalArgumentException", .castable "java/lang/IllegalStateException" "java/lang/IllegalStateException", .declares ⟨"java/lang/RuntimeException", "<init>", "()V"⟩, .declares ⟨"java/lang/RuntimeException", "<init>", "(Ljava/lang/String;)V"⟩, .declares ⟨"java/lang/Exception", "<init>", "()V"⟩, .declares ⟨"java/lang/Exception", "<init>", "(Ljava/lang/String;)V"⟩, .declares ⟨"java/lang/Throwable", "<init>", "()V"⟩, .declares ⟨"java/lang/Throwable", "<init>", "(Ljava/lang/String;)V"⟩, .methodLinkNest "OddsSolver" 9 ⟨"OddsSolver$Reader", "<init>", "()V"⟩ "OddsSolver", .methodLinkNest "OddsSolver$Reader" 17 ⟨"OddsSolver$Program", "<init>", "()V"⟩ "OddsSolver", .methodLinkNest "OddsSolver" 22 ⟨"OddsSolver$Program", "<init>", "()V"⟩ "OddsSolver", .methodLinkNest "OddsSolver" 29 ⟨"OddsSolver$Changes", "<init>", "()V"⟩ "OddsSolver", .methodLinkNest "OddsSolver" 36 ⟨"OddsSolver$Graph", "<init>", "()V"⟩ "OddsSolver", .methodLinkNest "OddsSolver" 43 ⟨"OddsSolver$Equations", "<init>", "()V"⟩ "OddsSolver", .methodLinkNest "OddsSolver" 50 ⟨"OddsSolver$Spread", "<init>", "()V"⟩ "OddsSolver", .methodLinkNest "OddsSolver" 57 ⟨"OddsSolver$Lumps", "<init>", "()V"⟩ "OddsSolver", .methodLinkNest "OddsSolver" 64 ⟨"OddsSolver$Likeliest", "<init>", "()V"⟩ "OddsSolver"]
def mj_nc : List (String × String) := [("java/util/NoSuchElementException", "java/lang/IllegalArgumentException"), ("java/util/NoSuchElementException", "java/lang/IllegalStateException"), ("java/lang/IllegalArgumentException", "java/util/NoSuchElementException"), ("java/lang/IllegalArgumentException", "java/lang/IllegalStateException"), ("java/lang/IllegalStateException", "java/util/NoSuchElementException"), ("java/lang/IllegalStateException", "java/lang/IllegalArgumentException")]
def mj_SR (G : mj_GT) (U : State) : Prop := (∀ q ∈ mj_str, vk_R q.1 q.2.1 q.2.2.1 (G.2.2.2.2.2 q.2.2.2) U) ∧ (∀ w ∈ mj_nw, va_Nw w U) ∧ ∀ q ∈ mj_nc, va_Nc q.1 q.2 U
theorem mj_nw_on : ∀ w ∈ mj_nw, w.onTables = true := by decide
theorem mj_nw_warm {s U : State} (hW : s.WarmedH U.vm) (h : ∀ w ∈ mj_nw, va_Nw w s) : ∀ w ∈ mj_nw, va_Nw w U := by
  intro w hw
  have hz := h w hw
  simp only [mj_nw, List.mem_cons, List.not_mem_nil, or_false] at hw
  rcases hw with rfl | rfl | rfl | rfl | rfl | rfl | rfl | rfl | rfl | rfl | rfl | rfl | rfl | rfl | rfl | rfl | rfl | rfl
  · exact va_Nw.warmC hW hz
  · exact va_Nw.warmC hW hz
  · exact va_Nw.warmC hW hz
  · exact va_Nw.warmD hW hz
  · exact va_Nw.warmD hW hz
  · exact va_Nw.warmD hW hz
  · exact va_Nw.warmD hW hz
  · exact va_Nw.warmD hW hz
  · exact va_Nw.warmD hW hz
  · exact va_Nw.warmM hW hz
  · exact va_Nw.warmM hW hz
  · exact va_Nw.warmM hW hz
  · exact va_Nw.warmM hW hz
  · exact va_Nw.warmM hW hz
  · exact va_Nw.warmM hW hz
  · exact va_Nw.warmM hW hz
  · exact va_Nw.warmM hW hz
  · exact va_Nw.warmM hW hz
/-- what lies outside the world and stays -/
def mj_Z (G : mj_GT) (U : State) (H : Heap) (A : Nat → Prop) : Prop :=
  va_Z "OddsSolver$Digits" "UNITS" "[I" (.ref (G.2.2.2.2.2 0)) A U H ∧ va_T .int (G.2.2.2.2.2 0) 6 (fun j => .int (mj_un j)) A U H ∧ mj_SR G U ∧
  va_Z "java/lang/String" "COMPACT_STRINGS" "Z" (.int 1) A U H ∧ vk_S 7 mj_stl mj_stb (fun i => G.2.2.2.2.2 (1 + i)) (fun i => G.2.2.2.2.2 (11 + i)) A U H ∧
  (va_Z "jdk/internal/util/Preconditions" "SIOOBE_FORMATTER" "Ljava/util/function/BiFunction;" .null A U H ∨ va_Z "jdk/internal/util/Preconditions" "SIOOBE_FORMATTER" "Ljava/util/function/BiFunction;" (.ref (G.2.2.2.2.2 40)) A U H) ∧
  vx_Zq Bundle.tN "UNASSIGNED_STACK" Bundle.steD A U H ∧ vx_Zq Bundle.tN "SUPPRESSED_SENTINEL" Bundle.listD A U H
theorem mj_Z.to {G : mj_GT} {s U : State} {H H1 : Heap} {A B : Nat → Prop} (h : mj_Z G s H A) (hvm : s.vm.Alike U.vm) (hR : mj_SR G s → mj_SR G U) (hq : ∀ a : Nat, a < H.size → ¬ A a → H1[a]? = H[a]?) (hAB : ∀ q, B q → A q) : mj_Z G U H1 B := by
  obtain ⟨h1, h2, h3, h4, h5, h6, h7, h8⟩ := h
  refine ⟨((h1.moved hvm).kept hq).narrow hAB, ((h2.moved hvm).kept hq).narrow hAB, hR h3, ((h4.moved hvm).kept hq).narrow hAB, ((h5.moved hvm).kept hq).narrow hAB, ?_, ((h7.moved hvm).kept hq).narrow hAB, ((h8.moved hvm).kept hq).narrow hAB⟩
  rcases h6 with h6 | h6
  · exact Or.inl (((h6.moved hvm).kept hq).narrow hAB)
  · exact Or.inr (((h6.moved hvm).kept hq).narrow hAB)
theorem mj_SR.same {G : mj_GT} {s U : State} (hv : U.vm = s.vm) (h : mj_SR G s) : mj_SR G U :=
  ⟨fun q hq => (h.1 q hq).same hv, fun w hw => va_Nw.same (mj_nw_on w hw) hv.symm (h.2.1 w hw), fun q hq => va_Nc.moved (by rw [hv]; exact Vm.Alike.refl _) (h.2.2 q hq)⟩
theorem mj_SR.warm {G : mj_GT} {s U : State} (hW : s.WarmedH U.vm) (h : mj_SR G s) : mj_SR G U :=
  ⟨fun q hq => (h.1 q hq).warm hW, mj_nw_warm hW h.2.1, fun q hq => va_Nc.moved hW.alike (h.2.2 q hq)⟩
/-- the machine's side: program, launch, environment, room, entry state, method, arguments, frames below, method, code, aim, cells that may change -/
abbrev mj_XT : Type := Program × Launch × Env × Room × State × MethodId × Array Value × List Frame × Method × Code × (State → Prop) × (Nat → Prop)
def mj_C (X : mj_XT) (G : mj_GT) (own nm : String) (cc : ByteArray) (mL d : Nat) (ret : Option FieldType) (ad : Nat → Nat) : Prop := match X with
  | (p, _, _, R, s, m, args, _, meth, c, _, A) => p.tables.exec = Jvm.exec ∧ c.code = cc ∧ c.maxLocals = mL ∧ s.vm.findClass own = some m.cls ∧ (∀ w ∈ mj_tb, w.before args s = true) ∧ meth.sig.returnType = ret ∧ meth.locks = false ∧ meth.name = nm ∧ (d ≤ R.frames ∧ 41 * d ≤ R.locals) ∧ va_K G.1 mj_cl (mj_tys G) s ∧ (∀ q, s.heap.size ≤ q → A q) ∧ mj_Z G s s.heap A ∧ ∀ i, ad (2000 + i) = G.2.2.2.2.2 i
/-- the mini judgement: from pc with locals ls, stack st and the world's rows the machine comes to its aim -/
def mj_W (X : mj_XT) (G : mj_GT) (own nm : String) (cc : ByteArray) (mL d : Nat) (ret : Option FieldType) (P : mj_PT) (S : mj_ST) (n : Nat) (ad : Nat → Nat) (kc ks pc : Nat) (ls : List (Nat × Value)) (st : List Value) (I : mj_IT) (L : mj_LT) : Prop :=
  mj_C X G own nm cc mL d ret ad → match X with
  | (p, l, e, R, s, m, args, below, meth, c, Q, A) => ∀ (H : Heap) (locs : List Loc) (la : Array Slot), va_P G.1 mj_cl (mj_w G ad P S n I L) H → va_D A (mj_w G ad P S n I L) → va_S A s.heap H locs → lv_has la mL (ls.map (fun q => (q.1, mj_v ad q.2))) →
    W p l e R s m args below meth c H locs kc ks Q (F0 m pc la (st.map (mj_v ad)))
section MJ
variable {X : mj_XT} {G : mj_GT} {own nm : String} {cc : ByteArray} {mL d : Nat} {ret : Option FieldType} {P : mj_PT} {S : mj_ST} {n : Nat} {ad : Nat → Nat} {kc ks pc : Nat} {ls : List (Nat × Value)} {st : List Value} {I : mj_IT} {L : mj_LT}
theorem mj_iadd {x y : Int32} (hd : decode cc pc = .ok (.iadd, 1)) (k : mj_W X G own nm cc mL d ret P S n ad kc ks (pc + 1) ls (.int (x + y) :: st) (I) (L)) : mj_W X G own nm cc mL d ret P S n ad kc ks pc ls (.int y :: .int x :: st) (I) (L) := by
  obtain ⟨p, l, e, R, s, m, args, below, meth, c, Q, A⟩ := X
  intro C H locs la hP hD hS hl
  exact lv_iadd C.1 C.2.1 hd (k C H locs la hP hD hS hl)
theorem mj_isub {x y : Int32} (hd : decode cc pc = .ok (.isub, 1)) (k : mj_W X G own nm cc mL d ret P S n ad kc ks (pc + 1) ls (.int (x - y) :: st) (I) (L)) : mj_W X G own nm cc mL d ret P S n ad kc ks pc ls (.int y :: .int x :: st) (I) (L) := by
  obtain ⟨p, l, e, R, s, m, args, below, meth, c, Q, A⟩ := X
  intro C H locs la hP hD hS hl
  exact lv_isub C.1 C.2.1 hd (k C H locs la hP hD hS hl)
theorem mj_imul {x y : Int32} (hd : decode cc pc = .ok (.imul, 1)) (k : mj_W X G own nm cc mL d ret P S n ad kc ks (pc + 1) ls (.int (x * y) :: st) (I) (L)) : mj_W X G own nm cc mL d ret P S n ad kc ks pc ls (.int y :: .int x :: st) (I) (L) := by
  obtain ⟨p, l, e, R, s, m, args, below, meth, c, Q, A⟩ := X
  intro C H locs la hP hD hS hl
  exact lv_imul C.1 C.2.1 hd (k C H locs la hP hD hS hl)
theorem mj_iand {x y : Int32} (hd : decode cc pc = .ok (.iand, 1)) (k : mj_W X G own nm cc mL d ret P S n ad kc ks (pc + 1) ls (.int (x &&& y) :: st) (I) (L)) : mj_W X G own nm cc mL d ret P S n ad kc ks pc ls (.int y :: .int x :: st) (I) (L) := by
  obtain ⟨p, l, e, R, s, m, args, below, meth, c, Q, A⟩ := X
  intro C H locs la hP hD hS hl
  exact lv_iand C.1 C.2.1 hd (k C H locs la hP hD hS hl)
theorem mj_ior {x y : Int32} (hd : decode cc pc = .ok (.ior, 1)) (k : mj_W X G own nm cc mL d ret P S n ad kc ks (pc + 1) ls (.int (x ||| y) :: st) (I) (L)) : mj_W X G own nm cc mL d ret P S n ad kc ks pc ls (.int y :: .int x :: st) (I) (L) := by
  obtain ⟨p, l, e, R, s, m, args, below, meth, c, Q, A⟩ := X
  intro C H locs la hP hD hS hl
  exact lv_ior C.1 C.2.1 hd (k C H locs la hP hD hS hl)
theorem mj_ixor {x y : Int32} (hd : decode cc pc = .ok (.ixor, 1)) (k : mj_W X G own nm cc mL d ret P S n ad kc ks (pc + 1) ls (.int (x ^^^ y) :: st) (I) (L)) : mj_W X G own nm cc mL d ret P S n ad kc ks pc ls (.int y :: .int x :: st) (I) (L) := by
  obtain ⟨p, l, e, R, s, m, args, below, meth, c, Q, A⟩ := X
  intro C H locs la hP hD hS hl
  exact lv_ixor C.1 C.2.1 hd (k C H locs la hP hD hS hl)
theorem mj_ishr {x y : Int32} (hd : decode cc pc = .ok (.ishr, 1)) (k : mj_W X G own nm cc mL d ret P S n ad kc ks (pc + 1) ls (.int (x >>> (y &&& 31)) :: st) (I) (L)) : mj_W X G own nm cc mL d ret P S n ad kc ks pc ls (.int y :: .int x :: st) (I) (L) := by
  obtain ⟨p, l, e, R, s, m, args, below, meth, c, Q, A⟩ := X
  intro C H locs la hP hD hS hl
  exact lv_ishr C.1 C.2.1 hd (k C H locs la hP hD hS hl)
theorem mj_idiv {x y : Int32} (hd : decode cc pc = .ok (.idiv, 1)) (hn : ¬ y = 0) (k : mj_W X G own nm cc mL d ret P S n ad kc ks (pc + 1) ls (.int (x / y) :: st) (I) (L)) : mj_W X G own nm cc mL d ret P S n ad kc ks pc ls (.int y :: .int x :: st) (I) (L) := by
  obtain ⟨p, l, e, R, s, m, args, below, meth, c, Q, A⟩ := X
  intro C H locs la hP hD hS hl
  exact lv_idiv C.1 C.2.1 hd hn (k C H locs la hP hD hS hl)
theorem mj_irem {x y : Int32} (hd : decode cc pc = .ok (.irem, 1)) (hn : ¬ y = 0) (k : mj_W X G own nm cc mL d ret P S n ad kc ks (pc + 1) ls (.int (x - x / y * y) :: st) (I) (L)) : mj_W X G own nm cc mL d ret P S n ad kc ks pc ls (.int y :: .int x :: st) (I) (L) := by
  obtain ⟨p, l, e, R, s, m, args, below, meth, c, Q, A⟩ := X
  intro C H locs la hP hD hS hl
  exact lv_irem C.1 C.2.1 hd hn (k C H locs la hP hD hS hl)
theorem mj_ladd {x y : Int64} (hd : decode cc pc = .ok (.ladd, 1)) (k : mj_W X G own nm cc mL d ret P S n ad kc ks (pc + 1) ls (.long (x + y) :: st) (I) (L)) : mj_W X G own nm cc mL d ret P S n ad kc ks pc ls (.long y :: .long x :: st) (I) (L) := by
  obtain ⟨p, l, e, R, s, m, args, below, meth, c, Q, A⟩ := X
  intro C H locs la hP hD hS hl
  exact lv_ladd C.1 C.2.1 hd (k C H locs la hP hD hS hl)
theorem mj_lsub {x y : Int64} (hd : decode cc pc = .ok (.lsub, 1)) (k : mj_W X G own nm cc mL d ret P S n ad kc ks (pc + 1) ls (.long (x - y) :: st) (I) (L)) : mj_W X G own nm cc mL d ret P S n ad kc ks pc ls (.long y :: .long x :: st) (I) (L) := by
  obtain ⟨p, l, e, R, s, m, args, below, meth, c, Q, A⟩ := X
  intro C H locs la hP hD hS hl
  exact lv_lsub C.1 C.2.1 hd (k C H locs la hP hD hS hl)
theorem mj_lmul {x y : Int64} (hd : decode cc pc = .ok (.lmul, 1)) (k : mj_W X G own nm cc mL d ret P S n ad kc ks (pc + 1) ls (.long (x * y) :: st) (I) (L)) : mj_W X G own nm cc mL d ret P S n ad kc ks pc ls (.long y :: .long x :: st) (I) (L) := by
  obtain ⟨p, l, e, R, s, m, args, below, meth, c, Q, A⟩ := X
  intro C H locs la hP hD hS hl
  exact lv_lmul C.1 C.2.1 hd (k C H locs la hP hD hS hl)
theorem mj_ldiv {x y : Int64} (hd : decode cc pc = .ok (.ldiv, 1)) (hn : ¬ y = 0) (k : mj_W X G own nm cc mL d ret P S n ad kc ks (pc + 1) ls (.long (x / y) :: st) (I) (L)) : mj_W X G own nm cc mL d ret P S n ad kc ks pc ls (.long y :: .long x :: st) (I) (L) := by
  obtain ⟨p, l, e, R, s, m, args, below, meth, c, Q, A⟩ := X
  intro C H locs la hP hD hS hl
  exact lv_ldiv C.1 C.2.1 hd hn (k C H locs la hP hD hS hl)
theorem mj_lrem {x y : Int64} (hd : decode cc pc = .ok (.lrem, 1)) (hn : ¬ y = 0) (k : mj_W X G own nm cc mL d ret P S n ad kc ks (pc + 1) ls (.long (x - x / y * y) :: st) (I) (L)) : mj_W X G own nm cc mL d ret P S n ad kc ks pc ls (.long y :: .long x :: st) (I) (L) := by
  obtain ⟨p, l, e, R, s, m, args, below, meth, c, Q, A⟩ := X
  intro C H locs la hP hD hS hl
  exact lv_lrem C.1 C.2.1 hd hn (k C H locs la hP hD hS hl)
theorem mj_i2l {x : Int32} (hd : decode cc pc = .ok (.i2l, 1)) (k : mj_W X G own nm cc mL d ret P S n ad kc ks (pc + 1) ls (.long x.toInt64 :: st) (I) (L)) : mj_W X G own nm cc mL d ret P S n ad kc ks pc ls (.int x :: st) (I) (L) := by
  obtain ⟨p, l, e, R, s, m, args, below, meth, c, Q, A⟩ := X
  intro C H locs la hP hD hS hl
  exact lv_i2l C.1 C.2.1 hd rfl (k C H locs la hP hD hS hl)
theorem mj_l2i {x : Int64} (hd : decode cc pc = .ok (.l2i, 1)) (k : mj_W X G own nm cc mL d ret P S n ad kc ks (pc + 1) ls (.int x.toInt32 :: st) (I) (L)) : mj_W X G own nm cc mL d ret P S n ad kc ks pc ls (.long x :: st) (I) (L) := by
  obtain ⟨p, l, e, R, s, m, args, below, meth, c, Q, A⟩ := X
  intro C H locs la hP hD hS hl
  exact lv_l2i C.1 C.2.1 hd rfl (k C H locs la hP hD hS hl)
theorem mj_i2b {x : Int32} (hd : decode cc pc = .ok (.i2b, 1)) (k : mj_W X G own nm cc mL d ret P S n ad kc ks (pc + 1) ls (.int x.toInt8.toInt32 :: st) (I) (L)) : mj_W X G own nm cc mL d ret P S n ad kc ks pc ls (.int x :: st) (I) (L) := by
  obtain ⟨p, l, e, R, s, m, args, below, meth, c, Q, A⟩ := X
  intro C H locs la hP hD hS hl
  exact lv_i2b C.1 C.2.1 hd rfl (k C H locs la hP hD hS hl)
theorem mj_iushr {x y : Int32} (hd : decode cc pc = .ok (.iushr, 1)) (k : mj_W X G own nm cc mL d ret P S n ad kc ks (pc + 1) ls (.int ((x.toUInt32 >>> (y.toUInt32 &&& Int32.toUInt32 31)).toInt32) :: st) (I) (L)) : mj_W X G own nm cc mL d ret P S n ad kc ks pc ls (.int y :: .int x :: st) (I) (L) := by
  obtain ⟨p, l, e, R, s, m, args, below, meth, c, Q, A⟩ := X
  intro C H locs la hP hD hS hl
  exact lv_iushr C.1 C.2.1 hd rfl (k C H locs la hP hD hS hl)
theorem mj_iconst {z : Int} {v : Int32} (hd : decode cc pc = .ok (.iconst z, 1)) (hv : Int32.ofInt z = v) (k : mj_W X G own nm cc mL d ret P S n ad kc ks (pc + 1) ls (.int v :: st) (I) (L)) : mj_W X G own nm cc mL d ret P S n ad kc ks pc ls (st) (I) (L) := by
  obtain ⟨p, l, e, R, s, m, args, below, meth, c, Q, A⟩ := X
  intro C H locs la hP hD hS hl
  exact lv_iconst C.1 C.2.1 hd hv (k C H locs la hP hD hS hl)
theorem mj_bipush {z : Int} {v : Int32} (hd : decode cc pc = .ok (.bipush z, 2)) (hv : (Int8.ofInt z).toInt32 = v) (k : mj_W X G own nm cc mL d ret P S n ad kc ks (pc + 2) ls (.int v :: st) (I) (L)) : mj_W X G own nm cc mL d ret P S n ad kc ks pc ls (st) (I) (L) := by
  obtain ⟨p, l, e, R, s, m, args, below, meth, c, Q, A⟩ := X
  intro C H locs la hP hD hS hl
  exact lv_bipush C.1 C.2.1 hd hv (k C H locs la hP hD hS hl)
theorem mj_sipush {z : Int} {v : Int32} (hd : decode cc pc = .ok (.sipush z, 3)) (hv : (Int16.ofInt z).toInt32 = v) (k : mj_W X G own nm cc mL d ret P S n ad kc ks (pc + 3) ls (.int v :: st) (I) (L)) : mj_W X G own nm cc mL d ret P S n ad kc ks pc ls (st) (I) (L) := by
  obtain ⟨p, l, e, R, s, m, args, below, meth, c, Q, A⟩ := X
  intro C H locs la hP hD hS hl
  exact lv_sipush C.1 C.2.1 hd hv (k C H locs la hP hD hS hl)
theorem mj_lconst {z : Fin 2} {v : Int64} (hd : decode cc pc = .ok (.lconst z, 1)) (hv : Int64.ofNat (z : Nat) = v) (k : mj_W X G own nm cc mL d ret P S n ad kc ks (pc + 1) ls (.long v :: st) (I) (L)) : mj_W X G own nm cc mL d ret P S n ad kc ks pc ls (st) (I) (L) := by
  obtain ⟨p, l, e, R, s, m, args, below, meth, c, Q, A⟩ := X
  intro C H locs la hP hD hS hl
  exact lv_lconst C.1 C.2.1 hd hv (k C H locs la hP hD hS hl)
theorem mj_ldc {ix : Nat} {v : Int32} (hw : Cond.constant own ix v ∈ mj_tb) (hd : decode cc pc = .ok (.ldc ix, 2)) (k : mj_W X G own nm cc mL d ret P S n ad kc ks (pc + 2) ls (.int v :: st) (I) (L)) : mj_W X G own nm cc mL d ret P S n ad kc ks pc ls (st) (I) (L) := by
  obtain ⟨p, l, e, R, s, m, args, below, meth, c, Q, A⟩ := X
  intro C H locs la hP hD hS hl
  exact lv_ldc C.1 C.2.1 C.2.2.2.1 (C.2.2.2.2.1 _ hw) hd (k C H locs la hP hD hS hl)
theorem mj_ldcw {ix : Nat} {v : Int32} (hw : Cond.constant own ix v ∈ mj_tb) (hd : decode cc pc = .ok (.ldc_w ix, 3)) (k : mj_W X G own nm cc mL d ret P S n ad kc ks (pc + 3) ls (.int v :: st) (I) (L)) : mj_W X G own nm cc mL d ret P S n ad kc ks pc ls (st) (I) (L) := by
  obtain ⟨p, l, e, R, s, m, args, below, meth, c, Q, A⟩ := X
  intro C H locs la hP hD hS hl
  exact lv_ldcw C.1 C.2.1 C.2.2.2.1 (C.2.2.2.2.1 _ hw) hd (k C H locs la hP hD hS hl)
theorem mj_ldc2 {ix : Nat} {v : Int64} (hw : Cond.constantLong own ix v ∈ mj_tb) (hd : decode cc pc = .ok (.ldc2_w ix, 3)) (k : mj_W X G own nm cc mL d ret P S n ad kc ks (pc + 3) ls (.long v :: st) (I) (L)) : mj_W X G own nm cc mL d ret P S n ad kc ks pc ls (st) (I) (L) := by
  obtain ⟨p, l, e, R, s, m, args, below, meth, c, Q, A⟩ := X
  intro C H locs la hP hD hS hl
  exact lv_ldc2 C.1 C.2.1 C.2.2.2.1 (C.2.2.2.2.1 _ hw) hd (k C H locs la hP hD hS hl)
theorem mj_la {la : Array Slot} {j i : Nat} {v : Value} (hl : lv_has la mL (ls.map (fun q => (q.1, mj_v ad q.2)))) (hj : ls[j]? = some (i, v)) : la[i]? = some (.val (mj_v ad v)) := lv_at hl j (by rw [List.getElem?_map, hj]; rfl)
theorem mj_f1 (i : Nat) (v : Value) : (i, mj_v ad v) :: (ls.map (fun q => (q.1, mj_v ad q.2))).filter (fun q => !(q.1 == i) && !(q.1 + 1 == i && q.2.category == 2)) = ((i, v) :: ls.filter (fun q => !(q.1 == i) && !(q.1 + 1 == i && q.2.category == 2))).map (fun q => (q.1, mj_v ad q.2)) := by
  rw [List.map_cons, List.filter_map]
  congr 2
  apply List.filter_congr
  intro q _
  simp only [Function.comp, mj_v_cat]
theorem mj_f2 (i : Nat) (v : Value) : (i, mj_v ad v) :: (ls.map (fun q => (q.1, mj_v ad q.2))).filter (fun q => !(q.1 == i) && (!(q.1 == i + 1) && !(q.1 + 1 == i && q.2.category == 2))) = ((i, v) :: ls.filter (fun q => !(q.1 == i) && (!(q.1 == i + 1) && !(q.1 + 1 == i && q.2.category == 2)))).map (fun q => (q.1, mj_v ad q.2)) := by
  rw [List.map_cons, List.filter_map]
  congr 2
  apply List.filter_congr
  intro q _
  simp only [Function.comp, mj_v_cat]
theorem mj_iload_n {z : Fin 4} {x : Int32} (j : Nat) (hd : decode cc pc = .ok (.iload_n z, 1)) (hj : ls[j]? = some ((z : Nat), .int x)) (k : mj_W X G own nm cc mL d ret P S n ad kc ks (pc + 1) ls (.int x :: st) (I) (L)) : mj_W X G own nm cc mL d ret P S n ad kc ks pc ls (st) (I) (L) := by
  obtain ⟨p, l, e, R, s, m, args, below, meth, c, Q, A⟩ := X
  intro C H locs la hP hD hS hl
  exact lv_iload_n C.1 C.2.1 hd rfl (mj_la hl hj) (k C H locs la hP hD hS hl)
theorem mj_iload {i : Nat} {x : Int32} (j : Nat) (hd : decode cc pc = .ok (.iload i, 2)) (hj : ls[j]? = some (i, .int x)) (k : mj_W X G own nm cc mL d ret P S n ad kc ks (pc + 2) ls (.int x :: st) (I) (L)) : mj_W X G own nm cc mL d ret P S n ad kc ks pc ls (st) (I) (L) := by
  obtain ⟨p, l, e, R, s, m, args, below, meth, c, Q, A⟩ := X
  intro C H locs la hP hD hS hl
  exact lv_iload C.1 C.2.1 hd (mj_la hl hj) (k C H locs la hP hD hS hl)
theorem mj_istore_n {z : Fin 4} {i : Nat} {x : Int32} (ls' : List (Nat × Value)) (hd : decode cc pc = .ok (.istore_n z, 1)) (hi : (z : Nat) = i) (hn : i < mL) (he : (i, Value.int x) :: ls.filter (fun q => !(q.1 == i) && !(q.1 + 1 == i && q.2.category == 2)) = ls') (k : mj_W X G own nm cc mL d ret P S n ad kc ks (pc + 1) ls' (st) (I) (L)) : mj_W X G own nm cc mL d ret P S n ad kc ks pc ls (.int x :: st) (I) (L) := by
  obtain ⟨p, l, e, R, s, m, args, below, meth, c, Q, A⟩ := X
  intro C H locs la hP hD hS hl
  subst he
  exact lv_istore_n C.1 C.2.1 hd hi hl hn (mj_f1 i (.int x)) (fun la hl => (k C H locs la hP hD hS hl))
theorem mj_istore {i : Nat} {x : Int32} (ls' : List (Nat × Value)) (hd : decode cc pc = .ok (.istore i, 2)) (hn : i < mL) (he : (i, Value.int x) :: ls.filter (fun q => !(q.1 == i) && !(q.1 + 1 == i && q.2.category == 2)) = ls') (k : mj_W X G own nm cc mL d ret P S n ad kc ks (pc + 2) ls' (st) (I) (L)) : mj_W X G own nm cc mL d ret P S n ad kc ks pc ls (.int x :: st) (I) (L) := by
  obtain ⟨p, l, e, R, s, m, args, below, meth, c, Q, A⟩ := X
  intro C H locs la hP hD hS hl
  subst he
  exact lv_istore C.1 C.2.1 hd hl hn (mj_f1 i (.int x)) (fun la hl => (k C H locs la hP hD hS hl))
theorem mj_lload_n {z : Fin 4} {x : Int64} (j : Nat) (hd : decode cc pc = .ok (.lload_n z, 1)) (hj : ls[j]? = some ((z : Nat), .long x)) (k : mj_W X G own nm cc mL d ret P S n ad kc ks (pc + 1) ls (.long x :: st) (I) (L)) : mj_W X G own nm cc mL d ret P S n ad kc ks pc ls (st) (I) (L) := by
  obtain ⟨p, l, e, R, s, m, args, below, meth, c, Q, A⟩ := X
  intro C H locs la hP hD hS hl
  exact lv_lload_n C.1 C.2.1 hd rfl (mj_la hl hj) (k C H locs la hP hD hS hl)
theorem mj_lload {i : Nat} {x : Int64} (j : Nat) (hd : decode cc pc = .ok (.lload i, 2)) (hj : ls[j]? = some (i, .long x)) (k : mj_W X G own nm cc mL d ret P S n ad kc ks (pc + 2) ls (.long x :: st) (I) (L)) : mj_W X G own nm cc mL d ret P S n ad kc ks pc ls (st) (I) (L) := by
  obtain ⟨p, l, e, R, s, m, args, below, meth, c, Q, A⟩ := X
  intro C H locs la hP hD hS hl
  exact lv_lload C.1 C.2.1 hd (mj_la hl hj) (k C H locs la hP hD hS hl)
theorem mj_lstore_n {z : Fin 4} {i : Nat} {x : Int64} (ls' : List (Nat × Value)) (hd : decode cc pc = .ok (.lstore_n z, 1)) (hi : (z : Nat) = i) (hn : i + 1 < mL) (he : (i, Value.long x) :: ls.filter (fun q => !(q.1 == i) && (!(q.1 == i + 1) && !(q.1 + 1 == i && q.2.category == 2))) = ls') (k : mj_W X G own nm cc mL d ret P S n ad kc ks (pc + 1) ls' (st) (I) (L)) : mj_W X G own nm cc mL d ret P S n ad kc ks pc ls (.long x :: st) (I) (L) := by
  obtain ⟨p, l, e, R, s, m, args, below, meth, c, Q, A⟩ := X
  intro C H locs la hP hD hS hl
  subst he
  exact lv_lstore_n C.1 C.2.1 hd hi hl hn (mj_f2 i (.long x)) (fun la hl => (k C H locs la hP hD hS hl))
theorem mj_lstore {i : Nat} {x : Int64} (ls' : List (Nat × Value)) (hd : decode cc pc = .ok (.lstore i, 2)) (hn : i + 1 < mL) (he : (i, Value.long x) :: ls.filter (fun q => !(q.1 == i) && (!(q.1 == i + 1) && !(q.1 + 1 == i && q.2.category == 2))) = ls') (k : mj_W X G own nm cc mL d ret P S n ad kc ks (pc + 2) ls' (st) (I) (L)) : mj_W X G own nm cc mL d ret P S n ad kc ks pc ls (.long x :: st) (I) (L) := by
  obtain ⟨p, l, e, R, s, m, args, below, meth, c, Q, A⟩ := X
  intro C H locs la hP hD hS hl
  subst he
  exact lv_lstore C.1 C.2.1 hd hl hn (mj_f2 i (.long x)) (fun la hl => (k C H locs la hP hD hS hl))
theorem mj_aload_n {z : Fin 4} {x : Nat} (j : Nat) (hd : decode cc pc = .ok (.aload_n z, 1)) (hj : ls[j]? = some ((z : Nat), .ref x)) (k : mj_W X G own nm cc mL d ret P S n ad kc ks (pc + 1) ls (.ref x :: st) (I) (L)) : mj_W X G own nm cc mL d ret P S n ad kc ks pc ls (st) (I) (L) := by
  obtain ⟨p, l, e, R, s, m, args, below, meth, c, Q, A⟩ := X
  intro C H locs la hP hD hS hl
  exact lv_aload_n C.1 C.2.1 hd rfl (mj_la hl hj) (k C H locs la hP hD hS hl)
theorem mj_aload {i : Nat} {x : Nat} (j : Nat) (hd : decode cc pc = .ok (.aload i, 2)) (hj : ls[j]? = some (i, .ref x)) (k : mj_W X G own nm cc mL d ret P S n ad kc ks (pc + 2) ls (.ref x :: st) (I) (L)) : mj_W X G own nm cc mL d ret P S n ad kc ks pc ls (st) (I) (L) := by
  obtain ⟨p, l, e, R, s, m, args, below, meth, c, Q, A⟩ := X
  intro C H locs la hP hD hS hl
  exact lv_aload C.1 C.2.1 hd (mj_la hl hj) (k C H locs la hP hD hS hl)
theorem mj_astore_n {z : Fin 4} {i : Nat} {x : Nat} (ls' : List (Nat × Value)) (hd : decode cc pc = .ok (.astore_n z, 1)) (hi : (z : Nat) = i) (hn : i < mL) (he : (i, Value.ref x) :: ls.filter (fun q => !(q.1 == i) && !(q.1 + 1 == i && q.2.category == 2)) = ls') (k : mj_W X G own nm cc mL d ret P S n ad kc ks (pc + 1) ls' (st) (I) (L)) : mj_W X G own nm cc mL d ret P S n ad kc ks pc ls (.ref x :: st) (I) (L) := by
  obtain ⟨p, l, e, R, s, m, args, below, meth, c, Q, A⟩ := X
  intro C H locs la hP hD hS hl
  subst he
  exact lv_astore_n C.1 C.2.1 hd hi hl hn (mj_f1 i (.ref x)) (fun la hl => (k C H locs la hP hD hS hl))
theorem mj_astore {i : Nat} {x : Nat} (ls' : List (Nat × Value)) (hd : decode cc pc = .ok (.astore i, 2)) (hn : i < mL) (he : (i, Value.ref x) :: ls.filter (fun q => !(q.1 == i) && !(q.1 + 1 == i && q.2.category == 2)) = ls') (k : mj_W X G own nm cc mL d ret P S n ad kc ks (pc + 2) ls' (st) (I) (L)) : mj_W X G own nm cc mL d ret P S n ad kc ks pc ls (.ref x :: st) (I) (L) := by
  obtain ⟨p, l, e, R, s, m, args, below, meth, c, Q, A⟩ := X
  intro C H locs la hP hD hS hl
  subst he
  exact lv_astore C.1 C.2.1 hd hl hn (mj_f1 i (.ref x)) (fun la hl => (k C H locs la hP hD hS hl))
theorem mj_iinc {i : Nat} {z : Int} {x v : Int32} (j : Nat) (ls' : List (Nat × Value)) (hd : decode cc pc = .ok (.iinc i z, 3)) (hj : ls[j]? = some (i, .int x)) (hv : x + Int32.ofInt z = v) (hn : i < mL) (he : (i, Value.int v) :: ls.filter (fun q => !(q.1 == i) && !(q.1 + 1 == i && q.2.category == 2)) = ls') (k : mj_W X G own nm cc mL d ret P S n ad kc ks (pc + 3) ls' (st) (I) (L)) : mj_W X G own nm cc mL d ret P S n ad kc ks pc ls (st) (I) (L) := by
  obtain ⟨p, l, e, R, s, m, args, below, meth, c, Q, A⟩ := X
  intro C H locs la hP hD hS hl
  subst he
  exact lv_iinc (k := j) C.1 C.2.1 hd hl (by rw [List.getElem?_map, hj]; rfl) hv hn (mj_f1 i (.int v)) (fun la hl => (k C H locs la hP hD hS hl))
theorem mj_sub (is : List Nat) (ls' : List (Nat × Value)) (he : lv_pick ls is = ls') (k : mj_W X G own nm cc mL d ret P S n ad kc ks pc ls' (st) (I) (L)) : mj_W X G own nm cc mL d ret P S n ad kc ks pc ls (st) (I) (L) := by
  obtain ⟨p, l, e, R, s, m, args, below, meth, c, Q, A⟩ := X
  intro C H locs la hP hD hS hl
  subst he
  refine k C H locs la hP hD hS (lv_sub hl is ?_)
  simp only [lv_pick, List.map_filterMap, List.getElem?_map]
theorem mj_dup {v : Value} (hd : decode cc pc = .ok (.dup, 1)) (hc : v.category = 1) (k : mj_W X G own nm cc mL d ret P S n ad kc ks (pc + 1) ls (v :: v :: st) (I) (L)) : mj_W X G own nm cc mL d ret P S n ad kc ks pc ls (v :: st) (I) (L) := by
  obtain ⟨p, l, e, R, s, m, args, below, meth, c, Q, A⟩ := X
  intro C H locs la hP hD hS hl
  exact lv_dup C.1 C.2.1 hd ((mj_v_cat ad v).trans hc) (k C H locs la hP hD hS hl)
theorem mj_pop {v : Value} (hd : decode cc pc = .ok (.pop, 1)) (hc : v.category = 1) (k : mj_W X G own nm cc mL d ret P S n ad kc ks (pc + 1) ls (st) (I) (L)) : mj_W X G own nm cc mL d ret P S n ad kc ks pc ls (v :: st) (I) (L) := by
  obtain ⟨p, l, e, R, s, m, args, below, meth, c, Q, A⟩ := X
  intro C H locs la hP hD hS hl
  exact lv_pop C.1 C.2.1 hd ((mj_v_cat ad v).trans hc) (k C H locs la hP hD hS hl)
theorem mj_dup2 {v u : Value} (hd : decode cc pc = .ok (.dup2, 1)) (hc : v.category = 1) (hu : u.category = 1) (k : mj_W X G own nm cc mL d ret P S n ad kc ks (pc + 1) ls (v :: u :: v :: u :: st) (I) (L)) : mj_W X G own nm cc mL d ret P S n ad kc ks pc ls (v :: u :: st) (I) (L) := by
  obtain ⟨p, l, e, R, s, m, args, below, meth, c, Q, A⟩ := X
  intro C H locs la hP hD hS hl
  exact lv_dup2_11 C.1 C.2.1 hd ((mj_v_cat ad v).trans hc) ((mj_v_cat ad u).trans hu) (k C H locs la hP hD hS hl)
theorem mj_icmp_eq {x y : Int32} {z : Int} (tgt : Nat) (hd : decode cc pc = .ok (.if_icmp .eq z, 3)) (ht : (pc : Int) + z = (tgt : Int)) (kt : x = y → mj_W X G own nm cc mL d ret P S n ad kc ks tgt ls (st) (I) (L)) (kf : ¬ (x = y) → mj_W X G own nm cc mL d ret P S n ad kc ks (pc + 3) ls (st) (I) (L)) : mj_W X G own nm cc mL d ret P S n ad kc ks pc ls (.int y :: .int x :: st) (I) (L) := by
  obtain ⟨p, l, e, R, s, m, args, below, meth, c, Q, A⟩ := X
  intro C H locs la hP hD hS hl
  exact lv_icmp_eq C.1 C.2.1 hd ht (fun q => kt q C H locs la hP hD hS hl) (fun q => kf q C H locs la hP hD hS hl)
theorem mj_if_eq {x : Int32} {z : Int} (tgt : Nat) (hd : decode cc pc = .ok (.ifCond .eq z, 3)) (ht : (pc : Int) + z = (tgt : Int)) (kt : x = 0 → mj_W X G own nm cc mL d ret P S n ad kc ks tgt ls (st) (I) (L)) (kf : ¬ (x = 0) → mj_W X G own nm cc mL d ret P S n ad kc ks (pc + 3) ls (st) (I) (L)) : mj_W X G own nm cc mL d ret P S n ad kc ks pc ls (.int x :: st) (I) (L) := by
  obtain ⟨p, l, e, R, s, m, args, below, meth, c, Q, A⟩ := X
  intro C H locs la hP hD hS hl
  exact lv_if_eq C.1 C.2.1 hd ht (fun q => kt q C H locs la hP hD hS hl) (fun q => kf q C H locs la hP hD hS hl)
theorem mj_icmp_ne {x y : Int32} {z : Int} (tgt : Nat) (hd : decode cc pc = .ok (.if_icmp .ne z, 3)) (ht : (pc : Int) + z = (tgt : Int)) (kt : ¬ x = y → mj_W X G own nm cc mL d ret P S n ad kc ks tgt ls (st) (I) (L)) (kf : x = y → mj_W X G own nm cc mL d ret P S n ad kc ks (pc + 3) ls (st) (I) (L)) : mj_W X G own nm cc mL d ret P S n ad kc ks pc ls (.int y :: .int x :: st) (I) (L) := by
  obtain ⟨p, l, e, R, s, m, args, below, meth, c, Q, A⟩ := X
  intro C H locs la hP hD hS hl
  exact lv_icmp_ne C.1 C.2.1 hd ht (fun q => kt q C H locs la hP hD hS hl) (fun q => kf q C H locs la hP hD hS hl)
theorem mj_if_ne {x : Int32} {z : Int} (tgt : Nat) (hd : decode cc pc = .ok (.ifCond .ne z, 3)) (ht : (pc : Int) + z = (tgt : Int)) (kt : ¬ x = 0 → mj_W X G own nm cc mL d ret P S n ad kc ks tgt ls (st) (I) (L)) (kf : x = 0 → mj_W X G own nm cc mL d ret P S n ad kc ks (pc + 3) ls (st) (I) (L)) : mj_W X G own nm cc mL d ret P S n ad kc ks pc ls (.int x :: st) (I) (L) := by
  obtain ⟨p, l, e, R, s, m, args, below, meth, c, Q, A⟩ := X
  intro C H locs la hP hD hS hl
  exact lv_if_ne C.1 C.2.1 hd ht (fun q => kt q C H locs la hP hD hS hl) (fun q => kf q C H locs la hP hD hS hl)
theorem mj_icmp_lt {x y : Int32} {z : Int} (tgt : Nat) (hd : decode cc pc = .ok (.if_icmp .lt z, 3)) (ht : (pc : Int) + z = (tgt : Int)) (kt : x < y → mj_W X G own nm cc mL d ret P S n ad kc ks tgt ls (st) (I) (L)) (kf : ¬ (x < y) → mj_W X G own nm cc mL d ret P S n ad kc ks (pc + 3) ls (st) (I) (L)) : mj_W X G own nm cc mL d ret P S n ad kc ks pc ls (.int y :: .int x :: st) (I) (L) := by
  obtain ⟨p, l, e, R, s, m, args, below, meth, c, Q, A⟩ := X
  intro C H locs la hP hD hS hl
  exact lv_icmp_lt C.1 C.2.1 hd ht (fun q => kt q C H locs la hP hD hS hl) (fun q => kf q C H locs la hP hD hS hl)
theorem mj_if_lt {x : Int32} {z : Int} (tgt : Nat) (hd : decode cc pc = .ok (.ifCond .lt z, 3)) (ht : (pc : Int) + z = (tgt : Int)) (kt : x < 0 → mj_W X G own nm cc mL d ret P S n ad kc ks tgt ls (st) (I) (L)) (kf : ¬ (x < 0) → mj_W X G own nm cc mL d ret P S n ad kc ks (pc + 3) ls (st) (I) (L)) : mj_W X G own nm cc mL d ret P S n ad kc ks pc ls (.int x :: st) (I) (L) := by
  obtain ⟨p, l, e, R, s, m, args, below, meth, c, Q, A⟩ := X
  intro C H locs la hP hD hS hl
  exact lv_if_lt C.1 C.2.1 hd ht (fun q => kt q C H locs la hP hD hS hl) (fun q => kf q C H locs la hP hD hS hl)
theorem mj_icmp_ge {x y : Int32} {z : Int} (tgt : Nat) (hd : decode cc pc = .ok (.if_icmp .ge z, 3)) (ht : (pc : Int) + z = (tgt : Int)) (kt : y ≤ x → mj_W X G own nm cc mL d ret P S n ad kc ks tgt ls (st) (I) (L)) (kf : ¬ (y ≤ x) → mj_W X G own nm cc mL d ret P S n ad kc ks (pc + 3) ls (st) (I) (L)) : mj_W X G own nm cc mL d ret P S n ad kc ks pc ls (.int y :: .int x :: st) (I) (L) := by
  obtain ⟨p, l, e, R, s, m, args, below, meth, c, Q, A⟩ := X
  intro C H locs la hP hD hS hl
  exact lv_icmp_ge C.1 C.2.1 hd ht (fun q => kt q C H locs la hP hD hS hl) (fun q => kf q C H locs la hP hD hS hl)
theorem mj_if_ge {x : Int32} {z : Int} (tgt : Nat) (hd : decode cc pc = .ok (.ifCond .ge z, 3)) (ht : (pc : Int) + z = (tgt : Int)) (kt : 0 ≤ x → mj_W X G own nm cc mL d ret P S n ad kc ks tgt ls (st) (I) (L)) (kf : ¬ (0 ≤ x) → mj_W X G own nm cc mL d ret P S n ad kc ks (pc + 3) ls (st) (I) (L)) : mj_W X G own nm cc mL d ret P S n ad kc ks pc ls (.int x :: st) (I) (L) := by
  obtain ⟨p, l, e, R, s, m, args, below, meth, c, Q, A⟩ := X
  intro C H locs la hP hD hS hl
  exact lv_if_ge C.1 C.2.1 hd ht (fun q => kt q C H locs la hP hD hS hl) (fun q => kf q C H locs la hP hD hS hl)
theorem mj_icmp_gt {x y : Int32} {z : Int} (tgt : Nat) (hd : decode cc pc = .ok (.if_icmp .gt z, 3)) (ht : (pc : Int) + z = (tgt : Int)) (kt : y < x → mj_W X G own nm cc mL d ret P S n ad kc ks tgt ls (st) (I) (L)) (kf : ¬ (y < x) → mj_W X G own nm cc mL d ret P S n ad kc ks (pc + 3) ls (st) (I) (L)) : mj_W X G own nm cc mL d ret P S n ad kc ks pc ls (.int y :: .int x :: st) (I) (L) := by
  obtain ⟨p, l, e, R, s, m, args, below, meth, c, Q, A⟩ := X
  intro C H locs la hP hD hS hl
  exact lv_icmp_gt C.1 C.2.1 hd ht (fun q => kt q C H locs la hP hD hS hl) (fun q => kf q C H locs la hP hD hS hl)
theorem mj_if_gt {x : Int32} {z : Int} (tgt : Nat) (hd : decode cc pc = .ok (.ifCond .gt z, 3)) (ht : (pc : Int) + z = (tgt : Int)) (kt : 0 < x → mj_W X G own nm cc mL d ret P S n ad kc ks tgt ls (st) (I) (L)) (kf : ¬ (0 < x) → mj_W X G own nm cc mL d ret P S n ad kc ks (pc + 3) ls (st) (I) (L)) : mj_W X G own nm cc mL d ret P S n ad kc ks pc ls (.int x :: st) (I) (L) := by
  obtain ⟨p, l, e, R, s, m, args, below, meth, c, Q, A⟩ := X
  intro C H locs la hP hD hS hl
  exact lv_if_gt C.1 C.2.1 hd ht (fun q => kt q C H locs la hP hD hS hl) (fun q => kf q C H locs la hP hD hS hl)
theorem mj_icmp_le {x y : Int32} {z : Int} (tgt : Nat) (hd : decode cc pc = .ok (.if_icmp .le z, 3)) (ht : (pc : Int) + z = (tgt : Int)) (kt : x ≤ y → mj_W X G own nm cc mL d ret P S n ad kc ks tgt ls (st) (I) (L)) (kf : ¬ (x ≤ y) → mj_W X G own nm cc mL d ret P S n ad kc ks (pc + 3) ls (st) (I) (L)) : mj_W X G own nm cc mL d ret P S n ad kc ks pc ls (.int y :: .int x :: st) (I) (L) := by
  obtain ⟨p, l, e, R, s, m, args, below, meth, c, Q, A⟩ := X
  intro C H locs la hP hD hS hl
  exact lv_icmp_le C.1 C.2.1 hd ht (fun q => kt q C H locs la hP hD hS hl) (fun q => kf q C H locs la hP hD hS hl)
theorem mj_if_le {x : Int32} {z : Int} (tgt : Nat) (hd : decode cc pc = .ok (.ifCond .le z, 3)) (ht : (pc : Int) + z = (tgt : Int)) (kt : x ≤ 0 → mj_W X G own nm cc mL d ret P S n ad kc ks tgt ls (st) (I) (L)) (kf : ¬ (x ≤ 0) → mj_W X G own nm cc mL d ret P S n ad kc ks (pc + 3) ls (st) (I) (L)) : mj_W X G own nm cc mL d ret P S n ad kc ks pc ls (.int x :: st) (I) (L) := by
  obtain ⟨p, l, e, R, s, m, args, below, meth, c, Q, A⟩ := X
  intro C H locs la hP hD hS hl
  exact lv_if_le C.1 C.2.1 hd ht (fun q => kt q C H locs la hP hD hS hl) (fun q => kf q C H locs la hP hD hS hl)
theorem mj_goto {z : Int} (tgt : Nat) (hd : decode cc pc = .ok (.goto z, 3)) (ht : (pc : Int) + z = (tgt : Int)) (k : mj_W X G own nm cc mL d ret P S n ad kc ks tgt ls (st) (I) (L)) : mj_W X G own nm cc mL d ret P S n ad kc ks pc ls (st) (I) (L) := by
  obtain ⟨p, l, e, R, s, m, args, below, meth, c, Q, A⟩ := X
  intro C H locs la hP hD hS hl
  exact lv_goto C.1 C.2.1 hd ht (k C H locs la hP hD hS hl)
end MJ
