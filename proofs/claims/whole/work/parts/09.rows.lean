/-! ===== rows by their addresses; loops; calls with one outcome ===== -/
def mj_rows {α : Type} (I : Nat → Nat → α) (l : List (Nat × (Nat → α))) (a : Nat) : Nat → α := match l with
  | [] => I a
  | q :: l => if a = q.1 then q.2 else mj_rows I l a
def mj_ins {α : Type} (l : List (Nat × (Nat → α))) (a : Nat) (f : Nat → α) : List (Nat × (Nat → α)) := match l with
  | [] => [(a, f)]
  | q :: l => if a = q.1 then (a, f) :: l else q :: mj_ins l a f
def mj_insl {α : Type} (l k : List (Nat × (Nat → α))) : List (Nat × (Nat → α)) := match k with
  | [] => l
  | q :: k => mj_ins (mj_insl l k) q.1 q.2
theorem mj_rows_ins {α : Type} (I : Nat → Nat → α) (l : List (Nat × (Nat → α))) (a : Nat) (f : Nat → α) : mj_rows I (mj_ins l a f) = va_up (mj_rows I l) a f := by
  funext b
  induction l with
  | nil =>
    by_cases h : b = a
    · simp [mj_ins, mj_rows, va_up, h]
    · simp [mj_ins, mj_rows, va_up, h]
  | cons q l ih =>
    by_cases h : a = q.1
    · by_cases hb : b = a
      · simp [mj_ins, mj_rows, va_up, ← h, hb]
      · simp [mj_ins, mj_rows, va_up, ← h, hb]
    · by_cases hq : b = q.1
      · have h2 : ¬ b = a := fun z => h (z.symm.trans hq)
        have h3 : ¬ q.1 = a := fun z => h z.symm
        simp [mj_ins, mj_rows, va_up, h, hq, h3]
      · simp only [mj_ins, if_neg h, mj_rows, if_neg hq, ih]
        by_cases hb : b = a
        · simp [va_up, hb]
        · simp [va_up, hb, mj_rows, hq]
theorem mj_upr {α : Type} {I : Nat → Nat → α} {l l' : List (Nat × (Nat → α))} {a : Nat} {f : Nat → α} (h : mj_ins l a f = l') : va_up (mj_rows I l) a f = mj_rows I l' := by rw [← h, mj_rows_ins]
theorem mj_rr {α : Type} {I : Nat → Nat → α} {l k l' : List (Nat × (Nat → α))} (h : mj_insl l k = l') : mj_rows (mj_rows I l) k = mj_rows I l' := by
  rw [← h]
  clear h
  induction k with
  | nil => funext a; rfl
  | cons q k ih =>
    rw [mj_insl, mj_rows_ins, ← ih]
    funext a
    by_cases h : a = q.1
    · simp [mj_rows, va_up, h]
    · simp [mj_rows, va_up, h]
theorem mj_self {α : Type} {I : Nat → Nat → α} (l : List (Nat × (Nat → α))) (h : ∀ q ∈ l, I q.1 = q.2) : mj_rows I l = I := by
  funext a
  induction l with
  | nil => rfl
  | cons q l ih =>
    by_cases ha : a = q.1
    · simp only [mj_rows, if_pos ha]
      rw [ha]
      exact (h q List.mem_cons_self).symm
    · simp only [mj_rows, if_neg ha]
      exact ih (fun q hq => h q (List.mem_cons_of_mem _ hq))
def mj_ib (i : Int32) (N : Nat) : Bool := decide (0 ≤ i) && decide (i.toNatClampNeg < N)
theorem mj_ib_in {i : Int32} {N : Nat} (h : mj_ib i N = true) : vp_in i N := by
  simp only [mj_ib, Bool.and_eq_true, decide_eq_true_eq] at h
  intro q
  rcases q with q | q
  · exact absurd (Int32.le_iff_toInt_le.mp h.1) (by have := Int32.lt_iff_toInt_lt.mp q; omega)
  · omega
def mj_bb (v : Int32) : Bool := v == 0 || v == 1
theorem mj_bb_n {v : Int32} (h : mj_bb v = true) : narrow .boolean (.int v) = .int v ∧ fits .boolean (.int v) = true := by
  simp only [mj_bb, Bool.or_eq_true, beq_iff_eq] at h
  rcases h with h | h <;> subst h <;> decide
theorem mj_ck {α : Type} {b : Bool} {A : Option α} {o : α} (h : (if b = true then A else none) = some o) : b = true ∧ A = some o := by
  by_cases hb : b = true
  · rw [if_pos hb] at h; exact ⟨hb, h⟩
  · rw [if_neg hb] at h; cases h
theorem mj_nz {α : Type} {c : Prop} [Decidable c] {A : Option α} {o : α} (h : (if c then none else A) = some o) : ¬ c ∧ A = some o := by
  by_cases hb : c
  · rw [if_pos hb] at h; cases h
  · rw [if_neg hb] at h; exact ⟨hb, h⟩
theorem mj_pos {α : Type} {c : Prop} [Decidable c] {A B o : α} (hc : c) (h : (if c then A else B) = o) : A = o := by rw [if_pos hc] at h; exact h
theorem mj_neg {α : Type} {c : Prop} [Decidable c] {A B o : α} (hc : ¬ c) (h : (if c then A else B) = o) : B = o := by rw [if_neg hc] at h; exact h
theorem mj_bd {α β : Type} {x : Option α} {f : α → Option β} {o : β} (h : x.bind f = some o) : ∃ a, x = some a ∧ f a = some o := Option.bind_eq_some_iff.mp h
/-- a loop: the body goes on (inl) or leaves (inr) -/
def mj_it {σ ε : Type} (body : σ → Option (σ ⊕ ε)) : Nat → σ → Option ε
  | 0, _ => none
  | n + 1, s => (body s).bind (Sum.elim (mj_it body n) some)
theorem mj_loop {σ ε : Type} {body : σ → Option (σ ⊕ ε)} {Wh : σ → Prop} {We : ε → Prop} (hstep : ∀ s o, body s = some o → (∀ s', o = .inl s' → Wh s') → (∀ e, o = .inr e → We e) → Wh s) : ∀ n s e, mj_it body n s = some e → We e → Wh s := by
  intro n
  induction n with
  | zero => intro s e h; cases h
  | succ n ih =>
    intro s e h he
    obtain ⟨o, h1, h2⟩ := mj_bd (f := Sum.elim (mj_it body n) some) h
    rcases o with s' | e'
    · exact hstep s _ h1 (fun s'' hs => by cases hs; exact ih _ e h2 he) (fun e hs => by cases hs)
    · have h3 : e' = e := Option.some.inj h2
      exact hstep s _ h1 (fun s'' hs => by cases hs) (fun e hs => by cases hs; rw [h3]; exact he)
/-- a function of a pair, by its parts -/
def mj_u2 {α β γ : Type _} (f : α → β → γ) (s : α × β) : γ := f s.1 s.2
theorem mj_u2p {α β : Type} {f : α → β → Prop} {a : α} {b : β} (h : mj_u2 f (a, b)) : f a b := h
theorem mj_u2q {α β : Type} {f : α → β → Prop} {a : α} {b : β} (h : f a b) : mj_u2 f (a, b) := h
theorem mj_u2e {α β γ : Type} {f : α → β → γ} {a : α} {b : β} {o : γ} (h : mj_u2 f (a, b) = o) : f a b = o := h
theorem mj_el {α β : Type} {f : α → Prop} {g : β → Prop} {a : α} (h : Sum.elim f g (.inl a)) : f a := h
theorem mj_er {α β : Type} {f : α → Prop} {g : β → Prop} {a : β} (h : Sum.elim f g (.inr a)) : g a := h
theorem mj_elq {α β : Type} {f : α → Prop} {g : β → Prop} {a : α} (h : f a) : Sum.elim f g (.inl a) := h
theorem mj_erq {α β : Type} {f : α → Prop} {g : β → Prop} {a : β} (h : g a) : Sum.elim f g (.inr a) := h
theorem mj_ele {α β γ : Type} {f : α → γ} {g : β → γ} {a : α} {o : γ} (h : Sum.elim f g (.inl a) = o) : f a = o := h
theorem mj_ere {α β γ : Type} {f : α → γ} {g : β → γ} {a : β} {o : γ} (h : Sum.elim f g (.inr a) = o) : g a = o := h
section MV
variable {X : mj_XT} {l0 : Launch} {G : mj_GT} {own nm : String} {cc : ByteArray} {mL d : Nat} {ret : Option FieldType} {P : mj_PT} {S : mj_ST} {n : Nat} {ad : Nat → Nat} {mc ms kc ks pc : Nat} {ls : List (Nat × Value)} {st : List Value} {I I0 : mj_IT} {L L0 : mj_LT} {l l' : List (Nat × (Nat → Int32))} {k k' : List (Nat × (Nat → Int64))}
theorem mj_toI (l : List (Nat × (Nat → Int32))) (h : ∀ q ∈ l, I q.1 = q.2) (k : mj_W X G own nm cc mL d ret P S n ad kc ks pc ls (st) (mj_rows I l) (L)) : mj_W X G own nm cc mL d ret P S n ad kc ks pc ls (st) (I) (L) := by rw [mj_self l h] at k; exact k
theorem mj_toL (l : List (Nat × (Nat → Int64))) (h : ∀ q ∈ l, L q.1 = q.2) (k : mj_W X G own nm cc mL d ret P S n ad kc ks pc ls (st) (I) (mj_rows L l)) : mj_W X G own nm cc mL d ret P S n ad kc ks pc ls (st) (I) (L) := by rw [mj_self l h] at k; exact k
theorem mj_getIv {ix ci a j : Nat} {v : Int32} (hv : I a j = v) (hf : mj_fl own ix ci j) (ht : mj_tc (mj_ft ci j) = 0) (hs : S a = (0, ci)) (ha : 0 < a ∧ a ≤ n) (hd : decode cc pc = .ok (.getfield ix, 3)) (k : mj_W X G own nm cc mL d ret P S n ad kc ks (pc + 3) ls (.int v :: st) (I) (L)) : mj_W X G own nm cc mL d ret P S n ad kc ks pc ls (.ref a :: st) (I) (L) := by subst hv; exact mj_getI hf ht hs ha hd k
theorem mj_getLv {ix ci a j : Nat} {v : Int64} (hv : L a j = v) (hf : mj_fl own ix ci j) (ht : mj_tc (mj_ft ci j) = 1) (hs : S a = (0, ci)) (ha : 0 < a ∧ a ≤ n) (hd : decode cc pc = .ok (.getfield ix, 3)) (k : mj_W X G own nm cc mL d ret P S n ad kc ks (pc + 3) ls (.long v :: st) (I) (L)) : mj_W X G own nm cc mL d ret P S n ad kc ks pc ls (.ref a :: st) (I) (L) := by subst hv; exact mj_getL hf ht hs ha hd k
theorem mj_putIr (l' : List (Nat × (Nat → Int32))) {ix ci a j : Nat} {v : Int32} (hl' : mj_ins l a (upd (mj_rows I0 l a) j v) = l') (hv : narrow (mj_ft ci j) (.int v) = .int v ∧ fits (mj_ft ci j) (.int v) = true) (hf : mj_fl own ix ci j) (ht : mj_tc (mj_ft ci j) = 0) (hfin : (mj_T ci j).2.2.2 = false) (hs : S a = (0, ci)) (ha : 0 < a ∧ a ≤ n) (hd : decode cc pc = .ok (.putfield ix, 3)) (k : mj_W X G own nm cc mL d ret P S n ad kc ks (pc + 3) ls (st) (mj_rows I0 l') (L)) : mj_W X G own nm cc mL d ret P S n ad kc ks pc ls (.int v :: .ref a :: st) (mj_rows I0 l) (L) := by
  refine mj_putI hv hf ht hfin hs ha hd ?_
  rw [mj_upr hl']
  exact k
theorem mj_putLr (k' : List (Nat × (Nat → Int64))) {ix ci a j : Nat} {v : Int64} (hl' : mj_ins k a (vp_updL (mj_rows L0 k a) j v) = k') (hv : mj_ft ci j = .long) (hf : mj_fl own ix ci j) (ht : mj_tc (mj_ft ci j) = 1) (hfin : (mj_T ci j).2.2.2 = false) (hs : S a = (0, ci)) (ha : 0 < a ∧ a ≤ n) (hd : decode cc pc = .ok (.putfield ix, 3)) (kk : mj_W X G own nm cc mL d ret P S n ad kc ks (pc + 3) ls (st) (I) (mj_rows L0 k')) : mj_W X G own nm cc mL d ret P S n ad kc ks pc ls (.long v :: .ref a :: st) (I) (mj_rows L0 k) := by
  refine mj_putL hv hf ht hfin hs ha hd ?_
  rw [mj_upr hl']
  exact kk
theorem mj_ialdv {a N : Nat} {i : Int32} {x : Nat → Int32} (hx : I a = x) (hs : S a = (1, N)) (ha : 0 < a ∧ a ≤ n) (hi : mj_ib i N = true) (hd : decode cc pc = .ok (.iaload, 1)) (k : mj_W X G own nm cc mL d ret P S n ad kc ks (pc + 1) ls (.int (x i.toNatClampNeg) :: st) (I) (L)) : mj_W X G own nm cc mL d ret P S n ad kc ks pc ls (.int i :: .ref a :: st) (I) (L) := by subst hx; exact mj_iald hs ha (mj_ib_in hi) hd k
theorem mj_zaldv {a N : Nat} {i : Int32} {x : Nat → Int32} (hx : I a = x) (hs : S a = (3, N)) (ha : 0 < a ∧ a ≤ n) (hi : mj_ib i N = true) (hd : decode cc pc = .ok (.baload, 1)) (k : mj_W X G own nm cc mL d ret P S n ad kc ks (pc + 1) ls (.int (x i.toNatClampNeg) :: st) (I) (L)) : mj_W X G own nm cc mL d ret P S n ad kc ks pc ls (.int i :: .ref a :: st) (I) (L) := by subst hx; exact mj_zald hs ha (mj_ib_in hi) hd k
theorem mj_baldv {a N : Nat} {i : Int32} {x : Nat → Int32} (hx : I a = x) (hs : S a = (4, N)) (ha : 0 < a ∧ a ≤ n) (hi : mj_ib i N = true) (hd : decode cc pc = .ok (.baload, 1)) (k : mj_W X G own nm cc mL d ret P S n ad kc ks (pc + 1) ls (.int (x i.toNatClampNeg) :: st) (I) (L)) : mj_W X G own nm cc mL d ret P S n ad kc ks pc ls (.int i :: .ref a :: st) (I) (L) := by subst hx; exact mj_bald hs ha (mj_ib_in hi) hd k
theorem mj_laldv {a N : Nat} {i : Int32} {x : Nat → Int64} (hx : L a = x) (hs : S a = (2, N)) (ha : 0 < a ∧ a ≤ n) (hi : mj_ib i N = true) (hd : decode cc pc = .ok (.laload, 1)) (k : mj_W X G own nm cc mL d ret P S n ad kc ks (pc + 1) ls (.long (x i.toNatClampNeg) :: st) (I) (L)) : mj_W X G own nm cc mL d ret P S n ad kc ks pc ls (.int i :: .ref a :: st) (I) (L) := by subst hx; exact mj_lald hs ha (mj_ib_in hi) hd k
theorem mj_iastr (l' : List (Nat × (Nat → Int32))) {a N : Nat} {i x : Int32} (hl' : mj_ins l a (upd (mj_rows I0 l a) i.toNatClampNeg x) = l') (hs : S a = (1, N)) (ha : 0 < a ∧ a ≤ n) (hi : mj_ib i N = true) (hd : decode cc pc = .ok (.iastore, 1)) (k : mj_W X G own nm cc mL d ret P S n ad kc ks (pc + 1) ls (st) (mj_rows I0 l') (L)) : mj_W X G own nm cc mL d ret P S n ad kc ks pc ls (.int x :: .int i :: .ref a :: st) (mj_rows I0 l) (L) := by
  refine mj_iast hs ha (mj_ib_in hi) hd ?_
  rw [mj_upr hl']
  exact k
theorem mj_zastr (l' : List (Nat × (Nat → Int32))) {a N : Nat} {i x : Int32} (hl' : mj_ins l a (upd (mj_rows I0 l a) i.toNatClampNeg (vp_nar .boolean x)) = l') (hs : S a = (3, N)) (ha : 0 < a ∧ a ≤ n) (hi : mj_ib i N = true) (hd : decode cc pc = .ok (.bastore, 1)) (k : mj_W X G own nm cc mL d ret P S n ad kc ks (pc + 1) ls (st) (mj_rows I0 l') (L)) : mj_W X G own nm cc mL d ret P S n ad kc ks pc ls (.int x :: .int i :: .ref a :: st) (mj_rows I0 l) (L) := by
  refine mj_zast hs ha (mj_ib_in hi) hd ?_
  rw [mj_upr hl']
  exact k
theorem mj_bastr (l' : List (Nat × (Nat → Int32))) {a N : Nat} {i x : Int32} (hl' : mj_ins l a (upd (mj_rows I0 l a) i.toNatClampNeg (vp_nar .byte x)) = l') (hs : S a = (4, N)) (ha : 0 < a ∧ a ≤ n) (hi : mj_ib i N = true) (hd : decode cc pc = .ok (.bastore, 1)) (k : mj_W X G own nm cc mL d ret P S n ad kc ks (pc + 1) ls (st) (mj_rows I0 l') (L)) : mj_W X G own nm cc mL d ret P S n ad kc ks pc ls (.int x :: .int i :: .ref a :: st) (mj_rows I0 l) (L) := by
  refine mj_bast hs ha (mj_ib_in hi) hd ?_
  rw [mj_upr hl']
  exact k
theorem mj_lastr (k' : List (Nat × (Nat → Int64))) {a N : Nat} {i : Int32} {x : Int64} (hl' : mj_ins k a (vp_updL (mj_rows L0 k a) i.toNatClampNeg x) = k') (hs : S a = (2, N)) (ha : 0 < a ∧ a ≤ n) (hi : mj_ib i N = true) (hd : decode cc pc = .ok (.lastore, 1)) (kk : mj_W X G own nm cc mL d ret P S n ad kc ks (pc + 1) ls (st) (I) (mj_rows L0 k')) : mj_W X G own nm cc mL d ret P S n ad kc ks pc ls (.long x :: .int i :: .ref a :: st) (I) (mj_rows L0 k) := by
  refine mj_last hs ha (mj_ib_in hi) hd ?_
  rw [mj_upr hl']
  exact kk
/-- one outcome -/
def mj_qd (r0 : Option Value) (I0 : mj_IT) (L0 : mj_LT) : Option Value → mj_IT → mj_LT → Prop := fun r I L => r = r0 ∧ I = I0 ∧ L = L0
theorem mj_callSd {ix np d' mL' : Nat} {y : MethodName} {cc' : ByteArray} {ret' : Option FieldType} {s0 s1 : List Value} {r0 : Option Value} {I1 I2 : mj_IT} {L1 L2 : mj_LT} (as : List Value) (hM : mj_M X.2.1 G y cc' mL' d' ret' 0 0 P S n (as) I L (mj_qd r0 I1 L1)) (hI : I1 = I2) (hL : L1 = L2) (hw : mj_cs own ix y cc' mL' ret' np) (hdd : d' + 1 ≤ d) (hnp : as.length = np) (hst : s0 = as.reverse ++ st) (hsm : (st.map fun v => v.category).sum ≤ 8) (hf : kc ≤ X.2.2.2.1.cells ∧ ks ≤ X.2.2.2.1.slots) (hd : decode cc pc = .ok (.invokestatic ix, 3)) (hs1 : r0.toList ++ st = s1) (k : mj_W X G own nm cc mL d ret P S n ad kc ks (pc + 3) ls (s1) (I2) (L2)) : mj_W X G own nm cc mL d ret P S n ad kc ks pc ls (s0) (I) (L) := by
  subst hI; subst hL; subst hs1
  refine mj_callS as hM hw hdd hnp hst hsm hf hd (fun r I' L' hq => ?_)
  obtain ⟨rfl, rfl, rfl⟩ := hq
  exact k
theorem mj_callVd {ix np d' mL' ci b : Nat} {y : MethodName} {cc' : ByteArray} {ret' : Option FieldType} {s0 s1 : List Value} {r0 : Option Value} {I1 I2 : mj_IT} {L1 L2 : mj_LT} (as : List Value) (hM : mj_M X.2.1 G y cc' mL' d' ret' 0 0 P S n (.ref b :: as) I L (mj_qd r0 I1 L1)) (hI : I1 = I2) (hL : L1 = L2) (hw : mj_cv own ix y cc' mL' ret' np ci) (hs : S b = (0, ci)) (hb : 0 < b ∧ b ≤ n) (hdd : d' + 1 ≤ d) (hnp : as.length = np) (hst : s0 = as.reverse ++ .ref b :: st) (hsm : (st.map fun v => v.category).sum ≤ 8) (hf : kc ≤ X.2.2.2.1.cells ∧ ks ≤ X.2.2.2.1.slots) (hd : decode cc pc = .ok (.invokevirtual ix, 3)) (hs1 : r0.toList ++ st = s1) (k : mj_W X G own nm cc mL d ret P S n ad kc ks (pc + 3) ls (s1) (I2) (L2)) : mj_W X G own nm cc mL d ret P S n ad kc ks pc ls (s0) (I) (L) := by
  subst hI; subst hL; subst hs1
  refine mj_callV as hM hw hs hb hdd hnp hst hsm hf hd (fun r I' L' hq => ?_)
  obtain ⟨rfl, rfl, rfl⟩ := hq
  exact k
theorem mj_lc_eq {x y : Int64} {z : Int} (tgt : Nat) (hd1 : decode cc pc = .ok (.lcmp, 1)) (hd : decode cc (pc + 1) = .ok (.ifCond .eq z, 3)) (ht : ((pc + 1 : Nat) : Int) + z = (tgt : Int)) (kt : x = y → mj_W X G own nm cc mL d ret P S n ad kc ks tgt ls (st) (I) (L)) (kf : ¬ (x = y) → mj_W X G own nm cc mL d ret P S n ad kc ks (pc + 4) ls (st) (I) (L)) : mj_W X G own nm cc mL d ret P S n ad kc ks pc ls (.long y :: .long x :: st) (I) (L) := by
  have h := mj_if_eq (X := X) (G := G) (own := own) (nm := nm) (cc := cc) (mL := mL) (d := d) (ret := ret) (P := P) (S := S) (n := n) (ad := ad) (kc := kc) (ks := ks) (ls := ls) (st := st) (I := I) (L := L) (x := lg_cmp x y) tgt hd ht (fun q => kt ((lg_cmp_eq x y).mp q)) (fun q => kf (fun z => q ((lg_cmp_eq x y).mpr z)))
  obtain ⟨p, l, e, R, s, m, args, below, meth, c, Q, A⟩ := X
  intro C H locs la hP hD hS hl
  exact W.lcmp C.1 C.2.1 hd1 (h C H locs la hP hD hS hl)
theorem mj_lc_ne {x y : Int64} {z : Int} (tgt : Nat) (hd1 : decode cc pc = .ok (.lcmp, 1)) (hd : decode cc (pc + 1) = .ok (.ifCond .ne z, 3)) (ht : ((pc + 1 : Nat) : Int) + z = (tgt : Int)) (kt : ¬ (x = y) → mj_W X G own nm cc mL d ret P S n ad kc ks tgt ls (st) (I) (L)) (kf : x = y → mj_W X G own nm cc mL d ret P S n ad kc ks (pc + 4) ls (st) (I) (L)) : mj_W X G own nm cc mL d ret P S n ad kc ks pc ls (.long y :: .long x :: st) (I) (L) := by
  have h := mj_if_ne (X := X) (G := G) (own := own) (nm := nm) (cc := cc) (mL := mL) (d := d) (ret := ret) (P := P) (S := S) (n := n) (ad := ad) (kc := kc) (ks := ks) (ls := ls) (st := st) (I := I) (L := L) (x := lg_cmp x y) tgt hd ht (fun q => kt (fun z => q ((lg_cmp_eq x y).mpr z))) (fun q => kf ((lg_cmp_eq x y).mp q))
  obtain ⟨p, l, e, R, s, m, args, below, meth, c, Q, A⟩ := X
  intro C H locs la hP hD hS hl
  exact W.lcmp C.1 C.2.1 hd1 (h C H locs la hP hD hS hl)
theorem mj_lc_lt {x y : Int64} {z : Int} (tgt : Nat) (hd1 : decode cc pc = .ok (.lcmp, 1)) (hd : decode cc (pc + 1) = .ok (.ifCond .lt z, 3)) (ht : ((pc + 1 : Nat) : Int) + z = (tgt : Int)) (kt : x < y → mj_W X G own nm cc mL d ret P S n ad kc ks tgt ls (st) (I) (L)) (kf : ¬ (x < y) → mj_W X G own nm cc mL d ret P S n ad kc ks (pc + 4) ls (st) (I) (L)) : mj_W X G own nm cc mL d ret P S n ad kc ks pc ls (.long y :: .long x :: st) (I) (L) := by
  have h := mj_if_lt (X := X) (G := G) (own := own) (nm := nm) (cc := cc) (mL := mL) (d := d) (ret := ret) (P := P) (S := S) (n := n) (ad := ad) (kc := kc) (ks := ks) (ls := ls) (st := st) (I := I) (L := L) (x := lg_cmp x y) tgt hd ht (fun q => kt ((lg_cmp_lt x y).mp q)) (fun q => kf (fun z => q ((lg_cmp_lt x y).mpr z)))
  obtain ⟨p, l, e, R, s, m, args, below, meth, c, Q, A⟩ := X
  intro C H locs la hP hD hS hl
  exact W.lcmp C.1 C.2.1 hd1 (h C H locs la hP hD hS hl)
theorem mj_lc_ge {x y : Int64} {z : Int} (tgt : Nat) (hd1 : decode cc pc = .ok (.lcmp, 1)) (hd : decode cc (pc + 1) = .ok (.ifCond .ge z, 3)) (ht : ((pc + 1 : Nat) : Int) + z = (tgt : Int)) (kt : y ≤ x → mj_W X G own nm cc mL d ret P S n ad kc ks tgt ls (st) (I) (L)) (kf : ¬ (y ≤ x) → mj_W X G own nm cc mL d ret P S n ad kc ks (pc + 4) ls (st) (I) (L)) : mj_W X G own nm cc mL d ret P S n ad kc ks pc ls (.long y :: .long x :: st) (I) (L) := by
  have h := mj_if_ge (X := X) (G := G) (own := own) (nm := nm) (cc := cc) (mL := mL) (d := d) (ret := ret) (P := P) (S := S) (n := n) (ad := ad) (kc := kc) (ks := ks) (ls := ls) (st := st) (I := I) (L := L) (x := lg_cmp x y) tgt hd ht (fun q => kt ((lg_cmp_ge x y).mp q)) (fun q => kf (fun z => q ((lg_cmp_ge x y).mpr z)))
  obtain ⟨p, l, e, R, s, m, args, below, meth, c, Q, A⟩ := X
  intro C H locs la hP hD hS hl
  exact W.lcmp C.1 C.2.1 hd1 (h C H locs la hP hD hS hl)
theorem mj_lc_gt {x y : Int64} {z : Int} (tgt : Nat) (hd1 : decode cc pc = .ok (.lcmp, 1)) (hd : decode cc (pc + 1) = .ok (.ifCond .gt z, 3)) (ht : ((pc + 1 : Nat) : Int) + z = (tgt : Int)) (kt : y < x → mj_W X G own nm cc mL d ret P S n ad kc ks tgt ls (st) (I) (L)) (kf : ¬ (y < x) → mj_W X G own nm cc mL d ret P S n ad kc ks (pc + 4) ls (st) (I) (L)) : mj_W X G own nm cc mL d ret P S n ad kc ks pc ls (.long y :: .long x :: st) (I) (L) := by
  have h := mj_if_gt (X := X) (G := G) (own := own) (nm := nm) (cc := cc) (mL := mL) (d := d) (ret := ret) (P := P) (S := S) (n := n) (ad := ad) (kc := kc) (ks := ks) (ls := ls) (st := st) (I := I) (L := L) (x := lg_cmp x y) tgt hd ht (fun q => kt ((lg_cmp_gt x y).mp q)) (fun q => kf (fun z => q ((lg_cmp_gt x y).mpr z)))
  obtain ⟨p, l, e, R, s, m, args, below, meth, c, Q, A⟩ := X
  intro C H locs la hP hD hS hl
  exact W.lcmp C.1 C.2.1 hd1 (h C H locs la hP hD hS hl)
theorem mj_lc_le {x y : Int64} {z : Int} (tgt : Nat) (hd1 : decode cc pc = .ok (.lcmp, 1)) (hd : decode cc (pc + 1) = .ok (.ifCond .le z, 3)) (ht : ((pc + 1 : Nat) : Int) + z = (tgt : Int)) (kt : x ≤ y → mj_W X G own nm cc mL d ret P S n ad kc ks tgt ls (st) (I) (L)) (kf : ¬ (x ≤ y) → mj_W X G own nm cc mL d ret P S n ad kc ks (pc + 4) ls (st) (I) (L)) : mj_W X G own nm cc mL d ret P S n ad kc ks pc ls (.long y :: .long x :: st) (I) (L) := by
  have h := mj_if_le (X := X) (G := G) (own := own) (nm := nm) (cc := cc) (mL := mL) (d := d) (ret := ret) (P := P) (S := S) (n := n) (ad := ad) (kc := kc) (ks := ks) (ls := ls) (st := st) (I := I) (L := L) (x := lg_cmp x y) tgt hd ht (fun q => kt ((lg_cmp_le x y).mp q)) (fun q => kf (fun z => q ((lg_cmp_le x y).mpr z)))
  obtain ⟨p, l, e, R, s, m, args, below, meth, c, Q, A⟩ := X
  intro C H locs la hP hD hS hl
  exact W.lcmp C.1 C.2.1 hd1 (h C H locs la hP hD hS hl)
theorem mj_mmin {ix : Nat} {x y : Int32} (hw : Cond.methodLink own ix Lib.Math.min.name ∈ mj_tb ∧ Cond.static Lib.Math.min.name ∈ mj_tb ∧ Cond.initialized "java/lang/Math" ∈ mj_tb ∧ Cond.code Lib.Math.min.name Lib.Math.min.code 2 (some .int) ∈ mj_tb) (hdd : 1 ≤ d) (hsm : (st.map fun v => v.category).sum ≤ 8) (hf : kc ≤ X.2.2.2.1.cells ∧ ks ≤ X.2.2.2.1.slots) (hd : decode cc pc = .ok (.invokestatic ix, 3)) (k : mj_W X G own nm cc mL d ret P S n ad kc ks (pc + 3) ls (.int (if y < x then y else x) :: st) (I) (L)) : mj_W X G own nm cc mL d ret P S n ad kc ks pc ls (.int y :: .int x :: st) (I) (L) := by
  obtain ⟨p, l, e, R, s, m, args, below, meth, c, Q, A⟩ := X
  intro C H locs la hP hD hS hl
  have hr := C.2.2.2.2.2.2.2.2.1
  have e2 : ((st.map (mj_v ad)).map fun v => v.category).sum ≤ 8 := by
    rw [List.map_map, show (fun v : Value => v.category) ∘ mj_v ad = fun v : Value => v.category from funext (mj_v_cat ad)]
    exact hsm
  have h1 : 1 ≤ R.frames := by omega
  have h2 : ((st.map (mj_v ad)).map fun v => v.category).sum + 13 ≤ R.locals := by omega
  exact va_mmin C.1 C.2.1 (C.2.2.1.trans hl.1.symm) C.2.2.2.1 (C.2.2.2.2.1 _ hw.1) (C.2.2.2.2.1 _ hw.2.1) (C.2.2.2.2.1 _ hw.2.2.1) (C.2.2.2.2.1 _ hw.2.2.2) h1 h2 hf.1 hf.2 hd (k C H locs la hP hD hS hl)
theorem mj_mmaxl {ix : Nat} {x y : Int64} (hw : Cond.methodLink own ix Lib.MathLoose.max_long.x ∈ mj_tb ∧ Cond.static Lib.MathLoose.max_long.x ∈ mj_tb ∧ Cond.initialized "java/lang/Math" ∈ mj_tb ∧ Cond.code Lib.MathLoose.max_long.x Lib.MathLoose.max_long.code 4 (some .long) ∈ mj_tb) (hdd : 1 ≤ d) (hsm : (st.map fun v => v.category).sum ≤ 8) (hf : kc ≤ X.2.2.2.1.cells ∧ ks ≤ X.2.2.2.1.slots) (hd : decode cc pc = .ok (.invokestatic ix, 3)) (k : mj_W X G own nm cc mL d ret P S n ad kc ks (pc + 3) ls (.long (if y < x then x else y) :: st) (I) (L)) : mj_W X G own nm cc mL d ret P S n ad kc ks pc ls (.long y :: .long x :: st) (I) (L) := by
  obtain ⟨p, l, e, R, s, m, args, below, meth, c, Q, A⟩ := X
  intro C H locs la hP hD hS hl
  have hr := C.2.2.2.2.2.2.2.2.1
  have e2 : ((st.map (mj_v ad)).map fun v => v.category).sum ≤ 8 := by
    rw [List.map_map, show (fun v : Value => v.category) ∘ mj_v ad = fun v : Value => v.category from funext (mj_v_cat ad)]
    exact hsm
  have h1 : 1 ≤ R.frames := by omega
  have h2 : ((st.map (mj_v ad)).map fun v => v.category).sum + 15 ≤ R.locals := by omega
  exact va_mmax_long C.1 C.2.1 (C.2.2.1.trans hl.1.symm) C.2.2.2.1 (C.2.2.2.2.1 _ hw.1) (C.2.2.2.2.1 _ hw.2.1) (C.2.2.2.2.1 _ hw.2.2.1) (C.2.2.2.2.1 _ hw.2.2.2) h1 h2 hf.1 hf.2 hd (k C H locs la hP hD hS hl)
theorem mj_alen {a kd N : Nat} {v : Int32} (hs : S a = (kd, N)) (hk : 0 < kd ∧ kd ≤ 4) (ha : 0 < a ∧ a ≤ n) (hv : Int32.ofNat N = v) (hd : decode cc pc = .ok (.arraylength, 1)) (k : mj_W X G own nm cc mL d ret P S n ad kc ks (pc + 1) ls (.int v :: st) (I) (L)) : mj_W X G own nm cc mL d ret P S n ad kc ks pc ls (.ref a :: st) (I) (L) := by
  obtain ⟨p, l, e, R, s, m, args, below, meth, c, Q, A⟩ := X
  intro C H locs la hP hD hS hl
  rcases kd with _ | _ | _ | _ | _ | kd
  · exact absurd hk.1 (by decide)
  · exact va_alen C.1 C.2.1 C.2.2.2.2.2.2.2.2.2.1 hP (a - 1) 0 (by rw [mj_w_at ha.1 ha.2, mj_E1 hs]) rfl hv hd (k C H locs la hP hD hS hl)
  · exact va_alen C.1 C.2.1 C.2.2.2.2.2.2.2.2.2.1 hP (a - 1) 1 (by rw [mj_w_at ha.1 ha.2, mj_E2 hs]) rfl hv hd (k C H locs la hP hD hS hl)
  · exact va_alen C.1 C.2.1 C.2.2.2.2.2.2.2.2.2.1 hP (a - 1) 2 (by rw [mj_w_at ha.1 ha.2, mj_E3 hs]) rfl hv hd (k C H locs la hP hD hS hl)
  · exact va_alen C.1 C.2.1 C.2.2.2.2.2.2.2.2.2.1 hP (a - 1) 3 (by rw [mj_w_at ha.1 ha.2, mj_E4 hs]) rfl hv hd (k C H locs la hP hD hS hl)
  · exact absurd hk.2 (by omega)
end MV
/-- a method's entry, its names spelled -/
theorem mj_in {l : Launch} {G : mj_GT} {y : MethodName} {cc : ByteArray} {mL d : Nat} {ret : Option FieldType} {mc ms : Nat} {P : mj_PT} {S : mj_ST} {n : Nat} {as : List Value} {I : mj_IT} {L : mj_LT} {Qn : Option Value → mj_IT → mj_LT → Prop} (own nm : String) (ls : List (Nat × Value)) (ho : y.cls = own) (hn : y.name = nm) (hls : lv_args 0 as = ls)
    (hy : plainName y.cls = true) (hlen : (lg_sl as).length ≤ mL) (k : ∀ (X : mj_XT) (ad : Nat → Nat), mj_R X l G P S n ad mc ms Qn → mj_W X G own nm cc mL d ret P S n ad 0 0 0 ls [] I L) : mj_M l G y cc mL d ret mc ms P S n as I L Qn := by
  subst ho; subst hn; subst hls
  exact mj_enter hy hlen k
theorem kc_bipush_m100 : (Int8.ofInt (-100)).toInt32 = (-100 : Int32) := by decide
theorem kc_bipush_m10 : (Int8.ofInt (-10)).toInt32 = (-10 : Int32) := by decide
theorem kc_bipush_m3 : (Int8.ofInt (-3)).toInt32 = (-3 : Int32) := by decide
theorem kc_bipush_m2 : (Int8.ofInt (-2)).toInt32 = (-2 : Int32) := by decide
theorem kc_bipush_6 : (Int8.ofInt (6)).toInt32 = (6 : Int32) := by decide
theorem kc_bipush_7 : (Int8.ofInt (7)).toInt32 = (7 : Int32) := by decide
theorem kc_bipush_8 : (Int8.ofInt (8)).toInt32 = (8 : Int32) := by decide
theorem kc_bipush_9 : (Int8.ofInt (9)).toInt32 = (9 : Int32) := by decide
theorem kc_bipush_10 : (Int8.ofInt (10)).toInt32 = (10 : Int32) := by decide
theorem kc_bipush_11 : (Int8.ofInt (11)).toInt32 = (11 : Int32) := by decide
theorem kc_bipush_12 : (Int8.ofInt (12)).toInt32 = (12 : Int32) := by decide
theorem kc_bipush_13 : (Int8.ofInt (13)).toInt32 = (13 : Int32) := by decide
theorem kc_bipush_15 : (Int8.ofInt (15)).toInt32 = (15 : Int32) := by decide
theorem kc_bipush_16 : (Int8.ofInt (16)).toInt32 = (16 : Int32) := by decide
theorem kc_bipush_20 : (Int8.ofInt (20)).toInt32 = (20 : Int32) := by decide
theorem kc_bipush_23 : (Int8.ofInt (23)).toInt32 = (23 : Int32) := by decide
theorem kc_bipush_24 : (Int8.ofInt (24)).toInt32 = (24 : Int32) := by decide
theorem kc_bipush_31 : (Int8.ofInt (31)).toInt32 = (31 : Int32) := by decide
theorem kc_bipush_32 : (Int8.ofInt (32)).toInt32 = (32 : Int32) := by decide
theorem kc_bipush_35 : (Int8.ofInt (35)).toInt32 = (35 : Int32) := by decide
theorem kc_bipush_40 : (Int8.ofInt (40)).toInt32 = (40 : Int32) := by decide
theorem kc_bipush_43 : (Int8.ofInt (43)).toInt32 = (43 : Int32) := by decide
theorem kc_bipush_45 : (Int8.ofInt (45)).toInt32 = (45 : Int32) := by decide
theorem kc_bipush_48 : (Int8.ofInt (48)).toInt32 = (48 : Int32) := by decide
theorem kc_bipush_57 : (Int8.ofInt (57)).toInt32 = (57 : Int32) := by decide
theorem kc_bipush_59 : (Int8.ofInt (59)).toInt32 = (59 : Int32) := by decide
theorem kc_bipush_60 : (Int8.ofInt (60)).toInt32 = (60 : Int32) := by decide
theorem kc_bipush_61 : (Int8.ofInt (61)).toInt32 = (61 : Int32) := by decide
theorem kc_bipush_64 : (Int8.ofInt (64)).toInt32 = (64 : Int32) := by decide
theorem kc_bipush_97 : (Int8.ofInt (97)).toInt32 = (97 : Int32) := by decide
theorem kc_bipush_100 : (Int8.ofInt (100)).toInt32 = (100 : Int32) := by decide
theorem kc_bipush_102 : (Int8.ofInt (102)).toInt32 = (102 : Int32) := by decide
theorem kc_bipush_122 : (Int8.ofInt (122)).toInt32 = (122 : Int32) := by decide
theorem kc_bipush_123 : (Int8.ofInt (123)).toInt32 = (123 : Int32) := by decide
theorem kc_bipush_125 : (Int8.ofInt (125)).toInt32 = (125 : Int32) := by decide
theorem kc_iconst_m1 : Int32.ofInt (-1) = (-1 : Int32) := by decide
theorem kc_iconst_0 : Int32.ofInt (0) = (0 : Int32) := by decide
theorem kc_iconst_1 : Int32.ofInt (1) = (1 : Int32) := by decide
theorem kc_iconst_2 : Int32.ofInt (2) = (2 : Int32) := by decide
theorem kc_iconst_3 : Int32.ofInt (3) = (3 : Int32) := by decide
theorem kc_iconst_4 : Int32.ofInt (4) = (4 : Int32) := by decide
theorem kc_iconst_5 : Int32.ofInt (5) = (5 : Int32) := by decide
theorem kc_sipush_200 : (Int16.ofInt (200)).toInt32 = (200 : Int32) := by decide
theorem kc_sipush_201 : (Int16.ofInt (201)).toInt32 = (201 : Int32) := by decide
theorem kc_sipush_255 : (Int16.ofInt (255)).toInt32 = (255 : Int32) := by decide
theorem kc_sipush_256 : (Int16.ofInt (256)).toInt32 = (256 : Int32) := by decide
theorem kc_sipush_400 : (Int16.ofInt (400)).toInt32 = (400 : Int32) := by decide
theorem kc_sipush_480 : (Int16.ofInt (480)).toInt32 = (480 : Int32) := by decide
theorem kc_sipush_512 : (Int16.ofInt (512)).toInt32 = (512 : Int32) := by decide
theorem kc_sipush_1000 : (Int16.ofInt (1000)).toInt32 = (1000 : Int32) := by decide
theorem kc_sipush_1200 : (Int16.ofInt (1200)).toInt32 = (1200 : Int32) := by decide
theorem kc_sipush_2000 : (Int16.ofInt (2000)).toInt32 = (2000 : Int32) := by decide
theorem kc_sipush_2200 : (Int16.ofInt (2200)).toInt32 = (2200 : Int32) := by decide
theorem kc_sipush_10000 : (Int16.ofInt (10000)).toInt32 = (10000 : Int32) := by decide
theorem kz_m8 (x : Int32) : x + Int32.ofInt (-8) = x + (-8) := by rw [show Int32.ofInt (-8) = (-8 : Int32) from by decide]
theorem kz_m1 (x : Int32) : x + Int32.ofInt (-1) = x + (-1) := by rw [show Int32.ofInt (-1) = (-1 : Int32) from by decide]
theorem kz_1 (x : Int32) : x + Int32.ofInt (1) = x + (1) := by rw [show Int32.ofInt (1) = (1 : Int32) from by decide]
theorem kz_6 (x : Int32) : x + Int32.ofInt (6) = x + (6) := by rw [show Int32.ofInt (6) = (6 : Int32) from by decide]
section MT
variable {X : mj_XT} {G : mj_GT} {own nm : String} {cc : ByteArray} {mL d : Nat} {ret : Option FieldType} {P : mj_PT} {S : mj_ST} {n : Nat} {ad : Nat → Nat} {kc ks pc : Nat} {ls : List (Nat × Value)} {st : List Value} {I : mj_IT} {L : mj_LT}
theorem mj_tsI {x v : Int32} {dflt lo hi : Int} {offs : Array Int} {len : Nat} {off : Int} (tgt : Nat) (hx : x = v) (hd : decode cc pc = .ok (.tableswitch dflt lo hi offs, len)) (h1 : ¬ v.toInt < lo) (h2 : ¬ hi < v.toInt) (ho : offs[(v.toInt - lo).toNat]? = some off) (ht : (pc : Int) + off = (tgt : Int)) (k : mj_W X G own nm cc mL d ret P S n ad kc ks tgt ls (st) (I) (L)) : mj_W X G own nm cc mL d ret P S n ad kc ks pc ls (.int x :: st) (I) (L) := by
  obtain ⟨p, l, e, R, s, m, args, below, meth, c, Q, A⟩ := X
  intro C H locs la hP hD hS hl
  subst hx
  exact lv_tableIn C.1 C.2.1 hd h1 h2 ho ht (k C H locs la hP hD hS hl)
theorem mj_tsO {x : Int32} {dflt lo hi : Int} {offs : Array Int} {len : Nat} (tgt : Nat) (h : x.toInt < lo ∨ hi < x.toInt) (hd : decode cc pc = .ok (.tableswitch dflt lo hi offs, len)) (ht : (pc : Int) + dflt = (tgt : Int)) (k : mj_W X G own nm cc mL d ret P S n ad kc ks tgt ls (st) (I) (L)) : mj_W X G own nm cc mL d ret P S n ad kc ks pc ls (.int x :: st) (I) (L) := by
  obtain ⟨p, l, e, R, s, m, args, below, meth, c, Q, A⟩ := X
  intro C H locs la hP hD hS hl
  exact lv_tableOut C.1 C.2.1 hd h ht (k C H locs la hP hD hS hl)
end MT
theorem ts_0_3 (x : Int32) (h0 : ¬ x = (0 : Int32)) (h1 : ¬ x = (1 : Int32)) (h2 : ¬ x = (2 : Int32)) (h3 : ¬ x = (3 : Int32)) : x.toInt < 0 ∨ 3 < x.toInt := by
  by_cases h : x.toInt < 0 ∨ 3 < x.toInt
  · exact h
  · exfalso
    have hx : x.toInt = 0 ∨ x.toInt = 1 ∨ x.toInt = 2 ∨ x.toInt = 3 := by omega
    rcases hx with e | e | e | e
    · exact h0 (Int32.toInt_inj.mp (e.trans (by decide)))
    · exact h1 (Int32.toInt_inj.mp (e.trans (by decide)))
    · exact h2 (Int32.toInt_inj.mp (e.trans (by decide)))
    · exact h3 (Int32.toInt_inj.mp (e.trans (by decide)))
theorem ts_0_6 (x : Int32) (h0 : ¬ x = (0 : Int32)) (h1 : ¬ x = (1 : Int32)) (h2 : ¬ x = (2 : Int32)) (h3 : ¬ x = (3 : Int32)) (h4 : ¬ x = (4 : Int32)) (h5 : ¬ x = (5 : Int32)) (h6 : ¬ x = (6 : Int32)) : x.toInt < 0 ∨ 6 < x.toInt := by
  by_cases h : x.toInt < 0 ∨ 6 < x.toInt
  · exact h
  · exfalso
    have hx : x.toInt = 0 ∨ x.toInt = 1 ∨ x.toInt = 2 ∨ x.toInt = 3 ∨ x.toInt = 4 ∨ x.toInt = 5 ∨ x.toInt = 6 := by omega
    rcases hx with e | e | e | e | e | e | e
    · exact h0 (Int32.toInt_inj.mp (e.trans (by decide)))
    · exact h1 (Int32.toInt_inj.mp (e.trans (by decide)))
    · exact h2 (Int32.toInt_inj.mp (e.trans (by decide)))
    · exact h3 (Int32.toInt_inj.mp (e.trans (by decide)))
    · exact h4 (Int32.toInt_inj.mp (e.trans (by decide)))
    · exact h5 (Int32.toInt_inj.mp (e.trans (by decide)))
    · exact h6 (Int32.toInt_inj.mp (e.trans (by decide)))
theorem ts_0_9 (x : Int32) (h0 : ¬ x = (0 : Int32)) (h1 : ¬ x = (1 : Int32)) (h2 : ¬ x = (2 : Int32)) (h3 : ¬ x = (3 : Int32)) (h4 : ¬ x = (4 : Int32)) (h5 : ¬ x = (5 : Int32)) (h6 : ¬ x = (6 : Int32)) (h7 : ¬ x = (7 : Int32)) (h8 : ¬ x = (8 : Int32)) (h9 : ¬ x = (9 : Int32)) : x.toInt < 0 ∨ 9 < x.toInt := by
  by_cases h : x.toInt < 0 ∨ 9 < x.toInt
  · exact h
  · exfalso
    have hx : x.toInt = 0 ∨ x.toInt = 1 ∨ x.toInt = 2 ∨ x.toInt = 3 ∨ x.toInt = 4 ∨ x.toInt = 5 ∨ x.toInt = 6 ∨ x.toInt = 7 ∨ x.toInt = 8 ∨ x.toInt = 9 := by omega
    rcases hx with e | e | e | e | e | e | e | e | e | e
    · exact h0 (Int32.toInt_inj.mp (e.trans (by decide)))
    · exact h1 (Int32.toInt_inj.mp (e.trans (by decide)))
    · exact h2 (Int32.toInt_inj.mp (e.trans (by decide)))
    · exact h3 (Int32.toInt_inj.mp (e.trans (by decide)))
    · exact h4 (Int32.toInt_inj.mp (e.trans (by decide)))
    · exact h5 (Int32.toInt_inj.mp (e.trans (by decide)))
    · exact h6 (Int32.toInt_inj.mp (e.trans (by decide)))
    · exact h7 (Int32.toInt_inj.mp (e.trans (by decide)))
    · exact h8 (Int32.toInt_inj.mp (e.trans (by decide)))
    · exact h9 (Int32.toInt_inj.mp (e.trans (by decide)))
theorem ts_0_24 (x : Int32) (h0 : ¬ x = (0 : Int32)) (h1 : ¬ x = (1 : Int32)) (h2 : ¬ x = (2 : Int32)) (h3 : ¬ x = (3 : Int32)) (h4 : ¬ x = (4 : Int32)) (h5 : ¬ x = (5 : Int32)) (h6 : ¬ x = (6 : Int32)) (h7 : ¬ x = (7 : Int32)) (h8 : ¬ x = (8 : Int32)) (h9 : ¬ x = (9 : Int32)) (h10 : ¬ x = (10 : Int32)) (h11 : ¬ x = (11 : Int32)) (h12 : ¬ x = (12 : Int32)) (h13 : ¬ x = (13 : Int32)) (h14 : ¬ x = (14 : Int32)) (h15 : ¬ x = (15 : Int32)) (h16 : ¬ x = (16 : Int32)) (h17 : ¬ x = (17 : Int32)) (h18 : ¬ x = (18 : Int32)) (h19 : ¬ x = (19 : Int32)) (h20 : ¬ x = (20 : Int32)) (h21 : ¬ x = (21 : Int32)) (h22 : ¬ x = (22 : Int32)) (h23 : ¬ x = (23 : Int32)) (h24 : ¬ x = (24 : Int32)) : x.toInt < 0 ∨ 24 < x.toInt := by
  by_cases h : x.toInt < 0 ∨ 24 < x.toInt
  · exact h
  · exfalso
    have hx : x.toInt = 0 ∨ x.toInt = 1 ∨ x.toInt = 2 ∨ x.toInt = 3 ∨ x.toInt = 4 ∨ x.toInt = 5 ∨ x.toInt = 6 ∨ x.toInt = 7 ∨ x.toInt = 8 ∨ x.toInt = 9 ∨ x.toInt = 10 ∨ x.toInt = 11 ∨ x.toInt = 12 ∨ x.toInt = 13 ∨ x.toInt = 14 ∨ x.toInt = 15 ∨ x.toInt = 16 ∨ x.toInt = 17 ∨ x.toInt = 18 ∨ x.toInt = 19 ∨ x.toInt = 20 ∨ x.toInt = 21 ∨ x.toInt = 22 ∨ x.toInt = 23 ∨ x.toInt = 24 := by omega
    rcases hx with e | e | e | e | e | e | e | e | e | e | e | e | e | e | e | e | e | e | e | e | e | e | e | e | e
    · exact h0 (Int32.toInt_inj.mp (e.trans (by decide)))
    · exact h1 (Int32.toInt_inj.mp (e.trans (by decide)))
    · exact h2 (Int32.toInt_inj.mp (e.trans (by decide)))
    · exact h3 (Int32.toInt_inj.mp (e.trans (by decide)))
    · exact h4 (Int32.toInt_inj.mp (e.trans (by decide)))
    · exact h5 (Int32.toInt_inj.mp (e.trans (by decide)))
    · exact h6 (Int32.toInt_inj.mp (e.trans (by decide)))
    · exact h7 (Int32.toInt_inj.mp (e.trans (by decide)))
    · exact h8 (Int32.toInt_inj.mp (e.trans (by decide)))
    · exact h9 (Int32.toInt_inj.mp (e.trans (by decide)))
    · exact h10 (Int32.toInt_inj.mp (e.trans (by decide)))
    · exact h11 (Int32.toInt_inj.mp (e.trans (by decide)))
    · exact h12 (Int32.toInt_inj.mp (e.trans (by decide)))
    · exact h13 (Int32.toInt_inj.mp (e.trans (by decide)))
    · exact h14 (Int32.toInt_inj.mp (e.trans (by decide)))
    · exact h15 (Int32.toInt_inj.mp (e.trans (by decide)))
    · exact h16 (Int32.toInt_inj.mp (e.trans (by decide)))
    · exact h17 (Int32.toInt_inj.mp (e.trans (by decide)))
    · exact h18 (Int32.toInt_inj.mp (e.trans (by decide)))
    · exact h19 (Int32.toInt_inj.mp (e.trans (by decide)))
    · exact h20 (Int32.toInt_inj.mp (e.trans (by decide)))
    · exact h21 (Int32.toInt_inj.mp (e.trans (by decide)))
    · exact h22 (Int32.toInt_inj.mp (e.trans (by decide)))
    · exact h23 (Int32.toInt_inj.mp (e.trans (by decide)))
    · exact h24 (Int32.toInt_inj.mp (e.trans (by decide)))
theorem ts_1_4 (x : Int32) (h1 : ¬ x = (1 : Int32)) (h2 : ¬ x = (2 : Int32)) (h3 : ¬ x = (3 : Int32)) (h4 : ¬ x = (4 : Int32)) : x.toInt < 1 ∨ 4 < x.toInt := by
  by_cases h : x.toInt < 1 ∨ 4 < x.toInt
  · exact h
  · exfalso
    have hx : x.toInt = 1 ∨ x.toInt = 2 ∨ x.toInt = 3 ∨ x.toInt = 4 := by omega
    rcases hx with e | e | e | e
    · exact h1 (Int32.toInt_inj.mp (e.trans (by decide)))
    · exact h2 (Int32.toInt_inj.mp (e.trans (by decide)))
    · exact h3 (Int32.toInt_inj.mp (e.trans (by decide)))
    · exact h4 (Int32.toInt_inj.mp (e.trans (by decide)))
theorem mn_X8_39 : Cond.methodLink RX8 39 Lib.Math.min.name ∈ mj_tb ∧ Cond.static Lib.Math.min.name ∈ mj_tb ∧ Cond.initialized "java/lang/Math" ∈ mj_tb ∧ Cond.code Lib.Math.min.name Lib.Math.min.code 2 (some .int) ∈ mj_tb := ⟨mj_seg_3 (j := 144) (by decide +kernel) rfl, mj_seg_3 (j := 145) (by decide +kernel) rfl, mj_seg_1 (j := 15) (by decide +kernel) rfl, mj_seg_3 (j := 146) (by decide +kernel) rfl⟩
theorem mn_X11_79 : Cond.methodLink RX11 79 Lib.Math.min.name ∈ mj_tb ∧ Cond.static Lib.Math.min.name ∈ mj_tb ∧ Cond.initialized "java/lang/Math" ∈ mj_tb ∧ Cond.code Lib.Math.min.name Lib.Math.min.code 2 (some .int) ∈ mj_tb := ⟨mj_seg_7 (j := 58) (by decide +kernel) rfl, mj_seg_3 (j := 145) (by decide +kernel) rfl, mj_seg_1 (j := 15) (by decide +kernel) rfl, mj_seg_3 (j := 146) (by decide +kernel) rfl⟩
theorem mx_X11_413 : Cond.methodLink RX11 413 Lib.MathLoose.max_long.x ∈ mj_tb ∧ Cond.static Lib.MathLoose.max_long.x ∈ mj_tb ∧ Cond.initialized "java/lang/Math" ∈ mj_tb ∧ Cond.code Lib.MathLoose.max_long.x Lib.MathLoose.max_long.code 4 (some .long) ∈ mj_tb := ⟨mj_seg_8 (j := 88) (by decide +kernel) rfl, mj_seg_8 (j := 89) (by decide +kernel) rfl, mj_seg_1 (j := 15) (by decide +kernel) rfl, mj_seg_8 (j := 90) (by decide +kernel) rfl⟩
