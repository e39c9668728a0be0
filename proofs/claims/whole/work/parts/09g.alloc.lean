/-! ===== making cells: constructors ===== -/
def mj_lv (n : Nat) (v : Value) : Bool := match v with
  | .ref a => decide (a ≤ n) || decide (2000 ≤ a)
  | _ => true
def mj_ex (n : Nat) (ad ad' : Nat → Nat) : Prop := ∀ a, (a ≤ n ∨ 2000 ≤ a) → ad' a = ad a
theorem mj_ex.rf {n : Nat} {ad : Nat → Nat} : mj_ex n ad ad := fun _ _ => rfl
theorem mj_ex.tr {n n' : Nat} (hn : n ≤ n') {a b c : Nat → Nat} (h1 : mj_ex n a b) (h2 : mj_ex n' b c) : mj_ex n a c := fun x hx => (h2 x (by omega)).trans (h1 x hx)
theorem mj_ex_up {n : Nat} (hn : n < 1999) (ad : Nat → Nat) (q : Nat) : mj_ex n ad (va_up ad (n + 1) q) := fun a ha => by
  have : a ≠ n + 1 := by omega
  simp [va_up, this]
theorem mj_lv_v {n : Nat} {ad ad' : Nat → Nat} (h : mj_ex n ad ad') {v : Value} (hv : mj_lv n v = true) : mj_v ad' v = mj_v ad v := by
  cases v with
  | ref a =>
    have h1 : a ≤ n ∨ 2000 ≤ a := by simpa [mj_lv] using hv
    simp only [mj_v, h a h1]
  | _ => rfl
theorem mj_lv_st {n : Nat} {ad ad' : Nat → Nat} (h : mj_ex n ad ad') {st : List Value} (hv : st.all (mj_lv n) = true) : st.map (mj_v ad') = st.map (mj_v ad) := by
  apply List.map_congr_left
  intro v hm
  exact mj_lv_v h (List.all_eq_true.mp hv v hm)
theorem mj_lv_ls {n : Nat} {ad ad' : Nat → Nat} (h : mj_ex n ad ad') {ls : List (Nat × Value)} (hv : ls.all (fun q => mj_lv n q.2) = true) : ls.map (fun q => (q.1, mj_v ad' q.2)) = ls.map (fun q => (q.1, mj_v ad q.2)) := by
  apply List.map_congr_left
  intro q hm
  rw [mj_lv_v h (List.all_eq_true.mp hv q hm)]
/-- the references so far lie within the cells so far -/
def mj_in9 (P : mj_PT) (n : Nat) : Prop := ∀ a k, P a k ≤ n
theorem mj_w_more {G : mj_GT} {ad ad' : Nat → Nat} {P P' : mj_PT} {S : mj_ST} {n : Nat} {I I' : mj_IT} {L L' : mj_LT} (hx : mj_ex n ad ad') (hp : mj_in9 P n) (h1 : ∀ a, a ≤ n → P' a = P a) (h2 : ∀ a, a ≤ n → I' a = I a) (h3 : ∀ a, a ≤ n → L' a = L a) : mj_w G ad' P' S (n + 1) I' L' = mj_w G ad P S n I L ++ [(ad' (n + 1), mj_E G ad' P' S I' L' (n + 1))] := by
  unfold mj_w
  rw [List.range_succ, List.map_append]
  refine congrArg (fun z => z ++ _) ?_
  apply List.map_congr_left
  intro i hi
  have hi2 : i + 1 ≤ n := by have := List.mem_range.mp hi; omega
  have hfv : ∀ ci, mj_fv ad' P' I' L' ci (i + 1) = mj_fv ad P I L ci (i + 1) := by
    intro ci
    funext k
    simp only [mj_fv, h1 _ hi2, h2 _ hi2, h3 _ hi2, hx _ (Or.inl (hp (i + 1) k))]
  simp only [mj_E, h2 _ hi2, h3 _ hi2, hfv, hx _ (Or.inl hi2)]
theorem mj_une {α : Type} {f : Nat → α} {n a : Nat} {v : α} (h : a ≤ n) : va_up f (n + 1) v a = f a := by
  have : a ≠ n + 1 := by omega
  simp [va_up, this]
section MA
variable {X : mj_XT} {l : Launch} {G : mj_GT} {own nm : String} {cc : ByteArray} {mL d : Nat} {ret : Option FieldType} {P : mj_PT} {S : mj_ST} {n : Nat} {ad : Nat → Nat} {mc ms kc ks pc : Nat} {ls : List (Nat × Value)} {st : List Value} {I : mj_IT} {L : mj_LT}
theorem mj_newaI {N : Nat} {v : Int32} (hv : ¬ v < 0 ∧ v.toNatClampNeg = N ∧ N * 8 ≤ 536870912) (hs : S (n + 1) = (1, N)) (hn : n < 1999) (hp : mj_in9 P n) (hls : ls.all (fun q => mj_lv n q.2) = true) (hst : st.all (mj_lv n) = true) (hw : Cond.arrayClass .int ∈ mj_tb) (hf : kc + 1 ≤ X.2.2.2.1.cells ∧ ks + N ≤ X.2.2.2.1.slots) (hd : decode cc pc = .ok (.newarray .int, 2))
    (k : ∀ q : Nat, mj_W X G own nm cc mL d ret P S (n + 1) (va_up ad (n + 1) q) (kc + 1) (ks + N) (pc + 2) ls (.ref (n + 1) :: st) (va_up I (n + 1) (fun _ => 0)) (L)) : mj_W X G own nm cc mL d ret P S n ad kc ks pc ls (.int v :: st) (I) (L) := by
  obtain ⟨p, l0, e_, R, s, m, args, below, meth, c, Q, A⟩ := X
  intro C H locs la hP hD hS hl
  refine va_newa (atype := .int) (ty := .int) (a0 := (N, .inl (fun _ => 0))) (N' := N) C.1 C.2.1 (C.2.2.2.2.1 _ hw) rfl C.2.2.2.2.2.2.2.2.2.1 hP hD hS C.2.2.2.2.2.2.2.2.2.2.1 (fun cA => rfl) hv.1 hv.2.1 (by have := hv.2.2; first | (show N * 1 ≤ _; omega) | (show N * 4 ≤ _; omega) | (show N * 8 ≤ _; omega)) hf.1 hf.2 hd (fun q cA H1 hK1 hP1 hD1 hS1 => ?_)
  have hcA : cA = G.2.1 := by
    have a1 := (hK1.2 4 (cA, .int) rfl).2
    have a2 := (C.2.2.2.2.2.2.2.2.2.1.2 0 (G.2.1, .int) rfl).2
    exact Option.some.inj (a1.symm.trans a2)
  subst hcA
  have hx := mj_ex_up hn ad q
  have e : mj_w G (va_up ad (n + 1) q) P S (n + 1) (va_up I (n + 1) (fun _ => 0)) (L) = mj_w G ad P S n I L ++ [(q, .inl (G.2.1, (N, .inl (fun _ => 0))))] := by
    refine (mj_w_more hx hp (fun _ _ => rfl) (fun a ha => mj_une ha) (fun a ha => rfl)).trans ?_
    rw [mj_E1 hs]
    simp [va_up]
  rw [← e] at hP1 hD1
  have C2 : mj_C (p, l0, e_, R, s, m, args, below, meth, c, Q, A) G own nm cc mL d ret (va_up ad (n + 1) q) := by
    obtain ⟨c1, c2, c3, c4, c5, c6, c7, c8, c9, c10, c11, c12, c13⟩ := C
    exact ⟨c1, c2, c3, c4, c5, c6, c7, c8, c9, c10, c11, c12, fun i => (hx _ (Or.inr (by omega))).trans (c13 i)⟩
  have k1 := k q C2 H1 locs la hP1 hD1 hS1 (by rw [mj_lv_ls hx hls]; exact hl)
  simp only [List.map_cons, mj_lv_st hx hst, mj_v] at k1
  have e2 : va_up ad (n + 1) q (n + 1) = q := by simp [va_up]
  rw [e2] at k1
  exact k1
theorem mj_newaJ {N : Nat} {v : Int32} (hv : ¬ v < 0 ∧ v.toNatClampNeg = N ∧ N * 8 ≤ 536870912) (hs : S (n + 1) = (2, N)) (hn : n < 1999) (hp : mj_in9 P n) (hls : ls.all (fun q => mj_lv n q.2) = true) (hst : st.all (mj_lv n) = true) (hw : Cond.arrayClass .long ∈ mj_tb) (hf : kc + 1 ≤ X.2.2.2.1.cells ∧ ks + N ≤ X.2.2.2.1.slots) (hd : decode cc pc = .ok (.newarray .long, 2))
    (k : ∀ q : Nat, mj_W X G own nm cc mL d ret P S (n + 1) (va_up ad (n + 1) q) (kc + 1) (ks + N) (pc + 2) ls (.ref (n + 1) :: st) (I) (va_up L (n + 1) (fun _ => 0))) : mj_W X G own nm cc mL d ret P S n ad kc ks pc ls (.int v :: st) (I) (L) := by
  obtain ⟨p, l0, e_, R, s, m, args, below, meth, c, Q, A⟩ := X
  intro C H locs la hP hD hS hl
  refine va_newa (atype := .long) (ty := .long) (a0 := (N, .inr (.inl (fun _ => 0)))) (N' := N) C.1 C.2.1 (C.2.2.2.2.1 _ hw) rfl C.2.2.2.2.2.2.2.2.2.1 hP hD hS C.2.2.2.2.2.2.2.2.2.2.1 (fun cA => rfl) hv.1 hv.2.1 (by have := hv.2.2; first | (show N * 1 ≤ _; omega) | (show N * 4 ≤ _; omega) | (show N * 8 ≤ _; omega)) hf.1 hf.2 hd (fun q cA H1 hK1 hP1 hD1 hS1 => ?_)
  have hcA : cA = G.2.2.1 := by
    have a1 := (hK1.2 4 (cA, .long) rfl).2
    have a2 := (C.2.2.2.2.2.2.2.2.2.1.2 1 (G.2.2.1, .long) rfl).2
    exact Option.some.inj (a1.symm.trans a2)
  subst hcA
  have hx := mj_ex_up hn ad q
  have e : mj_w G (va_up ad (n + 1) q) P S (n + 1) (I) (va_up L (n + 1) (fun _ => 0)) = mj_w G ad P S n I L ++ [(q, .inl (G.2.2.1, (N, .inr (.inl (fun _ => 0)))))] := by
    refine (mj_w_more hx hp (fun _ _ => rfl) (fun a ha => rfl) (fun a ha => mj_une ha)).trans ?_
    rw [mj_E2 hs]
    simp [va_up]
  rw [← e] at hP1 hD1
  have C2 : mj_C (p, l0, e_, R, s, m, args, below, meth, c, Q, A) G own nm cc mL d ret (va_up ad (n + 1) q) := by
    obtain ⟨c1, c2, c3, c4, c5, c6, c7, c8, c9, c10, c11, c12, c13⟩ := C
    exact ⟨c1, c2, c3, c4, c5, c6, c7, c8, c9, c10, c11, c12, fun i => (hx _ (Or.inr (by omega))).trans (c13 i)⟩
  have k1 := k q C2 H1 locs la hP1 hD1 hS1 (by rw [mj_lv_ls hx hls]; exact hl)
  simp only [List.map_cons, mj_lv_st hx hst, mj_v] at k1
  have e2 : va_up ad (n + 1) q (n + 1) = q := by simp [va_up]
  rw [e2] at k1
  exact k1
theorem mj_newaZ {N : Nat} {v : Int32} (hv : ¬ v < 0 ∧ v.toNatClampNeg = N ∧ N * 8 ≤ 536870912) (hs : S (n + 1) = (3, N)) (hn : n < 1999) (hp : mj_in9 P n) (hls : ls.all (fun q => mj_lv n q.2) = true) (hst : st.all (mj_lv n) = true) (hw : Cond.arrayClass .boolean ∈ mj_tb) (hf : kc + 1 ≤ X.2.2.2.1.cells ∧ ks + N ≤ X.2.2.2.1.slots) (hd : decode cc pc = .ok (.newarray .boolean, 2))
    (k : ∀ q : Nat, mj_W X G own nm cc mL d ret P S (n + 1) (va_up ad (n + 1) q) (kc + 1) (ks + N) (pc + 2) ls (.ref (n + 1) :: st) (va_up I (n + 1) (fun _ => 0)) (L)) : mj_W X G own nm cc mL d ret P S n ad kc ks pc ls (.int v :: st) (I) (L) := by
  obtain ⟨p, l0, e_, R, s, m, args, below, meth, c, Q, A⟩ := X
  intro C H locs la hP hD hS hl
  refine va_newa (atype := .boolean) (ty := .boolean) (a0 := (N, .inl (fun _ => 0))) (N' := N) C.1 C.2.1 (C.2.2.2.2.1 _ hw) rfl C.2.2.2.2.2.2.2.2.2.1 hP hD hS C.2.2.2.2.2.2.2.2.2.2.1 (fun cA => rfl) hv.1 hv.2.1 (by have := hv.2.2; first | (show N * 1 ≤ _; omega) | (show N * 4 ≤ _; omega) | (show N * 8 ≤ _; omega)) hf.1 hf.2 hd (fun q cA H1 hK1 hP1 hD1 hS1 => ?_)
  have hcA : cA = G.2.2.2.1 := by
    have a1 := (hK1.2 4 (cA, .boolean) rfl).2
    have a2 := (C.2.2.2.2.2.2.2.2.2.1.2 2 (G.2.2.2.1, .boolean) rfl).2
    exact Option.some.inj (a1.symm.trans a2)
  subst hcA
  have hx := mj_ex_up hn ad q
  have e : mj_w G (va_up ad (n + 1) q) P S (n + 1) (va_up I (n + 1) (fun _ => 0)) (L) = mj_w G ad P S n I L ++ [(q, .inl (G.2.2.2.1, (N, .inl (fun _ => 0))))] := by
    refine (mj_w_more hx hp (fun _ _ => rfl) (fun a ha => mj_une ha) (fun a ha => rfl)).trans ?_
    rw [mj_E3 hs]
    simp [va_up]
  rw [← e] at hP1 hD1
  have C2 : mj_C (p, l0, e_, R, s, m, args, below, meth, c, Q, A) G own nm cc mL d ret (va_up ad (n + 1) q) := by
    obtain ⟨c1, c2, c3, c4, c5, c6, c7, c8, c9, c10, c11, c12, c13⟩ := C
    exact ⟨c1, c2, c3, c4, c5, c6, c7, c8, c9, c10, c11, c12, fun i => (hx _ (Or.inr (by omega))).trans (c13 i)⟩
  have k1 := k q C2 H1 locs la hP1 hD1 hS1 (by rw [mj_lv_ls hx hls]; exact hl)
  simp only [List.map_cons, mj_lv_st hx hst, mj_v] at k1
  have e2 : va_up ad (n + 1) q (n + 1) = q := by simp [va_up]
  rw [e2] at k1
  exact k1
theorem mj_newaB {N : Nat} {v : Int32} (hv : ¬ v < 0 ∧ v.toNatClampNeg = N ∧ N * 8 ≤ 536870912) (hs : S (n + 1) = (4, N)) (hn : n < 1999) (hp : mj_in9 P n) (hls : ls.all (fun q => mj_lv n q.2) = true) (hst : st.all (mj_lv n) = true) (hw : Cond.arrayClass .byte ∈ mj_tb) (hf : kc + 1 ≤ X.2.2.2.1.cells ∧ ks + N ≤ X.2.2.2.1.slots) (hd : decode cc pc = .ok (.newarray .byte, 2))
    (k : ∀ q : Nat, mj_W X G own nm cc mL d ret P S (n + 1) (va_up ad (n + 1) q) (kc + 1) (ks + N) (pc + 2) ls (.ref (n + 1) :: st) (va_up I (n + 1) (fun _ => 0)) (L)) : mj_W X G own nm cc mL d ret P S n ad kc ks pc ls (.int v :: st) (I) (L) := by
  obtain ⟨p, l0, e_, R, s, m, args, below, meth, c, Q, A⟩ := X
  intro C H locs la hP hD hS hl
  refine va_newa (atype := .byte) (ty := .byte) (a0 := (N, .inl (fun _ => 0))) (N' := N) C.1 C.2.1 (C.2.2.2.2.1 _ hw) rfl C.2.2.2.2.2.2.2.2.2.1 hP hD hS C.2.2.2.2.2.2.2.2.2.2.1 (fun cA => rfl) hv.1 hv.2.1 (by have := hv.2.2; first | (show N * 1 ≤ _; omega) | (show N * 4 ≤ _; omega) | (show N * 8 ≤ _; omega)) hf.1 hf.2 hd (fun q cA H1 hK1 hP1 hD1 hS1 => ?_)
  have hcA : cA = G.2.2.2.2.1 := by
    have a1 := (hK1.2 4 (cA, .byte) rfl).2
    have a2 := (C.2.2.2.2.2.2.2.2.2.1.2 3 (G.2.2.2.2.1, .byte) rfl).2
    exact Option.some.inj (a1.symm.trans a2)
  subst hcA
  have hx := mj_ex_up hn ad q
  have e : mj_w G (va_up ad (n + 1) q) P S (n + 1) (va_up I (n + 1) (fun _ => 0)) (L) = mj_w G ad P S n I L ++ [(q, .inl (G.2.2.2.2.1, (N, .inl (fun _ => 0))))] := by
    refine (mj_w_more hx hp (fun _ _ => rfl) (fun a ha => mj_une ha) (fun a ha => rfl)).trans ?_
    rw [mj_E4 hs]
    simp [va_up]
  rw [← e] at hP1 hD1
  have C2 : mj_C (p, l0, e_, R, s, m, args, below, meth, c, Q, A) G own nm cc mL d ret (va_up ad (n + 1) q) := by
    obtain ⟨c1, c2, c3, c4, c5, c6, c7, c8, c9, c10, c11, c12, c13⟩ := C
    exact ⟨c1, c2, c3, c4, c5, c6, c7, c8, c9, c10, c11, c12, fun i => (hx _ (Or.inr (by omega))).trans (c13 i)⟩
  have k1 := k q C2 H1 locs la hP1 hD1 hS1 (by rw [mj_lv_ls hx hls]; exact hl)
  simp only [List.map_cons, mj_lv_st hx hst, mj_v] at k1
  have e2 : va_up ad (n + 1) q (n + 1) = q := by simp [va_up]
  rw [e2] at k1
  exact k1
def mj_dv (t : FieldType) : Value := match mj_tc t with
  | 0 => .int 0
  | 1 => .long 0
  | _ => .null
theorem mj_new {ix ci N : Nat} (hc : mj_K1 ci) (hN : mj_nf ci = N) (hdf : ∀ j, j < mj_nf ci → defaultValue (mj_ft ci j) = mj_dv (mj_ft ci j)) (hs : S (n + 1) = (0, ci)) (hn : n < 1999) (hp : mj_in9 P n) (hls : ls.all (fun q => mj_lv n q.2) = true) (hst : st.all (mj_lv n) = true) (hw : Cond.classLink own ix (mj_Rn ci) ∈ mj_tb ∧ Cond.instantiable (mj_Rn ci) N ∈ mj_tb ∧ Cond.initialized (mj_Rn ci) ∈ mj_tb) (hf : kc + 1 ≤ X.2.2.2.1.cells ∧ ks + N ≤ X.2.2.2.1.slots) (hd : decode cc pc = .ok (.new ix, 3))
    (k : ∀ q : Nat, mj_W X G own nm cc mL d ret (va_up P (n + 1) (fun _ => 0)) S (n + 1) (va_up ad (n + 1) q) (kc + 1) (ks + N) (pc + 3) ls (.ref (n + 1) :: st) (va_up I (n + 1) (fun _ => 0)) (va_up L (n + 1) (fun _ => 0))) : mj_W X G own nm cc mL d ret P S n ad kc ks pc ls (st) (I) (L) := by
  obtain ⟨p, l0, e_, R, s, m, args, below, meth, c, Q, A⟩ := X
  intro C H locs la hP hD hS hl
  subst hN
  refine va_new (ci := ci) (C := mj_Rn ci) (T := mj_T ci) (N := mj_nf ci) (fs := (List.range (mj_nf ci)).map (fun j => mj_dv (mj_ft ci j))) C.1 C.2.1 C.2.2.2.2.1 hc.2.1 (mj_ft ci) hc.2.2.1 C.2.2.2.1 (C.2.2.2.2.1 _ hw.1) (C.2.2.2.2.1 _ hw.2.1) (C.2.2.2.2.1 _ hw.2.2) C.2.2.2.2.2.2.2.2.2.1 hP hD hS C.2.2.2.2.2.2.2.2.2.2.1 (mj_cl_at hc.1) (fun j hj => by rw [hdf j hj]; simp [vp_V, hj]) hf.1 hf.2 hd (fun q H1 hP1 hD1 hS1 => ?_)
  have hx := mj_ex_up hn ad q
  have e : mj_w G (va_up ad (n + 1) q) (va_up P (n + 1) (fun _ => 0)) S (n + 1) (va_up I (n + 1) (fun _ => 0)) (va_up L (n + 1) (fun _ => 0)) = mj_w G ad P S n I L ++ [(q, .inr (ci, (List.range (mj_nf ci)).map (fun j => mj_dv (mj_ft ci j))))] := by
    have ne : ∀ a, a ≤ n → a ≠ n + 1 := fun a ha => by omega
    refine (mj_w_more hx hp (fun a ha => mj_une ha) (fun a ha => mj_une ha) (fun a ha => mj_une ha)).trans ?_
    rw [mj_E0 hs]
    have hfv : mj_fv (va_up ad (n + 1) q) (va_up P (n + 1) (fun _ => 0)) (va_up I (n + 1) (fun _ => 0)) (va_up L (n + 1) (fun _ => 0)) ci (n + 1) = fun j => mj_dv (mj_ft ci j) := by
      funext j
      simp only [mj_fv, mj_dv, va_up, if_true]
      generalize mj_tc (mj_ft ci j) = t
      rcases t with _ | _ | t <;> rfl
    rw [hfv]
    simp [va_up]
  rw [← e] at hP1 hD1
  have C2 : mj_C (p, l0, e_, R, s, m, args, below, meth, c, Q, A) G own nm cc mL d ret (va_up ad (n + 1) q) := by
    obtain ⟨c1, c2, c3, c4, c5, c6, c7, c8, c9, c10, c11, c12, c13⟩ := C
    exact ⟨c1, c2, c3, c4, c5, c6, c7, c8, c9, c10, c11, c12, fun i => (hx _ (Or.inr (by omega))).trans (c13 i)⟩
  have k1 := k q C2 H1 locs la hP1 hD1 hS1 (by rw [mj_lv_ls hx hls]; exact hl)
  simp only [List.map_cons, mj_lv_st hx hst, mj_v] at k1
  have e2 : va_up ad (n + 1) q (n + 1) = q := by simp [va_up]
  rw [e2] at k1
  exact k1
theorem mj_objInit {ix a : Nat} (hw : Cond.methodLink own ix objectInit ∈ mj_tb ∧ Cond.instanceMethod objectInit ∈ mj_tb ∧ Cond.code objectInit ⟨#[0xb1]⟩ 1 none ∈ mj_tb) (hdd : 1 ≤ d) (hsm : (st.map fun v => v.category).sum ≤ 8) (hd : decode cc pc = .ok (.invokespecial ix, 3)) (k : mj_W X G own nm cc mL d ret P S n ad kc ks (pc + 3) ls (st) (I) (L)) : mj_W X G own nm cc mL d ret P S n ad kc ks pc ls (.ref a :: st) (I) (L) := by
  obtain ⟨p, l0, e, R, s, m, args, below, meth, c, Q, A⟩ := X
  intro C H locs la hP hD hS hl
  have hr := C.2.2.2.2.2.2.2.2.1
  have e2 : ((st.map (mj_v ad)).map fun v => v.category).sum ≤ 8 := by
    rw [List.map_map, show (fun v : Value => v.category) ∘ mj_v ad = fun v : Value => v.category from funext (mj_v_cat ad)]
    exact hsm
  have h1 : 1 ≤ R.frames := by omega
  have h3 : 2 * (F0 m pc la ((Value.ref a :: st).map (mj_v ad))).monitorRoom + ((st.map (mj_v ad)).map fun v => v.category).sum ≤ 8 := lv_room e2
  exact W.objInit C.1 C.2.1 C.2.2.2.1 (C.2.2.2.2.1 _ hw.1) (C.2.2.2.2.1 _ hw.2.1) (C.2.2.2.2.1 _ hw.2.2) rfl (hl.1.trans C.2.2.1.symm) rfl hd h1 (by omega) (k C H locs la hP hD hS hl)
end MA
