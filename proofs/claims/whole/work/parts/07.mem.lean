/-! ===== fields, rows, calls, returns of the mini machine ===== -/
theorem mj_fs_at {f : Nat → Value} {N k : Nat} (h : k < N) : ((List.range N).map f)[k]? = some (f k) := by simp [h]
theorem mj_fs_set {f g : Nat → Value} {N k : Nat} {v : Value} (hk : g k = v) (ho : ∀ j, j ≠ k → g j = f j) : ((List.range N).map f).set k v = (List.range N).map g := by
  apply List.ext_getElem?
  intro j
  by_cases hj : j < N
  · by_cases hjk : j = k
    · subst hjk
      rw [List.getElem?_set_self (by simpa using hj)]
      simp [hj, hk]
    · rw [List.getElem?_set_ne (fun z => hjk z.symm)]
      simp [hj, ho j hjk]
  · rw [List.getElem?_eq_none (by simp; omega), List.getElem?_eq_none (by simp; omega)]
theorem mj_E0 {G : mj_GT} {ad : Nat → Nat} {P : mj_PT} {S : mj_ST} {I : mj_IT} {L : mj_LT} {a ci : Nat} (h : S a = (0, ci)) : mj_E G ad P S I L a = .inr (ci, (List.range (mj_nf ci)).map (mj_fv ad P I L ci a)) := by simp only [mj_E, h]
theorem mj_E1 {G : mj_GT} {ad : Nat → Nat} {P : mj_PT} {S : mj_ST} {I : mj_IT} {L : mj_LT} {a N : Nat} (h : S a = (1, N)) : mj_E G ad P S I L a = .inl (G.2.1, N, .inl (I a)) := by simp only [mj_E, h]
theorem mj_E2 {G : mj_GT} {ad : Nat → Nat} {P : mj_PT} {S : mj_ST} {I : mj_IT} {L : mj_LT} {a N : Nat} (h : S a = (2, N)) : mj_E G ad P S I L a = .inl (G.2.2.1, N, .inr (.inl (L a))) := by simp only [mj_E, h]
theorem mj_E3 {G : mj_GT} {ad : Nat → Nat} {P : mj_PT} {S : mj_ST} {I : mj_IT} {L : mj_LT} {a N : Nat} (h : S a = (3, N)) : mj_E G ad P S I L a = .inl (G.2.2.2.1, N, .inl (I a)) := by simp only [mj_E, h]
theorem mj_E4 {G : mj_GT} {ad : Nat → Nat} {P : mj_PT} {S : mj_ST} {I : mj_IT} {L : mj_LT} {a N : Nat} (h : S a = (4, N)) : mj_E G ad P S I L a = .inl (G.2.2.2.2.1, N, .inl (I a)) := by simp only [mj_E, h]
theorem mj_oI {G : mj_GT} {ad : Nat → Nat} {P : mj_PT} {S : mj_ST} {I : mj_IT} {L : mj_LT} {a : Nat} {f : Nat → Int32} (b : Nat) (h : b ≠ a) : mj_E G ad P S (va_up I a f) L b = mj_E G ad P S I L b := by
  have e : va_up I a f b = I b := by simp [va_up, h]
  have e2 : ∀ ci, mj_fv ad P (va_up I a f) L ci b = mj_fv ad P I L ci b := fun ci => by funext k; simp only [mj_fv, e]
  simp only [mj_E, e, e2]
theorem mj_oL {G : mj_GT} {ad : Nat → Nat} {P : mj_PT} {S : mj_ST} {I : mj_IT} {L : mj_LT} {a : Nat} {f : Nat → Int64} (b : Nat) (h : b ≠ a) : mj_E G ad P S I (va_up L a f) b = mj_E G ad P S I L b := by
  have e : va_up L a f b = L b := by simp [va_up, h]
  have e2 : ∀ ci, mj_fv ad P I (va_up L a f) ci b = mj_fv ad P I L ci b := fun ci => by funext k; simp only [mj_fv, e]
  simp only [mj_E, e, e2]
theorem mj_oP {G : mj_GT} {ad : Nat → Nat} {P : mj_PT} {S : mj_ST} {I : mj_IT} {L : mj_LT} {a : Nat} {f : Nat → Nat} (b : Nat) (h : b ≠ a) : mj_E G ad (va_up P a f) S I L b = mj_E G ad P S I L b := by
  have e : va_up P a f b = P b := by simp [va_up, h]
  have e2 : ∀ ci, mj_fv ad (va_up P a f) I L ci b = mj_fv ad P I L ci b := fun ci => by funext k; simp only [mj_fv, e]
  simp only [mj_E, e2]
section MM
variable {X : mj_XT} {G : mj_GT} {own nm : String} {cc : ByteArray} {mL d : Nat} {ret : Option FieldType} {P : mj_PT} {S : mj_ST} {n : Nat} {ad : Nat → Nat} {kc ks pc : Nat} {ls : List (Nat × Value)} {st : List Value} {I : mj_IT} {L : mj_LT}
theorem mj_getI {ix ci a j : Nat} (hf : mj_fl own ix ci j) (ht : mj_tc (mj_ft ci j) = 0) (hs : S a = (0, ci)) (ha : 0 < a ∧ a ≤ n) (hd : decode cc pc = .ok (.getfield ix, 3)) (k : mj_W X G own nm cc mL d ret P S n ad kc ks (pc + 3) ls (.int (I a j) :: st) (I) (L)) : mj_W X G own nm cc mL d ret P S n ad kc ks pc ls (.ref a :: st) (I) (L) := by
  obtain ⟨p, l, e, R, s, m, args, below, meth, c, Q, A⟩ := X
  intro C H locs la hP hD hS hl
  exact va_get (v := .int (I a j)) (ci := ci) (C := mj_Rn ci) (T := mj_T ci) (N := mj_nf ci) C.1 C.2.1 C.2.2.2.2.1 hf.1.2.1 C.2.2.2.1 C.2.2.2.2.2.2.2.2.2.1 hP (a - 1) (by rw [mj_w_at ha.1 ha.2, mj_E0 hs]) (mj_cl_at hf.1.1) j hf.2.1 (C.2.2.2.2.1 _ hf.2.2) (fun _ h => h) (by rw [mj_fs_at hf.2.1]; simp only [mj_fv, ht]) hd (k C H locs la hP hD hS hl)
theorem mj_getL {ix ci a j : Nat} (hf : mj_fl own ix ci j) (ht : mj_tc (mj_ft ci j) = 1) (hs : S a = (0, ci)) (ha : 0 < a ∧ a ≤ n) (hd : decode cc pc = .ok (.getfield ix, 3)) (k : mj_W X G own nm cc mL d ret P S n ad kc ks (pc + 3) ls (.long (L a j) :: st) (I) (L)) : mj_W X G own nm cc mL d ret P S n ad kc ks pc ls (.ref a :: st) (I) (L) := by
  obtain ⟨p, l, e, R, s, m, args, below, meth, c, Q, A⟩ := X
  intro C H locs la hP hD hS hl
  exact va_get (v := .long (L a j)) (ci := ci) (C := mj_Rn ci) (T := mj_T ci) (N := mj_nf ci) C.1 C.2.1 C.2.2.2.2.1 hf.1.2.1 C.2.2.2.1 C.2.2.2.2.2.2.2.2.2.1 hP (a - 1) (by rw [mj_w_at ha.1 ha.2, mj_E0 hs]) (mj_cl_at hf.1.1) j hf.2.1 (C.2.2.2.2.1 _ hf.2.2) (fun _ h => h) (by rw [mj_fs_at hf.2.1]; simp only [mj_fv, ht]) hd (k C H locs la hP hD hS hl)
theorem mj_getP {ix ci a j : Nat} {b : Nat} (hp : P a j = b) (hb : b ≠ 0) (hf : mj_fl own ix ci j) (ht : mj_tc (mj_ft ci j) = 2) (hs : S a = (0, ci)) (ha : 0 < a ∧ a ≤ n) (hd : decode cc pc = .ok (.getfield ix, 3)) (k : mj_W X G own nm cc mL d ret P S n ad kc ks (pc + 3) ls (.ref b :: st) (I) (L)) : mj_W X G own nm cc mL d ret P S n ad kc ks pc ls (.ref a :: st) (I) (L) := by
  obtain ⟨p, l, e, R, s, m, args, below, meth, c, Q, A⟩ := X
  intro C H locs la hP hD hS hl
  exact va_get (v := .ref (ad b)) (ci := ci) (C := mj_Rn ci) (T := mj_T ci) (N := mj_nf ci) C.1 C.2.1 C.2.2.2.2.1 hf.1.2.1 C.2.2.2.1 C.2.2.2.2.2.2.2.2.2.1 hP (a - 1) (by rw [mj_w_at ha.1 ha.2, mj_E0 hs]) (mj_cl_at hf.1.1) j hf.2.1 (C.2.2.2.2.1 _ hf.2.2) (fun _ h => h) (by rw [mj_fs_at hf.2.1]; simp only [mj_fv, ht, hp, if_neg hb]) hd (k C H locs la hP hD hS hl)
theorem mj_nr {ci j a : Nat} (ht : mj_tc (mj_ft ci j) = 2) : narrow (mj_ft ci j) (.ref a) = .ref a ∧ fits (mj_ft ci j) (.ref a) = true := by
  generalize mj_ft ci j = t at ht
  cases t <;> first | exact ⟨rfl, rfl⟩ | (exact absurd ht (by decide))
theorem mj_putI {ix ci a j : Nat} {v : Int32} (hv : narrow (mj_ft ci j) (.int v) = .int v ∧ fits (mj_ft ci j) (.int v) = true) (hf : mj_fl own ix ci j) (ht : mj_tc (mj_ft ci j) = 0) (hfin : (mj_T ci j).2.2.2 = false) (hs : S a = (0, ci)) (ha : 0 < a ∧ a ≤ n) (hd : decode cc pc = .ok (.putfield ix, 3)) (k : mj_W X G own nm cc mL d ret P S n ad kc ks (pc + 3) ls (st) (va_up I a (upd (I a) j v)) (L)) : mj_W X G own nm cc mL d ret P S n ad kc ks pc ls (.int v :: .ref a :: st) (I) (L) := by
  obtain ⟨p, l, e, R, s, m, args, below, meth, c, Q, A⟩ := X
  intro C H locs la hP hD hS hl
  refine va_put (v := .int v) (ci := ci) (C := mj_Rn ci) (T := mj_T ci) (N := mj_nf ci) C.1 C.2.1 C.2.2.2.2.1 hf.1.2.1 (mj_ft ci) hf.1.2.2.1 hf.1.2.2.2 C.2.2.2.1 C.2.2.2.2.2.2.2.2.2.1 hP hD hS (a - 1) (by rw [mj_w_at ha.1 ha.2, mj_E0 hs]) (mj_cl_at hf.1.1) j hf.2.1 (C.2.2.2.2.1 _ hf.2.2) (fun _ h => h) hfin (hf.1.2.2.1 j hf.2.1) hv.1 hv.2 (by simpa using hf.2.1) hd (fun H1 locs1 hP1 hD1 hS1 => ?_)
  have e : (mj_w G ad P S n I L).set (a - 1) (ad a, .inr (ci, ((List.range (mj_nf ci)).map (mj_fv ad P I L ci a)).set j (.int v))) = mj_w G ad P S n (va_up I a (upd (I a) j v)) (L) := mj_w_set ha.1 (by rw [mj_E0 hs]; exact congrArg (fun z => Sum.inr (ci, z)) (mj_fs_set (by simp [mj_fv, ht, va_up, upd]) (fun i hi => by simp [mj_fv, va_up, upd, hi])).symm) (fun b hb => mj_oI b hb)
  rw [e] at hP1 hD1
  exact k C H1 locs1 la hP1 hD1 hS1 hl
theorem mj_putL {ix ci a j : Nat} {v : Int64} (hv : mj_ft ci j = .long) (hf : mj_fl own ix ci j) (ht : mj_tc (mj_ft ci j) = 1) (hfin : (mj_T ci j).2.2.2 = false) (hs : S a = (0, ci)) (ha : 0 < a ∧ a ≤ n) (hd : decode cc pc = .ok (.putfield ix, 3)) (k : mj_W X G own nm cc mL d ret P S n ad kc ks (pc + 3) ls (st) (I) (va_up L a (vp_updL (L a) j v))) : mj_W X G own nm cc mL d ret P S n ad kc ks pc ls (.long v :: .ref a :: st) (I) (L) := by
  obtain ⟨p, l, e, R, s, m, args, below, meth, c, Q, A⟩ := X
  intro C H locs la hP hD hS hl
  refine va_put (v := .long v) (ci := ci) (C := mj_Rn ci) (T := mj_T ci) (N := mj_nf ci) C.1 C.2.1 C.2.2.2.2.1 hf.1.2.1 (mj_ft ci) hf.1.2.2.1 hf.1.2.2.2 C.2.2.2.1 C.2.2.2.2.2.2.2.2.2.1 hP hD hS (a - 1) (by rw [mj_w_at ha.1 ha.2, mj_E0 hs]) (mj_cl_at hf.1.1) j hf.2.1 (C.2.2.2.2.1 _ hf.2.2) (fun _ h => h) hfin (hf.1.2.2.1 j hf.2.1) (by rw [hv]; rfl) (by rw [hv]; rfl) (by simpa using hf.2.1) hd (fun H1 locs1 hP1 hD1 hS1 => ?_)
  have e : (mj_w G ad P S n I L).set (a - 1) (ad a, .inr (ci, ((List.range (mj_nf ci)).map (mj_fv ad P I L ci a)).set j (.long v))) = mj_w G ad P S n (I) (va_up L a (vp_updL (L a) j v)) := mj_w_set ha.1 (by rw [mj_E0 hs]; exact congrArg (fun z => Sum.inr (ci, z)) (mj_fs_set (by simp [mj_fv, ht, va_up, vp_updL]) (fun i hi => by simp [mj_fv, va_up, vp_updL, hi])).symm) (fun b hb => mj_oL b hb)
  rw [e] at hP1 hD1
  exact k C H1 locs1 la hP1 hD1 hS1 hl
theorem mj_putP {ix ci a j : Nat} {b : Nat} (hb : b ≠ 0) (hf : mj_fl own ix ci j) (ht : mj_tc (mj_ft ci j) = 2) (hfin : (mj_T ci j).2.2.2 = false) (hs : S a = (0, ci)) (ha : 0 < a ∧ a ≤ n) (hd : decode cc pc = .ok (.putfield ix, 3)) (k : mj_W X G own nm cc mL d ret (va_up P a (va_up (P a) j b)) S n ad kc ks (pc + 3) ls (st) (I) (L)) : mj_W X G own nm cc mL d ret P S n ad kc ks pc ls (.ref b :: .ref a :: st) (I) (L) := by
  obtain ⟨p, l, e, R, s, m, args, below, meth, c, Q, A⟩ := X
  intro C H locs la hP hD hS hl
  refine va_put (v := .ref (ad b)) (ci := ci) (C := mj_Rn ci) (T := mj_T ci) (N := mj_nf ci) C.1 C.2.1 C.2.2.2.2.1 hf.1.2.1 (mj_ft ci) hf.1.2.2.1 hf.1.2.2.2 C.2.2.2.1 C.2.2.2.2.2.2.2.2.2.1 hP hD hS (a - 1) (by rw [mj_w_at ha.1 ha.2, mj_E0 hs]) (mj_cl_at hf.1.1) j hf.2.1 (C.2.2.2.2.1 _ hf.2.2) (fun _ h => h) hfin (hf.1.2.2.1 j hf.2.1) (mj_nr ht).1 (mj_nr ht).2 (by simpa using hf.2.1) hd (fun H1 locs1 hP1 hD1 hS1 => ?_)
  have e : (mj_w G ad P S n I L).set (a - 1) (ad a, .inr (ci, ((List.range (mj_nf ci)).map (mj_fv ad P I L ci a)).set j (.ref (ad b)))) = mj_w G ad (va_up P a (va_up (P a) j b)) S n (I) (L) := mj_w_set ha.1 (by rw [mj_E0 hs]; exact congrArg (fun z => Sum.inr (ci, z)) (mj_fs_set (by simp [mj_fv, ht, va_up, hb]) (fun i hi => by simp [mj_fv, va_up, hi])).symm) (fun b hb => mj_oP b hb)
  rw [e] at hP1 hD1
  exact k C H1 locs1 la hP1 hD1 hS1 hl
theorem mj_putPF {ix ci a j : Nat} {b : Nat} (hb : b ≠ 0) (hf : mj_fl own ix ci j) (ht : mj_tc (mj_ft ci j) = 2) (hfin : (mj_T ci j).2.2.2 = true) (hnm : nm = "<init>") (hown : (mj_T ci j).1 = own) (hs : S a = (0, ci)) (ha : 0 < a ∧ a ≤ n) (hd : decode cc pc = .ok (.putfield ix, 3)) (k : mj_W X G own nm cc mL d ret (va_up P a (va_up (P a) j b)) S n ad kc ks (pc + 3) ls (st) (I) (L)) : mj_W X G own nm cc mL d ret P S n ad kc ks pc ls (.ref b :: .ref a :: st) (I) (L) := by
  obtain ⟨p, l, e, R, s, m, args, below, meth, c, Q, A⟩ := X
  intro C H locs la hP hD hS hl
  refine va_putF (v := .ref (ad b)) (ci := ci) (C := mj_Rn ci) (T := mj_T ci) (N := mj_nf ci) C.1 C.2.1 C.2.2.2.2.1 hf.1.2.1 (mj_ft ci) hf.1.2.2.1 hf.1.2.2.2 C.2.2.2.1 C.2.2.2.2.2.2.2.2.2.1 hP hD hS (a - 1) (by rw [mj_w_at ha.1 ha.2, mj_E0 hs]) (mj_cl_at hf.1.1) j hf.2.1 (C.2.2.2.2.1 _ hf.2.2) (fun _ h => h) hfin (C.2.2.2.2.2.2.2.1.trans hnm) hown (hf.1.2.2.1 j hf.2.1) (mj_nr ht).1 (mj_nr ht).2 (by simpa using hf.2.1) hd (fun H1 locs1 hP1 hD1 hS1 => ?_)
  have e : (mj_w G ad P S n I L).set (a - 1) (ad a, .inr (ci, ((List.range (mj_nf ci)).map (mj_fv ad P I L ci a)).set j (.ref (ad b)))) = mj_w G ad (va_up P a (va_up (P a) j b)) S n (I) (L) := mj_w_set ha.1 (by rw [mj_E0 hs]; exact congrArg (fun z => Sum.inr (ci, z)) (mj_fs_set (by simp [mj_fv, ht, va_up, hb]) (fun i hi => by simp [mj_fv, va_up, hi])).symm) (fun b hb => mj_oP b hb)
  rw [e] at hP1 hD1
  exact k C H1 locs1 la hP1 hD1 hS1 hl
theorem mj_iald {a N : Nat} {i : Int32} (hs : S a = (1, N)) (ha : 0 < a ∧ a ≤ n) (hi : vp_in i N) (hd : decode cc pc = .ok (.iaload, 1)) (k : mj_W X G own nm cc mL d ret P S n ad kc ks (pc + 1) ls (.int (I a i.toNatClampNeg) :: st) (I) (L)) : mj_W X G own nm cc mL d ret P S n ad kc ks pc ls (.int i :: .ref a :: st) (I) (L) := by
  obtain ⟨p, l, e, R, s, m, args, below, meth, c, Q, A⟩ := X
  intro C H locs la hP hD hS hl
  exact va_iald C.1 C.2.1 C.2.2.2.2.2.2.2.2.2.1 hP (a - 1) 0 (by rw [mj_w_at ha.1 ha.2, mj_E1 hs]) rfl hi hd (k C H locs la hP hD hS hl)
theorem mj_lald {a N : Nat} {i : Int32} (hs : S a = (2, N)) (ha : 0 < a ∧ a ≤ n) (hi : vp_in i N) (hd : decode cc pc = .ok (.laload, 1)) (k : mj_W X G own nm cc mL d ret P S n ad kc ks (pc + 1) ls (.long (L a i.toNatClampNeg) :: st) (I) (L)) : mj_W X G own nm cc mL d ret P S n ad kc ks pc ls (.int i :: .ref a :: st) (I) (L) := by
  obtain ⟨p, l, e, R, s, m, args, below, meth, c, Q, A⟩ := X
  intro C H locs la hP hD hS hl
  exact va_lald C.1 C.2.1 C.2.2.2.2.2.2.2.2.2.1 hP (a - 1) 1 (by rw [mj_w_at ha.1 ha.2, mj_E2 hs]) rfl hi hd (k C H locs la hP hD hS hl)
theorem mj_zald {a N : Nat} {i : Int32} (hs : S a = (3, N)) (ha : 0 < a ∧ a ≤ n) (hi : vp_in i N) (hd : decode cc pc = .ok (.baload, 1)) (k : mj_W X G own nm cc mL d ret P S n ad kc ks (pc + 1) ls (.int (I a i.toNatClampNeg) :: st) (I) (L)) : mj_W X G own nm cc mL d ret P S n ad kc ks pc ls (.int i :: .ref a :: st) (I) (L) := by
  obtain ⟨p, l, e, R, s, m, args, below, meth, c, Q, A⟩ := X
  intro C H locs la hP hD hS hl
  exact va_zald C.1 C.2.1 C.2.2.2.2.2.2.2.2.2.1 hP (a - 1) 2 (by rw [mj_w_at ha.1 ha.2, mj_E3 hs]) rfl hi hd (k C H locs la hP hD hS hl)
theorem mj_bald {a N : Nat} {i : Int32} (hs : S a = (4, N)) (ha : 0 < a ∧ a ≤ n) (hi : vp_in i N) (hd : decode cc pc = .ok (.baload, 1)) (k : mj_W X G own nm cc mL d ret P S n ad kc ks (pc + 1) ls (.int (I a i.toNatClampNeg) :: st) (I) (L)) : mj_W X G own nm cc mL d ret P S n ad kc ks pc ls (.int i :: .ref a :: st) (I) (L) := by
  obtain ⟨p, l, e, R, s, m, args, below, meth, c, Q, A⟩ := X
  intro C H locs la hP hD hS hl
  exact va_bald C.1 C.2.1 C.2.2.2.2.2.2.2.2.2.1 hP (a - 1) 3 (by rw [mj_w_at ha.1 ha.2, mj_E4 hs]) rfl hi hd (k C H locs la hP hD hS hl)
theorem mj_iast {a N : Nat} {i : Int32} {x : Int32} (hs : S a = (1, N)) (ha : 0 < a ∧ a ≤ n) (hi : vp_in i N) (hd : decode cc pc = .ok (.iastore, 1)) (k : mj_W X G own nm cc mL d ret P S n ad kc ks (pc + 1) ls (st) (va_up I a (upd (I a) i.toNatClampNeg x)) (L)) : mj_W X G own nm cc mL d ret P S n ad kc ks pc ls (.int x :: .int i :: .ref a :: st) (I) (L) := by
  obtain ⟨p, l, e, R, s, m, args, below, meth, c, Q, A⟩ := X
  intro C H locs la hP hD hS hl
  refine va_iast C.1 C.2.1 C.2.2.2.2.2.2.2.2.2.1 hP hD hS (a - 1) 0 (by rw [mj_w_at ha.1 ha.2, mj_E1 hs]) rfl hi hd (fun H1 locs1 hP1 hD1 hS1 => ?_)
  have e : (mj_w G ad P S n I L).set (a - 1) (ad a, .inl (G.2.1, N, .inl (upd (I a) i.toNatClampNeg x))) = mj_w G ad P S n (va_up I a (upd (I a) i.toNatClampNeg x)) (L) := mj_w_set ha.1 (by rw [mj_E1 hs]; simp [va_up]) (fun b hb => mj_oI b hb)
  rw [e] at hP1 hD1
  exact k C H1 locs1 la hP1 hD1 hS1 hl
theorem mj_last {a N : Nat} {i : Int32} {x : Int64} (hs : S a = (2, N)) (ha : 0 < a ∧ a ≤ n) (hi : vp_in i N) (hd : decode cc pc = .ok (.lastore, 1)) (k : mj_W X G own nm cc mL d ret P S n ad kc ks (pc + 1) ls (st) (I) (va_up L a (vp_updL (L a) i.toNatClampNeg x))) : mj_W X G own nm cc mL d ret P S n ad kc ks pc ls (.long x :: .int i :: .ref a :: st) (I) (L) := by
  obtain ⟨p, l, e, R, s, m, args, below, meth, c, Q, A⟩ := X
  intro C H locs la hP hD hS hl
  refine va_last C.1 C.2.1 C.2.2.2.2.2.2.2.2.2.1 hP hD hS (a - 1) 1 (by rw [mj_w_at ha.1 ha.2, mj_E2 hs]) rfl hi hd (fun H1 locs1 hP1 hD1 hS1 => ?_)
  have e : (mj_w G ad P S n I L).set (a - 1) (ad a, .inl (G.2.2.1, N, .inr (.inl (vp_updL (L a) i.toNatClampNeg x)))) = mj_w G ad P S n (I) (va_up L a (vp_updL (L a) i.toNatClampNeg x)) := mj_w_set ha.1 (by rw [mj_E2 hs]; simp [va_up]) (fun b hb => mj_oL b hb)
  rw [e] at hP1 hD1
  exact k C H1 locs1 la hP1 hD1 hS1 hl
theorem mj_zast {a N : Nat} {i : Int32} {x : Int32} (hs : S a = (3, N)) (ha : 0 < a ∧ a ≤ n) (hi : vp_in i N) (hd : decode cc pc = .ok (.bastore, 1)) (k : mj_W X G own nm cc mL d ret P S n ad kc ks (pc + 1) ls (st) (va_up I a (upd (I a) i.toNatClampNeg (vp_nar .boolean x))) (L)) : mj_W X G own nm cc mL d ret P S n ad kc ks pc ls (.int x :: .int i :: .ref a :: st) (I) (L) := by
  obtain ⟨p, l, e, R, s, m, args, below, meth, c, Q, A⟩ := X
  intro C H locs la hP hD hS hl
  refine va_zast C.1 C.2.1 C.2.2.2.2.2.2.2.2.2.1 hP hD hS (a - 1) 2 (by rw [mj_w_at ha.1 ha.2, mj_E3 hs]) rfl hi hd (fun H1 locs1 hP1 hD1 hS1 => ?_)
  have e : (mj_w G ad P S n I L).set (a - 1) (ad a, .inl (G.2.2.2.1, N, .inl (upd (I a) i.toNatClampNeg (vp_nar .boolean x)))) = mj_w G ad P S n (va_up I a (upd (I a) i.toNatClampNeg (vp_nar .boolean x))) (L) := mj_w_set ha.1 (by rw [mj_E3 hs]; simp [va_up]) (fun b hb => mj_oI b hb)
  rw [e] at hP1 hD1
  exact k C H1 locs1 la hP1 hD1 hS1 hl
theorem mj_bast {a N : Nat} {i : Int32} {x : Int32} (hs : S a = (4, N)) (ha : 0 < a ∧ a ≤ n) (hi : vp_in i N) (hd : decode cc pc = .ok (.bastore, 1)) (k : mj_W X G own nm cc mL d ret P S n ad kc ks (pc + 1) ls (st) (va_up I a (upd (I a) i.toNatClampNeg (vp_nar .byte x))) (L)) : mj_W X G own nm cc mL d ret P S n ad kc ks pc ls (.int x :: .int i :: .ref a :: st) (I) (L) := by
  obtain ⟨p, l, e, R, s, m, args, below, meth, c, Q, A⟩ := X
  intro C H locs la hP hD hS hl
  refine va_bast C.1 C.2.1 C.2.2.2.2.2.2.2.2.2.1 hP hD hS (a - 1) 3 (by rw [mj_w_at ha.1 ha.2, mj_E4 hs]) rfl hi hd (fun H1 locs1 hP1 hD1 hS1 => ?_)
  have e : (mj_w G ad P S n I L).set (a - 1) (ad a, .inl (G.2.2.2.2.1, N, .inl (upd (I a) i.toNatClampNeg (vp_nar .byte x)))) = mj_w G ad P S n (va_up I a (upd (I a) i.toNatClampNeg (vp_nar .byte x))) (L) := mj_w_set ha.1 (by rw [mj_E4 hs]; simp [va_up]) (fun b hb => mj_oI b hb)
  rw [e] at hP1 hD1
  exact k C H1 locs1 la hP1 hD1 hS1 hl
theorem mj_units {ix : Nat} (hw : Cond.fieldLink own ix "OddsSolver$Digits" "UNITS" "[I" ∈ mj_tb) (hd : decode cc pc = .ok (.getstatic ix, 3)) (k : mj_W X G own nm cc mL d ret P S n ad kc ks (pc + 3) ls (.ref 2000 :: st) (I) (L)) : mj_W X G own nm cc mL d ret P S n ad kc ks pc ls (st) (I) (L) := by
  obtain ⟨p, l, e, R, s, m, args, below, meth, c, Q, A⟩ := X
  intro C H locs la hP hD hS hl
  have k' := k C H locs la hP hD hS hl
  have e : ad 2000 = G.2.2.2.2.2 0 := C.2.2.2.2.2.2.2.2.2.2.2.2 0
  simp only [List.map_cons, mj_v, e] at k'
  exact va_gets C.1 C.2.1 C.2.2.2.2.2.2.2.2.2.2.2.1.1 hS C.2.2.2.1 (C.2.2.2.2.1 _ hw) (fun _ h => h) hd k'
theorem mj_uald {i : Int32} (hi : vp_in i 6) (hd : decode cc pc = .ok (.iaload, 1)) (k : mj_W X G own nm cc mL d ret P S n ad kc ks (pc + 1) ls (.int (mj_un i.toNatClampNeg) :: st) (I) (L)) : mj_W X G own nm cc mL d ret P S n ad kc ks pc ls (.int i :: .ref 2000 :: st) (I) (L) := by
  obtain ⟨p, l, e, R, s, m, args, below, meth, c, Q, A⟩ := X
  intro C H locs la hP hD hS hl
  have e : ad 2000 = G.2.2.2.2.2 0 := C.2.2.2.2.2.2.2.2.2.2.2.2 0
  simp only [List.map_cons, mj_v, e]
  exact va_ti C.1 C.2.1 C.2.2.2.2.2.2.2.2.2.2.2.1.2.1 hS hi rfl hd (k C H locs la hP hD hS hl)
end MM
/-- a method's end -/
def mj_Q (G : mj_GT) (ad : Nat → Nat) (P : mj_PT) (S : mj_ST) (n : Nat) (A : Nat → Prop) (Qn : Option Value → mj_IT → mj_LT → Prop) : Array Value → State → Outcome → State → Prop := fun _ s o t =>
  (∃ (r : Option Value) (I : mj_IT) (L : mj_LT), o = .returned (r.map (mj_v ad)) ∧ Qn r I L ∧ va_P G.1 mj_cl (mj_w G ad P S n I L) t.heap) ∧ va_F A s t
/-- a method's start -/
def mj_B (G : mj_GT) (ad : Nat → Nat) (P : mj_PT) (S : mj_ST) (n : Nat) (I : mj_IT) (L : mj_LT) (sz : Nat) (U : State) : Prop :=
  U.heap.size = sz ∧ va_P G.1 mj_cl (mj_w G ad P S n I L) U.heap ∧ va_K G.1 mj_cl (mj_tys G) U ∧ va_D (fun _ => True) (mj_w G ad P S n I L) ∧ mj_Z G U U.heap (va_A (mj_w G ad P S n I L) sz) ∧ ∀ i, ad (2000 + i) = G.2.2.2.2.2 i
/-- a method's contract: at these arguments and rows it returns, with Qn -/
def mj_M (l : Launch) (G : mj_GT) (y : MethodName) (cc : ByteArray) (mL d : Nat) (ret : Option FieldType) (mc ms : Nat) (P : mj_PT) (S : mj_ST) (n : Nat) (as : List Value) (I : mj_IT) (L : mj_LT) (Qn : Option Value → mj_IT → mj_LT → Prop) : Prop :=
  ∀ (ad : Nat → Nat) (sz : Nat), Met l y (.code y cc mL ret :: mj_tb) { frames := d, cells := mc, slots := ms, locals := 41 * d } (va_Pc (as.map (mj_v ad)) (mj_B G ad P S n I L sz)) (mj_Q G ad P S n (va_A (mj_w G ad P S n I L) sz) Qn) mc ms (va_A (mj_w G ad P S n I L) sz)
/-- the aim of a body -/
def mj_R (X : mj_XT) (l : Launch) (G : mj_GT) (P : mj_PT) (S : mj_ST) (n : Nat) (ad : Nat → Nat) (mc ms : Nat) (Qn : Option Value → mj_IT → mj_LT → Prop) : Prop := match X with
  | (_, l', _, R, s, _, args, below, _, _, Q, A) => l' = l ∧ Q = MQ below (mj_Q G ad P S n A Qn) args s mc ms A ∧ R.cells = mc ∧ R.slots = ms
theorem mj_args (ad : Nat → Nat) (vs : List Value) : ∀ i, lv_args i (vs.map (mj_v ad)) = (lv_args i vs).map (fun q => (q.1, mj_v ad q.2)) := by
  induction vs with
  | nil => intro i; rfl
  | cons v vs ih => intro i; simp only [List.map_cons, lv_args, mj_v_cat, ih]
theorem mj_sl (ad : Nat → Nat) (vs : List Value) : (lg_sl (vs.map (mj_v ad))).length = (lg_sl vs).length := by
  induction vs with
  | nil => rfl
  | cons v vs ih =>
    simp only [lg_sl, List.map_cons, List.flatMap_cons, List.length_append] at ih ⊢
    rw [ih, mj_v_cat]
    split <;> rfl
theorem mj_enter {l : Launch} {G : mj_GT} {y : MethodName} {cc : ByteArray} {mL d : Nat} {ret : Option FieldType} {mc ms : Nat} {P : mj_PT} {S : mj_ST} {n : Nat} {as : List Value} {I : mj_IT} {L : mj_LT} {Qn : Option Value → mj_IT → mj_LT → Prop}
    (hy : plainName y.cls = true) (hlen : (lg_sl as).length ≤ mL) (k : ∀ (X : mj_XT) (ad : Nat → Nat), mj_R X l G P S n ad mc ms Qn → mj_W X G y.cls y.name cc mL d ret P S n ad 0 0 0 (lv_args 0 as) [] I L) : mj_M l G y cc mL d ret mc ms P S n as I L Qn := by
  intro ad sz
  refine Met.ofW (cc := cc) (maxL := mL) (ret := ret) hy rfl ?_
  intro p e s m args below meth c s₁ B hml hv
  obtain ⟨rfl, hsz, hP, hK, hD0, hZ, had⟩ := hv
  have hts := atoms_spec (ws := .code y cc mL ret :: mj_tb) B.pre
  have hown : s.vm.findClass y.cls = some m.cls := findClass_of_methodNamed B.named
  subst hsz
  have hD := hD0.self (sz := s.heap.size)
  generalize hAe : va_A (mj_w G ad P S n I L) s.heap.size = A at hD hZ ⊢
  have hA : ∀ q : Nat, s.heap.size ≤ q → A q := fun q h => by rw [← hAe]; exact Or.inr h
  have hl := lv_entry (as.map (mj_v ad)) (n := mL) (by rw [mj_sl]; exact hlen)
  rw [mj_args] at hl
  rw [lg_entry_eq]
  exact k (p, l, e, _, s, m, _, below, meth, c, _, A) ad ⟨rfl, rfl, rfl, rfl⟩ ⟨B.exec, B.bytes, hml, hown, fun w hw => hts w (List.mem_cons_of_mem _ hw), B.returns, B.notSynchronized, (name_of_methodNamed B.named B.method).1, ⟨Nat.le_refl _, Nat.le_refl _⟩, hK, hA, hZ, had⟩ s.heap [] _ hP hD va_S.rf hl
section MR
variable {X : mj_XT} {l : Launch} {G : mj_GT} {own nm : String} {cc : ByteArray} {mL d : Nat} {ret : Option FieldType} {P : mj_PT} {S : mj_ST} {n : Nat} {ad : Nat → Nat} {mc ms kc ks pc : Nat} {ls : List (Nat × Value)} {st : List Value} {I : mj_IT} {L : mj_LT} {Qn : Option Value → mj_IT → mj_LT → Prop}
theorem mj_iret {x : Int32} {ty : FieldType} (hR : mj_R X l G P S n ad mc ms Qn) (hk : kc ≤ mc ∧ ks ≤ ms) (hr : ret = some ty) (hn : narrow ty (.int x) = .int x) (hd : decode cc pc = .ok (.ireturn, 1)) (hq : Qn (some (.int x)) I L) : mj_W X G own nm cc mL d ret P S n ad kc ks pc ls ([.int x]) (I) (L) := by
  obtain ⟨p, l0, e, R, s, m, args, below, meth, c, Q, A⟩ := X
  obtain ⟨rfl, rfl, hRc, hRs⟩ := hR
  intro C H locs la hP hD hS hl
  have hlocks : meth.locks = false := C.2.2.2.2.2.2.1
  refine W.widen hk.1 hk.2 ?_
  exact W.zret C.1 C.2.1 (C.2.2.2.2.2.1.trans hr) hn (fun t ht hW => ⟨⟨some (.int x), I, L, rfl, hq, by rw [ht]; exact hP⟩, hS.F ht⟩) hS.2.2 hd
theorem mj_vret (hR : mj_R X l G P S n ad mc ms Qn) (hk : kc ≤ mc ∧ ks ≤ ms) (hr : ret = none) (hd : decode cc pc = .ok (.return_, 1)) (hq : Qn (none) I L) : mj_W X G own nm cc mL d ret P S n ad kc ks pc ls ([]) (I) (L) := by
  obtain ⟨p, l0, e, R, s, m, args, below, meth, c, Q, A⟩ := X
  obtain ⟨rfl, rfl, hRc, hRs⟩ := hR
  intro C H locs la hP hD hS hl
  have hlocks : meth.locks = false := C.2.2.2.2.2.2.1
  refine W.widen hk.1 hk.2 ?_
  exact W.vret C.1 C.2.1 (C.2.2.2.2.2.1.trans hr) (fun t ht hW => ⟨⟨none, I, L, rfl, hq, by rw [ht]; exact hP⟩, hS.F ht⟩) hS.2.2 hd
theorem mj_lret {x : Int64} (hR : mj_R X l G P S n ad mc ms Qn) (hk : kc ≤ mc ∧ ks ≤ ms) (hr : ret = some .long) (hd : decode cc pc = .ok (.lreturn, 1)) (hq : Qn (some (.long x)) I L) : mj_W X G own nm cc mL d ret P S n ad kc ks pc ls ([.long x]) (I) (L) := by
  obtain ⟨p, l0, e, R, s, m, args, below, meth, c, Q, A⟩ := X
  obtain ⟨rfl, rfl, hRc, hRs⟩ := hR
  intro C H locs la hP hD hS hl
  have hlocks : meth.locks = false := C.2.2.2.2.2.2.1
  refine W.widen hk.1 hk.2 ?_
  exact W.lret C.1 C.2.1 (C.2.2.2.2.2.1.trans hr) (fun t ht hW => ⟨⟨some (.long x), I, L, rfl, hq, by rw [ht]; exact hP⟩, hS.F ht⟩) hS.2.2 hd
theorem mj_aret {a : Nat} {t : String} (hR : mj_R X l G P S n ad mc ms Qn) (hk : kc ≤ mc ∧ ks ≤ ms) (hr : ret = some (.object t)) (hd : decode cc pc = .ok (.areturn, 1)) (hq : Qn (some (.ref a)) I L) : mj_W X G own nm cc mL d ret P S n ad kc ks pc ls ([.ref a]) (I) (L) := by
  obtain ⟨p, l0, e, R, s, m, args, below, meth, c, Q, A⟩ := X
  obtain ⟨rfl, rfl, hRc, hRs⟩ := hR
  intro C H locs la hP hD hS hl
  have hlocks : meth.locks = false := C.2.2.2.2.2.2.1
  refine W.widen hk.1 hk.2 ?_
  exact W.aret C.1 C.2.1 (C.2.2.2.2.2.1.trans hr) (Or.inl ⟨t, rfl⟩) (Or.inr ⟨ad a, rfl⟩) (fun t ht hW => ⟨⟨some (.ref a), I, L, rfl, hq, by rw [ht]; exact hP⟩, hS.F ht⟩) hS.2.2 hd
theorem mj_callB {R : Room} {s : State} {args : Array Value} {own : String} {ix : Nat} {y : MethodName} {cc : ByteArray} {mL : Nat} {ret : Option FieldType} {np d d' mc ms : Nat} (hts : ∀ w ∈ mj_tb, w.before args s = true) (hw : mj_cw own ix y cc mL ret np) (hdd : d' + 1 ≤ d) (hR : d ≤ R.frames ∧ 41 * d ≤ R.locals) :
    CallB R s args own ix y cc mL ret (.code y cc mL ret :: mj_tb) { frames := d', cells := mc, slots := ms, locals := 41 * d' } mc ms np :=
  callB_of np hts (mj_goodIn (fun w h => by
    rcases List.mem_cons.mp h with h | h
    · rw [h]; exact hw.1
    · exact h)) rfl rfl rfl (hts _ hw.2.1) (hts _ hw.2.2.1) hw.2.2.2.1 ⟨by have := hR.1; show d' + 1 ≤ _; omega, by have := hR.2; have := hw.2.2.2.2; show 8 + (mL + 11) + 41 * d' ≤ _; omega⟩
theorem mj_pre {s : State} {H : Heap} {locs : List Loc} {A : Nat → Prop} {as : List Value} {I : mj_IT} {L : mj_LT} (hK : va_K G.1 mj_cl (mj_tys G) s) (hA : ∀ q, s.heap.size ≤ q → A q) (hZ : mj_Z G s s.heap A) (had : ∀ i, ad (2000 + i) = G.2.2.2.2.2 i) (hP : va_P G.1 mj_cl (mj_w G ad P S n I L) H) (hD : va_D A (mj_w G ad P S n I L)) (hS : va_S A s.heap H locs) :
    FrameBlind (va_Pc (as.map (mj_v ad)) (mj_B G ad P S n I L H.size)) ∧ (∀ U : State, U.heap = H → s.WarmedH U.vm → va_Pc (as.map (mj_v ad)) (mj_B G ad P S n I L H.size) (as.map (mj_v ad)).toArray U) ∧ ∀ q, va_A (mj_w G ad P S n I L) H.size q → A q := by
  have hfree : ∀ q, va_A (mj_w G ad P S n I L) H.size q → A q := by
    intro q h
    rcases h with ⟨k, x, h⟩ | h
    · exact hD.2 k (q, x) h
    · exact hA q (Nat.le_trans hS.1 h)
  refine ⟨?_, ?_, hfree⟩
  · intro a U g mk h
    obtain ⟨q0, q1, qP, qK, qD, qZ, qa⟩ := h
    exact ⟨q0, q1, qP, va_K.moved (u := U) (U := U.calling g mk a) (Vm.Alike.refl U.vm) qK, qD, qZ.to (U := U.calling g mk a) (Vm.Alike.refl U.vm) (fun h => mj_SR.same (s := U) (U := U.calling g mk a) rfl h) (fun _ _ _ => rfl) (fun _ h => h), qa⟩
  · intro U hU hW
    refine ⟨rfl, by rw [hU], by rw [hU]; exact hP, va_K.moved hW.alike hK, hD.weaken (fun _ _ _ _ => trivial), ?_, had⟩
    rw [hU]
    exact hZ.to hW.alike (fun h => h.warm hW) hS.2.1 hfree
/-- behind a call -/
theorem mj_back {p : Program} {e : Env} {R : Room} {s : State} {m : MethodId} {args : Array Value} {below : List Frame} {meth : Method} {c : Code} {H : Heap} {locs : List Loc} {A A1 : Nat → Prop} {Q : State → Prop} {la : Array Slot} {st0 rest : List Value} {a : Array Value}
    (hr : va_Run p l e R s m args below meth c H locs kc ks mc ms (F0 m pc la st0) rest (mj_Q G ad P S n A1 Qn a) A1) (hS : va_S A s.heap H locs) (hA1 : ∀ q, A1 q → A q)
    (kk : ∀ (r : Option Value) (I : mj_IT) (L : mj_LT) (H1 : Heap) (locs1 : List Loc), Qn r I L → va_P G.1 mj_cl (mj_w G ad P S n I L) H1 → va_S A s.heap H1 locs1 → W p l e R s m args below meth c H1 locs1 (kc + mc) (ks + ms) Q (F0 m (pc + 3) la ((r.map (mj_v ad)).toList ++ rest))) : W p l e R s m args below meth c H locs kc ks Q (F0 m pc la st0) := by
  intro T hT X
  obtain ⟨v, st₀, t, T', L9, h0, X', hL, e1, e2, ⟨⟨r, I, L, hv, hq, hp⟩, hz, hk⟩, stp⟩ := hr T hT X
  cases hv
  rw [h0] at hz hk
  obtain ⟨t2, a1, b1⟩ := kk r I L T'.heap (locs ++ L9) hq (by rw [e1]; exact hp)
    ⟨Nat.le_trans hS.1 (by rw [e1]; exact hz), fun q h1 h2 => by rw [e1, hk q (Nat.lt_of_lt_of_le h1 hS.1) (fun z => h2 (hA1 q z))]; exact hS.2.1 q h1 h2, fun q hq' => by
      rcases List.mem_append.mp hq' with h | h
      · exact hS.2.2 q h
      · exact hA1 _ (hL q h)⟩ T' rfl X'
  exact ⟨t2, stp t2 a1, b1⟩
theorem mj_room {rest : List Value} {m : MethodId} {la : Array Slot} {q : List Value} (h : (rest.map fun v => v.category).sum ≤ 8) : 2 * (F0 m pc la q).monitorRoom + ((rest.map (mj_v ad)).map fun v => v.category).sum ≤ 8 := by
  refine lv_room ?_
  rw [List.map_map]
  have e : (fun v : Value => v.category) ∘ mj_v ad = fun v : Value => v.category := by funext v; exact mj_v_cat ad v
  rw [e]
  exact h
theorem mj_rev (ad : Nat → Nat) (as st : List Value) : (as.reverse ++ st).map (mj_v ad) = (as.map (mj_v ad)).reverse ++ st.map (mj_v ad) := by rw [List.map_append, List.map_reverse]
theorem mj_callS {ix np d' mL' : Nat} {y : MethodName} {cc' : ByteArray} {ret' : Option FieldType} {s0 : List Value} (as : List Value) (hM : mj_M X.2.1 G y cc' mL' d' ret' mc ms P S n as I L Qn) (hw : mj_cs own ix y cc' mL' ret' np) (hdd : d' + 1 ≤ d) (hnp : as.length = np) (hst : s0 = as.reverse ++ st) (hsm : (st.map fun v => v.category).sum ≤ 8) (hf : kc + mc ≤ X.2.2.2.1.cells ∧ ks + ms ≤ X.2.2.2.1.slots) (hd : decode cc pc = .ok (.invokestatic ix, 3))
    (k : ∀ (r : Option Value) (I' : mj_IT) (L' : mj_LT), Qn r I' L' → mj_W X G own nm cc mL d ret P S n ad (kc + mc) (ks + ms) (pc + 3) ls (r.toList ++ st) (I') (L')) : mj_W X G own nm cc mL d ret P S n ad kc ks pc ls (s0) (I) (L) := by
  obtain ⟨p, l, e, R, s, m, args, below, meth, c, Q, A⟩ := X
  intro C H locs la hP hD hS hl
  subst hst
  obtain ⟨hbl, hpre, hfree⟩ := mj_pre (as := as) C.2.2.2.2.2.2.2.2.2.1 C.2.2.2.2.2.2.2.2.2.2.1 C.2.2.2.2.2.2.2.2.2.2.2.1 C.2.2.2.2.2.2.2.2.2.2.2.2 hP hD hS
  refine mj_back (Qn := Qn) (va_runS (As := as.map (mj_v ad)) (rest := st.map (mj_v ad)) ⟨C.1, C.2.1, C.2.2.1, C.2.2.2.1, C.2.2.2.2.1⟩ (hM ad H.size) ⟨mj_callB C.2.2.2.2.1 hw.1 hdd C.2.2.2.2.2.2.2.2.1, C.2.2.2.2.1 _ hw.2⟩ ⟨hbl, hpre⟩ rfl (by rw [List.length_map]; exact hnp) hl.1 (mj_rev ad as st) (mj_room hsm) hd hf) hS hfree (fun r I' L' H1 locs1 hq hP1 hS1 => ?_)
  have k1 := k r I' L' hq C H1 locs1 la hP1 (mj_D hD) hS1 hl
  have e : (r.toList ++ st).map (mj_v ad) = (r.map (mj_v ad)).toList ++ st.map (mj_v ad) := by cases r <;> rfl
  rw [e] at k1
  exact k1
theorem mj_callV {ix np d' mL' ci b : Nat} {y : MethodName} {cc' : ByteArray} {ret' : Option FieldType} {s0 : List Value} (as : List Value) (hM : mj_M X.2.1 G y cc' mL' d' ret' mc ms P S n (.ref b :: as) I L Qn) (hw : mj_cv own ix y cc' mL' ret' np ci) (hs : S b = (0, ci)) (hb : 0 < b ∧ b ≤ n) (hdd : d' + 1 ≤ d) (hnp : as.length = np) (hst : s0 = as.reverse ++ .ref b :: st) (hsm : (st.map fun v => v.category).sum ≤ 8) (hf : kc + mc ≤ X.2.2.2.1.cells ∧ ks + ms ≤ X.2.2.2.1.slots) (hd : decode cc pc = .ok (.invokevirtual ix, 3))
    (k : ∀ (r : Option Value) (I' : mj_IT) (L' : mj_LT), Qn r I' L' → mj_W X G own nm cc mL d ret P S n ad (kc + mc) (ks + ms) (pc + 3) ls (r.toList ++ st) (I') (L')) : mj_W X G own nm cc mL d ret P S n ad kc ks pc ls (s0) (I) (L) := by
  obtain ⟨p, l, e, R, s, m, args, below, meth, c, Q, A⟩ := X
  intro C H locs la hP hD hS hl
  subst hst
  obtain ⟨hbl, hpre, hfree⟩ := mj_pre (as := .ref b :: as) C.2.2.2.2.2.2.2.2.2.1 C.2.2.2.2.2.2.2.2.2.2.1 C.2.2.2.2.2.2.2.2.2.2.2.1 C.2.2.2.2.2.2.2.2.2.2.2.2 hP hD hS
  refine mj_back (Qn := Qn) (va_runV (C := mj_Rn ci) (b := ad b) (As := as.map (mj_v ad)) (rest := st.map (mj_v ad)) ⟨C.1, C.2.1, C.2.2.1, C.2.2.2.1, C.2.2.2.2.1⟩ (hM ad H.size) ⟨mj_callB C.2.2.2.2.1 hw.1 hdd C.2.2.2.2.2.2.2.2.1, C.2.2.2.2.1 _ hw.2.1, C.2.2.2.2.1 _ hw.2.2.1⟩ ⟨hbl, va_recv C.2.2.2.2.2.2.2.2.2.1 hP (mj_cl_at hw.2.2.2) (q0 := b - 1) (by rw [mj_w_at hb.1 hb.2, mj_E0 hs]), hpre⟩ rfl (by rw [List.length_map]; exact hnp) hl.1 (mj_rev ad as (.ref b :: st)) (mj_room hsm) hd hf) hS hfree (fun r I' L' H1 locs1 hq hP1 hS1 => ?_)
  have k1 := k r I' L' hq C H1 locs1 la hP1 (mj_D hD) hS1 hl
  have e : (r.toList ++ st).map (mj_v ad) = (r.map (mj_v ad)).toList ++ st.map (mj_v ad) := by cases r <;> rfl
  rw [e] at k1
  exact k1
end MR
