/-! ===== the text: a statement begins, in the class ===== -/
theorem s7_j66 (F : Nat) {K : Nat} {x1 x2 x5 : Int32} {r4 r5 r6 r7 r8 r9 r10 r11 r12 r13 r14 : Nat → Int32} (hx : x5.toInt = (K : Nat)) (hK : K < 40) :
    jnX7_begin_4_66 F x1 x2 x5 r4 r5 r6 r7 r8 r9 r10 r11 r12 r13 r14 = some (x5, r4, upd r5 K x1, upd r6 K (-1), upd r7 K (-1), upd r8 K 0, upd r9 K 0, upd r10 K 0, upd r11 K (-1), upd r12 K (-1), upd r13 K x2, upd r14 K (-1)) := by
  have hib : mj_ib x5 40 = true := mj_ib_of (by omega) (by omega)
  have hcl : x5.toNatClampNeg = K := by rw [i_cl, hx]; rfl
  unfold jnX7_begin_4_66
  simp only [if_pos hib, hcl]
def bg11 (x2 x3 x4 y : Int32) (r : Nat → Int32) : Nat → Int32 := if x3 = -1 ∧ ¬ x2 = -1 ∧ x4 = 0 then upd r x2.toNatClampNeg y else r
def bg12 (x2 x3 x4 y : Int32) (r : Nat → Int32) : Nat → Int32 := if x3 = -1 ∧ ¬ x2 = -1 ∧ ¬ x4 = 0 then upd r x2.toNatClampNeg y else r
def bg14 (x3 y : Int32) (r : Nat → Int32) : Nat → Int32 := if x3 = -1 then r else upd r x3.toNatClampNeg y
theorem s7_begin (F : Nat) {K : Nat} {x1 x2 x3 x4 : Int32} {r4 r5 r6 r7 r8 r9 r10 r11 r12 r13 r14 : Nat → Int32} (hK : (r4 0).toInt = (K : Nat)) (hK4 : K < 40) (h2 : ¬ x2 = -1 → mj_ib x2 40 = true) (h3 : ¬ x3 = -1 → mj_ib x3 40 = true) :
    fnX7_begin_4 F r4 r5 r6 r7 r8 r9 r10 r11 r12 r13 r14 x1 x2 x3 x4 = some (r4 0, upd r4 0 (r4 0 + 1), upd r5 K x1, upd r6 K (-1), upd r7 K (-1), upd r8 K 0, upd r9 K 0, upd r10 K 0, upd (bg11 x2 x3 x4 (r4 0) r11) K (-1), upd (bg12 x2 x3 x4 (r4 0) r12) K (-1), upd r13 K x2, upd (bg14 x3 (r4 0) r14) K (-1)) := by
  unfold fnX7_begin_4 bg11 bg12 bg14 jnX7_begin_4_53
  by_cases z3 : x3 = -1
  · rw [if_pos z3, if_pos z3]
    by_cases z2 : x2 = -1
    · rw [if_pos z2, if_pos z2, s7_j66 F hK hK4, if_neg (fun y => y.2.1 z2), if_neg (fun y => y.2.1 z2)]
    · rw [if_neg z2, if_neg z2, if_pos (h2 z2), if_pos (h2 z2)]
      by_cases z4 : x4 = 0
      · rw [if_pos z4, s7_j66 F hK hK4, if_pos ⟨z3, z2, z4⟩, if_neg (fun y => y.2.2 z4)]
      · rw [if_neg z4, s7_j66 F hK hK4, if_neg (fun y => z4 y.2.2), if_pos ⟨z3, z2, z4⟩]
  · rw [if_neg z3, if_neg z3, if_pos (h3 z3), s7_j66 F hK hK4, if_neg (fun y => z3 y.1), if_neg (fun y => z3 y.1)]
/-- the class's memory behind begin, at depth d, for statement K of kind i -/
def bgn (c : Nat → Nat → Int32) (d K : Nat) (i : Int32) (j : Nat) : Nat → Int32 :=
  if j = 4 then upd (c 4) 0 (c 4 0 + 1) else if j = 5 then upd (c 5) K i else if j = 6 then upd (c 6) K (-1) else if j = 7 then upd (c 7) K (-1) else if j = 8 then upd (c 8) K 0 else if j = 9 then upd (c 9) K 0 else if j = 10 then upd (c 10) K 0
  else if j = 11 then upd (bg11 (c 15 d) (c 16 d) (c 17 d) (c 4 0) (c 11)) K (-1) else if j = 12 then upd (bg12 (c 15 d) (c 16 d) (c 17 d) (c 4 0) (c 12)) K (-1) else if j = 13 then upd (c 13) K (c 15 d) else if j = 14 then upd (bg14 (c 16 d) (c 4 0) (c 14)) K (-1)
  else if j = 16 then upd (c 16) d (c 4 0) else c j
def pt6 (c : Nat → Nat → Int32) (a : R6) (j : Nat) : Nat → Int32 := if j = 2 then a.1 else if j = 6 then a.2.1 else if j = 7 then a.2.2.1 else if j = 8 then a.2.2.2.1 else if j = 9 then a.2.2.2.2.1 else if j = 10 then a.2.2.2.2.2 else c j
def pt2 (c : Nat → Nat → Int32) (a : Nat → Int32) (j : Nat) : Nat → Int32 := if j = 2 then a else c j
theorem e_none (F : Nat) {r3 : Nat → Int32} {c : Nat → Nat → Int32} {o : Nat → Int32} (hk : fnX8_kindHere F (c 2) r3 = some (-1)) (ho : fnX8_fail F (c 2) 1 = some o) : fnX8_readStatement F (c 2) r3 (c 4) (c 5) (c 6) (c 7) (c 8) (c 9) (c 10) (c 11) (c 12) (c 13) (c 14) (c 15) (c 16) (c 17) = some (tup5 (pt2 c o)) := by
  unfold fnX8_readStatement
  rw [hk, Option.bind_some, if_pos rfl, ho]
  rfl
theorem e_full (F : Nat) {r3 : Nat → Int32} {c : Nat → Nat → Int32} {o : Nat → Int32} {i : Int32} (hk : fnX8_kindHere F (c 2) r3 = some i) (hi : ¬ i = -1) (hf : ¬ c 4 0 < 40) (ho : fnX8_fail F (c 2) 3 = some o) : fnX8_readStatement F (c 2) r3 (c 4) (c 5) (c 6) (c 7) (c 8) (c 9) (c 10) (c 11) (c 12) (c 13) (c 14) (c 15) (c 16) (c 17) = some (tup5 (pt2 c o)) := by
  unfold fnX8_readStatement fnX7_isFull_4
  rw [hk, Option.bind_some, if_neg hi, if_neg hf, Option.bind_some, if_neg (show ¬ (1 : Int32) = 0 by decide), ho]
  rfl
theorem e_word (F : Nat) {K d : Nat} {r3 : Nat → Int32} {c : Nat → Nat → Int32} {i : Int32} (hi0 : ¬ i = 0) (hk : fnX8_kindHere F (c 2) r3 = some i) (hi : ¬ i = -1) (hK : (c 4 0).toInt = (K : Nat)) (hK4 : K < 40) (hd : (c 2 10).toInt = (d : Nat)) (hd6 : d ≤ 6) (h15 : ¬ c 15 d = -1 → mj_ib (c 15 d) 40 = true) (h16 : ¬ c 16 d = -1 → mj_ib (c 16 d) 40 = true) :
    fnX8_readStatement F (c 2) r3 (c 4) (c 5) (c 6) (c 7) (c 8) (c 9) (c 10) (c 11) (c 12) (c 13) (c 14) (c 15) (c 16) (c 17) = (fnX8_goOn F (c 2) r3).bind (fun o18 => (fnX8_readBehindWord F o18 r3 (bgn c d K i 6) (bgn c d K i 7) (bgn c d K i 8) (bgn c d K i 9) (bgn c d K i 10) (c 4 0) i).bind (fun o19 => jnX8_readStatement_127 F r3 i (c 4 0) o19.1 (bgn c d K i 4) (bgn c d K i 5) o19.2.1 o19.2.2.1 o19.2.2.2.1 o19.2.2.2.2.1 o19.2.2.2.2.2 (bgn c d K i 11) (bgn c d K i 12) (bgn c d K i 13) (bgn c d K i 14) (c 15) (bgn c d K i 16) (c 17))) := by
  have hf : c 4 0 < 40 := i_lt.mpr (by have e : (40 : Int32).toInt = 40 := rfl; omega)
  have hib : mj_ib (c 2 10) 7 = true := mj_ib_of (by omega) (by omega)
  have hcl : (c 2 10).toNatClampNeg = d := by rw [i_cl, hd]; rfl
  have hkb : mj_ib (c 4 0) 40 = true := mj_ib_of (by omega) (by omega)
  have hkc : (c 4 0).toNatClampNeg = K := by rw [i_cl, hK]; rfl
  unfold fnX8_readStatement fnX7_isFull_4
  rw [hk, Option.bind_some, if_neg hi, if_pos hf, Option.bind_some, if_pos rfl, if_pos hib, if_pos hib, if_pos hib, hcl, s7_begin F hK hK4 h15 h16, Option.bind_some]
  dsimp only
  rw [if_pos hib]
  rw [if_neg hi0]
  rfl
theorem e_var (F : Nat) {K d : Nat} {r3 : Nat → Int32} {c : Nat → Nat → Int32} {i : Int32} (hi0 : i = 0) (hk : fnX8_kindHere F (c 2) r3 = some i) (hi : ¬ i = -1) (hK : (c 4 0).toInt = (K : Nat)) (hK4 : K < 40) (hd : (c 2 10).toInt = (d : Nat)) (hd6 : d ≤ 6) (h15 : ¬ c 15 d = -1 → mj_ib (c 15 d) 40 = true) (h16 : ¬ c 16 d = -1 → mj_ib (c 16 d) 40 = true) :
    fnX8_readStatement F (c 2) r3 (c 4) (c 5) (c 6) (c 7) (c 8) (c 9) (c 10) (c 11) (c 12) (c 13) (c 14) (c 15) (c 16) (c 17) = (fnX8_readVariable F (c 2) r3).bind (fun o20 => (fnX8_readSign F o20.2 r3 61).bind (fun o22 => (fnX8_readSum F o22 r3).bind (fun o23 => jnX8_readStatement_127 F r3 i (c 4 0) o23.2 (bgn c d K i 4) (bgn c d K i 5) (upd (bgn c d K i 6) K o20.1) (bgn c d K i 7) (upd (bgn c d K i 8) K o23.1) (bgn c d K i 9) (bgn c d K i 10) (bgn c d K i 11) (bgn c d K i 12) (bgn c d K i 13) (bgn c d K i 14) (c 15) (bgn c d K i 16) (c 17)))) := by
  have hf : c 4 0 < 40 := i_lt.mpr (by have e : (40 : Int32).toInt = 40 := rfl; omega)
  have hib : mj_ib (c 2 10) 7 = true := mj_ib_of (by omega) (by omega)
  have hcl : (c 2 10).toNatClampNeg = d := by rw [i_cl, hd]; rfl
  have hkb : mj_ib (c 4 0) 40 = true := mj_ib_of (by omega) (by omega)
  have hkc : (c 4 0).toNatClampNeg = K := by rw [i_cl, hK]; rfl
  unfold fnX8_readStatement fnX7_isFull_4
  rw [hk, Option.bind_some, if_neg hi, if_pos hf, Option.bind_some, if_pos rfl, if_pos hib, if_pos hib, if_pos hib, hcl, s7_begin F hK hK4 h15 h16, Option.bind_some]
  dsimp only
  rw [if_pos hib]
  rw [if_pos hi0]
  simp only [if_pos hkb, hkc]
  rfl
theorem e_j127 (F : Nat) {r3 r2 o r4 r5 r6 r7 r8 r9 r10 r11 r12 r13 r14 r15 r16 r17 : Nat → Int32} {i k : Int32} (hi : ¬ i = 2 ∧ ¬ i = 3 ∧ ¬ i = 4) (ho : fnX8_readSign F r2 r3 59 = some o) : jnX8_readStatement_127 F r3 i k r2 r4 r5 r6 r7 r8 r9 r10 r11 r12 r13 r14 r15 r16 r17 = some (o, r4, r5, r6, r7, r8, r9, r10, r11, r12, r13, r14, r15, r16, r17) := by
  unfold jnX8_readStatement_127
  rw [if_neg hi.1, if_neg hi.2.1, if_neg hi.2.2, ho, Option.bind_some]
/-- a simple statement that begins with a word -/
theorem e_simple (F : Nat) {K d : Nat} {r3 : Nat → Int32} {c : Nat → Nat → Int32} {i : Int32} {a : R6} (hi0 : ¬ i = 0) (hi2 : ¬ i = 2 ∧ ¬ i = 3 ∧ ¬ i = 4) (hk : fnX8_kindHere F (c 2) r3 = some i) (hi : ¬ i = -1) (hK : (c 4 0).toInt = (K : Nat)) (hK4 : K < 40) (hd : (c 2 10).toInt = (d : Nat)) (hd6 : d ≤ 6) (h15 : ¬ c 15 d = -1 → mj_ib (c 15 d) 40 = true) (h16 : ¬ c 16 d = -1 → mj_ib (c 16 d) 40 = true)
    (h : (fnX8_goOn F (c 2) r3).bind (fun o18 => (fnX8_readBehindWord F o18 r3 (bgn c d K i 6) (bgn c d K i 7) (bgn c d K i 8) (bgn c d K i 9) (bgn c d K i 10) (c 4 0) i).bind (fun o19 => (fnX8_readSign F o19.1 r3 59).bind (fun o6 => some (o6, o19.2)))) = some a) :
    fnX8_readStatement F (c 2) r3 (c 4) (c 5) (c 6) (c 7) (c 8) (c 9) (c 10) (c 11) (c 12) (c 13) (c 14) (c 15) (c 16) (c 17) = some (tup5 (pt6 (bgn c d K i) a)) := by
  rw [e_word F hi0 hk hi hK hK4 hd hd6 h15 h16]
  obtain ⟨u, hu, h⟩ := Option.bind_eq_some_iff.mp h
  obtain ⟨v, hv, h⟩ := Option.bind_eq_some_iff.mp h
  obtain ⟨w, hw, h⟩ := Option.bind_eq_some_iff.mp h
  rw [hu, Option.bind_some, hv, Option.bind_some, e_j127 F hi2 hw, ← Option.some.inj h]
  rfl
theorem e_assign (F : Nat) {K d : Nat} {r3 : Nat → Int32} {c : Nat → Nat → Int32} {i : Int32} {a : R6} (hi0 : i = 0) (hk : fnX8_kindHere F (c 2) r3 = some i) (hi : ¬ i = -1) (hK : (c 4 0).toInt = (K : Nat)) (hK4 : K < 40) (hd : (c 2 10).toInt = (d : Nat)) (hd6 : d ≤ 6) (h15 : ¬ c 15 d = -1 → mj_ib (c 15 d) 40 = true) (h16 : ¬ c 16 d = -1 → mj_ib (c 16 d) 40 = true)
    (h : (fnX8_readVariable F (c 2) r3).bind (fun o20 => (fnX8_readSign F o20.2 r3 61).bind (fun o22 => (fnX8_readSum F o22 r3).bind (fun o23 => (fnX8_readSign F o23.2 r3 59).bind (fun o6 => some (o6, upd (bgn c d K i 6) K o20.1, (bgn c d K i 7), upd (bgn c d K i 8) K o23.1, (bgn c d K i 9), (bgn c d K i 10)))))) = some a) :
    fnX8_readStatement F (c 2) r3 (c 4) (c 5) (c 6) (c 7) (c 8) (c 9) (c 10) (c 11) (c 12) (c 13) (c 14) (c 15) (c 16) (c 17) = some (tup5 (pt6 (bgn c d K i) a)) := by
  rw [e_var F hi0 hk hi hK hK4 hd hd6 h15 h16]
  obtain ⟨u, hu, h⟩ := Option.bind_eq_some_iff.mp h
  obtain ⟨v, hv, h⟩ := Option.bind_eq_some_iff.mp h
  obtain ⟨w, hw, h⟩ := Option.bind_eq_some_iff.mp h
  obtain ⟨z, hz, h⟩ := Option.bind_eq_some_iff.mp h
  rw [hu, Option.bind_some, hv, Option.bind_some, hw, Option.bind_some, e_j127 F (by rw [hi0]; decide) hz, ← Option.some.inj h]
  rfl
