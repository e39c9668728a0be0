/-! ===== what the start gives of statics and texts ===== -/
def mj_tm (i : Nat) : Jvm.Term := Jvm.Term.string "OddsSolver$Reader" ([97, 103, 105, 107, 109, 111, 170].getD i 0)
theorem mj_eqR {args : Array Value} {s : State} {t u : Jvm.Term} {a : Nat} (h : (Jvm.Cond.eq t u).before args s = true) (ht : t.eval args s none [] s = some (.ref a)) : u.eval args s none [] s = some (.ref a) := by
  cases hv : u.eval args s none [] s with
  | none => simp [Cond.before, Cond.holds, Cond.value, ht, hv] at h
  | some w =>
    simp only [Cond.before, Cond.holds, Cond.value, ht, hv] at h
    cases w <;> simp_all
set_option maxRecDepth 100000 in
set_option maxHeartbeats 4000000 in
theorem mj_strs {b : Nat} {s : State} {A : Nat → Prop} (hgv : (Jvm.Cond.and given_1 narrow_1).before #[Value.ref b] s = true) (hA : ∀ a : Nat, a < s.heap.size → ¬ A a) : ∃ adK adV : Nat → Nat, vk_S 7 mj_stl mj_stb adK adV A s s.heap ∧ ∀ i : Nat, i < 7 → (mj_tm i).eval #[Value.ref b] s none [] s = some (.ref (adK i)) := by
  have hs := flat_of_before _ hgv
  refine vk_Sof (tm := mj_tm) (by decide) ?_ ?_ ?_ ?_ ?_ ?_ hA
  · intro i hi
    by_cases e0 : i = 0
    · subst e0
      exact (hs (Jvm.Cond.exactly (Jvm.Term.string "OddsSolver$Reader" (97 : Nat)) "java/lang/String") (List.mem_of_getElem? (i := 311) (by decide +kernel)))
    by_cases e1 : i = 1
    · subst e1
      exact (hs (Jvm.Cond.exactly (Jvm.Term.string "OddsSolver$Reader" (103 : Nat)) "java/lang/String") (List.mem_of_getElem? (i := 321) (by decide +kernel)))
    by_cases e2 : i = 2
    · subst e2
      exact (hs (Jvm.Cond.exactly (Jvm.Term.string "OddsSolver$Reader" (105 : Nat)) "java/lang/String") (List.mem_of_getElem? (i := 332) (by decide +kernel)))
    by_cases e3 : i = 3
    · subst e3
      exact (hs (Jvm.Cond.exactly (Jvm.Term.string "OddsSolver$Reader" (107 : Nat)) "java/lang/String") (List.mem_of_getElem? (i := 342) (by decide +kernel)))
    by_cases e4 : i = 4
    · subst e4
      exact (hs (Jvm.Cond.exactly (Jvm.Term.string "OddsSolver$Reader" (109 : Nat)) "java/lang/String") (List.mem_of_getElem? (i := 356) (by decide +kernel)))
    by_cases e5 : i = 5
    · subst e5
      exact (hs (Jvm.Cond.exactly (Jvm.Term.string "OddsSolver$Reader" (111 : Nat)) "java/lang/String") (List.mem_of_getElem? (i := 373) (by decide +kernel)))
    by_cases e6 : i = 6
    · subst e6
      exact (hs (Jvm.Cond.exactly (Jvm.Term.string "OddsSolver$Reader" (170 : Nat)) "java/lang/String") (List.mem_of_getElem? (i := 302) (by decide +kernel)))
    omega
  · intro i hi
    by_cases e0 : i = 0
    · subst e0
      exact (hs (Jvm.Cond.eq (Jvm.Term.field (Jvm.Term.string "OddsSolver$Reader" (97 : Nat)) "java/lang/String" "coder" "B") (Jvm.Term.int (0 : Int32))) (List.mem_of_getElem? (i := 312) (by decide +kernel)))
    by_cases e1 : i = 1
    · subst e1
      exact (hs (Jvm.Cond.eq (Jvm.Term.field (Jvm.Term.string "OddsSolver$Reader" (103 : Nat)) "java/lang/String" "coder" "B") (Jvm.Term.int (0 : Int32))) (List.mem_of_getElem? (i := 322) (by decide +kernel)))
    by_cases e2 : i = 2
    · subst e2
      exact (hs (Jvm.Cond.eq (Jvm.Term.field (Jvm.Term.string "OddsSolver$Reader" (105 : Nat)) "java/lang/String" "coder" "B") (Jvm.Term.int (0 : Int32))) (List.mem_of_getElem? (i := 333) (by decide +kernel)))
    by_cases e3 : i = 3
    · subst e3
      exact (hs (Jvm.Cond.eq (Jvm.Term.field (Jvm.Term.string "OddsSolver$Reader" (107 : Nat)) "java/lang/String" "coder" "B") (Jvm.Term.int (0 : Int32))) (List.mem_of_getElem? (i := 343) (by decide +kernel)))
    by_cases e4 : i = 4
    · subst e4
      exact (hs (Jvm.Cond.eq (Jvm.Term.field (Jvm.Term.string "OddsSolver$Reader" (109 : Nat)) "java/lang/String" "coder" "B") (Jvm.Term.int (0 : Int32))) (List.mem_of_getElem? (i := 357) (by decide +kernel)))
    by_cases e5 : i = 5
    · subst e5
      exact (hs (Jvm.Cond.eq (Jvm.Term.field (Jvm.Term.string "OddsSolver$Reader" (111 : Nat)) "java/lang/String" "coder" "B") (Jvm.Term.int (0 : Int32))) (List.mem_of_getElem? (i := 374) (by decide +kernel)))
    by_cases e6 : i = 6
    · subst e6
      exact (hs (Jvm.Cond.eq (Jvm.Term.field (Jvm.Term.string "OddsSolver$Reader" (170 : Nat)) "java/lang/String" "coder" "B") (Jvm.Term.int (0 : Int32))) (List.mem_of_getElem? (i := 303) (by decide +kernel)))
    omega
  · intro i hi
    by_cases e0 : i = 0
    · subst e0
      exact (hs (Jvm.Cond.arrayOf (Jvm.Term.field (Jvm.Term.string "OddsSolver$Reader" (97 : Nat)) "java/lang/String" "value" "[B") Jvm.ClassFile.FieldType.byte) (List.mem_of_getElem? (i := 313) (by decide +kernel)))
    by_cases e1 : i = 1
    · subst e1
      exact (hs (Jvm.Cond.arrayOf (Jvm.Term.field (Jvm.Term.string "OddsSolver$Reader" (103 : Nat)) "java/lang/String" "value" "[B") Jvm.ClassFile.FieldType.byte) (List.mem_of_getElem? (i := 323) (by decide +kernel)))
    by_cases e2 : i = 2
    · subst e2
      exact (hs (Jvm.Cond.arrayOf (Jvm.Term.field (Jvm.Term.string "OddsSolver$Reader" (105 : Nat)) "java/lang/String" "value" "[B") Jvm.ClassFile.FieldType.byte) (List.mem_of_getElem? (i := 334) (by decide +kernel)))
    by_cases e3 : i = 3
    · subst e3
      exact (hs (Jvm.Cond.arrayOf (Jvm.Term.field (Jvm.Term.string "OddsSolver$Reader" (107 : Nat)) "java/lang/String" "value" "[B") Jvm.ClassFile.FieldType.byte) (List.mem_of_getElem? (i := 344) (by decide +kernel)))
    by_cases e4 : i = 4
    · subst e4
      exact (hs (Jvm.Cond.arrayOf (Jvm.Term.field (Jvm.Term.string "OddsSolver$Reader" (109 : Nat)) "java/lang/String" "value" "[B") Jvm.ClassFile.FieldType.byte) (List.mem_of_getElem? (i := 358) (by decide +kernel)))
    by_cases e5 : i = 5
    · subst e5
      exact (hs (Jvm.Cond.arrayOf (Jvm.Term.field (Jvm.Term.string "OddsSolver$Reader" (111 : Nat)) "java/lang/String" "value" "[B") Jvm.ClassFile.FieldType.byte) (List.mem_of_getElem? (i := 375) (by decide +kernel)))
    by_cases e6 : i = 6
    · subst e6
      exact (hs (Jvm.Cond.arrayOf (Jvm.Term.field (Jvm.Term.string "OddsSolver$Reader" (170 : Nat)) "java/lang/String" "value" "[B") Jvm.ClassFile.FieldType.byte) (List.mem_of_getElem? (i := 304) (by decide +kernel)))
    omega
  · intro i hi
    by_cases e0 : i = 0
    · subst e0
      exact (hs (Jvm.Cond.eq (Jvm.Term.length (Jvm.Term.field (Jvm.Term.string "OddsSolver$Reader" (97 : Nat)) "java/lang/String" "value" "[B")) (Jvm.Term.int (4 : Int32))) (List.mem_of_getElem? (i := 314) (by decide +kernel)))
    by_cases e1 : i = 1
    · subst e1
      exact (hs (Jvm.Cond.eq (Jvm.Term.length (Jvm.Term.field (Jvm.Term.string "OddsSolver$Reader" (103 : Nat)) "java/lang/String" "value" "[B")) (Jvm.Term.int (4 : Int32))) (List.mem_of_getElem? (i := 324) (by decide +kernel)))
    by_cases e2 : i = 2
    · subst e2
      exact (hs (Jvm.Cond.eq (Jvm.Term.length (Jvm.Term.field (Jvm.Term.string "OddsSolver$Reader" (105 : Nat)) "java/lang/String" "value" "[B")) (Jvm.Term.int (2 : Int32))) (List.mem_of_getElem? (i := 335) (by decide +kernel)))
    by_cases e3 : i = 3
    · subst e3
      exact (hs (Jvm.Cond.eq (Jvm.Term.length (Jvm.Term.field (Jvm.Term.string "OddsSolver$Reader" (107 : Nat)) "java/lang/String" "value" "[B")) (Jvm.Term.int (5 : Int32))) (List.mem_of_getElem? (i := 345) (by decide +kernel)))
    by_cases e4 : i = 4
    · subst e4
      exact (hs (Jvm.Cond.eq (Jvm.Term.length (Jvm.Term.field (Jvm.Term.string "OddsSolver$Reader" (109 : Nat)) "java/lang/String" "value" "[B")) (Jvm.Term.int (7 : Int32))) (List.mem_of_getElem? (i := 359) (by decide +kernel)))
    by_cases e5 : i = 5
    · subst e5
      exact (hs (Jvm.Cond.eq (Jvm.Term.length (Jvm.Term.field (Jvm.Term.string "OddsSolver$Reader" (111 : Nat)) "java/lang/String" "value" "[B")) (Jvm.Term.int (4 : Int32))) (List.mem_of_getElem? (i := 376) (by decide +kernel)))
    by_cases e6 : i = 6
    · subst e6
      exact (hs (Jvm.Cond.eq (Jvm.Term.length (Jvm.Term.field (Jvm.Term.string "OddsSolver$Reader" (170 : Nat)) "java/lang/String" "value" "[B")) (Jvm.Term.int (4 : Int32))) (List.mem_of_getElem? (i := 305) (by decide +kernel)))
    omega
  · intro i hi
    by_cases e0 : i = 0
    · subst e0
      intro j hj
      have hj2 : j < 4 := hj
      by_cases f0 : j = 0
      · subst f0
        exact (hs (Jvm.Cond.eq (Jvm.Term.elem (Jvm.Term.field (Jvm.Term.string "OddsSolver$Reader" (97 : Nat)) "java/lang/String" "value" "[B") (Jvm.Term.int (0 : Int32))) (Jvm.Term.int (100 : Int32))) (List.mem_of_getElem? (i := 315) (by decide +kernel)))
      by_cases f1 : j = 1
      · subst f1
        exact (hs (Jvm.Cond.eq (Jvm.Term.elem (Jvm.Term.field (Jvm.Term.string "OddsSolver$Reader" (97 : Nat)) "java/lang/String" "value" "[B") (Jvm.Term.int (1 : Int32))) (Jvm.Term.int (114 : Int32))) (List.mem_of_getElem? (i := 316) (by decide +kernel)))
      by_cases f2 : j = 2
      · subst f2
        exact (hs (Jvm.Cond.eq (Jvm.Term.elem (Jvm.Term.field (Jvm.Term.string "OddsSolver$Reader" (97 : Nat)) "java/lang/String" "value" "[B") (Jvm.Term.int (2 : Int32))) (Jvm.Term.int (97 : Int32))) (List.mem_of_getElem? (i := 317) (by decide +kernel)))
      by_cases f3 : j = 3
      · subst f3
        exact (hs (Jvm.Cond.eq (Jvm.Term.elem (Jvm.Term.field (Jvm.Term.string "OddsSolver$Reader" (97 : Nat)) "java/lang/String" "value" "[B") (Jvm.Term.int (3 : Int32))) (Jvm.Term.int (119 : Int32))) (List.mem_of_getElem? (i := 318) (by decide +kernel)))
      omega
    by_cases e1 : i = 1
    · subst e1
      intro j hj
      have hj2 : j < 4 := hj
      by_cases f0 : j = 0
      · subst f0
        exact (hs (Jvm.Cond.eq (Jvm.Term.elem (Jvm.Term.field (Jvm.Term.string "OddsSolver$Reader" (103 : Nat)) "java/lang/String" "value" "[B") (Jvm.Term.int (0 : Int32))) (Jvm.Term.int (102 : Int32))) (List.mem_of_getElem? (i := 325) (by decide +kernel)))
      by_cases f1 : j = 1
      · subst f1
        exact (hs (Jvm.Cond.eq (Jvm.Term.elem (Jvm.Term.field (Jvm.Term.string "OddsSolver$Reader" (103 : Nat)) "java/lang/String" "value" "[B") (Jvm.Term.int (1 : Int32))) (Jvm.Term.int (108 : Int32))) (List.mem_of_getElem? (i := 326) (by decide +kernel)))
      by_cases f2 : j = 2
      · subst f2
        exact (hs (Jvm.Cond.eq (Jvm.Term.elem (Jvm.Term.field (Jvm.Term.string "OddsSolver$Reader" (103 : Nat)) "java/lang/String" "value" "[B") (Jvm.Term.int (2 : Int32))) (Jvm.Term.int (105 : Int32))) (List.mem_of_getElem? (i := 327) (by decide +kernel)))
      by_cases f3 : j = 3
      · subst f3
        exact (hs (Jvm.Cond.eq (Jvm.Term.elem (Jvm.Term.field (Jvm.Term.string "OddsSolver$Reader" (103 : Nat)) "java/lang/String" "value" "[B") (Jvm.Term.int (3 : Int32))) (Jvm.Term.int (112 : Int32))) (List.mem_of_getElem? (i := 328) (by decide +kernel)))
      omega
    by_cases e2 : i = 2
    · subst e2
      intro j hj
      have hj2 : j < 2 := hj
      by_cases f0 : j = 0
      · subst f0
        exact (hs (Jvm.Cond.eq (Jvm.Term.elem (Jvm.Term.field (Jvm.Term.string "OddsSolver$Reader" (105 : Nat)) "java/lang/String" "value" "[B") (Jvm.Term.int (0 : Int32))) (Jvm.Term.int (105 : Int32))) (List.mem_of_getElem? (i := 336) (by decide +kernel)))
      by_cases f1 : j = 1
      · subst f1
        exact (hs (Jvm.Cond.eq (Jvm.Term.elem (Jvm.Term.field (Jvm.Term.string "OddsSolver$Reader" (105 : Nat)) "java/lang/String" "value" "[B") (Jvm.Term.int (1 : Int32))) (Jvm.Term.int (102 : Int32))) (List.mem_of_getElem? (i := 337) (by decide +kernel)))
      omega
    by_cases e3 : i = 3
    · subst e3
      intro j hj
      have hj2 : j < 5 := hj
      by_cases f0 : j = 0
      · subst f0
        exact (hs (Jvm.Cond.eq (Jvm.Term.elem (Jvm.Term.field (Jvm.Term.string "OddsSolver$Reader" (107 : Nat)) "java/lang/String" "value" "[B") (Jvm.Term.int (0 : Int32))) (Jvm.Term.int (119 : Int32))) (List.mem_of_getElem? (i := 346) (by decide +kernel)))
      by_cases f1 : j = 1
      · subst f1
        exact (hs (Jvm.Cond.eq (Jvm.Term.elem (Jvm.Term.field (Jvm.Term.string "OddsSolver$Reader" (107 : Nat)) "java/lang/String" "value" "[B") (Jvm.Term.int (1 : Int32))) (Jvm.Term.int (104 : Int32))) (List.mem_of_getElem? (i := 347) (by decide +kernel)))
      by_cases f2 : j = 2
      · subst f2
        exact (hs (Jvm.Cond.eq (Jvm.Term.elem (Jvm.Term.field (Jvm.Term.string "OddsSolver$Reader" (107 : Nat)) "java/lang/String" "value" "[B") (Jvm.Term.int (2 : Int32))) (Jvm.Term.int (105 : Int32))) (List.mem_of_getElem? (i := 348) (by decide +kernel)))
      by_cases f3 : j = 3
      · subst f3
        exact (hs (Jvm.Cond.eq (Jvm.Term.elem (Jvm.Term.field (Jvm.Term.string "OddsSolver$Reader" (107 : Nat)) "java/lang/String" "value" "[B") (Jvm.Term.int (3 : Int32))) (Jvm.Term.int (108 : Int32))) (List.mem_of_getElem? (i := 349) (by decide +kernel)))
      by_cases f4 : j = 4
      · subst f4
        exact (hs (Jvm.Cond.eq (Jvm.Term.elem (Jvm.Term.field (Jvm.Term.string "OddsSolver$Reader" (107 : Nat)) "java/lang/String" "value" "[B") (Jvm.Term.int (4 : Int32))) (Jvm.Term.int (101 : Int32))) (List.mem_of_getElem? (i := 350) (by decide +kernel)))
      omega
    by_cases e4 : i = 4
    · subst e4
      intro j hj
      have hj2 : j < 7 := hj
      by_cases f0 : j = 0
      · subst f0
        exact (hs (Jvm.Cond.eq (Jvm.Term.elem (Jvm.Term.field (Jvm.Term.string "OddsSolver$Reader" (109 : Nat)) "java/lang/String" "value" "[B") (Jvm.Term.int (0 : Int32))) (Jvm.Term.int (111 : Int32))) (List.mem_of_getElem? (i := 360) (by decide +kernel)))
      by_cases f1 : j = 1
      · subst f1
        exact (hs (Jvm.Cond.eq (Jvm.Term.elem (Jvm.Term.field (Jvm.Term.string "OddsSolver$Reader" (109 : Nat)) "java/lang/String" "value" "[B") (Jvm.Term.int (1 : Int32))) (Jvm.Term.int (98 : Int32))) (List.mem_of_getElem? (i := 361) (by decide +kernel)))
      by_cases f2 : j = 2
      · subst f2
        exact (hs (Jvm.Cond.eq (Jvm.Term.elem (Jvm.Term.field (Jvm.Term.string "OddsSolver$Reader" (109 : Nat)) "java/lang/String" "value" "[B") (Jvm.Term.int (2 : Int32))) (Jvm.Term.int (115 : Int32))) (List.mem_of_getElem? (i := 362) (by decide +kernel)))
      by_cases f3 : j = 3
      · subst f3
        exact (hs (Jvm.Cond.eq (Jvm.Term.elem (Jvm.Term.field (Jvm.Term.string "OddsSolver$Reader" (109 : Nat)) "java/lang/String" "value" "[B") (Jvm.Term.int (3 : Int32))) (Jvm.Term.int (101 : Int32))) (List.mem_of_getElem? (i := 363) (by decide +kernel)))
      by_cases f4 : j = 4
      · subst f4
        exact (hs (Jvm.Cond.eq (Jvm.Term.elem (Jvm.Term.field (Jvm.Term.string "OddsSolver$Reader" (109 : Nat)) "java/lang/String" "value" "[B") (Jvm.Term.int (4 : Int32))) (Jvm.Term.int (114 : Int32))) (List.mem_of_getElem? (i := 364) (by decide +kernel)))
      by_cases f5 : j = 5
      · subst f5
        exact (hs (Jvm.Cond.eq (Jvm.Term.elem (Jvm.Term.field (Jvm.Term.string "OddsSolver$Reader" (109 : Nat)) "java/lang/String" "value" "[B") (Jvm.Term.int (5 : Int32))) (Jvm.Term.int (118 : Int32))) (List.mem_of_getElem? (i := 365) (by decide +kernel)))
      by_cases f6 : j = 6
      · subst f6
        exact (hs (Jvm.Cond.eq (Jvm.Term.elem (Jvm.Term.field (Jvm.Term.string "OddsSolver$Reader" (109 : Nat)) "java/lang/String" "value" "[B") (Jvm.Term.int (6 : Int32))) (Jvm.Term.int (101 : Int32))) (List.mem_of_getElem? (i := 366) (by decide +kernel)))
      omega
    by_cases e5 : i = 5
    · subst e5
      intro j hj
      have hj2 : j < 4 := hj
      by_cases f0 : j = 0
      · subst f0
        exact (hs (Jvm.Cond.eq (Jvm.Term.elem (Jvm.Term.field (Jvm.Term.string "OddsSolver$Reader" (111 : Nat)) "java/lang/String" "value" "[B") (Jvm.Term.int (0 : Int32))) (Jvm.Term.int (115 : Int32))) (List.mem_of_getElem? (i := 377) (by decide +kernel)))
      by_cases f1 : j = 1
      · subst f1
        exact (hs (Jvm.Cond.eq (Jvm.Term.elem (Jvm.Term.field (Jvm.Term.string "OddsSolver$Reader" (111 : Nat)) "java/lang/String" "value" "[B") (Jvm.Term.int (1 : Int32))) (Jvm.Term.int (116 : Int32))) (List.mem_of_getElem? (i := 378) (by decide +kernel)))
      by_cases f2 : j = 2
      · subst f2
        exact (hs (Jvm.Cond.eq (Jvm.Term.elem (Jvm.Term.field (Jvm.Term.string "OddsSolver$Reader" (111 : Nat)) "java/lang/String" "value" "[B") (Jvm.Term.int (2 : Int32))) (Jvm.Term.int (111 : Int32))) (List.mem_of_getElem? (i := 379) (by decide +kernel)))
      by_cases f3 : j = 3
      · subst f3
        exact (hs (Jvm.Cond.eq (Jvm.Term.elem (Jvm.Term.field (Jvm.Term.string "OddsSolver$Reader" (111 : Nat)) "java/lang/String" "value" "[B") (Jvm.Term.int (3 : Int32))) (Jvm.Term.int (112 : Int32))) (List.mem_of_getElem? (i := 380) (by decide +kernel)))
      omega
    by_cases e6 : i = 6
    · subst e6
      intro j hj
      have hj2 : j < 4 := hj
      by_cases f0 : j = 0
      · subst f0
        exact (hs (Jvm.Cond.eq (Jvm.Term.elem (Jvm.Term.field (Jvm.Term.string "OddsSolver$Reader" (170 : Nat)) "java/lang/String" "value" "[B") (Jvm.Term.int (0 : Int32))) (Jvm.Term.int (101 : Int32))) (List.mem_of_getElem? (i := 306) (by decide +kernel)))
      by_cases f1 : j = 1
      · subst f1
        exact (hs (Jvm.Cond.eq (Jvm.Term.elem (Jvm.Term.field (Jvm.Term.string "OddsSolver$Reader" (170 : Nat)) "java/lang/String" "value" "[B") (Jvm.Term.int (1 : Int32))) (Jvm.Term.int (108 : Int32))) (List.mem_of_getElem? (i := 307) (by decide +kernel)))
      by_cases f2 : j = 2
      · subst f2
        exact (hs (Jvm.Cond.eq (Jvm.Term.elem (Jvm.Term.field (Jvm.Term.string "OddsSolver$Reader" (170 : Nat)) "java/lang/String" "value" "[B") (Jvm.Term.int (2 : Int32))) (Jvm.Term.int (115 : Int32))) (List.mem_of_getElem? (i := 308) (by decide +kernel)))
      by_cases f3 : j = 3
      · subst f3
        exact (hs (Jvm.Cond.eq (Jvm.Term.elem (Jvm.Term.field (Jvm.Term.string "OddsSolver$Reader" (170 : Nat)) "java/lang/String" "value" "[B") (Jvm.Term.int (3 : Int32))) (Jvm.Term.int (101 : Int32))) (List.mem_of_getElem? (i := 309) (by decide +kernel)))
      omega
    omega
  · intro i j hi hj hij
    by_cases e0 : i = 0
    · subst e0
      by_cases f1 : j = 1
      · subst f1
        exact Or.inl (hs (Jvm.Cond.not (Jvm.Cond.eq (Jvm.Term.string "OddsSolver$Reader" (97 : Nat)) (Jvm.Term.string "OddsSolver$Reader" (103 : Nat)))) (List.mem_of_getElem? (i := 331) (by decide +kernel)))
      by_cases f2 : j = 2
      · subst f2
        exact Or.inl (hs (Jvm.Cond.not (Jvm.Cond.eq (Jvm.Term.string "OddsSolver$Reader" (97 : Nat)) (Jvm.Term.string "OddsSolver$Reader" (105 : Nat)))) (List.mem_of_getElem? (i := 340) (by decide +kernel)))
      by_cases f3 : j = 3
      · subst f3
        exact Or.inl (hs (Jvm.Cond.not (Jvm.Cond.eq (Jvm.Term.string "OddsSolver$Reader" (97 : Nat)) (Jvm.Term.string "OddsSolver$Reader" (107 : Nat)))) (List.mem_of_getElem? (i := 353) (by decide +kernel)))
      by_cases f4 : j = 4
      · subst f4
        exact Or.inl (hs (Jvm.Cond.not (Jvm.Cond.eq (Jvm.Term.string "OddsSolver$Reader" (97 : Nat)) (Jvm.Term.string "OddsSolver$Reader" (109 : Nat)))) (List.mem_of_getElem? (i := 369) (by decide +kernel)))
      by_cases f5 : j = 5
      · subst f5
        exact Or.inl (hs (Jvm.Cond.not (Jvm.Cond.eq (Jvm.Term.string "OddsSolver$Reader" (97 : Nat)) (Jvm.Term.string "OddsSolver$Reader" (111 : Nat)))) (List.mem_of_getElem? (i := 383) (by decide +kernel)))
      by_cases f6 : j = 6
      · subst f6
        exact Or.inr (hs (Jvm.Cond.not (Jvm.Cond.eq (Jvm.Term.string "OddsSolver$Reader" (170 : Nat)) (Jvm.Term.string "OddsSolver$Reader" (97 : Nat)))) (List.mem_of_getElem? (i := 320) (by decide +kernel)))
      omega
    by_cases e1 : i = 1
    · subst e1
      by_cases f0 : j = 0
      · subst f0
        exact Or.inr (hs (Jvm.Cond.not (Jvm.Cond.eq (Jvm.Term.string "OddsSolver$Reader" (97 : Nat)) (Jvm.Term.string "OddsSolver$Reader" (103 : Nat)))) (List.mem_of_getElem? (i := 331) (by decide +kernel)))
      by_cases f2 : j = 2
      · subst f2
        exact Or.inl (hs (Jvm.Cond.not (Jvm.Cond.eq (Jvm.Term.string "OddsSolver$Reader" (103 : Nat)) (Jvm.Term.string "OddsSolver$Reader" (105 : Nat)))) (List.mem_of_getElem? (i := 341) (by decide +kernel)))
      by_cases f3 : j = 3
      · subst f3
        exact Or.inl (hs (Jvm.Cond.not (Jvm.Cond.eq (Jvm.Term.string "OddsSolver$Reader" (103 : Nat)) (Jvm.Term.string "OddsSolver$Reader" (107 : Nat)))) (List.mem_of_getElem? (i := 354) (by decide +kernel)))
      by_cases f4 : j = 4
      · subst f4
        exact Or.inl (hs (Jvm.Cond.not (Jvm.Cond.eq (Jvm.Term.string "OddsSolver$Reader" (103 : Nat)) (Jvm.Term.string "OddsSolver$Reader" (109 : Nat)))) (List.mem_of_getElem? (i := 370) (by decide +kernel)))
      by_cases f5 : j = 5
      · subst f5
        exact Or.inl (hs (Jvm.Cond.not (Jvm.Cond.eq (Jvm.Term.string "OddsSolver$Reader" (103 : Nat)) (Jvm.Term.string "OddsSolver$Reader" (111 : Nat)))) (List.mem_of_getElem? (i := 384) (by decide +kernel)))
      by_cases f6 : j = 6
      · subst f6
        exact Or.inr (hs (Jvm.Cond.not (Jvm.Cond.eq (Jvm.Term.string "OddsSolver$Reader" (170 : Nat)) (Jvm.Term.string "OddsSolver$Reader" (103 : Nat)))) (List.mem_of_getElem? (i := 330) (by decide +kernel)))
      omega
    by_cases e2 : i = 2
    · subst e2
      by_cases f0 : j = 0
      · subst f0
        exact Or.inr (hs (Jvm.Cond.not (Jvm.Cond.eq (Jvm.Term.string "OddsSolver$Reader" (97 : Nat)) (Jvm.Term.string "OddsSolver$Reader" (105 : Nat)))) (List.mem_of_getElem? (i := 340) (by decide +kernel)))
      by_cases f1 : j = 1
      · subst f1
        exact Or.inr (hs (Jvm.Cond.not (Jvm.Cond.eq (Jvm.Term.string "OddsSolver$Reader" (103 : Nat)) (Jvm.Term.string "OddsSolver$Reader" (105 : Nat)))) (List.mem_of_getElem? (i := 341) (by decide +kernel)))
      by_cases f3 : j = 3
      · subst f3
        exact Or.inl (hs (Jvm.Cond.not (Jvm.Cond.eq (Jvm.Term.string "OddsSolver$Reader" (105 : Nat)) (Jvm.Term.string "OddsSolver$Reader" (107 : Nat)))) (List.mem_of_getElem? (i := 355) (by decide +kernel)))
      by_cases f4 : j = 4
      · subst f4
        exact Or.inl (hs (Jvm.Cond.not (Jvm.Cond.eq (Jvm.Term.string "OddsSolver$Reader" (105 : Nat)) (Jvm.Term.string "OddsSolver$Reader" (109 : Nat)))) (List.mem_of_getElem? (i := 371) (by decide +kernel)))
      by_cases f5 : j = 5
      · subst f5
        exact Or.inl (hs (Jvm.Cond.not (Jvm.Cond.eq (Jvm.Term.string "OddsSolver$Reader" (105 : Nat)) (Jvm.Term.string "OddsSolver$Reader" (111 : Nat)))) (List.mem_of_getElem? (i := 385) (by decide +kernel)))
      by_cases f6 : j = 6
      · subst f6
        exact Or.inr (hs (Jvm.Cond.not (Jvm.Cond.eq (Jvm.Term.string "OddsSolver$Reader" (170 : Nat)) (Jvm.Term.string "OddsSolver$Reader" (105 : Nat)))) (List.mem_of_getElem? (i := 339) (by decide +kernel)))
      omega
    by_cases e3 : i = 3
    · subst e3
      by_cases f0 : j = 0
      · subst f0
        exact Or.inr (hs (Jvm.Cond.not (Jvm.Cond.eq (Jvm.Term.string "OddsSolver$Reader" (97 : Nat)) (Jvm.Term.string "OddsSolver$Reader" (107 : Nat)))) (List.mem_of_getElem? (i := 353) (by decide +kernel)))
      by_cases f1 : j = 1
      · subst f1
        exact Or.inr (hs (Jvm.Cond.not (Jvm.Cond.eq (Jvm.Term.string "OddsSolver$Reader" (103 : Nat)) (Jvm.Term.string "OddsSolver$Reader" (107 : Nat)))) (List.mem_of_getElem? (i := 354) (by decide +kernel)))
      by_cases f2 : j = 2
      · subst f2
        exact Or.inr (hs (Jvm.Cond.not (Jvm.Cond.eq (Jvm.Term.string "OddsSolver$Reader" (105 : Nat)) (Jvm.Term.string "OddsSolver$Reader" (107 : Nat)))) (List.mem_of_getElem? (i := 355) (by decide +kernel)))
      by_cases f4 : j = 4
      · subst f4
        exact Or.inl (hs (Jvm.Cond.not (Jvm.Cond.eq (Jvm.Term.string "OddsSolver$Reader" (107 : Nat)) (Jvm.Term.string "OddsSolver$Reader" (109 : Nat)))) (List.mem_of_getElem? (i := 372) (by decide +kernel)))
      by_cases f5 : j = 5
      · subst f5
        exact Or.inl (hs (Jvm.Cond.not (Jvm.Cond.eq (Jvm.Term.string "OddsSolver$Reader" (107 : Nat)) (Jvm.Term.string "OddsSolver$Reader" (111 : Nat)))) (List.mem_of_getElem? (i := 386) (by decide +kernel)))
      by_cases f6 : j = 6
      · subst f6
        exact Or.inr (hs (Jvm.Cond.not (Jvm.Cond.eq (Jvm.Term.string "OddsSolver$Reader" (170 : Nat)) (Jvm.Term.string "OddsSolver$Reader" (107 : Nat)))) (List.mem_of_getElem? (i := 352) (by decide +kernel)))
      omega
    by_cases e4 : i = 4
    · subst e4
      by_cases f0 : j = 0
      · subst f0
        exact Or.inr (hs (Jvm.Cond.not (Jvm.Cond.eq (Jvm.Term.string "OddsSolver$Reader" (97 : Nat)) (Jvm.Term.string "OddsSolver$Reader" (109 : Nat)))) (List.mem_of_getElem? (i := 369) (by decide +kernel)))
      by_cases f1 : j = 1
      · subst f1
        exact Or.inr (hs (Jvm.Cond.not (Jvm.Cond.eq (Jvm.Term.string "OddsSolver$Reader" (103 : Nat)) (Jvm.Term.string "OddsSolver$Reader" (109 : Nat)))) (List.mem_of_getElem? (i := 370) (by decide +kernel)))
      by_cases f2 : j = 2
      · subst f2
        exact Or.inr (hs (Jvm.Cond.not (Jvm.Cond.eq (Jvm.Term.string "OddsSolver$Reader" (105 : Nat)) (Jvm.Term.string "OddsSolver$Reader" (109 : Nat)))) (List.mem_of_getElem? (i := 371) (by decide +kernel)))
      by_cases f3 : j = 3
      · subst f3
        exact Or.inr (hs (Jvm.Cond.not (Jvm.Cond.eq (Jvm.Term.string "OddsSolver$Reader" (107 : Nat)) (Jvm.Term.string "OddsSolver$Reader" (109 : Nat)))) (List.mem_of_getElem? (i := 372) (by decide +kernel)))
      by_cases f5 : j = 5
      · subst f5
        exact Or.inl (hs (Jvm.Cond.not (Jvm.Cond.eq (Jvm.Term.string "OddsSolver$Reader" (109 : Nat)) (Jvm.Term.string "OddsSolver$Reader" (111 : Nat)))) (List.mem_of_getElem? (i := 387) (by decide +kernel)))
      by_cases f6 : j = 6
      · subst f6
        exact Or.inr (hs (Jvm.Cond.not (Jvm.Cond.eq (Jvm.Term.string "OddsSolver$Reader" (170 : Nat)) (Jvm.Term.string "OddsSolver$Reader" (109 : Nat)))) (List.mem_of_getElem? (i := 368) (by decide +kernel)))
      omega
    by_cases e5 : i = 5
    · subst e5
      by_cases f0 : j = 0
      · subst f0
        exact Or.inr (hs (Jvm.Cond.not (Jvm.Cond.eq (Jvm.Term.string "OddsSolver$Reader" (97 : Nat)) (Jvm.Term.string "OddsSolver$Reader" (111 : Nat)))) (List.mem_of_getElem? (i := 383) (by decide +kernel)))
      by_cases f1 : j = 1
      · subst f1
        exact Or.inr (hs (Jvm.Cond.not (Jvm.Cond.eq (Jvm.Term.string "OddsSolver$Reader" (103 : Nat)) (Jvm.Term.string "OddsSolver$Reader" (111 : Nat)))) (List.mem_of_getElem? (i := 384) (by decide +kernel)))
      by_cases f2 : j = 2
      · subst f2
        exact Or.inr (hs (Jvm.Cond.not (Jvm.Cond.eq (Jvm.Term.string "OddsSolver$Reader" (105 : Nat)) (Jvm.Term.string "OddsSolver$Reader" (111 : Nat)))) (List.mem_of_getElem? (i := 385) (by decide +kernel)))
      by_cases f3 : j = 3
      · subst f3
        exact Or.inr (hs (Jvm.Cond.not (Jvm.Cond.eq (Jvm.Term.string "OddsSolver$Reader" (107 : Nat)) (Jvm.Term.string "OddsSolver$Reader" (111 : Nat)))) (List.mem_of_getElem? (i := 386) (by decide +kernel)))
      by_cases f4 : j = 4
      · subst f4
        exact Or.inr (hs (Jvm.Cond.not (Jvm.Cond.eq (Jvm.Term.string "OddsSolver$Reader" (109 : Nat)) (Jvm.Term.string "OddsSolver$Reader" (111 : Nat)))) (List.mem_of_getElem? (i := 387) (by decide +kernel)))
      by_cases f6 : j = 6
      · subst f6
        exact Or.inr (hs (Jvm.Cond.not (Jvm.Cond.eq (Jvm.Term.string "OddsSolver$Reader" (170 : Nat)) (Jvm.Term.string "OddsSolver$Reader" (111 : Nat)))) (List.mem_of_getElem? (i := 382) (by decide +kernel)))
      omega
    by_cases e6 : i = 6
    · subst e6
      by_cases f0 : j = 0
      · subst f0
        exact Or.inl (hs (Jvm.Cond.not (Jvm.Cond.eq (Jvm.Term.string "OddsSolver$Reader" (170 : Nat)) (Jvm.Term.string "OddsSolver$Reader" (97 : Nat)))) (List.mem_of_getElem? (i := 320) (by decide +kernel)))
      by_cases f1 : j = 1
      · subst f1
        exact Or.inl (hs (Jvm.Cond.not (Jvm.Cond.eq (Jvm.Term.string "OddsSolver$Reader" (170 : Nat)) (Jvm.Term.string "OddsSolver$Reader" (103 : Nat)))) (List.mem_of_getElem? (i := 330) (by decide +kernel)))
      by_cases f2 : j = 2
      · subst f2
        exact Or.inl (hs (Jvm.Cond.not (Jvm.Cond.eq (Jvm.Term.string "OddsSolver$Reader" (170 : Nat)) (Jvm.Term.string "OddsSolver$Reader" (105 : Nat)))) (List.mem_of_getElem? (i := 339) (by decide +kernel)))
      by_cases f3 : j = 3
      · subst f3
        exact Or.inl (hs (Jvm.Cond.not (Jvm.Cond.eq (Jvm.Term.string "OddsSolver$Reader" (170 : Nat)) (Jvm.Term.string "OddsSolver$Reader" (107 : Nat)))) (List.mem_of_getElem? (i := 352) (by decide +kernel)))
      by_cases f4 : j = 4
      · subst f4
        exact Or.inl (hs (Jvm.Cond.not (Jvm.Cond.eq (Jvm.Term.string "OddsSolver$Reader" (170 : Nat)) (Jvm.Term.string "OddsSolver$Reader" (109 : Nat)))) (List.mem_of_getElem? (i := 368) (by decide +kernel)))
      by_cases f5 : j = 5
      · subst f5
        exact Or.inl (hs (Jvm.Cond.not (Jvm.Cond.eq (Jvm.Term.string "OddsSolver$Reader" (170 : Nat)) (Jvm.Term.string "OddsSolver$Reader" (111 : Nat)))) (List.mem_of_getElem? (i := 382) (by decide +kernel)))
      omega
    omega
set_option maxRecDepth 100000 in
set_option maxHeartbeats 4000000 in
theorem mj_unst {b : Nat} {s : State} {A : Nat → Prop} (hgv : (Jvm.Cond.and given_1 narrow_1).before #[Value.ref b] s = true) (hts : ∀ w ∈ lw_tbl, w.before #[Value.ref b] s = true) (hA : ∀ a : Nat, a < s.heap.size → ¬ A a) : ∃ t : Nat, va_Z "OddsSolver$Digits" "UNITS" "[I" (.ref t) A s s.heap ∧ va_T .int t 6 (fun j => .int (mj_un j)) A s s.heap := by
  have hs := flat_of_before _ hgv
  have hel : ∀ j : Nat, j < 6 → (Jvm.Term.elem (Jvm.Term.static "OddsSolver$Digits" "UNITS" "[I") (.int (Int32.ofNat j))).eval #[Value.ref b] s none [] s = some (Value.int (mj_un j)) := by
    intro j hj
    refine va_eqt ?_
    by_cases f0 : j = 0
    · subst f0
      exact (hs (Jvm.Cond.eq (Jvm.Term.elem (Jvm.Term.static "OddsSolver$Digits" "UNITS" "[I") (Jvm.Term.int (0 : Int32))) (Jvm.Term.int (100000 : Int32))) (List.mem_of_getElem? (i := 7) (by decide +kernel)))
    by_cases f1 : j = 1
    · subst f1
      exact (hs (Jvm.Cond.eq (Jvm.Term.elem (Jvm.Term.static "OddsSolver$Digits" "UNITS" "[I") (Jvm.Term.int (1 : Int32))) (Jvm.Term.int (10000 : Int32))) (List.mem_of_getElem? (i := 8) (by decide +kernel)))
    by_cases f2 : j = 2
    · subst f2
      exact (hs (Jvm.Cond.eq (Jvm.Term.elem (Jvm.Term.static "OddsSolver$Digits" "UNITS" "[I") (Jvm.Term.int (2 : Int32))) (Jvm.Term.int (1000 : Int32))) (List.mem_of_getElem? (i := 9) (by decide +kernel)))
    by_cases f3 : j = 3
    · subst f3
      exact (hs (Jvm.Cond.eq (Jvm.Term.elem (Jvm.Term.static "OddsSolver$Digits" "UNITS" "[I") (Jvm.Term.int (3 : Int32))) (Jvm.Term.int (100 : Int32))) (List.mem_of_getElem? (i := 10) (by decide +kernel)))
    by_cases f4 : j = 4
    · subst f4
      exact (hs (Jvm.Cond.eq (Jvm.Term.elem (Jvm.Term.static "OddsSolver$Digits" "UNITS" "[I") (Jvm.Term.int (4 : Int32))) (Jvm.Term.int (10 : Int32))) (List.mem_of_getElem? (i := 11) (by decide +kernel)))
    by_cases f5 : j = 5
    · subst f5
      exact (hs (Jvm.Cond.eq (Jvm.Term.elem (Jvm.Term.static "OddsSolver$Digits" "UNITS" "[I") (Jvm.Term.int (5 : Int32))) (Jvm.Term.int (1 : Int32))) (List.mem_of_getElem? (i := 12) (by decide +kernel)))
    omega
  obtain ⟨t, h1, h2⟩ := va_Tof (args := #[Value.ref b]) (s := s) (tm := (Jvm.Term.static "OddsSolver$Digits" "UNITS" "[I")) (ty := .int) (N := 6) (f := fun j => .int (mj_un j)) (A := A) (by decide) (hs (Jvm.Cond.arrayOf (Jvm.Term.static "OddsSolver$Digits" "UNITS" "[I") Jvm.ClassFile.FieldType.int) (List.mem_of_getElem? (i := 5) (by decide +kernel))) (va_eqt (hs (Jvm.Cond.eq (Jvm.Term.length (Jvm.Term.static "OddsSolver$Digits" "UNITS" "[I")) (Jvm.Term.int (6 : Int32))) (List.mem_of_getElem? (i := 6) (by decide +kernel)))) hel hA
  exact ⟨t, va_Zof (hts _ (List.mem_of_getElem? (i := 589) (by decide +kernel))) (hts _ (List.mem_of_getElem? (i := 134) (by decide +kernel))) h1 hA, h2⟩
set_option maxRecDepth 100000 in
set_option maxHeartbeats 4000000 in
theorem mj_Zstart {b : Nat} {s : State} {A : Nat → Prop} (hgv : (Jvm.Cond.and given_1 narrow_1).before #[Value.ref b] s = true) (hts : ∀ w ∈ lw_tbl, w.before #[Value.ref b] s = true) (hA : ∀ a : Nat, a < s.heap.size → ¬ A a) : ∃ g : Nat → Nat, g 50 = b ∧ ∀ G : mj_GT, G.2.2.2.2.2 = g → mj_Z G s s.heap A := by
  have hs := flat_of_before _ hgv
  obtain ⟨t, hu1, hu2⟩ := mj_unst hgv hts hA
  obtain ⟨adK, adV, hS7, hK7⟩ := mj_strs hgv hA
  obtain ⟨a21, -, -, -, b21, -⟩ := Cond.exactly_spec (args := #[Value.ref b]) (first := s) (o := none) (s := s) (idx := []) (t := Jvm.Term.string "OddsSolver" 294) (cls := "java/lang/String") (hs (Jvm.Cond.exactly (Jvm.Term.string "OddsSolver" (294 : Nat)) "java/lang/String") (List.mem_of_getElem? (i := 388) (by decide +kernel)))
  obtain ⟨a22, -, -, -, b22, -⟩ := Cond.exactly_spec (args := #[Value.ref b]) (first := s) (o := none) (s := s) (idx := []) (t := Jvm.Term.string "OddsSolver" 301) (cls := "java/lang/String") (hs (Jvm.Cond.exactly (Jvm.Term.string "OddsSolver" (301 : Nat)) "java/lang/String") (List.mem_of_getElem? (i := 268) (by decide +kernel)))
  obtain ⟨a23, -, -, -, b23, -⟩ := Cond.exactly_spec (args := #[Value.ref b]) (first := s) (o := none) (s := s) (idx := []) (t := Jvm.Term.string "OddsSolver" 306) (cls := "java/lang/String") (hs (Jvm.Cond.exactly (Jvm.Term.string "OddsSolver" (306 : Nat)) "java/lang/String") (List.mem_of_getElem? (i := 441) (by decide +kernel)))
  obtain ⟨vs, hvs, hvr⟩ := Cond.isRef_spec (hs (Jvm.Cond.isRef (Jvm.Term.static "jdk/internal/util/Preconditions" "SIOOBE_FORMATTER" "Ljava/util/function/BiFunction;")) (List.mem_of_getElem? (i := 16) (by decide +kernel)))
  have m0 : (Jvm.Term.string "OddsSolverModel" 104).eval #[Value.ref b] s none [] s = some (.ref (adK 0)) := mj_eqR (hs (Jvm.Cond.eq (Jvm.Term.string "OddsSolver$Reader" (97 : Nat)) (Jvm.Term.string "OddsSolverModel" (104 : Nat))) (List.mem_of_getElem? (i := 587) (by decide +kernel))) (hK7 0 (by decide))
  have m1 : (Jvm.Term.string "OddsSolverModel" 106).eval #[Value.ref b] s none [] s = some (.ref (adK 1)) := mj_eqR (hs (Jvm.Cond.eq (Jvm.Term.string "OddsSolver$Reader" (103 : Nat)) (Jvm.Term.string "OddsSolverModel" (106 : Nat))) (List.mem_of_getElem? (i := 610) (by decide +kernel))) (hK7 1 (by decide))
  have m2 : (Jvm.Term.string "OddsSolverModel" 108).eval #[Value.ref b] s none [] s = some (.ref (adK 2)) := mj_eqR (hs (Jvm.Cond.eq (Jvm.Term.string "OddsSolver$Reader" (105 : Nat)) (Jvm.Term.string "OddsSolverModel" (108 : Nat))) (List.mem_of_getElem? (i := 632) (by decide +kernel))) (hK7 2 (by decide))
  have m3 : (Jvm.Term.string "OddsSolverModel" 110).eval #[Value.ref b] s none [] s = some (.ref (adK 3)) := mj_eqR (hs (Jvm.Cond.eq (Jvm.Term.string "OddsSolver$Reader" (107 : Nat)) (Jvm.Term.string "OddsSolverModel" (110 : Nat))) (List.mem_of_getElem? (i := 658) (by decide +kernel))) (hK7 3 (by decide))
  have m4 : (Jvm.Term.string "OddsSolverModel" 112).eval #[Value.ref b] s none [] s = some (.ref (adK 4)) := mj_eqR (hs (Jvm.Cond.eq (Jvm.Term.string "OddsSolver$Reader" (109 : Nat)) (Jvm.Term.string "OddsSolverModel" (112 : Nat))) (List.mem_of_getElem? (i := 687) (by decide +kernel))) (hK7 4 (by decide))
  have m5 : (Jvm.Term.string "OddsSolverModel" 114).eval #[Value.ref b] s none [] s = some (.ref (adK 5)) := mj_eqR (hs (Jvm.Cond.eq (Jvm.Term.string "OddsSolver$Reader" (111 : Nat)) (Jvm.Term.string "OddsSolverModel" (114 : Nat))) (List.mem_of_getElem? (i := 714) (by decide +kernel))) (hK7 5 (by decide))
  have m6 : (Jvm.Term.string "OddsSolverModel" 155).eval #[Value.ref b] s none [] s = some (.ref (adK 6)) := mj_eqR (hs (Jvm.Cond.eq (Jvm.Term.string "OddsSolver$Reader" (170 : Nat)) (Jvm.Term.string "OddsSolverModel" (155 : Nat))) (List.mem_of_getElem? (i := 735) (by decide +kernel))) (hK7 6 (by decide))
  let g : Nat → Nat := fun i => if i = 0 then t else if i = 50 then b else if i = 40 then (match vs with | .ref a => a | _ => 0) else if i = 21 then a21 else if i = 22 then a22 else if i = 23 then a23 else if i < 8 then adK (i - 1) else adV (i - 11)
  refine ⟨g, rfl, ?_⟩
  intro G hG
  unfold mj_Z
  rw [hG]
  have gK : ∀ i, i < 7 → g (1 + i) = adK i := by
    intro i hi
    have e : ∀ i, i < 7 → ((1 + i = 0 ↔ False) ∧ (1 + i = 50 ↔ False) ∧ (1 + i = 40 ↔ False) ∧ (1 + i = 21 ↔ False) ∧ (1 + i = 22 ↔ False) ∧ (1 + i = 23 ↔ False) ∧ (1 + i < 8 ↔ True) ∧ 1 + i - 1 = i) := by intro i hi; refine ⟨?_, ?_, ?_, ?_, ?_, ?_, ?_, ?_⟩ <;> first | omega | (constructor <;> intro h <;> first | trivial | omega)
    obtain ⟨e1, e2, e3, e4, e5, e6, e7, e8⟩ := e i hi
    simp only [g, e1, e2, e3, e4, e5, e6, e7, e8, if_true, if_false]
  have gV : ∀ i, i < 7 → g (11 + i) = adV i := by
    intro i hi
    have e : ∀ i, i < 7 → ((11 + i = 0 ↔ False) ∧ (11 + i = 50 ↔ False) ∧ (11 + i = 40 ↔ False) ∧ (11 + i = 21 ↔ False) ∧ (11 + i = 22 ↔ False) ∧ (11 + i = 23 ↔ False) ∧ (11 + i < 8 ↔ False) ∧ 11 + i - 11 = i) := by intro i hi; refine ⟨?_, ?_, ?_, ?_, ?_, ?_, ?_, ?_⟩ <;> first | omega | (constructor <;> intro h <;> first | trivial | omega)
    obtain ⟨e1, e2, e3, e4, e5, e6, e7, e8⟩ := e i hi
    simp only [g, e1, e2, e3, e4, e5, e6, e7, e8, if_false]
  refine ⟨hu1, hu2, ⟨?_, ?_, ?_⟩, va_Zof (hts _ (List.mem_of_getElem? (i := 770) (by decide +kernel))) (hts _ (List.mem_of_getElem? (i := 129) (by decide +kernel))) (va_eqi (hs (Jvm.Cond.eq (Jvm.Term.static "java/lang/String" "COMPACT_STRINGS" "Z") (Jvm.Term.int (1 : Int32))) (List.mem_of_getElem? (i := 15) (by decide +kernel)))) hA, ⟨fun i hi => ?_, fun i j hi hj e => ?_⟩, ?_, ?_, ?_⟩
  · intro q hq
    simp only [mj_str, List.mem_cons, List.not_mem_nil, or_false] at hq
    rcases hq with rfl | rfl | rfl | rfl | rfl | rfl | rfl | rfl | rfl | rfl | rfl | rfl | rfl | rfl | rfl | rfl | rfl
    · exact vk_R.of (hts _ (List.mem_of_getElem? (i := 833) (by decide +kernel))) (by rw [hG]; show _ = some (Value.ref (g (1 + 0))); rw [gK 0 (by decide)]; exact hK7 0 (by decide))
    · exact vk_R.of (hts _ (List.mem_of_getElem? (i := 834) (by decide +kernel))) (by rw [hG]; show _ = some (Value.ref (g (1 + 1))); rw [gK 1 (by decide)]; exact hK7 1 (by decide))
    · exact vk_R.of (hts _ (List.mem_of_getElem? (i := 835) (by decide +kernel))) (by rw [hG]; show _ = some (Value.ref (g (1 + 2))); rw [gK 2 (by decide)]; exact hK7 2 (by decide))
    · exact vk_R.of (hts _ (List.mem_of_getElem? (i := 836) (by decide +kernel))) (by rw [hG]; show _ = some (Value.ref (g (1 + 3))); rw [gK 3 (by decide)]; exact hK7 3 (by decide))
    · exact vk_R.of (hts _ (List.mem_of_getElem? (i := 837) (by decide +kernel))) (by rw [hG]; show _ = some (Value.ref (g (1 + 4))); rw [gK 4 (by decide)]; exact hK7 4 (by decide))
    · exact vk_R.of (hts _ (List.mem_of_getElem? (i := 838) (by decide +kernel))) (by rw [hG]; show _ = some (Value.ref (g (1 + 5))); rw [gK 5 (by decide)]; exact hK7 5 (by decide))
    · exact vk_R.of (hts _ (List.mem_of_getElem? (i := 756) (by decide +kernel))) (by rw [hG]; show _ = some (Value.ref (g (1 + 6))); rw [gK 6 (by decide)]; exact hK7 6 (by decide))
    · exact vk_R.of (hts _ (List.mem_of_getElem? (i := 1550) (by decide +kernel))) (by rw [hG]; show _ = some (Value.ref (g (1 + 0))); rw [gK 0 (by decide)]; exact m0)
    · exact vk_R.of (hts _ (List.mem_of_getElem? (i := 1557) (by decide +kernel))) (by rw [hG]; show _ = some (Value.ref (g (1 + 1))); rw [gK 1 (by decide)]; exact m1)
    · exact vk_R.of (hts _ (List.mem_of_getElem? (i := 1558) (by decide +kernel))) (by rw [hG]; show _ = some (Value.ref (g (1 + 2))); rw [gK 2 (by decide)]; exact m2)
    · exact vk_R.of (hts _ (List.mem_of_getElem? (i := 1559) (by decide +kernel))) (by rw [hG]; show _ = some (Value.ref (g (1 + 3))); rw [gK 3 (by decide)]; exact m3)
    · exact vk_R.of (hts _ (List.mem_of_getElem? (i := 1560) (by decide +kernel))) (by rw [hG]; show _ = some (Value.ref (g (1 + 4))); rw [gK 4 (by decide)]; exact m4)
    · exact vk_R.of (hts _ (List.mem_of_getElem? (i := 1561) (by decide +kernel))) (by rw [hG]; show _ = some (Value.ref (g (1 + 5))); rw [gK 5 (by decide)]; exact m5)
    · exact vk_R.of (hts _ (List.mem_of_getElem? (i := 1627) (by decide +kernel))) (by rw [hG]; show _ = some (Value.ref (g (1 + 6))); rw [gK 6 (by decide)]; exact m6)
    · exact vk_R.of (hts _ (List.mem_of_getElem? (i := 919) (by decide +kernel))) (by rw [hG]; exact b21)
    · exact vk_R.of (hts _ (List.mem_of_getElem? (i := 706) (by decide +kernel))) (by rw [hG]; exact b22)
    · exact vk_R.of (hts _ (List.mem_of_getElem? (i := 995) (by decide +kernel))) (by rw [hG]; exact b23)
  · intro w hw
    have on := mj_nw_on w hw
    simp only [mj_nw, List.mem_cons, List.not_mem_nil, or_false] at hw
    rcases hw with rfl | rfl | rfl | rfl | rfl | rfl | rfl | rfl | rfl | rfl | rfl | rfl | rfl | rfl | rfl | rfl | rfl | rfl
    · exact va_Nw.of on (hts _ (List.mem_of_getElem? (i := 912) (by decide +kernel)))
    · exact va_Nw.of on (hts _ (List.mem_of_getElem? (i := 667) (by decide +kernel)))
    · exact va_Nw.of on (hts _ (List.mem_of_getElem? (i := 988) (by decide +kernel)))
    · exact va_Nw.of on (hts _ (List.mem_of_getElem? (i := 668) (by decide +kernel)))
    · exact va_Nw.of on (hts _ (List.mem_of_getElem? (i := 669) (by decide +kernel)))
    · exact va_Nw.of on (hts _ (List.mem_of_getElem? (i := 670) (by decide +kernel)))
    · exact va_Nw.of on (hts _ (List.mem_of_getElem? (i := 671) (by decide +kernel)))
    · exact va_Nw.of on (hts _ (List.mem_of_getElem? (i := 672) (by decide +kernel)))
    · exact va_Nw.of on (hts _ (List.mem_of_getElem? (i := 673) (by decide +kernel)))
    · exact va_Nw.of on (hts _ (List.mem_of_getElem? (i := 154) (by decide +kernel)))
    · exact va_Nw.of on (hts _ (List.mem_of_getElem? (i := 160) (by decide +kernel)))
    · exact va_Nw.of on (hts _ (List.mem_of_getElem? (i := 266) (by decide +kernel)))
    · exact va_Nw.of on (hts _ (List.mem_of_getElem? (i := 269) (by decide +kernel)))
    · exact va_Nw.of on (hts _ (List.mem_of_getElem? (i := 286) (by decide +kernel)))
    · exact va_Nw.of on (hts _ (List.mem_of_getElem? (i := 377) (by decide +kernel)))
    · exact va_Nw.of on (hts _ (List.mem_of_getElem? (i := 434) (by decide +kernel)))
    · exact va_Nw.of on (hts _ (List.mem_of_getElem? (i := 456) (by decide +kernel)))
    · exact va_Nw.of on (hts _ (List.mem_of_getElem? (i := 490) (by decide +kernel)))
  · intro q hq
    simp only [mj_nc, List.mem_cons, List.not_mem_nil, or_false] at hq
    rcases hq with rfl | rfl | rfl | rfl | rfl | rfl
    · exact va_Nc.of (hs (Jvm.Cond.not (Jvm.Cond.castable "java/util/NoSuchElementException" "java/lang/IllegalArgumentException")) (List.mem_of_getElem? (i := 236) (by decide +kernel)))
    · exact va_Nc.of (hs (Jvm.Cond.not (Jvm.Cond.castable "java/util/NoSuchElementException" "java/lang/IllegalStateException")) (List.mem_of_getElem? (i := 265) (by decide +kernel)))
    · exact va_Nc.of (hs (Jvm.Cond.not (Jvm.Cond.castable "java/lang/IllegalArgumentException" "java/util/NoSuchElementException")) (List.mem_of_getElem? (i := 250) (by decide +kernel)))
    · exact va_Nc.of (hs (Jvm.Cond.not (Jvm.Cond.castable "java/lang/IllegalArgumentException" "java/lang/IllegalStateException")) (List.mem_of_getElem? (i := 264) (by decide +kernel)))
    · exact va_Nc.of (hs (Jvm.Cond.not (Jvm.Cond.castable "java/lang/IllegalStateException" "java/util/NoSuchElementException")) (List.mem_of_getElem? (i := 251) (by decide +kernel)))
    · exact va_Nc.of (hs (Jvm.Cond.not (Jvm.Cond.castable "java/lang/IllegalStateException" "java/lang/IllegalArgumentException")) (List.mem_of_getElem? (i := 237) (by decide +kernel)))
  · have h9 := hS7.1 i hi
    rw [← gK i hi, ← gV i hi] at h9
    exact h9
  · have e9 : g (1 + i) = g (1 + j) := e
    rw [gK i hi, gK j hj] at e9
    exact hS7.2 i j hi hj e9
  · have hz := va_Zof (hts _ (List.mem_of_getElem? (i := 786) (by decide +kernel))) (hts _ (List.mem_of_getElem? (i := 131) (by decide +kernel))) hvs hA
    cases vs with
    | null => exact Or.inl hz
    | ref a => exact Or.inr hz
    | _ => exact absurd hvr (by simp [Value.isRef])
  · exact vx_Zqof (hts _ (List.mem_of_getElem? (i := 692) (by decide +kernel))) (hts _ (List.mem_of_getElem? (i := 124) (by decide +kernel))) (hs (Jvm.Cond.isRef (Jvm.Term.static "java/lang/Throwable" "UNASSIGNED_STACK" "[Ljava/lang/StackTraceElement;")) (List.mem_of_getElem? (i := 13) (by decide +kernel))) hA
  · exact vx_Zqof (hts _ (List.mem_of_getElem? (i := 694) (by decide +kernel))) (hts _ (List.mem_of_getElem? (i := 124) (by decide +kernel))) (hs (Jvm.Cond.isRef (Jvm.Term.static "java/lang/Throwable" "SUPPRESSED_SENTINEL" "Ljava/util/List;")) (List.mem_of_getElem? (i := 14) (by decide +kernel))) hA
