/-! ===== the text: the class's loop, step by step ===== -/
abbrev T15 := (Nat → Int32) × (Nat → Int32) × (Nat → Int32) × (Nat → Int32) × (Nat → Int32) × (Nat → Int32) × (Nat → Int32) × (Nat → Int32) × (Nat → Int32) × (Nat → Int32) × (Nat → Int32) × (Nat → Int32) × (Nat → Int32) × (Nat → Int32) × (Nat → Int32)
def tup (x : Int32) (c : Nat → Nat → Int32) : Int32 × T15 := (x, c 2, c 4, c 5, c 6, c 7, c 8, c 9, c 10, c 11, c 12, c 13, c 14, c 15, c 16, c 17)
def tup5 (c : Nat → Nat → Int32) : T15 := (c 2, c 4, c 5, c 6, c 7, c 8, c 9, c 10, c 11, c 12, c 13, c 14, c 15, c 16, c 17)
def bodyC (F : Nat) (r3 : Nat → Int32) : Int32 × T15 → Option ((Int32 × T15) ⊕ T15) := (mj_u2 (fun z0 => (mj_u2 (fun z1 => (mj_u2 (fun z2 => (mj_u2 (fun z3 => (mj_u2 (fun z4 => (mj_u2 (fun z5 => (mj_u2 (fun z6 => (mj_u2 (fun z7 => (mj_u2 (fun z8 => (mj_u2 (fun z9 => (mj_u2 (fun z10 => (mj_u2 (fun z11 => (mj_u2 (fun z12 => (mj_u2 (fun z13 => (mj_u2 (fun z14 z15 => bdX8_read_64 F r3 z0 z1 z2 z3 z4 z5 z6 z7 z8 z9 z10 z11 z12 z13 z14 z15))))))))))))))))))))))))))))))
theorem e_body (F : Nat) (r3 : Nat → Int32) (x : Int32) (c : Nat → Nat → Int32) : bodyC F r3 (tup x c) = bdX8_read_64 F r3 x (c 2) (c 4) (c 5) (c 6) (c 7) (c 8) (c 9) (c 10) (c 11) (c 12) (c 13) (c 14) (c 15) (c 16) (c 17) := rfl
def stC (F : Nat) (r3 : Nat → Int32) (x : Int32) (c : Nat → Nat → Int32) (x' : Int32) (c' : Nat → Nat → Int32) (m : Nat) : Prop := ∀ N, mj_it (bodyC F r3) (N + m) (tup x c) = mj_it (bodyC F r3) N (tup x' c')
theorem stC_0 (F : Nat) (r3 : Nat → Int32) (x : Int32) (c : Nat → Nat → Int32) : stC F r3 x c x c 0 := fun _ => rfl
theorem stC_1 {F : Nat} {r3 : Nat → Int32} {x x' : Int32} {c c' : Nat → Nat → Int32} (h : bodyC F r3 (tup x c) = some (.inl (tup x' c'))) : stC F r3 x c x' c' 1 := by
  intro N
  show (bodyC F r3 (tup x c)).bind _ = _
  rw [h]
  rfl
theorem stC_tr {F : Nat} {r3 : Nat → Int32} {x x' x2 : Int32} {c c' c2 : Nat → Nat → Int32} {m m' : Nat} (h : stC F r3 x c x' c' m) (h' : stC F r3 x' c' x2 c2 m') : stC F r3 x c x2 c2 (m + m') := by
  intro N
  rw [← h' N, ← h (N + m')]
  congr 1
  omega
theorem itC_e {F : Nat} {r3 : Nat → Int32} {x : Int32} {c : Nat → Nat → Int32} {e : T15} (h : bodyC F r3 (tup x c) = some (.inr e)) (N : Nat) : mj_it (bodyC F r3) (N + 1) (tup x c) = some e := by
  show (bodyC F r3 (tup x c)).bind _ = _
  rw [h]
  rfl
/-- a pass of the loop in which a statement is read -/
theorem b_stm (F : Nat) {r3 : Nat → Int32} {x : Int32} {c c' : Nat → Nat → Int32} (h1 : ¬ c 2 3 < x) (h8 : c 2 8 = 0) (h4 : 0 < c 2 10 ∨ ¬ c 2 4 = 0) (hs : c 2 10 ≤ 0 ∨ fnX8_isSign F (c 2) r3 125 = some 0)
    (h : fnX8_readStatement F (c 2) r3 (c 4) (c 5) (c 6) (c 7) (c 8) (c 9) (c 10) (c 11) (c 12) (c 13) (c 14) (c 15) (c 16) (c 17) = some (tup5 c')) : bodyC F r3 (tup x c) = some (.inl (tup (x + 1) c')) := by
  rw [e_body]
  unfold bdX8_read_64 jnX8_read_93
  rw [if_neg h1, if_pos h8, h]
  have key : (if c 2 10 ≤ 0 then (some (tup5 c')).bind (fun o2 => some (Sum.inl (x + 1, o2))) else (fnX8_isSign F (c 2) r3 125).bind (fun o3 => if o3 = 0 then (some (tup5 c')).bind (fun o5 => some (Sum.inl (x + 1, o5))) else (fnX8_closeBlock F (c 2) r3 (c 5) (c 15) (c 16) (c 17)).bind (fun o6 => some (Sum.inl (x + 1, o6.1, c 4, c 5, c 6, c 7, c 8, c 9, c 10, c 11, c 12, c 13, c 14, o6.2.1, o6.2.2.1, o6.2.2.2))))) = (some (Sum.inl (tup (x + 1) c')) : Option ((Int32 × T15) ⊕ T15)) := by
    by_cases z : c 2 10 ≤ 0
    · rw [if_pos z]
      rfl
    · rcases hs with y | y
      · exact absurd y z
      · rw [if_neg z, y, Option.bind_some, if_pos rfl]
        rfl
  by_cases z : 0 < c 2 10
  · rw [if_pos z]
    exact key
  · rw [if_neg z, if_neg (h4.resolve_left z)]
    exact key
/-- a pass of the loop in which a block is closed -/
theorem b_cls (F : Nat) {r3 : Nat → Int32} {x : Int32} {c : Nat → Nat → Int32} {a a15 a16 a17 : Nat → Int32} (h1 : ¬ c 2 3 < x) (h8 : c 2 8 = 0) (h4 : 0 < c 2 10) (h10 : ¬ c 2 10 ≤ 0) (hs : fnX8_isSign F (c 2) r3 125 = some 1)
    (h : fnX8_closeBlock F (c 2) r3 (c 5) (c 15) (c 16) (c 17) = some (a, a15, a16, a17)) : bodyC F r3 (tup x c) = some (.inl (tup (x + 1) (fun i => if i = 2 then a else if i = 15 then a15 else if i = 16 then a16 else if i = 17 then a17 else c i))) := by
  rw [e_body]
  unfold bdX8_read_64 jnX8_read_93
  rw [if_neg h1, if_pos h8, if_pos h4, if_neg h10, hs, Option.bind_some, if_neg (show ¬ (1 : Int32) = 0 by decide), h]
  rfl
theorem b_end (F : Nat) {r3 : Nat → Int32} {x : Int32} {c : Nat → Nat → Int32} (h : ¬ c 2 8 = 0 ∨ (¬ 0 < c 2 10 ∧ c 2 4 = 0)) : bodyC F r3 (tup x c) = some (.inr (tup5 c)) := by
  rw [e_body]
  unfold bdX8_read_64
  by_cases z : c 2 3 < x
  · rw [if_pos z]
    rfl
  · rw [if_neg z]
    by_cases y : c 2 8 = 0
    · rcases h with w | w
      · exact absurd y w
      · rw [if_pos y, if_neg w.1, if_pos w.2]
        rfl
    · rw [if_neg y]
      rfl
