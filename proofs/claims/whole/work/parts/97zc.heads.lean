/-! ===== the text: statements with a block, up to the block ===== -/
abbrev RW_ := (Nat → Int32) → (Nat → Int32) → (Nat → Int32) → Int32 → Option ((Int32) × (Nat → Int32) × (Nat → Int32))
/-- what the reference does behind the first block of a fork -/
def ctF (rw_ : RW_) (F k : Nat) (x1 : Int32) (r77 : Nat → Int32) (o4 : Int32 × (Nat → Int32) × (Nat → Int32)) : Option ((Nat → Int32) × (Nat → Int32)) :=
  (passR 4 6 4 F o4.2.1 r77).bind (fun o6 => (if o6.1 = 0 then some (o6.2, upd o4.2.2 (12 * k + 3) o4.1) else (fnX11_block rw_ F o6.2 (upd o4.2.2 (12 * k + 3) o4.1) r77 (-100 - x1)).bind (fun o9 => some (o9.2.1, upd o9.2.2 (12 * k + 4) o9.1))))
def ctW (k : Nat) (o4 : Int32 × (Nat → Int32) × (Nat → Int32)) : Option ((Nat → Int32) × (Nat → Int32)) := some (o4.2.1, upd o4.2.2 (12 * k + 3) o4.1)
theorem e_forks (rw_ : RW_) (F : Nat) {k : Nat} {x1 : Int32} {r71 r74 r77 : Nat → Int32} (hx : x1.toInt = (k : Nat)) (hk : k < 40) : fnX11_forks rw_ F r71 r74 r77 x1 = (fnX11_block rw_ F r71 (upd r74 (12 * k + 4) (-100 - x1)) r77 (-100 - x1)).bind (fun o4 => ctF rw_ F k x1 r77 o4) := by
  have b3 := b_12 hx hk (show (3 : Int32).toInt = ((3 : Nat) : Int) from rfl) (by omega)
  have b4 := b_12 hx hk (show (4 : Int32).toInt = ((4 : Nat) : Int) from rfl) (by omega)
  have c3 := c_12 hx hk (show (3 : Int32).toInt = ((3 : Nat) : Int) from rfl) (by omega)
  have c4 := c_12 hx hk (show (4 : Int32).toInt = ((4 : Nat) : Int) from rfl) (by omega)
  unfold fnX11_forks ctF
  simp only [show fnX11_behind F x1 = some (-100 - x1) from rfl, Option.bind_some, if_pos b3, if_pos b4, c3, c4, p11_7]
theorem bind_pair {α β : Type} (x : Option (α × β)) : x.bind (fun o => some (o.1, o.2)) = x := by
  cases x <;> rfl
theorem ts_st {n q k i : Nat} {r2 r3 r6 r7 r8 r9 r10 r71 t : Nat → Int32} {i' o4 y : Int32} {a : R6} {b : (Nat → Int32) × (Nat → Int32)} (hi : i = 3 ∨ i = 4) (hi' : i'.toInt = (i : Nat)) (t1 : ∀ j, j < 12 → t (12 * k + j) = -1)
    (h : tsQ n r3 r2 r71 q k r6 r7 r8 r9 r10 (upd (upd t (12 * k + 3) o4) (12 * k + 0) i') a b) : stQ n r3 r2 r71 q k i r6 r7 r8 r9 r10 t o4 y a (b.1, upd b.2 (12 * k + 4) y) := by
  have em1 : (-1 : Int32).toInt = -1 := rfl
  obtain ⟨hP, h6, h7, h8, h9, h10⟩ := h
  refine ⟨hP, fun j hj => ⟨by rw [h6], by rw [h7], h8 j hj⟩, fun j hj => ?_, fun z => ?_⟩
  · show upd _ _ _ j = _
    rw [upd_ne (by omega), h9 j (by omega), upd_ne (by omega), upd_ne (by omega)]
  · obtain ⟨k1, k2, k3⟩ := h10 z
    refine ⟨⟨?_, fun w => absurd w (by omega), fun _ => ?_, fun w => absurd w (by omega), fun w => absurd w (by omega), fun w => absurd w (by omega), fun _ => ?_, fun _ => ?_, fun _ => ⟨?_, ?_⟩⟩, ?_, ?_⟩
    · show (upd _ _ _ _).toInt = _
      rw [upd_ne (by omega), h9 _ (by omega), upd_at0]
      exact hi'
    · show (upd _ _ _ _).toInt = _
      rw [upd_ne (by omega), h9 _ (by omega), upd_ne (by omega), upd_ne (by omega), t1 1 (by omega), em1]
    · show (upd _ _ _ _).toInt = _
      rw [upd_ne (by omega), h9 _ (by omega), upd_ne (by omega), upd_ne (by omega), t1 2 (by omega), em1]
    · show sr _ (upd _ _ _ _) (upd _ _ _ _) (upd _ _ _ _)
      rw [upd_ne (by omega), upd_ne (by omega), upd_ne (by omega)]
      exact k1
    · show sr _ (upd _ _ _ _) (upd _ _ _ _) (upd _ _ _ _)
      rw [upd_ne (by omega), upd_ne (by omega), upd_ne (by omega)]
      exact k2
    · show upd _ _ _ _ = _
      rw [upd_ne (by omega)]
      exact k3
    · show upd _ _ _ _ = _
      rw [upd_ne (by omega), h9 _ (by omega), upd_ne (by omega), upd_at]
    · exact upd_at
theorem hd_2 (rw_ : RW_) (F : Nat) (hF : 500 ≤ F) {n q k : Nat} {r2 r3 r6 r7 r8 r9 r10 r71 r77 s t : Nat → Int32} {x1 o4 : Int32} (hx : x1.toInt = (k : Nat)) (hk : k < 40) (ht : tx n r3 r77) (h : tE 401 n r3 r2 r71 q) (h8 : r2 8 = 0) (hW : wd 4 1 n r3 q)
    (s10 : (s 10).toInt = (n : Nat)) (s11 : (s 11).toInt = ((q + 4 : Nat) : Int)) (sf : ∀ k, k ≠ 11 → s k = r71 k) (t1 : ∀ j, j < 12 → t (12 * k + j) = -1) :
    ∃ (v : R6) (hh rr : Nat → Int32), (fnX8_goOn F r2 r3).bind (fun o18 => fnX8_readBehindWord F o18 r3 r6 r7 r8 r9 r10 x1 2) = some v ∧ rdK2 rw_ F r77 x1 s t o4 = (fnX11_block rw_ F hh rr r77 (-100 - x1)).bind (fun o4 => ctF rw_ F k x1 r77 o4) ∧ stQ n r3 r2 r71 q k 2 r6 r7 r8 r9 r10 t o4 (-100 - x1) v (hh, rr) := by
  have em1 : (-1 : Int32).toInt = -1 := rfl
  have b0 := b_12 hx hk (show (0 : Int32).toInt = ((0 : Nat) : Int) from rfl) (by omega)
  have b2 := b_12 hx hk (show (2 : Int32).toInt = ((2 : Nat) : Int) from rfl) (by omega)
  have c0 := c_12 hx hk (show (0 : Int32).toInt = ((0 : Nat) : Int) from rfl) (by omega)
  have c2 := c_12 hx hk (show (2 : Int32).toInt = ((2 : Nat) : Int) from rfl) (by omega)
  have c3 := c_12 hx hk (show (3 : Int32).toInt = ((3 : Nat) : Int) from rfl) (by omega)
  obtain ⟨a, b, ha, hb, hP, h1, h2⟩ := s2_h2 F hF (r6 := r6) (r7 := r7) (r8 := r8) (r9 := r9) (r10 := r10) hx hk ht h h8 hW s10 s11 sf
  have g6 : a.2.1 = r6 := congrArg (fun z => z.1) h1
  have g7 : a.2.2.1 = upd r7 k (a.2.2.1 k) := congrArg (fun z => z.2.1) h1
  have g8 : a.2.2.2.1 = r8 := congrArg (fun z => z.2.2.1) h1
  have g9 : a.2.2.2.2.1 = r9 := congrArg (fun z => z.2.2.2.1) h1
  have g10 : a.2.2.2.2.2 = r10 := congrArg (fun z => z.2.2.2.2) h1
  refine ⟨a, b.2, upd (upd (upd (upd t (12 * k + 3) o4) (12 * k + 0) 2) (12 * k + 2) b.1) (12 * k + 4) (-100 - x1), ha, ?_, hP, fun j hj => ⟨by rw [g6], (congrFun g7 j).trans (upd_ne hj), by rw [g8], by rw [g9], by rw [g10]⟩, fun j hj => ?_, fun y => ?_⟩
  · unfold rdK2
    rw [if_pos b0, hb, Option.bind_some, if_pos b2, c0, c2, c3, e_forks rw_ F hx hk]
    exact bind_pair _
  · show upd _ _ _ j = _
    rw [upd_ne (by omega), upd_ne (by omega), upd_ne (by omega), upd_ne (by omega)]
  · obtain ⟨w1, w2, w3⟩ := h2 y
    refine ⟨⟨?_, fun w => absurd w (by omega), fun _ => ?_, fun _ => ?_, fun w => absurd w (by omega), fun _ => ?_, fun w => absurd (.inr rfl) w, fun w => absurd w (by omega), fun w => absurd w (by omega)⟩, ?_, ?_⟩
    · show (upd _ _ _ _).toInt = _
      rw [upd_ne (by omega), upd_ne (by omega), upd_at0]
      rfl
    · show (upd _ _ _ _).toInt = _
      rw [upd_ne (by omega), upd_ne (by omega), upd_ne (by omega), upd_ne (by omega), t1 1 (by omega), em1]
    · show upd _ _ _ _ = _
      rw [upd_ne (by omega), upd_at, w1]
    · rw [w1]
      exact ⟨w2, w3⟩
    · show upd _ _ _ _ = _
      rw [upd_ne (by omega), upd_ne (by omega), upd_ne (by omega), upd_at]
    · exact upd_at
theorem hd_3 (rw_ : RW_) (F : Nat) (hF : 500 ≤ F) {n q k : Nat} {r2 r3 r6 r7 r8 r9 r10 r71 r77 s t : Nat → Int32} {x1 o4 : Int32} (hx : x1.toInt = (k : Nat)) (hk : k < 40) (ht : tx n r3 r77) (h : tE 401 n r3 r2 r71 q) (h8 : r2 8 = 0) (hW : wd 2 2 n r3 q)
    (s10 : (s 10).toInt = (n : Nat)) (s11 : (s 11).toInt = ((q + 2 : Nat) : Int)) (sf : ∀ k, k ≠ 11 → s k = r71 k) (t1 : ∀ j, j < 12 → t (12 * k + j) = -1) :
    ∃ (v : R6) (hh rr : Nat → Int32), (fnX8_goOn F r2 r3).bind (fun o18 => fnX8_readBehindWord F o18 r3 r6 r7 r8 r9 r10 x1 3) = some v ∧ rdK3 rw_ F r77 x1 s t o4 = (fnX11_block rw_ F hh rr r77 (-100 - x1)).bind (fun o4 => ctF rw_ F k x1 r77 o4) ∧ stQ n r3 r2 r71 q k 3 r6 r7 r8 r9 r10 t o4 (-100 - x1) v (hh, rr) := by
  have b0 := b_12 hx hk (show (0 : Int32).toInt = ((0 : Nat) : Int) from rfl) (by omega)
  have c0 := c_12 hx hk (show (0 : Int32).toInt = ((0 : Nat) : Int) from rfl) (by omega)
  have c3 := c_12 hx hk (show (3 : Int32).toInt = ((3 : Nat) : Int) from rfl) (by omega)
  obtain ⟨a, b, ha, hb, hT⟩ := s2_h34 F hF (i := 3) (r6 := r6) (r7 := r7) (r8 := r8) (r9 := r9) (r10 := r10) (r74 := upd (upd t (12 * k + 3) o4) (12 * k + 0) 3) (by omega) (by decide) hx hk ht h h8 hW s10 s11 sf
  refine ⟨a, b.1, upd b.2 (12 * k + 4) (-100 - x1), ha, ?_, ts_st (.inl rfl) rfl t1 hT⟩
  unfold rdK3
  rw [if_pos b0, c0, c3, hb, Option.bind_some, e_forks rw_ F hx hk]
  exact bind_pair _
theorem hd_4 (rw_ : RW_) (F : Nat) (hF : 500 ≤ F) {n q k : Nat} {r2 r3 r6 r7 r8 r9 r10 r71 r77 s t : Nat → Int32} {x1 o4 : Int32} (hx : x1.toInt = (k : Nat)) (hk : k < 40) (ht : tx n r3 r77) (h : tE 401 n r3 r2 r71 q) (h8 : r2 8 = 0) (hW : wd 5 3 n r3 q)
    (s10 : (s 10).toInt = (n : Nat)) (s11 : (s 11).toInt = ((q + 5 : Nat) : Int)) (sf : ∀ k, k ≠ 11 → s k = r71 k) (t1 : ∀ j, j < 12 → t (12 * k + j) = -1) :
    ∃ (v : R6) (hh rr : Nat → Int32), (fnX8_goOn F r2 r3).bind (fun o18 => fnX8_readBehindWord F o18 r3 r6 r7 r8 r9 r10 x1 4) = some v ∧ rdK4 rw_ F r77 x1 s t o4 = (fnX11_block rw_ F hh rr r77 x1).bind (fun o4 => ctW k o4) ∧ stQ n r3 r2 r71 q k 4 r6 r7 r8 r9 r10 t o4 (-100 - x1) v (hh, rr) := by
  have b0 := b_12 hx hk (show (0 : Int32).toInt = ((0 : Nat) : Int) from rfl) (by omega)
  have b3 := b_12 hx hk (show (3 : Int32).toInt = ((3 : Nat) : Int) from rfl) (by omega)
  have b4 := b_12 hx hk (show (4 : Int32).toInt = ((4 : Nat) : Int) from rfl) (by omega)
  have c0 := c_12 hx hk (show (0 : Int32).toInt = ((0 : Nat) : Int) from rfl) (by omega)
  have c3 := c_12 hx hk (show (3 : Int32).toInt = ((3 : Nat) : Int) from rfl) (by omega)
  have c4 := c_12 hx hk (show (4 : Int32).toInt = ((4 : Nat) : Int) from rfl) (by omega)
  obtain ⟨a, b, ha, hb, hT⟩ := s2_h34 F hF (i := 4) (r6 := r6) (r7 := r7) (r8 := r8) (r9 := r9) (r10 := r10) (r74 := upd (upd t (12 * k + 3) o4) (12 * k + 0) 4) (by omega) (by decide) hx hk ht h h8 hW s10 s11 sf
  refine ⟨a, b.1, upd b.2 (12 * k + 4) (-100 - x1), ha, ?_, ts_st (.inr rfl) rfl t1 hT⟩
  unfold rdK4 ctW
  rw [if_pos b0, c0, c3, hb, Option.bind_some]
  simp only [show fnX11_behind F x1 = some (-100 - x1) from rfl, Option.bind_some, if_pos b3, if_pos b4, c3, c4]
