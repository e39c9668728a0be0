/-! ===== too many states, or the graph ===== -/
def nsG (F : Nat) (I : mj_IT) := fnX10_needStates F (I 1) (I 18) (I 19) (I 20) (I 21) (I 22) (I 23) (I 24) (I 25) (I 26) (I 32) (I 33) (I 34) (I 35) (I 36) (I 37) (I 38) (I 39) (I 40) (I 70)
def fwG (F : Nat) (I : mj_IT) := fnX11_isFew F (upd (I 71) 0 0) (I 72) (I 73) (I 75) (I 80) (I 81) (I 82) (I 83) (I 84) (I 85) (I 86) (I 87)
def gX (I : mj_IT) (a : T9) (b : T8) : Prop := ∃ (n : Nat) (fr na : Nat → Nat) (tg : Nat → Nat → Nat) (sh : Nat → Nat → Int), gG (I 18 0).toInt n fr na tg sh a.1 a.2.1 a.2.2.1 a.2.2.2.1 a.2.2.2.2.1 a.2.2.2.2.2.1 a.2.2.2.2.2.2.1 a.2.2.2.2.2.2.2.1 b.1 b.2.1 b.2.2.1 b.2.2.2.1 b.2.2.2.2.1 b.2.2.2.2.2.1 b.2.2.2.2.2.2.1 b.2.2.2.2.2.2.2
theorem q_few {F : Nat} {I : mj_IT} (h : sp2 (exG F I) (lyG F I (rL I (upd (I 71) 0 0))) (lQ I)) :
    ∃ a b, lQ I a b ∧ exG F I = some a ∧ lyG F I (rL I (upd (I 71) 0 0)) = some b ∧ b.1 0 = 0 ∧
      ((gX I a b ∧ a.1 6 = 0 ∧ b.1 21 = 0 ∧ nsG F I = some (.inl (a.1, a.2.1, a.2.2.1, a.2.2.2.1, a.2.2.2.2.1, a.2.2.2.2.2.1, a.2.2.2.2.2.2.1, a.2.2.2.2.2.2.2.1, a.2.2.2.2.2.2.2.2, I 70)) ∧ fwG F I = some (1, b.1, I 72, b.2)) ∨
       (a.1 6 = 1 ∧ b.1 21 = 1 ∧ nsG F I = some (.inr (2, a.1, a.2.1, a.2.2.1, a.2.2.2.1, a.2.2.2.2.1, a.2.2.2.2.2.1, a.2.2.2.2.2.2.1, a.2.2.2.2.2.2.2.1, a.2.2.2.2.2.2.2.2, upd (I 70) 2 (I 70 2 + 1))) ∧ fwG F I = some (0, upd b.1 0 1, upd (I 72) 2 (I 72 2 + 1), b.2))) := by
  obtain ⟨a, b, ha, hb, hl⟩ := h
  obtain ⟨q0, q1, q2, q3, q4, q5, q6⟩ := id hl
  have b0 : b.1 0 = 0 := (q5 0 (by decide) (by decide) (by decide) (by decide) (by decide)).trans upd_at
  refine ⟨a, b, hl, ha, hb, b0, ?_⟩
  have ea : nsG F I = (exG F I).bind (fun o1 => (if (o1.1 6) = 0 then some (.inl (o1.1, o1.2.1, o1.2.2.1, o1.2.2.2.1, o1.2.2.2.2.1, o1.2.2.2.2.2.1, o1.2.2.2.2.2.2.1, o1.2.2.2.2.2.2.2.1, o1.2.2.2.2.2.2.2.2, I 70)) else (fnX10_refuseState F (I 70)).bind (Sum.elim (fun o3 => some (.inl (o1.1, o1.2.1, o1.2.2.1, o1.2.2.2.1, o1.2.2.2.2.1, o1.2.2.2.2.2.1, o1.2.2.2.2.2.2.1, o1.2.2.2.2.2.2.2.1, o1.2.2.2.2.2.2.2.2, o3))) (fun eo3 => some (.inr (eo3.1, o1.1, o1.2.1, o1.2.2.1, o1.2.2.2.1, o1.2.2.2.2.1, o1.2.2.2.2.2.1, o1.2.2.2.2.2.2.1, o1.2.2.2.2.2.2.2.1, o1.2.2.2.2.2.2.2.2, eo3.2)))))) := rfl
  have eb : fwG F I = (lyG F I (rL I (upd (I 71) 0 0))).bind (fun o1 => (if (o1.1 21) = 0 then (fnX11_isFine F o1.1 (I 72) (1 : Int32) (1 : Int32) (2 : Int32)).bind (fun o5 => (if mj_bb o5.1 = true then some (o5.1, o5.2.1, o5.2.2, o1.2.1, o1.2.2.1, o1.2.2.2.1, o1.2.2.2.2.1, o1.2.2.2.2.2.1, o1.2.2.2.2.2.2.1, o1.2.2.2.2.2.2.2) else none)) else (fnX11_isFine F o1.1 (I 72) (0 : Int32) (1 : Int32) (2 : Int32)).bind (fun o3 => (if mj_bb o3.1 = true then some (o3.1, o3.2.1, o3.2.2, o1.2.1, o1.2.2.1, o1.2.2.2.1, o1.2.2.2.2.1, o1.2.2.2.2.2.1, o1.2.2.2.2.2.2.1, o1.2.2.2.2.2.2.2) else none)))) := rfl
  rw [ea, eb, ha, hb]
  rcases q6 with ⟨n, fr, na, tg, sh, hg⟩ | ⟨m1, m2, m3, m4⟩
  · left
    have c5 := hg.2.1.2.2.2.2.1
    have c6 := hg.2.1.2.2.2.2.2
    refine ⟨⟨n, fr, na, tg, sh, hg⟩, c5, c6, ?_, ?_⟩
    · rw [Option.bind_some, if_pos c5]
    · rw [Option.bind_some, if_pos c6, q_fine F b0, Option.bind_some, if_pos (show mj_bb 1 = true from by decide)]
  · right
    refine ⟨m1, m2, ?_, ?_⟩
    · rw [Option.bind_some, if_neg (by rw [m1]; decide), q_state]
      rfl
    · rw [Option.bind_some, if_neg (by rw [m2]; decide), q_fine0 F b0 (show ¬ (1 : Int32) = 0 from by decide) (by decide), Option.bind_some, if_pos (show mj_bb 0 = true from by decide)]
      rfl
