/-! ===== within: both ===== -/
theorem l_md {x : Int64} {a : Int} (h0 : 0 ≤ x.toInt) (h : cg x.toInt a) : (x - x / (998244353 : Int64) * (998244353 : Int64)).toInt = a % 998244353 := by
  have eP : (998244353 : Int64).toInt = 998244353 := rfl
  rw [l_rem h0 (by rw [eP]; omega), eP]
  exact h
theorem s11_within (F : Nat) (hF : 30000 ≤ F) {C : Int} {n : Nat} {fr na : Nat → Nat} {tg : Nat → Nat → Nat} {sh : Nat → Nat → Int} {r32 r33 r34 r35 r36 r37 r38 r39 r71 r72 r73 r75 r87 r80 r81 r82 r83 r84 r85 r86 : Nat → Int32} {q91 q92 q97 : Nat → Int64} (hG : gG C n fr na tg sh r32 r33 r34 r35 r36 r37 r38 r39 r71 r80 r81 r82 r83 r84 r85 r86) (ho : odQ q97) (h0 : r71 0 = 0) {x1 x2 : Int32} (hx : 0 ≤ x1.toInt ∧ x1.toInt ≤ 200) :
    sp (jnX11_within_38 F r73 r75 r87 q97 x1 x2 1 r71 r72 r80 r81 r82 r83 r84 r85 r86 q91 q92) (fun o => isForm (wi n na tg sh (en_ r33 (r32 7)) x1.toInt.toNat % 998244353) x2.toInt o.1.toInt ∧ ∃ q91' q92', o.2 = (r71, r72, r80, r81, r82, r83, r84, r85, r86, q91', q92')) := by
  obtain ⟨⟨g1, g2, g3, g4⟩, ⟨c1, c2, c3, c4, c5, c6⟩, gs, gd, gc, gr, gh, g5⟩ := id hG
  have hs : ∀ i, i < n → ∀ k, k < na i → (r85 (10 * i + k)).toInt = sh i k ∧ 1 ≤ sh i k ∧ sh i k ≤ 60 := fun i hi k hk => ((gh i hi).1 k hk).2
  have he : ∀ t, t < n → (en_ r33 (r32 7) t = true ↔ r80 t = r71 4) := by
    intro t ht
    have s1 := (gs t ht).1
    have e : r32 7 = r71 4 := i_eq.mpr (by rw [c3, c4])
    rw [s1, ← e]
    exact ⟨fun z => of_decide_eq_true z, fun z => decide_eq_true z⟩
  have hz : ∀ t, t < n → en_ r33 (r32 7) t = true → na t = 0 := by
    intro t ht z
    have z1 : r33 t = r32 7 := of_decide_eq_true z
    have z2 := (gh t ht).2.2
    rw [z1, c3] at z2
    omega
  unfold jnX11_within_38 fnX11_isFine
  rw [if_neg (show ¬ (1 : Int32) = 0 from by decide), if_pos h0, Option.bind_some, if_neg (show ¬ (1 : Int32) = 0 from by decide)]
  refine sp_bind (s11_w0 F (by omega) g2 g4 na tg sh q91) (fun q36 h36 => ?_)
  refine sp_bind (s11_ws F (by omega) g2 g4 gr ho hs hx h36) ?_
  rintro ⟨q37, q37'⟩ h37
  refine sp_u2 ?_
  dsimp only at h37
  refine sp_bind (s11_wsum F (by omega) g2 (g := ac n na tg sh x1.toInt.toNat) g4 he (fun t ht => ⟨(h37 t ht).1, fun z => ?_⟩)) ?_
  · have w := (h37 t ht).2
    unfold nw at w
    rw [if_pos (hz t ht z)] at w
    exact w
  · rintro x3 ⟨w1, w2⟩
    have em := l_md w1 w2
    refine sp_bind (s11_formed F hF (by rw [em]; exact fd_md _)) (fun o39 h39 => sp_some ⟨?_, q37, q37', rfl⟩)
    rw [em] at h39
    exact h39
theorem s10_within (F : Nat) (hF : 30000 ≤ F) {C : Int} {n : Nat} {fr na : Nat → Nat} {tg : Nat → Nat → Nat} {sh : Nat → Nat → Int} {r32 r33 r34 r35 r36 r37 r38 r39 r71 r80 r81 r82 r83 r84 r85 r86 r51 r52 r53 r54 : Nat → Int32} (hG : gG C n fr na tg sh r32 r33 r34 r35 r36 r37 r38 r39 r71 r80 r81 r82 r83 r84 r85 r86) {x1 : Int32} (hx : 0 ≤ x1.toInt ∧ x1.toInt ≤ 200) (h : r51 0 = r32 0 → ∃ d, spQ n na tg sh (en_ r33 (r32 7)) d r51 r52 r54) :
    sp (fnX9_endedBy F r32 r33 r37 r38 r39 r51 r52 r53 r54 x1) (fun o => o.1.toInt = wi n na tg sh (en_ r33 (r32 7)) x1.toInt.toNat % 998244353 ∧ o.2.1 0 = r32 0 ∧ ∃ d', spQ n na tg sh (en_ r33 (r32 7)) d' o.2.1 o.2.2.1 o.2.2.2.2) := by
  obtain ⟨⟨g1, g2, g3, g4⟩, ⟨c1, c2, c3, c4, c5, c6⟩, gs, gd, gc, gr, gh, g5⟩ := id hG
  exact s9_endedBy F (by omega) g2 g3 gc (fun i hi k hk => ⟨((gh i hi).1 k hk).1, ((gh i hi).1 k hk).2.2⟩) hx h
