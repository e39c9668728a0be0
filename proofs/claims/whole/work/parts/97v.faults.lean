/-! ===== the text: the reference in a fault ===== -/
theorem s11_rowF (F D : Nat) (hF : 1 ≤ F) {r71 r74 r77 : Nat → Int32} {x1 : Int32} (h : 1 ≤ (r71 14).toInt) : fnX11_rowR F (D + 1) r71 r74 r77 x1 = some (x1, r71, r74) := by
  show fnX11_row (fnX11_rowR F D) F r71 r74 r77 x1 = _
  unfold fnX11_row
  have hm : mj_it (mj_u2 (fun z0 => (mj_u2 (fun z1 => (mj_u2 (fun z2 z3 => bdX11_row_4 (fnX11_rowR F D) F r77 x1 z0 z1 z2 z3)))))) F ((-1 : Int32), (-1 : Int32), r71, r74) = some (.inl ((-1 : Int32), (-1 : Int32), r71, r74)) := by
    cases F with
    | zero => omega
    | succ F =>
      show (bdX11_row_4 _ (F + 1) r77 x1 (-1) (-1) r71 r74).bind _ = _
      unfold bdX11_row_4
      rw [if_neg (i_n0 h)]
      rfl
  rw [hm]
  rfl
theorem s11_needsF (F : Nat) {r71 r77 : Nat → Int32} {x : Int32} (h : 1 ≤ (r71 14).toInt) : fnX11_needs F r71 r77 x = some r71 := by
  unfold fnX11_needs
  rw [if_neg (i_n0 h)]
theorem s11_blkF (F D : Nat) (hF : 1 ≤ F) {b r74 r77 : Nat → Int32} {x1 : Int32} (h : 1 ≤ (b 14).toInt) : ∃ b' : Nat → Int32, blkR (fnX11_rowR F (D + 1)) F b r74 r77 x1 = some (x1, b', r74) ∧ ∀ k, k ≠ 13 → b' k = b k := by
  have h' : 1 ≤ (upd b 13 (b 13 + 1) 14).toInt := by rw [upd_ne (by omega)]; exact h
  unfold blkR
  rw [s11_rowF F D hF h', Option.bind_some]
  dsimp only
  rw [s11_needsF F h', Option.bind_some]
  exact ⟨_, rfl, fun k hk => by rw [upd_ne hk, upd_ne hk]⟩
theorem s11_blockF (F D : Nat) (hF : 1 ≤ F) {r71 r74 r77 : Nat → Int32} {x1 : Int32} (h : 1 ≤ (r71 14).toInt) : ∃ b' : Nat → Int32, fnX11_block (fnX11_rowR F (D + 1)) F r71 r74 r77 x1 = some (x1, b', r74) ∧ ∀ k, k ≠ 13 → b' k = r71 k := by
  unfold fnX11_block
  rw [if_neg (i_n0 h), s11_j45 _ F (s11_needsF F h)]
  exact s11_blkF F D hF h
theorem s11_passF (F : Nat) {L w : Nat} {Lz : Int32} {r71 r77 : Nat → Int32} (h : 1 ≤ (r71 14).toInt) : passR L w Lz F r71 r77 = some (0, r71) := by
  have a : (0 : Int32) < r71 14 := i_lt.mpr (show (0 : Int) < (r71 14).toInt by omega)
  unfold passR
  rw [if_pos a]
theorem s11_forksF (F D : Nat) (hF : 1 ≤ F) {k : Nat} {r71 r74 r77 : Nat → Int32} {x1 : Int32} (hx : x1.toInt = (k : Nat)) (hk : k < 40) (h : 1 ≤ (r71 14).toInt) : ∃ b' r' : Nat → Int32, fnX11_forks (fnX11_rowR F (D + 1)) F r71 r74 r77 x1 = some (b', r') ∧ ∀ k, k ≠ 13 → b' k = r71 k := by
  have b3 := b_12 hx hk (show (3 : Int32).toInt = ((3 : Nat) : Int) from rfl) (by omega)
  have b4 := b_12 hx hk (show (4 : Int32).toInt = ((4 : Nat) : Int) from rfl) (by omega)
  unfold fnX11_forks
  rw [show fnX11_behind F x1 = some (-100 - x1) from rfl, Option.bind_some, if_pos b4, Option.bind_some]
  obtain ⟨b', hb, hf⟩ := s11_blockF F D hF (r74 := upd r74 ((12 * x1 + 4).toNatClampNeg) (-100 - x1)) (r77 := r77) (x1 := -100 - x1) h
  have h' : 1 ≤ (b' 14).toInt := by rw [hf 14 (by omega)]; exact h
  rw [hb, Option.bind_some, if_pos b3]
  dsimp only
  rw [p11_7, s11_passF F h', Option.bind_some]
  dsimp only
  rw [if_pos rfl]
  exact ⟨b', _, rfl, hf⟩
