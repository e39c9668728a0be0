/-! ===== the text: a step of the reference's row ===== -/
theorem row_none (rw_ : (Nat → Int32) → (Nat → Int32) → (Nat → Int32) → Int32 → Option ((Int32) × (Nat → Int32) × (Nat → Int32))) (F : Nat) (hF : 500 ≤ F) {n q : Nat} {r2 r3 r71 r74 r77 : Nat → Int32} {x1 x2 x3 : Int32} (ht : tx n r3 r77) (hE : tE 401 n r3 r2 r71 q) (h8 : r2 8 = 0) (hk : nK n r3 q) :
    ∃ s : Nat → Int32, bdX11_row_4 rw_ F r77 x1 x2 x3 r71 r74 = some (.inr (.inl (x2, x3, s, r74))) ∧ tE 401 n r3 r2 s q ∧ ∀ k, k ≠ 11 → s k = r71 k := by
  obtain ⟨h14, hh⟩ := tE_0 hE h8
  obtain ⟨o, ho, o0, o1, o2, o3, o4⟩ := s11_begins F hF ht hh
  refine ⟨o.2, ?_, ⟨hE.1, o2, .inl ⟨h8, (o4 14 (by omega)).trans h14, hQr_at o2 o3 hE.1.2.2.1 hE.1.2.2.2.1, tE_9 hE h8⟩⟩, o4⟩
  unfold bdX11_row_4
  rw [if_pos h14, ho, Option.bind_some, if_pos (o0 hk)]
theorem row_full (rw_ : (Nat → Int32) → (Nat → Int32) → (Nat → Int32) → Int32 → Option ((Int32) × (Nat → Int32) × (Nat → Int32))) (F : Nat) (hF : 500 ≤ F) {n q : Nat} {r2 r3 r71 r74 r77 : Nat → Int32} {x1 x2 x3 : Int32} (ht : tx n r3 r77) (hE : tE 401 n r3 r2 r71 q) (h8 : r2 8 = 0) (hk : ¬ nK n r3 q) (h5 : (r71 5).toInt = 40) :
    ∃ s : Nat → Int32, bdX11_row_4 rw_ F r77 x1 x2 x3 r71 r74 = some (.inr (.inr (s, r74))) ∧ tE 401 n r3 r2 s q ∧ (s 11).toInt = (q : Nat) ∧ ∀ k, k ≠ 11 → s k = r71 k := by
  obtain ⟨h14, hh⟩ := tE_0 hE h8
  obtain ⟨o, ho, o0, o1, o2, o3, o4⟩ := s11_begins F hF ht hh
  refine ⟨o.2, ?_, ⟨hE.1, o2, .inl ⟨h8, (o4 14 (by omega)).trans h14, hQr_at o2 o3 hE.1.2.2.1 hE.1.2.2.2.1, tE_9 hE h8⟩⟩, o3, o4⟩
  unfold bdX11_row_4
  rw [if_pos h14, ho, Option.bind_some, if_neg (by rw [o1 hk]; decide), if_pos (show o.2 5 = 40 from i_eq.mpr (by rw [o4 5 (by omega)]; exact h5))]
theorem row_step (rw_ : (Nat → Int32) → (Nat → Int32) → (Nat → Int32) → Int32 → Option ((Int32) × (Nat → Int32) × (Nat → Int32))) (F : Nat) (hF : 500 ≤ F) {n q d K : Nat} {r3 r71 r74 r77 : Nat → Int32} {x x1 x2 : Int32} {c : Nat → Nat → Int32} (ht : tx n r3 r77) (hJ : aJ n r3 x c r71 r74 q d K) (hK4 : K < 40) (hk : ¬ nK n r3 q) :
    ∃ s0 : Nat → Int32, tE 401 n r3 (c 2) s0 q ∧ (s0 5).toInt = ((K + 1 : Nat) : Int) ∧ (s0 13).toInt = (d : Nat) ∧ (∀ k, k ≠ 5 → k ≠ 11 → s0 k = r71 k) ∧
      bdX11_row_4 rw_ F r77 x1 x2 (c 16 d) r71 r74 = (fnX11_reads rw_ F s0 (rJ (c 16 d) (c 4 0) K r74) r77 (c 4 0)).bind (fun o => some (.inl ((if x2 = -1 then c 4 0 else x2), c 4 0, o.1, o.2))) := by
  have e1 : (1 : Int32).toInt = 1 := rfl
  obtain ⟨hE, h8, hd, hd2, hd6, hK, hK2, hK3, hx0, hxq, hs, hL, hc, hw⟩ := hJ
  obtain ⟨h14, hh⟩ := tE_0 hE h8
  obtain ⟨o, ho, o0, o1, o2, o3, o4⟩ := s11_begins F hF ht hh
  have o5 : o.2 5 = c 4 0 := i_eq.mpr (by rw [o4 5 (by omega), hK2, hK])
  have h5 : (upd o.2 5 (o.2 5 + 1) 5).toInt = ((K + 1 : Nat) : Int) := by rw [upd_at, o5, i_add (by omega) (by omega), hK, e1]; omega
  refine ⟨upd o.2 5 (o.2 5 + 1), ⟨hE.1, by rw [upd_ne (by omega)]; exact o2, .inl ⟨h8, by rw [upd_ne (by omega), o4 14 (by omega)]; exact h14, hQr_at (by rw [upd_ne (by omega)]; exact o2) (by rw [upd_ne (by omega)]; exact o3) hE.1.2.2.1 hE.1.2.2.2.1, tE_9 hE h8⟩⟩, h5, by rw [upd_ne (by omega), o4 13 (by omega)]; exact hd2, fun k k1 k2 => by rw [upd_ne k1]; exact o4 k k2, ?_⟩
  unfold bdX11_row_4
  rw [if_pos h14, ho, Option.bind_some, if_neg (by rw [o1 hk]; decide), if_neg (show ¬ o.2 5 = 40 from fun z => by rw [o5] at z; have : (c 4 0).toInt = 40 := i_eq.mp z; omega)]
  have key : ∀ r : Nat → Int32, jnX11_row_64 rw_ F r77 x1 x2 (o.2 5) (upd o.2 5 (o.2 5 + 1)) r = (fnX11_reads rw_ F (upd o.2 5 (o.2 5 + 1)) r r77 (c 4 0)).bind (fun o => some (.inl ((if x2 = -1 then c 4 0 else x2), c 4 0, o.1, o.2))) := fun r => by
    unfold jnX11_row_64
    rw [o5]
    by_cases z : x2 = -1
    · simp only [if_pos z]
    · simp only [if_neg z]
  by_cases z : c 16 d = -1
  · rw [if_pos z, key]
    unfold rJ
    rw [if_pos z]
  · rw [if_neg z, s11_joins F hF h5 (by omega), Option.bind_some, key, o5]
    unfold rJ
    rw [if_neg z]
