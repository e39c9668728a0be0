/-! ===== text: the call ===== -/
theorem s11_tcopy (F : Nat) (hF : 500 ≤ F) {n : Nat} {r76 r77 : Nat → Int32} {x1 : Int32} (hx : x1.toInt = (n : Nat)) (hn : n ≤ 400) : sp (mj_it (mj_u2 (fun z0 z1 => bdX11_text_29 F r76 x1 z0 z1)) F ((0 : Int32), r77)) (fun s => ∀ k, k < n → s k = vp_nar .byte (r76 k)) := by
  refine sp_cnt (fun s : Int32 × (Nat → Int32) => s.1) n (by omega) (fun i s => ∀ j, j < i → s.2 j = vp_nar .byte (r76 j)) ?_ F 0 _ (by omega) rfl (fun j hj => absurd hj (by omega)) (by omega)
  rintro i ⟨x, s⟩ hi hx' hcx hxs hJ
  refine sp_u2 ?_
  dsimp only at hx' hcx hxs hJ
  unfold bdX11_text_29
  refine sp_ite (fun hz => sp_some (fun v hv => ?_)) (fun hz => ?_)
  · have := i_le.mp hz
    exact hJ v (by omega)
  · have hz' : ¬ x1.toInt ≤ x.toInt := fun z => hz (i_le.mpr z)
    have hib : mj_ib x 400 = true := mj_ib_of (by omega) (by omega)
    refine sp_pos hib (sp_pos hib (sp_some ⟨by omega, rfl, fun j hj => ?_⟩))
    show upd s x.toNatClampNeg (vp_nar .byte (r76 x.toNatClampNeg)) j = _
    rw [hcx]
    by_cases z : j = i
    · rw [z, upd_at]
    · rw [upd_ne z]
      exact hJ j (by omega)
theorem tx_copy {n : Nat} {r3 r76 s : Nat → Int32} (hn : n ≤ 400) (h : ∀ k, k < n → tb (r3 k) (r76 k)) (hs : ∀ k, k < n → s k = vp_nar .byte (r76 k)) : tx n r3 s := ⟨hn, fun k hk => by
  have h1 := h k hk
  rw [hs k hk, h1.1, nar_b]
  exact ⟨rfl, h1.2⟩⟩
def txI (r71 : Nat → Int32) (x1 : Int32) : Nat → Int32 := (upd (upd (upd (upd (upd (upd (upd r71 0 (0 : Int32)) 9 (0 : Int32)) 10 x1) 11 (0 : Int32)) 13 (0 : Int32)) 5 (0 : Int32)) 14 (0 : Int32))
theorem e_text11 (F : Nat) {r71 r72 r73 r74 r75 r76 r77 : Nat → Int32} {x1 : Int32} (h : 0 ≤ x1.toInt ∧ x1.toInt ≤ (r71 9).toInt) :
    fnX11_text F r71 r72 r73 r74 r75 r76 r77 x1 = (mj_it (mj_u2 (fun z0 z1 => bdX11_text_29 F r76 x1 z0 z1)) F ((0 : Int32), r77)).bind (fun s => (fnX11_rowR F 9 (txI r71 x1) r74 s (-3)).bind (fun o14 => txT F r76 r72 r73 r75 s o14)) := by
  unfold fnX11_text
  rw [q_lies3_in F (a := 0) (b := (r71 9).toInt64) ⟨h.1, by rw [i_l]; exact h.2⟩, Option.bind_some, q_fine F upd_at, Option.bind_some, if_neg (show ¬ (1 : Int32) = 0 from by decide)]
  rfl
theorem s2_text (F : Nat) (hF : 500 ≤ F) {N : Nat} {r2 r3 r4 r5 r6 r7 r8 r9 r10 r11 r12 r13 r14 r15 r16 r17 r71 r72 r73 r74 r75 r76 r77 : Nat → Int32} {x1 : Int32} (hT : tpQ N r2 r3 r71 r76) (h : 0 ≤ x1.toInt ∧ x1.toInt ≤ (r2 0).toInt) :
    ∃ (A : T16) (D : (Int32) × (Nat → Int32) × (Nat → Int32) × (Nat → Int32) × (Nat → Int32) × (Nat → Int32) × (Nat → Int32)) (s : Nat → Int32), fnX8_read F r2 r3 r4 r5 r6 r7 r8 r9 r10 r11 r12 r13 r14 r15 r16 r17 x1 = some A ∧ fnX11_text F r71 r72 r73 r74 r75 r76 r77 x1 = some D ∧ tQ (txI r71 x1) r72 r73 r75 s A D := by
  obtain ⟨t1, t2, t3, t4⟩ := hT
  obtain ⟨n, hn⟩ : ∃ n : Nat, x1.toInt = (n : Nat) := ⟨x1.toInt.toNat, by omega⟩
  obtain ⟨s, hs, hs2⟩ := s11_tcopy F hF (r76 := r76) (r77 := r77) hn (by omega)
  have ht : tx n r3 s := tx_copy (by omega) (fun k hk => t4 k (by omega)) hs2
  have g10 : txI r71 x1 10 = x1 := by
    unfold txI
    rw [upd_ne (by omega), upd_ne (by omega), upd_ne (by omega), upd_ne (by omega), upd_at]
  have g11 : txI r71 x1 11 = 0 := by
    unfold txI
    rw [upd_ne (by omega), upd_ne (by omega), upd_ne (by omega), upd_at]
  have g13 : txI r71 x1 13 = 0 := by
    unfold txI
    rw [upd_ne (by omega), upd_ne (by omega), upd_at]
  have g5 : txI r71 x1 5 = 0 := by
    unfold txI
    rw [upd_ne (by omega), upd_at]
  have g14 : txI r71 x1 14 = 0 := by
    unfold txI
    rw [upd_at]
  obtain ⟨A, D, h1, h2, hq⟩ := s2_read F hF (r4 := r4) (r5 := r5) (r6 := r6) (r7 := r7) (r8 := r8) (r9 := r9) (r10 := r10) (r11 := r11) (r12 := r12) (r13 := r13) (r14 := r14) (r15 := r15) (r16 := r16) (r17 := r17) (r71 := txI r71 x1) (r72 := r72) (r73 := r73) (r74 := r74) (r75 := r75) (r76 := r76) ht hn t2 (by omega) (by rw [g10]; exact hn) g11 g13 g5 g14
  refine ⟨A, D, s, h1, ?_, hq⟩
  rw [e_text11 F ⟨h.1, by rw [t3]; exact h.2⟩, hs, Option.bind_some]
  exact h2
/-- what a text that is read leaves -/
def frT (I I' : mj_IT) : Prop :=
  (∀ a, a ≠ 1 → a ≠ 2 → ¬ (4 ≤ a ∧ a ≤ 29) → a ≠ 32 → ¬ (70 ≤ a ∧ a ≤ 75) → a ≠ 77 → I' a = I a) ∧ I' 1 1 = I' 71 16 ∧ I' 2 0 = 0 ∧ I' 71 9 = 0 ∧ (∀ k, k ≠ 1 → k ≠ 3 → I' 1 k = I 1 k) ∧ I' 1 3 = 0 ∧ (∀ k, k ≠ 1 → I' 32 k = I 32 k) ∧ I' 32 1 = 0 ∧ I' 71 20 = 0 ∧ I' 71 22 = 0 ∧ I' 71 17 = 0 ∧ I' 29 0 = 0 ∧ I' 71 4 = I' 18 0 ∧
  pK (I' 18) (I' 19) (I' 20) (I' 21) (I' 22) (I' 23) (I' 24) (I' 25) (I' 26) (I' 73) ∧ (∀ v, v < 6 → I' 75 v = 0) ∧ (∀ k, k ≠ 0 → k ≠ 4 → k ≠ 5 → ¬ (9 ≤ k ∧ k ≤ 17) → k ≠ 20 → k ≠ 22 → I' 71 k = I 71 k)
/-- what a text with a fault leaves -/
def frX (I I' : mj_IT) : Prop :=
  (∀ a, a ≠ 1 → a ≠ 2 → ¬ (4 ≤ a ∧ a ≤ 17) → ¬ (70 ≤ a ∧ a ≤ 72) → a ≠ 74 → a ≠ 77 → I' a = I a) ∧ I' 1 1 = I' 71 16 ∧ I' 2 0 = 0 ∧ I' 71 9 = 0 ∧ (∀ k, k ≠ 1 → I' 1 k = I 1 k) ∧ (∀ k, k ≠ 0 → k ≠ 5 → ¬ (9 ≤ k ∧ k ≤ 16) → I' 71 k = I 71 k)
/-- what text wants of the bond -/
def kT (Inv : Nat → mj_IT → mj_LT → Prop) : Prop := kQ Inv ∧ (∀ j I L, Inv j I L → ∃ N, tpQ N (I 2) (I 3) (I 71) (I 76)) ∧
  (∀ j I L I' L', j < 512 → Inv j I L → frT I I' → frL L L' → rfQ I' → Inv (j + 1) I' L') ∧
  (∀ j I L I' L', j < 512 → Inv j I L → frX I I' → frL L L' → rfQ I' → Inv (j + 1) I' L')
theorem txI_f {r71 : Nat → Int32} {x1 : Int32} {k : Nat} (k0 : k ≠ 0) (k5 : k ≠ 5) (kk : ¬ (9 ≤ k ∧ k ≤ 16)) : txI r71 x1 k = r71 k := by
  unfold txI
  rw [upd_ne (by omega), upd_ne (by omega), upd_ne (by omega), upd_ne (by omega), upd_ne (by omega), upd_ne (by omega), upd_ne (by omega)]
theorem txI_0 {r71 : Nat → Int32} {x1 : Int32} : txI r71 x1 0 = 0 := by
  unfold txI
  rw [upd_ne (by omega), upd_ne (by omega), upd_ne (by omega), upd_ne (by omega), upd_ne (by omega), upd_ne (by omega), upd_at]
theorem txI_9 {r71 : Nat → Int32} {x1 : Int32} : txI r71 x1 9 = 0 := by
  unfold txI
  rw [upd_ne (by omega), upd_ne (by omega), upd_ne (by omega), upd_ne (by omega), upd_ne (by omega), upd_at]
set_option maxHeartbeats 1000000 in
theorem b_text (F : Nat) (hF : 500 ≤ F) {Inv : Nat → mj_IT → mj_LT → Prop} (hK : kT Inv) : pb_text F Inv := by
  intro j hj I L hI x1
  obtain ⟨hr, hp, h4, hv, hf⟩ := hK.1.2 j I L hj hI
  obtain ⟨N, hN⟩ := hK.2.1 j I L hI
  have h79 : I 71 9 = I 2 0 := hN.2.2.1
  by_cases h : 0 ≤ x1.toInt ∧ x1.toInt ≤ (I 2 0).toInt
  · obtain ⟨⟨af, a2, a4, a5, a6, a7, a8, a9, a10, a11, a12, a13, a14, a15, a16, a17⟩, ⟨dv, d71, d72, d73, d74, d75, d77⟩, s, h1, h2, hq⟩ := s2_text F hF (r4 := I 4) (r5 := I 5) (r6 := I 6) (r7 := I 7) (r8 := I 8) (r9 := I 9) (r10 := I 10) (r11 := I 11) (r12 := I 12) (r13 := I 13) (r14 := I 14) (r15 := I 15) (r16 := I 16) (r17 := I 17) (r72 := I 72) (r73 := I 73) (r74 := I 74) (r75 := I 75) (r77 := I 77) hN h
    unfold tQ at hq
    dsimp only at hq
    obtain ⟨e20, e72, e77, e16, hq⟩ := hq
    rcases hq with ⟨z, g1, g4, g17, g20, g22, gfr, gpk, g75⟩ | ⟨z, g1, g73, g75, gfr⟩
    · have d0 : d71 0 = 0 := (gfr 0 (by omega) (by omega) (by omega) (by omega) (by omega) (by omega) (by omega) (by omega) (by omega) (by omega) (by omega)).trans txI_0
      have q1 : fnX10_text F (I 1) (I 2) (I 3) (I 4) (I 5) (I 6) (I 7) (I 8) (I 9) (I 10) (I 11) (I 12) (I 13) (I 14) (I 15) (I 16) (I 17) (I 18) (I 19) (I 20) (I 21) (I 22) (I 23) (I 24) (I 25) (I 26) (I 27) (I 28) (I 29) (I 32) (I 70) x1 = some (.inl (dv, upd (upd (I 1) 1 (a2 9)) 3 0, a2, I 18, I 19, I 20, I 21, I 22, I 23, I 24, I 25, I 26, I 27, I 28, a15, a16, a17, a4, a5, a6, a7, a8, a9, a10, a11, a12, a13, a14, upd (I 29) 0 0, upd (I 32) 1 0, I 70)) := by
        unfold fnX10_text
        rw [q_num_in F (I 70) (a := 0) (b := I 2 0) h, Option.bind_some, Sum.elim_inl, h1, Option.bind_some, show fnX8_faultPlace F a2 = some (a2 9) from rfl, Option.bind_some]
        dsimp only
        rw [if_pos z, g1]
        rfl
      refine ⟨.inl (dv, mj_rows I [(1, upd (upd (I 1) 1 (a2 9)) 3 0), (2, a2), (3, I 3), (4, I 18), (5, I 19), (6, I 20), (7, I 21), (8, I 22), (9, I 23), (10, I 24), (11, I 25), (12, I 26), (13, I 27), (14, I 28), (15, a15), (16, a16), (17, a17), (18, a4), (19, a5), (20, a6), (21, a7), (22, a8), (23, a9), (24, a10), (25, a11), (26, a12), (27, a13), (28, a14), (29, upd (I 29) 0 0), (32, upd (I 32) 1 0), (70, I 70)], L), dv, 0, mj_rows (mj_rows I [(1, upd (upd (I 1) 1 (a2 9)) 3 0), (2, a2), (3, I 3), (4, I 18), (5, I 19), (6, I 20), (7, I 21), (8, I 22), (9, I 23), (10, I 24), (11, I 25), (12, I 26), (13, I 27), (14, I 28), (15, a15), (16, a16), (17, a17), (18, a4), (19, a5), (20, a6), (21, a7), (22, a8), (23, a9), (24, a10), (25, a11), (26, a12), (27, a13), (28, a14), (29, upd (I 29) 0 0), (32, upd (I 32) 1 0), (70, I 70)]) [(71, d71), (72, d72), (73, d73), (74, d74), (75, d75), (76, I 76), (77, d77)], mj_rows (mj_rows (mj_rows I [(1, upd (upd (I 1) 1 (a2 9)) 3 0), (2, a2), (3, I 3), (4, I 18), (5, I 19), (6, I 20), (7, I 21), (8, I 22), (9, I 23), (10, I 24), (11, I 25), (12, I 26), (13, I 27), (14, I 28), (15, a15), (16, a16), (17, a17), (18, a4), (19, a5), (20, a6), (21, a7), (22, a8), (23, a9), (24, a10), (25, a11), (26, a12), (27, a13), (28, a14), (29, upd (I 29) 0 0), (32, upd (I 32) 1 0), (70, I 70)]) [(71, d71), (72, d72), (73, d73), (74, d74), (75, d75), (76, I 76), (77, d77)]) [(71, d71)], va_up L 98 (vp_updL (L 98) 0 dv.toInt64), va_up L 98 (vp_updL (L 98) 0 dv.toInt64), ?_, ?_, ?_, by show some (d71 0, _, _) = _; rw [d0]; rfl, rfl, ?_, ?_⟩
      · unfold stX10_text; rw [q1]; rfl
      · intro q hq; cases hq
      · show (fnX11_text F (I 71) (I 72) (I 73) (I 74) (I 75) (I 76) (I 77) x1).map _ = _
        rw [h2]; rfl
      · intro _; rfl
      · refine hK.2.2.1 j I L _ _ hj hI ⟨fun x y1 y2 y3 y4 y5 y6 => ?_, ?_, e20, ?_, fun k k1 k3 => ?_, ?_, fun k k1 => ?_, ?_, g20, g22, g17, ?_, ?_, gpk, g75, fun k k0 k4 k5 k9 k20 k22 => ?_⟩ (frL_up L _) ?_
        · rw [rw_k _ _ x (by refine ⟨fun z => ?_, trivial⟩ <;> (dsimp only at z; first | (exfalso; omega) | (subst z; rfl))), rw_k _ _ x (by refine ⟨fun z => ?_, fun z => ?_, fun z => ?_, fun z => ?_, fun z => ?_, fun z => ?_, fun z => ?_, trivial⟩ <;> (dsimp only at z; first | (exfalso; omega) | (subst z; rfl))), rw_k _ _ x (by refine ⟨fun z => ?_, fun z => ?_, fun z => ?_, fun z => ?_, fun z => ?_, fun z => ?_, fun z => ?_, fun z => ?_, fun z => ?_, fun z => ?_, fun z => ?_, fun z => ?_, fun z => ?_, fun z => ?_, fun z => ?_, fun z => ?_, fun z => ?_, fun z => ?_, fun z => ?_, fun z => ?_, fun z => ?_, fun z => ?_, fun z => ?_, fun z => ?_, fun z => ?_, fun z => ?_, fun z => ?_, fun z => ?_, fun z => ?_, fun z => ?_, fun z => ?_, trivial⟩ <;> (dsimp only at z; first | (exfalso; omega) | (subst z; rfl)))]
        · show upd (upd (I 1) 1 (a2 9)) 3 0 1 = d71 16
          rw [upd_ne (by omega), upd_at, e16]
        · show d71 9 = 0
          rw [gfr 9 (by omega) (by omega) (by omega) (by omega) (by omega) (by omega) (by omega) (by omega) (by omega) (by omega) (by omega)]
          exact txI_9
        · show upd (upd (I 1) 1 (a2 9)) 3 0 k = I 1 k
          rw [upd_ne k3, upd_ne k1]
        · show upd (upd (I 1) 1 (a2 9)) 3 0 3 = 0
          exact upd_at
        · show upd (I 32) 1 0 k = I 32 k
          exact upd_ne k1
        · show upd (I 32) 1 0 1 = 0
          exact upd_at
        · show upd (I 29) 0 0 0 = 0
          exact upd_at
        · show d71 4 = a4 0
          exact g4
        · show d71 k = I 71 k
          rw [gfr k k4 k5 (by omega) (by omega) (by omega) (by omega) (by omega) (by omega) (by omega) k20 k22]
          exact txI_f k0 k5 (by omega)
        · intro k hk
          show I 70 k = d72 k
          rw [e72]
          exact hr k hk
    · have d0 : d71 0 = 0 := (gfr 0 (by omega) (by omega) (by omega) (by omega) (by omega) (by omega) (by omega)).trans txI_0
      have q1 : fnX10_text F (I 1) (I 2) (I 3) (I 4) (I 5) (I 6) (I 7) (I 8) (I 9) (I 10) (I 11) (I 12) (I 13) (I 14) (I 15) (I 16) (I 17) (I 18) (I 19) (I 20) (I 21) (I 22) (I 23) (I 24) (I 25) (I 26) (I 27) (I 28) (I 29) (I 32) (I 70) x1 = some (.inl (dv, upd (I 1) 1 (a2 9), a2, a4, a5, a6, a7, a8, a9, a10, a11, a12, a13, a14, a15, a16, a17, I 18, I 19, I 20, I 21, I 22, I 23, I 24, I 25, I 26, I 27, I 28, I 29, I 32, I 70)) := by
        unfold fnX10_text
        rw [q_num_in F (I 70) (a := 0) (b := I 2 0) h, Option.bind_some, Sum.elim_inl, h1, Option.bind_some, show fnX8_faultPlace F a2 = some (a2 9) from rfl, Option.bind_some]
        dsimp only
        rw [if_neg z, g1]
      refine ⟨.inl (dv, mj_rows I [(1, upd (I 1) 1 (a2 9)), (2, a2), (3, I 3), (4, a4), (5, a5), (6, a6), (7, a7), (8, a8), (9, a9), (10, a10), (11, a11), (12, a12), (13, a13), (14, a14), (15, a15), (16, a16), (17, a17), (18, I 18), (19, I 19), (20, I 20), (21, I 21), (22, I 22), (23, I 23), (24, I 24), (25, I 25), (26, I 26), (27, I 27), (28, I 28), (29, I 29), (32, I 32), (70, I 70)], L), dv, 0, mj_rows (mj_rows I [(1, upd (I 1) 1 (a2 9)), (2, a2), (3, I 3), (4, a4), (5, a5), (6, a6), (7, a7), (8, a8), (9, a9), (10, a10), (11, a11), (12, a12), (13, a13), (14, a14), (15, a15), (16, a16), (17, a17), (18, I 18), (19, I 19), (20, I 20), (21, I 21), (22, I 22), (23, I 23), (24, I 24), (25, I 25), (26, I 26), (27, I 27), (28, I 28), (29, I 29), (32, I 32), (70, I 70)]) [(71, d71), (72, d72), (73, d73), (74, d74), (75, d75), (76, I 76), (77, d77)], mj_rows (mj_rows (mj_rows I [(1, upd (I 1) 1 (a2 9)), (2, a2), (3, I 3), (4, a4), (5, a5), (6, a6), (7, a7), (8, a8), (9, a9), (10, a10), (11, a11), (12, a12), (13, a13), (14, a14), (15, a15), (16, a16), (17, a17), (18, I 18), (19, I 19), (20, I 20), (21, I 21), (22, I 22), (23, I 23), (24, I 24), (25, I 25), (26, I 26), (27, I 27), (28, I 28), (29, I 29), (32, I 32), (70, I 70)]) [(71, d71), (72, d72), (73, d73), (74, d74), (75, d75), (76, I 76), (77, d77)]) [(71, d71)], va_up L 98 (vp_updL (L 98) 0 dv.toInt64), va_up L 98 (vp_updL (L 98) 0 dv.toInt64), ?_, ?_, ?_, by show some (d71 0, _, _) = _; rw [d0]; rfl, rfl, ?_, ?_⟩
      · unfold stX10_text; rw [q1]; rfl
      · intro q hq; cases hq
      · show (fnX11_text F (I 71) (I 72) (I 73) (I 74) (I 75) (I 76) (I 77) x1).map _ = _
        rw [h2]; rfl
      · intro _; rfl
      · refine hK.2.2.2 j I L _ _ hj hI ⟨fun x y1 y2 y3 y4 y5 y6 => ?_, ?_, e20, ?_, fun k k1 => ?_, fun k k0 k5 k9 => ?_⟩ (frL_up L _) ?_
        · by_cases y73 : x = 73
          · rw [y73]
            exact g73
          · by_cases y75 : x = 75
            · rw [y75]
              exact g75
            · rw [rw_k _ _ x (by refine ⟨fun z => ?_, trivial⟩ <;> (dsimp only at z; first | (exfalso; omega) | (subst z; rfl))), rw_k _ _ x (by refine ⟨fun z => ?_, fun z => ?_, fun z => ?_, fun z => ?_, fun z => ?_, fun z => ?_, fun z => ?_, trivial⟩ <;> (dsimp only at z; first | (exfalso; omega) | (subst z; rfl))), rw_k _ _ x (by refine ⟨fun z => ?_, fun z => ?_, fun z => ?_, fun z => ?_, fun z => ?_, fun z => ?_, fun z => ?_, fun z => ?_, fun z => ?_, fun z => ?_, fun z => ?_, fun z => ?_, fun z => ?_, fun z => ?_, fun z => ?_, fun z => ?_, fun z => ?_, fun z => ?_, fun z => ?_, fun z => ?_, fun z => ?_, fun z => ?_, fun z => ?_, fun z => ?_, fun z => ?_, fun z => ?_, fun z => ?_, fun z => ?_, fun z => ?_, fun z => ?_, fun z => ?_, trivial⟩ <;> (dsimp only at z; first | (exfalso; omega) | (subst z; rfl)))]
        · show upd (I 1) 1 (a2 9) 1 = d71 16
          rw [upd_at, e16]
        · show d71 9 = 0
          rw [gfr 9 (by omega) (by omega) (by omega) (by omega) (by omega) (by omega) (by omega)]
          exact txI_9
        · show upd (I 1) 1 (a2 9) k = I 1 k
          exact upd_ne k1
        · show d71 k = I 71 k
          rw [gfr k k5 (by omega) (by omega) (by omega) (by omega) (by omega) (by omega)]
          exact txI_f k0 k5 (by omega)
        · intro k hk
          show I 70 k = d72 k
          rw [e72]
          exact hr k hk
  · have q1 : fnX10_text F (I 1) (I 2) (I 3) (I 4) (I 5) (I 6) (I 7) (I 8) (I 9) (I 10) (I 11) (I 12) (I 13) (I 14) (I 15) (I 16) (I 17) (I 18) (I 19) (I 20) (I 21) (I 22) (I 23) (I 24) (I 25) (I 26) (I 27) (I 28) (I 29) (I 32) (I 70) x1 = some (.inr (1, I 1, I 2, I 4, I 5, I 6, I 7, I 8, I 9, I 10, I 11, I 12, I 13, I 14, I 15, I 16, I 17, I 18, I 19, I 20, I 21, I 22, I 23, I 24, I 25, I 26, I 27, I 28, I 29, I 32, upd (I 70) 1 (I 70 1 + 1))) := by
      unfold fnX10_text
      rw [q_num_out F (I 70) (a := 0) (b := I 2 0) h]
      rfl
    have q2 : fnX11_text F (I 71) (I 72) (I 73) (I 74) (I 75) (I 76) (I 77) x1 = some (0, upd (upd (I 71) 0 0) 0 1, upd (I 72) 1 (I 72 1 + 1), I 73, I 74, I 75, I 77) := by
      unfold fnX11_text
      rw [q_lies3_out F (a := 0) (b := (I 71 9).toInt64) (fun w => h ⟨w.1, by have := w.2; rw [i_l, h79] at this; exact this⟩), Option.bind_some, q_fine0 F upd_at (show ¬ (1 : Int32) = 0 from by decide) (by decide), Option.bind_some, if_pos rfl]
      rfl
    refine ⟨.inr (1, mj_rows I [(1, I 1), (2, I 2), (3, I 3), (4, I 4), (5, I 5), (6, I 6), (7, I 7), (8, I 8), (9, I 9), (10, I 10), (11, I 11), (12, I 12), (13, I 13), (14, I 14), (15, I 15), (16, I 16), (17, I 17), (18, I 18), (19, I 19), (20, I 20), (21, I 21), (22, I 22), (23, I 23), (24, I 24), (25, I 25), (26, I 26), (27, I 27), (28, I 28), (29, I 29), (32, I 32), (70, upd (I 70) 1 (I 70 1 + 1))], L), 0, 1, mj_rows (mj_rows I [(1, I 1), (2, I 2), (3, I 3), (4, I 4), (5, I 5), (6, I 6), (7, I 7), (8, I 8), (9, I 9), (10, I 10), (11, I 11), (12, I 12), (13, I 13), (14, I 14), (15, I 15), (16, I 16), (17, I 17), (18, I 18), (19, I 19), (20, I 20), (21, I 21), (22, I 22), (23, I 23), (24, I 24), (25, I 25), (26, I 26), (27, I 27), (28, I 28), (29, I 29), (32, I 32), (70, upd (I 70) 1 (I 70 1 + 1))]) [(71, upd (upd (I 71) 0 0) 0 1), (72, upd (I 72) 1 (I 72 1 + 1)), (73, I 73), (74, I 74), (75, I 75), (76, I 76), (77, I 77)], mj_rows (mj_rows (mj_rows I [(1, I 1), (2, I 2), (3, I 3), (4, I 4), (5, I 5), (6, I 6), (7, I 7), (8, I 8), (9, I 9), (10, I 10), (11, I 11), (12, I 12), (13, I 13), (14, I 14), (15, I 15), (16, I 16), (17, I 17), (18, I 18), (19, I 19), (20, I 20), (21, I 21), (22, I 22), (23, I 23), (24, I 24), (25, I 25), (26, I 26), (27, I 27), (28, I 28), (29, I 29), (32, I 32), (70, upd (I 70) 1 (I 70 1 + 1))]) [(71, upd (upd (I 71) 0 0) 0 1), (72, upd (I 72) 1 (I 72 1 + 1)), (73, I 73), (74, I 74), (75, I 75), (76, I 76), (77, I 77)]) [(71, upd (upd (I 71) 0 0) 0 1)], L, L, ?_, ?_, ?_, rfl, rfl, ?_, ?_⟩
    · unfold stX10_text; rw [q1]; rfl
    · intro q hq; cases hq; rfl
    · show (fnX11_text F (I 71) (I 72) (I 73) (I 74) (I 75) (I 76) (I 77) x1).map _ = _
      rw [q2]; rfl
    · intro z; exact absurd z (show ¬ (1 : Int32) = 0 from by decide)
    · refine hK.1.1 j I L _ _ hj hI ⟨fun x y0 y1 y2 => ?_, fun k hk => ?_⟩ (fun _ _ => rfl) (rf_up hr (by decide))
      · rw [rw_k _ _ x (by refine ⟨fun z => ?_, trivial⟩ <;> (dsimp only at z; first | (exfalso; omega) | (subst z; rfl))), rw_k _ _ x (by refine ⟨fun z => ?_, fun z => ?_, fun z => ?_, fun z => ?_, fun z => ?_, fun z => ?_, fun z => ?_, trivial⟩ <;> (dsimp only at z; first | (exfalso; omega) | (subst z; rfl))), rw_k _ _ x (by refine ⟨fun z => ?_, fun z => ?_, fun z => ?_, fun z => ?_, fun z => ?_, fun z => ?_, fun z => ?_, fun z => ?_, fun z => ?_, fun z => ?_, fun z => ?_, fun z => ?_, fun z => ?_, fun z => ?_, fun z => ?_, fun z => ?_, fun z => ?_, fun z => ?_, fun z => ?_, fun z => ?_, fun z => ?_, fun z => ?_, fun z => ?_, fun z => ?_, fun z => ?_, fun z => ?_, fun z => ?_, fun z => ?_, fun z => ?_, fun z => ?_, fun z => ?_, trivial⟩ <;> (dsimp only at z; first | (exfalso; omega) | (subst z; rfl)))]
      · show upd (upd (I 71) 0 0) 0 1 k = I 71 k
        rw [upd_ne hk, upd_ne hk]
