/-! ===== the bond between the two, between calls ===== -/
def pb_F : Nat := 100000
/-- the rows of the states are the same -/
def sG_ (I I' : mj_IT) : Prop := (∀ a, a = 18 ∨ (32 ≤ a ∧ a ≤ 40) ∨ (80 ≤ a ∧ a ≤ 86) → I' a = I a) ∧ (∀ k, k = 4 ∨ k = 21 ∨ k = 24 ∨ k = 25 → I' 71 k = I 71 k)
theorem gG_c {C : Int} {n : Nat} {fr na : Nat → Nat} {tg : Nat → Nat → Nat} {sh : Nat → Nat → Int} {r32 r33 r34 r35 r36 r37 r38 r39 r71 r71' r80 r81 r82 r83 r84 r85 r86 : Nat → Int32} (h : ∀ k, k = 4 ∨ k = 21 ∨ k = 24 ∨ k = 25 → r71' k = r71 k) (hg : gG C n fr na tg sh r32 r33 r34 r35 r36 r37 r38 r39 r71 r80 r81 r82 r83 r84 r85 r86) : gG C n fr na tg sh r32 r33 r34 r35 r36 r37 r38 r39 r71' r80 r81 r82 r83 r84 r85 r86 := by
  unfold gG at hg ⊢
  rw [h 4 (by omega), h 21 (by omega), h 24 (by omega), h 25 (by omega)]
  exact hg
theorem sG_g {I I' : mj_IT} (h : sG_ I I') {n : Nat} {fr na : Nat → Nat} {tg : Nat → Nat → Nat} {sh : Nat → Nat → Int} (hg : gG (I 18 0).toInt n fr na tg sh (I 32) (I 33) (I 34) (I 35) (I 36) (I 37) (I 38) (I 39) (I 71) (I 80) (I 81) (I 82) (I 83) (I 84) (I 85) (I 86)) : gG (I' 18 0).toInt n fr na tg sh (I' 32) (I' 33) (I' 34) (I' 35) (I' 36) (I' 37) (I' 38) (I' 39) (I' 71) (I' 80) (I' 81) (I' 82) (I' 83) (I' 84) (I' 85) (I' 86) := by
  rw [h.1 18 (by omega), h.1 32 (by omega), h.1 33 (by omega), h.1 34 (by omega), h.1 35 (by omega), h.1 36 (by omega), h.1 37 (by omega), h.1 38 (by omega), h.1 39 (by omega), h.1 80 (by omega), h.1 81 (by omega), h.1 82 (by omega), h.1 83 (by omega), h.1 84 (by omega), h.1 85 (by omega), h.1 86 (by omega)]
  exact gG_c h.2 hg
theorem spI_c {I I' : mj_IT} (h : sG_ I I') (h51 : I' 51 = I 51) (h52 : I' 52 = I 52) (h54 : I' 54 = I 54) (hs : spI I) : spI I' := by
  intro z y
  rw [h.1 32 (by omega)] at z y
  rw [h51] at y
  obtain ⟨n, fr, na, tg, sh, d, g1, g2⟩ := hs z y
  refine ⟨n, fr, na, tg, sh, d, sG_g h g1, ?_⟩
  rw [h51, h52, h54, h.1 32 (by omega), h.1 33 (by omega)]
  exact g2
theorem eQ_c {n : Nat} {r32 r33 r41 r42 r71 r71' : Nat → Int32} {q90 : Nat → Int64} (h : r71' 23 = r71 23) (he : eQ n r32 r33 r41 r42 r71 q90) : eQ n r32 r33 r41 r42 r71' q90 := by
  unfold eQ at he ⊢
  rw [h]
  exact he
theorem eI_c {I I' : mj_IT} {L L' : mj_LT} (h32 : I' 32 = I 32) (h33 : I' 33 = I 33) (h41 : I' 41 = I 41) (h42 : I' 42 = I 42) (h23 : I' 71 23 = I 71 23) (hL : L' 90 = L 90) (hs : eI I L) : eI I' L' := by
  intro z y
  rw [h32] at z y
  rw [h41] at y
  rw [h32, h33, h41, h42, hL]
  exact eQ_c h23 (hs z y)
theorem liI_c {I I' : mj_IT} {L L' : mj_LT} (h : sG_ I I') (h19 : I' 19 = I 19) (h21 : I' 21 = I 21) (h65 : I' 65 = I 65) (h66 : I' 66 = I 66) (hL : L' 65 = L 65) (hs : liI I L) : liI I' L' := by
  intro z y
  rw [h.1 32 (by omega)] at z y
  rw [h65] at y
  obtain ⟨n, fr, na, tg, sh, g1, g2⟩ := hs z y
  refine ⟨n, fr, na, tg, sh, sG_g h g1, ?_⟩
  rw [h19, h21, h65, h66, hL, h.1 18 (by omega), h.1 32 (by omega), h.1 33 (by omega)]
  exact g2
theorem luI_c {I I' : mj_IT} (h : sG_ I I') (h56 : I' 56 = I 56) (h57 : I' 57 = I 57) (h58 : I' 58 = I 58) (hs : luI I) : luI I' := by
  intro z v hv y
  rw [h.1 32 (by omega)] at z y
  rw [h56] at y
  obtain ⟨n, fr, na, tg, sh, g1, g2⟩ := hs z v hv y
  refine ⟨n, fr, na, tg, sh, sG_g h g1, ?_⟩
  rw [h57, h58, h.1 32 (by omega), h.1 33 (by omega), h.1 34 (by omega)]
  exact g2
theorem gQ_c {F : Nat} {I I' : mj_IT} (h : sG_ I I') (h73 : I' 73 = I 73) (h75 : I' 75 = I 75) (h87 : I' 87 = I 87) (h20 : I' 71 20 = I 71 20) (hq : gQ F I) : gQ F I' := by
  obtain ⟨w1, w2, w3, w4⟩ := hq
  have e32 := h.1 32 (by omega)
  have e18 := h.1 18 (by omega)
  have eG : rG I' = rG I := by
    unfold rG
    rw [e32, h.1 33 (by omega), h.1 34 (by omega), h.1 35 (by omega), h.1 36 (by omega), h.1 37 (by omega), h.1 38 (by omega), h.1 39 (by omega), h.1 40 (by omega)]
  have eL : ∀ f, rL I' f = rL I f := fun f => by
    unfold rL
    rw [h.1 80 (by omega), h.1 81 (by omega), h.1 82 (by omega), h.1 83 (by omega), h.1 84 (by omega), h.1 85 (by omega), h.1 86 (by omega)]
  have eY : ∀ x, lyG F I' x = lyG F I x := fun x => by
    unfold lyG
    rw [h73, h75, h87]
  have h4 := h.2 4 (by omega)
  have h21 := h.2 21 (by omega)
  have h24 := h.2 24 (by omega)
  have h25 := h.2 25 (by omega)
  refine ⟨by rw [e32]; exact w1, by rw [h20]; exact w2, fun z => ?_, fun z y => ?_⟩
  · rw [e32] at z
    obtain ⟨a, b⟩ := w3 z
    refine ⟨h20.trans a, ?_⟩
    rw [eG, e18, eL]
    exact xG_congr (b := rL I (I 71)) h4 h21 h24 h25 b
  · rw [e32] at z
    rw [h20] at y
    obtain ⟨a, g, x1, x2, x3, x4, x5, x6, x7⟩ := w4 z y
    exact ⟨a, g, x1, x2.trans h4.symm, by rw [eY, eL]; exact x3, x4.trans h4.symm, x5.trans h21.symm, x6.trans h24.symm, x7.trans h25.symm⟩
/-- what holds of the program, the tape, the changes, the refusals -/
def iB_ (I : mj_IT) : Prop := rfQ I ∧ pK (I 18) (I 19) (I 20) (I 21) (I 22) (I 23) (I 24) (I 25) (I 26) (I 73) ∧ I 71 4 = I 18 0 ∧ vQ (I 1 3) (I 75) ∧ I 1 1 = I 71 16 ∧ tens (I 87) ∧ (∃ N, tpQ N (I 2) (I 3) (I 71) (I 76)) ∧ (∃ N, chQ (chP (I 18) (I 19)) N (I 29) (I 30) (I 31) (I 71) (I 78) (I 79)) ∧ z64 I
def iS_ (I : mj_IT) : Prop := (I 71 22 = 0 ∨ I 71 22 = 1) ∧ (I 32 1 = 1 → (I 41 4 = I 32 0 ↔ I 71 22 = 1)) ∧ (I 32 1 = 0 → I 71 22 = 0)
def iV_ (j : Nat) (I : mj_IT) : Prop := (I 32 0).toInt ≤ (j : Int) ∧ (I 51 0).toInt ≤ (I 32 0).toInt ∧ (I 41 4).toInt ≤ (I 32 0).toInt ∧ (I 65 0).toInt ≤ (I 32 0).toInt ∧ ∀ v, v < 6 → (I 56 v).toInt ≤ (I 32 0).toInt
def pb_Inv (j : Nat) (I : mj_IT) (L : mj_LT) : Prop := iB_ I ∧ gQ pb_F I ∧ odQ (L 97) ∧ (spI I ∧ eI I L ∧ liI I L ∧ luI I) ∧ iS_ I ∧ iV_ j I
theorem i_suc {x y : Int32} {j : Nat} (h : x.toInt ≤ (j : Int)) (hj : j < 512) (hy : y.toInt ≤ x.toInt) : ¬ y = x + 1 := fun z => by
  have e1 : (1 : Int32).toInt = 1 := rfl
  have l := i_lo x
  have := congrArg Int32.toInt z
  rw [i_add (by omega) (by omega), e1] at this
  omega
/-- nothing of the states has changed -/
theorem inv_q {j : Nat} {I I' : mj_IT} {L L' : mj_LT} (hI : pb_Inv j I L) (hr : ∀ a, (18 ≤ a ∧ a ≤ 21) ∨ (32 ≤ a ∧ a ≤ 69) ∨ a = 73 ∨ a = 75 ∨ (80 ≤ a ∧ a ≤ 87) → I' a = I a) (h71 : ∀ k, k = 4 ∨ (20 ≤ k ∧ k ≤ 25) → I' 71 k = I 71 k) (hL : ∀ a, a ≠ 98 → L' a = L a) (hb : iB_ I') : pb_Inv (j + 1) I' L' := by
  obtain ⟨b, g, o, ⟨c1, c2, c3, c4⟩, s, v⟩ := hI
  have hs : sG_ I I' := ⟨fun a ha => hr a (by omega), fun k hk => h71 k (by omega)⟩
  refine ⟨hb, gQ_c hs (hr 73 (by omega)) (hr 75 (by omega)) (hr 87 (by omega)) (h71 20 (by omega)) g, by rw [hL 97 (by omega)]; exact o, ⟨spI_c hs (hr 51 (by omega)) (hr 52 (by omega)) (hr 54 (by omega)) c1, eI_c (hr 32 (by omega)) (hr 33 (by omega)) (hr 41 (by omega)) (hr 42 (by omega)) (h71 23 (by omega)) (hL 90 (by omega)) c2, liI_c hs (hr 19 (by omega)) (hr 21 (by omega)) (hr 65 (by omega)) (hr 66 (by omega)) (hL 65 (by omega)) c3, luI_c hs (hr 56 (by omega)) (hr 57 (by omega)) (hr 58 (by omega)) c4⟩, ?_, ?_⟩
  · unfold iS_ at s ⊢
    rw [h71 22 (by omega), hr 32 (by omega), hr 41 (by omega)]
    exact s
  · obtain ⟨v1, v2, v3, v4, v5⟩ := v
    unfold iV_
    rw [hr 32 (by omega), hr 51 (by omega), hr 41 (by omega), hr 65 (by omega), hr 56 (by omega)]
    exact ⟨by omega, v2, v3, v4, v5⟩
/-- the states are not known any more -/
theorem inv_n {j : Nat} {I I' : mj_IT} {L L' : mj_LT} (hI : pb_Inv j I L) (h1 : I' 32 1 = 0) (h0 : I' 32 0 = I 32 0) (h20 : I' 71 20 = 0) (h22 : I' 71 22 = 0) (h41 : I' 41 = I 41) (h51 : I' 51 = I 51) (h56 : I' 56 = I 56) (h65 : I' 65 = I 65) (hL : L' 97 = L 97) (hb : iB_ I') : pb_Inv (j + 1) I' L' := by
  obtain ⟨b, g, o, ⟨c1, c2, c3, c4⟩, s, v⟩ := hI
  have n1 : ¬ I' 32 1 = 1 := by rw [h1]; decide
  have n20 : ¬ I' 71 20 = 1 := by rw [h20]; decide
  refine ⟨hb, ⟨.inl h1, .inl h20, fun z => absurd z n1, fun _ z => absurd z n20⟩, by rw [hL]; exact o, ⟨fun z => absurd z n1, fun z => absurd z n1, fun z => absurd z n1, fun z => absurd z n1⟩, ⟨.inl h22, fun z => absurd z n1, fun _ => h22⟩, ?_⟩
  obtain ⟨v1, v2, v3, v4, v5⟩ := v
  unfold iV_
  rw [h0, h51, h41, h65, h56]
  exact ⟨by omega, v2, v3, v4, v5⟩
