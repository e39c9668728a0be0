/-! ===== the text: the reference's row against the class's passes ===== -/
abbrev RS_ := Int32 × Int32 × (Nat → Int32) × (Nat → Int32)
def rbd (rw_ : RW_) (F : Nat) (r77 : Nat → Int32) (x1 : Int32) : RS_ → Option (RS_ ⊕ (RS_ ⊕ ((Nat → Int32) × (Nat → Int32)))) := (mj_u2 (fun z0 => (mj_u2 (fun z1 => (mj_u2 (fun z2 z3 => bdX11_row_4 rw_ F r77 x1 z0 z1 z2 z3))))))
theorem rbd_e (rw_ : RW_) (F : Nat) (r77 : Nat → Int32) (x1 x2 x3 : Int32) (r71 r74 : Nat → Int32) : rbd rw_ F r77 x1 (x2, x3, r71, r74) = bdX11_row_4 rw_ F r77 x1 x2 x3 r71 r74 := rfl
theorem it_inl {σ ε : Type} {body : σ → Option (σ ⊕ ε)} {s s' : σ} (h : body s = some (.inl s')) (N : Nat) : mj_it body (N + 1) s = mj_it body N s' := by
  show (body s).bind _ = _
  rw [h]
  rfl
theorem it_inr {σ ε : Type} {body : σ → Option (σ ⊕ ε)} {s : σ} {e : ε} (h : body s = some (.inr e)) (N : Nat) : mj_it body (N + 1) s = some e := by
  show (body s).bind _ = _
  rw [h]
  rfl
def rlQ (n : Nat) (r3 : Nat → Int32) (c : Nat → Nat → Int32) (r71 : Nat → Int32) (q d K : Nat) (x' : Int32) (c' : Nat → Nat → Int32) (res : RS_ ⊕ ((Nat → Int32) × (Nat → Int32))) : Prop :=
  (∃ (q' K' : Nat) (s r' : Nat → Int32) (x2 : Int32), res = .inl (x2, c' 16 d, s, r') ∧ fr6 r71 s ∧ q ≤ q' ∧ K ≤ K' ∧ aJ n r3 x' c' s r' q' d K' ∧ nK n r3 q' ∧ cd_ d x2 c' ∧ frW d K c c') ∨
  (∃ (s r' : Nat → Int32) (x2 x3 : Int32), res = .inl (x2, x3, s, r') ∧ fr6 r71 s ∧ fE c' s ∧ fK_ s) ∨
  (∃ s r' : Nat → Int32, res = .inr (s, r') ∧ fr6 r71 s ∧ s 14 = 0 ∧ fE c' (upd (upd s 14 3) 15 (s 11)) ∧ fK_ s)
theorem row_loop (rw_ : RW_) (F : Nat) (hF : 500 ≤ F) {n d : Nat} {r3 r77 : Nat → Int32} {x1 : Int32} (ht : tx n r3 r77) (hR : d < 6 → rowH rw_ F n r3 r77 (d + 1)) (hRF : rowF rw_ r77) :
    ∀ (N q K : Nat) (x : Int32) (c : Nat → Nat → Int32) (r71 r74 : Nat → Int32) (x2 : Int32), aJ n r3 x c r71 r74 q d K → cd_ d x2 c → n - q < N →
      ∃ (x' : Int32) (c' : Nat → Nat → Int32) (res : RS_ ⊕ ((Nat → Int32) × (Nat → Int32))), mj_it (rbd rw_ F r77 x1) N (x2, c 16 d, r71, r74) = some res ∧ ps_ F r3 x c x' c' ∧ c' 2 0 = c 2 0 ∧ rlQ n r3 c r71 q d K x' c' res := by
  intro N
  induction N with
  | zero => intro q K x c r71 r74 x2 _ _ h; exact absurd h (Nat.not_lt_zero _)
  | succ N ih =>
    intro q K x c r71 r74 x2 hJ hcd hN
    have hJ' := hJ
    obtain ⟨hE, h8, hd, hd2, hd6, hK, hK2, hK3, hx0, hxq, hs, hL, hc, ho⟩ := hJ'
    have hqn := hE.1.2.2.1
    have hn := ht.1
    by_cases hk : nK n r3 q
    · obtain ⟨s, h1, h2, h3⟩ := row_none rw_ F hF (r74 := r74) (x1 := x1) (x2 := x2) (x3 := c 16 d) ht hE h8 hk
      refine ⟨x, c, _, it_inr ((rbd_e rw_ F r77 x1 x2 (c 16 d) r71 r74).trans h1) N, ps_0 (by omega), rfl, .inl ⟨q, K, s, r74, x2, rfl, fr6_rk (rk_11 h3), Nat.le_refl q, Nat.le_refl K, aJ_t hJ h2 h3, hk, hcd, frW_rf c d K⟩⟩
    · by_cases h40 : K = 40
      · subst h40
        obtain ⟨s, h1, h2, h3, h4⟩ := row_full rw_ F hF (r74 := r74) (x1 := x1) (x2 := x2) (x3 := c 16 d) ht hE h8 hk hK2
        have e40 : (40 : Int32).toInt = 40 := rfl
        obtain ⟨r, hr, hr1⟩ := s8_kind F hF ht.1 hE.1
        rcases hr1 with ⟨w, _⟩ | ⟨i, w, wi⟩
        · exact absurd w hk
        · have hst := e_full F (c := c) hr (i_m1 wi) (fun z => by have := i_lt.mp z; omega) (s8_fail0 F h8)
          have hl := kR_l w
          have hb := b_at F hn hJ hl.1 (fun z => by
            have := hl.2
            unfold bt at this
            rw [z] at this
            exact okS_125.1 this) hst
          have s14 : s 14 = 0 := (h4 14 (by omega)).trans (tE_0 hE h8).1
          have e5 : c 2 5 = s 11 := i_eq.mpr (by rw [h3]; exact hE.1.2.1)
          have g8 : pt2 c (upd (upd (c 2) 8 3) 9 (c 2 5)) 2 8 = 3 := by
            show upd (upd (c 2) 8 3) 9 (c 2 5) 8 = 3
            rw [upd_ne (by omega), upd_at]
          have g9 : pt2 c (upd (upd (c 2) 8 3) 9 (c 2 5)) 2 9 = c 2 5 := by
            show upd (upd (c 2) 8 3) 9 (c 2 5) 9 = c 2 5
            rw [upd_at]
          refine ⟨x + 1, _, _, it_inr ((rbd_e rw_ F r77 x1 x2 (c 16 d) r71 r74).trans h1) N, ps_1 hb hx0 (by omega), ?_, .inr (.inr ⟨s, r74, rfl, fr6_rk (rk_11 h4), s14, ⟨?_, ?_, ?_, ?_⟩, 40, ?_, Nat.le_refl 40⟩)⟩
          · show upd (upd (c 2) 8 3) 9 (c 2 5) 0 = _
            rw [upd_ne (by omega), upd_ne (by omega)]
          · rw [g8]; decide
          · rw [g8]; decide
          · rw [g8, upd_ne (by omega), upd_at]
          · rw [g9, upd_at, e5]
          · rw [h4 5 (by omega)]
            exact hK2
      · have hK4 : K < 40 := by omega
        obtain ⟨s0, g1, g2, g3, g4, g5⟩ := row_step rw_ F hF (x1 := x1) (x2 := x2) ht hJ hK4 hk
        obtain ⟨hq, x', c', o, ho', hps, h20, h6, hcase⟩ := st_all rw_ F hF ht hR hRF hJ hK4 hk g1 g2 g3
        rw [ho', Option.bind_some] at g5
        have hb := (rbd_e rw_ F r77 x1 x2 (c 16 d) r71 r74).trans g5
        rw [it_inl hb N]
        have h6' : fr6 r71 o.1 := fun k k1 k2 k3 k4 k5 k6 => (h6 k k1 k2 k3 k4 k5 k6).trans (g4 k k1 k2)
        rcases hcase with ⟨q', K', a1, a2, a3, a4, a5⟩ | ⟨hf, hk'⟩
        · have hcd' := cd_step hs hK hcd a4 a5
          have hqn' := a3.1.1.2.2.1
          obtain ⟨x3, c3, res, b1, b2, b3, b4⟩ := ih q' K' x' c' o.1 o.2 _ a3 hcd' (by omega)
          rw [a4] at b1
          refine ⟨x3, c3, res, b1, ps_tr hps b2, b3.trans h20, ?_⟩
          rcases b4 with ⟨q4, K4, s4, r4, x24, d1, d2, d3, d4, d5, d6, d7, d8⟩ | ⟨s4, r4, x24, x34, d1, d2, d3, d4⟩ | ⟨s4, r4, d1, d2, d3, d4, d5⟩
          · exact .inl ⟨q4, K4, s4, r4, x24, d1, fr6_tr h6' d2, by omega, by omega, d5, d6, d7, frW_tr (frW_S hs a5) d8 (by omega)⟩
          · exact .inr (.inl ⟨s4, r4, x24, x34, d1, fr6_tr h6' d2, d3, d4⟩)
          · exact .inr (.inr ⟨s4, r4, d1, fr6_tr h6' d2, d3, d4, d5⟩)
        · have h14 : 1 ≤ (o.1 14).toInt := by rw [hf.2.2.1]; exact hf.1
          have hb2 : rbd rw_ F r77 x1 ((if x2 = -1 then c 4 0 else x2), c 4 0, o.1, o.2) = some (.inr (.inl ((if x2 = -1 then c 4 0 else x2), c 4 0, o.1, o.2))) := by
            rw [rbd_e]
            unfold bdX11_row_4
            rw [if_neg (i_n0 h14)]
          obtain ⟨M, hM⟩ : ∃ M, N = M + 1 := ⟨N - 1, by omega⟩
          rw [hM, it_inr hb2 M]
          exact ⟨x', c', _, rfl, hps, h20, .inr (.inl ⟨o.1, o.2, _, _, rfl, h6', hf, hk'⟩)⟩
/-- behind the row's loop -/
def rtl (F : Nat) (x1 : Int32) : RS_ ⊕ ((Nat → Int32) × (Nat → Int32)) → Option (Int32 × (Nat → Int32) × (Nat → Int32)) := (Sum.elim (mj_u2 (fun x2_10 => (mj_u2 (fun x3_10 => (mj_u2 (fun r71_10 r74_10 => (if x3_10 = (-1 : Int32) then (if x2_10 = (-1 : Int32) then some (x1, r71_10, r74_10) else some (x2_10, r71_10, r74_10)) else (fnX11_joins F r71_10 r74_10 x3_10 x1).bind (fun o13 => (if x2_10 = (-1 : Int32) then some (x1, r71_10, o13) else some (x2_10, r71_10, o13)))))))))) (mj_u2 (fun r71_10 r74_10 => (fnX11_wrong F r71_10 (3 : Int32) (r71_10 11)).bind (fun o15 => some ((0 : Int32), o15, r74_10)))))
theorem rtl_l (F : Nat) (x1 x2 x3 : Int32) (s r' : Nat → Int32) : rtl F x1 (.inl (x2, x3, s, r')) = (if x3 = (-1 : Int32) then (if x2 = (-1 : Int32) then some (x1, s, r') else some (x2, s, r')) else (fnX11_joins F s r' x3 x1).bind (fun o13 => (if x2 = (-1 : Int32) then some (x1, s, o13) else some (x2, s, o13)))) := rfl
theorem rtl_r (F : Nat) (x1 : Int32) (s r' : Nat → Int32) : rtl F x1 (.inr (s, r')) = (fnX11_wrong F s (3 : Int32) (s 11)).bind (fun o15 => some ((0 : Int32), o15, r')) := rfl
theorem row_e (rw_ : RW_) (F : Nat) (r71 r74 r77 : Nat → Int32) (x1 : Int32) : fnX11_row rw_ F r71 r74 r77 x1 = (mj_it (rbd rw_ F r77 x1) F ((-1 : Int32), (-1 : Int32), r71, r74)).bind (rtl F x1) := rfl
theorem row_ (rw_ : RW_) (F : Nat) (hF : 500 ≤ F) {n d : Nat} {r3 r77 : Nat → Int32} (ht : tx n r3 r77) (hR : d < 6 → rowH rw_ F n r3 r77 (d + 1)) (hRF : rowF rw_ r77) : rowH (fnX11_row rw_ F) F n r3 r77 d := by
  intro q K x c r71 r74 x1 hJ hcd
  have hn := ht.1
  obtain ⟨x', c', res, h1, h2, h3, h4⟩ := row_loop rw_ F hF (x1 := x1) ht hR hRF F q K x c r71 r74 (-1) hJ hcd (by omega)
  rw [hcd.1.mp rfl] at h1
  rw [row_e, h1, Option.bind_some]
  rcases h4 with ⟨q', K', s, r', x2, d1, d2, d3, d4, d5, d6, d7, d8⟩ | ⟨s, r', x2, x3, d1, d2, d3, d4⟩ | ⟨s, r', d1, d2, d3, d4, d5⟩
  · rw [d1, rtl_l]
    by_cases z : c' 16 d = -1
    · have eR : rE (c' 16 d) x1 K' r' = r' := by unfold rE; rw [if_pos z]
      rw [if_pos z, if_pos (d7.1.mpr z)]
      exact ⟨x', c', _, rfl, h2, h3, d2, .inl ⟨q', K', r', x2, d3, d4, d5, d6, d7, d8, (if_pos (d7.1.mpr z)).symm, eR.symm⟩⟩
    · have eR : rE (c' 16 d) x1 K' r' = jnv K' (-100 - c' 16 d) x1 r' := by unfold rE; rw [if_neg z]
      rw [if_neg z, s11_joins F hF d5.2.2.2.2.2.2.1 d5.2.2.2.2.2.2.2.1, Option.bind_some, if_neg (fun w => z (d7.1.mp w))]
      exact ⟨x', c', _, rfl, h2, h3, d2, .inl ⟨q', K', r', x2, d3, d4, d5, d6, d7, d8, (if_neg (fun w => z (d7.1.mp w))).symm, eR.symm⟩⟩
  · rw [d1, rtl_l]
    obtain ⟨K', k1, k2⟩ := d4
    by_cases z : x3 = -1
    · rw [if_pos z]
      by_cases y : x2 = -1
      · rw [if_pos y]
        exact ⟨x', c', _, rfl, h2, h3, d2, .inr ⟨d3, K', k1, k2⟩⟩
      · rw [if_neg y]
        exact ⟨x', c', _, rfl, h2, h3, d2, .inr ⟨d3, K', k1, k2⟩⟩
    · rw [if_neg z, s11_joins F hF k1 k2, Option.bind_some]
      by_cases y : x2 = -1
      · rw [if_pos y]
        exact ⟨x', c', _, rfl, h2, h3, d2, .inr ⟨d3, K', k1, k2⟩⟩
      · rw [if_neg y]
        exact ⟨x', c', _, rfl, h2, h3, d2, .inr ⟨d3, K', k1, k2⟩⟩
  · rw [d1, rtl_r, s11_wrong0 F d3, Option.bind_some]
    obtain ⟨K', k1, k2⟩ := d5
    refine ⟨x', c', _, rfl, h2, h3, fun k k1 k2 k3 k4 k5 k6 => ?_, .inr ⟨d4, K', ?_, k2⟩⟩
    · show upd (upd s 14 3) 15 (s 11) k = _
      rw [upd_ne k6, upd_ne k5]
      exact d2 k k1 k2 k3 k4 k5 k6
    · show (upd (upd s 14 3) 15 (s 11) 5).toInt = _
      rw [upd_ne (by omega), upd_ne (by omega)]
      exact k1
theorem rows_ (F : Nat) (hF : 500 ≤ F) {n : Nat} {r3 r77 : Nat → Int32} (ht : tx n r3 r77) : ∀ D d, d ≤ 6 → 9 ≤ D + d → rowH (fnX11_rowR F D) F n r3 r77 d := by
  intro D
  induction D with
  | zero => intro d h1 h2; omega
  | succ D ih =>
    intro d h1 h2
    obtain ⟨E, hE⟩ : ∃ E, D = E + 1 := ⟨D - 1, by omega⟩
    have hRF : rowF (fnX11_rowR F D) r77 := by
      intro r71 r74 x1 h
      rw [hE]
      exact s11_rowF F E (by omega) h
    exact row_ (fnX11_rowR F D) F hF ht (fun h => ih (d + 1) (by omega) (by omega)) hRF
