/-! ===== the text: passes; a row's and a block's outcome ===== -/
def ps_ (F : Nat) (r3 : Nat → Int32) (x : Int32) (c : Nat → Nat → Int32) (x' : Int32) (c' : Nat → Nat → Int32) : Prop := ∃ m : Nat, stC F r3 x c x' c' m ∧ x'.toInt = x.toInt + (m : Nat) ∧ x'.toInt ≤ 401
theorem ps_0 {F : Nat} {r3 : Nat → Int32} {x : Int32} {c : Nat → Nat → Int32} (h : x.toInt ≤ 401) : ps_ F r3 x c x c := ⟨0, stC_0 _ _ _ _, by omega, h⟩
theorem ps_1 {F : Nat} {r3 : Nat → Int32} {x : Int32} {c c' : Nat → Nat → Int32} (h : bodyC F r3 (tup x c) = some (.inl (tup (x + 1) c'))) (h0 : 0 ≤ x.toInt) (h4 : x.toInt ≤ 400) : ps_ F r3 x c (x + 1) c' := by
  have e1 : (1 : Int32).toInt = 1 := rfl
  have e : (x + 1).toInt = x.toInt + 1 := by rw [i_add (by omega) (by omega), e1]
  exact ⟨1, stC_1 h, by omega, by omega⟩
theorem ps_tr {F : Nat} {r3 : Nat → Int32} {x x' x2 : Int32} {c c' c2 : Nat → Nat → Int32} (h : ps_ F r3 x c x' c') (h' : ps_ F r3 x' c' x2 c2) : ps_ F r3 x c x2 c2 := by
  obtain ⟨m, a1, a2, a3⟩ := h
  obtain ⟨m', b1, b2, b3⟩ := h'
  exact ⟨m + m', stC_tr a1 b1, by omega, b3⟩
/-- the first statement of the row, in both -/
def cd_ (d : Nat) (x2 : Int32) (c : Nat → Nat → Int32) : Prop := (x2 = -1 ↔ c 16 d = -1) ∧ (x2 = -1 ∨ 0 ≤ x2.toInt) ∧ (1 ≤ d → ∀ o : Nat, (c 15 d).toInt = (o : Nat) → (c 17 d = 0 → c 11 o = x2) ∧ (c 17 d = 1 → c 12 o = x2))
/-- what a row at depth d leaves as it was -/
def frW (d K : Nat) (c c' : Nat → Nat → Int32) : Prop := (∀ e, e ≤ d → c' 15 e = c 15 e ∧ c' 17 e = c 17 e) ∧ (∀ e, e < d → c' 16 e = c 16 e) ∧ (∀ k, k < K → c' 5 k = c 5 k) ∧ (∀ k : Nat, k < K → ¬ (c 15 d).toInt = (k : Nat) → c' 11 k = c 11 k ∧ c' 12 k = c 12 k)
def fK_ (b : Nat → Int32) : Prop := ∃ K' : Nat, (b 5).toInt = (K' : Nat) ∧ K' ≤ 40
def rwQ (F n : Nat) (r3 : Nat → Int32) (x : Int32) (c : Nat → Nat → Int32) (r71 : Nat → Int32) (q d K : Nat) (x1 x' : Int32) (c' : Nat → Nat → Int32) (o : Int32 × (Nat → Int32) × (Nat → Int32)) : Prop :=
  ps_ F r3 x c x' c' ∧ c' 2 0 = c 2 0 ∧ fr6 r71 o.2.1 ∧
  ((∃ (q' K' : Nat) (r' : Nat → Int32) (x2 : Int32), q ≤ q' ∧ K ≤ K' ∧ aJ n r3 x' c' o.2.1 r' q' d K' ∧ nK n r3 q' ∧ cd_ d x2 c' ∧ frW d K c c' ∧ o.1 = (if x2 = -1 then x1 else x2) ∧ o.2.2 = rE (c' 16 d) x1 K' r') ∨ (fE c' o.2.1 ∧ fK_ o.2.1))
def rowH (rw_ : RW_) (F n : Nat) (r3 r77 : Nat → Int32) (d : Nat) : Prop := ∀ (q K : Nat) (x : Int32) (c : Nat → Nat → Int32) (r71 r74 : Nat → Int32) (x1 : Int32), aJ n r3 x c r71 r74 q d K → cd_ d (-1) c → ∃ (x' : Int32) (c' : Nat → Nat → Int32) (o : Int32 × (Nat → Int32) × (Nat → Int32)), rw_ r71 r74 r77 x1 = some o ∧ rwQ F n r3 x c r71 q d K x1 x' c' o
def rowF (rw_ : RW_) (r77 : Nat → Int32) : Prop := ∀ (r71 r74 : Nat → Int32) (x1 : Int32), 1 ≤ (r71 14).toInt → rw_ r71 r74 r77 x1 = some (x1, r71, r74)
def bkQ (F n : Nat) (r3 r77 : Nat → Int32) (x : Int32) (c : Nat → Nat → Int32) (b : Nat → Int32) (q d K : Nat) (x1 x' : Int32) (c' : Nat → Nat → Int32) (o : Int32 × (Nat → Int32) × (Nat → Int32)) : Prop :=
  ps_ F r3 x c x' c' ∧ c' 2 0 = c 2 0 ∧ fr6 b o.2.1 ∧
  ((∃ (q' K' : Nat) (s r' o3 : Nat → Int32) (x2 : Int32), q ≤ q' ∧ K ≤ K' ∧ aJ n r3 x' c' s r' q' (d + 1) K' ∧ q' < n ∧ r3 q' = 125 ∧ fnX11_needs F s r77 125 = some o3 ∧ o.2.1 = upd o3 13 (o3 13 - 1) ∧ cd_ (d + 1) x2 c' ∧ frW (d + 1) K c c' ∧ o.1 = (if x2 = -1 then x1 else x2) ∧ o.2.2 = rE (c' 16 (d + 1)) x1 K' r') ∨ (fE c' o.2.1 ∧ fK_ o.2.1))
theorem blk_F (rw_ : RW_) (F : Nat) {b r74 r77 : Nat → Int32} {x1 : Int32} (hR : rowF rw_ r77) (h : 1 ≤ (b 14).toInt) : ∃ b' : Nat → Int32, blkR rw_ F b r74 r77 x1 = some (x1, b', r74) ∧ ∀ k, k ≠ 13 → b' k = b k := by
  have h' : 1 ≤ (upd b 13 (b 13 + 1) 14).toInt := by rw [upd_ne (by omega)]; exact h
  unfold blkR
  rw [hR _ r74 x1 h', Option.bind_some]
  dsimp only
  rw [s11_needsF F h', Option.bind_some]
  exact ⟨_, rfl, fun k hk => by rw [upd_ne hk, upd_ne hk]⟩
theorem fE_13 {c : Nat → Nat → Int32} {b : Nat → Int32} {v : Int32} (h : fE c b) : fE c (upd b 13 v) := by
  obtain ⟨h1, h2, h3, h4⟩ := h
  exact ⟨h1, h2, by rw [upd_ne (by omega)]; exact h3, by rw [upd_ne (by omega)]; exact h4⟩
theorem fK_13 {b : Nat → Int32} {v : Int32} (h : fK_ b) : fK_ (upd b 13 v) := by
  obtain ⟨K, h1, h2⟩ := h
  exact ⟨K, by rw [upd_ne (by omega)]; exact h1, h2⟩
theorem blk_ (rw_ : RW_) (F : Nat) (hF : 500 ≤ F) {n q d K : Nat} {r3 r77 b rr : Nat → Int32} {x x1 : Int32} {c : Nat → Nat → Int32} (ht : tx n r3 r77) (hR : rowH rw_ F n r3 r77 (d + 1)) (hJ : aJ n r3 x c (upd b 13 (b 13 + 1)) rr q (d + 1) K) (hcd : cd_ (d + 1) (-1) c) :
    ∃ (x' : Int32) (c' : Nat → Nat → Int32) (o : Int32 × (Nat → Int32) × (Nat → Int32)), blkR rw_ F b rr r77 x1 = some o ∧ bkQ F n r3 r77 x c b q d K x1 x' c' o := by
  obtain ⟨x', c', o, ho, hps, h20, h6, hcase⟩ := hR q K x c _ rr x1 hJ hcd
  have h6' : fr6 b o.2.1 := fr6_31 h6
  unfold blkR
  rw [ho, Option.bind_some]
  rcases hcase with ⟨q', K', r', x2, a1, a2, a3, a4, a5, a6, a7, a8⟩ | ⟨hf, hk⟩
  · have a3' := a3
    obtain ⟨hE, h8, hd, hd2, hd6, hK, hK2, hK3, hx0, hxq, hs, hL, hc, how⟩ := a3'
    obtain ⟨u, v, hu, hv, q3, hE3, l1, l2, l3, l4⟩ := s2_sign F hF (M := 401) (by omega) ht okS_125 hE
    rw [hv, Option.bind_some]
    by_cases z : q' < n ∧ r3 q' = 125
    · exact ⟨x', c', _, rfl, hps, h20, fr6_13 (fr6_tr h6' (fr6_rk l4)), .inl ⟨q', K', o.2.1, r', v, x2, a1, a2, a3, z.1, z.2, hv, rfl, a5, a6, a7, a8⟩⟩
    · have hu' : some (upd (upd (c' 2) 8 1) 9 (c' 2 5)) = some u := by
        unfold fnX8_readSign at hu
        rw [s8_isSign F ht.1 hE.1 okS_125.1 okS_125.2.1, Option.bind_some, if_neg z, if_pos rfl, s8_fail0 F h8, Option.bind_some] at hu
        exact hu
      have hu8 : ¬ u 8 = 0 := by
        rw [← Option.some.inj hu', upd_ne (by omega), upd_at]
        decide
      have hkd : fnX8_kindHere F (c' 2) r3 = some (-1) := by
        obtain ⟨r, hr, h1⟩ := s8_kind F hF ht.1 hE.1
        rcases h1 with ⟨_, w⟩ | ⟨i, w, _⟩
        · rw [hr, w]
        · exact absurd a4 (kR_n w)
      have hst := e_none F (c := c') hkd ((s8_fail0 F h8).trans hu')
      have hn := ht.1
      have hq' := hE.1.2.2.1
      have h23 := hE.1.1
      have hb : bodyC F r3 (tup x' c') = some (.inl (tup (x' + 1) (pt2 c' u))) := by
        refine b_stm F (fun y => ?_) h8 (.inl (i_lt.mpr (show (0 : Int) < (c' 2 10).toInt by omega))) (.inr ?_) hst
        · have := i_lt.mp y
          omega
        · rw [s8_isSign F ht.1 hE.1 okS_125.1 okS_125.2.1, if_neg z]
      refine ⟨x' + 1, pt2 c' u, _, rfl, ps_tr hps (ps_1 hb hx0 (by omega)), ?_, fr6_13 (fr6_tr h6' (fr6_rk l4)), .inr ⟨fE_13 (fE_of hE3 hu8), fK_13 ⟨K', ?_, hK3⟩⟩⟩
      · show u 0 = _
        rw [l3 0 (by omega) (by omega) (by omega) (by omega) (by omega) (by omega)]
        exact h20
      · rw [l4 5 (by omega) (by omega) (by omega) (by omega)]
        exact hK2
  · have h14 : 1 ≤ (o.2.1 14).toInt := by rw [hf.2.2.1]; exact hf.1
    rw [s11_needsF F h14, Option.bind_some]
    exact ⟨x', c', _, rfl, hps, h20, fr6_13 h6', .inr ⟨fE_13 hf, fK_13 hk⟩⟩
