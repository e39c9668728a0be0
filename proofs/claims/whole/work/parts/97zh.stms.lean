/-! ===== the text: a statement with blocks, in both ===== -/
def sto (F n : Nat) (r3 : Nat → Int32) (x : Int32) (c : Nat → Nat → Int32) (s0 : Nat → Int32) (q d K : Nat) (x' : Int32) (c' : Nat → Nat → Int32) (o : (Nat → Int32) × (Nat → Int32)) : Prop :=
  ps_ F r3 x c x' c' ∧ c' 2 0 = c 2 0 ∧ fr6 s0 o.1 ∧ ((∃ q' K' : Nat, q < q' ∧ K < K' ∧ aJ n r3 x' c' o.1 o.2 q' d K' ∧ c' 16 d = c 4 0 ∧ frS d K c c') ∨ (fE c' o.1 ∧ fK_ o.1))
/-- what blocks of statement K leave as it was -/
def frB (d K : Nat) (c c' : Nat → Nat → Int32) : Prop := (∀ e, e ≤ d → c' 15 e = c 15 e ∧ c' 17 e = c 17 e ∧ c' 16 e = c 16 e) ∧ (∀ k, k < K + 1 → c' 5 k = c 5 k) ∧ (∀ k, k < K → c' 11 k = c 11 k ∧ c' 12 k = c 12 k)
theorem frB_tr {d K : Nat} {a b c : Nat → Nat → Int32} (h : frB d K a b) (h' : frB d K b c) : frB d K a c := by
  obtain ⟨h1, h2, h3⟩ := h
  obtain ⟨g1, g2, g3⟩ := h'
  refine ⟨fun e he => ?_, fun k hk => (g2 k hk).trans (h2 k hk), fun k hk => ⟨(g3 k hk).1.trans (h3 k hk).1, (g3 k hk).2.trans (h3 k hk).2⟩⟩
  obtain ⟨a1, a2, a3⟩ := h1 e he
  obtain ⟨b1, b2, b3⟩ := g1 e he
  exact ⟨b1.trans a1, b2.trans a2, b3.trans a3⟩
theorem frB_W {d K K' : Nat} {c c' : Nat → Nat → Int32} (h : frW (d + 1) K' c c') (hK : K < K') (ho : (c 15 (d + 1)).toInt = (K : Nat)) : frB d K c c' := by
  obtain ⟨h1, h2, h3, h4⟩ := h
  exact ⟨fun e he => ⟨(h1 e (by omega)).1, (h1 e (by omega)).2, h2 e (by omega)⟩, fun k hk => h3 k (by omega), fun k hk => h4 k (by omega) (fun w => by omega)⟩
theorem frB_s {d K : Nat} {c c' : Nat → Nat → Int32} (h : ∀ j, j ≠ 2 → c' j = c j) : frB d K c c' := by
  refine ⟨fun e _ => ⟨?_, ?_, ?_⟩, fun k _ => ?_, fun k _ => ⟨?_, ?_⟩⟩
  · rw [h 15 (by omega)]
  · rw [h 17 (by omega)]
  · rw [h 16 (by omega)]
  · rw [h 5 (by omega)]
  · rw [h 11 (by omega)]
  · rw [h 12 (by omega)]
theorem frS_B {d K : Nat} {c c2 c' : Nat → Nat → Int32} (h : frS d K c c2) (h' : frB d K c2 c') : frS d K c c' := by
  obtain ⟨h1, h2, h3, h4⟩ := h
  obtain ⟨g1, g2, g3⟩ := h'
  exact ⟨fun e he => ⟨(g1 e he).1.trans (h1 e he).1, (g1 e he).2.1.trans (h1 e he).2⟩, fun e he => (g1 e (by omega)).2.2.trans (h2 e he), fun k hk => (g2 k (by omega)).trans (h3 k hk), fun k hk => ⟨(g3 k hk).1.trans (h4 k hk).1, (g3 k hk).2.trans (h4 k hk).2⟩⟩
theorem fE_r {c : Nat → Nat → Int32} {b b' : Nat → Int32} (h : fE c b) (hb : ∀ k, k ≠ 13 → b' k = b k) : fE c b' := by
  obtain ⟨h1, h2, h3, h4⟩ := h
  exact ⟨h1, h2, by rw [hb 14 (by omega)]; exact h3, by rw [hb 15 (by omega)]; exact h4⟩
theorem fK_r {b b' : Nat → Int32} (h : fK_ b) (hb : ∀ k, k ≠ 13 → b' k = b k) : fK_ b' := by
  obtain ⟨K, h1, h2⟩ := h
  exact ⟨K, by rw [hb 5 (by omega)]; exact h1, h2⟩
theorem cd_open {d K : Nat} {c : Nat → Nat → Int32} (h16 : c 16 (d + 1) = -1) (h15 : (c 15 (d + 1)).toInt = (K : Nat)) (h17 : c 17 (d + 1) = 0) (h11 : c 11 K = -1) : cd_ (d + 1) (-1) c := by
  refine ⟨⟨fun _ => h16, fun _ => rfl⟩, .inl rfl, fun _ o ho => ⟨fun _ => ?_, fun z => ?_⟩⟩
  · have eo : o = K := by omega
    rw [eo]
    exact h11
  · rw [h17] at z
    exact absurd z (by decide)
theorem st_b4 (rw_ : RW_) (F : Nat) (hF : 500 ≤ F) {n q d K : Nat} {r3 r77 s0 b rr : Nat → Int32} {x : Int32} {c c2 : Nat → Nat → Int32} (ht : tx n r3 r77) (hR : d < 6 → rowH rw_ F n r3 r77 (d + 1)) (hRF : rowF rw_ r77) (hx0 : 0 ≤ x.toInt) (hx4 : x.toInt ≤ 400) (hK : (c 4 0).toInt = (K : Nat)) (hK4 : K < 40) (h05 : (s0 5).toInt = ((K + 1 : Nat) : Int))
    (h2 : bodyC F r3 (tup x c) = some (.inl (tup (x + 1) c2))) (h3 : opQ n r3 x 4 c c2 s0 b rr q d K) :
    ∃ (x' : Int32) (c' : Nat → Nat → Int32) (o : (Nat → Int32) × (Nat → Int32)), (blkR rw_ F b rr r77 (c 4 0)).bind (fun o4 => ctW K o4) = some o ∧ sto F n r3 x c s0 q d K x' c' o := by
  obtain ⟨h20, hrk, hcase⟩ := h3
  have hp1 := ps_1 h2 hx0 hx4
  have hKb : fK_ b := ⟨K + 1, by rw [hrk 5 (by omega) (by omega) (by omega) (by omega)]; exact h05, by omega⟩
  rcases hcase with ⟨hd6, q1, hq1, hJ1, f16, f16d, f15, f17, f5, f11, fS⟩ | hf
  · have f15' : (c2 15 (d + 1)).toInt = (K : Nat) := by rw [f15]; exact hK
    obtain ⟨x', c', o, ho, hps, g20, g6, hcase⟩ := blk_ rw_ F hF (x1 := c 4 0) ht (hR hd6) hJ1 (cd_open f16 f15' f17 f11)
    rw [ho, Option.bind_some]
    rcases hcase with ⟨q', K', s, r', o3, x2, a1, a2, a3, a4, a5, a6, a7, a8, a9, a10, a11⟩ | ⟨hf, hk⟩
    · have w15 : c' 15 (d + 1) = c 4 0 := by rw [(a9.1 (d + 1) (Nat.le_refl _)).1]; exact f15
      have w17 : c' 17 (d + 1) = 0 := by rw [(a9.1 (d + 1) (Nat.le_refl _)).2]; exact f17
      have w5 : c' 5 K = 4 := by rw [a9.2.2.1 K (by omega)]; exact f5
      have w15' : (c' 15 (d + 1)).toInt = (K : Nat) := by rw [w15]; exact hK
      obtain ⟨a, bb, q2, k1, k2, k3, k4, k5, k6⟩ := cl_1 F hF (x1 := c 4 0) ht a3 a4 a5 w15' w17 a8 (.inl ⟨w5, w15.symm⟩)
      have eb3 : o3 = bb := Option.some.inj (a6.symm.trans k2)
      subst eb3
      have hcl : fnX8_closeBlock F (c' 2) r3 (c' 5) (c' 15) (c' 16) (c' 17) = some (a, c' 15, c' 16, c' 17) := by
        rw [e_close F a3.2.2.1 a3.2.2.2.2.1 (mj_ib_of (by omega) (by omega)), show (c' 15 (d + 1)).toNatClampNeg = K by rw [i_cl, w15']; rfl, if_neg (fun w => w.2 w5)]
        exact e_close0 F k1
      have hp2 := b_cl F ht.1 a3 a4 a5 hcl
      have hj := clM_s (c := c') (a := a)
      have hB : frB d K c2 (clM c' a (c' 15) (c' 16) (c' 17)) := frB_tr (frB_W a9 (by omega) f15') (frB_s hj)
      refine ⟨x' + 1, clM c' a (c' 15) (c' 16) (c' 17), _, rfl, ps_tr hp1 (ps_tr hps hp2), ?_, fr6_tr (fr6_rk hrk) g6, .inl ⟨q2, K', by omega, by omega, ?_, ?_, frS_B fS hB⟩⟩
      · show a 0 = _
        rw [k5, g20, h20]
      · have := k6 (clM c' a (c' 15) (c' 16) (c' 17)) rfl hj
        rw [a7, a10, a11]
        exact this
      · rw [(hB.1 d (Nat.le_refl _)).2.2]
        exact f16d
    · exact ⟨x', c', _, rfl, ps_tr hp1 hps, by rw [g20, h20], fr6_tr (fr6_rk hrk) g6, .inr ⟨hf, hk⟩⟩
  · have h14 : 1 ≤ (b 14).toInt := by rw [hf.2.2.1]; exact hf.1
    obtain ⟨b', hb', hbf⟩ := blk_F rw_ F (r74 := rr) (x1 := c 4 0) hRF h14
    rw [hb', Option.bind_some]
    exact ⟨x + 1, c2, _, rfl, hp1, h20, fun k k1 k2 k3 k4 k5 k6 => (hbf k k4).trans (hrk k k2 k3 k5 k6), .inr ⟨fE_r hf hbf, fK_r hKb hbf⟩⟩
