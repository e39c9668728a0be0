/-! ===== the text: a statement; a row ===== -/
theorem sm_sto {F n q d K : Nat} {r3 s0 b r' : Nat → Int32} {x : Int32} {c c' : Nat → Nat → Int32} (hx0 : 0 ≤ x.toInt) (hx4 : x.toInt ≤ 400) (hK4 : K < 40) (h05 : (s0 5).toInt = ((K + 1 : Nat) : Int)) (h2 : bodyC F r3 (tup x c) = some (.inl (tup (x + 1) c'))) (h : smR n r3 x c c' s0 b r' q d K) : sto F n r3 x c s0 q d K (x + 1) c' (b, r') := by
  obtain ⟨h1, hc, h15, h17, h16, h11, h12, h5, hcase⟩ := h
  refine ⟨ps_1 h2 hx0 hx4, hc 0 (by omega) (by omega) (by omega) (by omega) (by omega) (by omega), fr6_rk h1, ?_⟩
  rcases hcase with ⟨_, q', hq, hJ⟩ | hf
  · refine .inl ⟨q', K + 1, hq, by omega, hJ, ?_, fun e _ => ⟨by rw [h15], by rw [h17]⟩, fun e he => ?_, h5, fun k _ => ⟨by rw [h11], by rw [h12]⟩⟩
    · rw [h16]
      exact upd_at
    · rw [h16]
      exact upd_ne (by omega)
  · exact .inr ⟨hf, K + 1, by show (b 5).toInt = _; rw [h1 5 (by omega) (by omega) (by omega) (by omega)]; exact h05, by omega⟩
theorem st_all (rw_ : RW_) (F : Nat) (hF : 500 ≤ F) {n q d K : Nat} {r3 r71 r74 r77 s0 : Nat → Int32} {x : Int32} {c : Nat → Nat → Int32} (ht : tx n r3 r77) (hR : d < 6 → rowH rw_ F n r3 r77 (d + 1)) (hRF : rowF rw_ r77) (hJ : aJ n r3 x c r71 r74 q d K) (hK4 : K < 40) (hk : ¬ nK n r3 q) (hE0 : tE 401 n r3 (c 2) s0 q) (h05 : (s0 5).toInt = ((K + 1 : Nat) : Int)) (h013 : (s0 13).toInt = (d : Nat)) :
    q < n ∧ ∃ (x' : Int32) (c' : Nat → Nat → Int32) (o : (Nat → Int32) × (Nat → Int32)), fnX11_reads rw_ F s0 (rJ (c 16 d) (c 4 0) K r74) r77 (c 4 0) = some o ∧ sto F n r3 x c s0 q d K x' c' o := by
  have hJ' := hJ
  obtain ⟨hE, h8, hd, hd2, hd6, hK, hK2, hK3, hx0, hxq, hs, hL, hc, ho⟩ := hJ'
  have hqn := hE.1.2.2.1
  have hn := ht.1
  have hx4 : x.toInt ≤ 400 := by omega
  obtain ⟨r, hr, h1⟩ := s8_kind F hF ht.1 hE.1
  rcases h1 with ⟨w, _⟩ | ⟨i, w, _⟩
  · exact absurd w hk
  · refine ⟨(kR_l w).1, ?_⟩
    have hi := w.1
    have h0 : i = 0 ∨ i = 1 ∨ i = 2 ∨ i = 3 ∨ i = 4 ∨ i = 5 ∨ i = 6 := by omega
    rcases h0 with e | e | e | e | e | e | e <;> subst e
    · obtain ⟨c', b, r', g1, g2, g3⟩ := st_s0 rw_ F hF ht hJ hK4 hE0 h05 h013 w
      exact ⟨x + 1, c', (b, r'), g1, sm_sto hx0 hx4 hK4 h05 g2 g3⟩
    · obtain ⟨c', b, r', g1, g2, g3⟩ := st_s1 rw_ F hF ht hJ hK4 hE0 h05 h013 w
      exact ⟨x + 1, c', (b, r'), g1, sm_sto hx0 hx4 hK4 h05 g2 g3⟩
    · obtain ⟨c2, b, rr, g1, g2, g3⟩ := op_2 rw_ F hF ht hJ hK4 hE0 h05 h013 w
      rw [g1]
      exact st_b23 rw_ F hF ht (.inl rfl) hR hRF hx0 hx4 hK hK4 h05 g2 g3
    · obtain ⟨c2, b, rr, g1, g2, g3⟩ := op_3 rw_ F hF ht hJ hK4 hE0 h05 h013 w
      rw [g1]
      exact st_b23 rw_ F hF ht (.inr rfl) hR hRF hx0 hx4 hK hK4 h05 g2 g3
    · obtain ⟨c2, b, rr, g1, g2, g3⟩ := op_4 rw_ F hF ht hJ hK4 hE0 h05 h013 w
      rw [g1]
      exact st_b4 rw_ F hF ht hR hRF hx0 hx4 hK hK4 h05 g2 g3
    · obtain ⟨c', b, r', g1, g2, g3⟩ := st_s5 rw_ F hF ht hJ hK4 hE0 h05 h013 w
      exact ⟨x + 1, c', (b, r'), g1, sm_sto hx0 hx4 hK4 h05 g2 g3⟩
    · obtain ⟨c', b, r', g1, g2, g3⟩ := st_s6 rw_ F hF ht hJ hK4 hE0 h05 h013 w
      exact ⟨x + 1, c', (b, r'), g1, sm_sto hx0 hx4 hK4 h05 g2 g3⟩
theorem bg_k {c : Nat → Nat → Int32} {d K k : Nat} (hs : stk c d K) (hk : k < K) (hne : ¬ (c 15 d).toInt = (k : Nat)) : bgn c d K 0 11 k = c 11 k ∧ bgn c d K 0 12 k = c 12 k := by
  obtain ⟨s1, s2, s3, s4⟩ := hs
  have own : c 15 d = -1 ∨ ∃ o : Nat, (c 15 d).toInt = (o : Nat) ∧ o ≠ k := by
    by_cases z : d = 0
    · rw [z]; exact .inl s1
    · obtain ⟨o, o1, o2, _⟩ := s2 d (by omega) (Nat.le_refl d)
      exact .inr ⟨o, o2, fun w => hne (by rw [o2, w])⟩
  refine ⟨?_, ?_⟩
  · show upd (bg11 (c 15 d) (c 16 d) (c 17 d) (c 4 0) (c 11)) K (-1) k = _
    rw [upd_ne (by omega)]
    unfold bg11
    rcases own with z | ⟨o, o1, o2⟩
    · rw [if_neg (fun w => w.2.1 z)]
    · split
      · rw [i_cl, o1]
        exact upd_ne (fun w => o2 (by rw [w]; rfl))
      · rfl
  · show upd (bg12 (c 15 d) (c 16 d) (c 17 d) (c 4 0) (c 12)) K (-1) k = _
    rw [upd_ne (by omega)]
    unfold bg12
    rcases own with z | ⟨o, o1, o2⟩
    · rw [if_neg (fun w => w.2.1 z)]
    · split
      · rw [i_cl, o1]
        exact upd_ne (fun w => o2 (by rw [w]; rfl))
      · rfl
theorem frW_S {c c1 : Nat → Nat → Int32} {d K : Nat} (hs : stk c d K) (h : frS d K c c1) : frW d K c c1 := by
  obtain ⟨h1, h2, h3, h4⟩ := h
  refine ⟨h1, h2, h3, fun k hk hne => ?_⟩
  obtain ⟨g1, g2⟩ := bg_k hs hk hne
  exact ⟨(h4 k hk).1.trans g1, (h4 k hk).2.trans g2⟩
theorem frW_tr {a b c : Nat → Nat → Int32} {d K K' : Nat} (h : frW d K a b) (h' : frW d K' b c) (hK : K ≤ K') : frW d K a c := by
  obtain ⟨h1, h2, h3, h4⟩ := h
  obtain ⟨g1, g2, g3, g4⟩ := h'
  refine ⟨fun e he => ⟨(g1 e he).1.trans (h1 e he).1, (g1 e he).2.trans (h1 e he).2⟩, fun e he => (g2 e he).trans (h2 e he), fun k hk => (g3 k (by omega)).trans (h3 k hk), fun k hk hne => ?_⟩
  obtain ⟨a1, a2⟩ := h4 k hk hne
  obtain ⟨b1, b2⟩ := g4 k (by omega) (fun w => hne (by rw [← (h1 d (Nat.le_refl d)).1]; exact w))
  exact ⟨b1.trans a1, b2.trans a2⟩
theorem frW_rf (c : Nat → Nat → Int32) (d K : Nat) : frW d K c c := ⟨fun _ _ => ⟨rfl, rfl⟩, fun _ _ => rfl, fun _ _ => rfl, fun _ _ _ => ⟨rfl, rfl⟩⟩
theorem cd_step {c c1 : Nat → Nat → Int32} {d K : Nat} {x2 : Int32} (hs : stk c d K) (hK : (c 4 0).toInt = (K : Nat)) (hcd : cd_ d x2 c) (h16 : c1 16 d = c 4 0) (hS : frS d K c c1) : cd_ d (if x2 = -1 then c 4 0 else x2) c1 := by
  obtain ⟨s1, s2, s3, s4⟩ := hs
  obtain ⟨h1, h2, h3, h4⟩ := hS
  obtain ⟨d1, d2, d3⟩ := hcd
  have hKm : ¬ c 4 0 = -1 := i_m1 hK
  refine ⟨⟨fun z => ?_, fun z => ?_⟩, .inr ?_, fun hd o ho => ?_⟩
  · by_cases w : x2 = -1
    · rw [if_pos w] at z
      exact absurd z hKm
    · rw [if_neg w] at z
      exact absurd z w
  · rw [h16] at z
    exact absurd z hKm
  · by_cases w : x2 = -1
    · rw [if_pos w]
      omega
    · rw [if_neg w]
      exact d2.resolve_left w
  · rw [(h1 d (Nat.le_refl d)).1] at ho
    obtain ⟨p, p1, p2, _⟩ := s2 d hd (Nat.le_refl d)
    have ep : p = o := by omega
    subst ep
    obtain ⟨e11, e12⟩ := h4 p p1
    obtain ⟨f11, f12⟩ := d3 hd p ho
    rw [(h1 d (Nat.le_refl d)).2, e11, e12]
    have hcl : (c 15 d).toNatClampNeg = p := by rw [i_cl, ho]; rfl
    refine ⟨fun z => ?_, fun z => ?_⟩
    · show upd (bg11 (c 15 d) (c 16 d) (c 17 d) (c 4 0) (c 11)) K (-1) p = _
      rw [upd_ne (by omega)]
      unfold bg11
      by_cases w : x2 = -1
      · rw [if_pos ⟨d1.mp w, i_m1 ho, z⟩, hcl, upd_at, if_pos w]
      · rw [if_neg (fun y => w (d1.mpr y.1)), if_neg w]
        exact f11 z
    · show upd (bg12 (c 15 d) (c 16 d) (c 17 d) (c 4 0) (c 12)) K (-1) p = _
      rw [upd_ne (by omega)]
      unfold bg12
      by_cases w : x2 = -1
      · rw [if_pos ⟨d1.mp w, i_m1 ho, by rw [z]; decide⟩, hcl, upd_at, if_pos w]
      · rw [if_neg (fun y => w (d1.mpr y.1)), if_neg w]
        exact f12 z
theorem aJ_t {n q d K : Nat} {r3 r71 r74 s : Nat → Int32} {x : Int32} {c : Nat → Nat → Int32} (hJ : aJ n r3 x c r71 r74 q d K) (hE : tE 401 n r3 (c 2) s q) (sf : ∀ k, k ≠ 11 → s k = r71 k) : aJ n r3 x c s r74 q d K := by
  obtain ⟨_, h8, hd, hd2, hd6, hK, hK2, hK3, hx0, hxq, hs, hL, hc, how⟩ := hJ
  exact ⟨hE, h8, hd, by rw [sf 13 (by omega)]; exact hd2, hd6, hK, by rw [sf 5 (by omega)]; exact hK2, hK3, hx0, hxq, hs, hL, hc, how⟩
