/-! ===== calls on the equations: their answers ===== -/
theorem v_form (F : Nat) (hF : 30000 ≤ F) {c : Int32} {e : Int64} (h : e.toInt = c.toInt) (hf : fd c.toInt) (form : Int32) : ∃ v, fnX3_inForm F c form = some v ∧ fnX11_formed F e form = some v := by
  obtain ⟨v, h1, h2⟩ := s3_inForm F (by omega) (v := c) (form := form) hf
  obtain ⟨w, h3, h4⟩ := s11_formed F hF (v := e) (form := form) (by rw [h]; exact hf)
  rw [h] at h4
  have : v = w := i_eq.mpr (isForm_one h2 h4)
  subst this
  exact ⟨v, h1, h3⟩
/-- the class's and the reference's numbers of one solution -/
def nuQ (n : Nat) (a : T9) (b : T8) (c41 c42 f : Nat → Int32) (q90 : Nat → Int64) : Prop := suQ n a.1 a.2.1 c42 c41 ∧ (∀ t, t < n → fd (c42 t).toInt ∧ (q90 t).toInt = (c42 t).toInt) ∧ (∀ k, k ≠ 22 → k ≠ 23 → k ≠ 38 → f k = b.1 k)
theorem v_basic {I : mj_IT} {a : T9} {b : T8} {n : Nat} {fr na : Nat → Nat} {tg : Nat → Nat → Nat} {sh : Nat → Nat → Int} (hG : gGab I a b n fr na tg sh) {c41 c42 f : Nat → Int32} {q90 : Nat → Int64} (h : nuQ n a b c41 c42 f q90) : (f 24).toInt = (n : Nat) ∧ f 4 = a.1 7 ∧ n ≤ 200 ∧ (∀ t, t < n → fd (q90 t).toInt) ∧ (∀ t, t < n → b.2.1 t = a.2.1 t) ∧ (∀ t, t < n → b.2.2.1 t = a.2.2.1 t) ∧ (∀ t, t < n → sx (a.2.2.1 t)) ∧ (∀ t, t < n → (q90 t).toInt = (c42 t).toInt) := by
  obtain ⟨⟨g1, g2, g3, g4⟩, ⟨z1, z2, z3, z4, z5, z6⟩, g6, -⟩ := hG
  obtain ⟨h1, h2, h3⟩ := h
  refine ⟨by rw [h3 24 (by decide) (by decide) (by decide)]; exact g4, ?_, g2, fun t ht => by rw [(h2 t ht).2]; exact (h2 t ht).1, fun t ht => (g6 t ht).1, fun t ht => (g6 t ht).2.1, fun t ht => (g6 t ht).2.2.2.2.2.1, fun t ht => (h2 t ht).2⟩
  rw [h3 4 (by decide) (by decide) (by decide)]
  exact i_eq.mpr (by omega)
theorem fv_c {E B : Int} {x y z : Int} (hx : x = (1 - E) % 998244353) (hy : y = (x - B) % 998244353) (hz : z = (1996488707 - E - B) % 998244353) : z = y := by omega
theorem l_fv {e5 e6 : Int64} (h5 : fd e5.toInt) (h6 : fd e6.toInt) : ((1996488707 : Int64) - e5 - e6 - ((1996488707 : Int64) - e5 - e6) / 998244353 * 998244353).toInt = (1996488707 - e5.toInt - e6.toInt) % 998244353 := by
  have e : (1996488707 : Int64).toInt = 1996488707 := rfl
  obtain ⟨a0, a1⟩ := h5
  obtain ⟨b0, b1⟩ := h6
  have w1 : ((1996488707 : Int64) - e5).toInt = 1996488707 - e5.toInt := by rw [l_sub (by rw [e]; omega) (by rw [e]; omega), e]
  have w2 : ((1996488707 : Int64) - e5 - e6).toInt = 1996488707 - e5.toInt - e6.toInt := by rw [l_sub (by rw [w1]; omega) (by rw [w1]; omega), w1]
  exact l_remP w2 (by omega)
theorem v_total (F : Nat) (hF : 600 ≤ F) {I : mj_IT} {a : T9} {b : T8} {n : Nat} {fr na : Nat → Nat} {tg : Nat → Nat → Nat} {sh : Nat → Nat → Int} (hG : gGab I a b n fr na tg sh) {c41 c42 f : Nat → Int32} {q90 : Nat → Int64} (h : nuQ n a b c41 c42 f q90) :
    ∃ e5 e6 o9, fnX11_ended F f b.2.1 q90 = some e5 ∧ fnX11_sumAt F f b.2.1 q90 (f 4 + 1) = some e6 ∧ fnX2_forEver F c41 = some o9 ∧ e5.toInt = (c41 0).toInt ∧ e6.toInt = (c41 1).toInt ∧ ((1996488707 : Int64) - e5 - e6 - ((1996488707 : Int64) - e5 - e6) / 998244353 * 998244353).toInt = o9.toInt ∧ fd (c41 0).toInt ∧ fd (c41 1).toInt ∧ fd o9.toInt := by
  obtain ⟨v1, v2, v3, v4, v5, v6, v7, v8⟩ := v_basic hG h
  obtain ⟨⟨g1, g2, g3, g4⟩, ⟨z1, z2, z3, z4, z5, z6⟩, g6, -⟩ := hG
  obtain ⟨⟨s1, s2, s3⟩, h2, h3⟩ := h
  have e1 : (1 : Int32).toInt = 1 := rfl
  obtain ⟨e5, x1, x2⟩ := s11_ended F hF v3 (r80 := b.2.1) v1 v4
  obtain ⟨e6, y1, y2⟩ := s11_sumAt F hF v3 (r80 := b.2.1) v1 v4 (f 4 + 1)
  have f41 : (f 4 + 1).toInt = (a.1 7).toInt + 1 := by rw [v2, i_add (by omega) (by omega), e1]
  rw [at_eq (en' := en_ a.2.1 (a.1 7)) (g' := fun t => (c42 t).toInt) (fun t ht => by unfold en_; rw [v5 t ht, v2]) v8, ← s1] at x2
  have hbr : ∀ t, t < n → decide (b.2.1 t = f 4 + 1) = br_ a.2.1 (a.1 7) t := by
    intro t ht
    unfold br_
    rw [v5 t ht]
    have h9 := (g6 t ht).2.2.2.2.1
    refine decide_eq_decide.mpr ⟨fun w z => ?_, fun w => ?_⟩
    · have w1 := i_eq.mp w
      have w2 := i_le.mp z
      rw [f41] at w1
      omega
    · refine i_eq.mpr ?_
      rw [f41]
      have w2 : ¬ (a.2.1 t).toInt ≤ (a.1 7).toInt := fun z => w (i_le.mpr z)
      omega
  rw [at_eq (en' := br_ a.2.1 (a.1 7)) (g' := fun t => (c42 t).toInt) hbr v8, ← s2] at y2
  have fd0 : fd (c41 0).toInt := by rw [s1]; exact fd_md _
  have fd1 : fd (c41 1).toInt := by rw [s2]; exact fd_md _
  obtain ⟨p, p1, p2⟩ := s3_less F (a := 1) (b := c41 0) ⟨by decide, by decide⟩ fd0
  obtain ⟨q, q1, q2⟩ := s3_less F (a := p) (b := c41 1) (by rw [p2]; exact fd_md _) fd1
  rw [e1] at p2
  refine ⟨e5, e6, q, x1, y1, ?_, x2, y2, ?_, fd0, fd1, by rw [q2]; exact fd_md _⟩
  · unfold fnX2_forEver
    rw [p1, Option.bind_some, q1, Option.bind_some]
  · have h9 := l_fv (e5 := e5) (e6 := e6) (by rw [x2]; exact fd0) (by rw [y2]; exact fd1)
    rw [x2, y2] at h9
    exact fv_c p2 q2 h9
theorem v_share (F : Nat) (hF : 600 ≤ F) {c41 : Nat → Int32} {o : Int32} (h0 : fd (c41 0).toInt) (ho : fd o.toInt) : ∃ w, fnX2_shareOfEnded F c41 o = some w ∧ w.toInt = o.toInt * iv (c41 0).toInt % 998244353 := by
  obtain ⟨p, p1, p2⟩ := s3_inverse F (by omega) h0
  obtain ⟨q, q1, q2⟩ := s3_times F (a := o) (b := p) ho (by rw [p2]; exact iv_fd _)
  refine ⟨q, ?_, by rw [q2, p2]⟩
  unfold fnX2_shareOfEnded
  rw [p1, Option.bind_some, q1, Option.bind_some]
theorem v_couple (F : Nat) (hF : 600 ≤ F) {I : mj_IT} {a : T9} {b : T8} {n : Nat} {fr na : Nat → Nat} {tg : Nat → Nat → Nat} {sh : Nat → Nat → Int} (hG : gGab I a b n fr na tg sh) {c41 c42 f : Nat → Int32} {q90 : Nat → Int64} (h : nuQ n a b c41 c42 f q90) (ht : tens (I 87)) {v x w y : Int32} (hv : vr v) (hw : vr w) :
    ∃ o3 o4 e, fnX2_coupleTogether F a.1 a.2.1 a.2.2.1 c42 v x w y = some o3 ∧ fnX2_shareOfEnded F c41 o3 = some o4 ∧ fnX11_oddsOf F f b.2.1 b.2.2.1 (I 87) q90 v x w y = some e ∧ e.toInt = o4.toInt ∧ fd o4.toInt := by
  obtain ⟨v1, v2, v3, v4, v5, v6, v7, v8⟩ := v_basic hG h
  obtain ⟨⟨g1, g2, g3, g4⟩, -⟩ := hG
  obtain ⟨⟨s1, s2, s3⟩, h2, h3⟩ := h
  obtain ⟨o3, x1, x2⟩ := s2_couple F hF g2 (r33 := a.2.1) (r34 := a.2.2.1) (x := x) (y := y) g3 (fun t ht => (h2 t ht).1) hv hw
  obtain ⟨o4, y1, y2⟩ := v_share F hF (c41 := c41) (o := o3) (by rw [s1]; exact fd_md _) (by rw [x2]; exact fd_md _)
  obtain ⟨e, z1, z2⟩ := s11_oddsOf F hF v3 (r80 := b.2.1) (r81 := b.2.2.1) (x := x) (y := y) v1 v4 ht hv hw
  refine ⟨o3, o4, e, x1, y1, z1, ?_, by rw [y2]; exact fd_md _⟩
  rw [z2, y2, x2, s1]
  rw [at_eq (en := en_ b.2.1 (f 4)) (en' := en_ a.2.1 (a.1 7)) (g' := fun t => (c42 t).toInt) (fun t ht => by unfold en_; rw [v5 t ht, v2]) v8, at_eq (en := cpB b.2.1 (f 4) b.2.2.1 v.toNatClampNeg x w.toNatClampNeg y) (en' := cpB a.2.1 (a.1 7) a.2.2.1 v.toNatClampNeg x w.toNatClampNeg y) (g' := fun t => (c42 t).toInt) (fun t ht => by unfold cpB; rw [v5 t ht, v6 t ht, v2]) v8]
theorem v_mean (F : Nat) (hF : 600 ≤ F) {I : mj_IT} {a : T9} {b : T8} {n : Nat} {fr na : Nat → Nat} {tg : Nat → Nat → Nat} {sh : Nat → Nat → Int} (hG : gGab I a b n fr na tg sh) {c41 c42 f : Nat → Int32} {q90 : Nat → Int64} (h : nuQ n a b c41 c42 f q90) (ht : tens (I 87)) {v x2 : Int32} (hv : vr v) :
    ∃ o7 o8 e, fnX2_valuesTogether F a.1 a.2.1 a.2.2.1 c42 v = some o7 ∧ fnX2_shareOfEnded F c41 o7 = some o8 ∧ mj_it (mj_u2 (fun z0 z1 => bdX11_mean_64 F f b.2.1 b.2.2.1 (I 87) q90 v x2 z0 z1)) F ((0 : Int64), (1 : Int32)) = some e ∧ (e - e / 998244353 * 998244353).toInt = o8.toInt ∧ fd o8.toInt := by
  obtain ⟨v1, v2, v3, v4, v5, v6, v7, v8⟩ := v_basic hG h
  obtain ⟨⟨g1, g2, g3, g4⟩, -⟩ := hG
  obtain ⟨⟨s1, s2, s3⟩, h2, h3⟩ := h
  obtain ⟨o7, x1, w2⟩ := s2_values F hF g2 (r33 := a.2.1) (r34 := a.2.2.1) g3 (fun t ht => (h2 t ht).1) v7 hv
  obtain ⟨o8, y1, y2⟩ := v_share F hF (c41 := c41) (o := o7) (by rw [s1]; exact fd_md _) (by rw [w2]; exact fd_md _)
  obtain ⟨e, z1, z2, z3⟩ := s11_meanSum F hF v3 (r80 := b.2.1) (r81 := b.2.2.1) (x2 := x2) v1 v4 (fun t ht => by rw [v6 t ht]; exact v7 t ht) ht hv
  refine ⟨o7, o8, e, x1, y1, z1, ?_, by rw [y2]; exact fd_md _⟩
  rw [l_remP rfl z2, y2, w2, s1]
  rw [at_eq (en' := en_ a.2.1 (a.1 7)) (g' := fun t => (c42 t).toInt) (fun t ht => by unfold en_; rw [v5 t ht, v2]) v8, at_eq (en' := en_ a.2.1 (a.1 7)) (g' := fun t => (dgt (a.2.2.1 t) v.toNatClampNeg).toInt * (c42 t).toInt) (fun t ht => by unfold en_; rw [v5 t ht, v2]) (fun t ht => by rw [v6 t ht, v8 t ht])] at z3
  have h9 : cg (at_ n (en_ a.2.1 (a.1 7)) (fun t => (dgt (a.2.2.1 t) v.toNatClampNeg).toInt * (c42 t).toInt) % 998244353 * iv (at_ n (en_ a.2.1 (a.1 7)) (fun t => (c42 t).toInt) % 998244353)) (at_ n (en_ a.2.1 (a.1 7)) (fun t => (dgt (a.2.2.1 t) v.toNatClampNeg).toInt * (c42 t).toInt) * iv (at_ n (en_ a.2.1 (a.1 7)) (fun t => (c42 t).toInt) % 998244353)) := cg_mul (cg_md _) (cg_rf _)
  exact cg_tr z3 (cg_sy h9)
theorem v_indep (F : Nat) (hF : 600 ≤ F) {I : mj_IT} {a : T9} {b : T8} {n : Nat} {fr na : Nat → Nat} {tg : Nat → Nat → Nat} {sh : Nat → Nat → Int} (hG : gGab I a b n fr na tg sh) {c41 c42 f r47 r48 r49 : Nat → Int32} {q90 : Nat → Int64} (h : nuQ n a b c41 c42 f q90) (hE : ¬ cg (at_ n (en_ a.2.1 (a.1 7)) (fun t => (c42 t).toInt)) 0) (ht : tens (I 87)) {v w : Int32} (hv : vr v) (hw : vr w) :
    ∃ o7 e, fnX2_areIndependent F a.1 a.2.1 a.2.2.1 c41 c42 r47 r48 r49 v w = some o7 ∧ mj_it (bdX11_independent_63 F f b.2.1 b.2.2.1 (I 87) q90 v w) F (0 : Int32) = some e ∧ ((o7.1 = 1 ∧ e = .inl ()) ∨ (o7.1 = 0 ∧ e = .inr ())) := by
  obtain ⟨v1, v2, v3, v4, v5, v6, v7, v8⟩ := v_basic hG h
  obtain ⟨⟨g1, g2, g3, g4⟩, -⟩ := hG
  obtain ⟨⟨s1, s2, s3⟩, h2, h3⟩ := h
  have eE : at_ n (en_ b.2.1 (f 4)) (fun t => (q90 t).toInt) = at_ n (en_ a.2.1 (a.1 7)) (fun t => (c42 t).toInt) := at_eq (fun t ht => by unfold en_; rw [v5 t ht, v2]) v8
  obtain ⟨o7, x1, x2⟩ := s2_independent F hF g2 (r33 := a.2.1) (r34 := a.2.2.1) (r47 := r47) (r48 := r48) (r49 := r49) g3 (fun t ht => (h2 t ht).1) v7 s1 hv hw
  obtain ⟨e, z1, z2⟩ := s11_independent F hF v3 (r80 := b.2.1) (r81 := b.2.2.1) v1 v4 ht hv hw (by rw [eE]; exact hE)
  have eP : ∀ x y, inP n b.2.1 (f 4) b.2.2.1 v.toNatClampNeg w.toNatClampNeg (fun t => (q90 t).toInt) x y ↔ inP n a.2.1 (a.1 7) a.2.2.1 v.toNatClampNeg w.toNatClampNeg (fun t => (c42 t).toInt) x y := by
    intro x y
    unfold inP
    rw [eE, at_eq (en' := pB a.2.1 (a.1 7) a.2.2.1 v.toNatClampNeg x w.toNatClampNeg y) (g' := fun t => (c42 t).toInt) (fun t ht => by unfold pB; rw [v5 t ht, v6 t ht, v2]) v8, at_eq (en' := dB a.2.1 (a.1 7) a.2.2.1 v.toNatClampNeg x) (g' := fun t => (c42 t).toInt) (fun t ht => by unfold dB; rw [v5 t ht, v6 t ht, v2]) v8, at_eq (en' := dB a.2.1 (a.1 7) a.2.2.1 w.toNatClampNeg y) (g' := fun t => (c42 t).toInt) (fun t ht => by unfold dB; rw [v5 t ht, v6 t ht, v2]) v8]
  refine ⟨o7, e, x1, z1, ?_⟩
  rcases e with u | u
  · rcases x2 with ⟨y1, y2⟩ | ⟨y1, x, y, hx, hy, hn⟩
    · exact Or.inl ⟨y1, rfl⟩
    · exact absurd ((eP x y).mp (z2 x y hx hy)) hn
  · rcases x2 with ⟨y1, y2⟩ | ⟨y1, -⟩
    · obtain ⟨x, y, hx, hy, hn⟩ := z2
      exact absurd ((eP x y).mpr (y2 x y hx hy)) hn
    · exact Or.inr ⟨y1, rfl⟩
theorem s11_allLead (F : Nat) (hF : 600 ≤ F) {n : Nat} (hn : n ≤ 200) {r71 r86 : Nat → Int32} (h24 : (r71 24).toInt = (n : Nat)) {x1 : Int32} {x2 : Int64} : sp (mj_it (mj_u2 (fun z0 z1 => bdX11_steps_36 F r71 r86 x1 x2 z0 z1)) F ((1 : Int32), (0 : Int32))) (fun e => (e = 1 ∧ ∀ t, t < n → ¬ r86 t = 0) ∨ (e = 0 ∧ ∃ t, t < n ∧ r86 t = 0)) := by
  have e0 : (0 : Int32).toInt = 0 := rfl
  refine sp_cnt (fun s : Int32 × Int32 => s.2) n (by omega) (fun i s => (s.1 = 1 ∧ ∀ t, t < i → ¬ r86 t = 0) ∨ (s.1 = 0 ∧ ∃ t, t < i ∧ r86 t = 0)) ?_ F 0 _ (by omega) e0 (Or.inl ⟨rfl, fun t ht => absurd ht (Nat.not_lt_zero t)⟩) (by omega)
  rintro i ⟨y, x⟩ hi hx hcx hxs hJ
  refine sp_u2 ?_
  dsimp only at hx hcx hxs hJ
  unfold bdX11_steps_36
  refine sp_ite (fun hw => sp_some ?_) (fun hw2 => ?_)
  · have := i_le.mp hw
    have : i = n := by omega
    subst this
    exact hJ
  · have hw3 : ¬ (r71 24).toInt ≤ x.toInt := fun q => hw2 (i_le.mpr q)
    have hin : i < n := by omega
    have hib : mj_ib x 200 = true := mj_ib_of (by omega) (by omega)
    rcases hJ with ⟨rfl, j2⟩ | ⟨rfl, t, j2, j3⟩
    · refine sp_neg (by decide) (sp_pos hib ?_)
      rw [hcx]
      refine sp_ite (fun q => sp_some ⟨hin, rfl, Or.inr ⟨rfl, i, by omega, q⟩⟩) (fun q => sp_some ⟨hin, rfl, Or.inl ⟨rfl, fun t ht => ?_⟩⟩)
      by_cases e : t = i
      · rw [e]; exact q
      · exact j2 t (by omega)
    · exact sp_pos rfl (sp_some ⟨hin, rfl, Or.inr ⟨rfl, t, by omega, j3⟩⟩)
theorem s11_stepSum (F : Nat) (hF : 600 ≤ F) {n : Nat} (hn : n ≤ 200) {r71 r83 : Nat → Int32} {q90 : Nat → Int64} (h24 : (r71 24).toInt = (n : Nat)) (hf : ∀ t, t < n → fd (q90 t).toInt) {x1 : Int32} : sp (mj_it (mj_u2 (fun z0 z1 => bdX11_steps_94 F r71 r83 q90 x1 z0 z1)) F ((0 : Int64), (0 : Int32))) (fun c => c.toInt = at_ n (fun t => decide (¬ r83 t ≤ 0)) (fun t => (q90 t).toInt) ∧ 0 ≤ c.toInt) := by
  have e0 : (0 : Int32).toInt = 0 := rfl
  have l0 : (0 : Int64).toInt = 0 := rfl
  have hb := at_b (g := fun t => (q90 t).toInt) hf (fun t => decide (¬ r83 t ≤ 0))
  refine sp_cnt (fun s : Int64 × Int32 => s.2) n (by omega) (fun i s => s.1.toInt = at_ i (fun t => decide (¬ r83 t ≤ 0)) (fun t => (q90 t).toInt)) ?_ F 0 _ (by omega) e0 rfl (by omega)
  rintro i ⟨s, z⟩ hi hx hcx hxs hJ
  refine sp_u2 ?_
  dsimp only at hx hcx hxs hJ
  unfold bdX11_steps_94
  refine sp_ite (fun hw => sp_some ?_) (fun hw2 => ?_)
  · have := i_le.mp hw
    have : i = n := by omega
    subst this
    exact ⟨hJ, by rw [hJ]; exact (hb i hi).1⟩
  · have hw3 : ¬ (r71 24).toInt ≤ z.toInt := fun q => hw2 (i_le.mpr q)
    have hin : i < n := by omega
    have hib : mj_ib z 200 = true := mj_ib_of (by omega) (by omega)
    obtain ⟨b1, b2⟩ := hb i (by omega)
    obtain ⟨f1, f2⟩ := hf i hin
    refine sp_pos hib ?_
    rw [hcx]
    refine sp_ite (fun q => sp_some ⟨hin, rfl, ?_⟩) (fun q => sp_pos hib (sp_some ⟨hin, rfl, ?_⟩))
    · rw [at_s, if_neg (fun w => (of_decide_eq_true w) q)]
      exact l_addb hJ l0 (by omega) (by omega)
    · rw [at_s, if_pos (decide_eq_true q)]
      exact l_addb hJ rfl (by omega) (by omega)
theorem ct_zero {r : Nat → Int32} : ∀ n, (ct r n = 0 ↔ ∀ t, t < n → r t = 0) := by
  intro n
  induction n with
  | zero => exact iff_of_true rfl (fun t ht => absurd ht (Nat.not_lt_zero t))
  | succ n ih =>
    have hs : ct r (n + 1) = ct r n + if r n = 0 then 0 else 1 := rfl
    rw [hs]
    constructor
    · intro h t ht
      by_cases e : r n = 0
      · rw [if_pos e] at h
        by_cases e2 : t = n
        · rw [e2]; exact e
        · exact ih.mp (by omega) t (by omega)
      · rw [if_neg e] at h; omega
    · intro h
      rw [if_pos (h n (by omega)), ih.mpr (fun t ht => h t (by omega))]
theorem v_steps (F : Nat) (hF : 600 ≤ F) {I : mj_IT} {a : T9} {b : T8} {n : Nat} {fr na : Nat → Nat} {tg : Nat → Nat → Nat} {sh : Nat → Nat → Int} (hG : gGab I a b n fr na tg sh) {c41 c42 f : Nat → Int32} {q90 : Nat → Int64} (h : nuQ n a b c41 c42 f q90) {x1 : Int32} :
    ∃ e, mj_it (mj_u2 (fun z0 z1 => bdX11_steps_94 F f b.2.2.2.2.1 q90 x1 z0 z1)) F ((0 : Int64), (0 : Int32)) = some e ∧ (e - e / 998244353 * 998244353).toInt = (c41 2).toInt ∧ fd (c41 2).toInt := by
  obtain ⟨v1, v2, v3, v4, v5, v6, v7, v8⟩ := v_basic hG h
  obtain ⟨⟨g1, g2, g3, g4⟩, ⟨z1, z2, z3, z4, z5, z6⟩, g6, g7, gA, gR, gH, -⟩ := hG
  obtain ⟨⟨s1, s2, s3⟩, h2, h3⟩ := h
  have e0 : (0 : Int32).toInt = 0 := rfl
  obtain ⟨e, x1, x2, x3⟩ := s11_stepSum F hF v3 (r83 := b.2.2.2.2.1) (x1 := x1) v1 v4
  refine ⟨e, x1, ?_, by rw [s3]; exact fd_md _⟩
  rw [l_remP x2 (by rw [← x2]; exact x3), s3]
  congr 1
  refine at_eq (fun t ht => ?_) v8
  unfold go_
  have h8 := (gH t ht).2.2
  have h9 := (gR t ht).1
  have h10 : (¬ b.2.2.2.2.1 t ≤ 0) ↔ 0 < na t := by
    rw [i_le, e0, h9]
    omega
  have h11 : (¬ a.2.1 t = a.1 7 ∧ a.2.1 t ≤ a.1 7) ↔ 0 < na t := by
    rw [← h8, i_eq, i_le, z3]
    omega
  rw [Bool.eq_iff_iff, Bool.and_eq_true, decide_eq_true_iff, decide_eq_true_iff, decide_eq_true_iff, h10, h11]
theorem v_allLead (F : Nat) (hF : 600 ≤ F) {I : mj_IT} {a : T9} {b : T8} {n : Nat} {fr na : Nat → Nat} {tg : Nat → Nat → Nat} {sh : Nat → Nat → Int} (hG : gGab I a b n fr na tg sh) {x1 : Int32} {x2 : Int64} :
    ∃ e, mj_it (mj_u2 (fun z0 z1 => bdX11_steps_36 F b.1 b.2.2.2.2.2.2.2 x1 x2 z0 z1)) F ((1 : Int32), (0 : Int32)) = some e ∧ ((a.1 5 ≤ 0 ∧ e = 1) ∨ (¬ a.1 5 ≤ 0 ∧ e = 0)) := by
  obtain ⟨⟨g1, g2, g3, g4⟩, -, g6, g7, gA, gR, gH, g8, g9, g10, g11, g12⟩ := hG
  have e0 : (0 : Int32).toInt = 0 := rfl
  obtain ⟨e, y1, y2⟩ := s11_allLead F hF g2 (r71 := b.1) (r86 := b.2.2.2.2.2.2.2) (x1 := x1) (x2 := x2) g4
  refine ⟨e, y1, ?_⟩
  have hz := ct_zero (r := a.2.2.2.2.1) n
  rcases y2 with ⟨w1, w2⟩ | ⟨w1, t, w2, w3⟩
  · left
    have h9 := hz.mpr (fun t ht => (g12 t ht).2.2.2.mp (w2 t ht))
    exact ⟨i_le.mpr (by omega), w1⟩
  · right
    refine ⟨fun z => ?_, w1⟩
    have z2 := i_le.mp z
    have h9 := hz.mp (by omega) t w2
    exact (g12 t w2).2.2.2.mpr h9 w3
