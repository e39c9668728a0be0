/-! ===== the text: stands ===== -/
def mdQ (C : Int32) (r74 s : Nat → Int32) (k : Nat) : Prop :=
  s (12 * k + 3) = (if r74 (12 * k + 3) = -3 then C else r74 (12 * k + 3)) ∧ s (12 * k + 4) = (if r74 (12 * k + 4) = -3 then C else if r74 (12 * k + 4) = -2 then C + 1 else r74 (12 * k + 4)) ∧ ∀ m, m < 12 → m ≠ 3 → m ≠ 4 → s (12 * k + m) = r74 (12 * k + m)
theorem mdQ_f {C : Int32} {r74 s s' : Nat → Int32} {k : Nat} (hs : ∀ m, m < 12 → s' (12 * k + m) = s (12 * k + m)) (h : mdQ C r74 s k) : mdQ C r74 s' k := by
  obtain ⟨h1, h2, h3⟩ := h
  exact ⟨(hs 3 (by omega)).trans h1, (hs 4 (by omega)).trans h2, fun m m1 m2 m3 => (hs m m1).trans (h3 m m1 m2 m3)⟩
theorem s11_st1 (F : Nat) (hF : 500 ≤ F) {K : Nat} {r71 r73 r74 : Nat → Int32} (hK : (r71 5).toInt = (K : Nat)) (hK4 : K ≤ 40) :
    sp (mj_it (mj_u2 (fun z0 z1 => bdX11_stands_10 F r71 r74 z0 z1)) F ((0 : Int32), r73)) (fun s => ∀ j, j < 12 * K → s j = r74 j) := by
  have e12 : (12 : Int32).toInt = 12 := rfl
  have hm : (12 * r71 5).toInt = ((12 * K : Nat) : Int) := by rw [i_mul (by rw [e12]; omega) (by rw [e12]; omega), hK, e12]; omega
  refine sp_cnt (fun s : Int32 × (Nat → Int32) => s.1) (12 * K) (by omega) (fun i s => ∀ j, j < i → s.2 j = r74 j) ?_ F 0 _ (by omega) rfl (fun j hj => absurd hj (by omega)) (by omega)
  rintro i ⟨x, s⟩ hi hx hcx hxs hJ
  refine sp_u2 ?_
  dsimp only at hx hcx hxs hJ
  unfold bdX11_stands_10
  refine sp_ite (fun hz => sp_some ?_) (fun hz => ?_)
  · have := i_le.mp hz
    have e : i = 12 * K := by omega
    subst e
    exact hJ
  · have hz' : ¬ (12 * r71 5).toInt ≤ x.toInt := fun z => hz (i_le.mpr z)
    have hib : mj_ib x 480 = true := mj_ib_of (by omega) (by omega)
    refine sp_pos hib (sp_pos hib (sp_some ⟨by omega, rfl, fun j hj => ?_⟩))
    show upd s x.toNatClampNeg (r74 x.toNatClampNeg) j = _
    rw [hcx]
    by_cases z : j = i
    · rw [z, upd_at]
    · rw [upd_ne z]
      exact hJ j (by omega)
theorem e_75 (F : Nat) {i : Nat} {x : Int32} {r71 s : Nat → Int32} (hi : i < 40) (hx : x.toInt = (i : Nat)) (h5 : 0 ≤ (r71 5).toInt) :
    jnX11_stands_75 F r71 x s = some (.inl (x + 1, (if s (12 * i + 4) = -3 then upd s (12 * i + 4) (r71 5) else if s (12 * i + 4) = -2 then upd s (12 * i + 4) (r71 5 + 1) else s))) := by
  have b4 := b_12 hx hi (show (4 : Int32).toInt = ((4 : Nat) : Int) from rfl) (by omega)
  have c4 := c_12 hx hi (show (4 : Int32).toInt = ((4 : Nat) : Int) from rfl) (by omega)
  have g4 : ∀ s : Nat → Int32, fnX11_of F s x 4 = some (s (12 * i + 4)) := fun s => g_of F s i 4 hx rfl (by omega)
  unfold jnX11_stands_75
  rw [g4, Option.bind_some, if_pos b4, c4]
  by_cases z : s (12 * i + 4) = -3
  · rw [if_pos z, if_pos z]
    unfold jnX11_stands_101
    rw [g4, Option.bind_some, upd_at, if_neg (fun w => by
      have e2 : (-2 : Int32).toInt = -2 := rfl
      rw [w, e2] at h5
      omega)]
  · rw [if_neg z, if_neg z]
    unfold jnX11_stands_101
    rw [g4, Option.bind_some, if_pos b4, c4]
    by_cases y : s (12 * i + 4) = -2
    · rw [if_pos y, if_pos y]
    · rw [if_neg y, if_neg y]
theorem s11_st2 (F : Nat) (hF : 500 ≤ F) {K : Nat} {r71 r74 t : Nat → Int32} (hK : (r71 5).toInt = (K : Nat)) (hK4 : K ≤ 40) (ht : ∀ j, j < 12 * K → t j = r74 j) :
    sp (mj_it (mj_u2 (fun z0 z1 => bdX11_stands_41 F r71 z0 z1)) F ((0 : Int32), t)) (fun s => ∀ k, k < K → mdQ (r71 5) r74 s k) := by
  refine sp_cnt (fun s : Int32 × (Nat → Int32) => s.1) K (by omega) (fun i s => (∀ k, k < i → mdQ (r71 5) r74 s.2 k) ∧ ∀ j, 12 * i ≤ j → j < 12 * K → s.2 j = r74 j) ?_ F 0 _ (by omega) rfl ⟨fun k hk => absurd hk (by omega), fun j _ hj => ht j hj⟩ (by omega)
  rintro i ⟨x, s⟩ hi hx hcx hxs ⟨j1, j2⟩
  refine sp_u2 ?_
  dsimp only at hx hcx hxs j1 j2
  unfold bdX11_stands_41
  refine sp_ite (fun hz => sp_some ?_) (fun hz => ?_)
  · have := i_le.mp hz
    have e : i = K := by omega
    subst e
    exact j1
  · have hz' : ¬ (r71 5).toInt ≤ x.toInt := fun z => hz (i_le.mpr z)
    have hi' : i < K := by omega
    have b3 := b_12 hx (show i < 40 by omega) (show (3 : Int32).toInt = ((3 : Nat) : Int) from rfl) (by omega)
    have c3 := c_12 hx (show i < 40 by omega) (show (3 : Int32).toInt = ((3 : Nat) : Int) from rfl) (by omega)
    have g3 : fnX11_of F s x 3 = some (s (12 * i + 3)) := g_of F s i 3 hx rfl (by omega)
    have d3 := j2 (12 * i + 3) (by omega) (by omega)
    have d4 := j2 (12 * i + 4) (by omega) (by omega)
    rw [g3, Option.bind_some, if_pos b3, c3]
    have key : ∀ s' : Nat → Int32, s' (12 * i + 3) = (if r74 (12 * i + 3) = -3 then r71 5 else r74 (12 * i + 3)) → (∀ j, j ≠ 12 * i + 3 → s' j = s j) →
        sp (jnX11_stands_75 F r71 x s') (Sum.elim (fun s' => i < K ∧ s'.1 = x + 1 ∧ (∀ k, k < i + 1 → mdQ (r71 5) r74 s'.2 k) ∧ ∀ j, 12 * (i + 1) ≤ j → j < 12 * K → s'.2 j = r74 j) (fun s => ∀ k, k < K → mdQ (r71 5) r74 s k)) := by
      intro s' h1 h2
      have f4 : s' (12 * i + 4) = r74 (12 * i + 4) := by rw [h2 _ (by omega), d4]
      rw [e_75 F (by omega) hx (by omega), f4]
      have fr : ∀ j, j ≠ 12 * i + 4 → (if r74 (12 * i + 4) = -3 then upd s' (12 * i + 4) (r71 5) else if r74 (12 * i + 4) = -2 then upd s' (12 * i + 4) (r71 5 + 1) else s') j = s' j := fun j hj => by
        split
        · exact upd_ne hj
        · split
          · exact upd_ne hj
          · rfl
      refine sp_some ⟨hi', rfl, fun k hk => ?_, fun j hj1 hj2 => ?_⟩
      · by_cases z : k = i
        · subst z
          refine ⟨(fr _ (by omega)).trans h1, ?_, fun m m1 m2 m3 => (fr _ (by omega)).trans ((h2 _ (by omega)).trans (j2 _ (by omega) (by omega)))⟩
          show (if r74 (12 * k + 4) = -3 then upd s' (12 * k + 4) (r71 5) else if r74 (12 * k + 4) = -2 then upd s' (12 * k + 4) (r71 5 + 1) else s') (12 * k + 4) = _
          by_cases y : r74 (12 * k + 4) = -3
          · rw [if_pos y, if_pos y, upd_at]
          · rw [if_neg y, if_neg y]
            by_cases w : r74 (12 * k + 4) = -2
            · rw [if_pos w, if_pos w, upd_at]
            · rw [if_neg w, if_neg w, f4]
        · exact mdQ_f (fun m m1 => (fr _ (by omega)).trans (h2 _ (by omega))) (j1 k (by omega))
      · exact (fr j (by omega)).trans ((h2 j (by omega)).trans (j2 j (by omega) hj2))
    by_cases z : s (12 * i + 3) = -3
    · rw [if_pos z]
      refine key _ ?_ (fun j hj => upd_ne hj)
      rw [upd_at, ← d3, if_pos z]
    · rw [if_neg z]
      refine key s ?_ (fun j _ => rfl)
      rw [← d3, if_neg z]
theorem s11_st3 (F : Nat) (hF : 500 ≤ F) {r75 : Nat → Int32} : sp (mj_it (mj_u2 (fun z0 z1 => bdX11_stands_137 F z0 z1)) F ((0 : Int32), r75)) (fun s => ∀ v, v < 6 → s v = 0) := by
  have e6 : (6 : Int32).toInt = 6 := rfl
  refine sp_cnt (fun s : Int32 × (Nat → Int32) => s.1) 6 (by omega) (fun i s => ∀ j, j < i → s.2 j = 0) ?_ F 0 _ (by omega) rfl (fun j hj => absurd hj (by omega)) (by omega)
  rintro i ⟨x, s⟩ hi hx hcx hxs hJ
  refine sp_u2 ?_
  dsimp only at hx hcx hxs hJ
  unfold bdX11_stands_137
  refine sp_ite (fun hz => sp_some (fun v hv => ?_)) (fun hz => ?_)
  · have := i_le.mp hz
    exact hJ v (by omega)
  · have hz' : ¬ (6 : Int32).toInt ≤ x.toInt := fun z => hz (i_le.mpr z)
    refine sp_pos (mj_ib_of (by omega) (by omega)) (sp_some ⟨by omega, rfl, fun j hj => ?_⟩)
    show upd s x.toNatClampNeg 0 j = 0
    rw [hcx]
    by_cases z : j = i
    · rw [z, upd_at]
    · rw [upd_ne z]
      exact hJ j (by omega)
theorem s11_stands (F : Nat) (hF : 500 ≤ F) {K : Nat} {r71 r73 r74 r75 : Nat → Int32} (hK : (r71 5).toInt = (K : Nat)) (hK4 : K ≤ 40) :
    sp (fnX11_stands F r71 r73 r74 r75) (fun o => o.1 = upd (upd (upd (upd r71 4 (r71 5)) 17 0) 20 0) 22 0 ∧ (∀ k, k < K → mdQ (r71 5) r74 o.2.1 k) ∧ ∀ v, v < 6 → o.2.2 v = 0) := by
  have h5 : upd r71 4 (r71 5) 5 = r71 5 := upd_ne (by omega)
  unfold fnX11_stands
  refine sp_bind (s11_st1 F hF (by rw [h5]; exact hK) hK4) ?_
  intro t ht
  refine sp_bind (s11_st2 F hF (by rw [h5]; exact hK) hK4 ht) ?_
  intro s hs
  refine sp_bind (s11_st3 F hF) ?_
  intro u hu
  rw [h5] at hs
  exact ⟨_, rfl, rfl, hs, hu⟩
