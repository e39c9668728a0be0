/-! ===== the text: link ===== -/
def lkB (c : Nat → Nat → Int32) (s : Nat → Int32) (k : Nat) : Prop := (¬ c 14 k = -1 → s k = c 14 k) ∧ (c 14 k = -1 → s k = (if c 13 k = -1 then c 4 0 else if c 5 (c 13 k).toInt.toNat = 4 then c 13 k else s (c 13 k).toInt.toNat))
theorem lkB_up {c : Nat → Nat → Int32} {s : Nat → Int32} {i k : Nat} {v : Int32} (h13 : c 13 k = -1 ∨ ∃ o : Nat, o < k ∧ (c 13 k).toInt = (o : Nat)) (hk : k < i) (h : lkB c s k) : lkB c (upd s i v) k := by
  obtain ⟨h1, h2⟩ := h
  refine ⟨fun z => by rw [upd_ne (by omega)]; exact h1 z, fun z => ?_⟩
  rw [upd_ne (by omega), h2 z]
  rcases h13 with w | ⟨o, o1, o2⟩
  · rw [if_pos w, if_pos w]
  · rw [o2, Int.toNat_natCast, upd_ne (show o ≠ i by omega)]
theorem s7_place (F : Nat) {c : Nat → Nat → Int32} {s : Nat → Int32} {i : Nat} {x : Int32} (hi : i < 40) (hx : x.toInt = (i : Nat)) (h13 : c 13 i = -1 ∨ ∃ o : Nat, o < i ∧ (c 13 i).toInt = (o : Nat)) (hs : s i = c 14 i) :
    fnX7_placeBehind_4 F (c 4) (c 5) (c 13) s x = some (if c 14 i = -1 then (if c 13 i = -1 then c 4 0 else if c 5 (c 13 i).toInt.toNat = 4 then c 13 i else s (c 13 i).toInt.toNat) else c 14 i) := by
  have hib : mj_ib x 40 = true := mj_ib_of (by omega) (by omega)
  have hcx : x.toNatClampNeg = i := by rw [i_cl, hx]; rfl
  unfold fnX7_placeBehind_4
  simp only [if_pos hib, hcx, hs]
  by_cases z : c 14 i = -1
  · rw [if_pos z, if_pos z]
    rcases h13 with w | ⟨o, o1, o2⟩
    · rw [if_pos w, if_pos w]
    · have ho : mj_ib (c 13 i) 40 = true := mj_ib_of (by omega) (by omega)
      rw [if_neg (i_m1 o2), if_neg (i_m1 o2), if_pos ho, if_pos ho, i_cl]
      by_cases y : c 5 (c 13 i).toInt.toNat = 4
      · rw [if_pos y, if_pos y]
      · rw [if_neg y, if_neg y]
  · rw [if_neg z, if_neg z]
theorem s7_l1 (F : Nat) (hF : 500 ≤ F) {K : Nat} {c : Nat → Nat → Int32} (hK : (c 4 0).toInt = (K : Nat)) (hK4 : K ≤ 40) (h13 : ∀ k, k < K → c 13 k = -1 ∨ ∃ o : Nat, o < k ∧ (c 13 k).toInt = (o : Nat)) :
    sp (mj_it (mj_u2 (fun z0 z1 => bdX7_link_4_2 F (c 4) (c 5) (c 13) z0 z1)) F ((0 : Int32), c 14)) (fun s => ∀ k, k < K → lkB c s k) := by
  refine sp_cnt (fun s : Int32 × (Nat → Int32) => s.1) K (by omega) (fun i s => (∀ k, k < i → lkB c s.2 k) ∧ ∀ k, i ≤ k → s.2 k = c 14 k) ?_ F 0 _ (by omega) rfl ⟨fun k hk => absurd hk (by omega), fun k _ => rfl⟩ (by omega)
  rintro i ⟨x, s⟩ hi hx hcx hxs ⟨j1, j2⟩
  refine sp_u2 ?_
  dsimp only at hx hcx hxs j1 j2
  unfold bdX7_link_4_2
  refine sp_ite (fun hz => sp_some ?_) (fun hz => ?_)
  · have := i_le.mp hz
    have e : i = K := by omega
    subst e
    exact j1
  · have hz' : ¬ (c 4 0).toInt ≤ x.toInt := fun z => hz (i_le.mpr z)
    have hi' : i < K := by omega
    have hib : mj_ib x 40 = true := mj_ib_of (by omega) (by omega)
    rw [s7_place F (c := c) (s := s) (by omega) hx (h13 i hi') (j2 i (Nat.le_refl i)), Option.bind_some, if_pos hib, hcx]
    refine sp_some ⟨hi', rfl, fun k hk => ?_, fun k hk => ?_⟩
    · show lkB c (upd s i _) k
      by_cases z : k = i
      · subst z
        refine ⟨fun y => by rw [upd_at, if_neg y], fun y => ?_⟩
        rw [upd_at, if_pos y]
        rcases h13 k hi' with w | ⟨o, o1, o2⟩
        · rw [if_pos w, if_pos w]
        · rw [o2, Int.toNat_natCast, upd_ne (show o ≠ k by omega)]
      · exact lkB_up (h13 k (by omega)) (by omega) (j1 k (by omega))
    · show upd s i _ k = _
      rw [upd_ne (by omega)]
      exact j2 k (by omega)
theorem e_94 (F : Nat) {i : Nat} {x x2 : Int32} {r4 r5 r14 r11 r12 : Nat → Int32} (hib : mj_ib x 40 = true) (hcx : x.toNatClampNeg = i) :
    jnX7_link_4_94 F r4 r5 r14 x x2 r11 r12 = some (.inl (x + 1, r11, (if x2 = 5 then upd r12 i (r4 0 + 1) else if r12 i = -1 ∧ (x2 = 2 ∨ x2 = 3 ∨ x2 = 4) then upd r12 i (r14 i) else r12))) := by
  unfold jnX7_link_4_94
  simp only [if_pos hib, hcx]
  by_cases a : x2 = 5
  · rw [if_pos a, if_pos a]
  · rw [if_neg a, if_neg a]
    by_cases b : r12 i = -1
    · rw [if_pos b]
      by_cases c2 : x2 = 2
      · rw [if_pos c2, if_pos ⟨b, .inl c2⟩]
      · rw [if_neg c2]
        by_cases c3 : x2 = 3
        · rw [if_pos c3, if_pos ⟨b, .inr (.inl c3)⟩]
        · rw [if_neg c3]
          by_cases c4 : x2 = 4
          · rw [if_pos c4, if_pos ⟨b, .inr (.inr c4)⟩]
          · rw [if_neg c4, if_neg (fun w => by rcases w.2 with e | e | e <;> contradiction)]
    · rw [if_neg b, if_neg (fun w => b w.1)]
theorem e_29 (F : Nat) {i : Nat} {x : Int32} {r4 r5 r14 r11 r12 : Nat → Int32} (hib : mj_ib x 40 = true) (hcx : x.toNatClampNeg = i) (hz : ¬ r4 0 ≤ x) :
    bdX7_link_4_29 F r4 r5 r14 x r11 r12 = jnX7_link_4_94 F r4 r5 r14 x (r5 i) (if r5 i = 6 then upd r11 i (r4 0) else if r11 i = -1 then upd r11 i (if r5 i = 4 then x else r14 i) else r11) r12 := by
  unfold bdX7_link_4_29 jnX7_link_4_93
  simp only [if_pos hib, hcx, if_neg hz]
  by_cases a : r5 i = 6
  · rw [if_pos a, if_pos a]
  · rw [if_neg a, if_neg a]
    by_cases b : r11 i = -1
    · rw [if_pos b, if_pos b]
      by_cases d : r5 i = 4
      · rw [if_pos d, if_pos d]
      · rw [if_neg d, if_neg d]
    · rw [if_neg b, if_neg b]
/-- near and far, as they are linked -/
def nfQ (c : Nat → Nat → Int32) (b r11 r12 : Nat → Int32) (k : Nat) : Prop :=
  (r11 k).toInt = (if c 5 k = 6 then (c 4 0).toInt else if c 11 k = -1 then (if c 5 k = 4 then (k : Int) else (b k).toInt) else (c 11 k).toInt) ∧
  (c 5 k = 5 → (r12 k).toInt = (c 4 0).toInt + 1) ∧ (c 5 k = 2 ∨ c 5 k = 3 ∨ c 5 k = 4 → (r12 k).toInt = (if c 12 k = -1 then (b k).toInt else (c 12 k).toInt)) ∧ (¬ c 5 k = 5 → ¬ (c 5 k = 2 ∨ c 5 k = 3 ∨ c 5 k = 4) → r12 k = c 12 k)
theorem nfQ_up {c : Nat → Nat → Int32} {b r11 r12 r11' r12' : Nat → Int32} {k : Nat} (h11 : r11' k = r11 k) (h12 : r12' k = r12 k) (h : nfQ c b r11 r12 k) : nfQ c b r11' r12' k := by
  unfold nfQ at *
  rw [h11, h12]
  exact h
theorem s7_l2 (F : Nat) (hF : 500 ≤ F) {K : Nat} {c : Nat → Nat → Int32} {b : Nat → Int32} (hK : (c 4 0).toInt = (K : Nat)) (hK4 : K ≤ 40) :
    sp (mj_it (mj_u2 (fun z0 => (mj_u2 (fun z1 z2 => bdX7_link_4_29 F (c 4) (c 5) b z0 z1 z2)))) F ((0 : Int32), c 11, c 12)) (fun s => ∀ k, k < K → nfQ c b s.1 s.2 k) := by
  have e1 : (1 : Int32).toInt = 1 := rfl
  refine sp_cnt (fun s : Int32 × (Nat → Int32) × (Nat → Int32) => s.1) K (by omega) (fun i s => (∀ k, k < i → nfQ c b s.2.1 s.2.2 k) ∧ ∀ k, i ≤ k → s.2.1 k = c 11 k ∧ s.2.2 k = c 12 k) ?_ F 0 _ (by omega) rfl ⟨fun k hk => absurd hk (by omega), fun k _ => ⟨rfl, rfl⟩⟩ (by omega)
  rintro i ⟨x, r11, r12⟩ hi hx hcx hxs ⟨j1, j2⟩
  refine sp_u2 (sp_u2 ?_)
  dsimp only at hx hcx hxs j1 j2
  by_cases hz : c 4 0 ≤ x
  · unfold bdX7_link_4_29
    rw [if_pos hz]
    have := i_le.mp hz
    have e : i = K := by omega
    subst e
    exact sp_some j1
  · have hz' : ¬ (c 4 0).toInt ≤ x.toInt := fun z => hz (i_le.mpr z)
    have hi' : i < K := by omega
    have hib : mj_ib x 40 = true := mj_ib_of (by omega) (by omega)
    obtain ⟨a11, a12⟩ := j2 i (Nat.le_refl i)
    rw [e_29 F hib hcx hz, e_94 F hib hcx]
    have f11 : ∀ k, k ≠ i → (if c 5 i = 6 then upd r11 i (c 4 0) else if r11 i = -1 then upd r11 i (if c 5 i = 4 then x else b i) else r11) k = r11 k := fun k hk => by
      split
      · exact upd_ne hk
      · split
        · exact upd_ne hk
        · rfl
    have f12 : ∀ k, k ≠ i → (if c 5 i = 5 then upd r12 i (c 4 0 + 1) else if r12 i = -1 ∧ (c 5 i = 2 ∨ c 5 i = 3 ∨ c 5 i = 4) then upd r12 i (b i) else r12) k = r12 k := fun k hk => by
      split
      · exact upd_ne hk
      · split
        · exact upd_ne hk
        · rfl
    refine sp_some ⟨hi', rfl, fun k hk => ?_, fun k hk => ?_⟩
    · by_cases z : k = i
      · subst z
        refine ⟨?_, fun w => ?_, fun w => ?_, fun w w2 => ?_⟩
        · show ((if c 5 k = 6 then upd r11 k (c 4 0) else if r11 k = -1 then upd r11 k (if c 5 k = 4 then x else b k) else r11) k).toInt = _
          by_cases a : c 5 k = 6
          · rw [if_pos a, if_pos a, upd_at]
          · rw [if_neg a, if_neg a, a11]
            by_cases d : c 11 k = -1
            · rw [if_pos d, if_pos d, upd_at]
              by_cases f : c 5 k = 4
              · rw [if_pos f, if_pos f]
                exact hx
              · rw [if_neg f, if_neg f]
            · rw [if_neg d, if_neg d, a11]
        · show ((if c 5 k = 5 then upd r12 k (c 4 0 + 1) else if r12 k = -1 ∧ (c 5 k = 2 ∨ c 5 k = 3 ∨ c 5 k = 4) then upd r12 k (b k) else r12) k).toInt = _
          rw [if_pos w, upd_at, i_add (by omega) (by omega), e1]
        · show ((if c 5 k = 5 then upd r12 k (c 4 0 + 1) else if r12 k = -1 ∧ (c 5 k = 2 ∨ c 5 k = 3 ∨ c 5 k = 4) then upd r12 k (b k) else r12) k).toInt = _
          have n5 : ¬ c 5 k = 5 := by rcases w with e | e | e <;> rw [e] <;> decide
          rw [if_neg n5]
          by_cases d : c 12 k = -1
          · rw [if_pos ⟨a12.trans d, w⟩, upd_at, if_pos d]
          · rw [if_neg (fun y => d (a12.symm.trans y.1)), if_neg d, a12]
        · show (if c 5 k = 5 then upd r12 k (c 4 0 + 1) else if r12 k = -1 ∧ (c 5 k = 2 ∨ c 5 k = 3 ∨ c 5 k = 4) then upd r12 k (b k) else r12) k = _
          rw [if_neg w, if_neg (fun y => w2 y.2), a12]
      · exact nfQ_up (f11 k z) (f12 k z) (j1 k (by omega))
    · exact ⟨(f11 k (by omega)).trans (j2 k (by omega)).1, (f12 k (by omega)).trans (j2 k (by omega)).2⟩
theorem s7_link (F : Nat) (hF : 500 ≤ F) {K : Nat} {c : Nat → Nat → Int32} (hK : (c 4 0).toInt = (K : Nat)) (hK4 : K ≤ 40) (h13 : ∀ k, k < K → c 13 k = -1 ∨ ∃ o : Nat, o < k ∧ (c 13 k).toInt = (o : Nat)) :
    sp (fnX7_link_4 F (c 4) (c 5) (c 11) (c 12) (c 13) (c 14)) (fun o => (∀ k, k < K → lkB c o.2.2 k) ∧ ∀ k, k < K → nfQ c o.2.2 o.1 o.2.1 k) := by
  unfold fnX7_link_4
  refine sp_bind (s7_l1 F hF hK hK4 h13) ?_
  intro b hb
  refine sp_bind (s7_l2 F hF (b := b) hK hK4) ?_
  rintro ⟨r11, r12⟩ hs
  exact sp_some ⟨hb, hs⟩
