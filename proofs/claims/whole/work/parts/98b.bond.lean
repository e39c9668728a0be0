/-! ===== the bond holds ===== -/
theorem iB_c {I I' : mj_IT} (h : iB_ I) (hr : ∀ a, (1 ≤ a ∧ a ≤ 3) ∨ (18 ≤ a ∧ a ≤ 31) ∨ a = 64 ∨ a = 73 ∨ a = 75 ∨ a = 76 ∨ a = 78 ∨ a = 79 ∨ a = 87 → I' a = I a) (h71 : ∀ k, k = 4 ∨ k = 9 ∨ k = 16 ∨ k = 17 → I' 71 k = I 71 k) (hf : rfQ I') : iB_ I' := by
  obtain ⟨_, b1, b2, b3, b4, b5, ⟨N, t1, t2, t3, t4⟩, ⟨M, c1, c2, c3, c4⟩, b8⟩ := h
  refine ⟨hf, ?_, ?_, ?_, ?_, ?_, ⟨N, t1, ?_, ?_, ?_⟩, ⟨M, c1, ?_, ?_, ?_⟩, ?_⟩
  · rw [hr 18 (by omega), hr 19 (by omega), hr 20 (by omega), hr 21 (by omega), hr 22 (by omega), hr 23 (by omega), hr 24 (by omega), hr 25 (by omega), hr 26 (by omega), hr 73 (by omega)]
    exact b1
  · rw [h71 4 (by omega), hr 18 (by omega)]
    exact b2
  · rw [hr 1 (by omega), hr 75 (by omega)]
    exact b3
  · rw [hr 1 (by omega), h71 16 (by omega)]
    exact b4
  · rw [hr 87 (by omega)]
    exact b5
  · rw [hr 2 (by omega)]
    exact t2
  · rw [h71 9 (by omega), hr 2 (by omega)]
    exact t3
  · rw [hr 3 (by omega), hr 76 (by omega)]
    exact t4
  · rw [hr 29 (by omega)]
    exact c2
  · rw [h71 17 (by omega), hr 29 (by omega)]
    exact c3
  · rw [hr 78 (by omega), hr 30 (by omega), hr 79 (by omega), hr 31 (by omega), hr 18 (by omega), hr 19 (by omega)]
    exact c4
  · unfold z64
    rw [hr 64 (by omega)]
    exact b8
theorem K_Q : kQ pb_Inv := by
  refine ⟨fun j I L I' L' _ hI hf hL hr => inv_q hI (fun a ha => hf.1 a (by omega) (by omega) (by omega)) (fun k hk => hf.2 k (by omega)) hL (iB_c hI.1 (fun a ha => hf.1 a (by omega) (by omega) (by omega)) (fun k hk => hf.2 k (by omega)) hr), fun j I L _ hI => ?_⟩
  obtain ⟨⟨a1, a2, a3, a4, a5, _⟩, _⟩ := hI
  exact ⟨a1, a2, a3, a4, a5⟩
theorem K_F : kF pb_Inv := by
  refine ⟨fun j I L _ hI => hI.1.2.2.2.2.2.2.1, fun j I L I' _ hI h1 h2 h3 h4 => inv_q hI (fun a ha => h1 a (by omega) (by omega) (by omega) (by omega)) (fun k hk => h3 k (by omega) (by omega)) (fun _ _ => rfl) ?_⟩
  obtain ⟨⟨a1, a2, a3, a4, a5, a6, a7, ⟨M, c1, c2, c3, c4⟩, a9⟩, _⟩ := hI
  have hr : ∀ a, a = 1 ∨ (18 ≤ a ∧ a ≤ 31) ∨ a = 64 ∨ a = 70 ∨ a = 72 ∨ a = 73 ∨ a = 75 ∨ a = 78 ∨ a = 79 ∨ a = 87 → I' a = I a := fun a ha => h1 a (by omega) (by omega) (by omega) (by omega)
  refine ⟨?_, ?_, ?_, ?_, ?_, ?_, h4, ⟨M, c1, ?_, ?_, ?_⟩, ?_⟩
  · unfold rfQ
    rw [hr 70 (by omega), hr 72 (by omega)]
    exact a1
  · rw [hr 18 (by omega), hr 19 (by omega), hr 20 (by omega), hr 21 (by omega), hr 22 (by omega), hr 23 (by omega), hr 24 (by omega), hr 25 (by omega), hr 26 (by omega), hr 73 (by omega)]
    exact a2
  · rw [h3 4 (by omega) (by omega), hr 18 (by omega)]
    exact a3
  · rw [hr 1 (by omega), hr 75 (by omega)]
    exact a4
  · rw [hr 1 (by omega), h3 16 (by omega) (by omega)]
    exact a5
  · rw [hr 87 (by omega)]
    exact a6
  · rw [hr 29 (by omega)]
    exact c2
  · rw [h3 17 (by omega) (by omega), hr 29 (by omega)]
    exact c3
  · rw [hr 78 (by omega), hr 30 (by omega), hr 79 (by omega), hr 31 (by omega), hr 18 (by omega), hr 19 (by omega)]
    exact c4
  · unfold z64
    rw [hr 64 (by omega)]
    exact a9
theorem K_C : kC pb_Inv := by
  refine ⟨K_Q, fun j I L _ hI => hI.1.2.2.2.2.2.2.2.1, fun j I L I' L' _ hI hf hL hr => ?_⟩
  obtain ⟨fr, f1, f32, f321, f20, f22, f71, fpk, fvq, fch⟩ := hf
  refine inv_n hI f321 (f32 0 (by omega)) f20 f22 (fr 41 (by omega) (by omega) (by omega) (by omega) (by omega) (by omega) (by omega)) (fr 51 (by omega) (by omega) (by omega) (by omega) (by omega) (by omega) (by omega)) (fr 56 (by omega) (by omega) (by omega) (by omega) (by omega) (by omega) (by omega)) (fr 65 (by omega) (by omega) (by omega) (by omega) (by omega) (by omega) (by omega)) (hL 97 (by omega)) ?_
  obtain ⟨⟨a1, a2, a3, a4, a5, a6, ⟨N, t1, t2, t3, t4⟩, a8, a9⟩, _⟩ := hI
  have h : ∀ a, a = 2 ∨ a = 3 ∨ a = 18 ∨ a = 64 ∨ a = 76 ∨ a = 87 → I' a = I a := fun a ha => fr a (by omega) (by omega) (by omega) (by omega) (by omega) (by omega) (by omega)
  refine ⟨hr, fpk, ?_, fvq, ?_, ?_, ⟨N, t1, ?_, ?_, ?_⟩, fch, ?_⟩
  · rw [f71 4 (by omega) (by omega) (by omega) (by omega), h 18 (by omega)]
    exact a3
  · rw [f1 1 (by omega), f71 16 (by omega) (by omega) (by omega) (by omega)]
    exact a5
  · rw [h 87 (by omega)]
    exact a6
  · rw [h 2 (by omega)]
    exact t2
  · rw [f71 9 (by omega) (by omega) (by omega) (by omega), h 2 (by omega)]
    exact t3
  · rw [h 3 (by omega), h 76 (by omega)]
    exact t4
  · unfold z64
    rw [h 64 (by omega)]
    exact a9
theorem vQ_0 {r : Nat → Int32} (h : ∀ v, v < 6 → r v = 0) : vQ 0 r := by
  refine ⟨⟨by decide, by decide⟩, fun v hv => ?_⟩
  rw [h v hv]
  have h0 : v = 0 ∨ v = 1 ∨ v = 2 ∨ v = 3 ∨ v = 4 ∨ v = 5 := by omega
  rcases h0 with e | e | e | e | e | e <;> rw [e] <;> decide
theorem K_T : kT pb_Inv := by
  refine ⟨K_Q, fun j I L hI => hI.1.2.2.2.2.2.2.1, fun j I L I' L' _ hI hf hL hr => ?_, fun j I L I' L' _ hI hf hL hr => ?_⟩
  · obtain ⟨fr, f11, f20, f719, f1, f13, f32, f321, f7120, f7122, f7117, f29, f714, fpk, f75, f71⟩ := hf
    refine inv_n hI f321 (f32 0 (by omega)) f7120 f7122 (fr 41 (by omega) (by omega) (by omega) (by omega) (by omega) (by omega)) (fr 51 (by omega) (by omega) (by omega) (by omega) (by omega) (by omega)) (fr 56 (by omega) (by omega) (by omega) (by omega) (by omega) (by omega)) (fr 65 (by omega) (by omega) (by omega) (by omega) (by omega) (by omega)) (hL 97 (by omega)) ?_
    obtain ⟨⟨a1, a2, a3, a4, a5, a6, a7, a8, a9⟩, _⟩ := hI
    refine ⟨hr, fpk, f714, ?_, f11, ?_, ⟨0, by omega, by rw [f20]; rfl, by rw [f719, f20], fun k hk => absurd hk (by omega)⟩, ⟨0, by omega, by rw [f29]; rfl, by rw [f7117, f29], fun k hk => absurd hk (by omega)⟩, ?_⟩
    · rw [f13]
      exact vQ_0 f75
    · rw [fr 87 (by omega) (by omega) (by omega) (by omega) (by omega) (by omega)]
      exact a6
    · unfold z64
      rw [fr 64 (by omega) (by omega) (by omega) (by omega) (by omega) (by omega)]
      exact a9
  · obtain ⟨fr, f11, f20, f719, f1, f71⟩ := hf
    have h : ∀ a, (18 ≤ a ∧ a ≤ 69) ∨ a = 73 ∨ a = 75 ∨ a = 76 ∨ a = 78 ∨ a = 79 ∨ (80 ≤ a ∧ a ≤ 87) → I' a = I a := fun a ha => fr a (by omega) (by omega) (by omega) (by omega) (by omega) (by omega)
    refine inv_q hI (fun a ha => h a (by omega)) (fun k hk => f71 k (by omega) (by omega) (by omega)) hL ?_
    obtain ⟨⟨a1, a2, a3, a4, a5, a6, a7, ⟨M, c1, c2, c3, c4⟩, a9⟩, _⟩ := hI
    refine ⟨hr, ?_, ?_, ?_, f11, ?_, ⟨0, by omega, by rw [f20]; rfl, by rw [f719, f20], fun k hk => absurd hk (by omega)⟩, ⟨M, c1, ?_, ?_, ?_⟩, ?_⟩
    · rw [h 18 (by omega), h 19 (by omega), h 20 (by omega), h 21 (by omega), h 22 (by omega), h 23 (by omega), h 24 (by omega), h 25 (by omega), h 26 (by omega), h 73 (by omega)]
      exact a2
    · rw [f71 4 (by omega) (by omega) (by omega), h 18 (by omega)]
      exact a3
    · rw [f1 3 (by omega), h 75 (by omega)]
      exact a4
    · rw [h 87 (by omega)]
      exact a6
    · rw [h 29 (by omega)]
      exact c2
    · rw [f71 17 (by omega) (by omega) (by omega), h 29 (by omega)]
      exact c3
    · rw [h 78 (by omega), h 30 (by omega), h 79 (by omega), h 31 (by omega), h 18 (by omega), h 19 (by omega)]
      exact c4
    · unfold z64
      rw [h 64 (by omega)]
      exact a9
theorem rG_rows {I I' : mj_IT} (h : rG I' = rG I) : ∀ a, 32 ≤ a ∧ a ≤ 40 → I' a = I a := by
  intro a ha
  have h0 : a = 32 ∨ a = 33 ∨ a = 34 ∨ a = 35 ∨ a = 36 ∨ a = 37 ∨ a = 38 ∨ a = 39 ∨ a = 40 := by omega
  rcases h0 with e | e | e | e | e | e | e | e | e <;> subst e
  · exact congrArg (fun t : T9 => t.1) h
  · exact congrArg (fun t : T9 => t.2.1) h
  · exact congrArg (fun t : T9 => t.2.2.1) h
  · exact congrArg (fun t : T9 => t.2.2.2.1) h
  · exact congrArg (fun t : T9 => t.2.2.2.2.1) h
  · exact congrArg (fun t : T9 => t.2.2.2.2.2.1) h
  · exact congrArg (fun t : T9 => t.2.2.2.2.2.2.1) h
  · exact congrArg (fun t : T9 => t.2.2.2.2.2.2.2.1) h
  · exact congrArg (fun t : T9 => t.2.2.2.2.2.2.2.2) h
theorem rL_rows {I I' : mj_IT} {f : Nat → Int32} (h : rL I' f = rL I f) : ∀ a, 80 ≤ a ∧ a ≤ 86 → I' a = I a := by
  intro a ha
  have h0 : a = 80 ∨ a = 81 ∨ a = 82 ∨ a = 83 ∨ a = 84 ∨ a = 85 ∨ a = 86 := by omega
  rcases h0 with e | e | e | e | e | e | e <;> subst e
  · exact congrArg (fun t : T8 => t.2.1) h
  · exact congrArg (fun t : T8 => t.2.2.1) h
  · exact congrArg (fun t : T8 => t.2.2.2.1) h
  · exact congrArg (fun t : T8 => t.2.2.2.2.1) h
  · exact congrArg (fun t : T8 => t.2.2.2.2.2.1) h
  · exact congrArg (fun t : T8 => t.2.2.2.2.2.2.1) h
  · exact congrArg (fun t : T8 => t.2.2.2.2.2.2.2) h
theorem K_G : kG pb_F pb_Inv := by
  refine ⟨K_Q, fun j I L I' L' hj hI hf hL hr => ?_, fun j I L _ hI => ?_⟩
  · obtain ⟨fr, f71, fq, fc⟩ := hf
    have hb : iB_ I' := iB_c hI.1 (fun a ha => fr a (by omega) (by omega) (by omega)) (fun k hk => f71 k (by omega) (by omega) (by omega) (by omega) (by omega) (by omega)) hr
    obtain ⟨b, g, o, ⟨c1, c2, c3, c4⟩, ⟨s1, s2, s3⟩, ⟨v1, v2, v3, v4, v5⟩⟩ := hI
    have o' : odQ (L' 97) := by rw [hL 97 (by omega)]; exact o
    have h : ∀ a, (18 ≤ a ∧ a ≤ 21) ∨ (41 ≤ a ∧ a ≤ 69) → I' a = I a := fun a ha => fr a (by omega) (by omega) (by omega)
    have h22 : I' 71 22 = I 71 22 := f71 22 (by omega) (by omega) (by omega) (by omega) (by omega) (by omega)
    rcases fc with ⟨z, eG, eL, e71⟩ | ⟨z, z1, z0⟩ | ⟨z, eG⟩
    · have r32 := rG_rows eG
      have r80 := rL_rows (eL (I 71))
      have hs : sG_ I I' := ⟨fun a ha => by
        rcases ha with e | e | e
        · exact h a (by omega)
        · exact r32 a e
        · exact r80 a e, fun k hk => e71 k (by omega)⟩
      refine ⟨hb, fq, o', ⟨spI_c hs (h 51 (by omega)) (h 52 (by omega)) (h 54 (by omega)) c1, eI_c (r32 32 (by omega)) (r32 33 (by omega)) (h 41 (by omega)) (h 42 (by omega)) (e71 23 (by omega)) (hL 90 (by omega)) c2, liI_c hs (h 19 (by omega)) (h 21 (by omega)) (h 65 (by omega)) (h 66 (by omega)) (hL 65 (by omega)) c3, luI_c hs (h 56 (by omega)) (h 57 (by omega)) (h 58 (by omega)) c4⟩, ?_, ?_⟩
      · unfold iS_
        rw [h22, r32 32 (by omega), h 41 (by omega)]
        exact ⟨s1, s2, s3⟩
      · unfold iV_
        rw [r32 32 (by omega), h 51 (by omega), h 41 (by omega), h 65 (by omega), h 56 (by omega)]
        exact ⟨by omega, v2, v3, v4, v5⟩
    · have e1 : (1 : Int32).toInt = 1 := rfl
      have lo := i_lo (I 32 0)
      have hV : (I' 32 0).toInt = (I 32 0).toInt + 1 := by rw [z0, i_add (by omega) (by omega), e1]
      have n51 : ¬ I' 51 0 = I' 32 0 := by rw [h 51 (by omega), z0]; exact i_suc v1 hj v2
      have n41 : ¬ I' 41 4 = I' 32 0 := by rw [h 41 (by omega), z0]; exact i_suc v1 hj v3
      have n65 : ¬ I' 65 0 = I' 32 0 := by rw [h 65 (by omega), z0]; exact i_suc v1 hj v4
      have n56 : ∀ v, v < 6 → ¬ I' 56 v = I' 32 0 := fun v hv => by rw [h 56 (by omega), z0]; exact i_suc v1 hj (v5 v hv)
      have q22 : I' 71 22 = 0 := h22.trans (s3 z)
      refine ⟨hb, fq, o', ⟨fun _ y => absurd y n51, fun _ y => absurd y n41, fun _ y => absurd y n65, fun _ v hv y => absurd y (n56 v hv)⟩, ⟨.inl q22, fun _ => ⟨fun y => absurd y n41, fun y => by rw [q22] at y; exact absurd y (by decide)⟩, fun y => q22⟩, ?_⟩
      unfold iV_
      rw [hV, h 51 (by omega), h 41 (by omega), h 65 (by omega), h 56 (by omega)]
      exact ⟨by omega, by omega, by omega, by omega, fun v hv => by have := v5 v hv; omega⟩
    · have r32 := rG_rows eG 32 (by omega)
      have z' : I' 32 1 = 0 := by rw [r32]; exact z
      have n1 : ¬ I' 32 1 = 1 := by rw [z']; decide
      refine ⟨hb, fq, o', ⟨fun y => absurd y n1, fun y => absurd y n1, fun y => absurd y n1, fun y => absurd y n1⟩, ⟨by rw [h22]; exact s1, fun y => absurd y n1, fun _ => h22.trans (s3 z)⟩, ?_⟩
      unfold iV_
      rw [r32, h 51 (by omega), h 41 (by omega), h 65 (by omega), h 56 (by omega)]
      exact ⟨by omega, v2, v3, v4, v5⟩
  · obtain ⟨⟨a1, a2, a3, a4, a5, a6, ⟨N, t1, t2, t3, t4⟩, ⟨M, c1, c2, c3, c4⟩, a9⟩, g, _⟩ := hI
    exact ⟨g, a6, t3.symm, c3.symm⟩
theorem K_W : kW pb_F pb_Inv := by
  refine ⟨K_G, fun j I L I' L' hI hr h51 hs hL => ?_, fun j I L hj hI => ?_⟩
  · obtain ⟨b, g, o, ⟨c1, c2, c3, c4⟩, s, ⟨v1, v2, v3, v4, v5⟩⟩ := hI
    have h : ∀ a, (1 ≤ a ∧ a ≤ 50) ∨ 55 ≤ a → I' a = I a := fun a ha => hr a (by omega)
    have e71 := h 71 (by omega)
    have hG : sG_ I I' := ⟨fun a ha => h a (by omega), fun k _ => by rw [e71]⟩
    refine ⟨iB_c b (fun a ha => h a (by omega)) (fun k _ => by rw [e71]) (by unfold rfQ; rw [h 70 (by omega), h 72 (by omega)]; exact b.1), gQ_c hG (h 73 (by omega)) (h 75 (by omega)) (h 87 (by omega)) (by rw [e71]) g, by rw [hL 97 (by omega) (by omega)]; exact o, ⟨hs, eI_c (h 32 (by omega)) (h 33 (by omega)) (h 41 (by omega)) (h 42 (by omega)) (by rw [e71]) (hL 90 (by omega) (by omega)) c2, liI_c hG (h 19 (by omega)) (h 21 (by omega)) (h 65 (by omega)) (h 66 (by omega)) (hL 65 (by omega) (by omega)) c3, luI_c hG (h 56 (by omega)) (h 57 (by omega)) (h 58 (by omega)) c4⟩, ?_, ?_⟩
    · unfold iS_ at s ⊢
      rw [e71, h 32 (by omega), h 41 (by omega)]
      exact s
    · unfold iV_
      rw [h51, h 32 (by omega), h 41 (by omega), h 65 (by omega), h 56 (by omega)]
      exact ⟨v1, Int.le_refl _, v3, v4, v5⟩
  · obtain ⟨b, g, o, ⟨c1, c2, c3, c4⟩, s, ⟨v1, v2, v3, v4, v5⟩⟩ := hI
    exact ⟨o, c1, fun _ => i_suc v1 hj v2⟩
theorem K_E : kE pb_F pb_Inv := by
  refine ⟨K_G, fun j I L I' L' hI hr h71 h1 h41 h22 he hL => ?_, fun j I L hj hI => ?_⟩
  · obtain ⟨b, g, o, ⟨c1, c2, c3, c4⟩, s, ⟨v1, v2, v3, v4, v5⟩⟩ := hI
    have h : ∀ a, (1 ≤ a ∧ a ≤ 40) ∨ (51 ≤ a ∧ a ≤ 70) ∨ (72 ≤ a ∧ a ≤ 87) → I' a = I a := fun a ha => hr a (by omega) (by omega) (by omega)
    have hG : sG_ I I' := ⟨fun a ha => h a (by omega), fun k hk => h71 k (by omega) (by omega) (by omega)⟩
    have z : I' 32 1 = 1 := by rw [h 32 (by omega)]; exact h1
    refine ⟨iB_c b (fun a ha => h a (by omega)) (fun k hk => h71 k (by omega) (by omega) (by omega)) (by unfold rfQ; rw [h 70 (by omega), h 72 (by omega)]; exact b.1), gQ_c hG (h 73 (by omega)) (h 75 (by omega)) (h 87 (by omega)) (h71 20 (by omega) (by omega) (by omega)) g, by rw [hL 97 (by omega) (by omega)]; exact o, ⟨spI_c hG (h 51 (by omega)) (h 52 (by omega)) (h 54 (by omega)) c1, he, liI_c hG (h 19 (by omega)) (h 21 (by omega)) (h 65 (by omega)) (h 66 (by omega)) (hL 65 (by omega) (by omega)) c3, luI_c hG (h 56 (by omega)) (h 57 (by omega)) (h 58 (by omega)) c4⟩, ⟨.inr h22, fun _ => ⟨fun _ => h22, fun _ => h41⟩, fun y => by rw [z] at y; exact absurd y (by decide)⟩, ?_⟩
    unfold iV_
    rw [h41, h 32 (by omega), h 51 (by omega), h 65 (by omega), h 56 (by omega)]
    exact ⟨v1, v2, Int.le_refl _, v4, v5⟩
  · obtain ⟨b, g, o, ⟨c1, c2, c3, c4⟩, ⟨s1, s2, s3⟩, ⟨v1, v2, v3, v4, v5⟩⟩ := hI
    exact ⟨o, c2, s1, s2, fun z => ⟨s3 z, i_suc v1 hj v3⟩⟩
theorem K_L : kL pb_F pb_Inv := by
  refine ⟨K_G, fun j I L I' L' hI hr h1 h65 he hL => ?_, fun j I L hj hI => ?_⟩
  · obtain ⟨b, g, o, ⟨c1, c2, c3, c4⟩, s, ⟨v1, v2, v3, v4, v5⟩⟩ := hI
    have h : ∀ a, (1 ≤ a ∧ a ≤ 64) ∨ (70 ≤ a ∧ a ≤ 87) → I' a = I a := fun a ha => hr a (by omega)
    have e71 := h 71 (by omega)
    have hG : sG_ I I' := ⟨fun a ha => h a (by omega), fun k _ => by rw [e71]⟩
    refine ⟨iB_c b (fun a ha => h a (by omega)) (fun k _ => by rw [e71]) (by unfold rfQ; rw [h 70 (by omega), h 72 (by omega)]; exact b.1), gQ_c hG (h 73 (by omega)) (h 75 (by omega)) (h 87 (by omega)) (by rw [e71]) g, by rw [hL 97 (by omega) (by omega) (by omega)]; exact o, ⟨spI_c hG (h 51 (by omega)) (h 52 (by omega)) (h 54 (by omega)) c1, eI_c (h 32 (by omega)) (h 33 (by omega)) (h 41 (by omega)) (h 42 (by omega)) (by rw [e71]) (hL 90 (by omega) (by omega) (by omega)) c2, he, luI_c hG (h 56 (by omega)) (h 57 (by omega)) (h 58 (by omega)) c4⟩, ?_, ?_⟩
    · unfold iS_ at s ⊢
      rw [e71, h 32 (by omega), h 41 (by omega)]
      exact s
    · unfold iV_
      rw [h65, h 32 (by omega), h 41 (by omega), h 51 (by omega), h 56 (by omega)]
      exact ⟨v1, v2, v3, Int.le_refl _, v5⟩
  · obtain ⟨b, g, o, ⟨c1, c2, c3, c4⟩, s, ⟨v1, v2, v3, v4, v5⟩⟩ := hI
    exact ⟨c3, fun _ => i_suc v1 hj v4⟩
theorem K_U : kU pb_F pb_Inv := by
  refine ⟨K_G, fun j I L I' hI hr h1 h56 he hz => ?_, fun j I L hj hI => ?_⟩
  · obtain ⟨⟨a1, a2, a3, a4, a5, a6, ⟨N, t1, t2, t3, t4⟩, ⟨M, m1, m2, m3, m4⟩, a9⟩, g, o, ⟨c1, c2, c3, c4⟩, s, ⟨v1, v2, v3, v4, v5⟩⟩ := hI
    have h : ∀ a, (1 ≤ a ∧ a ≤ 55) ∨ (65 ≤ a ∧ a ≤ 92) → I' a = I a := fun a ha => hr a (by omega) (by omega)
    have e71 := h 71 (by omega)
    have hG : sG_ I I' := ⟨fun a ha => h a (by omega), fun k _ => by rw [e71]⟩
    refine ⟨⟨by unfold rfQ; rw [h 70 (by omega), h 72 (by omega)]; exact a1, ?_, ?_, ?_, ?_, ?_, ⟨N, t1, ?_, ?_, ?_⟩, ⟨M, m1, ?_, ?_, ?_⟩, hz⟩, gQ_c hG (h 73 (by omega)) (h 75 (by omega)) (h 87 (by omega)) (by rw [e71]) g, o, ⟨spI_c hG (h 51 (by omega)) (h 52 (by omega)) (h 54 (by omega)) c1, eI_c (h 32 (by omega)) (h 33 (by omega)) (h 41 (by omega)) (h 42 (by omega)) (by rw [e71]) rfl c2, liI_c hG (h 19 (by omega)) (h 21 (by omega)) (h 65 (by omega)) (h 66 (by omega)) rfl c3, he⟩, ?_, ?_⟩
    · rw [h 18 (by omega), h 19 (by omega), h 20 (by omega), h 21 (by omega), h 22 (by omega), h 23 (by omega), h 24 (by omega), h 25 (by omega), h 26 (by omega), h 73 (by omega)]
      exact a2
    · rw [e71, h 18 (by omega)]
      exact a3
    · rw [h 1 (by omega), h 75 (by omega)]
      exact a4
    · rw [h 1 (by omega), e71]
      exact a5
    · rw [h 87 (by omega)]
      exact a6
    · rw [h 2 (by omega)]
      exact t2
    · rw [e71, h 2 (by omega)]
      exact t3
    · rw [h 3 (by omega), h 76 (by omega)]
      exact t4
    · rw [h 29 (by omega)]
      exact m2
    · rw [e71, h 29 (by omega)]
      exact m3
    · rw [h 78 (by omega), h 30 (by omega), h 79 (by omega), h 31 (by omega), h 18 (by omega), h 19 (by omega)]
      exact m4
    · unfold iS_ at s ⊢
      rw [e71, h 32 (by omega), h 41 (by omega)]
      exact s
    · unfold iV_
      rw [h 32 (by omega), h 41 (by omega), h 51 (by omega), h 65 (by omega)]
      refine ⟨v1, v2, v3, v4, fun v hv => ?_⟩
      rcases h56 v hv with w | w
      · rw [w]
        exact v5 v hv
      · rw [w]
        exact Int.le_refl _
  · obtain ⟨⟨_, _, _, _, _, _, _, _, a9⟩, g, o, ⟨c1, c2, c3, c4⟩, s, ⟨v1, v2, v3, v4, v5⟩⟩ := hI
    exact ⟨c4, a9, fun _ v hv => i_suc v1 hj (v5 v hv)⟩
