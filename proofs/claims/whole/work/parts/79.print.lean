/-! ===== print ===== -/
def pv (r33 r34 : Nat → Int32) : Nat → Int64
  | 0 => 0
  | i + 1 => 31 * (31 * pv r33 r34 i + (r33 i).toInt64) + (r34 i).toInt64
theorem pv_congr {r33 r34 r80 r81 : Nat → Int32} : ∀ n, (∀ s, s < n → r80 s = r33 s ∧ r81 s = r34 s) → pv r80 r81 n = pv r33 r34 n := by
  intro n
  induction n with
  | zero => intro _; rfl
  | succ n ih =>
    intro h
    show 31 * (31 * pv r80 r81 n + (r80 n).toInt64) + (r81 n).toInt64 = 31 * (31 * pv r33 r34 n + (r33 n).toInt64) + (r34 n).toInt64
    rw [ih (fun s hs => h s (by omega)), (h n (by omega)).1, (h n (by omega)).2]
theorem s10_print (F : Nat) (hF : 600 ≤ F) {n : Nat} (hn : n ≤ 200) {r32 r33 r34 : Nat → Int32} (h2 : (r32 2).toInt = (n : Nat)) (h6 : r32 6 = 0) : sp (mj_it (mj_u2 (fun z0 z1 => bdX10_print_19 F r32 r33 r34 z0 z1)) F ((0 : Int64), (0 : Int32))) (fun e => e = pv r33 r34 n) := by
  have e0 : (0 : Int32).toInt = 0 := rfl
  refine sp_cnt (fun s : Int64 × Int32 => s.2) n (by omega) (fun i s => s.1 = pv r33 r34 i) ?_ F 0 _ (by omega) e0 rfl (by omega)
  rintro i ⟨s, z⟩ hi hx hcx hxs hJ
  refine sp_u2 ?_
  dsimp only at hx hcx hxs hJ
  unfold bdX10_print_19
  refine sp_ite (fun hw => sp_some ?_) (fun hw2 => ?_)
  · have := i_le.mp hw
    have : i = n := by omega
    subst this
    exact hJ
  · have hw3 : ¬ (r32 2).toInt ≤ z.toInt := fun q => hw2 (i_le.mpr q)
    have hin : i < n := by omega
    have hib : mj_ib z 200 = true := mj_ib_of (by omega) (by omega)
    refine sp_pos h6 (sp_pos hib (sp_pos hib (sp_some ⟨hin, rfl, ?_⟩)))
    dsimp only
    rw [hcx, hJ]
    rfl
theorem s10_print0 (F : Nat) (hF : 600 ≤ F) {r32 r33 r34 : Nat → Int32} (h6 : ¬ r32 6 = 0) : mj_it (mj_u2 (fun z0 z1 => bdX10_print_19 F r32 r33 r34 z0 z1)) F ((0 : Int64), (0 : Int32)) = some 0 := by
  refine sp_eq (sp_it (J := fun s : Int64 × Int32 => s.1 = 0) (fun _ => 0) ?_ F _ rfl (by omega))
  rintro ⟨x, y⟩ h1
  refine sp_u2 ?_
  dsimp only at h1
  unfold bdX10_print_19
  exact sp_ite (fun _ => sp_some h1) (fun _ => sp_neg h6 (sp_some h1))
theorem s11_print (F : Nat) (hF : 600 ≤ F) {n : Nat} (hn : n ≤ 200) {r71 r80 r81 : Nat → Int32} (h2 : (r71 24).toInt = (n : Nat)) (h6 : r71 21 = 0) : sp (mj_it (mj_u2 (fun z0 z1 => bdX11_print_13 F r71 r80 r81 z0 z1)) F ((0 : Int64), (0 : Int32))) (fun e => e = pv r80 r81 n) := by
  have e0 : (0 : Int32).toInt = 0 := rfl
  refine sp_cnt (fun s : Int64 × Int32 => s.2) n (by omega) (fun i s => s.1 = pv r80 r81 i) ?_ F 0 _ (by omega) e0 rfl (by omega)
  rintro i ⟨s, z⟩ hi hx hcx hxs hJ
  refine sp_u2 ?_
  dsimp only at hx hcx hxs hJ
  unfold bdX11_print_13
  refine sp_ite (fun hw => sp_some ?_) (fun hw2 => ?_)
  · have := i_le.mp hw
    have : i = n := by omega
    subst this
    exact hJ
  · have hw3 : ¬ (r71 24).toInt ≤ z.toInt := fun q => hw2 (i_le.mpr q)
    have hin : i < n := by omega
    have hib : mj_ib z 200 = true := mj_ib_of (by omega) (by omega)
    refine sp_pos h6 (sp_pos hib (sp_pos hib (sp_some ⟨hin, rfl, ?_⟩)))
    dsimp only
    rw [hcx, hJ]
    rfl
theorem s11_print0 (F : Nat) (hF : 600 ≤ F) {r71 r80 r81 : Nat → Int32} (h6 : ¬ r71 21 = 0) : mj_it (mj_u2 (fun z0 z1 => bdX11_print_13 F r71 r80 r81 z0 z1)) F ((0 : Int64), (0 : Int32)) = some 0 := by
  refine sp_eq (sp_it (J := fun s : Int64 × Int32 => s.1 = 0) (fun _ => 0) ?_ F _ rfl (by omega))
  rintro ⟨x, y⟩ h1
  refine sp_u2 ?_
  dsimp only at h1
  unfold bdX11_print_13
  exact sp_ite (fun _ => sp_some h1) (fun _ => sp_neg h6 (sp_some h1))
theorem b_print (F : Nat) (hF : 50000 ≤ F) {Inv : Nat → mj_IT → mj_LT → Prop} (hK : kG F Inv) : pb_print F Inv := by
  intro j hj I L hI
  obtain ⟨hr, hp, h4, hv, hf⟩ := hK.1.2 j I L hj hI
  obtain ⟨hQ, ht, h9, h17⟩ := hK.2.2 j I L hj hI
  obtain ⟨a, b, hl, ha, hb, b0, hd⟩ := q_few (gQ_go F (by omega) hp h4 ht hv hQ)
  have key : ∃ v, mj_it (mj_u2 (fun z0 z1 => bdX10_print_19 F a.1 a.2.1 a.2.2.1 z0 z1)) F ((0 : Int64), (0 : Int32)) = some v ∧ mj_it (mj_u2 (fun z0 z1 => bdX11_print_13 F b.1 b.2.1 b.2.2.1 z0 z1)) F ((0 : Int64), (0 : Int32)) = some v := by
    rcases hd with ⟨⟨n, fr, na, tg, sh, hG⟩, m1, m2, -, -⟩ | ⟨m1, m2, -, -⟩
    · obtain ⟨⟨g1, g2, g3, g4⟩, -, g6, -⟩ := hG
      refine ⟨pv a.2.1 a.2.2.1 n, sp_eq (s10_print F (by omega) g2 g3 m1), ?_⟩
      rw [← pv_congr n (fun s hs => ⟨(g6 s hs).1, (g6 s hs).2.1⟩)]
      exact sp_eq (s11_print F (by omega) g2 g4 m2)
    · exact ⟨0, s10_print0 F (by omega) (by rw [m1]; decide), s11_print0 F (by omega) (by rw [m2]; decide)⟩
  obtain ⟨v, k1, k2⟩ := key
  unfold exG at ha
  unfold lyG rL at hb
  have q1 : fnX10_print F (I 1) (I 18) (I 19) (I 20) (I 21) (I 22) (I 23) (I 24) (I 25) (I 26) (I 32) (I 33) (I 34) (I 35) (I 36) (I 37) (I 38) (I 39) (I 40) = some (v, a.1, a.2.1, a.2.2.1, a.2.2.2.1, a.2.2.2.2.1, a.2.2.2.2.2.1, a.2.2.2.2.2.2.1, a.2.2.2.2.2.2.2.1, a.2.2.2.2.2.2.2.2) := by simp only [fnX10_print, ha, k1, Option.bind_some]
  have q2 : fnX11_print F (I 71) (I 73) (I 75) (I 80) (I 81) (I 82) (I 83) (I 84) (I 85) (I 86) (I 87) = some (v, b.1, b.2.1, b.2.2.1, b.2.2.2.1, b.2.2.2.2.1, b.2.2.2.2.2.1, b.2.2.2.2.2.2.1, b.2.2.2.2.2.2.2) := by
    dsimp only at hb
    simp only [fnX11_print, hb, k2, Option.bind_some]
  refine ⟨v, mj_rows I [(1, I 1), (18, I 18), (19, I 19), (20, I 20), (21, I 21), (22, I 22), (23, I 23), (24, I 24), (25, I 25), (26, I 26), (32, a.1), (33, a.2.1), (34, a.2.2.1), (35, a.2.2.2.1), (36, a.2.2.2.2.1), (37, a.2.2.2.2.2.1), (38, a.2.2.2.2.2.2.1), (39, a.2.2.2.2.2.2.2.1), (40, a.2.2.2.2.2.2.2.2)], mj_rows (mj_rows I [(1, I 1), (18, I 18), (19, I 19), (20, I 20), (21, I 21), (22, I 22), (23, I 23), (24, I 24), (25, I 25), (26, I 26), (32, a.1), (33, a.2.1), (34, a.2.2.1), (35, a.2.2.2.1), (36, a.2.2.2.2.1), (37, a.2.2.2.2.2.1), (38, a.2.2.2.2.2.2.1), (39, a.2.2.2.2.2.2.2.1), (40, a.2.2.2.2.2.2.2.2)]) [(71, b.1), (73, I 73), (75, I 75), (80, b.2.1), (81, b.2.2.1), (82, b.2.2.2.1), (83, b.2.2.2.2.1), (84, b.2.2.2.2.2.1), (85, b.2.2.2.2.2.2.1), (86, b.2.2.2.2.2.2.2), (87, I 87)], L, L, ?_, ?_, ?_⟩
  · unfold stX10_print; rw [q1]; rfl
  · show (fnX11_print F (I 71) (I 73) (I 75) (I 80) (I 81) (I 82) (I 83) (I 84) (I 85) (I 86) (I 87)).map _ = _
    rw [q2]; rfl
  · refine gG_inv hK hj hI hQ hl (fun x x1 x2 x3 => ?_) rfl rfl (fun k k0 => rfl) hr (fun _ _ => rfl)
    rw [rw_k _ _ x (by refine ⟨fun z => ?_, fun z => ?_, fun z => ?_, fun z => ?_, fun z => ?_, fun z => ?_, fun z => ?_, fun z => ?_, fun z => ?_, fun z => ?_, fun z => ?_, trivial⟩ <;> (dsimp only at z; first | (exfalso; omega) | (subst z; rfl))), rw_k _ _ x (by refine ⟨fun z => ?_, fun z => ?_, fun z => ?_, fun z => ?_, fun z => ?_, fun z => ?_, fun z => ?_, fun z => ?_, fun z => ?_, fun z => ?_, fun z => ?_, fun z => ?_, fun z => ?_, fun z => ?_, fun z => ?_, fun z => ?_, fun z => ?_, fun z => ?_, fun z => ?_, trivial⟩ <;> (dsimp only at z; first | (exfalso; omega) | (subst z; rfl)))]
