/-! ===== the text: a fork, in both ===== -/
theorem pt2_j {c : Nat → Nat → Int32} {a : Nat → Int32} : ∀ j, j ≠ 2 → pt2 c a j = c j := fun j hj => by
  unfold pt2
  rw [if_neg hj]
theorem ctF_F (rw_ : RW_) (F K : Nat) {x1 : Int32} {r77 : Nat → Int32} {o4 : Int32 × (Nat → Int32) × (Nat → Int32)} (h : 1 ≤ (o4.2.1 14).toInt) : ctF rw_ F K x1 r77 o4 = some (o4.2.1, upd o4.2.2 (12 * K + 3) o4.1) := by
  unfold ctF
  rw [s11_passF F h, Option.bind_some, if_pos rfl]
theorem st_b23 (rw_ : RW_) (F : Nat) (hF : 500 ≤ F) {n q d K : Nat} {r3 r77 s0 b rr : Nat → Int32} {x i : Int32} {c c2 : Nat → Nat → Int32} (ht : tx n r3 r77) (hi : i = 2 ∨ i = 3) (hR : d < 6 → rowH rw_ F n r3 r77 (d + 1)) (hRF : rowF rw_ r77) (hx0 : 0 ≤ x.toInt) (hx4 : x.toInt ≤ 400) (hK : (c 4 0).toInt = (K : Nat)) (hK4 : K < 40) (h05 : (s0 5).toInt = ((K + 1 : Nat) : Int))
    (h2 : bodyC F r3 (tup x c) = some (.inl (tup (x + 1) c2))) (h3 : opQ n r3 x i c c2 s0 b rr q d K) :
    ∃ (x' : Int32) (c' : Nat → Nat → Int32) (o : (Nat → Int32) × (Nat → Int32)), (blkR rw_ F b rr r77 (-100 - c 4 0)).bind (fun o4 => ctF rw_ F K (c 4 0) r77 o4) = some o ∧ sto F n r3 x c s0 q d K x' c' o := by
  obtain ⟨h20, hrk, hcase⟩ := h3
  have hp1 := ps_1 h2 hx0 hx4
  have hKb : fK_ b := ⟨K + 1, by rw [hrk 5 (by omega) (by omega) (by omega) (by omega)]; exact h05, by omega⟩
  rcases hcase with ⟨hd6, q1, hq1, hJ1, f16, f16d, f15, f17, f5, f11, fS⟩ | hf
  · have f15' : (c2 15 (d + 1)).toInt = (K : Nat) := by rw [f15]; exact hK
    obtain ⟨x', c', o, ho, hps, g20, g6, hcase⟩ := blk_ rw_ F hF (x1 := -100 - c 4 0) ht (hR hd6) hJ1 (cd_open f16 f15' f17 f11)
    rw [ho, Option.bind_some]
    rcases hcase with ⟨q', K', s, r', o3, x2, a1, a2, a3, a4, a5, a6, a7, a8, a9, a10, a11⟩ | ⟨hf, hk⟩
    · have w15 : c' 15 (d + 1) = c 4 0 := by rw [(a9.1 (d + 1) (Nat.le_refl _)).1]; exact f15
      have w17 : c' 17 (d + 1) = 0 := by rw [(a9.1 (d + 1) (Nat.le_refl _)).2]; exact f17
      have w5 : c' 5 K = i := by rw [a9.2.2.1 K (by omega)]; exact f5
      have w5' : c' 5 K = 2 ∨ c' 5 K = 3 := by rw [w5]; exact hi
      have n4 : ¬ c' 5 K = 4 := by rw [w5]; rcases hi with e | e <;> rw [e] <;> decide
      have w15' : (c' 15 (d + 1)).toInt = (K : Nat) := by rw [w15]; exact hK
      obtain ⟨a, bb, q2, k1, k2, k3, k4, k5, k6⟩ := cl_1 F hF (x1 := -100 - c 4 0) ht a3 a4 a5 w15' w17 a8 (.inr ⟨n4, by rw [w15]⟩)
      have eb3 : o3 = bb := Option.some.inj (a6.symm.trans k2)
      subst eb3
      have hM := k6 (pt2 c' a) rfl pt2_j
      have hEm : tE 401 n r3 a (upd o3 13 (o3 13 - 1)) q2 := hM.1
      have hKm := hM.2.2.2.2.2.2.1
      have hK40 := hM.2.2.2.2.2.2.2.1
      have hcn : (c' 15 (d + 1)).toNatClampNeg = K := by rw [i_cl, w15']; rfl
      have hib : mj_ib (c' 15 (d + 1)) 40 = true := mj_ib_of (by omega) (by omega)
      have hstk := a3.2.2.2.2.2.2.2.2.2.2.1
      have hown := a3.2.2.2.2.2.2.2.2.2.2.2.2.2.1
      obtain ⟨o6, ho6, y6, n6, c6, g6'⟩ := s11_passR F hF (L := 4) (w := 6) (Lz := 4) (by omega) (by omega) rfl ht (tE_0 hEm k4).1 (tE_0 hEm k4).2
      obtain ⟨r, hr, r1, r0⟩ := s8_wordC F hF (L := 4) (w := 6) (Lz := 4) (by omega) (by omega) rfl ht.1 hEm.1
      rw [a7] at g6
      unfold ctF
      rw [a7, a10, a11, ho6, Option.bind_some]
      by_cases hW : wd 4 6 n r3 q2
      · obtain ⟨y1, y2⟩ := y6 hW
        rw [if_neg (by rw [y1]; decide)]
        have h12 : c' 12 K = -1 := ((hown (d + 1) (by omega) (Nat.le_refl _) K w15').1 w17).2
        have ho16 : c' 16 d = c' 15 (d + 1) := by
          obtain ⟨p, p1, p2, p3, p4, _⟩ := hstk.2.1 (d + 1) (by omega) (Nat.le_refl _)
          exact p4
        obtain ⟨u, b2, a2', a15, a16, a17, e1, e2, e3, e4, e5, e6⟩ := op_else rw_ F hF (o := K) (x1 := -100 - c 4 0) ht hM w15' ho16 (by omega) w5' h12 (own_ne hstk w15') hW c6 y2 g6'
        have hcl : fnX8_closeBlock F (c' 2) r3 (c' 5) (c' 15) (c' 16) (c' 17) = some (a2', a15, a16, a17) := by
          rw [e_close F a3.2.2.1 a3.2.2.2.2.1 hib, hcn, if_pos ⟨w17, n4⟩]
          exact e_close2 F k1 (by rw [e8_7, hr, r1 hW]) e1 e2
        have hp2 := b_cl F ht.1 a3 a4 a5 hcl
        rw [e3]
        rcases e6 with ⟨hd6b, q3, hq3, hJ3, hcd3, f17b, f15b, fe⟩ | hf
        · obtain ⟨x3, c3, o9, ho9, hps9, g20b, g6b, hcase9⟩ := blk_ rw_ F hF (x1 := -100 - c 4 0) ht (hR hd6) hJ3 hcd3
          rw [ho9, Option.bind_some]
          have hB1 : frB d K c' (clM c' a2' a15 a16 a17) := ⟨fun e he => ⟨(fe e he).1, (fe e he).2.2, (fe e he).2.1⟩, fun k _ => rfl, fun k _ => ⟨rfl, rfl⟩⟩
          have g20c : c3 2 0 = c 2 0 := by
            rw [g20b]
            show a2' 0 = _
            rw [e5, k5, g20, h20]
          have hfr : fr6 s0 o9.2.1 := fr6_tr (fr6_rk hrk) (fr6_tr g6 (fr6_tr (fr6_rk e4) g6b))
          rcases hcase9 with ⟨q4, K4, s4, r4, o34, x24, b1, b2', b3, b4, b5, b6, b7, b8, b9, b10, b11⟩ | ⟨hf, hk⟩
          · have v15 : c3 15 (d + 1) = c 4 0 := by
              rw [(b9.1 (d + 1) (Nat.le_refl _)).1]
              show a15 (d + 1) = _
              rw [f15b, w15]
            have v17 : c3 17 (d + 1) = 1 := by
              rw [(b9.1 (d + 1) (Nat.le_refl _)).2]
              exact f17b
            have v15' : (c3 15 (d + 1)).toInt = (K : Nat) := by rw [v15]; exact hK
            have z15' : (clM c' a2' a15 a16 a17 15 (d + 1)).toInt = (K : Nat) := by
              show (a15 (d + 1)).toInt = _
              rw [f15b]
              exact w15'
            obtain ⟨a4', bb4, q5, m1, m2, m3, m4, m5, m6⟩ := cl_2 F hF ht b3 b4 b5 v15' v17 b8
            have eb4 : o34 = bb4 := Option.some.inj (b6.symm.trans m2)
            subst eb4
            have hcl3 : fnX8_closeBlock F (c3 2) r3 (c3 5) (c3 15) (c3 16) (c3 17) = some (a4', c3 15, c3 16, c3 17) := by
              rw [e_close F b3.2.2.1 b3.2.2.2.2.1 (mj_ib_of (by omega) (by omega)), if_neg (fun w => by rw [v17] at w; exact absurd w.1 (by decide))]
              exact e_close0 F m1
            have hp3 := b_cl F ht.1 b3 b4 b5 hcl3
            have hj := clM_s (c := c3) (a := a4')
            have hB : frB d K c2 (clM c3 a4' (c3 15) (c3 16) (c3 17)) := frB_tr (frB_W a9 (by omega) f15') (frB_tr hB1 (frB_tr (frB_W b9 (by omega) z15') (frB_s hj)))
            refine ⟨x3 + 1, clM c3 a4' (c3 15) (c3 16) (c3 17), _, rfl, ps_tr hp1 (ps_tr hps (ps_tr hp2 (ps_tr hps9 hp3))), ?_, hfr, .inl ⟨q5, K4, by omega, by omega, ?_, ?_, frS_B fS hB⟩⟩
            · show a4' 0 = _
              rw [m5, g20c]
            · have := m6 (clM c3 a4' (c3 15) (c3 16) (c3 17)) rfl hj
              rw [v15] at this
              rw [b7, b10, b11]
              exact this
            · rw [(hB.1 d (Nat.le_refl _)).2.2]
              exact f16d
          · exact ⟨x3, c3, _, rfl, ps_tr hp1 (ps_tr hps (ps_tr hp2 hps9)), g20c, hfr, .inr ⟨hf, hk⟩⟩
        · have h14 : 1 ≤ (b2 14).toInt := by rw [hf.2.2.1]; exact hf.1
          obtain ⟨b', hb', hbf⟩ := blk_F rw_ F (r74 := upd (rE (c' 16 (d + 1)) (-100 - c 4 0) K' r') (12 * K + 3) (if x2 = -1 then -100 - c 4 0 else x2)) (x1 := -100 - c 4 0) hRF h14
          rw [hb', Option.bind_some]
          have hK2' : fK_ b2 := ⟨K', by rw [e4 5 (by omega) (by omega) (by omega) (by omega)]; exact hKm, hK40⟩
          refine ⟨x' + 1, clM c' a2' a15 a16 a17, _, rfl, ps_tr hp1 (ps_tr hps hp2), ?_, ?_, .inr ⟨fE_r hf hbf, fK_r hK2' hbf⟩⟩
          · show a2' 0 = _
            rw [e5, k5, g20, h20]
          · refine fr6_tr (fr6_rk hrk) (fr6_tr g6 (fun k k1 k2 k3 k4 k5 k6 => (hbf k k4).trans (e4 k k2 k3 k5 k6)))
      · obtain ⟨y1, y2⟩ := n6 hW
        rw [if_pos y1]
        have hcl : fnX8_closeBlock F (c' 2) r3 (c' 5) (c' 15) (c' 16) (c' 17) = some (a, c' 15, c' 16, c' 17) := by
          rw [e_close F a3.2.2.1 a3.2.2.2.2.1 hib, hcn, if_pos ⟨w17, n4⟩]
          exact e_close1 F k1 (by rw [e8_7, hr, r0 hW])
        have hp2 := b_cl F ht.1 a3 a4 a5 hcl
        have hj := clM_s (c := c') (a := a)
        have hB : frB d K c2 (clM c' a (c' 15) (c' 16) (c' 17)) := frB_tr (frB_W a9 (by omega) f15') (frB_s hj)
        refine ⟨x' + 1, clM c' a (c' 15) (c' 16) (c' 17), _, rfl, ps_tr hp1 (ps_tr hps hp2), ?_, fr6_tr (fr6_rk hrk) (fr6_tr g6 (fr6_rk (rk_11 g6'))), .inl ⟨q2, K', by omega, by omega, ?_, ?_, frS_B fS hB⟩⟩
        · show a 0 = _
          rw [k5, g20, h20]
        · exact aJ_11 (k6 (clM c' a (c' 15) (c' 16) (c' 17)) rfl hj) c6 y2 g6'
        · rw [(hB.1 d (Nat.le_refl _)).2.2]
          exact f16d
    · have h14 : 1 ≤ (o.2.1 14).toInt := by rw [hf.2.2.1]; exact hf.1
      rw [ctF_F rw_ F K h14]
      exact ⟨x', c', _, rfl, ps_tr hp1 hps, by rw [g20, h20], fr6_tr (fr6_rk hrk) g6, .inr ⟨hf, hk⟩⟩
  · have h14 : 1 ≤ (b 14).toInt := by rw [hf.2.2.1]; exact hf.1
    obtain ⟨b', hb', hbf⟩ := blk_F rw_ F (r74 := rr) (x1 := -100 - c 4 0) hRF h14
    have h14' : 1 ≤ (b' 14).toInt := by rw [hbf 14 (by omega)]; exact h14
    rw [hb', Option.bind_some, ctF_F rw_ F K h14']
    exact ⟨x + 1, c2, _, rfl, hp1, h20, fun k k1 k2 k3 k4 k5 k6 => (hbf k k4).trans (hrk k k2 k3 k5 k6), .inr ⟨fE_r hf hbf, fK_r hKb hbf⟩⟩
