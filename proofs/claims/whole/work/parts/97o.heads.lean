/-! ===== the text: statements with a block, in the class; their heads ===== -/
def pt9 (c : Nat → Nat → Int32) (v : R6) (o a15 a16 a17 : Nat → Int32) (j : Nat) : Nat → Int32 := if j = 2 then o else if j = 15 then a15 else if j = 16 then a16 else if j = 17 then a17 else pt6 c v j
theorem e_block (F : Nat) {K d : Nat} {r3 : Nat → Int32} {c : Nat → Nat → Int32} {i : Int32} {v : R6} {o a15 a16 a17 : Nat → Int32} (hi3 : i = 2 ∨ i = 3 ∨ i = 4) (hk : fnX8_kindHere F (c 2) r3 = some i) (hi : ¬ i = -1) (hK : (c 4 0).toInt = (K : Nat)) (hK4 : K < 40) (hd : (c 2 10).toInt = (d : Nat)) (hd6 : d ≤ 6) (h15 : ¬ c 15 d = -1 → mj_ib (c 15 d) 40 = true) (h16 : ¬ c 16 d = -1 → mj_ib (c 16 d) 40 = true)
    (hv : (fnX8_goOn F (c 2) r3).bind (fun o18 => fnX8_readBehindWord F o18 r3 (bgn c d K i 6) (bgn c d K i 7) (bgn c d K i 8) (bgn c d K i 9) (bgn c d K i 10) (c 4 0) i) = some v) (ho : fnX8_openBlock F v.1 r3 (c 15) (bgn c d K i 16) (c 17) (c 4 0) 0 = some (o, a15, a16, a17)) :
    fnX8_readStatement F (c 2) r3 (c 4) (c 5) (c 6) (c 7) (c 8) (c 9) (c 10) (c 11) (c 12) (c 13) (c 14) (c 15) (c 16) (c 17) = some (tup5 (pt9 (bgn c d K i) v o a15 a16 a17)) := by
  have hi0 : ¬ i = 0 := by rcases hi3 with e | e | e <;> rw [e] <;> decide
  rw [e_word F hi0 hk hi hK hK4 hd hd6 h15 h16]
  obtain ⟨u, hu, hv⟩ := Option.bind_eq_some_iff.mp hv
  rw [hu, Option.bind_some, hv, Option.bind_some]
  unfold jnX8_readStatement_127
  rcases hi3 with e | e | e
  · rw [if_pos e, ho]
    rfl
  · rw [if_neg (by rw [e]; decide), if_pos e, ho]
    rfl
  · rw [if_neg (by rw [e]; decide), if_neg (by rw [e]; decide), if_pos e, ho]
    rfl
theorem e_close (F : Nat) {d : Nat} {r2 r3 r5 r15 r16 r17 : Nat → Int32} (hd : (r2 10).toInt = (d : Nat)) (hd6 : d ≤ 6) (h15 : mj_ib (r15 d) 40 = true) :
    fnX8_closeBlock F r2 r3 r5 r15 r16 r17 = jnX8_closeBlock_40 F r3 r5 (r15 d) (if r17 d = 0 ∧ ¬ r5 (r15 d).toNatClampNeg = 4 then 1 else 0) r2 r15 r16 r17 := by
  have hib : mj_ib (r2 10) 7 = true := mj_ib_of (by omega) (by omega)
  have hcl : (r2 10).toNatClampNeg = d := by rw [i_cl, hd]; rfl
  unfold fnX8_closeBlock jnX8_closeBlock_39
  rw [if_pos hib, if_pos hib, hcl]
  by_cases z : r17 d = 0
  · rw [if_pos z, if_pos h15]
    by_cases y : r5 (r15 d).toNatClampNeg = 4
    · rw [if_pos y, if_neg (fun w => w.2 y)]
    · rw [if_neg y, if_pos ⟨z, y⟩]
  · rw [if_neg z, if_neg (fun w => z w.1)]
theorem e_close0 (F : Nat) {r2 r3 r5 r15 r16 r17 o : Nat → Int32} {x : Int32} (ho : fnX8_goOn F (upd r2 10 (r2 10 - 1)) r3 = some o) : jnX8_closeBlock_40 F r3 r5 x 0 r2 r15 r16 r17 = some (o, r15, r16, r17) := by
  unfold jnX8_closeBlock_40
  rw [ho, Option.bind_some, if_pos rfl]
theorem e_close1 (F : Nat) {r2 r3 r5 r15 r16 r17 o : Nat → Int32} {x : Int32} (ho : fnX8_goOn F (upd r2 10 (r2 10 - 1)) r3 = some o) (hw : fnX8_isWord_2_2007 F o r3 = some 0) : jnX8_closeBlock_40 F r3 r5 x 1 r2 r15 r16 r17 = some (o, r15, r16, r17) := by
  unfold jnX8_closeBlock_40
  rw [ho, Option.bind_some, if_neg (show ¬ (1 : Int32) = 0 by decide), hw, Option.bind_some, if_pos rfl]
theorem e_close2 (F : Nat) {r2 r3 r5 r15 r16 r17 o u a a15 a16 a17 : Nat → Int32} {x : Int32} (ho : fnX8_goOn F (upd r2 10 (r2 10 - 1)) r3 = some o) (hw : fnX8_isWord_2_2007 F o r3 = some 1) (hu : fnX8_goOn F o r3 = some u) (ha : fnX8_openBlock F u r3 r15 r16 r17 x 1 = some (a, a15, a16, a17)) : jnX8_closeBlock_40 F r3 r5 x 1 r2 r15 r16 r17 = some (a, a15, a16, a17) := by
  unfold jnX8_closeBlock_40
  rw [ho, Option.bind_some, if_neg (show ¬ (1 : Int32) = 0 by decide), hw, Option.bind_some, if_neg (show ¬ (1 : Int32) = 0 by decide), hu, Option.bind_some, ha, Option.bind_some]
theorem s2_h2 (F : Nat) (hF : 500 ≤ F) {n q k : Nat} {r2 r3 r6 r7 r8 r9 r10 r71 r77 s : Nat → Int32} {x1 : Int32} (hx : x1.toInt = (k : Nat)) (hk : k < 40) (ht : tx n r3 r77) (h : tE 401 n r3 r2 r71 q) (h8 : r2 8 = 0) (hW : wd 4 1 n r3 q)
    (s10 : (s 10).toInt = (n : Nat)) (s11 : (s 11).toInt = ((q + 4 : Nat) : Int)) (sf : ∀ k, k ≠ 11 → s k = r71 k) :
    sp2 ((fnX8_goOn F r2 r3).bind (fun o18 => fnX8_readBehindWord F o18 r3 r6 r7 r8 r9 r10 x1 2)) (fnX11_numberTo F s r77 60) (fun a b => tP 401 n r3 r2 r71 q a.1 b.2 ∧ a.2 = (r6, upd r7 k (a.2.2.1 k), r8, r9, r10) ∧ (a.1 8 = 0 → a.2.2.1 k = b.1 ∧ 0 ≤ b.1.toInt ∧ b.1.toInt ≤ 60)) := by
  have hib : mj_ib x1 40 = true := mj_ib_of (by omega) (by omega)
  have cx : x1.toNatClampNeg = k := by rw [i_cl, hx]; rfl
  refine sp2_bl (s8_pass F hF ht.1 (by omega) h h8 hW s10 s11 sf) ?_
  rintro a0 ⟨⟨q0, hE0, f1, f2, f3_, f4⟩, a8⟩
  unfold fnX8_readBehindWord
  rw [if_neg (show ¬ (2 : Int32) = 1 by decide), if_pos rfl]
  obtain ⟨a, b, ha, hb, hP, hV⟩ := s2_numTo F hF (M := 401) (by omega) (.inr ⟨rfl, rfl⟩) ht hE0
  rw [ha, hb, Option.bind_some, if_pos hib, cx]
  refine sp2_some ⟨tP_c f1 f2 f3_ f4 hP, ?_, fun y => ?_⟩
  · show (r6, upd r7 k a.1, r8, r9, r10) = (r6, upd r7 k (upd r7 k a.1 k), r8, r9, r10)
    rw [upd_at]
  · obtain ⟨c1, c2, c3⟩ := hV y
    refine ⟨?_, by rw [← c1]; exact c2, by rw [← c1]; exact c3⟩
    show upd r7 k a.1 k = b.1
    rw [upd_at, c1]
theorem s2_h34 (F : Nat) (hF : 500 ≤ F) {n q k L w : Nat} {r2 r3 r6 r7 r8 r9 r10 r71 r74 r77 s : Nat → Int32} {x1 i : Int32} (hL : 1 ≤ L) (hi : ¬ i = 1 ∧ ¬ i = 2 ∧ ¬ i = 6) (hx : x1.toInt = (k : Nat)) (hk : k < 40) (ht : tx n r3 r77) (h : tE 401 n r3 r2 r71 q) (h8 : r2 8 = 0) (hW : wd L w n r3 q)
    (s10 : (s 10).toInt = (n : Nat)) (s11 : (s 11).toInt = ((q + L : Nat) : Int)) (sf : ∀ k, k ≠ 11 → s k = r71 k) :
    sp2 ((fnX8_goOn F r2 r3).bind (fun o18 => fnX8_readBehindWord F o18 r3 r6 r7 r8 r9 r10 x1 i)) (fnX11_test F s r74 r77 x1) (tsQ n r3 r2 r71 q k r6 r7 r8 r9 r10 r74) := by
  refine sp2_bl (s8_pass F hF ht.1 hL h h8 hW s10 s11 sf) ?_
  rintro a0 ⟨⟨q0, hE0, f1, f2, f3_, f4⟩, a8⟩
  obtain ⟨a, b, ha, hb, hP, hV⟩ := s2_test F hF (r6 := r6) (r7 := r7) (r8 := r8) (r9 := r9) (r10 := r10) (r74 := r74) hx hk hi ht hE0 a8
  rw [ha, hb]
  exact sp2_some ⟨tP_c f1 f2 f3_ f4 hP, hV⟩
