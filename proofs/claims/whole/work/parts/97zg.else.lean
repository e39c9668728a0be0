/-! ===== the text: an else block opens ===== -/
theorem aJ_11 {n q d K : Nat} {r3 r71 r74 s : Nat → Int32} {x : Int32} {c : Nat → Nat → Int32} (hJ : aJ n r3 x c r71 r74 q d K) (s10 : (s 10).toInt = (n : Nat)) (s11 : (s 11).toInt = (q : Nat)) (sf : ∀ k, k ≠ 11 → s k = r71 k) : aJ n r3 x c s r74 q d K := by
  obtain ⟨hE, h8, hd, hd2, hd6, hK, hK2, hK3, hx0, hxq, hs, hL, hc, how⟩ := hJ
  exact ⟨⟨hE.1, s10, .inl ⟨h8, (sf 14 (by omega)).trans (tE_0 hE h8).1, hQr_at s10 s11 hE.1.2.2.1 hE.1.2.2.2.1, tE_9 hE h8⟩⟩, h8, hd, by rw [sf 13 (by omega)]; exact hd2, hd6, hK, by rw [sf 5 (by omega)]; exact hK2, hK3, hx0, hxq, hs, hL, hc, how⟩
theorem op_else (rw_ : RW_) (F : Nat) (hF : 500 ≤ F) {n q d K o : Nat} {r3 r77 a bm rm os : Nat → Int32} {y x1 : Int32} {c : Nat → Nat → Int32} (ht : tx n r3 r77) (hM : aJ n r3 y (pt2 c a) bm rm q d K) (ho : (c 15 (d + 1)).toInt = (o : Nat)) (ho16 : c 16 d = c 15 (d + 1)) (hoK : o < K) (hk : c 5 o = 2 ∨ c 5 o = 3) (h12 : c 12 o = -1) (hne : ∀ e, 1 ≤ e → e ≤ d → ¬ (c 15 e).toInt = (o : Nat)) (hW : wd 4 6 n r3 q)
    (s10 : (os 10).toInt = (n : Nat)) (s11 : (os 11).toInt = ((q + 4 : Nat) : Int)) (sf : ∀ k, k ≠ 11 → os k = bm k) :
    ∃ (u b a2 a15 a16 a17 : Nat → Int32), fnX8_goOn F a r3 = some u ∧ fnX8_openBlock F u r3 (c 15) (c 16) (c 17) (c 15 (d + 1)) 1 = some (a2, a15, a16, a17) ∧ fnX11_block rw_ F os rm r77 x1 = blkR rw_ F b rm r77 x1 ∧ rk bm b ∧ a2 0 = a 0 ∧
      ((d < 6 ∧ ∃ q' : Nat, q < q' ∧ aJ n r3 y (clM c a2 a15 a16 a17) (upd b 13 (b 13 + 1)) rm q' (d + 1) K ∧ cd_ (d + 1) (-1) (clM c a2 a15 a16 a17) ∧ a17 (d + 1) = 1 ∧ a15 (d + 1) = c 15 (d + 1) ∧ ∀ e, e ≤ d → a15 e = c 15 e ∧ a16 e = c 16 e ∧ a17 e = c 17 e) ∨ fE (clM c a2 a15 a16 a17) b) := by
  have e1 : (1 : Int32).toInt = 1 := rfl
  have nb1 : vp_nar .boolean 1 = 1 := by decide
  obtain ⟨hE, h8, hd, hd2, hd6, hK, hK2, hK3, hx0, hxq, hs, hL, hc, how⟩ := hM
  have hE : tE 401 n r3 a bm q := hE
  have h8 : a 8 = 0 := h8
  have hd : (a 10).toInt = (d : Nat) := hd
  have hK : (c 4 0).toInt = (K : Nat) := hK
  obtain ⟨u, hu, ⟨q1, hE1, g1, g2, g3, g4⟩, u8⟩ := s8_pass F hF ht.1 (by omega) hE h8 hW s10 s11 sf
  have u10 : (u 10).toInt = (d : Nat) := by rw [g3 10 (by omega) (by omega) (by omega) (by omega) (by omega) (by omega)]; exact hd
  have os13 : (os 13).toInt = (d : Nat) := by rw [sf 13 (by omega)]; exact hd2
  obtain ⟨p, b, hO, hB, ⟨q2, hE2, l1, l2, l3, l4⟩, hd6'⟩ := s2_open rw_ F hF (r15 := c 15) (r16 := c 16) (r17 := c 17) (r74 := rm) (x := c 15 (d + 1)) (x1 := x1) (x2 := 1) ht hE1 u10 os13 hd6
  have p0 : p 0 = a 0 := (l3 0 (by omega) (by omega) (by omega) (by omega) (by omega) (by omega)).trans (g3 0 (by omega) (by omega) (by omega) (by omega) (by omega) (by omega))
  have hn := ht.1
  by_cases z : p 8 = 0
  · rw [if_pos z, nb1] at hO
    have hd5 := hd6' z
    have m1 := (l2 z).2
    have m2 := (g2 u8).2
    have p10 : p 10 = u 10 := l3 10 (by omega) (by omega) (by omega) (by omega) (by omega) (by omega)
    have b13 : b 13 = os 13 := l4 13 (by omega) (by omega) (by omega) (by omega)
    have b5 : b 5 = bm 5 := (l4 5 (by omega) (by omega) (by omega) (by omega)).trans (sf 5 (by omega))
    have hs : stk (pt2 c a) d K := hs
    have hn4 : ¬ c 5 o = 4 := by rcases hk with e | e <;> rw [e] <;> decide
    have hco : ∀ B C, Cons (clM c (upd p 10 (p 10 + 1)) (upd (c 15) (d + 1) (c 15 (d + 1))) (upd (c 16) (d + 1) (-1)) (upd (c 17) (d + 1) 1)) (d + 1) K B C → Cons (pt2 c a) d K B C := fun B C h => cons_open (c := pt2 c a) (c' := clM c (upd p 10 (p 10 + 1)) (upd (c 15) (d + 1) (c 15 (d + 1))) (upd (c 16) (d + 1) (-1)) (upd (c 17) (d + 1) 1)) rfl rfl rfl rfl h
    refine ⟨u, b, _, _, _, _, hu, hO, hB, rk_tr g4 l4, ?_, .inl ⟨hd5, q2, by omega, ⟨tE_od hE2, ?_, ?_, ?_, by omega, hK, ?_, hK3, hx0, by omega, ?_, ?_, hc, ?_, ur_open (c := pt2 c a) (fun e he => upd_ne (by omega)) how.2⟩, ⟨⟨fun _ => upd_at, fun _ => rfl⟩, .inl rfl, fun _ o' ho' => ⟨fun w => ?_, fun w => ?_⟩⟩, upd_at, upd_at, fun e he => ⟨upd_ne (by omega), upd_ne (by omega), upd_ne (by omega)⟩⟩⟩
    · show upd p 10 (p 10 + 1) 0 = _
      rw [upd_ne (by omega)]
      exact p0
    · show upd p 10 (p 10 + 1) 8 = _
      rw [upd_ne (by omega)]
      exact z
    · show (upd p 10 (p 10 + 1) 10).toInt = _
      rw [upd_at, p10, i_add (by omega) (by omega), u10, e1]
      omega
    · rw [upd_at, b13, i_add (by omega) (by omega), os13, e1]
      omega
    · rw [upd_ne (by omega), b5]
      exact hK2
    · exact stk_open (c := pt2 c a) (o := o) (w := 1) hs hoK (by show (c 16 d).toInt = _; rw [ho16]; exact ho) (hk.elim .inl (fun e => .inr (.inl e))) (.inr rfl) (fun _ => hn4) rfl rfl rfl (by show upd (c 15) (d + 1) (c 15 (d + 1)) = upd (c 15) (d + 1) (c 16 d); rw [ho16]) rfl rfl
    · intro B C hC k hk' hne'
      have hC1 : Cons (pt2 c a) d K B C := hco B C hC
      refine lnk_c (c := pt2 c a) rfl rfl rfl (hL B C hC1 k hk' (fun e he1 he2 w => ?_))
      refine hne' e he1 (by omega) ?_
      show (upd (c 15) (d + 1) _ e).toInt = _
      rw [upd_ne (by omega)]
      exact w
    · intro e he1 he2 o' hoe
      by_cases w : e = d + 1
      · subst w
        have hoe : (upd (c 15) (d + 1) (c 15 (d + 1)) (d + 1)).toInt = (o' : Nat) := hoe
        rw [upd_at] at hoe
        have eo : o' = o := by omega
        subst eo
        refine ⟨fun y => ?_, fun _ B C hC => ?_⟩
        · have y : upd (c 17) (d + 1) 1 (d + 1) = 0 := y
          rw [upd_at] at y
          exact absurd y (by decide)
        · have hC1 : Cons (pt2 c a) d K B C := hco B C hC
          have h := (hL B C hC1 o' hoK hne).1
          have n6 : ¬ c 5 o' = 6 := by rcases hk with e | e <;> rw [e] <;> decide
          have h' : rho B C (rm (12 * o' + 3)) = (if c 5 o' = 6 then C else if c 11 o' = -1 then (if c 5 o' = 4 then (o' : Int) else B o') else (c 11 o').toInt) := h
          rw [if_neg n6, if_neg hn4] at h'
          exact h'
      · have hoe : (upd (c 15) (d + 1) (c 15 (d + 1)) e).toInt = (o' : Nat) := hoe
        rw [upd_ne w] at hoe
        obtain ⟨f1, f2⟩ := how.1 e he1 (by omega) o' hoe
        have e17 : clM c (upd p 10 (p 10 + 1)) (upd (c 15) (d + 1) (c 15 (d + 1))) (upd (c 16) (d + 1) (-1)) (upd (c 17) (d + 1) 1) 17 e = c 17 e := upd_ne w
        have e15 : clM c (upd p 10 (p 10 + 1)) (upd (c 15) (d + 1) (c 15 (d + 1))) (upd (c 16) (d + 1) (-1)) (upd (c 17) (d + 1) 1) 15 e = c 15 e := upd_ne w
        rw [e17, e15]
        exact ⟨f1, fun y B C hC => f2 y B C (hco B C hC)⟩
    · have w : upd (c 17) (d + 1) 1 (d + 1) = 0 := w
      rw [upd_at] at w
      exact absurd w (by decide)
    · have ho' : (upd (c 15) (d + 1) (c 15 (d + 1)) (d + 1)).toInt = (o' : Nat) := ho'
      rw [upd_at] at ho'
      have eo : o' = o := by omega
      show c 12 o' = -1
      rw [eo]
      exact h12
  · rw [if_neg z] at hO
    exact ⟨u, b, _, _, _, _, hu, hO, hB, rk_tr g4 l4, p0, .inr (fE_of hE2 z)⟩
