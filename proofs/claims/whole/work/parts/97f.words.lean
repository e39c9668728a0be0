/-! ===== the text: the words ===== -/
def wd (L w n : Nat) (r3 : Nat → Int32) (q : Nat) : Prop := (∀ j, j < L → q + j < n ∧ isL (bt r3 (q + j)) ∧ r3 (q + j) = mj_ch w j) ∧ ¬ (q + L < n ∧ isL (bt r3 (q + L)))
theorem ch_b : ∀ w, w < 7 → ∀ j, j < 7 → 0 ≤ (mj_ch w j).toInt ∧ (mj_ch w j).toInt ≤ 127 := by decide +kernel
def bdWc (L w : Nat) (Lz : Int32) (r2 r3 : Nat → Int32) (x2 : Int32) : Option (Int32 ⊕ (Unit ⊕ Unit)) := (if Lz ≤ x2 then some (.inr (.inl ())) else (if mj_ib ((r2 5) + x2) 400 = true then (if mj_ib x2 L = true then (if (r3 (((r2 5) + x2).toNatClampNeg)) = (mj_ch w x2.toNatClampNeg) then some (.inl (x2 + (1))) else some (.inr (.inr ()))) else none) else none))
def wordC (L w : Nat) (Lz : Int32) (F : Nat) (r2 r3 : Nat → Int32) : Option Int32 := (if (r2 4) = (1 : Int32) then (if ((r2 6) - (r2 5)) = Lz then (mj_it (bdWc L w Lz r2 r3) F (0 : Int32)).bind (Sum.elim (fun _ => some (1 : Int32)) (fun _ => some (0 : Int32))) else some (0 : Int32)) else some (0 : Int32))
theorem s8_loopW (F : Nat) (hF : 500 ≤ F) {L w n q : Nat} {Lz : Int32} {r2 r3 : Nat → Int32} (hL : L ≤ 7) (hLz : Lz.toInt = (L : Nat)) (hn : n ≤ 400) (h5 : (r2 5).toInt = (q : Nat)) (hq : q + L ≤ n) :
    sp (mj_it (bdWc L w Lz r2 r3) F (0 : Int32)) (fun r => (r = .inl () ∧ ∀ j, j < L → r3 (q + j) = mj_ch w j) ∨ (r = .inr () ∧ ∃ j, j < L ∧ ¬ r3 (q + j) = mj_ch w j)) := by
  refine sp_cnt (fun x : Int32 => x) L (by omega) (fun i _ => ∀ j, j < i → r3 (q + j) = mj_ch w j) ?_ F 0 _ (by omega) rfl (fun j hj => absurd hj (by omega)) (by omega)
  intro i x hi hx hcx hxs hJ
  unfold bdWc
  refine sp_ite (fun hz => sp_some ?_) (fun hz => ?_)
  · have := i_le.mp hz
    have : i = L := by omega
    subst this
    exact .inl ⟨rfl, hJ⟩
  · have hz' : ¬ Lz.toInt ≤ x.toInt := fun z => hz (i_le.mpr z)
    have ha : (r2 5 + x).toInt = ((q + i : Nat) : Int) := by rw [i_add (by omega) (by omega), h5, hx]; omega
    refine sp_pos (mj_ib_of (by omega) (by omega)) (sp_pos (mj_ib_of (by omega) (by omega)) ?_)
    rw [i_cl, ha, hcx]
    refine sp_ite (fun hb => sp_some ⟨by omega, rfl, fun j hj => ?_⟩) (fun hb => sp_some (.inr ⟨rfl, i, by omega, hb⟩))
    by_cases z : j = i
    · rw [z]; exact hb
    · exact hJ j (by omega)
theorem wd_run {L w n q : Nat} {r3 : Nat → Int32} (hL : 1 ≤ L) (h : wd L w n r3 q) : q < n ∧ isL (bt r3 q) ∧ q + L ≤ n ∧ run isL n (bt r3) q (q + L) := by
  have h0 := h.1 0 (by omega)
  have h1 := h.1 (L - 1) (by omega)
  refine ⟨h0.1, h0.2.1, by omega, by omega, by omega, fun k k1 k2 => ?_, fun k1 k2 => h.2 ⟨k1, k2⟩⟩
  have := (h.1 (k - q) (by omega)).2.1
  rwa [show q + (k - q) = k by omega] at this
theorem wd_end {L w n q : Nat} {r2 r3 : Nat → Int32} (hL : 1 ≤ L) (ht : tk n r3 r2 q) (h : wd L w n r3 q) : r2 4 = 1 ∧ (r2 6).toInt = ((q + L : Nat) : Int) ∧ q + L ≤ n := by
  obtain ⟨w1, w2, w3, w4⟩ := wd_run hL h
  obtain ⟨t3, t5, tq, t_b, e, t6, tqe, ten, hc⟩ := ht
  rcases hc with ⟨c1, c2, c3⟩ | ⟨c1, c2, c3, c4⟩ | ⟨c1, c2, c3, c4, c5⟩ | ⟨c1, c2, c3, c4, c5⟩
  · omega
  · have := run_un c4 w4
    subst this
    exact ⟨c3, t6, w3⟩
  · unfold isL at w2
    unfold isD at c2
    omega
  · exact absurd w2 c2
theorem s8_wordC (F : Nat) (hF : 500 ≤ F) {L w n q : Nat} {Lz : Int32} {r2 r3 : Nat → Int32} (hL1 : 1 ≤ L) (hL : L ≤ 7) (hLz : Lz.toInt = (L : Nat)) (hn : n ≤ 400) (ht : tk n r3 r2 q) :
    sp (wordC L w Lz F r2 r3) (fun r => (wd L w n r3 q → r = 1) ∧ (¬ wd L w n r3 q → r = 0)) := by
  unfold wordC
  have hW := fun h => wd_end (w := w) hL1 ht h
  have ht' := ht
  obtain ⟨t3, t5, tq, t_b, e, t6, tqe, ten, hc⟩ := ht
  refine sp_ite (fun z => ?_) (fun z => sp_some ⟨fun h => absurd (hW h).1 z, fun _ => rfl⟩)
  have hd : ((r2 6) - (r2 5)).toInt = (e : Int) - (q : Int) := by rw [i_sub (by omega) (by omega), t6, t5]
  refine sp_ite (fun y => ?_) (fun y => sp_some ⟨fun h => absurd (i_eq.mpr (by have := (hW h).2.1; omega)) y, fun _ => rfl⟩)
  have y' := i_eq.mp y
  have he : e = q + L := by omega
  subst he
  have hr : run isL n (bt r3) q (q + L) := by
    rcases hc with ⟨c1, c2, c3⟩ | ⟨c1, c2, c3, c4⟩ | ⟨c1, c2, c3, c4, c5⟩ | ⟨c1, c2, c3, c4, c5⟩
    · omega
    · exact c4
    · rw [z] at c3; exact absurd c3 (by decide)
    · rw [z] at c4; exact absurd c4 (by decide)
  refine sp_bind (s8_loopW F hF (w := w) hL hLz hn t5 ten) ?_
  rintro r (⟨rfl, h1⟩ | ⟨rfl, j, h1, h2⟩)
  · refine sp_some ⟨fun _ => rfl, fun h => absurd ⟨fun j hj => ⟨by omega, hr.2.2.1 _ (by omega) (by omega), h1 j hj⟩, fun k => hr.2.2.2 k.1 k.2⟩ h⟩
  · exact sp_some ⟨fun h => absurd (h.1 j h1).2.2 h2, fun _ => rfl⟩
def bdWr (L w : Nat) (Lz : Int32) (F : Nat) (r71 r77 : Nat → Int32) (x2 : Int32) : Option (Int32 ⊕ (Unit ⊕ Unit)) := (if Lz ≤ x2 then some (.inr (.inl ())) else (fnX11_isSmall F r71 r77 ((r71 11) + x2)).bind (fun o3 => (if o3 = 0 then some (.inr (.inr ())) else (if mj_ib ((r71 11) + x2) 400 = true then (if mj_ib x2 L = true then (if (r77 (((r71 11) + x2).toNatClampNeg)) = (mj_ch w x2.toNatClampNeg) then some (.inl (x2 + (1))) else some (.inr (.inr ()))) else none) else none))))
def hereR (L w : Nat) (Lz : Int32) (F : Nat) (r71 r77 : Nat → Int32) : Option (Int32 × (Nat → Int32)) := (fnX11_sign F r71 r77).bind (fun o8 => (mj_it (bdWr L w Lz F o8.2 r77) F (0 : Int32)).bind (Sum.elim (fun _ => (fnX11_isSmall F o8.2 r77 ((o8.2 11) + Lz)).bind (fun o11 => (if o11 = 0 then some ((1 : Int32), o8.2) else some ((0 : Int32), o8.2)))) (fun _ => some ((0 : Int32), o8.2))))
def passR (L w : Nat) (Lz : Int32) (F : Nat) (r71 r77 : Nat → Int32) : Option (Int32 × (Nat → Int32)) := (if 0 < (r71 14) then some ((0 : Int32), r71) else (hereR L w Lz F r71 r77).bind (fun o2 => (if o2.1 = 0 then some ((0 : Int32), o2.2) else some ((1 : Int32), (upd o2.2 11 ((o2.2 11) + Lz))))))
theorem s11_loopW (F : Nat) (hF : 500 ≤ F) {L w n q : Nat} {Lz : Int32} {r3 r71 r77 : Nat → Int32} (hw : w < 7) (hL : L ≤ 7) (hLz : Lz.toInt = (L : Nat)) (ht : tx n r3 r77) (h10 : (r71 10).toInt = (n : Nat)) (h11 : (r71 11).toInt = (q : Nat)) (hq : q ≤ n) :
    sp (mj_it (bdWr L w Lz F r71 r77) F (0 : Int32)) (fun r => (r = .inl () ∧ ∀ j, j < L → q + j < n ∧ isL (bt r3 (q + j)) ∧ r3 (q + j) = mj_ch w j) ∨ (r = .inr () ∧ ∃ j, j < L ∧ ¬ (q + j < n ∧ isL (bt r3 (q + j)) ∧ r3 (q + j) = mj_ch w j))) := by
  have hn := ht.1
  refine sp_cnt (fun x : Int32 => x) L (by omega) (fun i _ => ∀ j, j < i → q + j < n ∧ isL (bt r3 (q + j)) ∧ r3 (q + j) = mj_ch w j) ?_ F 0 _ (by omega) rfl (fun j hj => absurd hj (by omega)) (by omega)
  intro i x hi hx hcx hxs hJ
  unfold bdWr
  refine sp_ite (fun hz => sp_some ?_) (fun hz => ?_)
  · have := i_le.mp hz
    have : i = L := by omega
    subst this
    exact .inl ⟨rfl, hJ⟩
  · have hz' : ¬ Lz.toInt ≤ x.toInt := fun z => hz (i_le.mpr z)
    have ha : (r71 11 + x).toInt = ((q + i : Nat) : Int) := by rw [i_add (by omega) (by omega), h11, hx]; omega
    have hS := s11_small F ht h10 ha
    by_cases z : q + i < n ∧ isL (bt r3 (q + i))
    · rw [hS.1 z, Option.bind_some, if_neg (show ¬ (1 : Int32) = 0 by decide)]
      have hB := ch_b w hw i (by omega)
      have hT := tb_eq (ht.2 (q + i) z.1) hB.1 hB.2
      refine sp_pos (mj_ib_of (by omega) (by omega)) (sp_pos (mj_ib_of (by omega) (by omega)) ?_)
      rw [i_cl, ha, hcx]
      refine sp_ite (fun hb => sp_some ⟨by omega, rfl, fun j hj => ?_⟩) (fun hb => sp_some (.inr ⟨rfl, i, by omega, fun y => hb (hT.mpr y.2.2)⟩))
      by_cases y : j = i
      · rw [y]; exact ⟨z.1, z.2, hT.mp hb⟩
      · exact hJ j (by omega)
    · rw [hS.2 z, Option.bind_some, if_pos rfl]
      exact sp_some (.inr ⟨rfl, i, by omega, fun y => z ⟨y.1, y.2.1⟩⟩)
theorem s11_hereR (F : Nat) (hF : 500 ≤ F) {L w n q : Nat} {Lz : Int32} {r3 r71 r77 : Nat → Int32} (hw : w < 7) (hL : L ≤ 7) (hLz : Lz.toInt = (L : Nat)) (ht : tx n r3 r77) (hh : hQr n r3 r71 q) :
    sp (hereR L w Lz F r71 r77) (fun o => (wd L w n r3 q → o.1 = 1) ∧ (¬ wd L w n r3 q → o.1 = 0) ∧ (o.2 10).toInt = (n : Nat) ∧ (o.2 11).toInt = (q : Nat) ∧ ∀ k, k ≠ 11 → o.2 k = r71 k) := by
  have hn := ht.1
  have hqn : q ≤ n := by obtain ⟨_, h, _, h3⟩ := hh; exact h3.2.1
  unfold hereR
  refine sp_bind (s11_sign F hF ht hh) ?_
  rintro o ⟨o1, o2, o3, o4⟩
  refine sp_bind (s11_loopW F hF (w := w) (L := L) hw hL hLz ht o2 o3 hqn) ?_
  rintro r (⟨rfl, h1⟩ | ⟨rfl, j, h1, h2⟩)
  · have ha : (o.2 11 + Lz).toInt = ((q + L : Nat) : Int) := by rw [i_add (by omega) (by omega), o3, hLz]; omega
    have hS := s11_small F ht o2 ha
    show sp ((fnX11_isSmall F o.2 r77 ((o.2 11) + Lz)).bind _) _
    by_cases z : q + L < n ∧ isL (bt r3 (q + L))
    · rw [hS.1 z, Option.bind_some, if_neg (show ¬ (1 : Int32) = 0 by decide)]
      exact sp_some ⟨fun h => absurd z h.2, fun _ => rfl, o2, o3, o4⟩
    · rw [hS.2 z, Option.bind_some, if_pos rfl]
      exact sp_some ⟨fun _ => rfl, fun h => absurd ⟨h1, z⟩ h, o2, o3, o4⟩
  · exact sp_some ⟨fun h => absurd (h.1 j h1) h2, fun _ => rfl, o2, o3, o4⟩
theorem s11_passR (F : Nat) (hF : 500 ≤ F) {L w n q : Nat} {Lz : Int32} {r3 r71 r77 : Nat → Int32} (hw : w < 7) (hL : L ≤ 7) (hLz : Lz.toInt = (L : Nat)) (ht : tx n r3 r77) (h14 : r71 14 = 0) (hh : hQr n r3 r71 q) :
    sp (passR L w Lz F r71 r77) (fun o => (wd L w n r3 q → o.1 = 1 ∧ (o.2 11).toInt = ((q + L : Nat) : Int)) ∧ (¬ wd L w n r3 q → o.1 = 0 ∧ (o.2 11).toInt = (q : Nat)) ∧ (o.2 10).toInt = (n : Nat) ∧ ∀ k, k ≠ 11 → o.2 k = r71 k) := by
  have hn := ht.1
  have hqn : q ≤ n := by obtain ⟨_, h, _, h3⟩ := hh; exact h3.2.1
  unfold passR
  rw [if_neg (by rw [h14]; decide)]
  refine sp_bind (s11_hereR F hF (w := w) (L := L) hw hL hLz ht hh) ?_
  rintro o ⟨o1, o0, o2, o3, o4⟩
  by_cases z : wd L w n r3 q
  · rw [if_neg (by rw [o1 z]; decide)]
    refine sp_some ⟨fun _ => ⟨rfl, ?_⟩, fun h => absurd z h, ?_, fun k hk => ?_⟩
    · show (upd _ _ _ 11).toInt = _
      rw [upd_at, i_add (by omega) (by omega), o3, hLz]; omega
    · show (upd _ _ _ 10).toInt = _
      rw [upd_ne (by omega)]; exact o2
    · show upd _ _ _ k = _
      rw [upd_ne hk]; exact o4 k hk
  · rw [if_pos (o0 z)]
    exact sp_some ⟨fun h => absurd h z, fun _ => ⟨rfl, o3⟩, o2, o4⟩
theorem e8_1 (F : Nat) (r2 r3 : Nat → Int32) : fnX8_isWord_2_2001 F r2 r3 = wordC 4 0 4 F r2 r3 := rfl
theorem e8_2 (F : Nat) (r2 r3 : Nat → Int32) : fnX8_isWord_2_2002 F r2 r3 = wordC 4 1 4 F r2 r3 := rfl
theorem e8_3 (F : Nat) (r2 r3 : Nat → Int32) : fnX8_isWord_2_2003 F r2 r3 = wordC 2 2 2 F r2 r3 := rfl
theorem e8_4 (F : Nat) (r2 r3 : Nat → Int32) : fnX8_isWord_2_2004 F r2 r3 = wordC 5 3 5 F r2 r3 := rfl
theorem e8_5 (F : Nat) (r2 r3 : Nat → Int32) : fnX8_isWord_2_2005 F r2 r3 = wordC 7 4 7 F r2 r3 := rfl
theorem e8_6 (F : Nat) (r2 r3 : Nat → Int32) : fnX8_isWord_2_2006 F r2 r3 = wordC 4 5 4 F r2 r3 := rfl
theorem e8_7 (F : Nat) (r2 r3 : Nat → Int32) : fnX8_isWord_2_2007 F r2 r3 = wordC 4 6 4 F r2 r3 := rfl
theorem e11_1 (F : Nat) (r71 r77 : Nat → Int32) : fnX11_isHere_71_2001 F r71 r77 = hereR 4 0 4 F r71 r77 := rfl
theorem e11_2 (F : Nat) (r71 r77 : Nat → Int32) : fnX11_isHere_71_2002 F r71 r77 = hereR 4 1 4 F r71 r77 := rfl
theorem e11_3 (F : Nat) (r71 r77 : Nat → Int32) : fnX11_isHere_71_2003 F r71 r77 = hereR 2 2 2 F r71 r77 := rfl
theorem e11_4 (F : Nat) (r71 r77 : Nat → Int32) : fnX11_isHere_71_2004 F r71 r77 = hereR 5 3 5 F r71 r77 := rfl
theorem e11_5 (F : Nat) (r71 r77 : Nat → Int32) : fnX11_isHere_71_2005 F r71 r77 = hereR 7 4 7 F r71 r77 := rfl
theorem e11_6 (F : Nat) (r71 r77 : Nat → Int32) : fnX11_isHere_71_2006 F r71 r77 = hereR 4 5 4 F r71 r77 := rfl
theorem p11_1 (F : Nat) (r71 r77 : Nat → Int32) : fnX11_passes_71_2001 F r71 r77 = passR 4 0 4 F r71 r77 := rfl
theorem p11_2 (F : Nat) (r71 r77 : Nat → Int32) : fnX11_passes_71_2002 F r71 r77 = passR 4 1 4 F r71 r77 := rfl
theorem p11_3 (F : Nat) (r71 r77 : Nat → Int32) : fnX11_passes_71_2003 F r71 r77 = passR 2 2 2 F r71 r77 := rfl
theorem p11_4 (F : Nat) (r71 r77 : Nat → Int32) : fnX11_passes_71_2004 F r71 r77 = passR 5 3 5 F r71 r77 := rfl
theorem p11_5 (F : Nat) (r71 r77 : Nat → Int32) : fnX11_passes_71_2005 F r71 r77 = passR 7 4 7 F r71 r77 := rfl
theorem p11_6 (F : Nat) (r71 r77 : Nat → Int32) : fnX11_passes_71_2006 F r71 r77 = passR 4 5 4 F r71 r77 := rfl
theorem p11_7 (F : Nat) (r71 r77 : Nat → Int32) : fnX11_passes_71_2007 F r71 r77 = passR 4 6 4 F r71 r77 := rfl
