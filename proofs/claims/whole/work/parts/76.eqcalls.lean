/-! ===== calls on the equations: what they share ===== -/
def eI (I : mj_IT) (L : mj_LT) : Prop := I 32 1 = 1 → I 41 4 = I 32 0 → eQ (I 32 2).toInt.toNat (I 32) (I 33) (I 41) (I 42) (I 71) (L 90)
/-- what a call on the equations wants of the bond -/
def kE (F : Nat) (Inv : Nat → mj_IT → mj_LT → Prop) : Prop := kG F Inv ∧
  (∀ j I L I' L', Inv j I L → (∀ a, ¬ (41 ≤ a ∧ a ≤ 50) → a ≠ 71 → a ≠ 88 → I' a = I a) → (∀ k, k ≠ 22 → k ≠ 23 → k ≠ 38 → I' 71 k = I 71 k) → I 32 1 = 1 → I' 41 4 = I' 32 0 → I' 71 22 = 1 → eI I' L' → (∀ a, a ≠ 89 → a ≠ 90 → L' a = L a) → Inv j I' L') ∧
  (∀ j I L, j < 512 → Inv j I L → odQ (L 97) ∧ eI I L ∧ (I 71 22 = 0 ∨ I 71 22 = 1) ∧ (I 32 1 = 1 → (I 41 4 = I 32 0 ↔ I 71 22 = 1)) ∧ (I 32 1 = 0 → I 71 22 = 0 ∧ ¬ I 41 4 = I 32 0 + 1))
def eF (I : mj_IT) (L : mj_LT) : Prop := odQ (L 97) ∧ eI I L ∧ (I 71 22 = 0 ∨ I 71 22 = 1) ∧ (I 32 1 = 1 → (I 41 4 = I 32 0 ↔ I 71 22 = 1)) ∧ (I 32 1 = 0 → I 71 22 = 0 ∧ ¬ I 41 4 = I 32 0 + 1)
theorem gG_inv {F : Nat} {Inv : Nat → mj_IT → mj_LT → Prop} (hK : kG F Inv) {j : Nat} {I : mj_IT} {L : mj_LT} (hj : j < 512) (hI : Inv j I L) (hQ : gQ F I) {a : T9} {b : T8} (hl : lQ I a b) {I3 : mj_IT} {L3 : mj_LT} (hfr : ∀ x, ¬ (32 ≤ x ∧ x ≤ 40) → ¬ (70 ≤ x ∧ x ≤ 72) → ¬ (80 ≤ x ∧ x ≤ 86) → I3 x = I x) (hG : rG I3 = a) (hL : rL I3 (I3 71) = (I3 71, b.2)) (h71 : ∀ k, k ≠ 0 → I3 71 k = b.1 k) (hr : rfQ I3) (hLf : frL L L3) : Inv (j + 1) I3 L3 :=
  hK.2.1 j I L _ _ hj hI (fr_go hQ.1 (fun z => (hQ.2.2.1 z).1) hl hfr hG hL h71) hLf hr
theorem eG_inv {F : Nat} {Inv : Nat → mj_IT → mj_LT → Prop} (hKE : kE F Inv) {j : Nat} {I : mj_IT} {L : mj_LT} (hj : j < 512) (hI : Inv j I L) (hQ : gQ F I) {a : T9} {b : T8} (hl : lQ I a b) {I3 : mj_IT} {L3 : mj_LT} (hfr : ∀ x, ¬ (32 ≤ x ∧ x ≤ 50) → ¬ (70 ≤ x ∧ x ≤ 72) → ¬ (80 ≤ x ∧ x ≤ 86) → x ≠ 88 → I3 x = I x) (hG : rG I3 = a) (hL : rL I3 (I3 71) = (I3 71, b.2)) (hr : rfQ I3) (h71 : ∀ k, k ≠ 0 → k ≠ 22 → k ≠ 23 → k ≠ 38 → I3 71 k = b.1 k) (h4 : I3 41 4 = a.1 0) (h22 : I3 71 22 = 1) (he : eQ (a.1 2).toInt.toNat a.1 a.2.1 (I3 41) (I3 42) (I3 71) (L3 90)) (hLf : ∀ x, x ≠ 89 → x ≠ 90 → x ≠ 98 → L3 x = L x) : Inv (j + 1) I3 L3 := by
  let J : mj_IT := fun x => if 41 ≤ x ∧ x ≤ 50 then I x else if x = 88 then I 88 else if x = 71 then (fun k => if k = 0 then I3 71 0 else b.1 k) else I3 x
  let LJ : mj_LT := fun x => if x = 89 ∨ x = 90 then L x else L3 x
  have hJ : ∀ x, ¬ (41 ≤ x ∧ x ≤ 50) → x ≠ 88 → x ≠ 71 → J x = I3 x := by
    intro x x1 x2 x3
    show (if 41 ≤ x ∧ x ≤ 50 then I x else if x = 88 then I 88 else if x = 71 then (fun k => if k = 0 then I3 71 0 else b.1 k) else I3 x) = I3 x
    rw [if_neg x1, if_neg x2, if_neg x3]
  have hJ71 : J 71 = fun k => if k = 0 then I3 71 0 else b.1 k := rfl
  have hGJ : rG J = a := by
    rw [← hG]
    unfold rG
    rw [hJ 32 (by decide) (by decide) (by decide), hJ 33 (by decide) (by decide) (by decide), hJ 34 (by decide) (by decide) (by decide), hJ 35 (by decide) (by decide) (by decide), hJ 36 (by decide) (by decide) (by decide), hJ 37 (by decide) (by decide) (by decide), hJ 38 (by decide) (by decide) (by decide), hJ 39 (by decide) (by decide) (by decide), hJ 40 (by decide) (by decide) (by decide)]
  have hLJ : rL J (J 71) = (J 71, b.2) := by
    have h9 : ∀ f, rL J f = rL I3 f := by
      intro f
      unfold rL
      rw [hJ 80 (by decide) (by decide) (by decide), hJ 81 (by decide) (by decide) (by decide), hJ 82 (by decide) (by decide) (by decide), hJ 83 (by decide) (by decide) (by decide), hJ 84 (by decide) (by decide) (by decide), hJ 85 (by decide) (by decide) (by decide), hJ 86 (by decide) (by decide) (by decide)]
    rw [h9]
    exact rL_eq hL _
  have i1 : Inv (j + 1) J LJ := by
    refine gG_inv hKE.1 hj hI hQ hl (fun x x1 x2 x3 => ?_) hGJ hLJ (fun k hk => ?_) ?_ (fun x hx => ?_)
    · by_cases e1 : 41 ≤ x ∧ x ≤ 50
      · show (if 41 ≤ x ∧ x ≤ 50 then I x else _) = I x
        rw [if_pos e1]
      · by_cases e2 : x = 88
        · rw [e2]; rfl
        · rw [hJ x e1 e2 (by omega)]
          exact hfr x (by omega) x2 x3 e2
    · rw [hJ71]
      show (if k = 0 then _ else b.1 k) = b.1 k
      rw [if_neg hk]
    · intro k hk
      rw [hJ 70 (by decide) (by decide) (by decide), hJ 72 (by decide) (by decide) (by decide)]
      exact hr k hk
    · show (if x = 89 ∨ x = 90 then L x else L3 x) = L x
      by_cases e : x = 89 ∨ x = 90
      · rw [if_pos e]
      · rw [if_neg e]; exact hLf x (fun z => e (Or.inl z)) (fun z => e (Or.inr z)) hx
  have e32 : I3 32 = a.1 := by rw [← hG]; rfl
  have e33 : I3 33 = a.2.1 := by rw [← hG]; rfl
  refine hKE.2.1 (j + 1) J LJ I3 L3 i1 (fun x x1 x2 x3 => (hJ x x1 x3 x2).symm) (fun k k1 k2 k3 => ?_) ?_ ?_ h22 (fun _ _ => ?_) (fun x x1 x2 => ?_)
  · rw [hJ71]
    by_cases e : k = 0
    · rw [e]; rfl
    · show I3 71 k = (if k = 0 then _ else b.1 k)
      rw [if_neg e]; exact h71 k e k1 k2 k3
  · rw [hJ 32 (by decide) (by decide) (by decide), e32]
    exact hl.2.2.2.1
  · rw [e32]; exact h4
  · rw [e32, e33]; exact he
  · show L3 x = (if x = 89 ∨ x = 90 then L x else L3 x)
    rw [if_neg (by omega)]
/-- what solving leaves -/
def sP (n : Nat) (r32 r33 r71 c41 c42 f : Nat → Int32) (q90 : Nat → Int64) : Prop := c41 4 = r32 0 ∧ f 22 = 1 ∧ (∀ k, k ≠ 22 → k ≠ 23 → k ≠ 38 → f k = r71 k) ∧ eQ n r32 r33 c41 c42 f q90
def gGab (I : mj_IT) (a : T9) (b : T8) (n : Nat) (fr na : Nat → Nat) (tg : Nat → Nat → Nat) (sh : Nat → Nat → Int) : Prop := gG (I 18 0).toInt n fr na tg sh a.1 a.2.1 a.2.2.1 a.2.2.2.1 a.2.2.2.2.1 a.2.2.2.2.2.1 a.2.2.2.2.2.2.1 a.2.2.2.2.2.2.2.1 b.1 b.2.1 b.2.2.1 b.2.2.2.1 b.2.2.2.2.1 b.2.2.2.2.2.1 b.2.2.2.2.2.2.1 b.2.2.2.2.2.2.2
theorem q_solve (F : Nat) (hF : 50000 ≤ F) {I : mj_IT} {L : mj_LT} (hQ : gQ F I) (hE : eF I L) {a : T9} {b : T8} (hl : lQ I a b) {n : Nat} {fr na : Nat → Nat} {tg : Nat → Nat → Nat} {sh : Nat → Nat → Int} (hG : gGab I a b n fr na tg sh) :
    ∃ oc or_, fnX2_solve F a.1 a.2.1 a.2.2.2.2.1 a.2.2.2.2.2.1 a.2.2.2.2.2.2.1 a.2.2.2.2.2.2.2.1 (I 41) (I 42) (I 43) (I 44) (I 45) (I 46) (I 50) = some oc ∧ fnX11_solves F b.1 b.2.2.2.2.1 b.2.2.2.2.2.1 b.2.2.2.2.2.2.1 b.2.2.2.2.2.2.2 (I 88) (L 89) (L 90) (L 97) = some or_ ∧ oc.1 = or_.1 ∧ (oc.1 = 0 ∨ oc.1 = 1) ∧ oc.2.1 5 = oc.1 ∧ sP n a.1 a.2.1 b.1 oc.2.1 oc.2.2.1 or_.2.1 or_.2.2.2.2 := by
  obtain ⟨q0, q1, q2, q3, q4, q5, q6⟩ := id hl
  obtain ⟨o1, o2, o3, o4, o5⟩ := hE
  have b22 : b.1 22 = I 71 22 := (q5 22 (by decide) (by decide) (by decide) (by decide) (by decide)).trans (upd_ne (by decide))
  have b23 : b.1 23 = I 71 23 := (q5 23 (by decide) (by decide) (by decide) (by decide) (by decide)).trans (upd_ne (by decide))
  have hiff : I 41 4 = a.1 0 ↔ b.1 22 = 1 := by
    rw [b22]
    rcases hQ.1 with z | z
    · rw [q2 z]
      exact iff_of_false (o5 z).2 (by rw [(o5 z).1]; decide)
    · rw [q1 z]; exact o4 z
  have hn : (a.1 2).toInt.toNat = n := by
    have := hG.1.2.2.1
    omega
  have hcache : I 41 4 = a.1 0 → eQ n a.1 a.2.1 (I 41) (I 42) b.1 (L 90) := by
    intro hz
    rcases hQ.1 with z | z
    · exact absurd (hz.trans (q2 z)) (o5 z).2
    · have ea := q1 z
      rw [ea] at hz
      have h9 := o2 z hz
      rw [← hn, ea]
      refine ⟨?_, h9.2⟩
      rw [b23]; exact h9.1
  obtain ⟨oc, or_, h1, h2, h3, h4, h5, h6, h7, h8, h9⟩ := s2_solve F hF (r43 := I 43) (r44 := I 44) (r45 := I 45) (r46 := I 46) (r50 := I 50) (r88 := I 88) (q89 := L 89) hG o1 (by rw [b22]; exact o3) hiff hcache
  exact ⟨oc, or_, h1, h2, h3, h4, h6, h5, h7, h8, h9⟩
theorem s11_hasEnd (F : Nat) (hF : 600 ≤ F) {n : Nat} (hn : n ≤ 200) {r71 r80 : Nat → Int32} (h24 : (r71 24).toInt = (n : Nat)) : sp (mj_it (mj_u2 (fun z0 z1 => bdX11_hasEnd_4 F r71 r80 z0 z1)) F ((0 : Int32), (0 : Int32))) (fun e => (e = 0 ∧ ce r80 (r71 4) n = 0) ∨ (e = 1 ∧ ¬ ce r80 (r71 4) n = 0)) := by
  have e0 : (0 : Int32).toInt = 0 := rfl
  refine sp_cnt (fun s : Int32 × Int32 => s.2) n (by omega) (fun i s => (s.1 = 0 ∧ ce r80 (r71 4) i = 0) ∨ (s.1 = 1 ∧ ¬ ce r80 (r71 4) i = 0)) ?_ F 0 _ (by omega) e0 (Or.inl ⟨rfl, rfl⟩) (by omega)
  rintro i ⟨y, x⟩ hi hx hcx hxs hJ
  refine sp_u2 ?_
  dsimp only at hx hcx hxs hJ
  have hs : ce r80 (r71 4) (i + 1) = ce r80 (r71 4) i + if r80 i = r71 4 then 1 else 0 := rfl
  unfold bdX11_hasEnd_4
  refine sp_ite (fun hw => sp_some ?_) (fun hw2 => ?_)
  · have := i_le.mp hw
    have : i = n := by omega
    subst this
    exact hJ
  · have hw3 : ¬ (r71 24).toInt ≤ x.toInt := fun q => hw2 (i_le.mpr q)
    have hin : i < n := by omega
    have hib : mj_ib x 200 = true := mj_ib_of (by omega) (by omega)
    rcases hJ with ⟨rfl, j2⟩ | ⟨rfl, j2⟩
    · refine sp_pos rfl ?_
      unfold fnX11_isEnd
      rw [if_pos hib, hcx]
      by_cases q : r80 i = r71 4
      · rw [if_pos q, Option.bind_some, if_neg (show ¬ (1 : Int32) = 0 from by decide)]
        refine sp_some ⟨hin, rfl, Or.inr ⟨rfl, ?_⟩⟩
        rw [hs, if_pos q]; omega
      · rw [if_neg q, Option.bind_some, if_pos rfl]
        refine sp_some ⟨hin, rfl, Or.inl ⟨rfl, ?_⟩⟩
        rw [hs, if_neg q]; omega
    · refine sp_neg (by decide) (sp_some ⟨hin, rfl, Or.inr ⟨rfl, ?_⟩⟩)
      rw [hs]; omega
theorem ce_congr {r r' : Nat → Int32} {c c' : Int32} (hc : c = c') : ∀ n, (∀ s, s < n → r s = r' s) → ce r c n = ce r' c' n := by
  intro n
  induction n with
  | zero => intro _; rfl
  | succ n ih =>
    intro h
    show ce r c n + (if r n = c then 1 else 0) = ce r' c' n + (if r' n = c' then 1 else 0)
    rw [ih (fun s hs => h s (by omega)), h n (by omega), hc]
theorem q_hasEnd (F : Nat) (hF : 600 ≤ F) {I : mj_IT} {a : T9} {b : T8} {n : Nat} {fr na : Nat → Nat} {tg : Nat → Nat → Nat} {sh : Nat → Nat → Int} (hG : gGab I a b n fr na tg sh) (b0 : b.1 0 = 0) (r72 : Nat → Int32) :
    (¬ a.1 4 = 0 ∧ fnX11_hasEnd F b.1 r72 b.2.1 = some (1, b.1, r72)) ∨ (a.1 4 = 0 ∧ fnX11_hasEnd F b.1 r72 b.2.1 = some (0, upd b.1 0 1, upd r72 2 (r72 2 + 1))) := by
  obtain ⟨⟨g1, g2, g3, g4⟩, ⟨z1, z2, z3, z4, z5, z6⟩, g6, g7, gA, gR, gH, g8, g9, g10, g11, g12⟩ := hG
  have e0 : (0 : Int32).toInt = 0 := rfl
  have hc : ce b.2.1 (b.1 4) n = ce a.2.1 (a.1 7) n := ce_congr (i_eq.mpr (by omega)) n (fun s hs => (g6 s hs).1)
  obtain ⟨e, h1, h2⟩ := s11_hasEnd F hF g2 (r80 := b.2.1) g4
  rw [hc] at h2
  unfold fnX11_hasEnd
  rw [h1, Option.bind_some]
  rcases h2 with ⟨rfl, h2⟩ | ⟨rfl, h2⟩
  · right
    refine ⟨i_eq.mpr (by omega), ?_⟩
    rw [q_fine0 F b0 (show ¬ (1 : Int32) = 0 from by decide) (by decide), Option.bind_some, if_pos (show mj_bb 0 = true from by decide)]
    rfl
  · left
    refine ⟨fun z => h2 (by rw [z] at g9; omega), ?_⟩
    rw [q_fine F b0, Option.bind_some, if_pos (show mj_bb 1 = true from by decide)]
/-- dividing by the odds of ending -/
theorem q_div (F : Nat) (hF : 50000 ≤ F) {I : mj_IT} {L : mj_LT} (hQ : gQ F I) (hE : eF I L) {a : T9} {b : T8} (hl : lQ I a b) {n : Nat} {fr na : Nat → Nat} {tg : Nat → Nat → Nat} {sh : Nat → Nat → Int} (hG : gGab I a b n fr na tg sh) :
    ∃ oc or_, fnX2_canDivide F a.1 a.2.1 a.2.2.2.2.1 a.2.2.2.2.2.1 a.2.2.2.2.2.2.1 a.2.2.2.2.2.2.2.1 (I 41) (I 42) (I 43) (I 44) (I 45) (I 46) (I 50) = some oc ∧ fnX11_isSure F b.1 b.2.1 b.2.2.2.2.1 b.2.2.2.2.2.1 b.2.2.2.2.2.2.1 b.2.2.2.2.2.2.2 (I 88) (L 89) (L 90) (L 97) = some or_ ∧ sP n a.1 a.2.1 b.1 oc.2.1 oc.2.2.1 or_.2.1 or_.2.2.2.2 ∧ ((oc.1 = 0 ∧ or_.1 = 0) ∨ (oc.1 = 1 ∧ or_.1 = 1 ∧ suQ n a.1 a.2.1 oc.2.2.1 oc.2.1 ∧ (∀ t, t < n → fd (oc.2.2.1 t).toInt ∧ (or_.2.2.2.2 t).toInt = (oc.2.2.1 t).toInt) ∧ ¬ cg (at_ n (en_ a.2.1 (a.1 7)) (fun t => (oc.2.2.1 t).toInt)) 0)) := by
  obtain ⟨oc, or_, h1, h2, h3, h4, h5, h6⟩ := q_solve F hF hQ hE hl hG
  obtain ⟨⟨g1, g2, g3, g4⟩, ⟨z1, z2, z3, z4, z5, z6⟩, g6, g7, gA, gR, gH, g8, g9, g10, g11, g12⟩ := id hG
  have e0 : (0 : Int32).toInt = 0 := rfl
  have l0 : (0 : Int64).toInt = 0 := rfl
  unfold fnX2_canDivide fnX11_isSure
  rw [h1, h2, Option.bind_some, Option.bind_some, ← h3]
  rcases h4 with z | z
  · rw [if_pos z, if_pos z]
    exact ⟨_, _, rfl, rfl, h6, Or.inl ⟨rfl, rfl⟩⟩
  · have hn0 : ¬ oc.1 = 0 := by rw [z]; decide
    rw [if_neg hn0, if_neg hn0]
    have h7 := h6.2.2.2.2
    rw [h5] at h7
    rcases h7 with w | ⟨-, w1, w2⟩
    · exact absurd w hn0
    · have f4 : or_.2.1 4 = b.1 4 := h6.2.2.1 4 (by decide) (by decide) (by decide)
      have f24 : or_.2.1 24 = b.1 24 := h6.2.2.1 24 (by decide) (by decide) (by decide)
      obtain ⟨e, x1, x2⟩ := s11_ended F (by omega) g2 (r71 := or_.2.1) (r80 := b.2.1) (q90 := or_.2.2.2.2) (by rw [f24]; exact g4) (fun t ht => by rw [(w2 t ht).2]; exact (w2 t ht).1)
      have hE4 : b.1 4 = a.1 7 := i_eq.mpr (by omega)
      have x3 : at_ n (en_ b.2.1 (or_.2.1 4)) (fun t => (or_.2.2.2.2 t).toInt) = at_ n (en_ a.2.1 (a.1 7)) (fun t => (oc.2.2.1 t).toInt) := by
        rw [f4, hE4]
        refine at_eq (fun t ht => ?_) (fun t ht => (w2 t ht).2)
        unfold en_
        rw [(g6 t ht).1]
      rw [x3, ← w1.1] at x2
      rw [x1, Option.bind_some]
      by_cases q : oc.2.1 0 = 0
      · have q2 : e = 0 := l_eq.mpr (by rw [x2, q]; rfl)
        rw [if_pos q, if_pos q2]
        exact ⟨_, _, rfl, rfl, h6, Or.inl ⟨rfl, rfl⟩⟩
      · have q2 : ¬ e = 0 := fun w => q (i_eq.mpr (by rw [← x2, w]; rfl))
        rw [if_neg q, if_neg q2]
        refine ⟨_, _, rfl, rfl, h6, Or.inr ⟨rfl, rfl, w1, w2, fun w => q (i_eq.mpr ?_)⟩⟩
        rw [w1.1]
        exact w
