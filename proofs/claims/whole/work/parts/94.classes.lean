/-! ===== classes, classOf ===== -/
def luI (I : mj_IT) : Prop := I 32 1 = 1 → ∀ v, v < 6 → I 56 v = I 32 0 → ∃ (n : Nat) (fr na : Nat → Nat) (tg : Nat → Nat → Nat) (sh : Nat → Nat → Int), gG (I 18 0).toInt n fr na tg sh (I 32) (I 33) (I 34) (I 35) (I 36) (I 37) (I 38) (I 39) (I 71) (I 80) (I 81) (I 82) (I 83) (I 84) (I 85) (I 86) ∧ lbQ n na tg sh (kdF (I 32) (I 33) (I 34) v) v (I 57) (I 58)
def z64 (I : mj_IT) : Prop := ∀ b, b < 200 → (I 64 b).toInt = 0
/-- what a call on the classes wants of the bond -/
def kU (F : Nat) (Inv : Nat → mj_IT → mj_LT → Prop) : Prop := kG F Inv ∧
  (∀ j I L I', Inv j I L → (∀ a, ¬ (56 ≤ a ∧ a ≤ 64) → ¬ (93 ≤ a ∧ a ≤ 95) → I' a = I a) → I 32 1 = 1 → (∀ v, v < 6 → I' 56 v = I 56 v ∨ I' 56 v = I 32 0) → luI I' → z64 I' → Inv j I' L) ∧
  (∀ j I L, j < 512 → Inv j I L → luI I ∧ z64 I ∧ (I 32 1 = 0 → ∀ v, v < 6 → ¬ I 56 v = I 32 0 + 1))
theorem uG_inv {F : Nat} {Inv : Nat → mj_IT → mj_LT → Prop} (hKU : kU F Inv) {j : Nat} {I : mj_IT} {L : mj_LT} (hj : j < 512) (hI : Inv j I L) (hQ : gQ F I) {a : T9} {b : T8} (hl : lQ I a b) {I3 : mj_IT} {L3 : mj_LT} (hfr : ∀ x, ¬ (32 ≤ x ∧ x ≤ 40) → ¬ (56 ≤ x ∧ x ≤ 64) → ¬ (70 ≤ x ∧ x ≤ 72) → ¬ (80 ≤ x ∧ x ≤ 86) → ¬ (93 ≤ x ∧ x ≤ 95) → I3 x = I x) (hG : rG I3 = a) (hL : rL I3 (I3 71) = (I3 71, b.2)) (hr : rfQ I3) (h71 : ∀ k, k ≠ 0 → I3 71 k = b.1 k) (h56 : ∀ v, v < 6 → I3 56 v = I 56 v ∨ I3 56 v = a.1 0) (hlu : luI I3) (hz : z64 I3) (hLf : frL L L3) : Inv (j + 1) I3 L3 := by
  let J : mj_IT := fun x => if (56 ≤ x ∧ x ≤ 64) ∨ (93 ≤ x ∧ x ≤ 95) then I x else I3 x
  have hJ : ∀ x, ¬ ((56 ≤ x ∧ x ≤ 64) ∨ (93 ≤ x ∧ x ≤ 95)) → J x = I3 x := by
    intro x x1
    show (if (56 ≤ x ∧ x ≤ 64) ∨ (93 ≤ x ∧ x ≤ 95) then I x else I3 x) = I3 x
    rw [if_neg x1]
  have hJ2 : ∀ x, ((56 ≤ x ∧ x ≤ 64) ∨ (93 ≤ x ∧ x ≤ 95)) → J x = I x := by
    intro x x1
    show (if (56 ≤ x ∧ x ≤ 64) ∨ (93 ≤ x ∧ x ≤ 95) then I x else I3 x) = I x
    rw [if_pos x1]
  have hGJ : rG J = a := by
    rw [← hG]
    unfold rG
    rw [hJ 32 (by decide), hJ 33 (by decide), hJ 34 (by decide), hJ 35 (by decide), hJ 36 (by decide), hJ 37 (by decide), hJ 38 (by decide), hJ 39 (by decide), hJ 40 (by decide)]
  have hLJ : rL J (J 71) = (J 71, b.2) := by
    have h9 : ∀ f, rL J f = rL I3 f := by
      intro f
      unfold rL
      rw [hJ 80 (by decide), hJ 81 (by decide), hJ 82 (by decide), hJ 83 (by decide), hJ 84 (by decide), hJ 85 (by decide), hJ 86 (by decide)]
    rw [h9, hJ 71 (by decide)]
    exact hL
  have i1 : Inv (j + 1) J L3 := by
    refine gG_inv hKU.1 hj hI hQ hl (fun x x1 x2 x3 => ?_) hGJ hLJ (fun k hk => ?_) ?_ hLf
    · by_cases e1 : (56 ≤ x ∧ x ≤ 64) ∨ (93 ≤ x ∧ x ≤ 95)
      · exact hJ2 x e1
      · rw [hJ x e1]
        exact hfr x x1 (fun z => e1 (Or.inl z)) x2 x3 (fun z => e1 (Or.inr z))
    · rw [hJ 71 (by decide)]; exact h71 k hk
    · intro k hk
      rw [hJ 70 (by decide), hJ 72 (by decide)]
      exact hr k hk
  have e32 : I3 32 = a.1 := by rw [← hG]; rfl
  refine hKU.2.1 (j + 1) J L3 I3 i1 (fun x x1 x2 => (hJ x (fun z => z.elim x1 x2)).symm) ?_ (fun v hv => ?_) hlu hz
  · rw [hJ 32 (by decide), e32]
    exact hl.2.2.2.1
  · rw [hJ2 56 (by decide), hJ 32 (by decide), e32]
    exact h56 v hv
theorem rk_congr {c e : Nat → Nat} : ∀ m, (∀ i, i < m → c i = e i) → rk_ c m = rk_ e m := by
  intro m
  induction m with
  | zero => intro _; rfl
  | succ m ih =>
    intro h
    have h1 := ih (fun i hi => h i (by omega))
    unfold rk_ at *
    rw [cn_s, cn_s, h1]
    have : ld c m = ld e m := by unfold ld; rw [h m (by omega)]
    rw [this]
theorem uG_of {I : mj_IT} {a : T9} {b : T8} {n : Nat} {fr na : Nat → Nat} {tg : Nat → Nat → Nat} {sh : Nat → Nat → Int} (hG : gGab I a b n fr na tg sh) : uG n fr na tg sh a.2.2.2.2.2.1 a.2.2.2.2.2.2.1 a.2.2.2.2.2.2.2.1 ∧ vG n na tg sh a.1 a.2.1 a.2.2.1 b.1 b.2.1 b.2.2.1 b.2.2.2.2.1 b.2.2.2.2.2.1 b.2.2.2.2.2.2.1 ∧ ∀ t, t < n → sx (a.2.2.1 t) := by
  obtain ⟨⟨g1, g2, g3, g4⟩, ⟨z1, z2, z3, z4, z5, z6⟩, g6, g7, gA, gR, gH, -⟩ := hG
  refine ⟨⟨g2, gA, fun s hs k hk => ?_⟩, ⟨g2, g4, i_eq.mpr (by omega), gR, fun s hs k hk => ?_, fun s hs => ⟨(g6 s hs).1, (g6 s hs).2.1, (g6 s hs).2.2.2.2.2.1, by rw [z3]; exact (g6 s hs).2.2.2.2.1, by rw [z3]; exact (gH s hs).2.2⟩⟩, fun t ht => (g6 t ht).2.2.2.2.2.1⟩
  · have := (gH s hs).1 k hk
    exact ⟨this.1, this.2.2.1, this.2.2.2⟩
  · have := (gH s hs).1 k hk
    exact ⟨this.2.1, this.2.2.1, this.2.2.2⟩
theorem q_lump (F : Nat) (hF : 3000 ≤ F) {I : mj_IT} (hQ : gQ F I) (hlu : luI I) (hz : z64 I) (hvs : I 32 1 = 0 → ∀ v, v < 6 → ¬ I 56 v = I 32 0 + 1) (ht : tens (I 87)) {a : T9} {b : T8} (hl : lQ I a b) (hX : gX I a b) {x1 : Int32} (hv : vr x1) :
    ∃ (n : Nat) (fr na : Nat → Nat) (tg : Nat → Nat → Nat) (sh : Nat → Nat → Int) (oc : (Nat → Int32) × (Nat → Int32) × (Nat → Int32) × (Nat → Int32) × (Nat → Int32) × (Nat → Int32) × (Nat → Int32) × (Nat → Int32) × (Nat → Int32)) (op_ : (Nat → Int32) × (Nat → Int32) × (Nat → Int32)) (c : Nat → Nat), gGab I a b n fr na tg sh ∧ fnX6_find F a.1 a.2.1 a.2.2.1 a.2.2.2.2.2.1 a.2.2.2.2.2.2.1 a.2.2.2.2.2.2.2.1 (I 56) (I 57) (I 58) (I 59) (I 60) (I 61) (I 62) (I 63) (I 64) x1 = some oc ∧ fnX11_parts F b.1 b.2.1 b.2.2.1 b.2.2.2.2.1 b.2.2.2.2.2.1 b.2.2.2.2.2.2.1 (I 87) (I 93) (I 94) (I 95) x1 = some op_ ∧ (∀ i, i < n → c i < n ∧ (op_.1 i).toInt = (c i : Nat) ∧ (oc.2.2.1 (200 * x1.toNatClampNeg + i)).toInt = (rk_ c (c i) : Nat)) ∧ (oc.2.1 x1.toNatClampNeg).toInt = (rk_ c n : Nat) ∧ oc.1 x1.toNatClampNeg = a.1 0 ∧ lbQ n na tg sh (kdF a.1 a.2.1 a.2.2.1 x1.toNatClampNeg) x1.toNatClampNeg oc.2.1 oc.2.2.1 ∧ (∀ v, v ≠ x1.toNatClampNeg → oc.1 v = I 56 v ∧ oc.2.1 v = I 57 v ∧ ∀ i, i < 200 → oc.2.2.1 (200 * v + i) = I 58 (200 * v + i)) ∧ ∀ b, b < 200 → (oc.2.2.2.2.2.2.2.2 b).toInt = 0 := by
  obtain ⟨q0, q1, q2, q3, q4, q5, q6⟩ := id hl
  have hv6 : x1.toNatClampNeg < 6 := by rw [i_cl]; have := hv.1; have := hv.2; omega
  have hW : ∃ (n : Nat) (fr na : Nat → Nat) (tg : Nat → Nat → Nat) (sh : Nat → Nat → Int), gGab I a b n fr na tg sh ∧ (I 56 x1.toNatClampNeg = a.1 0 → lbQ n na tg sh (kdF a.1 a.2.1 a.2.2.1 x1.toNatClampNeg) x1.toNatClampNeg (I 57) (I 58)) := by
    by_cases hc : I 56 x1.toNatClampNeg = a.1 0
    · rcases hQ.1 with z | z
      · exact absurd (hc.trans (q2 z)) (hvs z _ hv6)
      · have ea := q1 z
        subst ea
        obtain ⟨n, fr, na, tg, sh, w1, w2⟩ := hlu z _ hv6 hc
        refine ⟨n, fr, na, tg, sh, ?_, fun _ => w2⟩
        have eb := q0 (hQ.2.2.1 z).1
        subst eb
        exact gG_congr (r71 := I 71) (g := upd (I 71) 0 0) (upd_ne (by decide)) (upd_ne (by decide)) (upd_ne (by decide)) (upd_ne (by decide)) w1
    · obtain ⟨n, fr, na, tg, sh, hG⟩ := hX
      exact ⟨n, fr, na, tg, sh, hG, fun z => absurd z hc⟩
  obtain ⟨n, fr, na, tg, sh, hG, hc⟩ := hW
  obtain ⟨hu, hvg, hsx⟩ := uG_of hG
  obtain ⟨⟨g1, g2, g3, g4⟩, -⟩ := id hG
  obtain ⟨oc, x1', x2, x3, x4, x5⟩ := s6_find F hF (r56 := I 56) (r57 := I 57) (r58 := I 58) (r59 := I 59) (r60 := I 60) (r61 := I 61) (r62 := I 62) (r63 := I 63) (r64 := I 64) hu (by omega) g3 hsx hz hv hc
  obtain ⟨op_, y1, c, y2, y3, y4⟩ := s11_parts F (by omega) (r93 := I 93) (r94 := I 94) (r95 := I 95) hvg ht hv
  obtain ⟨e, e1, e2, e3⟩ := id x3
  have hce := fin_one (uG_t hu) e1 y2
  refine ⟨n, fr, na, tg, sh, oc, op_, c, hG, x1', y1, fun i hi => ⟨by have := (y3.1 i hi).1; omega, y4 i hi, ?_⟩, ?_, x2, x3, x4, x5⟩
  · rw [e2 i hi, hce i hi]
    have hci := (y3.1 i hi).1
    rw [rk_congr (c i) (fun k hk => hce k (by omega))]
  · rw [e3, rk_congr n hce]
theorem qq_classes (F : Nat) (hF : 50000 ≤ F) {I : mj_IT} (hQ : gQ F I) (hlu : luI I) (hz : z64 I) (hvs : I 32 1 = 0 → ∀ v, v < 6 → ¬ I 56 v = I 32 0 + 1) (ht : tens (I 87)) (hw : ∃ a b, lQ I a b ∧ exG F I = some a ∧ lyG F I (rL I (upd (I 71) 0 0)) = some b ∧ b.1 0 = 0 ∧ ((gX I a b ∧ a.1 6 = 0 ∧ b.1 21 = 0 ∧ nsG F I = some (.inl (a.1, a.2.1, a.2.2.1, a.2.2.2.1, a.2.2.2.2.1, a.2.2.2.2.2.1, a.2.2.2.2.2.2.1, a.2.2.2.2.2.2.2.1, a.2.2.2.2.2.2.2.2, I 70)) ∧ fwG F I = some (1, b.1, I 72, b.2)) ∨ (a.1 6 = 1 ∧ b.1 21 = 1 ∧ nsG F I = some (.inr (2, a.1, a.2.1, a.2.2.1, a.2.2.2.1, a.2.2.2.2.1, a.2.2.2.2.2.1, a.2.2.2.2.2.2.1, a.2.2.2.2.2.2.2.1, a.2.2.2.2.2.2.2.2, upd (I 70) 2 (I 70 2 + 1))) ∧ fwG F I = some (0, upd b.1 0 1, upd (I 72) 2 (I 72 2 + 1), b.2)))) (x1 : Int32) :
    ∃ (a : T9) (b : T8), lQ I a b ∧ b.1 0 = 0 ∧ ((∃ (v : Int32) (c56 c57 c58 c59 c60 c61 c62 c63 c64 c93 c94 c95 : Nat → Int32), fnX10_classes F (I 1) (I 18) (I 19) (I 20) (I 21) (I 22) (I 23) (I 24) (I 25) (I 26) (I 32) (I 33) (I 34) (I 35) (I 36) (I 37) (I 38) (I 39) (I 40) (I 56) (I 57) (I 58) (I 59) (I 60) (I 61) (I 62) (I 63) (I 64) (I 70) x1 = some (.inl (v, a.1, a.2.1, a.2.2.1, a.2.2.2.1, a.2.2.2.2.1, a.2.2.2.2.2.1, a.2.2.2.2.2.2.1, a.2.2.2.2.2.2.2.1, a.2.2.2.2.2.2.2.2, c56, c57, c58, c59, c60, c61, c62, c63, c64, I 70)) ∧ fnX11_classes F (I 71) (I 72) (I 73) (I 75) (I 80) (I 81) (I 82) (I 83) (I 84) (I 85) (I 86) (I 87) (I 93) (I 94) (I 95) x1 = some (v, b.1, I 72, b.2.1, b.2.2.1, b.2.2.2.1, b.2.2.2.2.1, b.2.2.2.2.2.1, b.2.2.2.2.2.2.1, b.2.2.2.2.2.2.2, c93, c94, c95) ∧ (∀ v, v < 6 → (c56 v = I 56 v ∧ c57 v = I 57 v ∧ ∀ i, i < 200 → c58 (200 * v + i) = I 58 (200 * v + i)) ∨ (c56 v = a.1 0 ∧ ∃ (n : Nat) (fr na : Nat → Nat) (tg : Nat → Nat → Nat) (sh : Nat → Nat → Int), gGab I a b n fr na tg sh ∧ lbQ n na tg sh (kdF a.1 a.2.1 a.2.2.1 v) v c57 c58)) ∧ ∀ b, b < 200 → (c64 b).toInt = 0) ∨ (∃ (k : Nat) (e : Int32) (t : Nat), ok_classes k = true ∧ wk_classes k = e ∧ ¬ e = 0 ∧ t < 3 ∧ fnX10_classes F (I 1) (I 18) (I 19) (I 20) (I 21) (I 22) (I 23) (I 24) (I 25) (I 26) (I 32) (I 33) (I 34) (I 35) (I 36) (I 37) (I 38) (I 39) (I 40) (I 56) (I 57) (I 58) (I 59) (I 60) (I 61) (I 62) (I 63) (I 64) (I 70) x1 = some (.inr (k, a.1, a.2.1, a.2.2.1, a.2.2.2.1, a.2.2.2.2.1, a.2.2.2.2.2.1, a.2.2.2.2.2.2.1, a.2.2.2.2.2.2.2.1, a.2.2.2.2.2.2.2.2, I 56, I 57, I 58, I 59, I 60, I 61, I 62, I 63, I 64, upd (I 70) t (I 70 t + 1))) ∧ fnX11_classes F (I 71) (I 72) (I 73) (I 75) (I 80) (I 81) (I 82) (I 83) (I 84) (I 85) (I 86) (I 87) (I 93) (I 94) (I 95) x1 = some (0, upd b.1 0 e, upd (I 72) t (I 72 t + 1), b.2.1, b.2.2.1, b.2.2.2.1, b.2.2.2.2.1, b.2.2.2.2.2.1, b.2.2.2.2.2.2.1, b.2.2.2.2.2.2.2, I 93, I 94, I 95))) := by
  obtain ⟨a, b, hl, ha, hb, b0, hd⟩ := hw
  refine ⟨a, b, hl, b0, ?_⟩
  have Z0 : (0 : Int32) = 0 := rfl
  have N1 : ¬ (1 : Int32) = 0 := by decide
  have N2 : ¬ (2 : Int32) = 0 := by decide
  have E0 : (0 : Int32).toNatClampNeg = 0 := rfl
  have E1 : (1 : Int32).toNatClampNeg = 1 := rfl
  have E2 : (2 : Int32).toNatClampNeg = 2 := rfl
  rcases hd with ⟨⟨n, fr, na, tg, sh, hG0⟩, m1, m2, hn, hf⟩ | ⟨m1, m2, hn, hf⟩
  · unfold nsG at hn
    unfold fwG at hf
    have hG : gGab I a b n fr na tg sh := hG0
    by_cases h0 : 0 ≤ x1.toInt ∧ x1.toInt < 6
    · have k0 := q_var_in F (I 70) h0
      have l0 := q_isName_in F h0
      have f0 := q_fine F (r72 := I 72) (c := 2) (k := 0) b0
      obtain ⟨n9, fr9, na9, tg9, sh9, oc, op_, c, hG9, w1, w2, w3, w4, w5, w6, w8, w9⟩ := q_lump F (by omega) hQ hlu hz hvs ht hl ⟨n, fr, na, tg, sh, hG0⟩ (x1 := x1) h0
      have hb24 : (b.1 24).toInt = (n9 : Nat) := hG9.1.2.2.2
      have hn9 : n9 ≤ 200 := hG9.1.2.1
      obtain ⟨v, z1, z2⟩ := s11_rank F (by omega) hn9 (r93 := op_.1) (c := c) (fun i hi => (w3 i hi).2.1) hb24
      have hcb : fnX6_countBy F oc.2.1 x1 = some v := by
        unfold fnX6_countBy
        rw [if_pos (mj_ib_of h0.1 h0.2)]
        exact congrArg some (i_eq.mpr (by rw [w4, z2]))
      left
      refine ⟨v, oc.1, oc.2.1, oc.2.2.1, oc.2.2.2.1, oc.2.2.2.2.1, oc.2.2.2.2.2.1, oc.2.2.2.2.2.2.1, oc.2.2.2.2.2.2.2.1, oc.2.2.2.2.2.2.2.2, op_.1, op_.2.1, op_.2.2, ?_, ?_, fun v hv => ?_, w9⟩
      · simp only [fnX10_classes, hn, k0, w1, hcb, Option.bind_some, Sum.elim_inl, Sum.elim_inr]
      · simp only [fnX11_classes, hf, if_neg N1, l0, f0, w2, z1, Option.bind_some, Sum.elim_inl, Sum.elim_inr]
      · by_cases e : v = x1.toNatClampNeg
        · rw [e]; exact Or.inr ⟨w5, n9, fr9, na9, tg9, sh9, hG9, w6⟩
        · exact Or.inl (w8 v e)
    · have k0 := q_var_out F (I 70) h0
      have l0 := q_isName_out F h0
      have f0 := q_fine0 F (r72 := I 72) (c := 2) (k := 0) b0 N2 (by decide)
      right
      refine ⟨0, 2, 0, rfl, rfl, by decide, by decide, ?_, ?_⟩
      · simp only [fnX10_classes, hn, k0, Option.bind_some, Sum.elim_inl, Sum.elim_inr]
      · simp only [fnX11_classes, hf, if_neg N1, eq_self, if_true, l0, f0, E0, E1, E2, Option.bind_some, Sum.elim_inl, Sum.elim_inr]
  · unfold nsG at hn
    unfold fwG at hf
    right
    refine ⟨2, 1, 2, rfl, rfl, by decide, by decide, ?_, ?_⟩
    · simp only [fnX10_classes, hn, Option.bind_some, Sum.elim_inl, Sum.elim_inr]
    · simp only [fnX11_classes, hf, eq_self, if_true, Option.bind_some, Sum.elim_inl, Sum.elim_inr]
theorem b_classes (F : Nat) (hF : 50000 ≤ F) {Inv : Nat → mj_IT → mj_LT → Prop} (hKU : kU F Inv) : pb_classes F Inv := by
  intro j hj I L hI x1
  have hK := hKU.1
  obtain ⟨hr, hp, h4, hv, hf⟩ := hK.1.2 j I L hj hI
  obtain ⟨hQ, ht, h9, h17⟩ := hK.2.2 j I L hj hI
  obtain ⟨hlu, hz, hvs⟩ := hKU.2.2 j I L hj hI
  obtain ⟨a, b, hl, b0, hd⟩ := qq_classes F hF hQ hlu hz hvs ht (q_few (gQ_go F (by omega) hp h4 ht hv hQ)) _
  rcases hd with ⟨v, c56, c57, c58, c59, c60, c61, c62, c63, c64, c93, c94, c95, q1, q2, w1, w2⟩ | ⟨k, e, t, o1, o2, o3, o4, q1, q2⟩
  · refine ⟨.inl (v, mj_rows I [(1, I 1), (18, I 18), (19, I 19), (20, I 20), (21, I 21), (22, I 22), (23, I 23), (24, I 24), (25, I 25), (26, I 26), (32, a.1), (33, a.2.1), (34, a.2.2.1), (35, a.2.2.2.1), (36, a.2.2.2.2.1), (37, a.2.2.2.2.2.1), (38, a.2.2.2.2.2.2.1), (39, a.2.2.2.2.2.2.2.1), (40, a.2.2.2.2.2.2.2.2), (56, c56), (57, c57), (58, c58), (59, c59), (60, c60), (61, c61), (62, c62), (63, c63), (64, c64), (70, I 70)], L), v, 0, mj_rows (mj_rows I [(1, I 1), (18, I 18), (19, I 19), (20, I 20), (21, I 21), (22, I 22), (23, I 23), (24, I 24), (25, I 25), (26, I 26), (32, a.1), (33, a.2.1), (34, a.2.2.1), (35, a.2.2.2.1), (36, a.2.2.2.2.1), (37, a.2.2.2.2.2.1), (38, a.2.2.2.2.2.2.1), (39, a.2.2.2.2.2.2.2.1), (40, a.2.2.2.2.2.2.2.2), (56, c56), (57, c57), (58, c58), (59, c59), (60, c60), (61, c61), (62, c62), (63, c63), (64, c64), (70, I 70)]) [(71, b.1), (72, I 72), (73, I 73), (75, I 75), (80, b.2.1), (81, b.2.2.1), (82, b.2.2.2.1), (83, b.2.2.2.2.1), (84, b.2.2.2.2.2.1), (85, b.2.2.2.2.2.2.1), (86, b.2.2.2.2.2.2.2), (87, I 87), (93, c93), (94, c94), (95, c95)], mj_rows (mj_rows (mj_rows I [(1, I 1), (18, I 18), (19, I 19), (20, I 20), (21, I 21), (22, I 22), (23, I 23), (24, I 24), (25, I 25), (26, I 26), (32, a.1), (33, a.2.1), (34, a.2.2.1), (35, a.2.2.2.1), (36, a.2.2.2.2.1), (37, a.2.2.2.2.2.1), (38, a.2.2.2.2.2.2.1), (39, a.2.2.2.2.2.2.2.1), (40, a.2.2.2.2.2.2.2.2), (56, c56), (57, c57), (58, c58), (59, c59), (60, c60), (61, c61), (62, c62), (63, c63), (64, c64), (70, I 70)]) [(71, b.1), (72, I 72), (73, I 73), (75, I 75), (80, b.2.1), (81, b.2.2.1), (82, b.2.2.2.1), (83, b.2.2.2.2.1), (84, b.2.2.2.2.2.1), (85, b.2.2.2.2.2.2.1), (86, b.2.2.2.2.2.2.2), (87, I 87), (93, c93), (94, c94), (95, c95)]) [(71, b.1)], va_up L 98 (vp_updL (L 98) 0 v.toInt64), va_up L 98 (vp_updL (L 98) 0 v.toInt64), ?_, ?_, ?_, ?_, rfl, fun _ => rfl, ?_⟩
    · unfold stX10_classes; rw [q1]; rfl
    · intro q hq; cases hq
    · show (fnX11_classes F (I 71) (I 72) (I 73) (I 75) (I 80) (I 81) (I 82) (I 83) (I 84) (I 85) (I 86) (I 87) (I 93) (I 94) (I 95) x1).map _ = _
      rw [q2]; rfl
    · show some (b.1 0, _, _) = _
      rw [b0]; rfl
    · refine uG_inv hKU hj hI hQ hl (fun x x1 x2 x3 x4 x5 => ?_) rfl rfl hr (fun k k0 => rfl) (fun v hv => ?_) (fun z1 v hv z2 => ?_) w2 (frL_up L _)
      · rw [rw_k _ _ x (by refine ⟨fun z => ?_, trivial⟩ <;> (dsimp only at z; first | (exfalso; omega) | (subst z; rfl))), rw_k _ _ x (by refine ⟨fun z => ?_, fun z => ?_, fun z => ?_, fun z => ?_, fun z => ?_, fun z => ?_, fun z => ?_, fun z => ?_, fun z => ?_, fun z => ?_, fun z => ?_, fun z => ?_, fun z => ?_, fun z => ?_, fun z => ?_, trivial⟩ <;> (dsimp only at z; first | (exfalso; omega) | (subst z; rfl))), rw_k _ _ x (by refine ⟨fun z => ?_, fun z => ?_, fun z => ?_, fun z => ?_, fun z => ?_, fun z => ?_, fun z => ?_, fun z => ?_, fun z => ?_, fun z => ?_, fun z => ?_, fun z => ?_, fun z => ?_, fun z => ?_, fun z => ?_, fun z => ?_, fun z => ?_, fun z => ?_, fun z => ?_, fun z => ?_, fun z => ?_, fun z => ?_, fun z => ?_, fun z => ?_, fun z => ?_, fun z => ?_, fun z => ?_, fun z => ?_, fun z => ?_, trivial⟩ <;> (dsimp only at z; first | (exfalso; omega) | (subst z; rfl)))]
      · rcases w1 v hv with w | w
        · exact Or.inl w.1
        · exact Or.inr w.1
      · rcases w1 v hv with ⟨w3, w4, w5⟩ | ⟨w3, n, fr, na, tg, sh, w4, w5⟩
        · obtain ⟨y0, y1, y2, -⟩ := id hl
          have z3 : c56 v = a.1 0 := z2
          rcases hQ.1 with z | z
          · exact absurd (w3.symm.trans (z3.trans (y2 z))) (hvs z v hv)
          · have ea := y1 z
            have eb := y0 (hQ.2.2.1 z).1
            subst ea
            subst eb
            obtain ⟨n, fr, na, tg, sh, v1, c, v2, v3, v4⟩ := hlu z v hv (w3.symm.trans z3)
            refine ⟨n, fr, na, tg, sh, gG_congr (r71 := I 71) (g := upd (I 71) 0 0) (upd_ne (by decide)) (upd_ne (by decide)) (upd_ne (by decide)) (upd_ne (by decide)) v1, c, v2, fun i hi => ?_, ?_⟩
            · have hn2 := v1.1.2.1
              show (c58 (200 * v + i)).toInt = _
              rw [w5 i (by omega)]; exact v3 i hi
            · show (c57 v).toInt = _
              rw [w4]; exact v4
        · exact ⟨n, fr, na, tg, sh, w4, w5⟩
  · refine ⟨.inr (k, mj_rows I [(1, I 1), (18, I 18), (19, I 19), (20, I 20), (21, I 21), (22, I 22), (23, I 23), (24, I 24), (25, I 25), (26, I 26), (32, a.1), (33, a.2.1), (34, a.2.2.1), (35, a.2.2.2.1), (36, a.2.2.2.2.1), (37, a.2.2.2.2.2.1), (38, a.2.2.2.2.2.2.1), (39, a.2.2.2.2.2.2.2.1), (40, a.2.2.2.2.2.2.2.2), (56, I 56), (57, I 57), (58, I 58), (59, I 59), (60, I 60), (61, I 61), (62, I 62), (63, I 63), (64, I 64), (70, upd (I 70) t (I 70 t + 1))], L), 0, e, mj_rows (mj_rows I [(1, I 1), (18, I 18), (19, I 19), (20, I 20), (21, I 21), (22, I 22), (23, I 23), (24, I 24), (25, I 25), (26, I 26), (32, a.1), (33, a.2.1), (34, a.2.2.1), (35, a.2.2.2.1), (36, a.2.2.2.2.1), (37, a.2.2.2.2.2.1), (38, a.2.2.2.2.2.2.1), (39, a.2.2.2.2.2.2.2.1), (40, a.2.2.2.2.2.2.2.2), (56, I 56), (57, I 57), (58, I 58), (59, I 59), (60, I 60), (61, I 61), (62, I 62), (63, I 63), (64, I 64), (70, upd (I 70) t (I 70 t + 1))]) [(71, upd b.1 0 e), (72, upd (I 72) t (I 72 t + 1)), (73, I 73), (75, I 75), (80, b.2.1), (81, b.2.2.1), (82, b.2.2.2.1), (83, b.2.2.2.2.1), (84, b.2.2.2.2.2.1), (85, b.2.2.2.2.2.2.1), (86, b.2.2.2.2.2.2.2), (87, I 87), (93, I 93), (94, I 94), (95, I 95)], mj_rows (mj_rows (mj_rows I [(1, I 1), (18, I 18), (19, I 19), (20, I 20), (21, I 21), (22, I 22), (23, I 23), (24, I 24), (25, I 25), (26, I 26), (32, a.1), (33, a.2.1), (34, a.2.2.1), (35, a.2.2.2.1), (36, a.2.2.2.2.1), (37, a.2.2.2.2.2.1), (38, a.2.2.2.2.2.2.1), (39, a.2.2.2.2.2.2.2.1), (40, a.2.2.2.2.2.2.2.2), (56, I 56), (57, I 57), (58, I 58), (59, I 59), (60, I 60), (61, I 61), (62, I 62), (63, I 63), (64, I 64), (70, upd (I 70) t (I 70 t + 1))]) [(71, upd b.1 0 e), (72, upd (I 72) t (I 72 t + 1)), (73, I 73), (75, I 75), (80, b.2.1), (81, b.2.2.1), (82, b.2.2.2.1), (83, b.2.2.2.2.1), (84, b.2.2.2.2.2.1), (85, b.2.2.2.2.2.2.1), (86, b.2.2.2.2.2.2.2), (87, I 87), (93, I 93), (94, I 94), (95, I 95)]) [(71, upd b.1 0 e)], L, L, ?_, ?_, ?_, rfl, ?_, ?_, ?_⟩
    · unfold stX10_classes; rw [q1]; rfl
    · intro q hq; cases hq; exact o1
    · show (fnX11_classes F (I 71) (I 72) (I 73) (I 75) (I 80) (I 81) (I 82) (I 83) (I 84) (I 85) (I 86) (I 87) (I 93) (I 94) (I 95) x1).map _ = _
      rw [q2]; rfl
    · exact o2.symm
    · intro z; exact absurd (o2.symm.trans z) o3
    · refine gG_inv hK hj hI hQ hl (fun x x1 x2 x3 => ?_) rfl rfl (fun k k0 => upd_ne k0) (rf_up hr o4) (fun x x3 => rfl)
      rw [rw_k _ _ x (by refine ⟨fun z => ?_, trivial⟩ <;> (dsimp only at z; first | (exfalso; omega) | (subst z; rfl))), rw_k _ _ x (by refine ⟨fun z => ?_, fun z => ?_, fun z => ?_, fun z => ?_, fun z => ?_, fun z => ?_, fun z => ?_, fun z => ?_, fun z => ?_, fun z => ?_, fun z => ?_, fun z => ?_, fun z => ?_, fun z => ?_, fun z => ?_, trivial⟩ <;> (dsimp only at z; first | (exfalso; omega) | (subst z; rfl))), rw_k _ _ x (by refine ⟨fun z => ?_, fun z => ?_, fun z => ?_, fun z => ?_, fun z => ?_, fun z => ?_, fun z => ?_, fun z => ?_, fun z => ?_, fun z => ?_, fun z => ?_, fun z => ?_, fun z => ?_, fun z => ?_, fun z => ?_, fun z => ?_, fun z => ?_, fun z => ?_, fun z => ?_, fun z => ?_, fun z => ?_, fun z => ?_, fun z => ?_, fun z => ?_, fun z => ?_, fun z => ?_, fun z => ?_, fun z => ?_, fun z => ?_, trivial⟩ <;> (dsimp only at z; first | (exfalso; omega) | (subst z; rfl)))]
theorem ix200c {x y : Int32} {l i : Nat} (hx : x.toInt = (l : Nat)) (hy : y.toInt = (i : Nat)) (hl : l < 6) (hi : i < 200) : (x * 200 + y).toNatClampNeg = 200 * l + i ∧ mj_ib (x * 200 + y) 1200 = true := by
  have e200 : (200 : Int32).toInt = 200 := rfl
  have mc : (x * 200).toInt = ((200 * l : Nat) : Int) := by rw [i_mul (by rw [e200, hx]; omega) (by rw [e200, hx]; omega), e200, hx]; omega
  have dc : (x * 200 + y).toInt = ((200 * l + i : Nat) : Int) := by rw [i_add (by rw [mc, hy]; omega) (by rw [mc, hy]; omega), mc, hy]; omega
  exact ⟨by rw [i_cl, dc]; rfl, mj_ib_of (by rw [dc]; omega) (by rw [dc]; omega)⟩
theorem qq_classOf (F : Nat) (hF : 50000 ≤ F) {I : mj_IT} (hQ : gQ F I) (hlu : luI I) (hz : z64 I) (hvs : I 32 1 = 0 → ∀ v, v < 6 → ¬ I 56 v = I 32 0 + 1) (ht : tens (I 87)) (hw : ∃ a b, lQ I a b ∧ exG F I = some a ∧ lyG F I (rL I (upd (I 71) 0 0)) = some b ∧ b.1 0 = 0 ∧ ((gX I a b ∧ a.1 6 = 0 ∧ b.1 21 = 0 ∧ nsG F I = some (.inl (a.1, a.2.1, a.2.2.1, a.2.2.2.1, a.2.2.2.2.1, a.2.2.2.2.2.1, a.2.2.2.2.2.2.1, a.2.2.2.2.2.2.2.1, a.2.2.2.2.2.2.2.2, I 70)) ∧ fwG F I = some (1, b.1, I 72, b.2)) ∨ (a.1 6 = 1 ∧ b.1 21 = 1 ∧ nsG F I = some (.inr (2, a.1, a.2.1, a.2.2.1, a.2.2.2.1, a.2.2.2.2.1, a.2.2.2.2.2.1, a.2.2.2.2.2.2.1, a.2.2.2.2.2.2.2.1, a.2.2.2.2.2.2.2.2, upd (I 70) 2 (I 70 2 + 1))) ∧ fwG F I = some (0, upd b.1 0 1, upd (I 72) 2 (I 72 2 + 1), b.2)))) (x1 x2 : Int32) :
    ∃ (a : T9) (b : T8), lQ I a b ∧ b.1 0 = 0 ∧ ((∃ (v : Int32) (c56 c57 c58 c59 c60 c61 c62 c63 c64 c93 c94 c95 : Nat → Int32), fnX10_classOf F (I 1) (I 18) (I 19) (I 20) (I 21) (I 22) (I 23) (I 24) (I 25) (I 26) (I 32) (I 33) (I 34) (I 35) (I 36) (I 37) (I 38) (I 39) (I 40) (I 56) (I 57) (I 58) (I 59) (I 60) (I 61) (I 62) (I 63) (I 64) (I 70) x1 x2 = some (.inl (v, a.1, a.2.1, a.2.2.1, a.2.2.2.1, a.2.2.2.2.1, a.2.2.2.2.2.1, a.2.2.2.2.2.2.1, a.2.2.2.2.2.2.2.1, a.2.2.2.2.2.2.2.2, c56, c57, c58, c59, c60, c61, c62, c63, c64, I 70)) ∧ fnX11_classOf F (I 71) (I 72) (I 73) (I 75) (I 80) (I 81) (I 82) (I 83) (I 84) (I 85) (I 86) (I 87) (I 93) (I 94) (I 95) x1 x2 = some (v, b.1, I 72, b.2.1, b.2.2.1, b.2.2.2.1, b.2.2.2.2.1, b.2.2.2.2.2.1, b.2.2.2.2.2.2.1, b.2.2.2.2.2.2.2, c93, c94, c95) ∧ (∀ v, v < 6 → (c56 v = I 56 v ∧ c57 v = I 57 v ∧ ∀ i, i < 200 → c58 (200 * v + i) = I 58 (200 * v + i)) ∨ (c56 v = a.1 0 ∧ ∃ (n : Nat) (fr na : Nat → Nat) (tg : Nat → Nat → Nat) (sh : Nat → Nat → Int), gGab I a b n fr na tg sh ∧ lbQ n na tg sh (kdF a.1 a.2.1 a.2.2.1 v) v c57 c58)) ∧ ∀ b, b < 200 → (c64 b).toInt = 0) ∨ (∃ (k : Nat) (e : Int32) (t : Nat), ok_classOf k = true ∧ wk_classOf k = e ∧ ¬ e = 0 ∧ t < 3 ∧ fnX10_classOf F (I 1) (I 18) (I 19) (I 20) (I 21) (I 22) (I 23) (I 24) (I 25) (I 26) (I 32) (I 33) (I 34) (I 35) (I 36) (I 37) (I 38) (I 39) (I 40) (I 56) (I 57) (I 58) (I 59) (I 60) (I 61) (I 62) (I 63) (I 64) (I 70) x1 x2 = some (.inr (k, a.1, a.2.1, a.2.2.1, a.2.2.2.1, a.2.2.2.2.1, a.2.2.2.2.2.1, a.2.2.2.2.2.2.1, a.2.2.2.2.2.2.2.1, a.2.2.2.2.2.2.2.2, I 56, I 57, I 58, I 59, I 60, I 61, I 62, I 63, I 64, upd (I 70) t (I 70 t + 1))) ∧ fnX11_classOf F (I 71) (I 72) (I 73) (I 75) (I 80) (I 81) (I 82) (I 83) (I 84) (I 85) (I 86) (I 87) (I 93) (I 94) (I 95) x1 x2 = some (0, upd b.1 0 e, upd (I 72) t (I 72 t + 1), b.2.1, b.2.2.1, b.2.2.2.1, b.2.2.2.2.1, b.2.2.2.2.2.1, b.2.2.2.2.2.2.1, b.2.2.2.2.2.2.2, I 93, I 94, I 95))) := by
  obtain ⟨a, b, hl, ha, hb, b0, hd⟩ := hw
  refine ⟨a, b, hl, b0, ?_⟩
  have Z0 : (0 : Int32) = 0 := rfl
  have N1 : ¬ (1 : Int32) = 0 := by decide
  have N2 : ¬ (2 : Int32) = 0 := by decide
  have E0 : (0 : Int32).toNatClampNeg = 0 := rfl
  have E1 : (1 : Int32).toNatClampNeg = 1 := rfl
  have E2 : (2 : Int32).toNatClampNeg = 2 := rfl
  rcases hd with ⟨⟨n, fr, na, tg, sh, hG0⟩, m1, m2, hn, hf⟩ | ⟨m1, m2, hn, hf⟩
  · unfold nsG at hn
    unfold fwG at hf
    have hG : gGab I a b n fr na tg sh := hG0
    by_cases h0 : 0 ≤ x1.toInt ∧ x1.toInt < 6
    · have k0 := q_var_in F (I 70) h0
      have l0 := q_isName_in F h0
      by_cases h1 : 0 ≤ x2.toInt ∧ x2.toInt < (n : Int)
      · have k1 := q_sta_in F a.1 (I 70) (x := x2) (by rw [hG0.1.2.2.1]; exact h1)
        have l1 := q_isSta_in F (r71 := b.1) (x := x2) (by rw [hG0.1.2.2.2]; have := hG0.1.2.1; omega) (by rw [hG0.1.2.2.2]; exact h1)
        have f0 := q_fine F (r72 := I 72) (c := 2) (k := 0) b0
        obtain ⟨n9, fr9, na9, tg9, sh9, oc, op_, c, hG9, w1, w2, w3, w4, w5, w6, w8, w9⟩ := q_lump F (by omega) hQ hlu hz hvs ht hl ⟨n, fr, na, tg, sh, hG0⟩ (x1 := x1) h0
        have hn9 : n9 ≤ 200 := hG9.1.2.1
        have hnn : n9 = n := by have q1 := hG9.1.2.2.1; have q2 := hG0.1.2.2.1; omega
        obtain ⟨s, hs⟩ : ∃ s, x2.toNatClampNeg = s := ⟨_, rfl⟩
        have hsx : x2.toInt = (s : Nat) := by rw [← hs, i_cl]; omega
        have hsn : s < n9 := by omega
        obtain ⟨p1, p2, p3⟩ := w3 s hsn
        obtain ⟨v, z1, z2⟩ := s11_rank F (by omega) (m := c s) (by omega) (r93 := op_.1) (c := c) (fun i hi => (w3 i (by omega)).2.1) p2
        have hv6 : x1.toNatClampNeg < 6 := by rw [i_cl]; omega
        have ib2 : mj_ib x2 200 = true := mj_ib_of (by omega) (by omega)
        have hlb : fnX6_labelBy F oc.2.2.1 x1 x2 = some v := by
          have hx1 : x1.toInt = ((x1.toNatClampNeg : Nat) : Int) := by rw [i_cl]; omega
          obtain ⟨r1, r2⟩ := ix200c hx1 hsx hv6 (show s < 200 by omega)
          unfold fnX6_labelBy
          rw [if_pos r2, r1]
          exact congrArg some (i_eq.mpr (by rw [p3, z2]))
        left
        refine ⟨v, oc.1, oc.2.1, oc.2.2.1, oc.2.2.2.1, oc.2.2.2.2.1, oc.2.2.2.2.2.1, oc.2.2.2.2.2.2.1, oc.2.2.2.2.2.2.2.1, oc.2.2.2.2.2.2.2.2, op_.1, op_.2.1, op_.2.2, ?_, ?_, fun v hv => ?_, w9⟩
        · simp only [fnX10_classOf, hn, k0, k1, w1, hlb, Option.bind_some, Sum.elim_inl, Sum.elim_inr]
        · simp only [fnX11_classOf, jnX11_classOf_33, jnX11_classOf_34, hf, if_neg N1, l0, l1, f0, w2, if_pos ib2, hs, z1, Option.bind_some, Sum.elim_inl, Sum.elim_inr]
        · by_cases e : v = x1.toNatClampNeg
          · rw [e]; exact Or.inr ⟨w5, n9, fr9, na9, tg9, sh9, hG9, w6⟩
          · exact Or.inl (w8 v e)
      · have k1 := q_sta_out F a.1 (I 70) (x := x2) (by rw [hG0.1.2.2.1]; exact h1)
        have l1 := q_isSta_out F (r71 := b.1) (x := x2) (by rw [hG0.1.2.2.2]; have := hG0.1.2.1; omega) (by rw [hG0.1.2.2.2]; exact h1)
        have f0 := q_fine0 F (r72 := I 72) (c := 2) (k := 0) b0 N2 (by decide)
        right
        refine ⟨0, 2, 0, rfl, rfl, by decide, by decide, ?_, ?_⟩
        · simp only [fnX10_classOf, hn, k0, k1, Option.bind_some, Sum.elim_inl, Sum.elim_inr]
        · simp only [fnX11_classOf, jnX11_classOf_33, jnX11_classOf_34, hf, if_neg N1, eq_self, if_true, l0, l1, f0, E0, E1, E2, Option.bind_some, Sum.elim_inl, Sum.elim_inr]
    · have k0 := q_var_out F (I 70) h0
      have l0 := q_isName_out F h0
      have f0 := q_fine0 F (r72 := I 72) (c := 2) (k := 0) b0 N2 (by decide)
      right
      refine ⟨0, 2, 0, rfl, rfl, by decide, by decide, ?_, ?_⟩
      · simp only [fnX10_classOf, hn, k0, Option.bind_some, Sum.elim_inl, Sum.elim_inr]
      · simp only [fnX11_classOf, jnX11_classOf_33, jnX11_classOf_34, hf, if_neg N1, eq_self, if_true, l0, f0, E0, E1, E2, Option.bind_some, Sum.elim_inl, Sum.elim_inr]
  · unfold nsG at hn
    unfold fwG at hf
    right
    refine ⟨2, 1, 2, rfl, rfl, by decide, by decide, ?_, ?_⟩
    · simp only [fnX10_classOf, hn, Option.bind_some, Sum.elim_inl, Sum.elim_inr]
    · simp only [fnX11_classOf, hf, eq_self, if_true, Option.bind_some, Sum.elim_inl, Sum.elim_inr]
theorem b_classOf (F : Nat) (hF : 50000 ≤ F) {Inv : Nat → mj_IT → mj_LT → Prop} (hKU : kU F Inv) : pb_classOf F Inv := by
  intro j hj I L hI x1 x2
  have hK := hKU.1
  obtain ⟨hr, hp, h4, hv, hf⟩ := hK.1.2 j I L hj hI
  obtain ⟨hQ, ht, h9, h17⟩ := hK.2.2 j I L hj hI
  obtain ⟨hlu, hz, hvs⟩ := hKU.2.2 j I L hj hI
  obtain ⟨a, b, hl, b0, hd⟩ := qq_classOf F hF hQ hlu hz hvs ht (q_few (gQ_go F (by omega) hp h4 ht hv hQ)) _ _
  rcases hd with ⟨v, c56, c57, c58, c59, c60, c61, c62, c63, c64, c93, c94, c95, q1, q2, w1, w2⟩ | ⟨k, e, t, o1, o2, o3, o4, q1, q2⟩
  · refine ⟨.inl (v, mj_rows I [(1, I 1), (18, I 18), (19, I 19), (20, I 20), (21, I 21), (22, I 22), (23, I 23), (24, I 24), (25, I 25), (26, I 26), (32, a.1), (33, a.2.1), (34, a.2.2.1), (35, a.2.2.2.1), (36, a.2.2.2.2.1), (37, a.2.2.2.2.2.1), (38, a.2.2.2.2.2.2.1), (39, a.2.2.2.2.2.2.2.1), (40, a.2.2.2.2.2.2.2.2), (56, c56), (57, c57), (58, c58), (59, c59), (60, c60), (61, c61), (62, c62), (63, c63), (64, c64), (70, I 70)], L), v, 0, mj_rows (mj_rows I [(1, I 1), (18, I 18), (19, I 19), (20, I 20), (21, I 21), (22, I 22), (23, I 23), (24, I 24), (25, I 25), (26, I 26), (32, a.1), (33, a.2.1), (34, a.2.2.1), (35, a.2.2.2.1), (36, a.2.2.2.2.1), (37, a.2.2.2.2.2.1), (38, a.2.2.2.2.2.2.1), (39, a.2.2.2.2.2.2.2.1), (40, a.2.2.2.2.2.2.2.2), (56, c56), (57, c57), (58, c58), (59, c59), (60, c60), (61, c61), (62, c62), (63, c63), (64, c64), (70, I 70)]) [(71, b.1), (72, I 72), (73, I 73), (75, I 75), (80, b.2.1), (81, b.2.2.1), (82, b.2.2.2.1), (83, b.2.2.2.2.1), (84, b.2.2.2.2.2.1), (85, b.2.2.2.2.2.2.1), (86, b.2.2.2.2.2.2.2), (87, I 87), (93, c93), (94, c94), (95, c95)], mj_rows (mj_rows (mj_rows I [(1, I 1), (18, I 18), (19, I 19), (20, I 20), (21, I 21), (22, I 22), (23, I 23), (24, I 24), (25, I 25), (26, I 26), (32, a.1), (33, a.2.1), (34, a.2.2.1), (35, a.2.2.2.1), (36, a.2.2.2.2.1), (37, a.2.2.2.2.2.1), (38, a.2.2.2.2.2.2.1), (39, a.2.2.2.2.2.2.2.1), (40, a.2.2.2.2.2.2.2.2), (56, c56), (57, c57), (58, c58), (59, c59), (60, c60), (61, c61), (62, c62), (63, c63), (64, c64), (70, I 70)]) [(71, b.1), (72, I 72), (73, I 73), (75, I 75), (80, b.2.1), (81, b.2.2.1), (82, b.2.2.2.1), (83, b.2.2.2.2.1), (84, b.2.2.2.2.2.1), (85, b.2.2.2.2.2.2.1), (86, b.2.2.2.2.2.2.2), (87, I 87), (93, c93), (94, c94), (95, c95)]) [(71, b.1)], va_up L 98 (vp_updL (L 98) 0 v.toInt64), va_up L 98 (vp_updL (L 98) 0 v.toInt64), ?_, ?_, ?_, ?_, rfl, fun _ => rfl, ?_⟩
    · unfold stX10_classOf; rw [q1]; rfl
    · intro q hq; cases hq
    · show (fnX11_classOf F (I 71) (I 72) (I 73) (I 75) (I 80) (I 81) (I 82) (I 83) (I 84) (I 85) (I 86) (I 87) (I 93) (I 94) (I 95) x1 x2).map _ = _
      rw [q2]; rfl
    · show some (b.1 0, _, _) = _
      rw [b0]; rfl
    · refine uG_inv hKU hj hI hQ hl (fun x x1 x2 x3 x4 x5 => ?_) rfl rfl hr (fun k k0 => rfl) (fun v hv => ?_) (fun z1 v hv z2 => ?_) w2 (frL_up L _)
      · rw [rw_k _ _ x (by refine ⟨fun z => ?_, trivial⟩ <;> (dsimp only at z; first | (exfalso; omega) | (subst z; rfl))), rw_k _ _ x (by refine ⟨fun z => ?_, fun z => ?_, fun z => ?_, fun z => ?_, fun z => ?_, fun z => ?_, fun z => ?_, fun z => ?_, fun z => ?_, fun z => ?_, fun z => ?_, fun z => ?_, fun z => ?_, fun z => ?_, fun z => ?_, trivial⟩ <;> (dsimp only at z; first | (exfalso; omega) | (subst z; rfl))), rw_k _ _ x (by refine ⟨fun z => ?_, fun z => ?_, fun z => ?_, fun z => ?_, fun z => ?_, fun z => ?_, fun z => ?_, fun z => ?_, fun z => ?_, fun z => ?_, fun z => ?_, fun z => ?_, fun z => ?_, fun z => ?_, fun z => ?_, fun z => ?_, fun z => ?_, fun z => ?_, fun z => ?_, fun z => ?_, fun z => ?_, fun z => ?_, fun z => ?_, fun z => ?_, fun z => ?_, fun z => ?_, fun z => ?_, fun z => ?_, fun z => ?_, trivial⟩ <;> (dsimp only at z; first | (exfalso; omega) | (subst z; rfl)))]
      · rcases w1 v hv with w | w
        · exact Or.inl w.1
        · exact Or.inr w.1
      · rcases w1 v hv with ⟨w3, w4, w5⟩ | ⟨w3, n, fr, na, tg, sh, w4, w5⟩
        · obtain ⟨y0, y1, y2, -⟩ := id hl
          have z3 : c56 v = a.1 0 := z2
          rcases hQ.1 with z | z
          · exact absurd (w3.symm.trans (z3.trans (y2 z))) (hvs z v hv)
          · have ea := y1 z
            have eb := y0 (hQ.2.2.1 z).1
            subst ea
            subst eb
            obtain ⟨n, fr, na, tg, sh, v1, c, v2, v3, v4⟩ := hlu z v hv (w3.symm.trans z3)
            refine ⟨n, fr, na, tg, sh, gG_congr (r71 := I 71) (g := upd (I 71) 0 0) (upd_ne (by decide)) (upd_ne (by decide)) (upd_ne (by decide)) (upd_ne (by decide)) v1, c, v2, fun i hi => ?_, ?_⟩
            · have hn2 := v1.1.2.1
              show (c58 (200 * v + i)).toInt = _
              rw [w5 i (by omega)]; exact v3 i hi
            · show (c57 v).toInt = _
              rw [w4]; exact v4
        · exact ⟨n, fr, na, tg, sh, w4, w5⟩
  · refine ⟨.inr (k, mj_rows I [(1, I 1), (18, I 18), (19, I 19), (20, I 20), (21, I 21), (22, I 22), (23, I 23), (24, I 24), (25, I 25), (26, I 26), (32, a.1), (33, a.2.1), (34, a.2.2.1), (35, a.2.2.2.1), (36, a.2.2.2.2.1), (37, a.2.2.2.2.2.1), (38, a.2.2.2.2.2.2.1), (39, a.2.2.2.2.2.2.2.1), (40, a.2.2.2.2.2.2.2.2), (56, I 56), (57, I 57), (58, I 58), (59, I 59), (60, I 60), (61, I 61), (62, I 62), (63, I 63), (64, I 64), (70, upd (I 70) t (I 70 t + 1))], L), 0, e, mj_rows (mj_rows I [(1, I 1), (18, I 18), (19, I 19), (20, I 20), (21, I 21), (22, I 22), (23, I 23), (24, I 24), (25, I 25), (26, I 26), (32, a.1), (33, a.2.1), (34, a.2.2.1), (35, a.2.2.2.1), (36, a.2.2.2.2.1), (37, a.2.2.2.2.2.1), (38, a.2.2.2.2.2.2.1), (39, a.2.2.2.2.2.2.2.1), (40, a.2.2.2.2.2.2.2.2), (56, I 56), (57, I 57), (58, I 58), (59, I 59), (60, I 60), (61, I 61), (62, I 62), (63, I 63), (64, I 64), (70, upd (I 70) t (I 70 t + 1))]) [(71, upd b.1 0 e), (72, upd (I 72) t (I 72 t + 1)), (73, I 73), (75, I 75), (80, b.2.1), (81, b.2.2.1), (82, b.2.2.2.1), (83, b.2.2.2.2.1), (84, b.2.2.2.2.2.1), (85, b.2.2.2.2.2.2.1), (86, b.2.2.2.2.2.2.2), (87, I 87), (93, I 93), (94, I 94), (95, I 95)], mj_rows (mj_rows (mj_rows I [(1, I 1), (18, I 18), (19, I 19), (20, I 20), (21, I 21), (22, I 22), (23, I 23), (24, I 24), (25, I 25), (26, I 26), (32, a.1), (33, a.2.1), (34, a.2.2.1), (35, a.2.2.2.1), (36, a.2.2.2.2.1), (37, a.2.2.2.2.2.1), (38, a.2.2.2.2.2.2.1), (39, a.2.2.2.2.2.2.2.1), (40, a.2.2.2.2.2.2.2.2), (56, I 56), (57, I 57), (58, I 58), (59, I 59), (60, I 60), (61, I 61), (62, I 62), (63, I 63), (64, I 64), (70, upd (I 70) t (I 70 t + 1))]) [(71, upd b.1 0 e), (72, upd (I 72) t (I 72 t + 1)), (73, I 73), (75, I 75), (80, b.2.1), (81, b.2.2.1), (82, b.2.2.2.1), (83, b.2.2.2.2.1), (84, b.2.2.2.2.2.1), (85, b.2.2.2.2.2.2.1), (86, b.2.2.2.2.2.2.2), (87, I 87), (93, I 93), (94, I 94), (95, I 95)]) [(71, upd b.1 0 e)], L, L, ?_, ?_, ?_, rfl, ?_, ?_, ?_⟩
    · unfold stX10_classOf; rw [q1]; rfl
    · intro q hq; cases hq; exact o1
    · show (fnX11_classOf F (I 71) (I 72) (I 73) (I 75) (I 80) (I 81) (I 82) (I 83) (I 84) (I 85) (I 86) (I 87) (I 93) (I 94) (I 95) x1 x2).map _ = _
      rw [q2]; rfl
    · exact o2.symm
    · intro z; exact absurd (o2.symm.trans z) o3
    · refine gG_inv hK hj hI hQ hl (fun x x1 x2 x3 => ?_) rfl rfl (fun k k0 => upd_ne k0) (rf_up hr o4) (fun x x3 => rfl)
      rw [rw_k _ _ x (by refine ⟨fun z => ?_, trivial⟩ <;> (dsimp only at z; first | (exfalso; omega) | (subst z; rfl))), rw_k _ _ x (by refine ⟨fun z => ?_, fun z => ?_, fun z => ?_, fun z => ?_, fun z => ?_, fun z => ?_, fun z => ?_, fun z => ?_, fun z => ?_, fun z => ?_, fun z => ?_, fun z => ?_, fun z => ?_, fun z => ?_, fun z => ?_, trivial⟩ <;> (dsimp only at z; first | (exfalso; omega) | (subst z; rfl))), rw_k _ _ x (by refine ⟨fun z => ?_, fun z => ?_, fun z => ?_, fun z => ?_, fun z => ?_, fun z => ?_, fun z => ?_, fun z => ?_, fun z => ?_, fun z => ?_, fun z => ?_, fun z => ?_, fun z => ?_, fun z => ?_, fun z => ?_, fun z => ?_, fun z => ?_, fun z => ?_, fun z => ?_, fun z => ?_, fun z => ?_, fun z => ?_, fun z => ?_, fun z => ?_, fun z => ?_, fun z => ?_, fun z => ?_, fun z => ?_, fun z => ?_, trivial⟩ <;> (dsimp only at z; first | (exfalso; omega) | (subst z; rfl)))]
