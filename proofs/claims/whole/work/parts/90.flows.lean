/-! ===== lumping: the class's flows ===== -/
/-- labels as the class has them -/
def laQ (n : Nat) (lab : Nat → Nat) (r59 : Nat → Int32) : Prop := ∀ t, t < n → (r59 t).toInt = (lab t : Nat) ∧ lab t < 200
/-- the graph, for lumping -/
def uG (n : Nat) (fr na : Nat → Nat) (tg : Nat → Nat → Nat) (sh : Nat → Nat → Int) (r37 r38 r39 : Nat → Int32) : Prop := n ≤ 200 ∧ cA n fr na tg r37 r38 ∧ ∀ s, s < n → ∀ k, k < na s → (r39 (fr s + k)).toInt = sh s k ∧ 1 ≤ sh s k ∧ sh s k ≤ 60
theorem uG_t {n : Nat} {fr na : Nat → Nat} {tg : Nat → Nat → Nat} {sh : Nat → Nat → Int} {r37 r38 r39 : Nat → Int32} (h : uG n fr na tg sh r37 r38 r39) : ∀ s, s < n → ∀ k, k < na s → tg s k < n := fun s hs k hk => ((h.2.1 s hs).2.2.2 k hk).2
theorem fl_b {tg : Nat → Nat → Nat} {sh : Nat → Nat → Int} {lab : Nat → Nat} {i b : Nat} : ∀ m, (∀ k, k < m → 1 ≤ sh i k ∧ sh i k ≤ 60) → 0 ≤ sm m (fun k => if lab (tg i k) = b then sh i k else 0) ∧ sm m (fun k => if lab (tg i k) = b then sh i k else 0) ≤ 60 * (m : Int) := by
  intro m
  induction m with
  | zero => intro _; exact ⟨Int.le_refl _, by show (0 : Int) ≤ 60 * ((0 : Nat) : Int); decide⟩
  | succ m ih =>
    intro h
    have h1 := ih (fun k hk => h k (by omega))
    have h2 := h m (by omega)
    rw [sm_s]
    split <;> omega
theorem i_acc {a x y : Int32} {A X Y : Int} (ha : a.toInt = A) (hx : x.toInt = X) (hy : y.toInt = Y) (hX : X = 1 ∨ X = -1) (hA : -1000000 ≤ A ∧ A ≤ 1000000) (hY : 0 ≤ Y ∧ Y ≤ 60) : (a + x * y).toInt = A + X * Y := by
  have m : (x * y).toInt = X * Y := by
    rw [i_mul (by rw [hx, hy]; rcases hX with z | z <;> rw [z] <;> omega) (by rw [hx, hy]; rcases hX with z | z <;> rw [z] <;> omega), hx, hy]
  rw [i_add (by rw [m, ha]; rcases hX with z | z <;> rw [z] <;> omega) (by rw [m, ha]; rcases hX with z | z <;> rw [z] <;> omega), m, ha]
theorem s6_addFlow (F : Nat) (hF : 3000 ≤ F) {n : Nat} {fr na : Nat → Nat} {tg : Nat → Nat → Nat} {sh : Nat → Nat → Int} {lab : Nat → Nat} {r37 r38 r39 r59 r64 : Nat → Int32} (h : uG n fr na tg sh r37 r38 r39) (hl : laQ n lab r59) {x2 x3 : Int32} {i : Nat} {X : Int} (hi : i < n) (hx2 : x2.toInt = (i : Nat)) (hx3 : x3.toInt = X) (hX : X = 1 ∨ X = -1) (h64 : ∀ b, b < 200 → -200000 ≤ (r64 b).toInt ∧ (r64 b).toInt ≤ 200000) :
    sp (fnX6_addFlow F r37 r38 r39 r59 r64 x2 x3) (fun e => ∀ b, b < 200 → (e b).toInt = (r64 b).toInt + X * FL na tg sh lab i b) := by
  obtain ⟨h1, h2, h3⟩ := h
  have e1 : (1 : Int32).toInt = 1 := rfl
  obtain ⟨a1, a2, a3, a4⟩ := h2 i hi
  have y1 : (x2 + 1).toInt = ((i + 1 : Nat) : Int) := by rw [i_add (by omega) (by omega), hx2, e1]; omega
  have cy1 : (x2 + 1).toNatClampNeg = i + 1 := by rw [i_cl, y1]; rfl
  have c2 : x2.toNatClampNeg = i := by rw [i_cl, hx2]; rfl
  unfold fnX6_addFlow
  refine sp_pos (mj_ib_of (by omega) (by omega)) ?_
  rw [c2]
  refine sp_bind (sp_cnt (fun s : Int32 × (Nat → Int32) => s.1) (fr i + na i) (by omega) (fun j s => ∃ k, j = fr i + k ∧ ∀ b, b < 200 → (s.2 b).toInt = (r64 b).toInt + X * sm k (fun k => if lab (tg i k) = b then sh i k else 0)) (Q := fun e : Nat → Int32 => ∀ b, b < 200 → (e b).toInt = (r64 b).toInt + X * FL na tg sh lab i b) ?_ F (fr i) _ (by omega) a1 ⟨0, rfl, fun b hb => by show (r64 b).toInt = (r64 b).toInt + X * 0; rw [Int.mul_zero, Int.add_zero]⟩ (by omega)) (fun e he => sp_some he)
  rintro j ⟨z, a64⟩ hj hz hcz hz1 ⟨k, rfl, hJ⟩
  refine sp_u2 ?_
  dsimp only at hz hcz hz1 hJ
  unfold bdX6_addFlow_8
  refine sp_pos (mj_ib_of (by omega) (by omega)) ?_
  rw [cy1]
  refine sp_ite (fun hy => sp_some ?_) (fun hy => ?_)
  · have := i_le.mp hy
    have : k = na i := by omega
    subst this
    exact hJ
  · have hy2 : ¬ (r37 (i + 1)).toInt ≤ z.toInt := fun w => hy (i_le.mpr w)
    have hkn : k < na i := by omega
    have hk1 : fr i + k < fr i + na i := by omega
    obtain ⟨t1, t2⟩ := a4 k hkn
    obtain ⟨s1, s2⟩ := h3 i hi k hkn
    obtain ⟨l1, l2⟩ := hl (tg i k) t2
    have hib : mj_ib z 2000 = true := mj_ib_of (by omega) (by omega)
    have ct : (r38 (fr i + k)).toNatClampNeg = tg i k := by rw [i_cl, t1]; rfl
    have cl : (r59 (tg i k)).toNatClampNeg = lab (tg i k) := by rw [i_cl, l1]; rfl
    have ibl : mj_ib (r59 (tg i k)) 200 = true := mj_ib_of (by omega) (by omega)
    refine sp_pos hib ?_
    rw [hcz]
    refine sp_pos (mj_ib_of (by omega) (by omega)) ?_
    rw [ct]
    have hb0 := hJ (lab (tg i k)) l2
    have hb1 := fl_b (lab := lab) (tg := tg) (b := lab (tg i k)) k (fun q hq => (h3 i hi q (by omega)).2)
    have hb2 := h64 (lab (tg i k)) l2
    refine sp_pos ibl (sp_pos hib (sp_pos ibl (sp_some ⟨hk1, rfl, k + 1, rfl, fun b hb => ?_⟩)))
    dsimp only
    rw [cl, sm_s, Int.mul_add, ← Int.add_assoc]
    by_cases e : b = lab (tg i k)
    · rw [e, upd_at, if_pos rfl, ← hb0]
      refine i_acc rfl hx3 s1 hX ?_ (by omega)
      rw [hb0]
      rcases hX with q | q <;> rw [q] <;> omega
    · rw [upd_ne e, if_neg (fun q => e q.symm), Int.mul_zero, Int.add_zero]
      exact hJ b hb
theorem s6_chk1 (F : Nat) (hF : 3000 ≤ F) {n : Nat} {fr na : Nat → Nat} {tg : Nat → Nat → Nat} {sh : Nat → Nat → Int} {lab : Nat → Nat} {D : Nat → Int} {W : Nat → Prop} {r37 r38 r39 r59 b64 : Nat → Int32} (h : uG n fr na tg sh r37 r38 r39) (hl : laQ n lab r59) {x2 x3 x40 : Int32} {i : Nat} (hi : i < n) (hxx : x2.toInt = (i : Nat)) (hZ : ∀ b, b < 200 → (b64 b).toInt = 0 ∨ ((b64 b).toInt = D b ∧ W b)) (hA : (x40 = 1 ∧ ∀ b, b < 200 → (b64 b).toInt = D b) ∨ (x40 = 0 ∧ ∃ b, b < 200 ∧ ¬ D b = 0)) :
    sp (mj_it (mj_u2 (fun z0 => (mj_u2 (fun z1 z2 => bdX6_flowAlike_25 F r37 r38 r59 x2 x3 z0 z1 z2)))) F (x40, r37 i, b64)) (fun e => (∀ b, b < 200 → (e.2 b).toInt = 0 ∨ ((e.2 b).toInt = D b ∧ W b ∧ ∀ k, k < na i → ¬ lab (tg i k) = b)) ∧ ((e.1 = 1 ∧ ∀ b, b < 200 → (e.2 b).toInt = D b) ∨ (e.1 = 0 ∧ ∃ b, b < 200 ∧ ¬ D b = 0))) := by
  obtain ⟨h1, h2, h3⟩ := h
  have e1 : (1 : Int32).toInt = 1 := rfl
  have e0 : (0 : Int32).toInt = 0 := rfl
  obtain ⟨a1, a2, a3, a4⟩ := h2 i hi
  have y1 : (x2 + 1).toInt = ((i + 1 : Nat) : Int) := by rw [i_add (by omega) (by omega), hxx, e1]; omega
  have cy1 : (x2 + 1).toNatClampNeg = i + 1 := by rw [i_cl, y1]; rfl
  refine sp_cnt (fun s : Int32 × Int32 × (Nat → Int32) => s.2.1) (fr i + na i) (by omega) (fun j s => ∃ k, j = fr i + k ∧ (∀ b, b < 200 → (s.2.2 b).toInt = 0 ∨ ((s.2.2 b).toInt = D b ∧ W b ∧ ∀ k', k' < k → ¬ lab (tg i k') = b)) ∧ ((s.1 = 1 ∧ ∀ b, b < 200 → (s.2.2 b).toInt = D b) ∨ (s.1 = 0 ∧ ∃ b, b < 200 ∧ ¬ D b = 0))) ?_ F (fr i) _ (by omega) a1 ⟨0, rfl, fun b hb => (hZ b hb).imp id (fun w => ⟨w.1, w.2, fun k' hk' => absurd hk' (Nat.not_lt_zero k')⟩), hA⟩ (by omega)
  rintro j ⟨x4, z, a64⟩ hj hz hcz hz1 ⟨k, rfl, jZ, jA⟩
  refine sp_u2 (sp_u2 ?_)
  dsimp only at hz hcz hz1 jZ jA
  unfold bdX6_flowAlike_25
  refine sp_pos (mj_ib_of (by omega) (by omega)) ?_
  rw [cy1]
  refine sp_ite (fun hy => sp_some ?_) (fun hy => ?_)
  · have := i_le.mp hy
    have : k = na i := by omega
    subst this
    exact ⟨jZ, jA⟩
  · have hy2 : ¬ (r37 (i + 1)).toInt ≤ z.toInt := fun w => hy (i_le.mpr w)
    have hkn : k < na i := by omega
    have hk1 : fr i + k < fr i + na i := by omega
    obtain ⟨t1, t2⟩ := a4 k hkn
    obtain ⟨l1, l2⟩ := hl (tg i k) t2
    have hib : mj_ib z 2000 = true := mj_ib_of (by omega) (by omega)
    have ct : (r38 (fr i + k)).toNatClampNeg = tg i k := by rw [i_cl, t1]; rfl
    have cl : (r59 (tg i k)).toNatClampNeg = lab (tg i k) := by rw [i_cl, l1]; rfl
    have ibl : mj_ib (r59 (tg i k)) 200 = true := mj_ib_of (by omega) (by omega)
    have ibt : mj_ib (r38 (fr i + k)) 200 = true := mj_ib_of (by omega) (by omega)
    have go : ∀ t0 : Int32, ((t0 = 1 ∧ ∀ b, b < 200 → (upd a64 (lab (tg i k)) 0 b).toInt = D b) ∨ (t0 = 0 ∧ ∃ b, b < 200 ∧ ¬ D b = 0)) → sp (jnX6_flowAlike_68 F r37 r38 r59 x2 x3 z t0 a64) (Sum.elim (fun s' => fr i + k < fr i + na i ∧ s'.2.1 = z + 1 ∧ ∃ k', fr i + k + 1 = fr i + k' ∧ (∀ b, b < 200 → (s'.2.2 b).toInt = 0 ∨ ((s'.2.2 b).toInt = D b ∧ W b ∧ ∀ k'', k'' < k' → ¬ lab (tg i k'') = b)) ∧ ((s'.1 = 1 ∧ ∀ b, b < 200 → (s'.2.2 b).toInt = D b) ∨ (s'.1 = 0 ∧ ∃ b, b < 200 ∧ ¬ D b = 0))) (fun e => (∀ b, b < 200 → (e.2 b).toInt = 0 ∨ ((e.2 b).toInt = D b ∧ W b ∧ ∀ k, k < na i → ¬ lab (tg i k) = b)) ∧ ((e.1 = 1 ∧ ∀ b, b < 200 → (e.2 b).toInt = D b) ∨ (e.1 = 0 ∧ ∃ b, b < 200 ∧ ¬ D b = 0)))) := by
      intro t0 ht0
      unfold jnX6_flowAlike_68
      refine sp_pos hib ?_
      rw [hcz]
      refine sp_pos ibt ?_
      rw [ct]
      refine sp_pos ibl ?_
      rw [cl]
      refine sp_some ⟨hk1, rfl, k + 1, rfl, fun b hb => ?_, ht0⟩
      dsimp only
      by_cases e : b = lab (tg i k)
      · rw [e, upd_at]; exact Or.inl e0
      · rw [upd_ne e]
        rcases jZ b hb with w | ⟨w1, w2, w3⟩
        · exact Or.inl w
        · refine Or.inr ⟨w1, w2, fun k' hk' => ?_⟩
          by_cases e2 : k' = k
          · rw [e2]; exact fun q => e q.symm
          · exact w3 k' (by omega)
    rcases jA with ⟨rfl, jA⟩ | ⟨rfl, jA⟩
    · refine sp_neg (by decide) (sp_pos hib ?_)
      rw [hcz]
      refine sp_pos ibt ?_
      rw [ct]
      refine sp_pos ibl ?_
      rw [cl]
      have hDb := jA (lab (tg i k)) l2
      refine sp_ite (fun q => go 1 (Or.inl ⟨rfl, fun b hb => ?_⟩)) (fun q => ?_)
      · by_cases e : b = lab (tg i k)
        · rw [e, upd_at, ← hDb, q]
        · rw [upd_ne e]; exact jA b hb
      · unfold jnX6_flowAlike_67
        exact go 0 (Or.inr ⟨rfl, lab (tg i k), l2, fun w => q (i_eq.mpr (by rw [hDb, w]; rfl))⟩)
    · refine sp_pos rfl ?_
      unfold jnX6_flowAlike_67
      exact go 0 (Or.inr ⟨rfl, jA⟩)
theorem s6_chk2 (F : Nat) (hF : 3000 ≤ F) {n : Nat} {fr na : Nat → Nat} {tg : Nat → Nat → Nat} {sh : Nat → Nat → Int} {lab : Nat → Nat} {D : Nat → Int} {W : Nat → Prop} {r37 r38 r39 r59 b64 : Nat → Int32} (h : uG n fr na tg sh r37 r38 r39) (hl : laQ n lab r59) {x3 x40 : Int32} {i : Nat} (hi : i < n) (hxx : x3.toInt = (i : Nat)) (hZ : ∀ b, b < 200 → (b64 b).toInt = 0 ∨ ((b64 b).toInt = D b ∧ W b)) (hA : (x40 = 1 ∧ ∀ b, b < 200 → (b64 b).toInt = D b) ∨ (x40 = 0 ∧ ∃ b, b < 200 ∧ ¬ D b = 0)) :
    sp (mj_it (mj_u2 (fun z0 => (mj_u2 (fun z1 z2 => bdX6_flowAlike_102 F r37 r38 r59 x3 z0 z1 z2)))) F (x40, r37 i, b64)) (fun e => (∀ b, b < 200 → (e.2 b).toInt = 0 ∨ ((e.2 b).toInt = D b ∧ W b ∧ ∀ k, k < na i → ¬ lab (tg i k) = b)) ∧ ((e.1 = 1 ∧ ∀ b, b < 200 → (e.2 b).toInt = D b) ∨ (e.1 = 0 ∧ ∃ b, b < 200 ∧ ¬ D b = 0))) := by
  obtain ⟨h1, h2, h3⟩ := h
  have e1 : (1 : Int32).toInt = 1 := rfl
  have e0 : (0 : Int32).toInt = 0 := rfl
  obtain ⟨a1, a2, a3, a4⟩ := h2 i hi
  have y1 : (x3 + 1).toInt = ((i + 1 : Nat) : Int) := by rw [i_add (by omega) (by omega), hxx, e1]; omega
  have cy1 : (x3 + 1).toNatClampNeg = i + 1 := by rw [i_cl, y1]; rfl
  refine sp_cnt (fun s : Int32 × Int32 × (Nat → Int32) => s.2.1) (fr i + na i) (by omega) (fun j s => ∃ k, j = fr i + k ∧ (∀ b, b < 200 → (s.2.2 b).toInt = 0 ∨ ((s.2.2 b).toInt = D b ∧ W b ∧ ∀ k', k' < k → ¬ lab (tg i k') = b)) ∧ ((s.1 = 1 ∧ ∀ b, b < 200 → (s.2.2 b).toInt = D b) ∨ (s.1 = 0 ∧ ∃ b, b < 200 ∧ ¬ D b = 0))) ?_ F (fr i) _ (by omega) a1 ⟨0, rfl, fun b hb => (hZ b hb).imp id (fun w => ⟨w.1, w.2, fun k' hk' => absurd hk' (Nat.not_lt_zero k')⟩), hA⟩ (by omega)
  rintro j ⟨x4, z, a64⟩ hj hz hcz hz1 ⟨k, rfl, jZ, jA⟩
  refine sp_u2 (sp_u2 ?_)
  dsimp only at hz hcz hz1 jZ jA
  unfold bdX6_flowAlike_102
  refine sp_pos (mj_ib_of (by omega) (by omega)) ?_
  rw [cy1]
  refine sp_ite (fun hy => sp_some ?_) (fun hy => ?_)
  · have := i_le.mp hy
    have : k = na i := by omega
    subst this
    exact ⟨jZ, jA⟩
  · have hy2 : ¬ (r37 (i + 1)).toInt ≤ z.toInt := fun w => hy (i_le.mpr w)
    have hkn : k < na i := by omega
    have hk1 : fr i + k < fr i + na i := by omega
    obtain ⟨t1, t2⟩ := a4 k hkn
    obtain ⟨l1, l2⟩ := hl (tg i k) t2
    have hib : mj_ib z 2000 = true := mj_ib_of (by omega) (by omega)
    have ct : (r38 (fr i + k)).toNatClampNeg = tg i k := by rw [i_cl, t1]; rfl
    have cl : (r59 (tg i k)).toNatClampNeg = lab (tg i k) := by rw [i_cl, l1]; rfl
    have ibl : mj_ib (r59 (tg i k)) 200 = true := mj_ib_of (by omega) (by omega)
    have ibt : mj_ib (r38 (fr i + k)) 200 = true := mj_ib_of (by omega) (by omega)
    have go : ∀ t0 : Int32, ((t0 = 1 ∧ ∀ b, b < 200 → (upd a64 (lab (tg i k)) 0 b).toInt = D b) ∨ (t0 = 0 ∧ ∃ b, b < 200 ∧ ¬ D b = 0)) → sp (jnX6_flowAlike_145 F r37 r38 r59 x3 z t0 a64) (Sum.elim (fun s' => fr i + k < fr i + na i ∧ s'.2.1 = z + 1 ∧ ∃ k', fr i + k + 1 = fr i + k' ∧ (∀ b, b < 200 → (s'.2.2 b).toInt = 0 ∨ ((s'.2.2 b).toInt = D b ∧ W b ∧ ∀ k'', k'' < k' → ¬ lab (tg i k'') = b)) ∧ ((s'.1 = 1 ∧ ∀ b, b < 200 → (s'.2.2 b).toInt = D b) ∨ (s'.1 = 0 ∧ ∃ b, b < 200 ∧ ¬ D b = 0))) (fun e => (∀ b, b < 200 → (e.2 b).toInt = 0 ∨ ((e.2 b).toInt = D b ∧ W b ∧ ∀ k, k < na i → ¬ lab (tg i k) = b)) ∧ ((e.1 = 1 ∧ ∀ b, b < 200 → (e.2 b).toInt = D b) ∨ (e.1 = 0 ∧ ∃ b, b < 200 ∧ ¬ D b = 0)))) := by
      intro t0 ht0
      unfold jnX6_flowAlike_145
      refine sp_pos hib ?_
      rw [hcz]
      refine sp_pos ibt ?_
      rw [ct]
      refine sp_pos ibl ?_
      rw [cl]
      refine sp_some ⟨hk1, rfl, k + 1, rfl, fun b hb => ?_, ht0⟩
      dsimp only
      by_cases e : b = lab (tg i k)
      · rw [e, upd_at]; exact Or.inl e0
      · rw [upd_ne e]
        rcases jZ b hb with w | ⟨w1, w2, w3⟩
        · exact Or.inl w
        · refine Or.inr ⟨w1, w2, fun k' hk' => ?_⟩
          by_cases e2 : k' = k
          · rw [e2]; exact fun q => e q.symm
          · exact w3 k' (by omega)
    rcases jA with ⟨rfl, jA⟩ | ⟨rfl, jA⟩
    · refine sp_neg (by decide) (sp_pos hib ?_)
      rw [hcz]
      refine sp_pos ibt ?_
      rw [ct]
      refine sp_pos ibl ?_
      rw [cl]
      have hDb := jA (lab (tg i k)) l2
      refine sp_ite (fun q => go 1 (Or.inl ⟨rfl, fun b hb => ?_⟩)) (fun q => ?_)
      · by_cases e : b = lab (tg i k)
        · rw [e, upd_at, ← hDb, q]
        · rw [upd_ne e]; exact jA b hb
      · unfold jnX6_flowAlike_144
        exact go 0 (Or.inr ⟨rfl, lab (tg i k), l2, fun w => q (i_eq.mpr (by rw [hDb, w]; rfl))⟩)
    · refine sp_pos rfl ?_
      unfold jnX6_flowAlike_144
      exact go 0 (Or.inr ⟨rfl, jA⟩)
theorem s6_flowAlike (F : Nat) (hF : 3000 ≤ F) {n : Nat} {fr na : Nat → Nat} {tg : Nat → Nat → Nat} {sh : Nat → Nat → Int} {lab : Nat → Nat} {r37 r38 r39 r59 r64 : Nat → Int32} (h : uG n fr na tg sh r37 r38 r39) (hl : laQ n lab r59) {x2 x3 : Int32} {i j : Nat} (hi : i < n) (hj : j < n) (hx2 : x2.toInt = (i : Nat)) (hx3 : x3.toInt = (j : Nat)) (h64 : ∀ b, b < 200 → (r64 b).toInt = 0) :
    sp (fnX6_flowAlike F r37 r38 r39 r59 r64 x2 x3) (fun e => (∀ b, b < 200 → (e.2 b).toInt = 0) ∧ ((e.1 = 1 ∧ ∀ b, FL na tg sh lab i b = FL na tg sh lab j b) ∨ (e.1 = 0 ∧ ¬ ∀ b, FL na tg sh lab i b = FL na tg sh lab j b))) := by
  obtain ⟨h1, h2, h3⟩ := id h
  have c2 : x2.toNatClampNeg = i := by rw [i_cl, hx2]; rfl
  have c3 : x3.toNatClampNeg = j := by rw [i_cl, hx3]; rfl
  have hfi : ∀ b, 0 ≤ FL na tg sh lab i b ∧ FL na tg sh lab i b ≤ 120000 := by
    intro b
    have := fl_b (lab := lab) (tg := tg) (b := b) (na i) (fun q hq => (h3 i hi q hq).2)
    have := (h2 i hi).2.2.1
    unfold FL
    omega
  have hno : ∀ i, i < n → ∀ b, (∀ k, k < na i → ¬ lab (tg i k) = b) → FL na tg sh lab i b = 0 := by
    intro i hi b hb
    unfold FL
    refine (sm_eq _ (fun k hk => ?_)).trans (sm_zero (na i))
    rw [if_neg (hb k hk)]
  unfold fnX6_flowAlike
  refine sp_bind (s6_addFlow F hF (r64 := r64) h hl hi hx2 (show (1 : Int32).toInt = 1 from rfl) (Or.inl rfl) (fun b hb => by rw [h64 b hb]; omega)) (fun o21 h21 => ?_)
  refine sp_bind (s6_addFlow F hF (r64 := o21) h hl hj hx3 (show (-1 : Int32).toInt = -1 from rfl) (Or.inr rfl) (fun b hb => by rw [h21 b hb, h64 b hb]; have := hfi b; omega)) (fun o22 h22 => ?_)
  have hD : ∀ b, b < 200 → (o22 b).toInt = FL na tg sh lab i b - FL na tg sh lab j b := fun b hb => by
    rw [h22 b hb, h21 b hb, h64 b hb]
    omega
  refine sp_pos (mj_ib_of (by omega) (by omega)) ?_
  rw [c2]
  refine sp_bind (s6_chk1 F hF (x3 := x3) (D := fun b => FL na tg sh lab i b - FL na tg sh lab j b) (W := fun _ => True) h hl hi hx2 (fun b hb => Or.inr ⟨hD b hb, trivial⟩) (Or.inl ⟨rfl, hD⟩)) ?_
  rintro ⟨x4, a64⟩ ⟨hZ, hA⟩
  dsimp only at hZ hA
  refine sp_u2 (sp_pos (mj_ib_of (by omega) (by omega)) ?_)
  rw [c3]
  refine sp_bind (s6_chk2 F hF (D := fun b => FL na tg sh lab i b - FL na tg sh lab j b) (W := fun b => True ∧ ∀ k, k < na i → ¬ lab (tg i k) = b) h hl hj hx3 hZ hA) ?_
  rintro ⟨y4, b64⟩ ⟨hZ2, hA2⟩
  dsimp only at hZ2 hA2
  have hz : ∀ b, b < 200 → (b64 b).toInt = 0 := by
    intro b hb
    rcases hZ2 b hb with w | ⟨w1, ⟨-, w2⟩, w3⟩
    · exact w
    · rw [w1, hno i hi b w2, hno j hj b w3]; rfl
  have big : ∀ i, i < n → ∀ b, ¬ b < 200 → FL na tg sh lab i b = 0 := fun i hi b hb => hno i hi b (fun k hk e => hb (by rw [← e]; exact (hl _ (uG_t h i hi k hk)).2))
  refine sp_u2 ?_
  rcases hA2 with ⟨rfl, hA2⟩ | ⟨rfl, b, hb, hA2⟩
  · refine sp_pos (by decide) (sp_some ⟨hz, Or.inl ⟨rfl, fun b => ?_⟩⟩)
    by_cases e : b < 200
    · have w1 := hA2 b e
      rw [hz b e] at w1
      omega
    · rw [big i hi b e, big j hj b e]
  · refine sp_pos (by decide) (sp_some ⟨hz, Or.inr ⟨rfl, fun w => hA2 ?_⟩⟩)
    rw [w b]
    omega
theorem s_fill61 (F : Nat) (hF : 3000 ≤ F) (r61 : Nat → Int32) {y v : Int32} {N : Nat} (hy : y.toInt = (N : Nat)) (hN : N ≤ 200) (hv : v.toInt = -1) : sp (fnJ7_fill_fda19_61 F r61 0 y v) (fun e => ∀ j, j < N → (e j).toInt = -1) := by
  have e0 : (0 : Int32).toInt = 0 := rfl
  have e4 : (200 : Int32).toInt = 200 := rfl
  unfold fnJ7_fill_fda19_61
  have hr : fnJ7_rangeCheck_23922 F 200 0 y = some () := by
    unfold fnJ7_rangeCheck_23922
    rw [if_pos (i_le.mpr (by omega)), if_pos (i_le.mpr (by omega)), if_pos (i_le.mpr (by omega))]
  rw [hr, Option.bind_some]
  refine sp_bind (sp_cnt (fun s : Int32 × (Nat → Int32) => s.1) N (by omega) (fun i s => ∀ u, u < i → (s.2 u).toInt = -1) (Q := fun e : Nat → Int32 => ∀ j, j < N → (e j).toInt = -1) ?_ F 0 _ (by omega) e0 (fun u hu => absurd hu (Nat.not_lt_zero u)) (by omega)) (fun c hc => sp_some hc)
  rintro i ⟨x, a⟩ hi hx hcx hx1 hJ
  refine sp_u2 ?_
  dsimp only at hx hcx hx1 hJ
  unfold bdJ7_fill_fda19_61_10
  refine sp_ite (fun hz => sp_some ?_) (fun hz => ?_)
  · have := i_le.mp hz
    have : i = N := by omega
    subst this
    exact hJ
  · have hz2 : ¬ y.toInt ≤ x.toInt := fun z => hz (i_le.mpr z)
    refine sp_pos (mj_ib_of (by omega) (by omega)) (sp_some ⟨by omega, rfl, fun u hu => ?_⟩)
    dsimp only
    rw [hcx]
    by_cases hui : u = i
    · rw [hui, upd_at]; exact hv
    · rw [upd_ne hui]; exact hJ u (by omega)
