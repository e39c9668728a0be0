/-! ===== an arc and the state that it leads to ===== -/
theorem i_one {x : Int32} (h1 : -2147483648 < x.toInt) (h2 : x.toInt < 2147483647) : (x + 1 - 1) = x := by
  apply i_eq.mpr
  have e1 : (1 : Int32).toInt = 1 := rfl
  have a : (x + 1).toInt = x.toInt + 1 := by rw [i_add (by omega) (by omega), e1]
  rw [i_sub (by omega) (by omega), a, e1]
  omega
/-- a state found, made, or one too many -/
def stR (n : Nat) (p v lv : Int32) (r32 r33 r34 r35 r40 r71 r80 r81 r82 : Nat → Int32) (a : Int32 × (Nat → Int32) × (Nat → Int32) × (Nat → Int32) × (Nat → Int32) × (Nat → Int32)) (b : Int32 × (Nat → Int32) × (Nat → Int32) × (Nat → Int32) × (Nat → Int32)) : Prop :=
  (∃ s, s < n ∧ a.1.toInt = s ∧ b.1 = a.1 ∧ r33 s = p ∧ r34 s = v ∧ a.2 = (r32, r33, r34, r35, r40) ∧ b.2 = (r71, r80, r81, r82)) ∨
  (n < 200 ∧ a.1.toInt = n ∧ b.1 = a.1 ∧ ∃ r40', a.2 = (upd r32 2 (r32 2 + 1), upd r33 n p, upd r34 n v, upd r35 n lv, r40') ∧ b.2 = (upd r71 24 (r71 24 + 1), upd r80 n p, upd r81 n v, upd r82 n lv) ∧ hQ (n + 1) (upd r33 n p) (upd r34 n v) r40') ∨
  (n = 200 ∧ a.1.toInt = -1 ∧ a.2 = (r32, r33, r34, r35, r40) ∧ b.2 = (upd r71 21 1, r80, r81, r82))
theorem s2_state (F : Nat) (hF : 600 ≤ F) {n : Nat} (hn200 : n ≤ 200) {r32 r33 r34 r35 r40 r71 r80 r81 r82 : Nat → Int32} (h : hQ n r33 r34 r40) (h1 : (r32 2).toInt = n) (h2 : (r71 24).toInt = n) (hst : ∀ s, s < n → r80 s = r33 s ∧ r81 s = r34 s) {p v v0 lv : Int32} (hv : v = if p = r71 4 + 1 then 0 else v0) (hlv : (n = 0 → lv = 0) ∧ (0 < n → 0 ≤ (r71 26).toInt ∧ (r71 26).toInt < 200 ∧ lv = r82 (r71 26).toNatClampNeg + 1)) :
    sp2 (fnX4_stateAt F r32 r33 r34 r35 r40 p v lv) (fnX11_stateFor F r71 r80 r81 r82 p v0) (stR n p v lv r32 r33 r34 r35 r40 r71 r80 r81 r82) := by
  have e1 : (1 : Int32).toInt = 1 := rfl
  have e0 : (0 : Int32).toInt = 0 := rfl
  have e200 : (200 : Int32).toInt = 200 := rfl
  have hb : fnX11_stateFor F r71 r80 r81 r82 p v0 = jnX11_stateFor_15 F p v r71 r80 r81 r82 := by
    unfold fnX11_stateFor
    rw [hv]
    split <;> rfl
  rw [hb]
  unfold fnX4_stateAt jnX11_stateFor_15
  refine sp2_bind (sp2_of (s4_probe F hF hn200 h p v lv) (s11_search F hF hn200 (r80 := r80) (r81 := r81) h2 p v)) ?_
  rintro (a | a) (b | b) ⟨ha, hb⟩
  · obtain ⟨t, t1, t2, t3, t4, t5⟩ := ha
    show sp2 (if r32 2 < 200 then _ else _) (if r71 24 = 200 then _ else _) _
    by_cases hnn : n < 200
    · refine sp2_lp (i_lt.mpr (by omega)) ?_
      have hib : mj_ib (r32 2) 200 = true := mj_ib_of (by omega) (by omega)
      have hib2 : mj_ib (r71 24) 200 = true := mj_ib_of (by omega) (by omega)
      have hia : mj_ib a 512 = true := mj_ib_of (by omega) (by omega)
      refine sp2_lp hib (sp2_lp hib (sp2_lp hib (sp2_lp hia ?_)))
      refine sp2_rn (fun z => by have := i_eq.mp z; omega) (sp2_rp hib2 (sp2_rp hib2 ?_))
      have hc1 : (r32 2).toNatClampNeg = n := by rw [i_cl, h1]; rfl
      have hc2 : (r71 24).toNatClampNeg = n := by rw [i_cl, h2]; rfl
      have hca : a.toNatClampNeg = (hn p v + t) % 512 := by rw [i_cl, t2]; exact Int.toNat_natCast _
      have ho : (r32 2 + 1 - 1) = r32 2 := i_one (by omega) (by omega)
      have ho2 : (r71 24 + 1 - 1) = r71 24 := i_one (by omega) (by omega)
      have heq : r71 24 = r32 2 := i_eq.mpr (by omega)
      have hw : (r32 2 + 1).toInt = n + 1 := by rw [i_add (by omega) (by omega), h1, e1]
      have hpush := hQ_push h p v hnn t t1 t3 t4 t5 (r32 2 + 1) hw
      rw [hc1, hc2, hca, ho, ho2]
      by_cases hn0 : n = 0
      · refine sp2_rp (i_eq.mpr (by omega)) ?_
        refine sp2_rp hib2 (sp2_some (Or.inr (Or.inl ⟨hnn, by show (r32 2).toInt = n; exact h1, heq, _, rfl, ?_, hpush⟩)))
        rw [hlv.1 hn0]
      · obtain ⟨g1, g2, g3⟩ := hlv.2 (by omega)
        refine sp2_rn (fun z => by have := i_eq.mp z; omega) ?_
        refine sp2_rp (mj_ib_of g1 g2) (sp2_rp hib2 (sp2_some (Or.inr (Or.inl ⟨hnn, by show (r32 2).toInt = n; exact h1, heq, _, rfl, ?_, hpush⟩))))
        rw [g3]
    · have hn2 : n = 200 := by omega
      refine sp2_ln (fun z => by have := i_lt.mp z; omega) (sp2_rp (i_eq.mpr (by omega)) (sp2_some (Or.inr (Or.inr ⟨hn2, rfl, rfl, rfl⟩))))
  · obtain ⟨s, s1, s2, s3, s4⟩ := hb
    obtain ⟨t, t1, t2, t3, t4, t5⟩ := ha
    have := hst s s1
    exact absurd ⟨this.1.symm.trans s3, this.2.symm.trans s4⟩ (t5 s s1)
  · obtain ⟨s, s1, s2, s3, s4⟩ := ha
    have := hst s s1
    exact absurd ⟨this.1.trans s3, this.2.trans s4⟩ (hb s s1)
  · obtain ⟨s, s1, s2, s3, s4⟩ := ha
    obtain ⟨u, u1, u2, u3, u4⟩ := hb
    have hu := hst u u1
    have : u = s := h.2.2.2 u s u1 s1 ((hu.1.symm.trans u3).trans s3.symm) ((hu.2.symm.trans u4).trans s4.symm)
    subst this
    exact sp2_some (Or.inl ⟨u, u1, s2, i_eq.mpr (by show b.toInt = a.toInt; omega), s3, s4, rfl, rfl⟩)
def ssum (r : Nat → Int32) (b : Nat) : Nat → Int
  | 0 => 0
  | m + 1 => ssum r b m + (r (b + m)).toInt
theorem ssum_congr {r r' : Nat → Int32} {b : Nat} : ∀ m, (∀ k, k < m → r' (b + k) = r (b + k)) → ssum r' b m = ssum r b m := by
  intro m
  induction m with
  | zero => intro _; rfl
  | succ m ih =>
    intro h
    unfold ssum
    rw [ih (fun k hk => h k (by omega)), h m (by omega)]
/-- the arcs of a state that is done with -/
def aD (C : Int) (n s base : Nat) (r33 r37 r38 r39 r83 r84 r85 : Nat → Int32) : Prop := ∃ f a : Nat, (r37 s).toInt = f ∧ (r83 s).toInt = a ∧ a ≤ 10 ∧ f + a ≤ base ∧ (r37 (s + 1)).toInt = f + a ∧
  (∀ k, k < a → r84 (10 * s + k) = r38 (f + k) ∧ r85 (10 * s + k) = r39 (f + k) ∧ 0 ≤ (r38 (f + k)).toInt ∧ (r38 (f + k)).toInt < n ∧ 1 ≤ (r39 (f + k)).toInt ∧ (r39 (f + k)).toInt ≤ 60) ∧ ssum r39 f a = (if (r33 s).toInt < C then 60 else 0) ∧ ((r33 s).toInt < C ↔ 0 < a)
/-- a state, in both -/
def sD (C : Int) (s : Nat) (r33 r34 r35 r80 r81 r82 : Nat → Int32) : Prop := r80 s = r33 s ∧ r81 s = r34 s ∧ r82 s = r35 s ∧ 0 ≤ (r33 s).toInt ∧ (r33 s).toInt ≤ C + 1 ∧ sx (r34 s) ∧ ((r33 s).toInt = C + 1 → r34 s = 0) ∧ 0 ≤ (r35 s).toInt ∧ (r35 s).toInt ≤ s
/-- the exploring, at state i, with m arcs of it laid -/
def gF (C : Int) (i n base m : Nat) (acc : Int) (r37 r32 r33 r34 r35 r38 r39 r40 r71 r80 r81 r82 r83 r84 r85 : Nat → Int32) : Prop :=
  (1 ≤ n ∧ n ≤ 200 ∧ (r32 2).toInt = n ∧ (r71 24).toInt = n) ∧
  (0 ≤ C ∧ C ≤ 40 ∧ (r32 7).toInt = C ∧ (r71 4).toInt = C ∧ r32 6 = 0 ∧ r71 21 = 0) ∧
  (∀ s, s < n → sD C s r33 r34 r35 r80 r81 r82) ∧
  hQ n r33 r34 r40 ∧
  ((r32 3).toInt = base + m ∧ (r71 25).toInt = base + m ∧ base ≤ 10 * i ∧ m ≤ 10 ∧ (r83 i).toInt = m ∧ ssum r39 base m = acc) ∧
  (∀ k, k < m → r84 (10 * i + k) = r38 (base + k) ∧ r85 (10 * i + k) = r39 (base + k) ∧ 0 ≤ (r38 (base + k)).toInt ∧ (r38 (base + k)).toInt < n ∧ 1 ≤ (r39 (base + k)).toInt ∧ (r39 (base + k)).toInt ≤ 60) ∧
  (∀ s, s < i → aD C n s base r33 r37 r38 r39 r83 r84 r85) ∧ (i = 0 → base = 0) ∧ (0 < i → (r37 0).toInt = 0 ∧ (r37 i).toInt = base)
/-- one state too many -/
def mny (r32 r71 : Nat → Int32) : Prop := r32 6 = 1 ∧ r71 21 = 1 ∧ (r32 2).toInt = 200 ∧ (r71 24).toInt = 200
/-- what an arc leaves as it was -/
def kpF (r32 r71 a32 b71 : Nat → Int32) : Prop := (∀ k, k ≠ 2 → k ≠ 3 → k ≠ 6 → a32 k = r32 k) ∧ (∀ k, k ≠ 21 → k ≠ 24 → k ≠ 25 → k ≠ 26 → b71 k = r71 k)
theorem kpF_rf {r32 r71 : Nat → Int32} : kpF r32 r71 r32 r71 := ⟨fun _ _ _ _ => rfl, fun _ _ _ _ _ => rfl⟩
theorem kpF_tr {a b a' b' a'' b'' : Nat → Int32} (h1 : kpF a b a' b') (h2 : kpF a' b' a'' b'') : kpF a b a'' b'' := ⟨fun k x y z => (h2.1 k x y z).trans (h1.1 k x y z), fun k x y z w => (h2.2 k x y z w).trans (h1.2 k x y z w)⟩
abbrev T7 : Type := (Nat → Int32) × (Nat → Int32) × (Nat → Int32) × (Nat → Int32) × (Nat → Int32) × (Nat → Int32) × (Nat → Int32)
/-- behind an arc -/
def afF (C : Int) (i base m : Nat) (acc : Int) (r37 r32 r71 : Nat → Int32) (p33 p34 : Int32) (a b : T7) : Prop :=
  kpF r32 r71 a.1 b.1 ∧ ((∃ n, i < n ∧ a.2.1 i = p33 ∧ a.2.2.1 i = p34 ∧ gF C i n base m acc r37 a.1 a.2.1 a.2.2.1 a.2.2.2.1 a.2.2.2.2.1 a.2.2.2.2.2.1 a.2.2.2.2.2.2 b.1 b.2.1 b.2.2.1 b.2.2.2.1 b.2.2.2.2.1 b.2.2.2.2.2.1 b.2.2.2.2.2.2) ∨ mny a.1 b.1)
theorem aD_up {C : Int} {n n' s base : Nat} {r33 r37 r38 r39 r83 r84 r85 r33' r38' r39' r83' r84' r85' : Nat → Int32} (h : aD C n s base r33 r37 r38 r39 r83 r84 r85) (hn : n ≤ n') (h33 : r33' s = r33 s) (h83 : r83' s = r83 s) (h38 : ∀ j, j < base → r38' j = r38 j ∧ r39' j = r39 j) (h84 : ∀ k, k < 10 → r84' (10 * s + k) = r84 (10 * s + k) ∧ r85' (10 * s + k) = r85 (10 * s + k)) : aD C n' s base r33' r37 r38' r39' r83' r84' r85' := by
  obtain ⟨f, a, h1, h2, h3, h4, h5, h6, h7, h8⟩ := h
  refine ⟨f, a, h1, by rw [h83]; exact h2, h3, h4, h5, fun k hk => ?_, ?_, by rw [h33]; exact h8⟩
  · obtain ⟨g1, g2, g3, g4, g5, g6⟩ := h6 k hk
    have q1 := h38 (f + k) (by omega)
    have q2 := h84 k (by omega)
    rw [q1.1, q1.2, q2.1, q2.2]
    exact ⟨g1, g2, g3, by omega, g5, g6⟩
  · rw [h33, ssum_congr a (fun k hk => (h38 (f + k) (by omega)).2)]
    exact h7
