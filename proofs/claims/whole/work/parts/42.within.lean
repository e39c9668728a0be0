/-! ===== within: the reference ===== -/
/-- the row of sixtieths -/
def odQ (q97 : Nat → Int64) : Prop := ∀ k, k < 61 → (q97 k).toInt = ((k : Nat) : Int) * 715408453 % 998244353
/-- where one is, as the reference has it -/
def nw (n : Nat) (na : Nat → Nat) (tg : Nat → Nat → Nat) (sh : Nat → Nat → Int) (j t : Nat) : Int := if na t = 0 then ac n na tg sh j t else hr n na tg sh j t
theorem nw_s (n : Nat) (na : Nat → Nat) (tg : Nat → Nat → Nat) (sh : Nat → Nat → Int) (j t : Nat) {q : Nat → Int} (hq : ∀ i, i < n → cg (q i) (nw n na tg sh j i)) (ht : t < n) : cg ((if na t = 0 then q t else 0) + inf n na tg sh q t) (nw n na tg sh (j + 1) t) := by
  have h1 : cg (inf n na tg sh q t) (hr n na tg sh (j + 1) t) := by
    refine cg_tr (inf_cg (g := hr n na tg sh j) (fun i hi h0 => ?_) t) (cg_sy (cg_md _))
    have := hq i hi
    unfold nw at this
    rw [if_neg (by omega)] at this
    exact this
  unfold nw
  by_cases h0 : na t = 0
  · rw [if_pos h0, if_pos h0]
    have := hq t ht
    unfold nw at this
    rw [if_pos h0] at this
    exact cg_add this h1
  · rw [if_neg h0, if_neg h0, Int.zero_add]
    exact h1
theorem l_fm {x y : Int64} {a : Int} (hx : fd x.toInt) (hy : 0 ≤ y.toInt ∧ y.toInt < 998244353) {z : Int64} (hz : fd z.toInt) (ha : a = z.toInt + x.toInt * y.toInt) : ((z + x * y) - (z + x * y) / (998244353 : Int64) * (998244353 : Int64)).toInt = a % 998244353 := by
  have eP : (998244353 : Int64).toInt = 998244353 := rfl
  obtain ⟨m0, m1⟩ := fd_mul hx hy
  obtain ⟨z0, z1⟩ := hz
  have e := l_mul (a := x) (b := y) (by omega) (by omega)
  have e2 : (z + x * y).toInt = z.toInt + x.toInt * y.toInt := by rw [l_add (by rw [e]; omega) (by rw [e]; omega), e]
  rw [l_rem (by rw [e2]; omega) (by rw [eP]; omega), e2, eP, ha]
theorem s11_flow (F : Nat) (hF : 600 ≤ F) {n : Nat} (hn : n ≤ 200) {na : Nat → Nat} {tg : Nat → Nat → Nat} {sh : Nat → Nat → Int} {r83 r84 r85 : Nat → Int32} {q91 q97 b92 : Nat → Int64} (hA : rA n na tg r83 r84) (ho : odQ q97) {i : Nat} (hi : i < n) (hs : ∀ k, k < na i → (r85 (10 * i + k)).toInt = sh i k ∧ 1 ≤ sh i k ∧ sh i k ≤ 60) {x1 x2 x3 x : Int32} (hx : x.toInt = (i : Nat)) (hq : fd (q91 i).toInt) (hb : ∀ t, t < n → fd (b92 t).toInt) :
    sp (mj_it (mj_u2 (fun z0 z1 => bdX11_within_147 F r83 r84 r85 q91 q97 x1 x2 x3 x z0 z1)) F ((0 : Int32), b92)) (fun e => ∀ t, t < n → fd (e t).toInt ∧ cg (e t).toInt ((b92 t).toInt + sm (na i) (fun k => if tg i k = t then (q91 i).toInt * 715408453 * sh i k else 0))) := by
  obtain ⟨A1, A2, A3⟩ := hA i hi
  have e0 : (0 : Int32).toInt = 0 := rfl
  have e1 : (1 : Int32).toInt = 1 := rfl
  have e10 : (10 : Int32).toInt = 10 := rfl
  have l0 : (0 : Int64).toInt = 0 := rfl
  have hcx : x.toNatClampNeg = i := by rw [i_cl, hx]; rfl
  have hix : mj_ib x 200 = true := mj_ib_of (by omega) (by omega)
  have x10 : (10 * x).toInt = 10 * (i : Nat) := by rw [i_mul (by rw [e10]; omega) (by rw [e10]; omega), hx, e10]
  refine sp_it (J := fun s : Int32 × (Nat → Int64) => ∃ k : Nat, k ≤ na i ∧ s.1.toInt = (k : Nat) ∧ ∀ t, t < n → fd (s.2 t).toInt ∧ cg (s.2 t).toInt ((b92 t).toInt + sm k (fun k => if tg i k = t then (q91 i).toInt * 715408453 * sh i k else 0))) (fun s => (20 - s.1.toInt).toNat) ?_ F _ ?_ ?_
  · rintro ⟨y, c⟩ ⟨k, k1, k2, k3⟩
    refine sp_u2 ?_
    dsimp only at k2 k3
    have hy1 : (y + 1).toInt = ((k + 1 : Nat) : Int) := by rw [i_add (by omega) (by omega), k2, e1]; omega
    have hmu : k < na i → (20 - (y + 1).toInt).toNat < (20 - y.toInt).toNat := by intro z; rw [hy1, k2]; omega
    unfold bdX11_within_147
    refine sp_pos hix ?_
    rw [hcx]
    refine sp_ite (fun hz => sp_some ?_) (fun hz => ?_)
    · have := i_le.mp hz
      have : k = na i := by omega
      subst this
      exact k3
    · have hz2 : ¬ (r83 i).toInt ≤ y.toInt := fun z => hz (i_le.mpr z)
      have hk : k < na i := by omega
      refine sp_pos hix ?_
      refine sp_ite (fun hq0 => sp_some (fun t ht => ?_)) (fun hq0 => ?_)
      · have g0 : (q91 i).toInt = 0 := by rw [hq0]; rfl
        have z : ∀ m, sm m (fun k => if tg i k = t then (q91 i).toInt * 715408453 * sh i k else 0) = 0 := fun m => (sm_eq _ (fun k _ => by rw [g0]; split <;> first | rfl | rw [Int.zero_mul, Int.zero_mul])).trans (sm_zero m)
        have := k3 t ht
        rw [z] at this ⊢
        exact this
      · obtain ⟨t1, t2⟩ := A3 k hk
        obtain ⟨s1, s2, s3⟩ := hs k hk
        have xi : (10 * x + y).toInt = ((10 * i + k : Nat) : Int) := by rw [i_add (by omega) (by omega), x10, k2]; omega
        have ci : (10 * x + y).toNatClampNeg = 10 * i + k := by rw [i_cl, xi]; omega
        have hiy : mj_ib (10 * x + y) 2000 = true := mj_ib_of (by omega) (by omega)
        have ct' : (r84 (10 * i + k)).toNatClampNeg = tg i k := by rw [i_cl, t1]; omega
        have cs' : (r85 (10 * i + k)).toNatClampNeg = (sh i k).toNat := by rw [i_cl, s1]
        have hit : mj_ib (r84 (10 * i + k)) 200 = true := mj_ib_of (by omega) (by omega)
        have his : mj_ib (r85 (10 * i + k)) 61 = true := mj_ib_of (by omega) (by omega)
        have ho2 := ho (sh i k).toNat (by omega)
        have hsn : (((sh i k).toNat : Nat) : Int) = sh i k := Int.toNat_of_nonneg (by omega)
        rw [hsn] at ho2
        refine sp_pos hiy ?_
        rw [ci]
        refine sp_pos hit (sp_pos hix (sp_pos hiy (sp_pos his (sp_pos hit ?_))))
        rw [ct', cs']
        obtain ⟨p1, p2⟩ := k3 (tg i k) t2
        have hval := l_fm (x := q91 i) (y := q97 (sh i k).toNat) (z := c (tg i k)) hq (by rw [ho2]; exact fd_md _) p1 rfl
        refine sp_some ⟨⟨k + 1, hk, hy1, fun t ht => ?_⟩, hmu hk⟩
        dsimp only
        rw [sm_s]
        by_cases htk : t = tg i k
        · subst htk
          rw [updL_at, if_pos rfl, hval]
          refine ⟨fd_md _, cg_tr (cg_md _) ?_⟩
          rw [← Int.add_assoc, ho2]
          refine cg_add p2 (cg_tr (cg_mul (cg_rf _) (cg_md _)) ?_)
          have : (q91 i).toInt * (sh i k * 715408453) = (q91 i).toInt * 715408453 * sh i k := by grind
          rw [this]; exact cg_rf _
        · rw [updL_ne htk, if_neg (fun z => htk z.symm), Int.add_zero]
          exact k3 t ht
  · refine ⟨0, by omega, e0, fun t ht => ⟨hb t ht, ?_⟩⟩
    show cg (b92 t).toInt ((b92 t).toInt + 0)
    rw [Int.add_zero]; exact cg_rf _
  · show (20 - (0 : Int32).toInt).toNat < F
    rw [e0]; omega
theorem s11_flows (F : Nat) (hF : 600 ≤ F) {n : Nat} (hn : n ≤ 200) {na : Nat → Nat} {tg : Nat → Nat → Nat} {sh : Nat → Nat → Int} {r71 r83 r84 r85 : Nat → Int32} {q91 q97 b92 : Nat → Int64} (h24 : (r71 24).toInt = (n : Nat)) (hA : rA n na tg r83 r84) (ho : odQ q97) (hs : ∀ i, i < n → ∀ k, k < na i → (r85 (10 * i + k)).toInt = sh i k ∧ 1 ≤ sh i k ∧ sh i k ≤ 60) {x1 x2 x3 : Int32} (hq : ∀ t, t < n → fd (q91 t).toInt) (hb : ∀ t, t < n → fd (b92 t).toInt) :
    sp (mj_it (mj_u2 (fun z0 z1 => bdX11_within_135 F r71 r83 r84 r85 q91 q97 x1 x2 x3 z0 z1)) F ((0 : Int32), b92)) (fun e => ∀ t, t < n → fd (e t).toInt ∧ cg (e t).toInt ((b92 t).toInt + inf n na tg sh (fun i => (q91 i).toInt) t)) := by
  have e0 : (0 : Int32).toInt = 0 := rfl
  have e1 : (1 : Int32).toInt = 1 := rfl
  refine sp_it (J := fun s : Int32 × (Nat → Int64) => ∃ i : Nat, i ≤ n ∧ s.1.toInt = (i : Nat) ∧ ∀ t, t < n → fd (s.2 t).toInt ∧ cg (s.2 t).toInt ((b92 t).toInt + inf i na tg sh (fun i => (q91 i).toInt) t)) (fun s => (300 - s.1.toInt).toNat) ?_ F _ ?_ ?_
  · rintro ⟨x, a⟩ ⟨i, i1, i2, i3⟩
    refine sp_u2 ?_
    dsimp only at i2 i3
    have hx1 : (x + 1).toInt = ((i + 1 : Nat) : Int) := by rw [i_add (by omega) (by omega), i2, e1]; omega
    have hmu : (300 - (x + 1).toInt).toNat < (300 - x.toInt).toNat := by rw [hx1, i2]; omega
    unfold bdX11_within_135
    refine sp_ite (fun hz => sp_some ?_) (fun hz => ?_)
    · have := i_le.mp hz
      have : i = n := by omega
      subst this
      exact i3
    · have hz2 : ¬ (r71 24).toInt ≤ x.toInt := fun z => hz (i_le.mpr z)
      have hi : i < n := by omega
      refine sp_bind (s11_flow F hF hn hA ho hi (hs i hi) i2 (hq i hi) (fun t ht => (i3 t ht).1)) (fun o h15 => ?_)
      refine sp_some ⟨⟨i + 1, hi, hx1, fun t ht => ⟨(h15 t ht).1, ?_⟩⟩, hmu⟩
      dsimp only
      have hsm : inf (i + 1) na tg sh (fun i => (q91 i).toInt) t = inf i na tg sh (fun i => (q91 i).toInt) t + sm (na i) (fun k => if tg i k = t then (q91 i).toInt * 715408453 * sh i k else 0) := rfl
      rw [hsm, ← Int.add_assoc]
      exact cg_tr (h15 t ht).2 (cg_add (i3 t ht).2 (cg_rf _))
  · refine ⟨0, by omega, e0, fun t ht => ⟨hb t ht, ?_⟩⟩
    show cg (b92 t).toInt ((b92 t).toInt + 0)
    rw [Int.add_zero]; exact cg_rf _
  · show (300 - (0 : Int32).toInt).toNat < F
    rw [e0]; omega
/-- a row of longs set, state by state -/
theorem s_rowL (F : Nat) (hF : 600 ≤ F) {n : Nat} (hn : n ≤ 200) {r71 : Nat → Int32} (h24 : (r71 24).toInt = (n : Nat)) {body : Int32 → (Nat → Int64) → Option ((Int32 × (Nat → Int64)) ⊕ (Nat → Int64))} {v : Nat → Int64} (q0 : Nat → Int64) (h1 : ∀ (x : Int32) (q : Nat → Int64), r71 24 ≤ x → body x q = some (.inr q)) (h2 : ∀ (x : Int32) (q : Nat → Int64) (i : Nat), i < n → x.toInt = (i : Nat) → body x q = some (.inl (x + 1, vp_updL q i (v i)))) :
    sp (mj_it (mj_u2 body) F ((0 : Int32), q0)) (fun e => ∀ t, t < n → e t = v t) := by
  have e0 : (0 : Int32).toInt = 0 := rfl
  have e1 : (1 : Int32).toInt = 1 := rfl
  refine sp_it (J := fun s : Int32 × (Nat → Int64) => ∃ i : Nat, i ≤ n ∧ s.1.toInt = (i : Nat) ∧ ∀ t, t < i → s.2 t = v t) (fun s => (300 - s.1.toInt).toNat) ?_ F _ ?_ ?_
  · rintro ⟨x, a⟩ ⟨i, i1, i2, i3⟩
    refine sp_u2 ?_
    dsimp only at i2 i3
    have hx1 : (x + 1).toInt = ((i + 1 : Nat) : Int) := by rw [i_add (by omega) (by omega), i2, e1]; omega
    have hmu : (300 - (x + 1).toInt).toNat < (300 - x.toInt).toNat := by rw [hx1, i2]; omega
    by_cases hi : i < n
    · rw [h2 x a i hi i2]
      refine sp_some ⟨⟨i + 1, hi, hx1, fun t ht => ?_⟩, hmu⟩
      dsimp only
      by_cases hti : t = i
      · rw [hti, updL_at]
      · rw [updL_ne hti]; exact i3 t (by omega)
    · have : i = n := by omega
      subst this
      rw [h1 x a (i_le.mpr (by omega))]
      exact sp_some i3
  · exact ⟨0, by omega, e0, fun u hu => absurd hu (Nat.not_lt_zero u)⟩
  · show (300 - (0 : Int32).toInt).toNat < F
    rw [e0]; omega
