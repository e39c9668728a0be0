/-! ===== means; independence ===== -/
def dB (r33 : Nat → Int32) (c : Int32) (r34 : Nat → Int32) (v : Nat) (x : Nat) (t : Nat) : Bool := decide (r33 t = c) && decide ((dgt (r34 t) v).toInt = (x : Int))
theorem dB_t {r33 r34 : Nat → Int32} {c : Int32} {v x t : Nat} : dB r33 c r34 v x t = true ↔ r33 t = c ∧ (dgt (r34 t) v).toInt = (x : Int) := by simp [dB]
def pB (r33 : Nat → Int32) (c : Int32) (r34 : Nat → Int32) (v x w y : Nat) (t : Nat) : Bool := decide (r33 t = c) && (decide ((dgt (r34 t) v).toInt = (x : Int)) && decide ((dgt (r34 t) w).toInt = (y : Int)))
theorem pB_t {r33 r34 : Nat → Int32} {c : Int32} {v x w y t : Nat} : pB r33 c r34 v x w y t = true ↔ r33 t = c ∧ (dgt (r34 t) v).toInt = (x : Int) ∧ (dgt (r34 t) w).toInt = (y : Int) := by simp [pB]
theorem cpB_dB {r33 r34 : Nat → Int32} {c z : Int32} {v x : Nat} (hz : z.toInt = (x : Nat)) (t : Nat) : cpB r33 c r34 v z v z t = dB r33 c r34 v x t := by
  rw [Bool.eq_iff_iff, cpB_t, dB_t, i_eq, i_eq, hz]
  exact ⟨fun h => ⟨h.1, h.2.1⟩, fun h => ⟨h.1, h.2, h.2⟩⟩
theorem cpB_pB {r33 r34 : Nat → Int32} {c z z' : Int32} {v x w y : Nat} (hz : z.toInt = (x : Nat)) (hz' : z'.toInt = (y : Nat)) (t : Nat) : cpB r33 c r34 v z w z' t = pB r33 c r34 v x w y t := by
  rw [Bool.eq_iff_iff, cpB_t, pB_t, i_eq, i_eq, i_eq, hz, hz']
theorem sm_dig {r33 r34 : Nat → Int32} {c : Int32} {v : Nat} {g : Nat → Int} : ∀ n, (∀ t, t < n → sx (r34 t)) → sm 10 (fun x => (x : Int) * at_ n (dB r33 c r34 v x) g) = at_ n (en_ r33 c) (fun t => (dgt (r34 t) v).toInt * g t) := by
  intro n
  induction n with
  | zero =>
    intro _
    refine (sm_eq 10 (fun x _ => ?_)).trans (sm_zero 10)
    show (x : Int) * 0 = 0
    rw [Int.mul_zero]
  | succ n ih =>
    intro h
    have hd := dgt_b (h n (by omega)).1 v
    rw [at_s]
    have h1 : sm 10 (fun x => (x : Int) * at_ (n + 1) (dB r33 c r34 v x) g) = sm 10 (fun x => (x : Int) * at_ n (dB r33 c r34 v x) g + (if x = (dgt (r34 n) v).toInt.toNat then (if en_ r33 c n then (dgt (r34 n) v).toInt * g n else 0) else 0)) := by
      refine sm_eq 10 (fun x hx => ?_)
      rw [at_s, Int.mul_add]
      congr 1
      by_cases e : r33 n = c
      · rw [if_pos (show en_ r33 c n = true from decide_eq_true e)]
        by_cases e2 : x = (dgt (r34 n) v).toInt.toNat
        · rw [if_pos e2, if_pos (dB_t.mpr ⟨e, by omega⟩)]
          congr 1
          omega
        · rw [if_neg e2, if_neg (fun z => e2 (by have := (dB_t.mp z).2; omega)), Int.mul_zero]
      · rw [if_neg (show ¬ en_ r33 c n = true from fun z => e (of_decide_eq_true z)), if_neg (fun z => e (dB_t.mp z).1), Int.mul_zero]
        split <;> rfl
    rw [h1, sm_add, ih (fun t ht => h t (by omega)), sm_pt, if_pos (by omega)]
theorem s11_meanSum (F : Nat) (hF : 600 ≤ F) {n : Nat} (hn : n ≤ 200) {r71 r80 r81 r87 : Nat → Int32} {q90 : Nat → Int64} (h24 : (r71 24).toInt = (n : Nat)) (hf : ∀ t, t < n → fd (q90 t).toInt) (hs : ∀ t, t < n → sx (r81 t)) (ht : tens r87) {v x2 : Int32} (hv : vr v) :
    sp (mj_it (mj_u2 (fun z0 z1 => bdX11_mean_64 F r71 r80 r81 r87 q90 v x2 z0 z1)) F ((0 : Int64), (1 : Int32))) (fun c => 0 ≤ c.toInt ∧ cg c.toInt (at_ n (en_ r80 (r71 4)) (fun t => (dgt (r81 t) v.toNatClampNeg).toInt * (q90 t).toInt) * iv (at_ n (en_ r80 (r71 4)) (fun t => (q90 t).toInt) % 998244353))) := by
  have e1 : (1 : Int32).toInt = 1 := rfl
  have e10 : (10 : Int32).toInt = 10 := rfl
  generalize hiv : iv (at_ n (en_ r80 (r71 4)) (fun t => (q90 t).toInt) % 998244353) = iE
  refine sp_cnt (fun s : Int64 × Int32 => s.2) 10 (by omega) (fun i s => 1 ≤ i ∧ 0 ≤ s.1.toInt ∧ s.1.toInt ≤ (i : Int) * 10000000000 ∧ cg s.1.toInt (sm i (fun x => (x : Int) * at_ n (dB r80 (r71 4) r81 v.toNatClampNeg x) (fun t => (q90 t).toInt)) * iE)) ?_ F 1 _ (by omega) e1 ⟨by omega, Int.le_refl _, by show (0 : Int) ≤ ((1 : Nat) : Int) * 10000000000; decide, ?_⟩ (by omega)
  · rintro i ⟨s, z⟩ hi hx hcx hxs ⟨j0, j1, j2, j3⟩
    refine sp_u2 ?_
    dsimp only at hx hcx hxs j1 j2 j3
    unfold bdX11_mean_64
    refine sp_ite (fun hw => sp_some ?_) (fun hw2 => ?_)
    · have := i_le.mp hw
      have : i = 10 := by omega
      subst this
      rw [sm_dig n hs] at j3
      exact ⟨j1, j3⟩
    · have hw3 : ¬ (10 : Int32).toInt ≤ z.toInt := fun q => hw2 (i_le.mpr q)
      refine sp_bind (s11_oddsAlone F hF hn h24 hf ht (x := z) hv) (fun o ho => ?_)
      rw [hiv, at_eq (en' := dB r80 (r71 4) r81 v.toNatClampNeg i) (g' := fun t => (q90 t).toInt) (fun t _ => cpB_dB hx t) (fun _ _ => rfl)] at ho
      have hob : 0 ≤ o.toInt ∧ o.toInt ≤ 998244352 := by rw [ho]; omega
      have hm0 : 0 ≤ (i : Int) * o.toInt := Int.mul_nonneg (by omega) hob.1
      have hm1 : (i : Int) * o.toInt ≤ 9 * o.toInt := Int.mul_le_mul_of_nonneg_right (by omega) hob.1
      have hm : (z.toInt64 * o).toInt = (i : Int) * o.toInt := by rw [l_mul (by rw [i_l, hx]; omega) (by rw [i_l, hx]; omega), i_l, hx]
      have hs2 : (s + z.toInt64 * o).toInt = s.toInt + (i : Int) * o.toInt := l_addb rfl hm (by omega) (by omega)
      refine sp_some ⟨by omega, rfl, by omega, ?_, ?_, ?_⟩
      · dsimp only; rw [hs2]; omega
      · dsimp only; rw [hs2]; omega
      · dsimp only
        rw [hs2, sm_s, Int.add_mul]
        refine cg_add j3 ?_
        rw [Int.mul_assoc, ho]
        exact cg_mul (cg_rf _) (cg_tr (cg_md _) (cg_mul (cg_md _) (cg_rf _)))
  · show cg (0 : Int64).toInt ((0 + ((0 : Nat) : Int) * at_ n (dB r80 (r71 4) r81 v.toNatClampNeg 0) (fun t => (q90 t).toInt)) * iE)
    have : (0 + ((0 : Nat) : Int) * at_ n (dB r80 (r71 4) r81 v.toNatClampNeg 0) (fun t => (q90 t).toInt)) * iE = 0 := by
      have e : ((0 : Nat) : Int) = 0 := rfl
      rw [e, Int.zero_mul, Int.add_zero, Int.zero_mul]
    rw [this]
    exact cg_rf _
theorem s_fill47 (F : Nat) (hF : 600 ≤ F) (r47 : Nat → Int32) : sp (fnJ7_fill_53178_47 F r47 0) (fun e => ∀ j, j < 100 → e j = 0) := by
  have e0 : (0 : Int32).toInt = 0 := rfl
  have e200 : (100 : Int32).toInt = 100 := rfl
  unfold fnJ7_fill_53178_47
  refine sp_bind (sp_cnt (fun s : Int32 × (Nat → Int32) => s.1) 100 (by omega) (fun i s => ∀ u, u < i → s.2 u = 0) (Q := fun e : Nat → Int32 => ∀ j, j < 100 → e j = 0) ?_ F 0 _ (by omega) e0 (fun u hu => absurd hu (Nat.not_lt_zero u)) (by omega)) (fun c hc => sp_some hc)
  rintro i ⟨x, a⟩ hi hx hcx hx1 hJ
  refine sp_u2 ?_
  dsimp only at hx hcx hx1 hJ
  unfold bdJ7_fill_53178_47_5
  refine sp_ite (fun hz => sp_some ?_) (fun hz => ?_)
  · have := i_le.mp hz
    have : i = 100 := by omega
    subst this
    exact hJ
  · have hz2 : ¬ (100 : Int32).toInt ≤ x.toInt := fun z => hz (i_le.mpr z)
    refine sp_pos (mj_ib_of (by omega) (by omega)) (sp_some ⟨by omega, rfl, fun u hu => ?_⟩)
    dsimp only
    rw [hcx]
    by_cases hui : u = i
    · rw [hui, upd_at]
    · rw [upd_ne hui]; exact hJ u (by omega)
theorem s_fill48 (F : Nat) (hF : 600 ≤ F) (r48 : Nat → Int32) : sp (fnJ7_fill_53178_48 F r48 0) (fun e => ∀ j, j < 10 → e j = 0) := by
  have e0 : (0 : Int32).toInt = 0 := rfl
  have e200 : (10 : Int32).toInt = 10 := rfl
  unfold fnJ7_fill_53178_48
  refine sp_bind (sp_cnt (fun s : Int32 × (Nat → Int32) => s.1) 10 (by omega) (fun i s => ∀ u, u < i → s.2 u = 0) (Q := fun e : Nat → Int32 => ∀ j, j < 10 → e j = 0) ?_ F 0 _ (by omega) e0 (fun u hu => absurd hu (Nat.not_lt_zero u)) (by omega)) (fun c hc => sp_some hc)
  rintro i ⟨x, a⟩ hi hx hcx hx1 hJ
  refine sp_u2 ?_
  dsimp only at hx hcx hx1 hJ
  unfold bdJ7_fill_53178_48_5
  refine sp_ite (fun hz => sp_some ?_) (fun hz => ?_)
  · have := i_le.mp hz
    have : i = 10 := by omega
    subst this
    exact hJ
  · have hz2 : ¬ (10 : Int32).toInt ≤ x.toInt := fun z => hz (i_le.mpr z)
    refine sp_pos (mj_ib_of (by omega) (by omega)) (sp_some ⟨by omega, rfl, fun u hu => ?_⟩)
    dsimp only
    rw [hcx]
    by_cases hui : u = i
    · rw [hui, upd_at]
    · rw [upd_ne hui]; exact hJ u (by omega)
theorem s_fill49 (F : Nat) (hF : 600 ≤ F) (r49 : Nat → Int32) : sp (fnJ7_fill_53178_49 F r49 0) (fun e => ∀ j, j < 10 → e j = 0) := by
  have e0 : (0 : Int32).toInt = 0 := rfl
  have e200 : (10 : Int32).toInt = 10 := rfl
  unfold fnJ7_fill_53178_49
  refine sp_bind (sp_cnt (fun s : Int32 × (Nat → Int32) => s.1) 10 (by omega) (fun i s => ∀ u, u < i → s.2 u = 0) (Q := fun e : Nat → Int32 => ∀ j, j < 10 → e j = 0) ?_ F 0 _ (by omega) e0 (fun u hu => absurd hu (Nat.not_lt_zero u)) (by omega)) (fun c hc => sp_some hc)
  rintro i ⟨x, a⟩ hi hx hcx hx1 hJ
  refine sp_u2 ?_
  dsimp only at hx hcx hx1 hJ
  unfold bdJ7_fill_53178_49_5
  refine sp_ite (fun hz => sp_some ?_) (fun hz => ?_)
  · have := i_le.mp hz
    have : i = 10 := by omega
    subst this
    exact hJ
  · have hz2 : ¬ (10 : Int32).toInt ≤ x.toInt := fun z => hz (i_le.mpr z)
    refine sp_pos (mj_ib_of (by omega) (by omega)) (sp_some ⟨by omega, rfl, fun u hu => ?_⟩)
    dsimp only
    rw [hcx]
    by_cases hui : u = i
    · rw [hui, upd_at]
    · rw [upd_ne hui]; exact hJ u (by omega)
/-- the table of independence, at state i -/
def inJ (r33 : Nat → Int32) (c : Int32) (r34 : Nat → Int32) (v w : Nat) (g : Nat → Int) (i : Nat) (a47 a48 a49 : Nat → Int32) : Prop := ∀ x y, x < 10 → y < 10 → (a47 (10 * x + y)).toInt = at_ i (pB r33 c r34 v x w y) g % 998244353 ∧ (a48 x).toInt = at_ i (dB r33 c r34 v x) g % 998244353 ∧ (a49 y).toInt = at_ i (dB r33 c r34 w y) g % 998244353
theorem ix_ten {o5 o7 : Int32} {x y : Nat} (h5 : o5.toInt = (x : Nat)) (h7 : o7.toInt = (y : Nat)) (hx : x < 10) (hy : y < 10) : (10 * o5 + o7).toNatClampNeg = 10 * x + y ∧ mj_ib (10 * o5 + o7) 100 = true := by
  have e10 : (10 : Int32).toInt = 10 := rfl
  have mc : (10 * o5).toInt = ((10 * x : Nat) : Int) := by rw [i_mul (by rw [e10, h5]; omega) (by rw [e10, h5]; omega), e10, h5]; omega
  have dc : (10 * o5 + o7).toInt = ((10 * x + y : Nat) : Int) := by rw [i_add (by rw [mc, h7]; omega) (by rw [mc, h7]; omega), mc, h7]; omega
  exact ⟨by rw [i_cl, dc]; rfl, mj_ib_of (by rw [dc]; omega) (by rw [dc]; omega)⟩
theorem s2_inTab (F : Nat) (hF : 600 ≤ F) {n : Nat} (hn : n ≤ 200) {r32 r33 r34 r42 b47 b48 b49 : Nat → Int32} (h2 : (r32 2).toInt = (n : Nat)) (hf : ∀ t, t < n → fd (r42 t).toInt) (hs : ∀ t, t < n → sx (r34 t)) {v w : Int32} (hv : vr v) (hw : vr w) (z47 : ∀ j, j < 100 → b47 j = 0) (z48 : ∀ j, j < 10 → b48 j = 0) (z49 : ∀ j, j < 10 → b49 j = 0) :
    sp (mj_it (mj_u2 (fun z0 => (mj_u2 (fun z1 => (mj_u2 (fun z2 z3 => bdX2_areIndependent_27 F r32 r33 r34 r42 v w z0 z1 z2 z3)))))) F ((0 : Int32), b47, b48, b49)) (fun e => inJ r33 (r32 7) r34 v.toNatClampNeg w.toNatClampNeg (fun t => (r42 t).toInt) n e.1 e.2.1 e.2.2) := by
  have e0 : (0 : Int32).toInt = 0 := rfl
  refine sp_cnt (fun s : Int32 × (Nat → Int32) × (Nat → Int32) × (Nat → Int32) => s.1) n (by omega) (fun i s => inJ r33 (r32 7) r34 v.toNatClampNeg w.toNatClampNeg (fun t => (r42 t).toInt) i s.2.1 s.2.2.1 s.2.2.2) ?_ F 0 _ (by omega) e0 ?_ (by omega)
  · rintro i ⟨z, a47, a48, a49⟩ hi hx hcx hxs hJ
    refine sp_u2 (sp_u2 (sp_u2 ?_))
    dsimp only at hx hcx hxs hJ
    unfold bdX2_areIndependent_27
    refine sp_ite (fun hw => sp_some ?_) (fun hw2 => ?_)
    · have := i_le.mp hw
      have : i = n := by omega
      subst this
      exact hJ
    · have hw3 : ¬ (r32 2).toInt ≤ z.toInt := fun q => hw2 (i_le.mpr q)
      have hin : i < n := by omega
      have hib : mj_ib z 200 = true := mj_ib_of (by omega) (by omega)
      unfold fnX4_isEnd
      rw [if_pos hib, hcx, g_get F _ hv, g_get F _ hw]
      by_cases q : r33 i = r32 7
      · have hd := dgt_b (hs i hin).1 v.toNatClampNeg
        have hd' := dgt_b (hs i hin).1 w.toNatClampNeg
        obtain ⟨X, hX⟩ : ∃ X : Nat, (dgt (r34 i) v.toNatClampNeg).toInt = (X : Nat) := ⟨(dgt (r34 i) v.toNatClampNeg).toInt.toNat, by omega⟩
        obtain ⟨Y, hY⟩ : ∃ Y : Nat, (dgt (r34 i) w.toNatClampNeg).toInt = (Y : Nat) := ⟨(dgt (r34 i) w.toNatClampNeg).toInt.toNat, by omega⟩
        have hX10 : X < 10 := by omega
        have hY10 : Y < 10 := by omega
        obtain ⟨c1, hib1⟩ := ix_ten hX hY hX10 hY10
        have cX : (dgt (r34 i) v.toNatClampNeg).toNatClampNeg = X := by rw [i_cl, hX]; rfl
        have cY : (dgt (r34 i) w.toNatClampNeg).toNatClampNeg = Y := by rw [i_cl, hY]; rfl
        have hibX : mj_ib (dgt (r34 i) v.toNatClampNeg) 10 = true := mj_ib_of (by omega) (by omega)
        have hibY : mj_ib (dgt (r34 i) w.toNatClampNeg) 10 = true := mj_ib_of (by omega) (by omega)
        have hfi := hf i hin
        obtain ⟨t1, t2, t3⟩ := hJ X Y hX10 hY10
        rw [if_pos q, Option.bind_some, if_neg (show ¬ (1 : Int32) = 0 from by decide), if_pos hib, Option.bind_some, if_pos hib, Option.bind_some, if_pos hib1, if_pos hib, c1, cX, cY]
        refine sp_bind (s3_plus F (by rw [t1]; exact fd_md _) hfi) (fun o10 h10 => sp_pos hib1 (sp_pos hibX (sp_pos hib ?_)))
        refine sp_bind (s3_plus F (by rw [t2]; exact fd_md _) hfi) (fun o14 h14 => sp_pos hibX (sp_pos hibY (sp_pos hib ?_)))
        refine sp_bind (s3_plus F (by rw [t3]; exact fd_md _) hfi) (fun o18 h18 => sp_pos hibY (sp_some ⟨hin, rfl, fun x y hx10 hy10 => ?_⟩))
        clear c1
        obtain ⟨u1, u2, u3⟩ := hJ x y hx10 hy10
        refine ⟨?_, ?_, ?_⟩
        · dsimp only
          rw [at_s]
          by_cases e : x = X ∧ y = Y
          · rw [e.1, e.2, upd_at, if_pos (pB_t.mpr ⟨q, hX, hY⟩), h10, t1]; omega
          · rw [upd_ne (by omega), if_neg (fun z => e (by have := pB_t.mp z; omega)), Int.add_zero]; exact u1
        · dsimp only
          rw [at_s]
          by_cases e : x = X
          · rw [e, upd_at, if_pos (dB_t.mpr ⟨q, hX⟩), h14, t2]; omega
          · rw [upd_ne e, if_neg (fun z => e (by have := (dB_t.mp z).2; omega)), Int.add_zero]; exact u2
        · dsimp only
          rw [at_s]
          by_cases e : y = Y
          · rw [e, upd_at, if_pos (dB_t.mpr ⟨q, hY⟩), h18, t3]; omega
          · rw [upd_ne e, if_neg (fun z => e (by have := (dB_t.mp z).2; omega)), Int.add_zero]; exact u3
      · rw [if_neg q, Option.bind_some, if_pos rfl]
        refine sp_some ⟨hin, rfl, fun x y hx10 hy10 => ?_⟩
        obtain ⟨u1, u2, u3⟩ := hJ x y hx10 hy10
        rw [at_s, at_s, at_s, if_neg (fun z => q (pB_t.mp z).1), if_neg (fun z => q (dB_t.mp z).1), if_neg (fun z => q (dB_t.mp z).1), Int.add_zero, Int.add_zero, Int.add_zero]
        exact ⟨u1, u2, u3⟩
  · intro x y hx hy
    dsimp only
    rw [z47 _ (by omega), z48 _ hx, z49 _ hy]
    exact ⟨rfl, rfl, rfl⟩
/-- independent at x, y -/
def inP (n : Nat) (r33 : Nat → Int32) (c : Int32) (r34 : Nat → Int32) (v w : Nat) (g : Nat → Int) (x y : Nat) : Prop := cg (at_ n (pB r33 c r34 v x w y) g * at_ n (en_ r33 c) g) (at_ n (dB r33 c r34 v x) g * at_ n (dB r33 c r34 w y) g)
theorem s2_independent (F : Nat) (hF : 600 ≤ F) {n : Nat} (hn : n ≤ 200) {r32 r33 r34 r41 r42 r47 r48 r49 : Nat → Int32} (h2 : (r32 2).toInt = (n : Nat)) (hf : ∀ t, t < n → fd (r42 t).toInt) (hs : ∀ t, t < n → sx (r34 t)) (hE : (r41 0).toInt = at_ n (en_ r33 (r32 7)) (fun t => (r42 t).toInt) % 998244353) {v w : Int32} (hv : vr v) (hw : vr w) :
    sp (fnX2_areIndependent F r32 r33 r34 r41 r42 r47 r48 r49 v w) (fun e => (e.1 = 1 ∧ ∀ x y, x < 10 → y < 10 → inP n r33 (r32 7) r34 v.toNatClampNeg w.toNatClampNeg (fun t => (r42 t).toInt) x y) ∨ (e.1 = 0 ∧ ∃ x y, x < 10 ∧ y < 10 ∧ ¬ inP n r33 (r32 7) r34 v.toNatClampNeg w.toNatClampNeg (fun t => (r42 t).toInt) x y)) := by
  have e0 : (0 : Int32).toInt = 0 := rfl
  have e100 : (100 : Int32).toInt = 100 := rfl
  have e10 : (10 : Int32).toInt = 10 := rfl
  unfold fnX2_areIndependent
  refine sp_bind (s_fill47 F hF r47) (fun b47 z47 => ?_)
  refine sp_bind (s_fill48 F hF r48) (fun b48 z48 => ?_)
  refine sp_bind (s_fill49 F hF r49) (fun b49 z49 => ?_)
  refine sp_bind (s2_inTab F hF hn h2 hf hs hv hw z47 z48 z49) ?_
  rintro ⟨a47, a48, a49⟩ hT
  dsimp only at hT
  refine sp_u2 (sp_u2 ?_)
  have key : ∀ k, k < 100 → ((a47 k).toInt * (r41 0).toInt % 998244353 = (a48 (k / 10)).toInt * (a49 (k % 10)).toInt % 998244353 ↔ inP n r33 (r32 7) r34 v.toNatClampNeg w.toNatClampNeg (fun t => (r42 t).toInt) (k / 10) (k % 10)) := by
    intro k hk
    obtain ⟨t1, t2, t3⟩ := hT (k / 10) (k % 10) (by omega) (by omega)
    rw [show 10 * (k / 10) + k % 10 = k by omega] at t1
    rw [t1, t2, t3, hE]
    unfold inP
    constructor
    · intro h
      exact cg_tr (cg_sy (cg_mul (cg_md _) (cg_md _))) (cg_tr h (cg_mul (cg_md _) (cg_md _)))
    · intro h
      exact cg_tr (cg_mul (cg_md _) (cg_md _)) (cg_tr h (cg_sy (cg_mul (cg_md _) (cg_md _))))
  refine sp_bind (sp_cnt (fun s : Int32 => s) 100 (by omega) (fun k _ => ∀ j, j < k → inP n r33 (r32 7) r34 v.toNatClampNeg w.toNatClampNeg (fun t => (r42 t).toInt) (j / 10) (j % 10)) (Q := fun e : Unit ⊕ Unit => Sum.elim (fun _ => ∀ j, j < 100 → inP n r33 (r32 7) r34 v.toNatClampNeg w.toNatClampNeg (fun t => (r42 t).toInt) (j / 10) (j % 10)) (fun _ => ∃ j, j < 100 ∧ ¬ inP n r33 (r32 7) r34 v.toNatClampNeg w.toNatClampNeg (fun t => (r42 t).toInt) (j / 10) (j % 10)) e) ?_ F 0 _ (by omega) e0 (fun j hj => absurd hj (Nat.not_lt_zero j)) (by omega)) ?_
  · rintro k z hi hx hcx hxs hJ
    unfold bdX2_areIndependent_164
    refine sp_ite (fun hw => sp_some ?_) (fun hw2 => ?_)
    · have := i_le.mp hw
      have : k = 100 := by omega
      subst this
      exact hJ
    · have hw3 : ¬ (100 : Int32).toInt ≤ z.toInt := fun q => hw2 (i_le.mpr q)
      have hk : k < 100 := by omega
      have hdv : (z / 10).toInt = ((k / 10 : Nat) : Int) := by rw [i_div (by omega) (by omega), hx, e10]; omega
      have hrm : (z - z / 10 * 10).toInt = ((k % 10 : Nat) : Int) := by rw [i_rem (by omega) (by omega), hx, e10]; omega
      have ib1 : mj_ib (z / 10) 10 = true := mj_ib_of (by rw [hdv]; omega) (by rw [hdv]; omega)
      have ib2 : mj_ib (z - z / 10 * 10) 10 = true := mj_ib_of (by rw [hrm]; omega) (by rw [hrm]; omega)
      have c1 : (z / 10).toNatClampNeg = k / 10 := by rw [i_cl, hdv]; rfl
      have c2 : (z - z / 10 * 10).toNatClampNeg = k % 10 := by rw [i_cl, hrm]; rfl
      have hib : mj_ib z 100 = true := mj_ib_of (by rw [hx]; omega) (by rw [hx]; omega)
      obtain ⟨t1, t2, t3⟩ := hT (k / 10) (k % 10) (by clear hdv hrm c1 c2; omega) (by clear hdv hrm c1 c2; omega)
      have ek : 10 * (k / 10) + k % 10 = k := by clear hdv hrm c1 c2; omega
      rw [ek] at t1
      have kk := key k hk
      refine sp_pos hib ?_
      rw [hcx, c1, c2]
      clear hdv hrm c1 c2
      refine sp_bind (s3_times F (by rw [t1]; exact fd_md _) (by rw [hE]; exact fd_md _)) (fun o22 h22 => sp_pos ib1 (sp_pos ib2 ?_))
      refine sp_bind (s3_times F (by rw [t2]; exact fd_md _) (by rw [t3]; exact fd_md _)) (fun o25 h25 => ?_)
      rw [← h22, ← h25] at kk
      refine sp_ite (fun hq => sp_some ⟨hk, rfl, fun j hj => ?_⟩) (fun hq => sp_some ⟨k, hk, fun z => hq (i_eq.mpr (kk.mpr z))⟩)
      by_cases e : j = k
      · rw [e]; exact kk.mp (by rw [hq])
      · exact hJ j (by omega)
  · rintro (e | e) he
    · refine sp_some (Or.inl ⟨rfl, fun x y hx hy => ?_⟩)
      have h9 := he (10 * x + y) (by omega)
      rw [show (10 * x + y) / 10 = x by omega, show (10 * x + y) % 10 = y by omega] at h9
      exact h9
    · obtain ⟨j, j1, j2⟩ := he
      exact sp_some (Or.inr ⟨rfl, j / 10, j % 10, by omega, by omega, j2⟩)
