/-! ===== the class eliminates ===== -/
theorem sw_inj {c p a a' : Nat} (h : sw c p a = sw c p a') : a = a' := by
  unfold sw at h
  by_cases q1 : a = c
  · rw [if_pos q1] at h
    by_cases q2 : a' = c
    · omega
    · rw [if_neg q2] at h
      by_cases q4 : a' = p
      · rw [if_pos q4] at h; omega
      · rw [if_neg q4] at h; omega
  · rw [if_neg q1] at h
    by_cases q3 : a = p
    · rw [if_pos q3] at h
      by_cases q2 : a' = c
      · rw [if_pos q2] at h; omega
      · rw [if_neg q2] at h
        by_cases q4 : a' = p
        · omega
        · rw [if_neg q4] at h; omega
    · rw [if_neg q3] at h
      by_cases q2 : a' = c
      · rw [if_pos q2] at h; omega
      · rw [if_neg q2] at h
        by_cases q4 : a' = p
        · rw [if_pos q4] at h; omega
        · rw [if_neg q4] at h; exact h
def cM (m : Nat) (σ : Nat → Nat) (r50 : Nat → Int32) (a b : Nat) : Int := (r50 (σ a * (m + 1) + b)).toInt
def pmQ (m : Nat) (σ : Nat → Nat) (r45 : Nat → Int32) : Prop := (∀ a, a < m → σ a < m ∧ (r45 a).toInt = ((σ a * (m + 1) : Nat) : Int)) ∧ ∀ a a', a < m → a' < m → σ a = σ a' → a = a'
theorem s2_find (F : Nat) (hF : 50000 ≤ F) {m : Nat} (hm : m ≤ 200) {σ : Nat → Nat} {r41 r45 r50 : Nat → Int32} (h6 : (r41 6).toInt = (m : Nat)) (hp : pmQ m σ r45) {x : Int32} {c : Nat} (hx : x.toInt = (c : Nat)) (hc : c < m) :
    sp (mj_it (bdX2_eliminate_12 F r41 r45 r50 x) F x) (fun e => ∃ p : Nat, e.toInt = (p : Nat) ∧ c ≤ p ∧ p ≤ m ∧ (∀ a, c ≤ a → a < p → cM m σ r50 a c = 0) ∧ (p < m → ¬ cM m σ r50 p c = 0)) := by
  have e0 : (0 : Int32).toInt = 0 := rfl
  refine sp_cnt (fun s : Int32 => s) m (by omega) (fun i _ => c ≤ i ∧ ∀ a, c ≤ a → a < i → cM m σ r50 a c = 0) ?_ F c x (by omega) hx ⟨Nat.le_refl c, fun a h1 h2 => by omega⟩ (by omega)
  rintro i y hi hy hcy hy1 ⟨j1, j2⟩
  unfold bdX2_eliminate_12
  refine sp_ite (fun hz => sp_some ?_) (fun hz => ?_)
  · have := i_le.mp hz
    have : i = m := by omega
    subst this
    exact ⟨i, hy, j1, Nat.le_refl i, j2, fun z => by omega⟩
  · have hz2 : ¬ (r41 6).toInt ≤ y.toInt := fun z => hz (i_le.mpr z)
    have him : i < m := by omega
    obtain ⟨p1, p2⟩ := hp.1 i him
    have hl := ix_lt p1 (Nat.le_of_lt hc) hm
    have d1 : (r45 i + x).toInt = ((σ i * (m + 1) + c : Nat) : Int) := by rw [i_add (by omega) (by omega), p2, hx]; omega
    have c1 : (r45 i + x).toNatClampNeg = σ i * (m + 1) + c := by rw [i_cl, d1]; rfl
    refine sp_pos (mj_ib_of (by omega) (by omega)) ?_
    rw [hcy]
    refine sp_pos (mj_ib_of (by omega) (by omega)) ?_
    rw [c1]
    refine sp_ite (fun hq => sp_some ⟨him, rfl, by omega, fun a h1 h2 => ?_⟩) (fun hq => sp_some ⟨i, hy, j1, hi, j2, fun _ z => hq (i_eq.mpr z)⟩)
    by_cases e : a = i
    · rw [e]; unfold cM; rw [hq]; rfl
    · exact j2 a h1 (by omega)
def nL (c k row : Nat) (r50 a46 : Nat → Int32) (q : Nat) : Prop := (∀ v, v < q → ∃ j : Nat, (a46 v).toInt = (j : Nat) ∧ c ≤ j ∧ j < k) ∧ (∀ j, c ≤ j → j < k → ¬ r50 (row + j) = 0 → ∃ v, v < q ∧ (a46 v).toInt = (j : Nat)) ∧ ∀ v v', v < q → v' < q → (a46 v).toInt = (a46 v').toInt → v = v'
def nC (c k row : Nat) (v : Int) (r50 a50 : Nat → Int32) : Prop := (∀ j, c ≤ j → j < k → fd (a50 (row + j)).toInt ∧ cg (a50 (row + j)).toInt (v * (r50 (row + j)).toInt)) ∧ ∀ y, ¬ (row + c ≤ y ∧ y < row + k) → a50 y = r50 y
theorem nL_skip {c k row q : Nat} {r50 a46 : Nat → Int32} (h : nL c k row r50 a46 q) (hz : r50 (row + k) = 0) : nL c (k + 1) row r50 a46 q := by
  obtain ⟨h1, h2, h3⟩ := h
  refine ⟨fun v hv => ?_, fun j j1 j2 j3 => ?_, h3⟩
  · obtain ⟨j, j1, j2, j3⟩ := h1 v hv
    exact ⟨j, j1, j2, by omega⟩
  · by_cases e : j = k
    · rw [e] at j3; exact absurd hz j3
    · exact h2 j j1 (by omega) j3
theorem nL_add {c k row q : Nat} {r50 a46 : Nat → Int32} {x : Int32} (h : nL c k row r50 a46 q) (hck : c ≤ k) (hx : x.toInt = (k : Nat)) : nL c (k + 1) row r50 (upd a46 q x) (q + 1) := by
  obtain ⟨h1, h2, h3⟩ := h
  refine ⟨fun v hv => ?_, fun j j1 j2 j3 => ?_, fun v v' hv hv' e => ?_⟩
  · by_cases e : v = q
    · rw [e, upd_at]; exact ⟨k, hx, hck, by omega⟩
    · rw [upd_ne e]
      obtain ⟨j, j1, j2, j3⟩ := h1 v (by omega)
      exact ⟨j, j1, j2, by omega⟩
  · by_cases e : j = k
    · exact ⟨q, by omega, by rw [upd_at, e]; exact hx⟩
    · obtain ⟨v, v1, v2⟩ := h2 j j1 (by omega) j3
      exact ⟨v, by omega, by rw [upd_ne (by omega)]; exact v2⟩
  · by_cases e1 : v = q
    · by_cases e2 : v' = q
      · omega
      · rw [e1, upd_at, upd_ne e2] at e
        obtain ⟨j, j1, j2, j3⟩ := h1 v' (by omega)
        omega
    · by_cases e2 : v' = q
      · rw [e2, upd_at, upd_ne e1] at e
        obtain ⟨j, j1, j2, j3⟩ := h1 v (by omega)
        omega
      · rw [upd_ne e1, upd_ne e2] at e
        exact h3 v v' (by omega) (by omega) e
theorem s2_norm1 (F : Nat) (hF : 50000 ≤ F) {m row c : Nat} (hm : m ≤ 200) (hrow : row + m < 40200) (hc : c < m) {x1 x2 t0 : Int32} {r41 r46 r50 : Nat → Int32} (h6 : (r41 6).toInt = (m : Nat)) (hx1 : x1.toInt = (row : Nat)) (hx2 : x2.toInt = (c : Nat)) (hfd : ∀ j, j ≤ m → fd (r50 (row + j)).toInt) (hv : fd t0.toInt) :
    sp (jnX2_normalise_27 F r41 x1 x2 t0 r46 r50) (fun e => ∃ q : Nat, e.1.toInt = (q : Nat) ∧ q ≤ 201 ∧ nL c (m + 1) row r50 e.2.1 q ∧ nC c (m + 1) row t0.toInt r50 e.2.2) := by
  have e0 : (0 : Int32).toInt = 0 := rfl
  have e1 : (1 : Int32).toInt = 1 := rfl
  unfold jnX2_normalise_27
  refine sp_bind (sp_cnt (fun s : Int32 × Int32 × (Nat → Int32) × (Nat → Int32) => s.2.1) (m + 1) (by omega) (fun k s => ∃ q : Nat, s.1.toInt = (q : Nat) ∧ c ≤ k ∧ q + c ≤ k ∧ nL c k row r50 s.2.2.1 q ∧ nC c k row t0.toInt r50 s.2.2.2) (Q := fun e : Int32 × (Nat → Int32) × (Nat → Int32) => ∃ q : Nat, e.1.toInt = (q : Nat) ∧ q ≤ 201 ∧ nL c (m + 1) row r50 e.2.1 q ∧ nC c (m + 1) row t0.toInt r50 e.2.2) ?_ F c _ (by omega) hx2 ?_ (by omega)) ?_
  · rintro k ⟨y, x, a46, a50⟩ hk hx hcx hxs ⟨q, q1, q2, q3, q4, q5⟩
    refine sp_u2 (sp_u2 (sp_u2 ?_))
    dsimp only at hx hcx hxs q1 q4 q5
    unfold bdX2_normalise_34
    refine sp_ite (fun hz => sp_some ?_) (fun hz => ?_)
    · have := i_lt.mp hz
      have : k = m + 1 := by omega
      subst this
      exact ⟨q, q1, by omega, q4, q5⟩
    · have hz2 : ¬ (r41 6).toInt < x.toInt := fun z => hz (i_lt.mpr z)
      have hkm : k ≤ m := by omega
      have d1 : (x1 + x).toInt = ((row + k : Nat) : Int) := by rw [i_add (by omega) (by omega), hx1, hx]; omega
      have c1 : (x1 + x).toNatClampNeg = row + k := by rw [i_cl, d1]; rfl
      have hib : mj_ib (x1 + x) 40200 = true := mj_ib_of (by omega) (by omega)
      have hk0 : a50 (row + k) = r50 (row + k) := q5.2 _ (by omega)
      have hfk := hfd k hkm
      refine sp_pos hib ?_
      rw [c1, hk0]
      refine sp_ite (fun hq => sp_some ⟨by omega, rfl, q, q1, by omega, by omega, nL_skip q4 hq, fun j j1 j2 => ?_, fun w hw => q5.2 w (by omega)⟩) (fun hq => ?_)
      · dsimp only
        by_cases e : j = k
        · rw [e, hk0, hq, e0, Int.mul_zero]
          exact ⟨⟨by omega, by omega⟩, cg_rf _⟩
        · exact q5.1 j j1 (by omega)
      · refine sp_pos hib (sp_bind (s3_times F hfk hv) (fun o ho => sp_pos hib (sp_pos (mj_ib_of (by omega) (by omega)) (sp_some ⟨by omega, rfl, q + 1, ?_, by omega, by omega, ?_, fun j j1 j2 => ?_, fun w hw => ?_⟩))))
        · dsimp only
          rw [i_add (by omega) (by omega), q1, e1]; omega
        · dsimp only
          have cy : y.toNatClampNeg = q := by rw [i_cl, q1]; rfl
          rw [cy]
          exact nL_add q4 q2 hx
        · dsimp only
          by_cases e : j = k
          · rw [e, upd_at, ho]
            refine ⟨fd_md _, ?_⟩
            rw [Int.mul_comm]
            exact cg_md _
          · rw [upd_ne (by omega)]; exact q5.1 j j1 (by omega)
        · dsimp only
          rw [upd_ne (by omega)]; exact q5.2 w (by omega)
  · exact ⟨0, e0, Nat.le_refl c, by omega, ⟨fun v hv => absurd hv (Nat.not_lt_zero v), fun j j1 j2 => by omega, fun v v' hv => absurd hv (Nat.not_lt_zero v)⟩, fun j j1 j2 => by omega, fun _ _ => rfl⟩
  · rintro ⟨y, a46, a50⟩ hq
    exact sp_u2 (sp_u2 (sp_some hq))
theorem s2_norm (F : Nat) (hF : 50000 ≤ F) {m row c : Nat} (hm : m ≤ 200) (hrow : row + m < 40200) (hc : c < m) {x1 x2 : Int32} {r41 r46 r50 : Nat → Int32} (h6 : (r41 6).toInt = (m : Nat)) (hx1 : x1.toInt = (row : Nat)) (hx2 : x2.toInt = (c : Nat)) (hfd : ∀ j, j ≤ m → fd (r50 (row + j)).toInt) (hnz : ¬ (r50 (row + c)).toInt = 0) :
    sp (fnX2_normalise F r41 r46 r50 x1 x2) (fun e => ∃ (q : Nat) (v : Int), cg (v * (r50 (row + c)).toInt) 1 ∧ e.1.toInt = (q : Nat) ∧ q ≤ 201 ∧ nL c (m + 1) row r50 e.2.1 q ∧ nC c (m + 1) row v r50 e.2.2) := by
  have e1 : (1 : Int32).toInt = 1 := rfl
  have d1 : (x1 + x2).toInt = ((row + c : Nat) : Int) := by rw [i_add (by omega) (by omega), hx1, hx2]; omega
  have c1 : (x1 + x2).toNatClampNeg = row + c := by rw [i_cl, d1]; rfl
  have hib : mj_ib (x1 + x2) 40200 = true := mj_ib_of (by omega) (by omega)
  have hfc := hfd c (by omega)
  unfold fnX2_normalise
  refine sp_pos hib ?_
  rw [c1]
  refine sp_ite (fun hq => ?_) (fun hq => sp_pos hib (sp_bind (s3_inverse F (by omega) hfc) (fun o ho => ?_)))
  · refine sp_mono (s2_norm1 F hF hm hrow hc h6 hx1 hx2 hfd ⟨by decide, by decide⟩) ?_
    rintro e ⟨q, h⟩
    refine ⟨q, _, ?_, h⟩
    rw [hq, e1]; exact cg_rf _
  · refine sp_mono (s2_norm1 F hF hm hrow hc h6 hx1 hx2 hfd (by rw [ho]; exact iv_fd _)) ?_
    rintro e ⟨q, h⟩
    refine ⟨q, _, ?_, h⟩
    rw [ho, Int.mul_comm]
    refine iv_mul (fun z => hnz ?_)
    exact cg_eq z hfc.1 hfc.2 (by omega) (by omega)
theorem s2_take (F : Nat) (hF : 50000 ≤ F) {m row bel c q : Nat} (hm : m ≤ 200) (hrow : row + m < 40200) (hbel : bel + m < 40200) (hap : ∀ j j', j ≤ m → j' ≤ m → row + j ≠ bel + j') (hc : c < m) (hq : q ≤ 201) {x1 x2 x3 x4 : Int32} {r46 r50 : Nat → Int32} (hx1 : x1.toInt = (row : Nat)) (hx2 : x2.toInt = (bel : Nat)) (hx3 : x3.toInt = (c : Nat)) (hx4 : x4.toInt = (q : Nat)) (hfr : ∀ j, j ≤ m → fd (r50 (row + j)).toInt) (hfb : ∀ j, j ≤ m → fd (r50 (bel + j)).toInt) (hl : ∀ v, v < q → ∃ j : Nat, (r46 v).toInt = (j : Nat) ∧ j ≤ m) (hinj : ∀ v v', v < q → v' < q → (r46 v).toInt = (r46 v').toInt → v = v') (hz : ∀ j, j ≤ m → (∀ v, v < q → ¬ (r46 v).toInt = (j : Nat)) → (r50 (row + j)).toInt = 0) :
    sp (fnX2_takeAway F r46 r50 x1 x2 x3 x4) (fun e => (∀ j, j ≤ m → fd (e (bel + j)).toInt ∧ cg (e (bel + j)).toInt ((r50 (bel + j)).toInt - (r50 (bel + c)).toInt * (r50 (row + j)).toInt)) ∧ ∀ y, ¬ (bel ≤ y ∧ y ≤ bel + m) → e y = r50 y) := by
  have e0 : (0 : Int32).toInt = 0 := rfl
  have d1 : (x2 + x3).toInt = ((bel + c : Nat) : Int) := by rw [i_add (by omega) (by omega), hx2, hx3]; omega
  have c1 : (x2 + x3).toNatClampNeg = bel + c := by rw [i_cl, d1]; rfl
  have hfc := hfb c (by omega)
  unfold fnX2_takeAway
  refine sp_pos (mj_ib_of (by omega) (by omega)) ?_
  rw [c1]
  refine sp_ite (fun hy => sp_some ⟨fun j hj => ⟨hfb j hj, ?_⟩, fun _ _ => rfl⟩) (fun hy => ?_)
  · rw [hy, e0, Int.zero_mul, Int.sub_zero]; exact cg_rf _
  · generalize r50 (bel + c) = f at hfc hy ⊢
    refine sp_bind (sp_cnt (fun s : Int32 × (Nat → Int32) => s.1) q (by omega) (fun u s => (∀ y, ¬ (bel ≤ y ∧ y ≤ bel + m) → s.2 y = r50 y) ∧ ∀ j, j ≤ m → fd (s.2 (bel + j)).toInt ∧ ((∃ v, v < u ∧ (r46 v).toInt = (j : Nat)) → cg (s.2 (bel + j)).toInt ((r50 (bel + j)).toInt - f.toInt * (r50 (row + j)).toInt)) ∧ ((∀ v, v < u → ¬ (r46 v).toInt = (j : Nat)) → s.2 (bel + j) = r50 (bel + j))) (Q := fun e : Nat → Int32 => (∀ j, j ≤ m → fd (e (bel + j)).toInt ∧ cg (e (bel + j)).toInt ((r50 (bel + j)).toInt - f.toInt * (r50 (row + j)).toInt)) ∧ ∀ y, ¬ (bel ≤ y ∧ y ≤ bel + m) → e y = r50 y) ?_ F 0 _ (by omega) e0 ?_ (by omega)) (fun e he => sp_some he)
    · rintro u ⟨x, a50⟩ hu hx hcx hxs ⟨j1, j2⟩
      refine sp_u2 ?_
      dsimp only at hx hcx hxs j1 j2
      unfold bdX2_takeAway_19
      refine sp_ite (fun hw => sp_some ⟨fun j hj => ?_, j1⟩) (fun hw => ?_)
      · have := i_le.mp hw
        have : u = q := by omega
        subst this
        obtain ⟨k1, k2, k3⟩ := j2 j hj
        refine ⟨k1, ?_⟩
        by_cases e : ∃ v, v < u ∧ (r46 v).toInt = (j : Nat)
        · exact k2 e
        · have e' : ∀ v, v < u → ¬ (r46 v).toInt = (j : Nat) := fun v hv w => e ⟨v, hv, w⟩
          rw [k3 e', hz j hj e', Int.mul_zero, Int.sub_zero]
          exact cg_rf _
      · have hw2 : ¬ x4.toInt ≤ x.toInt := fun z => hw (i_le.mpr z)
        have huq : u < q := by omega
        obtain ⟨k, k1, k2⟩ := hl u huq
        refine sp_pos (mj_ib_of (by omega) (by omega)) ?_
        rw [hcx]
        have d2 : (x2 + r46 u).toInt = ((bel + k : Nat) : Int) := by rw [i_add (by omega) (by omega), hx2, k1]; omega
        have d3 : (x1 + r46 u).toInt = ((row + k : Nat) : Int) := by rw [i_add (by omega) (by omega), hx1, k1]; omega
        have c2 : (x2 + r46 u).toNatClampNeg = bel + k := by rw [i_cl, d2]; rfl
        have c3 : (x1 + r46 u).toNatClampNeg = row + k := by rw [i_cl, d3]; rfl
        have hib2 : mj_ib (x2 + r46 u) 40200 = true := mj_ib_of (by omega) (by omega)
        have hrk : a50 (row + k) = r50 (row + k) := j1 _ (fun w => hap k (row + k - bel) k2 (by omega) (by omega))
        obtain ⟨k3, k4, k5⟩ := j2 k k2
        have hbk : a50 (bel + k) = r50 (bel + k) := k5 (fun v hv w => by have := hinj v u (by omega) huq (by omega); omega)
        refine sp_pos hib2 (sp_pos (mj_ib_of (by omega) (by omega)) ?_)
        rw [c2, c3, hrk, hbk]
        refine sp_bind (s3_times F hfc (hfr k k2)) (fun o5 h5 => ?_)
        refine sp_bind (s3_less F (hfb k k2) (by rw [h5]; exact fd_md _)) (fun o6 h6 => sp_pos hib2 (sp_some ⟨huq, rfl, fun y hy => ?_, fun j hj => ?_⟩))
        · dsimp only
          rw [upd_ne (by omega)]; exact j1 y hy
        · dsimp only
          by_cases e : j = k
          · rw [e, upd_at]
            refine ⟨by rw [h6]; exact fd_md _, fun _ => ?_, fun w => absurd k1 (w u (by omega))⟩
            rw [h6, h5]
            generalize f.toInt * (r50 (row + k)).toInt = w
            unfold cg
            omega
          · obtain ⟨g1, g2, g3⟩ := j2 j hj
            rw [upd_ne (by omega)]
            refine ⟨g1, ?_, fun w => g3 (fun v hv => w v (by omega))⟩
            rintro ⟨v, v1, v2⟩
            have : v ≠ u := fun z => e (by rw [z] at v2; omega)
            exact g2 ⟨v, by omega, v2⟩
    · refine ⟨fun _ _ => rfl, fun j hj => ⟨hfb j hj, ?_, fun _ => rfl⟩⟩
      rintro ⟨v, v1, v2⟩
      exact absurd v1 (Nat.not_lt_zero v)
theorem s2_below (F : Nat) (hF : 50000 ≤ F) {m c q : Nat} (hm : m ≤ 200) (hc : c < m) (hq : q ≤ 201) {σ : Nat → Nat} {x1 x3 x4 y0 : Int32} {r41 r45 r46 r50 : Nat → Int32} (h6 : (r41 6).toInt = (m : Nat)) (hp : pmQ m σ r45) (hx1 : x1.toInt = (c : Nat)) (hx3 : x3.toInt = ((σ c * (m + 1) : Nat) : Int)) (hx4 : x4.toInt = (q : Nat)) (hy0 : y0.toInt = ((c + 1 : Nat) : Int)) (hfd : ∀ a b, a < m → b ≤ m → fd (cM m σ r50 a b)) (hl : ∀ v, v < q → ∃ j : Nat, (r46 v).toInt = (j : Nat) ∧ j ≤ m) (hinj : ∀ v v', v < q → v' < q → (r46 v).toInt = (r46 v').toInt → v = v') (hz : ∀ j, j ≤ m → (∀ v, v < q → ¬ (r46 v).toInt = (j : Nat)) → cM m σ r50 c j = 0) :
    sp (mj_it (mj_u2 (fun z0 z1 => bdX2_eliminate_91 F r41 r45 r46 x1 x3 x4 z0 z1)) F (y0, r50)) (fun e => ∀ a b, a < m → b ≤ m → fd (cM m σ e a b) ∧ (c < a → cg (cM m σ e a b) (cM m σ r50 a b - cM m σ r50 a c * cM m σ r50 c b)) ∧ (a ≤ c → cM m σ e a b = cM m σ r50 a b)) := by
  refine sp_cnt (fun s : Int32 × (Nat → Int32) => s.1) m (by omega) (fun i s => c < i ∧ ∀ a b, a < m → b ≤ m → fd (cM m σ s.2 a b) ∧ (c < a → a < i → cg (cM m σ s.2 a b) (cM m σ r50 a b - cM m σ r50 a c * cM m σ r50 c b)) ∧ (a ≤ c ∨ i ≤ a → cM m σ s.2 a b = cM m σ r50 a b)) ?_ F (c + 1) _ (by omega) hy0 ⟨by omega, fun a b ha hb => ⟨hfd a b ha hb, fun h1 h2 => by omega, fun _ => rfl⟩⟩ (by omega)
  rintro i ⟨x, a50⟩ hi hx hcx hxs ⟨j1, j2⟩
  refine sp_u2 ?_
  dsimp only at hx hcx hxs j2
  unfold bdX2_eliminate_91
  refine sp_ite (fun hw => sp_some fun a b ha hb => ?_) (fun hw => ?_)
  · have := i_le.mp hw
    have : i = m := by omega
    subst this
    obtain ⟨g1, g2, g3⟩ := j2 a b ha hb
    exact ⟨g1, fun h1 => g2 h1 ha, fun h1 => g3 (Or.inl h1)⟩
  · have hw2 : ¬ (r41 6).toInt ≤ x.toInt := fun z => hw (i_le.mpr z)
    have him : i < m := by omega
    obtain ⟨p1, p2⟩ := hp.1 i him
    obtain ⟨p3, p4⟩ := hp.1 c hc
    have hic : σ c ≠ σ i := fun z => by have := hp.2 c i hc him z; omega
    have l1 := ix_lt p1 (Nat.le_refl m) hm
    have l2 := ix_lt p3 (Nat.le_refl m) hm
    refine sp_pos (mj_ib_of (by omega) (by omega)) ?_
    rw [hcx]
    have rowc : ∀ j, j ≤ m → (a50 (σ c * (m + 1) + j)).toInt = cM m σ r50 c j := fun j hj => (j2 c j hc hj).2.2 (Or.inl (Nat.le_refl c))
    have rowi : ∀ j, j ≤ m → (a50 (σ i * (m + 1) + j)).toInt = cM m σ r50 i j := fun j hj => (j2 i j him hj).2.2 (Or.inr (Nat.le_refl i))
    refine sp_bind (s2_take F hF (row := σ c * (m + 1)) (bel := σ i * (m + 1)) (c := c) (q := q) hm l2 l1 (fun j j' hj hj' => ix_ne hj hj' (Or.inl hic)) hc hq hx3 p2 hx1 hx4 (fun j hj => by rw [rowc j hj]; exact hfd c j hc hj) (fun j hj => by rw [rowi j hj]; exact hfd i j him hj) hl hinj (fun j hj hv => by rw [rowc j hj]; exact hz j hj hv)) ?_
    rintro o ⟨o1, o2⟩
    refine sp_some ⟨him, rfl, by omega, fun a b ha hb => ?_⟩
    dsimp only
    by_cases e : a = i
    · subst e
      obtain ⟨g1, g2⟩ := o1 b hb
      rw [rowc b hb, rowi b hb, rowi c (by omega)] at g2
      exact ⟨g1, fun _ _ => g2, fun w => by omega⟩
    · obtain ⟨g1, g2, g3⟩ := j2 a b ha hb
      have hne : σ a ≠ σ i := fun z => e (hp.2 a i ha him z)
      have hsame : cM m σ o a b = cM m σ a50 a b := by
        unfold cM
        rw [o2 _ (fun w => ix_ne (a := σ a) (b := b) (a' := σ i) (b' := σ a * (m + 1) + b - σ i * (m + 1)) hb (by omega) (Or.inl hne) (by omega))]
      rw [hsame]
      exact ⟨g1, fun h1 h2 => g2 h1 (by omega), fun w => g3 (by omega)⟩
/-- what the class has behind column c -/
def elQ (m : Nat) (M0 : Nat → Nat → Int) (c : Nat) (r45 r50 : Nat → Int32) : Prop := ∃ σ, pmQ m σ r45 ∧ (∀ a b, a < m → b ≤ m → fd (cM m σ r50 a b)) ∧ (∀ x, sat m (m + 1) M0 x ↔ sat m (m + 1) (cM m σ r50) x) ∧ tri m c (cM m σ r50)
theorem s2_elStep (F : Nat) (hF : 50000 ≤ F) {m c : Nat} (hm : m ≤ 200) (hc : c < m) {M0 : Nat → Nat → Int} {x : Int32} {r41 r45 r46 r50 : Nat → Int32} (h6 : (r41 6).toInt = (m : Nat)) (hx : x.toInt = (c : Nat)) (h : elQ m M0 c r45 r50) :
    sp (bdX2_eliminate_2 F r41 x r45 r46 r50) (Sum.elim (fun s => s.1 = x + 1 ∧ elQ m M0 (c + 1) s.2.1 s.2.2.2) (Sum.elim (fun _ => False) (fun _ => ∃ (v : Nat → Int) (d : Nat), d < m ∧ v m = 0 ∧ v d = 1 ∧ sat m (m + 1) M0 v))) := by
  have e1 : (1 : Int32).toInt = 1 := rfl
  obtain ⟨σ, hp, hfd, hs, ht⟩ := h
  have hcx : x.toNatClampNeg = c := by rw [i_cl, hx]; rfl
  unfold bdX2_eliminate_2
  refine sp_neg (fun z => by have := i_le.mp z; omega) ?_
  refine sp_bind (s2_find F hF (r50 := r50) hm h6 hp hx hc) ?_
  rintro y ⟨p, y1, y2, y3, y4, y5⟩
  have hcy : y.toNatClampNeg = p := by rw [i_cl, y1]; rfl
  refine sp_ite (fun hq => sp_some ?_) (fun hq => ?_)
  · have hpm : p = m := by rw [hq] at y1; omega
    subst hpm
    obtain ⟨v, v1, v2, v3⟩ := tri_stuck hc ht (fun r h1 h2 => by rw [y4 r h1 h2]; exact cg_rf _)
    exact ⟨v, c, hc, v1, v2, (hs v).mpr v3⟩
  · have hq2 : ¬ y.toInt = (r41 6).toInt := fun z => hq (i_eq.mpr z)
    have hpm : p < m := by omega
    have hib : mj_ib x 200 = true := mj_ib_of (by omega) (by omega)
    have hiby : mj_ib y 200 = true := mj_ib_of (by omega) (by omega)
    obtain ⟨p1, p2⟩ := hp.1 p hpm
    have l1 := ix_lt p1 (Nat.le_refl m) hm
    have hx1' : (x + 1).toInt = ((c + 1 : Nat) : Int) := by rw [i_add (by omega) (by omega), hx, e1]; omega
    refine sp_pos hiby (sp_pos hib (sp_pos hiby (sp_pos hib ?_)))
    rw [hcy, hcx]
    refine sp_bind (s2_norm F hF (row := σ p * (m + 1)) (c := c) hm l1 hc h6 p2 hx (fun j hj => hfd p j hpm hj) (y5 hpm)) ?_
    rintro ⟨q0, a46, a50⟩ ⟨q, v, v1, v2, v3, v4, v5⟩
    dsimp only at v2 v4 v5
    have hsw : pmQ m (fun a => σ (sw c p a)) (upd (upd r45 p (r45 c)) c (r45 p)) := by
      refine ⟨fun a ha => ?_, fun a a' ha ha' e => ?_⟩
      · dsimp only
        refine ⟨(hp.1 _ (sw_lt hc hpm ha)).1, ?_⟩
        unfold sw
        by_cases e : a = c
        · rw [e, upd_at, if_pos rfl]; exact p2
        · rw [upd_ne e, if_neg e]
          by_cases e2 : a = p
          · rw [e2, upd_at, if_pos rfl]; exact (hp.1 c hc).2
          · rw [upd_ne e2, if_neg e2]; exact (hp.1 a ha).2
      · have e3 := hp.2 _ _ (sw_lt hc hpm ha) (sw_lt hc hpm ha') e
        exact sw_inj e3
    have hswc : sw c p c = p := by unfold sw; rw [if_pos rfl]
    have hb50 : ∀ a b, a < m → b ≤ m → a ≠ p → cM m σ a50 a b = cM m σ r50 a b := by
      intro a b ha hb hap
      unfold cM
      have hne : σ a ≠ σ p := fun z => hap (hp.2 a p ha hpm z)
      rw [v5.2 _ (fun w => ix_ne (a := σ a) (b := b) (a' := σ p) (b' := σ a * (m + 1) + b - σ p * (m + 1)) hb (by omega) (Or.inl hne) (by omega))]
    have hbp : ∀ b, b ≤ m → fd (cM m σ a50 p b) ∧ cg (cM m σ a50 p b) (v * cM m σ r50 p b) ∧ (r50 (σ p * (m + 1) + b) = 0 → cM m σ a50 p b = 0) ∧ (b < c → cM m σ a50 p b = 0) := by
      intro b hb
      have hfb := hfd p b hpm hb
      by_cases e : b < c
      · have h9 : cM m σ a50 p b = cM m σ r50 p b := by
          unfold cM
          rw [v5.2 _ (by omega)]
        have h8 : cM m σ r50 p b = 0 := cg_eq ((ht b e).2 p hpm (by omega)) hfb.1 hfb.2 (by omega) (by omega)
        rw [h9, h8, Int.mul_zero]
        exact ⟨⟨by omega, by omega⟩, cg_rf _, fun _ => rfl, fun _ => rfl⟩
      · obtain ⟨w1, w2⟩ := v5.1 b (by omega) (by omega)
        refine ⟨w1, w2, fun z => ?_, fun z => absurd z e⟩
        rw [z] at w2
        have e0 : (0 : Int32).toInt = 0 := rfl
        rw [e0, Int.mul_zero] at w2
        exact cg_eq w2 w1.1 w1.2 (by omega) (by omega)
    have hfd2 : ∀ a b, a < m → b ≤ m → fd (cM m (fun a => σ (sw c p a)) a50 a b) := by
      intro a b ha hb
      show fd (cM m σ a50 (sw c p a) b)
      by_cases e : sw c p a = p
      · rw [e]; exact (hbp b hb).1
      · rw [hb50 _ b (sw_lt hc hpm ha) hb e]; exact hfd _ b (sw_lt hc hpm ha) hb
    refine sp_bind (s2_below F hF (σ := fun a => σ (sw c p a)) (q := q) hm hc v3 h6 hsw hx (by rw [hswc]; exact p2) v2 hx1' hfd2 (fun w hw => ?_) v4.2.2 (fun j hj hw => ?_)) ?_
    · obtain ⟨j, j1, j2, j3⟩ := v4.1 w hw
      exact ⟨j, j1, by omega⟩
    · show cM m σ a50 (sw c p c) j = 0
      rw [hswc]
      by_cases e : j < c
      · exact (hbp j hj).2.2.2 e
      · refine (hbp j hj).2.2.1 ?_
        by_cases z : r50 (σ p * (m + 1) + j) = 0
        · exact z
        · obtain ⟨w, w1, w2⟩ := v4.2.1 j (by omega) (by omega) z
          exact absurd w2 (hw w w1)
    · intro o ho
      have hst : stp m (m + 1) c p (fun r => decide (c < r)) (cM m σ r50) (cM m (fun a => σ (sw c p a)) o) := by
        have hrc : ∀ k, k < m + 1 → cM m (fun a => σ (sw c p a)) o c k = cM m σ a50 p k := by
          intro k hk
          rw [(ho c k hc (by omega)).2.2 (Nat.le_refl c)]
          show cM m σ a50 (sw c p c) k = _
          rw [hswc]
        refine ⟨v, v1, fun k hk => ?_, fun r hr hrc' k hk => ?_⟩
        · rw [hrc k hk]; exact (hbp k (by omega)).2.1
        · have hsp : sw c p r ≠ p := by
            unfold sw
            rw [if_neg hrc']
            by_cases e : r = p
            · rw [if_pos e]; omega
            · rw [if_neg e]; exact e
          have f1 : ∀ j, j ≤ m → cM m (fun a => σ (sw c p a)) a50 r j = cM m σ r50 (sw c p r) j := fun j hj => hb50 _ j (sw_lt hc hpm hr) hj hsp
          have f2 : cM m (fun a => σ (sw c p a)) a50 c k = cM m σ a50 p k := by
            show cM m σ a50 (sw c p c) k = _
            rw [hswc]
          obtain ⟨g1, g2, g3⟩ := ho r k hr (by omega)
          by_cases e : c < r
          · have g4 := g2 e
            rw [f1 k (by omega), f1 c (by omega), f2] at g4
            rw [if_pos (decide_eq_true e), hrc k hk]
            exact g4
          · have g4 := g3 (by omega)
            rw [f1 k (by omega)] at g4
            rw [if_neg (fun w => e (of_decide_eq_true w)), Int.zero_mul, Int.sub_zero, g4]
            exact cg_rf _
      refine sp_some ⟨rfl, fun a => σ (sw c p a), hsw, fun a b ha hb => (ho a b ha hb).1, fun x => (hs x).trans (sat_stp hc hpm hst x), tri_stp hc y2 hpm (by omega) hst ht⟩
theorem s2_eliminate (F : Nat) (hF : 50000 ≤ F) {m : Nat} (hm : m ≤ 200) {M0 : Nat → Nat → Int} {r41 r45 r46 r50 : Nat → Int32} (h6 : (r41 6).toInt = (m : Nat)) (h : elQ m M0 0 r45 r50) :
    sp (fnX2_eliminate F r41 r45 r46 r50) (fun e => (e.1 = 1 ∧ elQ m M0 m e.2.1 e.2.2.2) ∨ (e.1 = 0 ∧ ∃ (v : Nat → Int) (d : Nat), d < m ∧ v m = 0 ∧ v d = 1 ∧ sat m (m + 1) M0 v)) := by
  have e0 : (0 : Int32).toInt = 0 := rfl
  unfold fnX2_eliminate
  refine sp_bind (sp_cnt (fun s : Int32 × (Nat → Int32) × (Nat → Int32) × (Nat → Int32) => s.1) m (by omega) (fun c s => elQ m M0 c s.2.1 s.2.2.2) (Q := fun e : ((Nat → Int32) × (Nat → Int32) × (Nat → Int32)) ⊕ ((Nat → Int32) × (Nat → Int32) × (Nat → Int32)) => Sum.elim (fun e => elQ m M0 m e.1 e.2.2) (fun _ => ∃ (v : Nat → Int) (d : Nat), d < m ∧ v m = 0 ∧ v d = 1 ∧ sat m (m + 1) M0 v) e) ?_ F 0 _ (by omega) e0 h (by omega)) ?_
  · rintro c ⟨x, a45, a46, a50⟩ hi hx hcx hxs hJ
    refine sp_u2 (sp_u2 (sp_u2 ?_))
    dsimp only at hx hcx hxs hJ
    by_cases hcm : c = m
    · subst hcm
      unfold bdX2_eliminate_2
      refine sp_pos (i_le.mpr (by omega)) (sp_some ?_)
      exact hJ
    · refine sp_mono (s2_elStep F hF hm (by omega) h6 hx hJ) ?_
      rintro (s | (s | s)) hs
      · exact ⟨by omega, hs.1, hs.2⟩
      · exact absurd hs id
      · exact hs
  · rintro (⟨a45, a46, a50⟩ | ⟨a45, a46, a50⟩) hs
    · exact sp_u2 (sp_u2 (sp_some (Or.inl ⟨rfl, hs⟩)))
    · exact sp_u2 (sp_u2 (sp_some (Or.inr ⟨rfl, hs⟩)))
