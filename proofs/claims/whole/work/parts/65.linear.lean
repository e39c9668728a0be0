/-! ===== linear equations modulo the prime ===== -/
/-- a loop that counts -/
theorem sp_cnt {σ ε : Type} {body : σ → Option (σ ⊕ ε)} {Q : ε → Prop} (c : σ → Int32) (N : Nat) (hN : N ≤ 1000000) (J : Nat → σ → Prop)
    (h : ∀ i s, i ≤ N → (c s).toInt = (i : Nat) → (c s).toNatClampNeg = i → (c s + 1).toInt = ((i + 1 : Nat) : Int) → J i s → sp (body s) (Sum.elim (fun s' => i < N ∧ c s' = c s + 1 ∧ J (i + 1) s') Q)) :
    ∀ (F i : Nat) (s : σ), i ≤ N → (c s).toInt = (i : Nat) → J i s → N - i < F → sp (mj_it body F s) Q := by
  intro F
  induction F with
  | zero => intro i s _ _ _ h; omega
  | succ F ih =>
    intro i s h1 h2 h3 h4
    have e1 : (1 : Int32).toInt = 1 := rfl
    have hx1 : (c s + 1).toInt = ((i + 1 : Nat) : Int) := by rw [i_add (by omega) (by omega), h2, e1]; omega
    have hcx : (c s).toNatClampNeg = i := by rw [i_cl, h2]; rfl
    refine sp_bind (h i s h1 h2 hcx hx1 h3) ?_
    intro a ha
    rcases a with s' | e
    · obtain ⟨g1, g2, g3⟩ := ha
      exact ih (i + 1) s' g1 (by rw [g2]; exact hx1) g3 (by omega)
    · exact sp_some ha
theorem cg_z {a b : Int} (h : cg b 0) : cg (a * b) 0 := by
  have := cg_mul (cg_rf a) h
  rwa [Int.mul_zero] at this
theorem cg_y {a b : Int} (h : cg a 0) : cg (a * b) 0 := by
  have := cg_mul h (cg_rf b)
  rwa [Int.zero_mul] at this
theorem cg_1 {a b : Int} (h : cg a 1) : cg (a * b) b := by
  have := cg_mul h (cg_rf b)
  rwa [Int.one_mul] at this
theorem cg_n1 : ¬ cg 1 0 := by unfold cg; omega
theorem sm_pt (a : Nat) (x : Int) : ∀ w, sm w (fun k => if k = a then x else 0) = if a < w then x else 0 := by
  intro w
  induction w with
  | zero => rw [if_neg (by omega)]; rfl
  | succ w ih =>
    rw [sm_s, ih]
    by_cases e : w = a
    · rw [if_neg (by omega), if_pos e, if_pos (by omega)]; omega
    · rw [if_neg e]
      by_cases e2 : a < w
      · rw [if_pos e2, if_pos (by omega)]; omega
      · rw [if_neg e2, if_neg (by omega)]; rfl
def rs (w : Nat) (M : Nat → Nat → Int) (x : Nat → Int) (r : Nat) : Int := sm w (fun k => M r k * x k)
def sat (m w : Nat) (M : Nat → Nat → Int) (x : Nat → Int) : Prop := ∀ r, r < m → cg (rs w M x r) 0
def sw (c p r : Nat) : Nat := if r = c then p else if r = p then c else r
def stp (m w c p : Nat) (A : Nat → Bool) (M M' : Nat → Nat → Int) : Prop := ∃ v : Int, cg (v * M p c) 1 ∧ (∀ k, k < w → cg (M' c k) (v * M p k)) ∧ ∀ r, r < m → r ≠ c → ∀ k, k < w → cg (M' r k) (M (sw c p r) k - (if A r then M (sw c p r) c else 0) * M' c k)
theorem sw_lt {m c p r : Nat} (hc : c < m) (hp : p < m) (hr : r < m) : sw c p r < m := by
  unfold sw
  split
  · exact hp
  · split
    · exact hc
    · exact hr
theorem sat_stp {m w c p : Nat} {A : Nat → Bool} {M M' : Nat → Nat → Int} (hc : c < m) (hp : p < m) (h : stp m w c p A M M') (x : Nat → Int) : sat m w M x ↔ sat m w M' x := by
  obtain ⟨v, h1, h2, h3⟩ := h
  have a1 : cg (rs w M' x c) (v * rs w M x p) := by
    unfold rs
    refine cg_tr (sm_cg w (g := fun k => v * (M p k * x k)) (fun k hk => ?_)) ?_
    · have := cg_mul (h2 k hk) (cg_rf (x k))
      rw [Int.mul_assoc] at this
      exact this
    · rw [sm_mul]; exact cg_rf _
  have a2 : ∀ r, r < m → r ≠ c → ∃ f, cg (rs w M' x r) (rs w M x (sw c p r) + f * rs w M' x c) := by
    intro r hr hrc
    refine ⟨-(if A r then M (sw c p r) c else 0), ?_⟩
    generalize hf : (if A r then M (sw c p r) c else 0) = f at *
    have h4 := h3 r hr hrc
    rw [hf] at h4
    unfold rs
    refine cg_tr (sm_cg w (g := fun k => M (sw c p r) k * x k + (-f) * (M' c k * x k)) (fun k hk => ?_)) ?_
    · have := cg_mul (h4 k hk) (cg_rf (x k))
      rw [Int.sub_mul] at this
      have e : M (sw c p r) k * x k - f * M' c k * x k = M (sw c p r) k * x k + -f * (M' c k * x k) := by grind
      rw [e] at this
      exact this
    · rw [sm_add, sm_mul]; exact cg_rf _
  constructor
  · intro hs
    have hc0 : cg (rs w M' x c) 0 := cg_tr a1 (cg_z (hs p hp))
    intro r hr
    by_cases e : r = c
    · rw [e]; exact hc0
    · obtain ⟨f, a3⟩ := a2 r hr e
      have h5 := cg_add (hs _ (sw_lt hc hp hr)) (cg_z (a := f) hc0)
      exact cg_tr a3 h5
  · intro hs
    have hp0 : cg (rs w M x p) 0 := by
      rcases cg_zero (cg_tr (cg_sy a1) (hs c hc)) with z | z
      · exact absurd (cg_tr (cg_sy h1) (cg_y z)) cg_n1
      · exact z
    intro r hr
    by_cases e : r = p
    · rw [e]; exact hp0
    · have q : ∃ r', r' < m ∧ r' ≠ c ∧ sw c p r' = r := by
        by_cases e2 : r = c
        · refine ⟨p, hp, fun z => e (by omega), ?_⟩
          unfold sw
          rw [if_neg (fun z => e (by omega)), if_pos rfl, e2]
        · refine ⟨r, hr, e2, ?_⟩
          unfold sw
          rw [if_neg e2, if_neg e]
      obtain ⟨r', q1, q2, q3⟩ := q
      obtain ⟨f, a3⟩ := a2 r' q1 q2
      rw [q3] at a3
      have h5 := cg_z (a := f) (hs c hc)
      have h6 := hs r' q1
      unfold cg at *
      omega
/-- upper triangle, ones on the diagonal, as far as column c -/
def tri (m c : Nat) (M : Nat → Nat → Int) : Prop := ∀ j, j < c → cg (M j j) 1 ∧ ∀ r, r < m → j < r → cg (M r j) 0
theorem tri_stp {m w c p : Nat} {M M' : Nat → Nat → Int} (hc : c < m) (hcp : c ≤ p) (hp : p < m) (hw : m ≤ w) (h : stp m w c p (fun r => decide (c < r)) M M') (ht : tri m c M) : tri m (c + 1) M' := by
  obtain ⟨v, h1, h2, h3⟩ := h
  intro j hj
  have hcc : cg (M' c c) 1 := cg_tr (h2 c (by omega)) h1
  by_cases e : j = c
  · subst e
    refine ⟨hcc, fun r hr hjr => ?_⟩
    have h4 := h3 r hr (by omega) j (by omega)
    rw [if_pos (decide_eq_true hjr)] at h4
    have h5 := cg_mul (cg_rf (M (sw j p r) j)) hcc
    rw [Int.mul_one] at h5
    unfold cg at *
    omega
  · have hcj : cg (M' c j) 0 := cg_tr (h2 j (by omega)) (cg_z ((ht j (by omega)).2 p hp (by omega)))
    have h4 : ∀ r, r < m → r ≠ c → cg (M' r j) (M (sw c p r) j) := by
      intro r hr hrc
      have h5 := h3 r hr hrc j (by omega)
      dsimp only at h5
      have h6 := cg_z (a := (if decide (c < r) = true then M (sw c p r) c else 0)) hcj
      unfold cg at *
      omega
    constructor
    · have h5 := h4 j (by omega) e
      have e2 : sw c p j = j := by unfold sw; rw [if_neg e, if_neg (by omega)]
      rw [e2] at h5
      exact cg_tr h5 (ht j (by omega)).1
    · intro r hr hjr
      by_cases e2 : r = c
      · rw [e2]; exact hcj
      · refine cg_tr (h4 r hr e2) ((ht j (by omega)).2 _ (sw_lt hc hp hr) ?_)
        unfold sw
        split
        · omega
        · split <;> omega
/-- ones on the diagonal and nothing else, as far as column c -/
def dia (m c : Nat) (M : Nat → Nat → Int) : Prop := ∀ j, j < c → ∀ r, r < m → cg (M r j) (if r = j then 1 else 0)
theorem dia_stp {m w c p : Nat} {M M' : Nat → Nat → Int} (hc : c < m) (hcp : c ≤ p) (hp : p < m) (hw : m ≤ w) (h : stp m w c p (fun _ => true) M M') (ht : dia m c M) : dia m (c + 1) M' := by
  obtain ⟨v, h1, h2, h3⟩ := h
  intro j hj r hr
  have hcc : cg (M' c c) 1 := cg_tr (h2 c (by omega)) h1
  by_cases e : j = c
  · subst e
    by_cases e2 : r = j
    · rw [if_pos e2, e2]; exact hcc
    · rw [if_neg e2]
      have h4 := h3 r hr e2 j (by omega)
      rw [if_pos rfl] at h4
      have h5 := cg_mul (cg_rf (M (sw j p r) j)) hcc
      rw [Int.mul_one] at h5
      unfold cg at *
      omega
  · have hpj := ht j (by omega) p hp
    rw [if_neg (by omega)] at hpj
    have hcj : cg (M' c j) 0 := cg_tr (h2 j (by omega)) (cg_z hpj)
    by_cases e2 : r = c
    · rw [if_neg (by omega), e2]; exact hcj
    · have h5 := h3 r hr e2 j (by omega)
      rw [if_pos rfl] at h5
      have h6 := cg_z (a := M (sw c p r) c) hcj
      have h7 : cg (M' r j) (M (sw c p r) j) := by
        unfold cg at *
        omega
      have h8 := ht j (by omega) (sw c p r) (sw_lt hc hp hr)
      have e3 : (sw c p r = j) = (r = j) := by
        unfold sw
        rw [if_neg e2]
        by_cases e4 : r = p
        · rw [if_pos e4]
          exact propext ⟨fun z => by omega, fun z => by omega⟩
        · rw [if_neg e4]
      simp only [e3] at h8
      exact cg_tr h7 h8
theorem dia_end {m : Nat} {M : Nat → Nat → Int} {x : Nat → Int} (h : dia m m M) (hs : sat m (m + 1) M x) : ∀ c, c < m → cg (x c) (-(M c m * x m)) := by
  intro c hc
  have h1 := hs c hc
  unfold rs at h1
  rw [sm_s] at h1
  have h2 : cg (sm m (fun k => M c k * x k)) (sm m (fun k => if k = c then x c else 0)) := by
    refine sm_cg m (fun k hk => ?_)
    have h3 := h k hk c hc
    by_cases e : k = c
    · rw [if_pos e.symm] at h3
      rw [if_pos e, ← e]
      rw [← e] at h3
      exact cg_1 h3
    · rw [if_neg (fun z => e z.symm)] at h3
      rw [if_neg e]
      exact cg_y h3
  rw [sm_pt, if_pos hc] at h2
  unfold cg at *
  omega
theorem dia_stuck {m c : Nat} {M : Nat → Nat → Int} (hc : c < m) (h : dia m c M) (hz : ∀ r, c ≤ r → r < m → cg (M r c) 0) : ∃ x : Nat → Int, x m = 0 ∧ x c = 1 ∧ sat m (m + 1) M x := by
  refine ⟨fun k => if k = c then 1 else if k < c then -(M k c) else 0, ?_, ?_, ?_⟩
  · show (if m = c then (1 : Int) else if m < c then -(M m c) else 0) = 0
    rw [if_neg (by omega), if_neg (by omega)]
  · show (if c = c then (1 : Int) else if c < c then -(M c c) else 0) = 1
    rw [if_pos rfl]
  · intro r hr
    unfold rs
    have h1 : cg (sm (m + 1) (fun k => M r k * (if k = c then 1 else if k < c then -(M k c) else 0))) (sm (m + 1) (fun k => (if k = c then M r c else 0) + (if k = r then (if r < c then -(M r c) else 0) else 0))) := by
      refine sm_cg (m + 1) (fun k hk => ?_)
      by_cases e : k = c
      · rw [if_pos e, if_pos e, Int.mul_one, e]
        by_cases e2 : c = r
        · rw [if_pos e2, if_neg (by omega), Int.add_zero]; exact cg_rf _
        · rw [if_neg e2, Int.add_zero]; exact cg_rf _
      · rw [if_neg e, if_neg e, Int.zero_add]
        by_cases e2 : k < c
        · rw [if_pos e2]
          have h3 := h k e2 r hr
          by_cases e3 : r = k
          · rw [if_pos e3] at h3
            rw [if_pos e3.symm, if_pos (by omega), e3]
            rw [e3] at h3
            exact cg_1 h3
          · rw [if_neg e3] at h3
            rw [if_neg (fun z => e3 z.symm)]
            exact cg_y h3
        · rw [if_neg e2, Int.mul_zero]
          by_cases e3 : k = r
          · rw [if_pos e3, if_neg (by omega)]; exact cg_rf _
          · rw [if_neg e3]; exact cg_rf _
    refine cg_tr h1 ?_
    rw [sm_add, sm_pt, sm_pt, if_pos (by omega), if_pos (by omega)]
    by_cases e : r < c
    · rw [if_pos e]; unfold cg; omega
    · rw [if_neg e, Int.add_zero]; exact hz r (by omega) hr
def ui (x : Nat → Int) (a : Nat) (v : Int) (k : Nat) : Int := if k = a then v else x k
theorem rs_ui (w : Nat) (M : Nat → Nat → Int) (x : Nat → Int) (a : Nat) (v : Int) (r : Nat) (ha : a < w) : rs w M (ui x a v) r = rs w M x r + M r a * (v - x a) := by
  unfold rs
  have h1 : sm w (fun k => M r k * ui x a v k) = sm w (fun k => M r k * x k + (if k = a then M r a * (v - x a) else 0)) := by
    refine sm_eq w (fun k _ => ?_)
    unfold ui
    by_cases e : k = a
    · rw [if_pos e, if_pos e, e]; grind
    · rw [if_neg e, if_neg e, Int.add_zero]
  rw [h1, sm_add, sm_pt, if_pos ha]
theorem tri_fix {m c w : Nat} {M : Nat → Nat → Int} (h : tri m c M) (hcm : c ≤ m) (hw : c ≤ w) (x0 : Nat → Int) : ∀ t, t ≤ c → ∃ x : Nat → Int, (∀ k, c ≤ k → x k = x0 k) ∧ ∀ r, c - t ≤ r → r < c → cg (rs w M x r) 0 := by
  intro t
  induction t with
  | zero => intro _; exact ⟨x0, fun _ _ => rfl, fun r h1 h2 => by omega⟩
  | succ t ih =>
    intro ht
    obtain ⟨x, h1, h2⟩ := ih (by omega)
    have hq : c - (t + 1) < c := by omega
    generalize hqq : c - (t + 1) = q at *
    refine ⟨ui x q (x q - rs w M x q), fun k hk => ?_, fun r hr1 hr2 => ?_⟩
    · unfold ui; rw [if_neg (by omega)]; exact h1 k hk
    · rw [rs_ui w M x q _ r (by omega)]
      by_cases e : r = q
      · rw [e]
        have h4 := (h q hq).1
        have h5 := cg_1 (b := x q - rs w M x q - x q) h4
        unfold cg at *
        omega
      · have h4 := (h q hq).2 r (by omega) (by omega)
        have h5 := cg_y (b := x q - rs w M x q - x q) h4
        have h6 := h2 r (by omega) hr2
        unfold cg at *
        omega
theorem tri_stuck {m c : Nat} {M : Nat → Nat → Int} (hc : c < m) (h : tri m c M) (hz : ∀ r, c ≤ r → r < m → cg (M r c) 0) : ∃ x : Nat → Int, x m = 0 ∧ x c = 1 ∧ sat m (m + 1) M x := by
  obtain ⟨x, h1, h2⟩ := tri_fix (w := m + 1) h (by omega) (by omega) (fun k => if k = c then 1 else 0) c (Nat.le_refl c)
  refine ⟨x, ?_, ?_, fun r hr => ?_⟩
  · rw [h1 m (by omega), if_neg (by omega)]
  · rw [h1 c (Nat.le_refl c), if_pos rfl]
  · by_cases e : r < c
    · exact h2 r (by omega) e
    · unfold rs
      have h3 : cg (sm (m + 1) (fun k => M r k * x k)) (sm (m + 1) (fun _ => 0)) := by
        refine sm_cg (m + 1) (fun k hk => ?_)
        by_cases e1 : k < c
        · exact cg_y ((h k e1).2 r hr (by omega))
        · rw [h1 k (by omega)]
          by_cases e2 : k = c
          · rw [e2]; exact cg_y (hz r (by omega) hr)
          · rw [if_neg e2, Int.mul_zero]; exact cg_rf _
      rw [sm_zero] at h3
      exact h3
theorem tri_ker {m : Nat} {M : Nat → Nat → Int} {x : Nat → Int} (h : tri m m M) (hs : sat m (m + 1) M x) (h0 : cg (x m) 0) : ∀ t, t ≤ m → ∀ k, m - t ≤ k → k < m → cg (x k) 0 := by
  intro t
  induction t with
  | zero => intro _ k h1 h2; omega
  | succ t ih =>
    intro ht k h1 h2
    by_cases e : m - t ≤ k
    · exact ih (by omega) k e h2
    · have h3 := hs k h2
      unfold rs at h3
      have h4 : cg (sm (m + 1) (fun j => M k j * x j)) (sm (m + 1) (fun j => if j = k then x k else 0)) := by
        refine sm_cg (m + 1) (fun j hj => ?_)
        by_cases e1 : j = k
        · rw [if_pos e1, e1]; exact cg_1 (h k h2).1
        · rw [if_neg e1]
          by_cases e2 : j < k
          · exact cg_y ((h j (by omega)).2 k h2 e2)
          · by_cases e3 : j = m
            · rw [e3]; exact cg_z h0
            · exact cg_z (ih (by omega) j (by omega) (by omega))
      rw [sm_pt, if_pos (by omega)] at h4
      exact cg_tr (cg_sy h4) h3
theorem tri_back {m : Nat} {M : Nat → Nat → Int} {x : Nat → Int} (h : tri m m M) (h0 : x m = -1) (hx : ∀ c, c < m → cg (x c) (M c m - sm m (fun k => if c < k then M c k * x k else 0))) : sat m (m + 1) M x := by
  intro c hc
  unfold rs
  rw [sm_s, h0]
  have h4 : cg (sm m (fun k => M c k * x k)) (sm m (fun k => (if k = c then x c else 0) + (if c < k then M c k * x k else 0))) := by
    refine sm_cg m (fun k hk => ?_)
    by_cases e1 : k = c
    · rw [if_pos e1, if_neg (by omega), e1, Int.add_zero]; exact cg_1 (h c hc).1
    · rw [if_neg e1, Int.zero_add]
      by_cases e2 : c < k
      · rw [if_pos e2]; exact cg_rf _
      · rw [if_neg e2]; exact cg_y ((h k hk).2 c hc (by omega))
  rw [sm_add, sm_pt, if_pos hc] at h4
  have h5 := hx c hc
  unfold cg at *
  omega
