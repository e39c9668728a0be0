/-! ===== the likeliest run: numbers ===== -/
def sf (na : Nat → Nat) (tg : Nat → Nat → Nat) (en dw : Nat → Bool) : Nat → Nat → Option Nat
  | 0, _ => none
  | f + 1, s => if en s || dw s then some s else if na s = 0 then none else sf na tg en dw f (tg s 0)
theorem sf_s (na : Nat → Nat) (tg : Nat → Nat → Nat) (en dw : Nat → Bool) (f s : Nat) : sf na tg en dw (f + 1) s = if en s || dw s then some s else if na s = 0 then none else sf na tg en dw f (tg s 0) := rfl
theorem sf_up {na : Nat → Nat} {tg : Nat → Nat → Nat} {en dw : Nat → Bool} : ∀ f s x, sf na tg en dw f s = some x → sf na tg en dw (f + 1) s = some x := by
  intro f
  induction f with
  | zero => intro s x h; cases h
  | succ f ih =>
    intro s x h
    rw [sf_s] at h ⊢
    by_cases e : (en s || dw s) = true
    · rw [if_pos e] at h ⊢; exact h
    · rw [if_neg e] at h ⊢
      by_cases e2 : na s = 0
      · rw [if_pos e2] at h; cases h
      · rw [if_neg e2] at h ⊢; exact ih _ _ h
theorem sf_mono {na : Nat → Nat} {tg : Nat → Nat → Nat} {en dw : Nat → Bool} {f s x : Nat} (h : sf na tg en dw f s = some x) : ∀ d, sf na tg en dw (f + d) s = some x := by
  intro d
  induction d with
  | zero => exact h
  | succ d ih => exact sf_up _ _ _ ih
theorem sf_le {na : Nat → Nat} {tg : Nat → Nat → Nat} {en dw : Nat → Bool} {f g s x : Nat} (h : sf na tg en dw f s = some x) (hg : f ≤ g) : sf na tg en dw g s = some x := by
  have := sf_mono h (g - f)
  rwa [show f + (g - f) = g by omega] at this
theorem cn_sub {A B : Nat → Bool} : ∀ n, (∀ s, s < n → A s = true → B s = true) → cn A n ≤ cn B n := by
  intro n
  induction n with
  | zero => intro _; exact Nat.le_refl 0
  | succ n ih =>
    intro h
    have h1 := ih (fun s hs => h s (by omega))
    rw [cn_s, cn_s]
    by_cases e : A n = true
    · rw [if_pos e, if_pos (h n (by omega) e)]; omega
    · rw [if_neg e]; split <;> omega
theorem cn_ssub {A B : Nat → Bool} : ∀ n, (∀ s, s < n → A s = true → B s = true) → ∀ s, s < n → B s = true → ¬ A s = true → cn A n + 1 ≤ cn B n := by
  intro n
  induction n with
  | zero => intro _ s hs; exact absurd hs (Nat.not_lt_zero s)
  | succ n ih =>
    intro h s hs hB hA
    rw [cn_s, cn_s]
    by_cases e : s = n
    · have h1 := cn_sub n (fun t ht => h t (by omega))
      rw [← e, if_neg hA, if_pos hB]
      rw [← e] at h1
      omega
    · have h1 := ih (fun t ht => h t (by omega)) s (by omega) hB hA
      by_cases e2 : A n = true
      · rw [if_pos e2, if_pos (h n (by omega) e2)]; omega
      · rw [if_neg e2]; split <;> omega
def sb (na : Nat → Nat) (tg : Nat → Nat → Nat) (en dw : Nat → Bool) (f s : Nat) : Bool := (sf na tg en dw f s).isSome
theorem sb_up {na : Nat → Nat} {tg : Nat → Nat → Nat} {en dw : Nat → Bool} {f s : Nat} (h : sb na tg en dw f s = true) : sb na tg en dw (f + 1) s = true := by
  unfold sb at *
  obtain ⟨x, hx⟩ := Option.isSome_iff_exists.mp h
  rw [sf_up _ _ _ hx]; rfl
theorem sf_stable {n : Nat} {na : Nat → Nat} {tg : Nat → Nat → Nat} {en dw : Nat → Bool} : ∀ k, (∃ f, f ≤ k ∧ ∀ s, s < n → sb na tg en dw (f + 1) s = true → sb na tg en dw f s = true) ∨ k + 1 ≤ cn (sb na tg en dw (k + 1)) n := by
  intro k
  induction k with
  | zero =>
    by_cases h : ∀ s, s < n → sb na tg en dw 1 s = true → sb na tg en dw 0 s = true
    · exact Or.inl ⟨0, Nat.le_refl 0, h⟩
    · right
      have : ∃ s, s < n ∧ sb na tg en dw 1 s = true ∧ ¬ sb na tg en dw 0 s = true := by
        apply Classical.byContradiction
        intro hno
        exact h (fun s hs h1 => Classical.byContradiction (fun h2 => hno ⟨s, hs, h1, h2⟩))
      obtain ⟨s, h1, h2, h3⟩ := this
      have := cn_ssub (A := sb na tg en dw 0) (B := sb na tg en dw 1) n (fun t _ ht => sb_up ht) s h1 h2 h3
      have e : cn (sb na tg en dw (0 + 1)) n = cn (sb na tg en dw 1) n := rfl
      omega
  | succ k ih =>
    rcases ih with ⟨f, hf, h⟩ | ih
    · exact Or.inl ⟨f, by omega, h⟩
    · by_cases h : ∀ s, s < n → sb na tg en dw (k + 1 + 1) s = true → sb na tg en dw (k + 1) s = true
      · exact Or.inl ⟨k + 1, Nat.le_refl _, h⟩
      · right
        have : ∃ s, s < n ∧ sb na tg en dw (k + 1 + 1) s = true ∧ ¬ sb na tg en dw (k + 1) s = true := by
          apply Classical.byContradiction
          intro hno
          exact h (fun s hs h1 => Classical.byContradiction (fun h2 => hno ⟨s, hs, h1, h2⟩))
        obtain ⟨s, h1, h2, h3⟩ := this
        have := cn_ssub (A := sb na tg en dw (k + 1)) (B := sb na tg en dw (k + 1 + 1)) n (fun t _ ht => sb_up ht) s h1 h2 h3
        omega
theorem sf_eq {n : Nat} (hn : n ≤ 200) {na : Nat → Nat} {tg : Nat → Nat → Nat} {en dw : Nat → Bool} (ht : ∀ s, s < n → 0 < na s → tg s 0 < n) {s : Nat} (hs : s < n) : sf na tg en dw 201 s = sf na tg en dw (n + 1) s := by
  have hst : ∃ f, f ≤ n ∧ ∀ s, s < n → sb na tg en dw (f + 1) s = true → sb na tg en dw f s = true := by
    rcases sf_stable (n := n) (na := na) (tg := tg) (en := en) (dw := dw) n with h | h
    · exact h
    · have := cn_le (sb na tg en dw (n + 1)) n
      omega
  obtain ⟨f, hf, h⟩ := hst
  have hall : ∀ g s, s < n → sb na tg en dw g s = true → sb na tg en dw f s = true := by
    intro g
    induction g with
    | zero => intro s _ h1; exact absurd h1 (by unfold sb; exact Bool.false_ne_true)
    | succ g ih =>
      intro s hs h1
      apply h s hs
      unfold sb at *
      rw [sf_s] at h1 ⊢
      by_cases e : (en s || dw s) = true
      · rw [if_pos e]; rfl
      · rw [if_neg e] at h1 ⊢
        by_cases e2 : na s = 0
        · rw [if_pos e2] at h1; exact absurd h1 Bool.false_ne_true
        · rw [if_neg e2] at h1 ⊢
          exact ih _ (ht s hs (by omega)) h1
  cases h1 : sf na tg en dw 201 s with
  | none =>
    cases h2 : sf na tg en dw (n + 1) s with
    | none => rfl
    | some y =>
      have := sf_le h2 (show n + 1 ≤ 201 by omega)
      rw [h1] at this
      cases this
  | some x =>
    have h3 := hall 201 s hs (by unfold sb; rw [h1]; rfl)
    unfold sb at h3
    obtain ⟨y, hy⟩ := Option.isSome_iff_exists.mp h3
    have h4 := sf_le hy (show f ≤ 201 by omega)
    rw [h1] at h4
    cases h4
    exact (sf_le hy (show f ≤ n + 1 by omega)).symm
theorem sf_is {na : Nat → Nat} {tg : Nat → Nat → Nat} {en dw : Nat → Bool} : ∀ f s x, sf na tg en dw f s = some x → en x = true ∨ dw x = true := by
  intro f
  induction f with
  | zero => intro s x h; cases h
  | succ f ih =>
    intro s x h
    rw [sf_s] at h
    by_cases e : (en s || dw s) = true
    · rw [if_pos e] at h
      cases h
      simpa using e
    · rw [if_neg e] at h
      by_cases e2 : na s = 0
      · rw [if_pos e2] at h; cases h
      · rw [if_neg e2] at h; exact ih _ _ h
theorem sf_lt {n : Nat} {na : Nat → Nat} {tg : Nat → Nat → Nat} {en dw : Nat → Bool} (ht : ∀ s, s < n → 0 < na s → tg s 0 < n) : ∀ f s x, s < n → sf na tg en dw f s = some x → x < n := by
  intro f
  induction f with
  | zero => intro s x _ h; cases h
  | succ f ih =>
    intro s x hs h
    rw [sf_s] at h
    by_cases e : (en s || dw s) = true
    · rw [if_pos e] at h
      cases h
      exact hs
    · rw [if_neg e] at h
      by_cases e2 : na s = 0
      · rw [if_pos e2] at h; cases h
      · rw [if_neg e2] at h; exact ih _ _ (ht s hs (by omega)) h
theorem sf_self {na : Nat → Nat} {tg : Nat → Nat → Nat} {en dw : Nat → Bool} {f s : Nat} (h : en s = true ∨ dw s = true) : sf na tg en dw (f + 1) s = some s := by
  rw [sf_s, if_pos (by rcases h with h | h <;> rw [h] <;> simp)]
/-- the greatest -/
def mk : Nat → (Nat → Int) → Int
  | 0, _ => 0
  | m + 1, f => if f m < mk m f then mk m f else f m
theorem mk_s (m : Nat) (f : Nat → Int) : mk (m + 1) f = if f m < mk m f then mk m f else f m := rfl
theorem mk_ge {f : Nat → Int} : ∀ m k, k < m → f k ≤ mk m f := by
  intro m
  induction m with
  | zero => intro k h; exact absurd h (Nat.not_lt_zero k)
  | succ m ih =>
    intro k h
    rw [mk_s]
    by_cases e : k = m
    · rw [e]; split <;> omega
    · have := ih k (by omega)
      split <;> omega
theorem mk_at {f : Nat → Int} : ∀ m, mk m f = 0 ∨ ∃ k, k < m ∧ mk m f = f k := by
  intro m
  induction m with
  | zero => exact Or.inl rfl
  | succ m ih =>
    rw [mk_s]
    split
    · rcases ih with h | ⟨k, h1, h2⟩
      · exact Or.inl h
      · exact Or.inr ⟨k, by omega, h2⟩
    · exact Or.inr ⟨m, by omega, rfl⟩
theorem mk_nn {f : Nat → Int} (h : ∀ k, 0 ≤ f k) (m : Nat) : 0 ≤ mk m f := by
  rcases mk_at (f := f) m with e | ⟨k, _, e⟩
  · rw [e]; exact Int.le_refl _
  · rw [e]; exact h k
def op (f : Nat → Int) (o : Option Nat) : Int := match o with
  | none => 0
  | some u => f u
def mm (na : Nat → Nat) (tg : Nat → Nat → Nat) (sh : Nat → Nat → Int) (en dw : Nat → Bool) (st : Nat → Option Nat) : Nat → Nat → Int
  | 0, s => if en s then 1 else 0
  | d + 1, s => if en s then 0 else if dw s then mk (na s) (fun k => if k < na s then sh s k * op (mm na tg sh en dw st d) (st (tg s k)) else 0) else 0
/-- worth of the arc k, and d draws behind it -/
def vl (na : Nat → Nat) (tg : Nat → Nat → Nat) (sh : Nat → Nat → Int) (en dw : Nat → Bool) (st : Nat → Option Nat) (s k d : Nat) : Int := sh s k * op (mm na tg sh en dw st d) (st (tg s k))
theorem mm_en {na : Nat → Nat} {tg : Nat → Nat → Nat} {sh : Nat → Nat → Int} {en dw : Nat → Bool} {st : Nat → Option Nat} {s : Nat} (h : en s = true) (d : Nat) : mm na tg sh en dw st d s = if d = 0 then 1 else 0 := by
  cases d with
  | zero => show (if en s then (1 : Int) else 0) = _; rw [if_pos h, if_pos rfl]
  | succ d =>
    show (if en s then (0 : Int) else _) = _
    rw [if_pos h, if_neg (Nat.succ_ne_zero d)]
theorem mk_if {m : Nat} {f : Nat → Int} : ∀ p, p ≤ m → mk p (fun k => if k < m then f k else 0) = mk p f := by
  intro p
  induction p with
  | zero => intro _; rfl
  | succ p ih =>
    intro hp
    rw [mk_s, mk_s, ih (by omega), if_pos (show p < m by omega)]
theorem mm_dw {na : Nat → Nat} {tg : Nat → Nat → Nat} {sh : Nat → Nat → Int} {en dw : Nat → Bool} {st : Nat → Option Nat} {s : Nat} (h : ¬ en s = true) (hd : dw s = true) (d : Nat) : mm na tg sh en dw st (d + 1) s = mk (na s) (fun k => vl na tg sh en dw st s k d) := by
  show (if en s then (0 : Int) else if dw s then mk (na s) (fun k => if k < na s then sh s k * op (mm na tg sh en dw st d) (st (tg s k)) else 0) else 0) = _
  rw [if_neg h, if_pos hd]
  exact mk_if (na s) (Nat.le_refl _)
theorem mm_0 {na : Nat → Nat} {tg : Nat → Nat → Nat} {sh : Nat → Nat → Int} {en dw : Nat → Bool} {st : Nat → Option Nat} {s : Nat} (h : ¬ en s = true) : mm na tg sh en dw st 0 s = 0 := by
  show (if en s then (1 : Int) else 0) = 0
  rw [if_neg h]
theorem mm_no {na : Nat → Nat} {tg : Nat → Nat → Nat} {sh : Nat → Nat → Int} {en dw : Nat → Bool} {st : Nat → Option Nat} {s : Nat} (h : ¬ en s = true) (hd : ¬ dw s = true) (d : Nat) : mm na tg sh en dw st d s = 0 := by
  cases d with
  | zero => exact mm_0 h
  | succ d =>
    show (if en s then (0 : Int) else if dw s then _ else 0) = 0
    rw [if_neg h, if_neg hd]
def shB (n : Nat) (na : Nat → Nat) (tg : Nat → Nat → Nat) (sh : Nat → Nat → Int) : Prop := ∀ s, s < n → ∀ k, k < na s → 1 ≤ sh s k ∧ sh s k ≤ 60 ∧ tg s k < n
theorem pow60_pos (d : Nat) : (0 : Int) < 60 ^ d := by
  induction d with
  | zero => decide
  | succ d ih => rw [Int.pow_succ]; omega
theorem mm_b {n : Nat} {na : Nat → Nat} {tg : Nat → Nat → Nat} {sh : Nat → Nat → Int} {en dw : Nat → Bool} {st : Nat → Option Nat} (hs : shB n na tg sh) (hst : ∀ s x, s < n → st s = some x → x < n) : ∀ d s, s < n → 0 ≤ mm na tg sh en dw st d s ∧ mm na tg sh en dw st d s ≤ 60 ^ d := by
  intro d
  induction d with
  | zero =>
    intro s _
    show 0 ≤ (if en s then (1 : Int) else 0) ∧ (if en s then (1 : Int) else 0) ≤ 60 ^ 0
    split <;> decide
  | succ d ih =>
    intro s hsn
    have hp := pow60_pos (d + 1)
    by_cases e : en s = true
    · rw [mm_en e, if_neg (Nat.succ_ne_zero d)]; omega
    · by_cases e2 : dw s = true
      · rw [mm_dw e e2]
        have hv : ∀ k, k < na s → 0 ≤ vl na tg sh en dw st s k d ∧ vl na tg sh en dw st s k d ≤ 60 ^ (d + 1) := by
          intro k hk
          obtain ⟨h1, h2, h3⟩ := hs s hsn k hk
          unfold vl
          have ho : 0 ≤ op (mm na tg sh en dw st d) (st (tg s k)) ∧ op (mm na tg sh en dw st d) (st (tg s k)) ≤ 60 ^ d := by
            cases hq : st (tg s k) with
            | none => exact ⟨Int.le_refl _, by have := pow60_pos d; show (0 : Int) ≤ 60 ^ d; omega⟩
            | some u => exact ih u (hst _ _ h3 hq)
          generalize op (mm na tg sh en dw st d) (st (tg s k)) = o at ho
          refine ⟨Int.mul_nonneg (by omega) ho.1, ?_⟩
          have h4 : sh s k * o ≤ 60 * o := Int.mul_le_mul_of_nonneg_right h2 ho.1
          rw [Int.pow_succ]
          omega
        rcases mk_at (f := fun k => vl na tg sh en dw st s k d) (na s) with h | ⟨k, h1, h2⟩
        · rw [h]; omega
        · rw [h2]; exact hv k h1
      · rw [mm_no e e2]; omega
theorem vl_b {n : Nat} {na : Nat → Nat} {tg : Nat → Nat → Nat} {sh : Nat → Nat → Int} {en dw : Nat → Bool} {st : Nat → Option Nat} (hs : shB n na tg sh) (hst : ∀ s x, s < n → st s = some x → x < n) {s k : Nat} (hsn : s < n) (hk : k < na s) (d : Nat) : 0 ≤ vl na tg sh en dw st s k d := by
  obtain ⟨h1, h2, h3⟩ := hs s hsn k hk
  unfold vl
  refine Int.mul_nonneg (by omega) ?_
  cases hq : st (tg s k) with
  | none => exact Int.le_refl _
  | some u => exact (mm_b hs hst d u (hst _ _ h3 hq)).1
/-- the most worth with l draws left, by f draws -/
def wS (na : Nat → Nat) (tg : Nat → Nat → Nat) (sh : Nat → Nat → Int) (en dw : Nat → Bool) (st : Nat → Option Nat) (l s : Nat) (w : Int) (f : Nat) : Prop := 0 ≤ w ∧ w ≤ 60 ^ l ∧ (∀ d, d ≤ l → mm na tg sh en dw st d s * 60 ^ (l - d) ≤ w) ∧ (0 < w → f ≤ l ∧ mm na tg sh en dw st f s * 60 ^ (l - f) = w ∧ ∀ d, d < f → mm na tg sh en dw st d s * 60 ^ (l - d) < w)
theorem wS_en {na : Nat → Nat} {tg : Nat → Nat → Nat} {sh : Nat → Nat → Int} {en dw : Nat → Bool} {st : Nat → Option Nat} {s : Nat} (h : en s = true) (l : Nat) : wS na tg sh en dw st l s (60 ^ l) 0 := by
  have hp := pow60_pos l
  refine ⟨by omega, Int.le_refl _, fun d hd => ?_, fun _ => ⟨by omega, ?_, fun d hd => absurd hd (Nat.not_lt_zero d)⟩⟩
  · rw [mm_en h]
    by_cases e : d = 0
    · rw [if_pos e, e, Int.one_mul]; exact Int.le_refl _
    · rw [if_neg e, Int.zero_mul]; omega
  · rw [mm_en h, if_pos rfl, Int.one_mul]; rfl
theorem wS_0 {na : Nat → Nat} {tg : Nat → Nat → Nat} {sh : Nat → Nat → Int} {en dw : Nat → Bool} {st : Nat → Option Nat} {s : Nat} (h : ¬ en s = true) : wS na tg sh en dw st 0 s 0 0 := by
  refine ⟨Int.le_refl _, by decide, fun d hd => ?_, fun z => absurd z (by decide)⟩
  have : d = 0 := by omega
  rw [this, mm_0 h, Int.zero_mul]
  exact Int.le_refl _
/-- behind k arcs of s -/
def kS (na : Nat → Nat) (tg : Nat → Nat → Nat) (sh : Nat → Nat → Int) (en dw : Nat → Bool) (st : Nat → Option Nat) (l s k : Nat) (w : Int) (f : Nat) : Prop := 0 ≤ w ∧ w ≤ 60 ^ (l + 1) ∧ (∀ j, j < k → ∀ d, d ≤ l → vl na tg sh en dw st s j d * 60 ^ (l - d) ≤ w) ∧ (0 < w → ∃ f', f = f' + 1 ∧ f' ≤ l ∧ (∃ j, j < k ∧ vl na tg sh en dw st s j f' * 60 ^ (l - f') = w) ∧ ∀ j, j < k → ∀ d, d < f' → vl na tg sh en dw st s j d * 60 ^ (l - d) < w)
theorem kS_end {na : Nat → Nat} {tg : Nat → Nat → Nat} {sh : Nat → Nat → Int} {en dw : Nat → Bool} {st : Nat → Option Nat} {l s : Nat} {w : Int} {f : Nat} (he : ¬ en s = true) (hd : dw s = true) (h : kS na tg sh en dw st l s (na s) w f) : wS na tg sh en dw st (l + 1) s w f := by
  obtain ⟨h1, h2, h3, h4⟩ := h
  have up : ∀ d, d ≤ l → mm na tg sh en dw st (d + 1) s * 60 ^ (l - d) ≤ w := by
    intro d hdl
    rw [mm_dw he hd]
    rcases mk_at (f := fun k => vl na tg sh en dw st s k d) (na s) with e | ⟨k, k1, k2⟩
    · rw [e, Int.zero_mul]; exact h1
    · rw [k2]; exact h3 k k1 d hdl
  refine ⟨h1, h2, fun d hdl => ?_, fun hw => ?_⟩
  · cases d with
    | zero => rw [mm_0 he, Int.zero_mul]; exact h1
    | succ d =>
      rw [show l + 1 - (d + 1) = l - d by omega]
      exact up d (by omega)
  · obtain ⟨f', rfl, f1, ⟨j, j1, j2⟩, f3⟩ := h4 hw
    refine ⟨by omega, ?_, fun d hdf => ?_⟩
    · rw [show l + 1 - (f' + 1) = l - f' by omega]
      have a1 := up f' f1
      have a2 : vl na tg sh en dw st s j f' ≤ mm na tg sh en dw st (f' + 1) s := by
        rw [mm_dw he hd]; exact mk_ge (f := fun k => vl na tg sh en dw st s k f') (na s) j j1
      have a3 := Int.mul_le_mul_of_nonneg_right a2 (Int.le_of_lt (pow60_pos (l - f')))
      omega
    · cases d with
      | zero => rw [mm_0 he, Int.zero_mul]; exact hw
      | succ d =>
        rw [show l + 1 - (d + 1) = l - d by omega, mm_dw he hd]
        rcases mk_at (f := fun k => vl na tg sh en dw st s k d) (na s) with e | ⟨k, k1, k2⟩
        · rw [e, Int.zero_mul]; exact hw
        · rw [k2]; exact f3 k k1 d (by omega)
theorem kS_none {na : Nat → Nat} {tg : Nat → Nat → Nat} {sh : Nat → Nat → Int} {en dw : Nat → Bool} {st : Nat → Option Nat} {l s k : Nat} {w : Int} {f : Nat} (h : kS na tg sh en dw st l s k w f) (hn : st (tg s k) = none) : kS na tg sh en dw st l s (k + 1) w f := by
  have hv : ∀ d, vl na tg sh en dw st s k d = 0 := fun d => by
    unfold vl
    rw [hn]
    exact Int.mul_zero _
  obtain ⟨h1, h2, h3, h4⟩ := h
  refine ⟨h1, h2, fun j hj d hd => ?_, fun hw => ?_⟩
  · by_cases e : j = k
    · rw [e, hv, Int.zero_mul]; exact h1
    · exact h3 j (by omega) d hd
  · obtain ⟨f', e1, f1, ⟨j, j1, j2⟩, f3⟩ := h4 hw
    refine ⟨f', e1, f1, ⟨j, by omega, j2⟩, fun j hj d hd => ?_⟩
    by_cases e : j = k
    · rw [e, hv, Int.zero_mul]; exact hw
    · exact f3 j (by omega) d hd
theorem vl_some {na : Nat → Nat} {tg : Nat → Nat → Nat} {sh : Nat → Nat → Int} {en dw : Nat → Bool} {st : Nat → Option Nat} {s k u : Nat} (hu : st (tg s k) = some u) (d : Nat) : vl na tg sh en dw st s k d = sh s k * mm na tg sh en dw st d u := by
  unfold vl
  rw [hu]
  rfl
theorem kS_more {na : Nat → Nat} {tg : Nat → Nat → Nat} {sh : Nat → Nat → Int} {en dw : Nat → Bool} {st : Nat → Option Nat} {l s k u : Nat} {w w' : Int} {f f' : Nat} (h : kS na tg sh en dw st l s k w f) (hu : st (tg s k) = some u) (hsh : 1 ≤ sh s k ∧ sh s k ≤ 60) (h' : wS na tg sh en dw st l u w' f') (hc : w < sh s k * w' ∨ (0 < sh s k * w' ∧ sh s k * w' = w ∧ f' + 1 < f)) : kS na tg sh en dw st l s (k + 1) (sh s k * w') (f' + 1) := by
  obtain ⟨h1, h2, h3, h4⟩ := h
  obtain ⟨g1, g2, g3, g4⟩ := h'
  have hpos : 0 < sh s k * w' := by rcases hc with z | z <;> omega
  have hw' : 0 < w' := by
    rcases Int.lt_or_le 0 w' with z | z
    · exact z
    · have : w' = 0 := by omega
      rw [this, Int.mul_zero] at hpos
      exact absurd hpos (by decide)
  have hle : w ≤ sh s k * w' := by rcases hc with z | z <;> omega
  have vk : ∀ d, vl na tg sh en dw st s k d * 60 ^ (l - d) = sh s k * (mm na tg sh en dw st d u * 60 ^ (l - d)) := fun d => by rw [vl_some hu, Int.mul_assoc]
  refine ⟨by omega, ?_, fun j hj d hd => ?_, fun _ => ?_⟩
  · have a1 : sh s k * w' ≤ 60 * w' := Int.mul_le_mul_of_nonneg_right hsh.2 g1
    rw [Int.pow_succ]
    omega
  · by_cases e : j = k
    · rw [e, vk]
      exact Int.mul_le_mul_of_nonneg_left (g3 d hd) (by omega)
    · have := h3 j (by omega) d hd
      omega
  · obtain ⟨f1, f2, f3⟩ := g4 hw'
    refine ⟨f', rfl, f1, ⟨k, by omega, by rw [vk, f2]⟩, fun j hj d hd => ?_⟩
    by_cases e : j = k
    · rw [e, vk]
      exact Int.mul_lt_mul_of_pos_left (f3 d hd) (by omega)
    · rcases hc with z | ⟨z1, z2, z3⟩
      · have := h3 j (by omega) d (by omega)
        omega
      · obtain ⟨f0, e1, e2, -, e4⟩ := h4 (by omega)
        have := e4 j (by omega) d (by omega)
        omega
theorem kS_less {na : Nat → Nat} {tg : Nat → Nat → Nat} {sh : Nat → Nat → Int} {en dw : Nat → Bool} {st : Nat → Option Nat} {l s k u : Nat} {w w' : Int} {f f' : Nat} (h : kS na tg sh en dw st l s k w f) (hu : st (tg s k) = some u) (hsh : 1 ≤ sh s k ∧ sh s k ≤ 60) (h' : wS na tg sh en dw st l u w' f') (hc : sh s k * w' ≤ w) (hc2 : sh s k * w' ≤ 0 ∨ sh s k * w' < w ∨ f ≤ f' + 1) : kS na tg sh en dw st l s (k + 1) w f := by
  obtain ⟨h1, h2, h3, h4⟩ := h
  obtain ⟨g1, g2, g3, g4⟩ := h'
  have vk : ∀ d, vl na tg sh en dw st s k d * 60 ^ (l - d) = sh s k * (mm na tg sh en dw st d u * 60 ^ (l - d)) := fun d => by rw [vl_some hu, Int.mul_assoc]
  have vb : ∀ d, d ≤ l → vl na tg sh en dw st s k d * 60 ^ (l - d) ≤ sh s k * w' := fun d hd => by
    rw [vk]
    exact Int.mul_le_mul_of_nonneg_left (g3 d hd) (by omega)
  refine ⟨h1, h2, fun j hj d hd => ?_, fun hw => ?_⟩
  · by_cases e : j = k
    · rw [e]
      have := vb d hd
      omega
    · exact h3 j (by omega) d hd
  · obtain ⟨f0, e1, f1, ⟨j, j1, j2⟩, f3⟩ := h4 hw
    refine ⟨f0, e1, f1, ⟨j, by omega, j2⟩, fun j hj d hd => ?_⟩
    by_cases e : j = k
    · rw [e]
      have b1 := vb d (by omega)
      by_cases q : sh s k * w' < w
      · omega
      · have q2 : sh s k * w' = w := by omega
        have q3 : f ≤ f' + 1 := by rcases hc2 with z | z | z <;> omega
        have hw' : 0 < w' := by
          rcases Int.lt_or_le 0 w' with z | z
          · exact z
          · have : w' = 0 := by omega
            rw [this, Int.mul_zero] at q2
            omega
        rw [vk]
        have := Int.mul_lt_mul_of_pos_left ((g4 hw').2.2 d (by omega)) (show 0 < sh s k by omega)
        omega
    · exact f3 j (by omega) d hd
/-- the arc that both choose -/
theorem wS_arc {na : Nat → Nat} {tg : Nat → Nat → Nat} {sh : Nat → Nat → Int} {en dw : Nat → Bool} {st : Nat → Option Nat} {l s k u : Nat} {w w' : Int} {f f' : Nat} (he : ¬ en s = true) (hd : dw s = true) (hk : k < na s) (hw : 0 < w) (h : wS na tg sh en dw st (l + 1) s w (f + 1)) (hu : st (tg s k) = some u) (hsh : 1 ≤ sh s k ∧ sh s k ≤ 60) (h' : wS na tg sh en dw st l u w' f') : (sh s k * w' = w ∧ f' + 1 = f + 1) ↔ vl na tg sh en dw st s k f = mm na tg sh en dw st (f + 1) s := by
  obtain ⟨h1, h2, h3, h4⟩ := h
  obtain ⟨g1, g2, g3, g4⟩ := h'
  obtain ⟨a1, a2, a3⟩ := h4 hw
  rw [show l + 1 - (f + 1) = l - f by omega] at a2
  have hp := pow60_pos (l - f)
  have vk : ∀ d, vl na tg sh en dw st s k d * 60 ^ (l - d) = sh s k * (mm na tg sh en dw st d u * 60 ^ (l - d)) := fun d => by rw [vl_some hu, Int.mul_assoc]
  constructor
  · rintro ⟨b1, b2⟩
    have e : f' = f := by omega
    subst e
    have hw' : 0 < w' := by
      rcases Int.lt_or_le 0 w' with z | z
      · exact z
      · have : w' = 0 := by omega
        rw [this, Int.mul_zero] at b1
        omega
    have b3 := vk f'
    rw [(g4 hw').2.1, b1, ← a2] at b3
    exact Int.eq_of_mul_eq_mul_right (by omega) b3
  · intro b1
    have b2 := vk f
    rw [b1, a2] at b2
    have b3 := Int.mul_le_mul_of_nonneg_left (g3 f (by omega)) (show 0 ≤ sh s k by omega)
    have hw' : 0 < w' := by
      rcases Int.lt_or_le 0 w' with z | z
      · exact z
      · have : w' = 0 := by omega
        rw [this, Int.mul_zero] at b3
        omega
    obtain ⟨c1, c2, c3⟩ := g4 hw'
    have b4 := vk f'
    rw [c2] at b4
    have b5 : vl na tg sh en dw st s k f' ≤ mm na tg sh en dw st (f' + 1) s := by
      rw [mm_dw he hd]; exact mk_ge (f := fun k => vl na tg sh en dw st s k f') (na s) k hk
    have b6 := Int.mul_le_mul_of_nonneg_right b5 (Int.le_of_lt (pow60_pos (l - f')))
    have b7 := h3 (f' + 1) (by omega)
    rw [show l + 1 - (f' + 1) = l - f' by omega] at b7
    have b8 : sh s k * w' = w := by omega
    refine ⟨b8, ?_⟩
    have c4 : ¬ f < f' := by
      intro z
      have := Int.mul_lt_mul_of_pos_left (c3 f z) (show 0 < sh s k by omega)
      omega
    have c5 : ¬ f' + 1 < f + 1 := by
      intro z
      have := a3 (f' + 1) z
      rw [show l + 1 - (f' + 1) = l - f' by omega] at this
      omega
    omega
