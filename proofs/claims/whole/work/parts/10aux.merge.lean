/-! ===== rows laid over rows, by their addresses ===== -/
def mj_lk {α : Type} (k : List (Nat × (Nat → α))) (a : Nat) (f : Nat → α) : Nat → α := match k with
  | [] => f
  | q :: k => match Nat.beq a q.1 with
    | true => q.2
    | false => mj_lk k a f
def mj_mg {α : Type} (l k : List (Nat × (Nat → α))) : List (Nat × (Nat → α)) := match l with
  | [] => []
  | q :: l => (q.1, mj_lk k q.1 q.2) :: mj_mg l k
def mj_ky {α : Type} (l : List (Nat × (Nat → α))) (a : Nat) : Bool := match l with
  | [] => false
  | q :: l => match Nat.beq a q.1 with
    | true => true
    | false => mj_ky l a
def mj_sb {α : Type} (l k : List (Nat × (Nat → α))) : Bool := match k with
  | [] => true
  | q :: k => match mj_ky l q.1 with
    | true => mj_sb l k
    | false => false
theorem mj_rows_lk {α : Type} (J : Nat → Nat → α) (k : List (Nat × (Nat → α))) (a : Nat) : mj_rows J k a = mj_lk k a (J a) := by
  induction k with
  | nil => rfl
  | cons q k ih =>
    by_cases h : a = q.1
    · have h2 : Nat.beq a q.1 = true := by
        cases h3 : Nat.beq a q.1 with
        | true => rfl
        | false => exact absurd h (Nat.ne_of_beq_eq_false h3)
      simp only [mj_rows, mj_lk, h2, if_pos h]
    · have h2 : Nat.beq a q.1 = false := by
        cases h3 : Nat.beq a q.1 with
        | false => rfl
        | true => exact absurd (Nat.eq_of_beq_eq_true h3) h
      simp only [mj_rows, mj_lk, h2, if_neg h, ih]
theorem mj_lk_no {α : Type} (k : List (Nat × (Nat → α))) (a : Nat) (h : mj_ky k a = false) (f : Nat → α) : mj_lk k a f = f := by
  induction k with
  | nil => rfl
  | cons q k ih =>
    cases h2 : Nat.beq a q.1 with
    | true => simp [mj_ky, h2] at h
    | false =>
      simp only [mj_ky, h2] at h
      simp only [mj_lk, h2, ih h]
theorem mj_lk_in {α : Type} (k : List (Nat × (Nat → α))) (a : Nat) (h : mj_ky k a = true) (f g : Nat → α) : mj_lk k a f = mj_lk k a g := by
  induction k with
  | nil => simp [mj_ky] at h
  | cons q k ih =>
    cases h2 : Nat.beq a q.1 with
    | true => simp only [mj_lk, h2]
    | false =>
      simp only [mj_ky, h2] at h
      simp only [mj_lk, h2, ih h]
theorem mj_sb_in {α : Type} (l k : List (Nat × (Nat → α))) (h : mj_sb l k = true) (a : Nat) (ha : mj_ky k a = true) : mj_ky l a = true := by
  induction k with
  | nil => simp [mj_ky] at ha
  | cons q k ih =>
    cases h3 : mj_ky l q.1 with
    | false => simp [mj_sb, h3] at h
    | true =>
      simp only [mj_sb, h3] at h
      cases h2 : Nat.beq a q.1 with
      | true => rw [Nat.eq_of_beq_eq_true h2]; exact h3
      | false =>
        simp only [mj_ky, h2] at ha
        exact ih h ha
theorem mj_mg_at {α : Type} (l k : List (Nat × (Nat → α))) (a : Nat) (f : Nat → α) (h : mj_ky l a = true) : mj_lk (mj_mg l k) a f = mj_lk k a (mj_lk l a f) := by
  induction l with
  | nil => simp [mj_ky] at h
  | cons q l ih =>
    cases h2 : Nat.beq a q.1 with
    | true =>
      have e := Nat.eq_of_beq_eq_true h2
      simp only [mj_mg, mj_lk, h2]
      rw [e]
    | false =>
      simp only [mj_ky, h2] at h
      simp only [mj_mg, mj_lk, h2, ih h]
theorem mj_mg_no {α : Type} (l k : List (Nat × (Nat → α))) (a : Nat) (f : Nat → α) (h : mj_ky l a = false) : mj_lk (mj_mg l k) a f = f := by
  induction l with
  | nil => rfl
  | cons q l ih =>
    cases h2 : Nat.beq a q.1 with
    | true => simp [mj_ky, h2] at h
    | false =>
      simp only [mj_ky, h2] at h
      simp only [mj_mg, mj_lk, h2, ih h]
theorem mj_rq {α : Type} {I : Nat → Nat → α} {l k l' : List (Nat × (Nat → α))} (h1 : mj_sb l k = true) (h2 : mj_mg l k = l') : mj_rows (mj_rows I l) k = mj_rows I l' := by
  subst h2
  funext a
  rw [mj_rows_lk, mj_rows_lk, mj_rows_lk]
  cases h3 : mj_ky l a with
  | true => rw [mj_mg_at l k a (I a) h3]
  | false =>
    rw [mj_mg_no l k a (I a) h3, mj_lk_no l a h3]
    apply mj_lk_no
    cases h4 : mj_ky k a with
    | false => rfl
    | true => exact absurd (mj_sb_in l k h1 a h4) (by rw [h3]; simp)
