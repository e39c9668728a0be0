/-! ===== lumping: partitions by their least members ===== -/
def lst (n : Nat) (E : Nat → Nat → Prop) (c : Nat → Nat) : Prop := ∀ i, i < n → E i (c i) ∧ c i ≤ i ∧ ∀ k, k < c i → ¬ E i k
def eqv (n : Nat) (E : Nat → Nat → Prop) : Prop := (∀ i, i < n → E i i) ∧ (∀ i j, i < n → j < n → E i j → E j i) ∧ ∀ i j k, i < n → j < n → k < n → E i j → E j k → E i k
theorem least_ex {P : Nat → Prop} : ∀ i, P i → ∃ k, k ≤ i ∧ P k ∧ ∀ j, j < k → ¬ P j := by
  intro i
  induction i using Nat.strongRecOn with
  | ind i ih =>
    intro h
    by_cases e : ∃ j, j < i ∧ P j
    · obtain ⟨j, j1, j2⟩ := e
      obtain ⟨k, k1, k2, k3⟩ := ih j j1 j2
      exact ⟨k, by omega, k2, k3⟩
    · exact ⟨i, Nat.le_refl i, h, fun j hj hp => e ⟨j, hj, hp⟩⟩
theorem lst_ex {n : Nat} {E : Nat → Nat → Prop} (h : eqv n E) : ∃ c, lst n E c := by
  have h1 : ∀ i, ∃ k, i < n → E i k ∧ k ≤ i ∧ ∀ j, j < k → ¬ E i j := by
    intro i
    by_cases e : i < n
    · obtain ⟨k, k1, k2, k3⟩ := least_ex (P := fun k => E i k) i (h.1 i e)
      exact ⟨k, fun _ => ⟨k2, k1, k3⟩⟩
    · exact ⟨0, fun z => absurd z e⟩
  exact ⟨fun i => Classical.choose (h1 i), fun i hi => Classical.choose_spec (h1 i) hi⟩
theorem lst_iff {n : Nat} {E : Nat → Nat → Prop} (h : eqv n E) {c : Nat → Nat} (hc : lst n E c) {i j : Nat} (hi : i < n) (hj : j < n) : c i = c j ↔ E i j := by
  obtain ⟨a1, a2, a3⟩ := hc i hi
  obtain ⟨b1, b2, b3⟩ := hc j hj
  constructor
  · intro e
    rw [← e] at b1
    exact h.2.2 i (c i) j hi (by omega) hj a1 (h.2.1 j (c i) hj (by omega) b1)
  · intro e
    rcases Nat.lt_trichotomy (c i) (c j) with z | z | z
    · exact absurd (h.2.2 j i (c i) hj hi (by omega) (h.2.1 i j hi hj e) a1) (b3 (c i) z)
    · exact z
    · exact absurd (h.2.2 i j (c j) hi hj (by omega) e b1) (a3 (c j) z)
theorem lst_can {n : Nat} {E : Nat → Nat → Prop} (h : eqv n E) {c : Nat → Nat} (hc : lst n E c) {i : Nat} (hi : i < n) : c i ≤ i ∧ c (c i) = c i := by
  obtain ⟨a1, a2, a3⟩ := hc i hi
  exact ⟨a2, ((lst_iff h hc hi (show c i < n by omega)).mpr a1).symm⟩
theorem lst_eq {n : Nat} {E E' : Nat → Nat → Prop} {c c' : Nat → Nat} (hE : ∀ i j, i < n → j < n → (E i j ↔ E' i j)) (hc : lst n E c) (hc' : lst n E' c') : ∀ i, i < n → c i = c' i := by
  intro i hi
  obtain ⟨a1, a2, a3⟩ := hc i hi
  obtain ⟨b1, b2, b3⟩ := hc' i hi
  rcases Nat.lt_trichotomy (c i) (c' i) with z | z | z
  · exact absurd ((hE i (c i) hi (by omega)).mp a1) (b3 (c i) z)
  · exact z
  · exact absurd ((hE i (c' i) hi (by omega)).mpr b1) (a3 (c' i) z)
/-- shares into the class m -/
def fl (na : Nat → Nat) (tg : Nat → Nat → Nat) (sh : Nat → Nat → Int) (c : Nat → Nat) (i m : Nat) : Int := sm (na i) (fun k => if c (tg i k) = m then sh i k else 0)
def alk (na : Nat → Nat) (tg : Nat → Nat → Nat) (sh : Nat → Nat → Int) (c : Nat → Nat) (i j : Nat) : Prop := c i = c j ∧ ∀ m, fl na tg sh c i m = fl na tg sh c j m
theorem alk_eqv (n : Nat) (na : Nat → Nat) (tg : Nat → Nat → Nat) (sh : Nat → Nat → Int) (c : Nat → Nat) : eqv n (alk na tg sh c) := ⟨fun i _ => ⟨rfl, fun _ => rfl⟩, fun i j _ _ h => ⟨h.1.symm, fun m => (h.2 m).symm⟩, fun i j k _ _ _ h h' => ⟨h.1.trans h'.1, fun m => (h.2 m).trans (h'.2 m)⟩⟩
theorem alk_congr {n : Nat} {na : Nat → Nat} {tg : Nat → Nat → Nat} {sh : Nat → Nat → Int} {c c' : Nat → Nat} (ht : ∀ s, s < n → ∀ k, k < na s → tg s k < n) (h : ∀ i, i < n → c i = c' i) : ∀ i j, i < n → j < n → (alk na tg sh c i j ↔ alk na tg sh c' i j) := by
  intro i j hi hj
  have hf : ∀ i, i < n → ∀ m, fl na tg sh c i m = fl na tg sh c' i m := by
    intro i hi m
    unfold fl
    refine sm_eq _ (fun k hk => ?_)
    rw [h _ (ht i hi k hk)]
  unfold alk
  rw [h i hi, h j hj]
  constructor
  · rintro ⟨a1, a2⟩
    exact ⟨a1, fun m => by rw [← hf i hi m, ← hf j hj m]; exact a2 m⟩
  · rintro ⟨a1, a2⟩
    exact ⟨a1, fun m => by rw [hf i hi m, hf j hj m]; exact a2 m⟩
def kdE (kd : Nat → Nat) (i j : Nat) : Prop := kd i = kd j
theorem kd_eqv (n : Nat) (kd : Nat → Nat) : eqv n (kdE kd) := ⟨fun _ _ => rfl, fun _ _ _ _ h => Eq.symm h, fun _ _ _ _ _ _ h h' => Eq.trans h h'⟩
/-- behind t rounds that changed something -/
def ch (n : Nat) (na : Nat → Nat) (tg : Nat → Nat → Nat) (sh : Nat → Nat → Int) (kd : Nat → Nat) : Nat → (Nat → Nat) → Prop
  | 0, c => lst n (kdE kd) c
  | t + 1, c => ∃ c', ch n na tg sh kd t c' ∧ lst n (alk na tg sh c') c ∧ ¬ ∀ i, i < n → c' i = c i
/-- the classes -/
def fin_ (n : Nat) (na : Nat → Nat) (tg : Nat → Nat → Nat) (sh : Nat → Nat → Int) (kd : Nat → Nat) (c : Nat → Nat) : Prop := ∃ t c', ch n na tg sh kd t c' ∧ lst n (alk na tg sh c') c ∧ ∀ i, i < n → c' i = c i
theorem ch_one {n : Nat} {na : Nat → Nat} {tg : Nat → Nat → Nat} {sh : Nat → Nat → Int} {kd : Nat → Nat} (ht : ∀ s, s < n → ∀ k, k < na s → tg s k < n) : ∀ t c c', ch n na tg sh kd t c → ch n na tg sh kd t c' → ∀ i, i < n → c i = c' i := by
  intro t
  induction t with
  | zero => intro c c' h h'; exact lst_eq (fun _ _ _ _ => Iff.rfl) h h'
  | succ t ih =>
    rintro c c' ⟨d, h1, h2, -⟩ ⟨d', h1', h2', -⟩
    exact lst_eq (alk_congr ht (ih d d' h1 h1')) h2 h2'
theorem ch_no {n : Nat} {na : Nat → Nat} {tg : Nat → Nat → Nat} {sh : Nat → Nat → Int} {kd : Nat → Nat} (ht : ∀ s, s < n → ∀ k, k < na s → tg s k < n) {t : Nat} {c c' : Nat → Nat} (h : ch n na tg sh kd t c') (h2 : lst n (alk na tg sh c') c) (h3 : ∀ i, i < n → c' i = c i) : ∀ d e, ¬ ch n na tg sh kd (t + 1 + d) e := by
  intro d
  induction d with
  | zero =>
    rintro e ⟨x, x1, x2, x3⟩
    apply x3
    have a1 := ch_one ht t x c' x1 h
    have a2 := lst_eq (alk_congr ht a1) x2 h2
    intro i hi
    rw [a1 i hi, h3 i hi, a2 i hi]
  | succ d ih =>
    rintro e ⟨x, x1, -⟩
    exact ih x x1
theorem fin_one {n : Nat} {na : Nat → Nat} {tg : Nat → Nat → Nat} {sh : Nat → Nat → Int} {kd : Nat → Nat} (ht : ∀ s, s < n → ∀ k, k < na s → tg s k < n) {c e : Nat → Nat} (h : fin_ n na tg sh kd c) (h' : fin_ n na tg sh kd e) : ∀ i, i < n → c i = e i := by
  obtain ⟨t, c', a1, a2, a3⟩ := h
  obtain ⟨s, e', b1, b2, b3⟩ := h'
  rcases Nat.lt_trichotomy t s with z | z | z
  · have := ch_no ht a1 a2 a3 (s - t - 1) e'
    rw [show t + 1 + (s - t - 1) = s by omega] at this
    exact absurd b1 this
  · subst z
    exact lst_eq (alk_congr ht (ch_one ht t c' e' a1 b1)) a2 b2
  · have := ch_no ht b1 b2 b3 (t - s - 1) c'
    rw [show s + 1 + (t - s - 1) = t by omega] at this
    exact absurd a1 this
def ld (c : Nat → Nat) (j : Nat) : Bool := decide (c j = j)
theorem ld_t {c : Nat → Nat} {j : Nat} : ld c j = true ↔ c j = j := by simp [ld]
/-- how many leaders below -/
def rk_ (c : Nat → Nat) (m : Nat) : Nat := cn (ld c) m
/-- canonical, and finer than the kinds -/
def can (n : Nat) (kd c : Nat → Nat) : Prop := (∀ i, i < n → c i ≤ i ∧ c (c i) = c i) ∧ ∀ i j, i < n → j < n → c i = c j → kd i = kd j
theorem ch_can {n : Nat} {na : Nat → Nat} {tg : Nat → Nat → Nat} {sh : Nat → Nat → Int} {kd : Nat → Nat} : ∀ t c, ch n na tg sh kd t c → can n kd c := by
  intro t
  induction t with
  | zero => intro c h; exact ⟨fun i hi => lst_can (kd_eqv n kd) h hi, fun i j hi hj e => (lst_iff (kd_eqv n kd) h hi hj).mp e⟩
  | succ t ih =>
    rintro c ⟨c', h1, h2, -⟩
    refine ⟨fun i hi => lst_can (alk_eqv n na tg sh c') h2 hi, fun i j hi hj e => ?_⟩
    exact (ih c' h1).2 i j hi hj ((lst_iff (alk_eqv n na tg sh c') h2 hi hj).mp e).1
theorem rk_inj {n : Nat} {kd c : Nat → Nat} (h : can n kd c) {i j : Nat} (hi : i < n) (hj : j < n) : rk_ c (c i) = rk_ c (c j) ↔ c i = c j := by
  constructor
  · intro e
    exact cn_inj (ld c) (ld_t.mpr (h.1 i hi).2) (ld_t.mpr (h.1 j hj).2) e
  · intro e; rw [e]
theorem rk_lt {n : Nat} {kd c : Nat → Nat} (h : can n kd c) {i : Nat} (hi : i < n) : rk_ c (c i) < rk_ c n := cn_lt (ld c) (by have := (h.1 i hi).1; omega) (ld_t.mpr (h.1 i hi).2)
theorem rk_le (c : Nat → Nat) (n : Nat) : rk_ c n ≤ n := cn_le (ld c) n
/-- the next partition: leaders stay leaders; as many only if it is the same -/
theorem nx_ld {n : Nat} {na : Nat → Nat} {tg : Nat → Nat → Nat} {sh : Nat → Nat → Int} {kd c c' : Nat → Nat} (h : can n kd c) (h' : lst n (alk na tg sh c) c') {i : Nat} (hi : i < n) (hl : c i = i) : c' i = i := by
  obtain ⟨a1, a2, a3⟩ := h' i hi
  have b1 := (h.1 (c' i) (by omega)).1
  have b2 := a1.1
  omega
theorem nx_rk {n : Nat} {na : Nat → Nat} {tg : Nat → Nat → Nat} {sh : Nat → Nat → Int} {kd c c' : Nat → Nat} (h : can n kd c) (h' : lst n (alk na tg sh c) c') : rk_ c n ≤ rk_ c' n ∧ (rk_ c n = rk_ c' n ↔ ∀ i, i < n → c i = c' i) := by
  have hs : ∀ s, s < n → ld c s = true → ld c' s = true := fun s hs hl => ld_t.mpr (nx_ld h h' hs (ld_t.mp hl))
  refine ⟨cn_sub n hs, fun e i hi => ?_, fun e => ?_⟩
  · obtain ⟨a1, a2, a3⟩ := h' i hi
    have hl' : ld c' (c' i) = true := ld_t.mpr (lst_can (alk_eqv n na tg sh c) h' hi).2
    have hl : ld c (c' i) = true := by
      apply Classical.byContradiction
      intro z
      have := cn_ssub n hs (c' i) (by omega) hl' z
      unfold rk_ at e
      omega
    have b1 := ld_t.mp hl
    rw [← a1.1] at b1
    exact b1
  · unfold rk_
    have : ∀ m, m ≤ n → cn (ld c) m = cn (ld c') m := by
      intro m
      induction m with
      | zero => intro _; rfl
      | succ m ih =>
        intro hm
        rw [cn_s, cn_s, ih (by omega)]
        have : ld c m = ld c' m := by unfold ld; rw [e m (by omega)]
        rw [this]
    exact this n (Nat.le_refl n)
theorem nx_at {n : Nat} {na : Nat → Nat} {tg : Nat → Nat → Nat} {sh : Nat → Nat → Int} {c c' : Nat → Nat} (h' : lst n (alk na tg sh c) c') {i l : Nat} (hi : i < n) (hl : l < n) (hll : c' l = l) (ha : alk na tg sh c i l) : c' i = l := by
  have := (lst_iff (alk_eqv n na tg sh c) h' hi hl).mpr ha
  omega
/-- flows by labels -/
def FL (na : Nat → Nat) (tg : Nat → Nat → Nat) (sh : Nat → Nat → Int) (lab : Nat → Nat) (i b : Nat) : Int := sm (na i) (fun k => if lab (tg i k) = b then sh i k else 0)
theorem FL_alk {n : Nat} {na : Nat → Nat} {tg : Nat → Nat → Nat} {sh : Nat → Nat → Int} {kd c lab : Nat → Nat} (ht : ∀ s, s < n → ∀ k, k < na s → tg s k < n) (h : can n kd c) (hl : ∀ t, t < n → lab t = rk_ c (c t)) {i j : Nat} (hi : i < n) (hj : j < n) (hij : lab i = lab j) : (∀ b, FL na tg sh lab i b = FL na tg sh lab j b) ↔ alk na tg sh c i j := by
  have hc : c i = c j := (rk_inj h hi hj).mp (by rw [← hl i hi, ← hl j hj]; exact hij)
  have key : ∀ i, i < n → ∀ m, m < n → c m = m → FL na tg sh lab i (rk_ c m) = fl na tg sh c i m := by
    intro i hi m hm hcm
    unfold FL fl
    refine sm_eq _ (fun k hk => ?_)
    have hk2 := ht i hi k hk
    rw [hl _ hk2]
    have : (rk_ c (c (tg i k)) = rk_ c m) = (c (tg i k) = m) := by
      refine propext ⟨fun e => ?_, fun e => by rw [e]⟩
      have := (rk_inj h hk2 hm).mp (by rw [hcm]; exact e)
      omega
    simp only [this]
  have zero : ∀ i, i < n → ∀ m, ¬ (m < n ∧ c m = m) → fl na tg sh c i m = 0 := by
    intro i hi m hm
    unfold fl
    refine (sm_eq _ (fun k hk => ?_)).trans (sm_zero (na i))
    rw [if_neg]
    intro e
    apply hm
    have hk2 := ht i hi k hk
    obtain ⟨q1, q2⟩ := h.1 _ hk2
    rw [e] at q1 q2
    exact ⟨by omega, q2⟩
  constructor
  · intro hb
    refine ⟨hc, fun m => ?_⟩
    by_cases e : m < n ∧ c m = m
    · rw [← key i hi m e.1 e.2, ← key j hj m e.1 e.2]; exact hb _
    · rw [zero i hi m e, zero j hj m e]
  · rintro ⟨-, hm⟩ b
    by_cases e : ∃ m, m < n ∧ c m = m ∧ rk_ c m = b
    · obtain ⟨m, m1, m2, m3⟩ := e
      rw [← m3, key i hi m m1 m2, key j hj m m1 m2]
      exact hm m
    · have z : ∀ i, i < n → FL na tg sh lab i b = 0 := by
        intro i hi
        unfold FL
        refine (sm_eq _ (fun k hk => ?_)).trans (sm_zero (na i))
        rw [if_neg]
        intro e2
        apply e
        have hk2 := ht i hi k hk
        obtain ⟨q1, q2⟩ := h.1 _ hk2
        exact ⟨c (tg i k), by omega, q2, by rw [← hl _ hk2]; exact e2⟩
      rw [z i hi, z j hj]
