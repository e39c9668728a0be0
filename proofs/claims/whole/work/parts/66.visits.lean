/-! ===== the equations of the visits ===== -/
def cn (U : Nat → Bool) : Nat → Nat
  | 0 => 0
  | i + 1 => cn U i + if U i then 1 else 0
theorem cn_s (U : Nat → Bool) (i : Nat) : cn U (i + 1) = cn U i + if U i then 1 else 0 := rfl
theorem cn_le (U : Nat → Bool) : ∀ i, cn U i ≤ i := by
  intro i
  induction i with
  | zero => exact Nat.le_refl 0
  | succ i ih => rw [cn_s]; split <;> omega
theorem cn_up (U : Nat → Bool) (i : Nat) : ∀ d, cn U i ≤ cn U (i + d) := by
  intro d
  induction d with
  | zero => exact Nat.le_refl _
  | succ d ih =>
    have : cn U (i + (d + 1)) = cn U (i + d) + if U (i + d) then 1 else 0 := rfl
    rw [this]; split <;> omega
theorem cn_mono (U : Nat → Bool) {i j : Nat} (h : i ≤ j) : cn U i ≤ cn U j := by
  have := cn_up U i (j - i)
  rwa [show i + (j - i) = j by omega] at this
theorem cn_lt (U : Nat → Bool) {i j : Nat} (h : i < j) (hU : U i = true) : cn U i < cn U j := by
  have h1 := cn_mono U (show i + 1 ≤ j from h)
  rw [cn_s, if_pos hU] at h1
  omega
theorem cn_inv (U : Nat → Bool) : ∀ n b, b < cn U n → ∃ i, i < n ∧ U i = true ∧ cn U i = b := by
  intro n
  induction n with
  | zero => intro b h; exact absurd h (Nat.not_lt_zero b)
  | succ n ih =>
    intro b h
    rw [cn_s] at h
    by_cases e : b < cn U n
    · obtain ⟨i, h1, h2, h3⟩ := ih b e
      exact ⟨i, by omega, h2, h3⟩
    · by_cases e2 : U n = true
      · rw [if_pos e2] at h
        exact ⟨n, by omega, e2, by omega⟩
      · rw [if_neg e2] at h
        omega
theorem cn_inj (U : Nat → Bool) {i j : Nat} (hi : U i = true) (hj : U j = true) (h : cn U i = cn U j) : i = j := by
  rcases Nat.lt_trichotomy i j with z | z | z
  · have := cn_lt U z hi; omega
  · exact z
  · have := cn_lt U z hj; omega
theorem sm_cn (U : Nat → Bool) (u : Nat → Nat) (g : Nat → Int) : ∀ n, (∀ i, i < n → U i = true → u (cn U i) = i) → sm (cn U n) (fun b => g (u b)) = sm n (fun i => if U i then g i else 0) := by
  intro n
  induction n with
  | zero => intro _; rfl
  | succ n ih =>
    intro h
    rw [cn_s, sm_s]
    have h1 := ih (fun i hi => h i (by omega))
    by_cases e : U n = true
    · rw [if_pos e, if_pos e, sm_s, h1, h n (by omega) e]
    · rw [if_neg e, if_neg e, Nat.add_zero, Int.add_zero, h1]
theorem sm_sub (f g : Nat → Int) : ∀ n, sm n (fun i => f i - g i) = sm n f - sm n g := by
  intro n
  induction n with
  | zero => rfl
  | succ n ih => rw [sm_s, sm_s, sm_s, ih]; omega
def mx (na : Nat → Nat) (tg : Nat → Nat → Nat) (sh : Nat → Nat → Int) (u : Nat → Nat) (m a b : Nat) : Int := if b < m then (if a = b then 1 else 0) - sm (na (u b)) (fun k => if tg (u b) k = u a then 715408453 * sh (u b) k else 0) else (if u a = 0 then 1 else 0)
def slv (n : Nat) (na : Nat → Nat) (tg : Nat → Nat → Nat) (sh : Nat → Nat → Int) (S : Nat → Bool) (e : Int) (h : Nat → Int) : Prop := ∀ t, t < n → S t = true → cg (h t) ((if t = 0 then e else 0) + inf n na tg sh (fun i => if S i then h i else 0) t)
/-- which states are unknowns -/
def unk (n : Nat) (na : Nat → Nat) (S U : Nat → Bool) (u : Nat → Nat) : Prop := (∀ i, i < n → U i = true → u (cn U i) = i) ∧ (∀ i, i < n → U i = true → S i = true) ∧ ∀ i, i < n → S i = true → 0 < na i → U i = true
theorem row_eq {n : Nat} {na : Nat → Nat} {tg : Nat → Nat → Nat} {sh : Nat → Nat → Int} {S U : Nat → Bool} {u : Nat → Nat} (hu : unk n na S U u) {M : Nat → Nat → Int} (hM : ∀ a b, a < cn U n → b < cn U n + 1 → cg (M a b) (mx na tg sh u (cn U n) a b)) (H : Nat → Int) (xm : Int) {t : Nat} (ht : t < n) (hUt : U t = true) :
    cg (sm (cn U n) (fun b => M (cn U t) b * H (u b)) + M (cn U t) (cn U n) * xm) (H t - inf n na tg sh (fun i => if S i then H i else 0) t + (if t = 0 then xm else 0)) := by
  obtain ⟨h1, h2, h3⟩ := hu
  have hlt := cn_lt U ht hUt
  have hut := h1 t ht hUt
  have a1 : cg (sm (cn U n) (fun b => M (cn U t) b * H (u b))) (sm (cn U n) (fun b => (fun i => ((if i = t then 1 else 0) - sm (na i) (fun k => if tg i k = t then 715408453 * sh i k else 0)) * H i) (u b))) := by
    refine sm_cg _ (fun b hb => cg_mul ?_ (cg_rf _))
    obtain ⟨i, i1, i2, i3⟩ := cn_inv U n b hb
    have hi := h1 i i1 i2
    rw [i3] at hi
    have h4 := hM (cn U t) b hlt (by omega)
    unfold mx at h4
    rw [if_pos hb, hut, hi] at h4
    rw [hi]
    have e : (cn U t = b) = (i = t) := by
      refine propext ⟨fun z => ?_, fun z => ?_⟩
      · exact cn_inj U i2 hUt (by omega)
      · rw [← z]; exact i3
    simp only [e] at h4
    exact h4
  have hcn := sm_cn U u (fun i => ((if i = t then 1 else 0) - sm (na i) (fun k => if tg i k = t then 715408453 * sh i k else 0)) * H i) n h1
  dsimp only at a1 hcn
  rw [hcn] at a1
  have a2 : sm n (fun i => if U i then ((if i = t then 1 else 0) - sm (na i) (fun k => if tg i k = t then 715408453 * sh i k else 0)) * H i else 0) = sm n (fun i => (if i = t then H t else 0) - sm (na i) (fun k => if tg i k = t then (if S i then H i else 0) * 715408453 * sh i k else 0)) := by
    refine sm_eq n (fun i hi => ?_)
    by_cases e : U i = true
    · rw [if_pos e, if_pos (h2 i hi e)]
      have e1 : sm (na i) (fun k => if tg i k = t then H i * 715408453 * sh i k else 0) = H i * sm (na i) (fun k => if tg i k = t then 715408453 * sh i k else 0) := by
        rw [← sm_mul]
        refine sm_eq _ (fun k _ => ?_)
        split
        · rw [Int.mul_assoc]
        · rw [Int.mul_zero]
      rw [e1, Int.sub_mul, Int.mul_comm (sm (na i) _)]
      by_cases e2 : i = t
      · rw [if_pos e2, if_pos e2, e2, Int.one_mul]
      · rw [if_neg e2, if_neg e2, Int.zero_mul]
    · rw [if_neg e, if_neg (fun z => e (by rw [z]; exact hUt))]
      by_cases e2 : S i = true
      · have : na i = 0 := by
          rcases Nat.eq_zero_or_pos (na i) with z | z
          · exact z
          · exact absurd (h3 i hi e2 z) e
        rw [this]
        rfl
      · have : sm (na i) (fun k => if tg i k = t then (if S i then H i else 0) * 715408453 * sh i k else 0) = 0 := by
          refine (sm_eq _ (fun k _ => ?_)).trans (sm_zero (na i))
          rw [if_neg e2]
          split
          · rw [Int.zero_mul, Int.zero_mul]
          · rfl
        rw [this]
        rfl
  rw [a2, sm_sub, sm_pt, if_pos ht] at a1
  have a3 := hM (cn U t) (cn U n) hlt (by omega)
  unfold mx at a3
  rw [if_neg (Nat.lt_irrefl _), hut] at a3
  have a4 : cg (M (cn U t) (cn U n) * xm) (if t = 0 then xm else 0) := by
    refine cg_tr (cg_mul a3 (cg_rf xm)) ?_
    split
    · rw [Int.one_mul]; exact cg_rf _
    · rw [Int.zero_mul]; exact cg_rf _
  exact cg_add a1 a4
theorem slv_sat {n : Nat} {na : Nat → Nat} {tg : Nat → Nat → Nat} {sh : Nat → Nat → Int} {S U : Nat → Bool} {u : Nat → Nat} (hu : unk n na S U u) {M : Nat → Nat → Int} (hM : ∀ a b, a < cn U n → b < cn U n + 1 → cg (M a b) (mx na tg sh u (cn U n) a b)) {e : Int} {H : Nat → Int} (h : slv n na tg sh S e H) : sat (cn U n) (cn U n + 1) M (fun b => if b < cn U n then H (u b) else -e) := by
  intro a ha
  obtain ⟨t, ht, hUt, rfl⟩ := cn_inv U n a ha
  have h1 := row_eq hu hM H (-e) ht hUt
  have h2 := h t ht (hu.2.1 t ht hUt)
  unfold rs
  rw [sm_s]
  dsimp only
  rw [if_neg (Nat.lt_irrefl _)]
  have e1 : sm (cn U n) (fun k => M (cn U t) k * (if k < cn U n then H (u k) else -e)) = sm (cn U n) (fun b => M (cn U t) b * H (u b)) := by
    refine sm_eq _ (fun k hk => ?_)
    rw [if_pos hk]
  rw [e1]
  refine cg_tr h1 ?_
  by_cases e0 : t = 0
  · rw [if_pos e0] at h2 ⊢
    unfold cg at *
    omega
  · rw [if_neg e0] at h2 ⊢
    unfold cg at *
    omega
/-- states' numbers from the unknowns' -/
def vH (n : Nat) (na : Nat → Nat) (tg : Nat → Nat → Nat) (sh : Nat → Nat → Int) (U : Nat → Bool) (x : Nat → Int) (e : Int) (t : Nat) : Int := if U t then x (cn U t) else (if t = 0 then e else 0) + inf n na tg sh (fun i => if U i then x (cn U i) else 0) t
theorem vH_inf {n : Nat} {na : Nat → Nat} {tg : Nat → Nat → Nat} {sh : Nat → Nat → Int} {S U : Nat → Bool} {u : Nat → Nat} (hu : unk n na S U u) (x : Nat → Int) (e : Int) (t : Nat) : cg (inf n na tg sh (fun i => if S i then vH n na tg sh U x e i else 0) t) (inf n na tg sh (fun i => if U i then x (cn U i) else 0) t) := by
  refine inf_cg (fun i hi hn => ?_) t
  by_cases e1 : U i = true
  · rw [if_pos e1, if_pos (hu.2.1 i hi e1)]
    unfold vH
    rw [if_pos e1]
    exact cg_rf _
  · rw [if_neg e1, if_neg (fun z => e1 (hu.2.2 i hi z hn))]
    exact cg_rf _
theorem sat_slv {n : Nat} {na : Nat → Nat} {tg : Nat → Nat → Nat} {sh : Nat → Nat → Int} {S U : Nat → Bool} {u : Nat → Nat} (hu : unk n na S U u) {M : Nat → Nat → Int} (hM : ∀ a b, a < cn U n → b < cn U n + 1 → cg (M a b) (mx na tg sh u (cn U n) a b)) {x : Nat → Int} (h : sat (cn U n) (cn U n + 1) M x) : slv n na tg sh S (-(x (cn U n))) (vH n na tg sh U x (-(x (cn U n)))) := by
  intro t ht hSt
  have h0 := vH_inf (tg := tg) (sh := sh) hu x (-(x (cn U n))) t
  by_cases e : U t = true
  · have h1 := row_eq hu hM (vH n na tg sh U x (-(x (cn U n)))) (x (cn U n)) ht e
    have h2 := h (cn U t) (cn_lt U ht e)
    unfold rs at h2
    rw [sm_s] at h2
    have e1 : sm (cn U n) (fun b => M (cn U t) b * vH n na tg sh U x (-(x (cn U n))) (u b)) = sm (cn U n) (fun k => M (cn U t) k * x k) := by
      refine sm_eq _ (fun b hb => ?_)
      obtain ⟨i, i1, i2, i3⟩ := cn_inv U n b hb
      have hi := hu.1 i i1 i2
      rw [i3] at hi
      rw [hi]
      unfold vH
      rw [if_pos i2, i3]
    rw [e1] at h1
    by_cases e0 : t = 0
    · rw [if_pos e0] at h1 ⊢
      unfold cg at *
      omega
    · rw [if_neg e0] at h1 ⊢
      unfold cg at *
      omega
  · have h3 : vH n na tg sh U x (-(x (cn U n))) t = (if t = 0 then -(x (cn U n)) else 0) + inf n na tg sh (fun i => if U i then x (cn U i) else 0) t := by
      unfold vH
      rw [if_neg e]
    have h4 : cg (vH n na tg sh U x (-(x (cn U n))) t) ((if t = 0 then -(x (cn U n)) else 0) + inf n na tg sh (fun i => if U i then x (cn U i) else 0) t) := by rw [h3]; exact cg_rf _
    exact cg_tr h4 (cg_add (cg_rf _) (cg_sy h0))
theorem slv_cg {n : Nat} {na : Nat → Nat} {tg : Nat → Nat → Nat} {sh : Nat → Nat → Int} {S : Nat → Bool} {e : Int} {h g : Nat → Int} (hg : ∀ t, t < n → S t = true → cg (h t) (g t)) (hh : slv n na tg sh S e h) : slv n na tg sh S e g := by
  intro t ht hS
  refine cg_tr (cg_sy (hg t ht hS)) (cg_tr (hh t ht hS) (cg_add (cg_rf _) (inf_cg (fun i hi _ => ?_) t)))
  by_cases e1 : S i = true
  · rw [if_pos e1, if_pos e1]; exact hg i hi e1
  · rw [if_neg e1, if_neg e1]; exact cg_rf _
/-- more than one solution -/
def kr (n : Nat) (na : Nat → Nat) (tg : Nat → Nat → Nat) (sh : Nat → Nat → Int) (S : Nat → Bool) : Prop := ∃ H : Nat → Int, slv n na tg sh S 0 H ∧ ∃ t, t < n ∧ S t = true ∧ ¬ cg (H t) 0
theorem kr_of {n : Nat} {na : Nat → Nat} {tg : Nat → Nat → Nat} {sh : Nat → Nat → Int} {S U : Nat → Bool} {u : Nat → Nat} (hu : unk n na S U u) {M : Nat → Nat → Int} (hM : ∀ a b, a < cn U n → b < cn U n + 1 → cg (M a b) (mx na tg sh u (cn U n) a b)) {x : Nat → Int} {c : Nat} (hc : c < cn U n) (h0 : x (cn U n) = 0) (h1 : x c = 1) (h : sat (cn U n) (cn U n + 1) M x) : kr n na tg sh S := by
  obtain ⟨t, ht, hUt, h2⟩ := cn_inv U n c hc
  have h3 := sat_slv hu hM h
  rw [h0] at h3
  refine ⟨_, h3, t, ht, hu.2.1 t ht hUt, ?_⟩
  unfold vH
  rw [if_pos hUt, h2, h1]
  exact cg_n1
theorem nk_of {n : Nat} {na : Nat → Nat} {tg : Nat → Nat → Nat} {sh : Nat → Nat → Int} {S U : Nat → Bool} {u : Nat → Nat} (hu : unk n na S U u) {M M' : Nat → Nat → Int} (hM : ∀ a b, a < cn U n → b < cn U n + 1 → cg (M a b) (mx na tg sh u (cn U n) a b)) (hs : ∀ x, sat (cn U n) (cn U n + 1) M x ↔ sat (cn U n) (cn U n + 1) M' x) (ht : tri (cn U n) (cn U n) M') : ¬ kr n na tg sh S := by
  rintro ⟨H, h1, t, t1, t2, t3⟩
  apply t3
  have h2 := tri_ker ht ((hs _).mp (slv_sat hu hM h1)) (by rw [if_neg (Nat.lt_irrefl _)]; exact cg_rf _) (cn U n) (Nat.le_refl _)
  have h3 : ∀ i, i < n → U i = true → cg (H i) 0 := by
    intro i hi hU
    have hl := cn_lt U hi hU
    have h4 := h2 (cn U i) (by omega) hl
    rw [if_pos hl, hu.1 i hi hU] at h4
    exact h4
  by_cases e : U t = true
  · exact h3 t t1 e
  · have h5 := h1 t t1 t2
    have h6 : cg (inf n na tg sh (fun i => if S i then H i else 0) t) (inf n na tg sh (fun _ => 0) t) := by
      refine inf_cg (fun i hi hn => ?_) t
      by_cases e1 : S i = true
      · rw [if_pos e1]; exact h3 i hi (hu.2.2 i hi e1 hn)
      · rw [if_neg e1]; exact cg_rf _
    have h7 : inf n na tg sh (fun _ => 0) t = 0 := by
      unfold inf
      refine (sm_eq n (fun i _ => (sm_eq _ (fun k _ => ?_)).trans (sm_zero (na i)))).trans (sm_zero n)
      split
      · rw [Int.zero_mul, Int.zero_mul]
      · rfl
    rw [h7] at h6
    have h8 : (if t = 0 then (0 : Int) else 0) = 0 := by split <;> rfl
    rw [h8] at h5
    unfold cg at *
    omega
theorem one_of {n : Nat} {na : Nat → Nat} {tg : Nat → Nat → Nat} {sh : Nat → Nat → Int} {S U : Nat → Bool} {u : Nat → Nat} (hu : unk n na S U u) {M M' : Nat → Nat → Int} (hM : ∀ a b, a < cn U n → b < cn U n + 1 → cg (M a b) (mx na tg sh u (cn U n) a b)) (hs : ∀ x, sat (cn U n) (cn U n + 1) M x ↔ sat (cn U n) (cn U n + 1) M' x) (ht : dia (cn U n) (cn U n) M') {e : Int} {H : Nat → Int} (h : slv n na tg sh S e H) : ∀ t, t < n → U t = true → cg (H t) (M' (cn U t) (cn U n) * e) := by
  intro t t1 hU
  have hl := cn_lt U t1 hU
  have h2 := dia_end ht ((hs _).mp (slv_sat hu hM h)) (cn U t) hl
  rw [if_pos hl, hu.1 t t1 hU, if_neg (Nat.lt_irrefl _)] at h2
  have e1 : -(M' (cn U t) (cn U n) * -e) = M' (cn U t) (cn U n) * e := by grind
  rw [e1] at h2
  exact h2
