/-! ===== sums modulo the prime ===== -/
def sm : Nat → (Nat → Int) → Int
  | 0, _ => 0
  | n + 1, f => sm n f + f n
theorem sm_s (n : Nat) (f : Nat → Int) : sm (n + 1) f = sm n f + f n := rfl
theorem sm_cg {f g : Nat → Int} : ∀ n, (∀ i, i < n → cg (f i) (g i)) → cg (sm n f) (sm n g) := by
  intro n
  induction n with
  | zero => intro _; exact cg_rf _
  | succ n ih => intro h; exact cg_add (ih (fun i hi => h i (by omega))) (h n (by omega))
theorem sm_eq {f g : Nat → Int} : ∀ n, (∀ i, i < n → f i = g i) → sm n f = sm n g := by
  intro n
  induction n with
  | zero => intro _; rfl
  | succ n ih => intro h; rw [sm_s, sm_s, ih (fun i hi => h i (by omega)), h n (by omega)]
theorem sm_add (f g : Nat → Int) : ∀ n, sm n (fun i => f i + g i) = sm n f + sm n g := by
  intro n
  induction n with
  | zero => rfl
  | succ n ih => rw [sm_s, sm_s, sm_s, ih]; omega
theorem sm_zero : ∀ n, sm n (fun _ => 0) = 0 := by
  intro n
  induction n with
  | zero => rfl
  | succ n ih => rw [sm_s, ih]; rfl
theorem sm_mul (c : Int) (f : Nat → Int) : ∀ n, sm n (fun i => c * f i) = c * sm n f := by
  intro n
  induction n with
  | zero => show (0 : Int) = c * 0; rw [Int.mul_zero]
  | succ n ih => rw [sm_s, sm_s, ih, Int.mul_add]
/-- what flows into t -/
def inf (n : Nat) (na : Nat → Nat) (tg : Nat → Nat → Nat) (sh : Nat → Nat → Int) (h : Nat → Int) (t : Nat) : Int := sm n (fun i => sm (na i) (fun k => if tg i k = t then h i * 715408453 * sh i k else 0))
theorem inf_cg {n : Nat} {na : Nat → Nat} {tg : Nat → Nat → Nat} {sh : Nat → Nat → Int} {h g : Nat → Int} (hh : ∀ i, i < n → 0 < na i → cg (h i) (g i)) (t : Nat) : cg (inf n na tg sh h t) (inf n na tg sh g t) := by
  refine sm_cg n (fun i hi => sm_cg (na i) (fun k hk => ?_))
  split
  · exact cg_mul (cg_mul (hh i hi (by omega)) (cg_rf _)) (cg_rf _)
  · exact cg_rf _
/-- where one is behind j arcs -/
def hr (n : Nat) (na : Nat → Nat) (tg : Nat → Nat → Nat) (sh : Nat → Nat → Int) : Nat → Nat → Int
  | 0, t => if t = 0 then 1 else 0
  | j + 1, t => inf n na tg sh (hr n na tg sh j) t % 998244353
theorem hr_fd (n : Nat) (na : Nat → Nat) (tg : Nat → Nat → Nat) (sh : Nat → Nat → Int) (j t : Nat) : fd (hr n na tg sh j t) := by
  cases j with
  | zero =>
    show fd (if t = 0 then 1 else 0)
    split <;> exact ⟨by omega, by omega⟩
  | succ j => exact fd_md _
/-- what has come to t by then -/
def ac (n : Nat) (na : Nat → Nat) (tg : Nat → Nat → Nat) (sh : Nat → Nat → Int) : Nat → Nat → Int
  | 0, t => hr n na tg sh 0 t
  | j + 1, t => ac n na tg sh j t + hr n na tg sh (j + 1) t
/-- within j arcs -/
def wi (n : Nat) (na : Nat → Nat) (tg : Nat → Nat → Nat) (sh : Nat → Nat → Int) (en : Nat → Bool) (j : Nat) : Int := sm n (fun t => if en t then ac n na tg sh j t else 0)
def at_ (n : Nat) (en : Nat → Bool) (h : Nat → Int) : Int := sm n (fun t => if en t then h t else 0)
theorem wi_s (n : Nat) (na : Nat → Nat) (tg : Nat → Nat → Nat) (sh : Nat → Nat → Int) (en : Nat → Bool) (j : Nat) : wi n na tg sh en (j + 1) = wi n na tg sh en j + at_ n en (hr n na tg sh (j + 1)) := by
  unfold wi at_
  rw [← sm_add]
  refine sm_eq n (fun t _ => ?_)
  split
  · rfl
  · rfl
-- the class: an arc after the other
theorem s9_arcs (F : Nat) (hF : 2100 ≤ F) {n : Nat} (hn : n ≤ 200) {fr na : Nat → Nat} {tg : Nat → Nat → Nat} {sh : Nat → Nat → Int} {r37 r38 r39 b53 : Nat → Int32} (hA : cA n fr na tg r37 r38) {i : Nat} (hi : i < n) (hs : ∀ k, k < na i → (r39 (fr i + k)).toInt = sh i k ∧ 1 ≤ sh i k ∧ sh i k ≤ 60) {x x6 : Int32} (hx : x.toInt = (i : Nat)) (h6 : fd x6.toInt) (hb : ∀ t, t < n → fd (b53 t).toInt) :
    sp (mj_it (mj_u2 (fun z0 z1 => bdX9_moveOn_45 F r37 r38 r39 x x6 z0 z1)) F (r37 i, b53)) (fun e => ∀ t, t < n → fd (e t).toInt ∧ cg (e t).toInt ((b53 t).toInt + sm (na i) (fun k => if tg i k = t then x6.toInt * sh i k else 0))) := by
  obtain ⟨a1, a2, a3, a4⟩ := hA i hi
  have e1 : (1 : Int32).toInt = 1 := rfl
  have hx1 : (x + 1).toInt = ((i + 1 : Nat) : Int) := by rw [i_add (by omega) (by omega), hx, e1]; omega
  have hcx1 : (x + 1).toNatClampNeg = i + 1 := by rw [i_cl, hx1]; omega
  have hib1 : mj_ib (x + 1) 201 = true := mj_ib_of (by omega) (by omega)
  refine sp_it (J := fun s : Int32 × (Nat → Int32) => ∃ k : Nat, k ≤ na i ∧ s.1.toInt = ((fr i + k : Nat) : Int) ∧ ∀ t, t < n → fd (s.2 t).toInt ∧ cg (s.2 t).toInt ((b53 t).toInt + sm k (fun k => if tg i k = t then x6.toInt * sh i k else 0))) (fun s => (2000 - s.1.toInt).toNat) ?_ F _ ?_ ?_
  · rintro ⟨y, c⟩ ⟨k, k1, k2, k3⟩
    refine sp_u2 ?_
    dsimp only at k2 k3
    unfold bdX9_moveOn_45
    refine sp_pos hib1 ?_
    rw [hcx1]
    refine sp_ite (fun hz => sp_some ?_) (fun hz => ?_)
    · have := i_le.mp hz
      have : k = na i := by omega
      subst this
      exact k3
    · have hz2 : ¬ (r37 (i + 1)).toInt ≤ y.toInt := fun z => hz (i_le.mpr z)
      have hk : k < na i := by omega
      obtain ⟨t1, t2⟩ := a4 k hk
      obtain ⟨s1, s2, s3⟩ := hs k hk
      have hcy : y.toNatClampNeg = fr i + k := by rw [i_cl, k2]; omega
      have hct : (r38 (fr i + k)).toNatClampNeg = tg i k := by rw [i_cl, t1]; omega
      have hiy : mj_ib y 2000 = true := mj_ib_of (by omega) (by omega)
      have hit : mj_ib (r38 (fr i + k)) 200 = true := mj_ib_of (by omega) (by omega)
      have hy1 : (y + 1).toInt = ((fr i + (k + 1) : Nat) : Int) := by rw [i_add (by omega) (by omega), k2, e1]; omega
      have hmu : (2000 - (y + 1).toInt).toNat < (2000 - y.toInt).toNat := by rw [hy1, k2]; omega
      have hfs : fd (r39 (fr i + k)).toInt := ⟨by omega, by omega⟩
      obtain ⟨p1, p2⟩ := k3 (tg i k) t2
      refine sp_pos hiy ?_
      rw [hcy]
      refine sp_pos hit (sp_pos hiy ?_)
      rw [hct]
      refine sp_bind (s3_times F h6 hfs) (fun o6 ho6 => ?_)
      refine sp_bind (s3_plus F p1 (by rw [ho6]; exact fd_md _)) (fun o7 ho7 => ?_)
      refine sp_pos hit (sp_some ⟨⟨k + 1, hk, hy1, fun t ht => ?_⟩, hmu⟩)
      dsimp only
      rw [sm_s]
      by_cases htk : t = tg i k
      · subst htk
        rw [upd_at, if_pos rfl, ho7, ho6, s1]
        refine ⟨fd_md _, cg_tr (cg_md _) ?_⟩
        rw [← Int.add_assoc]
        exact cg_add p2 (cg_md _)
      · rw [upd_ne htk, if_neg (fun z => htk z.symm), Int.add_zero]
        exact k3 t ht
  · refine ⟨0, by omega, by dsimp only; omega, fun t ht => ⟨hb t ht, ?_⟩⟩
    show cg (b53 t).toInt ((b53 t).toInt + 0)
    rw [Int.add_zero]; exact cg_rf _
  · show (2000 - (r37 i).toInt).toNat < F
    omega
theorem s_fill53 (F : Nat) (hF : 600 ≤ F) (r53 : Nat → Int32) : sp (fnJ7_fill_53178_53 F r53 0) (fun e => ∀ j, j < 200 → e j = 0) := by
  have e0 : (0 : Int32).toInt = 0 := rfl
  have e1 : (1 : Int32).toInt = 1 := rfl
  have e200 : (200 : Int32).toInt = 200 := rfl
  unfold fnJ7_fill_53178_53
  refine sp_bind (sp_it (J := fun s : Int32 × (Nat → Int32) => ∃ i : Nat, i ≤ 200 ∧ s.1.toInt = (i : Nat) ∧ ∀ u, u < i → s.2 u = 0) (Q := fun e : Nat → Int32 => ∀ j, j < 200 → e j = 0) (fun s => (300 - s.1.toInt).toNat) ?_ F _ ?_ ?_) (fun c hc => sp_some hc)
  · rintro ⟨x, a⟩ ⟨i, i1, i2, i3⟩
    refine sp_u2 ?_
    dsimp only at i2 i3
    have hcx : x.toNatClampNeg = i := by rw [i_cl, i2]; rfl
    have hx1 : (x + 1).toInt = ((i + 1 : Nat) : Int) := by rw [i_add (by omega) (by omega), i2, e1]; omega
    have hmu : (300 - (x + 1).toInt).toNat < (300 - x.toInt).toNat := by rw [hx1, i2]; omega
    unfold bdJ7_fill_53178_53_5
    refine sp_ite (fun hz => sp_some ?_) (fun hz => ?_)
    · have := i_le.mp hz
      have : i = 200 := by omega
      subst this
      exact i3
    · have hz2 : ¬ (200 : Int32).toInt ≤ x.toInt := fun z => hz (i_le.mpr z)
      have hi : i < 200 := by omega
      refine sp_pos (mj_ib_of (by omega) (by omega)) (sp_some ⟨⟨i + 1, hi, hx1, fun u hu => ?_⟩, hmu⟩)
      dsimp only
      rw [hcx]
      by_cases hui : u = i
      · rw [hui, upd_at]
      · rw [upd_ne hui]; exact i3 u (by omega)
  · exact ⟨0, by omega, e0, fun u hu => absurd hu (Nat.not_lt_zero u)⟩
  · show (300 - (0 : Int32).toInt).toNat < F
    rw [e0]; omega
/-- one arc further -/
theorem s9_moveOn (F : Nat) (hF : 2100 ≤ F) {n : Nat} (hn : n ≤ 200) {fr na : Nat → Nat} {tg : Nat → Nat → Nat} {sh : Nat → Nat → Int} {r32 r37 r38 r39 r52 r53 : Nat → Int32} (h2 : (r32 2).toInt = (n : Nat)) (hA : cA n fr na tg r37 r38) (hs : ∀ i, i < n → ∀ k, k < na i → (r39 (fr i + k)).toInt = sh i k ∧ 1 ≤ sh i k ∧ sh i k ≤ 60) {g : Nat → Int} (hg : ∀ t, t < n → (r52 t).toInt = g t ∧ fd (g t)) :
    sp (fnX9_moveOn F r32 r37 r38 r39 r52 r53) (fun e => e.2 = r52 ∧ ∀ t, t < n → (e.1 t).toInt = inf n na tg sh g t % 998244353) := by
  have e0 : (0 : Int32).toInt = 0 := rfl
  have e1 : (1 : Int32).toInt = 1 := rfl
  unfold fnX9_moveOn
  refine sp_bind (s_fill53 F (by omega) r53) (fun o16 h16 => ?_)
  refine sp_bind (sp_it (J := fun s : Int32 × (Nat → Int32) => ∃ i : Nat, i ≤ n ∧ s.1.toInt = (i : Nat) ∧ ∀ t, t < n → fd (s.2 t).toInt ∧ cg (s.2 t).toInt (inf i na tg sh g t)) (Q := fun e : Nat → Int32 => ∀ t, t < n → fd (e t).toInt ∧ cg (e t).toInt (inf n na tg sh g t)) (fun s => (300 - s.1.toInt).toNat) ?_ F _ ?_ ?_) ?_
  · rintro ⟨x, a⟩ ⟨i, i1, i2, i3⟩
    refine sp_u2 ?_
    dsimp only at i2 i3
    have hcx : x.toNatClampNeg = i := by rw [i_cl, i2]; rfl
    have hx1 : (x + 1).toInt = ((i + 1 : Nat) : Int) := by rw [i_add (by omega) (by omega), i2, e1]; omega
    have hmu : (300 - (x + 1).toInt).toNat < (300 - x.toInt).toNat := by rw [hx1, i2]; omega
    unfold bdX9_moveOn_10
    refine sp_ite (fun hz => sp_some ?_) (fun hz => ?_)
    · have := i_le.mp hz
      have : i = n := by omega
      subst this
      exact i3
    · have hz2 : ¬ (r32 2).toInt ≤ x.toInt := fun z => hz (i_le.mpr z)
      have hi : i < n := by omega
      have hix : mj_ib x 200 = true := mj_ib_of (by omega) (by omega)
      obtain ⟨g1, g2⟩ := hg i hi
      have hsm : ∀ t, inf (i + 1) na tg sh g t = inf i na tg sh g t + sm (na i) (fun k => if tg i k = t then g i * 715408453 * sh i k else 0) := fun t => rfl
      refine sp_pos hix ?_
      rw [hcx]
      refine sp_ite (fun hq => sp_some ⟨⟨i + 1, hi, hx1, fun t ht => ?_⟩, hmu⟩) (fun hq => ?_)
      · have g0 : g i = 0 := by rw [← g1, hq]; rfl
        have : sm (na i) (fun k => if tg i k = t then g i * 715408453 * sh i k else 0) = 0 := by
          refine (sm_eq _ (fun k _ => ?_)).trans (sm_zero (na i))
          rw [g0]
          split
          · rw [Int.zero_mul, Int.zero_mul]
          · rfl
        dsimp only
        rw [hsm, this, Int.add_zero]
        exact i3 t ht
      · refine sp_pos hix ?_
        refine sp_bind (s3_sixtieth F (by rw [g1]; exact g2)) (fun o13 ho13 => ?_)
        refine sp_pos (mj_ib_of (by omega) (by omega)) ?_
        rw [g1] at ho13
        refine sp_bind (s9_arcs F hF hn hA hi (hs i hi) i2 (by rw [ho13]; exact fd_md _) (fun t ht => (i3 t ht).1)) (fun o15 h15 => ?_)
        refine sp_some ⟨⟨i + 1, hi, hx1, fun t ht => ⟨(h15 t ht).1, ?_⟩⟩, hmu⟩
        dsimp only
        rw [hsm]
        refine cg_tr (h15 t ht).2 (cg_add (i3 t ht).2 (sm_cg _ (fun k _ => ?_)))
        split
        · rw [ho13]; exact cg_mul (cg_md _) (cg_rf _)
        · exact cg_rf _
  · refine ⟨0, by omega, e0, fun t ht => ?_⟩
    dsimp only
    rw [h16 t (by omega)]
    exact ⟨⟨by decide, by decide⟩, cg_rf _⟩
  · show (300 - (0 : Int32).toInt).toNat < F
    rw [e0]; omega
  · intro e he
    refine sp_some ⟨rfl, fun t ht => ?_⟩
    obtain ⟨q1, q2⟩ := he t ht
    show (e t).toInt = _
    unfold cg at q2
    have := q1.1
    have := q1.2
    omega
