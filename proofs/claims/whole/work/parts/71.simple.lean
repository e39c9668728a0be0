/-! ===== the reference makes the rows simple ===== -/
theorem s11_find (F : Nat) (hF : 50000 ≤ F) {m : Nat} (hm : m ≤ 200) {r71 : Nat → Int32} {q89 : Nat → Int64} (h38 : (r71 38).toInt = (m : Nat)) {x : Int32} {c : Nat} (hx : x.toInt = (c : Nat)) (hc : c < m) :
    sp (mj_it (bdX11_simple_12 F r71 q89 x) F x) (fun e => ∃ p : Nat, e.toInt = (p : Nat) ∧ c ≤ p ∧ p ≤ m ∧ (∀ a, c ≤ a → a < p → gM m q89 a c = 0) ∧ (p < m → ¬ gM m q89 p c = 0)) := by
  have e201 : (201 : Int32).toInt = 201 := rfl
  have l0 : (0 : Int64).toInt = 0 := rfl
  have elc : lc m c = c := by unfold lc; rw [if_pos hc]
  refine sp_cnt (fun s : Int32 => s) m (by omega) (fun i _ => c ≤ i ∧ ∀ a, c ≤ a → a < i → gM m q89 a c = 0) ?_ F c x (by omega) hx ⟨Nat.le_refl c, fun a h1 h2 => by omega⟩ (by omega)
  rintro i y hi hy hcy hy1 ⟨j1, j2⟩
  unfold bdX11_simple_12
  refine sp_ite (fun hz => sp_some ?_) (fun hz => ?_)
  · have := i_le.mp hz
    have : i = m := by omega
    subst this
    exact ⟨i, hy, j1, Nat.le_refl i, j2, fun z => by omega⟩
  · have hz2 : ¬ (r71 38).toInt ≤ y.toInt := fun z => hz (i_le.mpr z)
    have him : i < m := by omega
    obtain ⟨c1, hib⟩ := ix201 hy hx (show i < 200 by omega) (show c < 201 by omega)
    refine sp_pos hib ?_
    rw [c1]
    clear c1
    have c3 : 201 * i + c = 201 * i + lc m c := by rw [elc]
    rw [c3]
    clear c3
    refine sp_ite (fun hq => sp_some ⟨him, rfl, by omega, fun a h1 h2 => ?_⟩) (fun hq => sp_some ⟨i, hy, j1, hi, j2, fun _ z => hq (l_eq.mpr z)⟩)
    by_cases e : a = i
    · rw [e]; unfold gM; rw [hq]; rfl
    · exact j2 a h1 (by omega)
theorem s11_swap (F : Nat) (hF : 50000 ≤ F) {c p : Nat} (hc : c < 200) (hp : p < 200) {x1 x2 : Int32} {q89 : Nat → Int64} (hx1 : x1.toInt = (c : Nat)) (hx2 : x2.toInt = (p : Nat)) :
    sp (mj_it (mj_u2 (fun z0 z1 => bdX11_simple_55 F x1 x2 z0 z1)) F ((0 : Int32), q89)) (fun e => ∀ a k, k < 201 → e (201 * a + k) = q89 (201 * sw c p a + k)) := by
  have e0 : (0 : Int32).toInt = 0 := rfl
  have e201 : (201 : Int32).toInt = 201 := rfl
  refine sp_cnt (fun s : Int32 × (Nat → Int64) => s.1) 201 (by omega) (fun i s => ∀ a k, k < 201 → s.2 (201 * a + k) = if k < i then q89 (201 * sw c p a + k) else q89 (201 * a + k)) ?_ F 0 _ (by omega) e0 (fun a k hk => by rw [if_neg (Nat.not_lt_zero k)]) (by omega)
  rintro i ⟨x, a89⟩ hi hx hcx hxs hJ
  refine sp_u2 ?_
  dsimp only at hx hcx hxs hJ
  unfold bdX11_simple_55
  refine sp_ite (fun hz => sp_some fun a k hk => ?_) (fun hz => ?_)
  · have := i_le.mp hz
    rw [hJ a k hk, if_pos (by omega)]
  · have hz2 : ¬ (201 : Int32).toInt ≤ x.toInt := fun z => hz (i_le.mpr z)
    have hi9 : i < 201 := by omega
    have jc := hJ c i hi9
    have jp := hJ p i hi9
    rw [if_neg (Nat.lt_irrefl i)] at jc jp
    obtain ⟨cc, h1⟩ := ix201 hx1 hx hc hi9
    obtain ⟨cp, h2⟩ := ix201 hx2 hx hp hi9
    refine sp_pos h1 (sp_pos h2 (sp_pos h1 (sp_pos h2 (sp_some ⟨hi9, rfl, fun a k hk => ?_⟩))))
    dsimp only
    rw [cc, cp, jc, jp]
    clear cc cp
    by_cases e : k = i
    · subst e
      rw [if_pos (by omega)]
      unfold sw
      by_cases e1 : a = c
      · rw [e1, if_pos rfl]
        by_cases e2 : c = p
        · rw [← e2, updL_at]
        · rw [updL_ne (by omega), updL_at]
      · rw [if_neg e1]
        by_cases e2 : a = p
        · rw [e2, if_pos rfl, updL_at]
        · rw [if_neg e2, updL_ne (by omega), updL_ne (by omega), hJ a k hk, if_neg (Nat.lt_irrefl k)]
    · rw [updL_ne (by omega), updL_ne (by omega), hJ a k hk]
      by_cases e1 : k < i
      · rw [if_pos e1, if_pos (by omega)]
      · rw [if_neg e1, if_neg (by omega)]
theorem s11_scale (F : Nat) (hF : 50000 ≤ F) {c : Nat} (hc : c < 200) {x1 : Int32} {by_ : Int64} {q89 : Nat → Int64} (hx1 : x1.toInt = (c : Nat)) (hb : fd by_.toInt) :
    sp (mj_it (mj_u2 (fun z0 z1 => bdX11_simple_139 F x1 by_ z0 z1)) F ((0 : Int32), q89)) (fun e => (∀ a k, k < 201 → a ≠ c → e (201 * a + k) = q89 (201 * a + k)) ∧ ∀ k, k < 201 → fd (q89 (201 * c + k)).toInt → (e (201 * c + k)).toInt = (q89 (201 * c + k)).toInt * by_.toInt % 998244353) := by
  have e0 : (0 : Int32).toInt = 0 := rfl
  have e201 : (201 : Int32).toInt = 201 := rfl
  have eP : (998244353 : Int64).toInt = 998244353 := rfl
  refine sp_cnt (fun s : Int32 × (Nat → Int64) => s.1) 201 (by omega) (fun i s => (∀ a k, k < 201 → (a ≠ c ∨ i ≤ k) → s.2 (201 * a + k) = q89 (201 * a + k)) ∧ ∀ k, k < i → k < 201 → fd (q89 (201 * c + k)).toInt → (s.2 (201 * c + k)).toInt = (q89 (201 * c + k)).toInt * by_.toInt % 998244353) ?_ F 0 _ (by omega) e0 ⟨fun _ _ _ _ => rfl, fun k hk => absurd hk (Nat.not_lt_zero k)⟩ (by omega)
  rintro i ⟨x, a89⟩ hi hx hcx hxs ⟨j1, j2⟩
  refine sp_u2 ?_
  dsimp only at hx hcx hxs j1 j2
  unfold bdX11_simple_139
  refine sp_ite (fun hz => sp_some ⟨fun a k hk ha => j1 a k hk (Or.inl ha), fun k hk hf => ?_⟩) (fun hz => ?_)
  · have := i_le.mp hz
    exact j2 k (by omega) hk hf
  · have hz2 : ¬ (201 : Int32).toInt ≤ x.toInt := fun z => hz (i_le.mpr z)
    have hi9 : i < 201 := by omega
    obtain ⟨cc, h1⟩ := ix201 hx1 hx hc hi9
    refine sp_pos h1 (sp_pos h1 (sp_some ⟨hi9, rfl, fun a k hk ha => ?_, fun k hk hk2 hf => ?_⟩))
    · dsimp only
      rw [cc]
      clear cc
      rw [updL_ne (by omega)]
      exact j1 a k hk (by omega)
    · dsimp only
      rw [cc]
      clear cc
      by_cases e : k = i
      · subst e
        rw [updL_at, j1 c k hk2 (Or.inr (Nat.le_refl k))]
        exact l_mulm hf hb
      · rw [updL_ne (by omega)]
        exact j2 k (by omega) hk2 hf
theorem s11_elim1 (F : Nat) (hF : 50000 ≤ F) {c o : Nat} (hc : c < 200) (ho : o < 200) {x1 x5 : Int32} {much : Int64} {q89 : Nat → Int64} (hx1 : x1.toInt = (c : Nat)) (hx5 : x5.toInt = (o : Nat)) (hmu : fd much.toInt) :
    sp (mj_it (mj_u2 (fun z0 z1 => bdX11_simple_215 F x1 x5 much z0 z1)) F (x1, q89)) (fun e => (∀ a k, k < 201 → (a ≠ o ∨ k < c ∨ o = c ∨ much.toInt = 0) → e (201 * a + k) = q89 (201 * a + k)) ∧ (o ≠ c → ∀ k, c ≤ k → k < 201 → fd (q89 (201 * o + k)).toInt → fd (q89 (201 * c + k)).toInt → fd (e (201 * o + k)).toInt ∧ cg (e (201 * o + k)).toInt ((q89 (201 * o + k)).toInt - much.toInt * (q89 (201 * c + k)).toInt))) := by
  have e201 : (201 : Int32).toInt = 201 := rfl
  have eP : (998244353 : Int64).toInt = 998244353 := rfl
  have l0 : (0 : Int64).toInt = 0 := rfl
  by_cases hskip : o = c ∨ much.toInt = 0
  · have h9 : sp (mj_it (mj_u2 (fun z0 z1 => bdX11_simple_215 F x1 x5 much z0 z1)) F (x1, q89)) (fun e => e = q89) := by
      refine sp_it (J := fun s : Int32 × (Nat → Int64) => s.2 = q89) (fun _ => 0) ?_ F _ rfl (by omega)
      rintro ⟨x, a89⟩ hJ
      refine sp_u2 ?_
      dsimp only at hJ
      unfold bdX11_simple_215
      refine sp_ite (fun _ => sp_some hJ) (fun _ => ?_)
      rcases hskip with h | h
      · exact sp_pos (i_eq.mpr (by omega)) (sp_some hJ)
      · exact sp_ite (fun _ => sp_some hJ) (fun _ => sp_pos (l_eq.mpr (by rw [h]; rfl)) (sp_some hJ))
    refine sp_mono h9 ?_
    rintro e rfl
    refine ⟨fun _ _ _ _ => rfl, fun hoc k h1 h2 f1 f2 => ⟨f1, ?_⟩⟩
    rcases hskip with h | h
    · exact absurd h hoc
    · rw [h, Int.zero_mul, Int.sub_zero]; exact cg_rf _
  · have hoc : o ≠ c := fun z => hskip (Or.inl z)
    have hm0 : ¬ much.toInt = 0 := fun z => hskip (Or.inr z)
    refine sp_cnt (fun s : Int32 × (Nat → Int64) => s.1) 201 (by omega) (fun i s => c ≤ i ∧ (∀ a k, k < 201 → (a ≠ o ∨ k < c ∨ i ≤ k) → s.2 (201 * a + k) = q89 (201 * a + k)) ∧ ∀ k, c ≤ k → k < i → k < 201 → fd (q89 (201 * o + k)).toInt → fd (q89 (201 * c + k)).toInt → fd (s.2 (201 * o + k)).toInt ∧ cg (s.2 (201 * o + k)).toInt ((q89 (201 * o + k)).toInt - much.toInt * (q89 (201 * c + k)).toInt)) ?_ F c _ (by omega) hx1 ⟨Nat.le_refl c, fun _ _ _ _ => rfl, fun k h1 h2 => by omega⟩ (by omega)
    rintro i ⟨x, a89⟩ hi hx hcx hxs ⟨j0, j1, j2⟩
    refine sp_u2 ?_
    dsimp only at hx hcx hxs j1 j2
    unfold bdX11_simple_215
    refine sp_ite (fun hz => sp_some ⟨fun a k hk ha => j1 a k hk ?_, fun _ k h1 h2 f1 f2 => ?_⟩) (fun hz => ?_)
    · rcases ha with h | h | h | h
      · exact Or.inl h
      · exact Or.inr (Or.inl h)
      · exact absurd h hoc
      · exact absurd h hm0
    · have := i_le.mp hz
      exact j2 k h1 (by omega) h2 f1 f2
    · have hz2 : ¬ (201 : Int32).toInt ≤ x.toInt := fun z => hz (i_le.mpr z)
      refine sp_neg (fun z => hoc (by have := i_eq.mp z; omega)) (sp_neg (fun z => hm0 (by rw [z]; rfl)) ?_)
      have hi9 : i < 201 := by omega
      obtain ⟨cc, h1⟩ := ix201 hx1 hx hc hi9
      obtain ⟨cO, h2⟩ := ix201 hx5 hx ho hi9
      refine sp_pos h2 (sp_pos h1 (sp_pos h2 (sp_some ⟨hi9, rfl, Nat.le_succ_of_le j0, fun a k hk ha => ?_, fun k g1 g2 g3 f1 f2 => ?_⟩)))
      · dsimp only
        rw [cO]
        clear cO cc
        rw [updL_ne (by omega)]
        exact j1 a k hk (by omega)
      · dsimp only
        rw [cc, cO]
        clear cO cc
        by_cases e : k = i
        · subst e
          rw [updL_at, j1 o k g3 (Or.inr (Or.inr (Nat.le_refl k))), j1 c k g3 (Or.inl (fun z => hoc z.symm))]
          exact l_elim f1 f2 hmu
        · rw [updL_ne (by omega)]
          exact j2 k g1 (by omega) g3 f1 f2
theorem s11_elim (F : Nat) (hF : 50000 ≤ F) {m c : Nat} (hm : m ≤ 200) (hc : c < m) {x1 : Int32} {r71 : Nat → Int32} {q89 : Nat → Int64} (h38 : (r71 38).toInt = (m : Nat)) (hx1 : x1.toInt = (c : Nat)) (hfd : ∀ a b, a < m → b ≤ m → fd (gM m q89 a b)) (hz : ∀ b, b < c → gM m q89 c b = 0) :
    sp (mj_it (mj_u2 (fun z0 z1 => bdX11_simple_188 F r71 x1 z0 z1)) F ((0 : Int32), q89)) (fun e => ∀ a b, a < m → b ≤ m → fd (gM m e a b) ∧ (a ≠ c → cg (gM m e a b) (gM m q89 a b - gM m q89 a c * gM m q89 c b)) ∧ (a = c → gM m e a b = gM m q89 a b)) := by
  have e0 : (0 : Int32).toInt = 0 := rfl
  have e201 : (201 : Int32).toInt = 201 := rfl
  have elc : lc m c = c := by unfold lc; rw [if_pos hc]
  refine sp_cnt (fun s : Int32 × (Nat → Int64) => s.1) m (by omega) (fun i s => ∀ a b, a < m → b ≤ m → fd (gM m s.2 a b) ∧ (a ≠ c → a < i → cg (gM m s.2 a b) (gM m q89 a b - gM m q89 a c * gM m q89 c b)) ∧ (a = c ∨ i ≤ a → gM m s.2 a b = gM m q89 a b)) ?_ F 0 _ (by omega) e0 (fun a b ha hb => ⟨hfd a b ha hb, fun _ h => absurd h (Nat.not_lt_zero a), fun _ => rfl⟩) (by omega)
  rintro i ⟨x, a89⟩ hi hx hcx hxs hJ
  refine sp_u2 ?_
  dsimp only at hx hcx hxs hJ
  unfold bdX11_simple_188
  refine sp_ite (fun hw => sp_some fun a b ha hb => ?_) (fun hw => ?_)
  · have := i_le.mp hw
    obtain ⟨g1, g2, g3⟩ := hJ a b ha hb
    exact ⟨g1, fun h => g2 h (by omega), fun h => g3 (Or.inl h)⟩
  · have hw2 : ¬ (r71 38).toInt ≤ x.toInt := fun z => hw (i_le.mpr z)
    have him : i < m := by omega
    obtain ⟨c1, hib⟩ := ix201 hx hx1 (show i < 200 by omega) (show c < 201 by omega)
    refine sp_pos hib ?_
    rw [c1]
    clear c1
    have c3 : 201 * i + c = 201 * i + lc m c := by rw [elc]
    rw [c3]
    clear c3
    have hmu : (a89 (201 * i + lc m c)).toInt = gM m q89 i c := (hJ i c him (by omega)).2.2 (Or.inr (Nat.le_refl i))
    refine sp_bind (s11_elim1 F hF (c := c) (o := i) (by omega) (by omega) (q89 := a89) hx1 hx (by rw [hmu]; exact hfd i c him (by omega))) ?_
    rintro e ⟨h1, h2⟩
    refine sp_some ⟨him, rfl, fun a b ha hb => ?_⟩
    dsimp only
    have hlb := lc_le (b := b) hm
    obtain ⟨g1, g2, g3⟩ := hJ a b ha hb
    have same : (a ≠ i ∨ lc m b < c ∨ i = c) → gM m e a b = gM m a89 a b := by
      intro hq
      unfold gM
      rw [h1 a (lc m b) (by omega) (by omega)]
    by_cases e1 : a = i
    · by_cases e2 : i = c
      · rw [same (Or.inr (Or.inr e2))]
        exact ⟨g1, fun h => absurd (e1.trans e2) h, fun _ => g3 (Or.inr (by omega))⟩
      · have gi := g3 (Or.inr (by omega))
        by_cases e3 : lc m b < c
        · have hbc : b < c := by unfold lc at e3; split at e3 <;> omega
          rw [same (Or.inr (Or.inl e3))]
          refine ⟨g1, fun _ _ => ?_, fun _ => gi⟩
          rw [hz b hbc, Int.mul_zero, Int.sub_zero, gi]
          exact cg_rf _
        · have h3 := h2 e2 (lc m b) (by omega) (by omega)
          have f1 : (a89 (201 * i + lc m b)).toInt = gM m q89 i b := (hJ i b him hb).2.2 (Or.inr (Nat.le_refl i))
          have f2 : (a89 (201 * c + lc m b)).toInt = gM m q89 c b := (hJ c b hc hb).2.2 (Or.inl rfl)
          rw [f1, f2, hmu] at h3
          have h4 := h3 (hfd i b him hb) (hfd c b hc hb)
          rw [e1]
          exact ⟨h4.1, fun _ _ => h4.2, fun z => by omega⟩
    · rw [same (Or.inl e1)]
      exact ⟨g1, fun z w => g2 z (by omega), fun z => g3 (by omega)⟩
/-- what the reference has behind column c -/
def siQ (m : Nat) (M0 : Nat → Nat → Int) (c : Nat) (q : Nat → Int64) : Prop := (∀ a b, a < m → b ≤ m → fd (gM m q a b)) ∧ (∀ x, sat m (m + 1) M0 x ↔ sat m (m + 1) (gM m q) x) ∧ dia m c (gM m q)
theorem s11_siStep (F : Nat) (hF : 50000 ≤ F) {m c : Nat} (hm : m ≤ 200) (hc : c < m) {M0 : Nat → Nat → Int} {x : Int32} {r71 : Nat → Int32} {q89 : Nat → Int64} (h38 : (r71 38).toInt = (m : Nat)) (hx : x.toInt = (c : Nat)) (h : siQ m M0 c q89) :
    sp (bdX11_simple_2 F r71 x q89) (Sum.elim (fun s => s.1 = x + 1 ∧ siQ m M0 (c + 1) s.2) (Sum.elim (fun _ => False) (fun _ => ∃ (v : Nat → Int) (d : Nat), d < m ∧ v m = 0 ∧ v d = 1 ∧ sat m (m + 1) M0 v))) := by
  have e201 : (201 : Int32).toInt = 201 := rfl
  obtain ⟨hfd, hs, ht⟩ := h
  have elc : lc m c = c := by unfold lc; rw [if_pos hc]
  unfold bdX11_simple_2
  refine sp_neg (fun z => by have := i_le.mp z; omega) ?_
  refine sp_bind (s11_find F hF (q89 := q89) hm h38 hx hc) ?_
  rintro y ⟨p, y1, y2, y3, y4, y5⟩
  refine sp_ite (fun hq => sp_some ?_) (fun hq => ?_)
  · have hpm : p = m := by rw [hq] at y1; omega
    subst hpm
    obtain ⟨v, v1, v2, v3⟩ := dia_stuck hc ht (fun r h1 h2 => by rw [y4 r h1 h2]; exact cg_rf _)
    exact ⟨v, c, hc, v1, v2, (hs v).mpr v3⟩
  · have hq2 : ¬ y.toInt = (r71 38).toInt := fun z => hq (i_eq.mpr z)
    have hpm : p < m := by omega
    refine sp_bind (s11_swap F hF (q89 := q89) (by omega) (by omega) hx y1) (fun b89 hb => ?_)
    have hsw : ∀ a b, gM m b89 a b = gM m q89 (sw c p a) b := by
      intro a b
      have hlb := lc_le (b := b) hm
      unfold gM
      rw [hb a (lc m b) (by omega)]
    have hswc : sw c p c = p := by unfold sw; rw [if_pos rfl]
    obtain ⟨c1, hib⟩ := ix201 hx hx (show c < 200 by omega) (show c < 201 by omega)
    refine sp_pos hib ?_
    rw [c1]
    clear c1
    have c3 : 201 * c + c = 201 * c + lc m c := by rw [elc]
    rw [c3]
    clear c3
    have hpc : (b89 (201 * c + lc m c)).toInt = gM m q89 p c := by
      have := hsw c c
      rw [hswc] at this
      exact this
    have hfpc := hfd p c hpm (by omega)
    refine sp_bind (s11_inverse F (by omega) (by rw [hpc]; exact hfpc.1)) (fun o26 h26 => ?_)
    rw [hpc] at h26
    have hfo : fd o26.toInt := by rw [h26]; exact iv_fd _
    refine sp_bind (s11_scale F hF (c := c) (by omega) (q89 := b89) hx hfo) ?_
    rintro c89 ⟨s1, s2⟩
    have hcO : ∀ a b, a ≠ c → gM m c89 a b = gM m q89 (sw c p a) b := by
      intro a b hac
      have hlb := lc_le (b := b) hm
      rw [← hsw]
      unfold gM
      rw [s1 a (lc m b) (by omega) hac]
    have hcc : ∀ b, b ≤ m → fd (gM m c89 c b) ∧ cg (gM m c89 c b) (o26.toInt * gM m q89 p b) := by
      intro b hb
      have hlb := lc_le (b := b) hm
      have h3 := hsw c b
      rw [hswc] at h3
      have h4 := s2 (lc m b) (by omega)
      have h5 : (b89 (201 * c + lc m b)).toInt = gM m q89 p b := h3
      rw [h5] at h4
      have h6 : gM m c89 c b = gM m q89 p b * o26.toInt % 998244353 := h4 (hfd p b hpm hb)
      rw [h6, Int.mul_comm o26.toInt]
      exact ⟨fd_md _, cg_md _⟩
    have hfd2 : ∀ a b, a < m → b ≤ m → fd (gM m c89 a b) := by
      intro a b ha hb
      by_cases e : a = c
      · rw [e]; exact (hcc b hb).1
      · rw [hcO a b e]; exact hfd _ b (sw_lt hc hpm ha) hb
    have hz : ∀ b, b < c → gM m c89 c b = 0 := by
      intro b hb
      obtain ⟨w1, w2⟩ := hcc b (by omega)
      have w3 := ht b hb p hpm
      rw [if_neg (by omega)] at w3
      exact cg_eq (cg_tr w2 (cg_z w3)) w1.1 w1.2 (by omega) (by omega)
    refine sp_bind (s11_elim F hF hm hc (q89 := c89) h38 hx hfd2 hz) (fun d89 hd => ?_)
    have hst : stp m (m + 1) c p (fun _ => true) (gM m q89) (gM m d89) := by
      refine ⟨o26.toInt, ?_, fun k hk => ?_, fun r hr hrc k hk => ?_⟩
      · rw [h26, Int.mul_comm]
        refine iv_mul (fun z => y5 hpm ?_)
        exact cg_eq z hfpc.1 hfpc.2 (by omega) (by omega)
      · rw [(hd c k hc (by omega)).2.2 rfl]; exact (hcc k (by omega)).2
      · have h9 := (hd r k hr (by omega)).2.1 hrc
        rw [hcO r k hrc, hcO r c hrc, ← (hd c k hc (by omega)).2.2 rfl] at h9
        rw [if_pos rfl]
        exact h9
    exact sp_some ⟨rfl, fun a b ha hb => (hd a b ha hb).1, fun v => (hs v).trans (sat_stp hc hpm hst v), dia_stp hc y2 hpm (by omega) hst ht⟩
theorem s11_simple (F : Nat) (hF : 50000 ≤ F) {m : Nat} (hm : m ≤ 200) {M0 : Nat → Nat → Int} {r71 : Nat → Int32} {q89 : Nat → Int64} (h38 : (r71 38).toInt = (m : Nat)) (h : siQ m M0 0 q89) :
    sp (fnX11_simple F r71 q89) (fun e => (e.1 = 1 ∧ siQ m M0 m e.2) ∨ (e.1 = 0 ∧ ∃ (v : Nat → Int) (d : Nat), d < m ∧ v m = 0 ∧ v d = 1 ∧ sat m (m + 1) M0 v)) := by
  have e0 : (0 : Int32).toInt = 0 := rfl
  unfold fnX11_simple
  refine sp_bind (sp_cnt (fun s : Int32 × (Nat → Int64) => s.1) m (by omega) (fun c s => siQ m M0 c s.2) (Q := fun e : (Nat → Int64) ⊕ (Nat → Int64) => Sum.elim (fun e => siQ m M0 m e) (fun _ => ∃ (v : Nat → Int) (d : Nat), d < m ∧ v m = 0 ∧ v d = 1 ∧ sat m (m + 1) M0 v) e) ?_ F 0 _ (by omega) e0 h (by omega)) ?_
  · rintro c ⟨x, a89⟩ hi hx hcx hxs hJ
    refine sp_u2 ?_
    dsimp only at hx hcx hxs hJ
    by_cases hcm : c = m
    · subst hcm
      unfold bdX11_simple_2
      refine sp_pos (i_le.mpr (by omega)) (sp_some ?_)
      exact hJ
    · refine sp_mono (s11_siStep F hF hm (by omega) h38 hx hJ) ?_
      rintro (s | (s | s)) hs
      · exact ⟨by omega, hs.1, hs.2⟩
      · exact absurd hs id
      · exact hs
  · rintro (a89 | a89) hs
    · exact sp_some (Or.inl ⟨rfl, hs⟩)
    · exact sp_some (Or.inr ⟨rfl, hs⟩)
