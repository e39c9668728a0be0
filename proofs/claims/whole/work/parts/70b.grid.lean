/-! ===== the reference's grid, whole ===== -/
def uO (S : Nat → Bool) : Nat → Nat → Nat
  | 0, _ => 0
  | n + 1, b => if S n = true ∧ cn S n = b then n else uO S n b
theorem uO_at (S : Nat → Bool) : ∀ n i, i < n → S i = true → uO S n (cn S i) = i := by
  intro n
  induction n with
  | zero => intro i h; exact absurd h (Nat.not_lt_zero i)
  | succ n ih =>
    intro i hi hS
    show (if S n = true ∧ cn S n = cn S i then n else uO S n (cn S i)) = i
    by_cases e : S n = true ∧ cn S n = cn S i
    · rw [if_pos e]; exact cn_inj S e.1 hS e.2
    · rw [if_neg e]
      have : i ≠ n := fun z => e (by rw [← z]; exact ⟨hS, rfl⟩)
      exact ih i (by omega) hS
theorem rkQ_ref {n : Nat} (hn : n ≤ 200) {S : Nat → Bool} {r71 a71 a88 : Nat → Int32} (h : gJ S r71 n a71 a88) : rkQ n S (uO S n) (fun b => Int32.ofNat (uO S n b)) a88 := by
  refine ⟨fun b hb => ?_, h.2.2, fun i hi hS => uO_at S n i hi hS⟩
  obtain ⟨i, i1, i2, i3⟩ := cn_inv S n b hb
  have e := uO_at S n i i1 i2
  rw [i3] at e
  dsimp only
  rw [e]
  exact ⟨Int32.toInt_ofNat_small (by omega), i1, i2, i3⟩
theorem gA_mx {na : Nat → Nat} {tg : Nat → Nat → Nat} {sh : Nat → Nat → Int} {u : Nat → Nat} {m : Nat} {q : Nat → Int64} (h : gA m (gX0 na tg sh u m m) q) : ∀ a b, a < m → b < m + 1 → cg (gM m q a b) (mx na tg sh u m a b) := by
  intro a b ha hb
  have h1 := (h a b ha (by omega)).2
  unfold gX0 at h1
  by_cases e : b < m
  · rw [if_pos e, if_pos e] at h1
    exact h1
  · rw [if_neg e, if_pos ha] at h1
    unfold mx
    rw [if_neg e]
    exact h1
theorem s11_laysGrid (F : Nat) (hF : 50000 ≤ F) {n : Nat} (hn : n ≤ 200) {na : Nat → Nat} {tg : Nat → Nat → Nat} {sh : Nat → Nat → Int} {r36 r71 r83 r84 r85 r86 r88 : Nat → Int32} {q89 q97 : Nat → Int64} (h24 : (r71 24).toInt = (n : Nat)) (hA : rA n na tg r83 r84) (ho : odQ q97) (hs : ∀ i, i < n → ∀ k, k < na i → (r85 (10 * i + k)).toInt = sh i k ∧ 1 ≤ sh i k ∧ sh i k ≤ 60) (hl : ∀ t, t < n → (¬ r86 t = 0 ↔ r36 t = 0)) :
    sp (fnX11_laysGrid F r71 r83 r84 r85 r86 r88 q89 q97) (fun e => ∃ u, rkQ n (sS r36) u (fun b => Int32.ofNat (u b)) e.2.1 ∧ (∀ k, k ≠ 38 → e.1 k = r71 k) ∧ (e.1 38).toInt = (cn (sS r36) n : Nat) ∧ gA (cn (sS r36) n) (gX0 na tg sh u (cn (sS r36) n) (cn (sS r36) n)) e.2.2) := by
  have e0 : (0 : Int32).toInt = 0 := rfl
  have e200 : (200 : Int32).toInt = 200 := rfl
  have e201 : (201 : Int32).toInt = 201 := rfl
  have l1 : (1 : Int64).toInt = 1 := rfl
  have eP : (998244353 : Int64).toInt = 998244353 := rfl
  unfold fnX11_laysGrid
  refine sp_bind (s11_g1 F hF hn (r88 := r88) h24 hl) ?_
  rintro ⟨a71, a88⟩ hJ
  dsimp only at hJ
  refine sp_u2 ?_
  refine sp_bind (s11_g2 F hF q89) (fun z89 hz89 => ?_)
  have hrk := rkQ_ref hn hJ
  obtain ⟨j1, j2, j3⟩ := hJ
  have hml := cn_le (sS r36) n
  have h24' : (a71 24).toInt = (n : Nat) := by rw [j1 24 (by decide)]; exact h24
  generalize hu : uO (sS r36) n = u at hrk
  refine sp_bind (sp_cnt (fun s : Int32 × (Nat → Int64) => s.1) n (by omega) (fun i s => gA (cn (sS r36) n) (gX0 na tg sh u (cn (sS r36) n) (cn (sS r36) i)) s.2) (Q := fun e : Nat → Int64 => gA (cn (sS r36) n) (gX0 na tg sh u (cn (sS r36) n) (cn (sS r36) n)) e) ?_ F 0 _ (by omega) e0 ?_ (by omega)) (fun e he => sp_some ⟨u, hrk, j1, j2, he⟩)
  · rintro i ⟨x, a89⟩ hi hx hcx hx1 hJ
    refine sp_u2 ?_
    dsimp only at hx hcx hx1 hJ
    unfold bdX11_laysGrid_91
    refine sp_ite (fun hz => sp_some ?_) (fun hz => ?_)
    · have := i_le.mp hz
      have : i = n := by omega
      subst this
      exact hJ
    · have hz2 : ¬ (a71 24).toInt ≤ x.toInt := fun z => hz (i_le.mpr z)
      have hin : i < n := by omega
      have hib : mj_ib x 200 = true := mj_ib_of (by omega) (by omega)
      refine sp_pos hib ?_
      rw [hcx]
      refine sp_ite (fun hq => ?_) (fun hq => ?_)
      · have hS : ¬ sS r36 i = true := fun w => (hl i hin).mpr (sS_t.mp w) hq
        refine sp_some ⟨hin, rfl, ?_⟩
        rw [cn_s, if_neg hS, Nat.add_zero]
        exact hJ
      · have hS : sS r36 i = true := sS_t.mpr ((hl i hin).mp hq)
        have hri := cn_lt (sS r36) hin hS
        have ki := hrk.2.1 i hin
        rw [if_pos hS] at ki
        have hui := hrk.2.2 i hin hS
        have hcs : cn (sS r36) (i + 1) = cn (sS r36) i + 1 := by rw [cn_s, if_pos hS]
        rw [hcs]
        have hgo : ∀ c89, gA (cn (sS r36) n) (gX1 na tg sh u (cn (sS r36) n) (cn (sS r36) i) 0) c89 → sp (jnX11_laysGrid_185 F a71 r83 r84 r85 r86 a88 q97 x c89) (Sum.elim (fun s' => i < n ∧ s'.1 = x + 1 ∧ gA (cn (sS r36) n) (gX0 na tg sh u (cn (sS r36) n) (cn (sS r36) i + 1)) s'.2) (fun e : Nat → Int64 => gA (cn (sS r36) n) (gX0 na tg sh u (cn (sS r36) n) (cn (sS r36) n)) e)) := by
          intro c89 hc
          unfold jnX11_laysGrid_185
          exact sp_bind (s11_gArcs F hF hn hA ho hs hl hrk hin hS hx hc) (fun e he => sp_some ⟨hin, rfl, he⟩)
        generalize hmm : cn (sS r36) n = m at *
        generalize hrr : cn (sS r36) i = r at *
        have elc : lc m r = r := by unfold lc; rw [if_pos hri]
        have elm : lc m m = 200 := by unfold lc; rw [if_neg (Nat.lt_irrefl m)]
        have hold : (a89 (201 * r + lc m r)).toInt = 0 := by
          obtain ⟨o1, o2⟩ := hJ r r hri (by omega)
          have e : gX0 na tg sh u m r r r = 0 := by unfold gX0; rw [if_pos hri, if_neg (Nat.lt_irrefl r)]
          rw [e] at o2
          exact cg_eq o2 o1.1 o1.2 (by omega) (by omega)
        have o5 := l_inc1 hold
        have hfd1 : fd 1 := ⟨by decide, by decide⟩
        obtain ⟨c1, hib1⟩ := ix201 ki ki (show r < 200 by omega) (show r < 201 by omega)
        obtain ⟨c2, hib2⟩ := ix201 ki (show (200 : Int32).toInt = ((200 : Nat) : Int) from rfl) (show r < 200 by omega) (show 200 < 201 by omega)
        have c3 : 201 * r + r = 201 * r + lc m r := by rw [elc]
        have c4 : 201 * r + 200 = 201 * r + lc m m := by rw [elm]
        refine sp_pos hib (sp_pos hib (sp_pos hib (sp_pos hib (sp_pos hib1 (sp_pos hib1 ?_)))))
        rw [c1, c2, c3, c4]
        clear c1 c2 c3 c4
        have hm2 : m ≤ 200 := by omega
        have hrm2 : r ≤ m := by omega
        have hi0 : ∀ z : Int32, z = x → (z = 0 ↔ i = 0) := fun z hzx => by
          rw [hzx]
          exact ⟨fun q => by rw [q, e0] at hx; omega, fun q => i_eq.mpr (by rw [e0, hx, q]; rfl)⟩
        have key : ∀ (w : Bool), (w = true ↔ i = 0) → gA m (gX1 na tg sh u m r 0) (if w = true then vp_updL (vp_updL a89 (201 * r + lc m r) (a89 (201 * r + lc m r) + 1 - (a89 (201 * r + lc m r) + 1) / 998244353 * 998244353)) (201 * r + lc m m) 1 else vp_updL a89 (201 * r + lc m r) (a89 (201 * r + lc m r) + 1 - (a89 (201 * r + lc m r) + 1) / 998244353 * 998244353)) := by
          intro w hw a b ha hb
          have base := hJ a b ha hb
          have x01 : ¬ (a = r ∧ b = r) → ¬ (a = r ∧ b = m) → gX1 na tg sh u m r 0 a b = gX0 na tg sh u m r a b := by
            intro n1 n2
            unfold gX1 gX0
            by_cases q1 : b < m
            · rw [if_pos q1, if_pos q1]
              by_cases q2 : b < r
              · rw [if_pos q2, if_pos q2]
              · rw [if_neg q2, if_neg q2]
                by_cases q3 : b = r
                · rw [if_pos q3, if_neg (show ¬ a = b from fun z => n1 ⟨by omega, q3⟩)]; rfl
                · rw [if_neg q3]
            · rw [if_neg q1, if_neg q1]
              by_cases q2 : a < r
              · rw [if_pos q2, if_pos (show a ≤ r by omega)]
              · rw [if_neg q2, if_neg (show ¬ a ≤ r from fun z => n2 ⟨by omega, by omega⟩)]
          have xrr : gX1 na tg sh u m r 0 r r = 1 := by
            unfold gX1
            rw [if_pos hri, if_neg (Nat.lt_irrefl r), if_pos (rfl : r = r), if_pos (rfl : r = r)]; rfl
          have xrm : gX1 na tg sh u m r 0 r m = if i = 0 then 1 else 0 := by
            unfold gX1
            rw [if_neg (Nat.lt_irrefl m), if_pos (Nat.le_refl r), hui]
          have x0m : gX0 na tg sh u m r r m = 0 := by
            unfold gX0
            rw [if_neg (Nat.lt_irrefl m), if_neg (Nat.lt_irrefl r)]
          by_cases hw2 : w = true
          · rw [if_pos hw2, gM_upd hm2 hb (Nat.le_refl m)]
            by_cases q1 : a = r ∧ b = m
            · rw [if_pos q1, q1.1, q1.2, xrm, if_pos (hw.mp hw2), l1]
              exact ⟨hfd1, cg_rf _⟩
            · rw [if_neg q1, gM_upd hm2 hb hrm2]
              by_cases q2 : a = r ∧ b = r
              · rw [if_pos q2, q2.1, q2.2, xrr, o5]
                exact ⟨hfd1, cg_rf _⟩
              · rw [if_neg q2, x01 q2 q1]; exact base
          · rw [if_neg hw2, gM_upd hm2 hb hrm2]
            by_cases q2 : a = r ∧ b = r
            · rw [if_pos q2, q2.1, q2.2, xrr, o5]
              exact ⟨hfd1, cg_rf _⟩
            · rw [if_neg q2]
              by_cases q1 : a = r ∧ b = m
              · rw [q1.1, q1.2] at base ⊢
                rw [xrm, if_neg (fun z => hw2 (hw.mpr z))]
                rw [x0m] at base
                exact base
              · rw [x01 q2 q1]; exact base
        refine sp_ite (fun hy => sp_pos hib (sp_pos hib2 ?_)) (fun hy => ?_)
        · have h9 := key true (iff_of_true rfl ((hi0 x rfl).mp hy))
          rw [if_pos rfl] at h9
          exact hgo _ h9
        · have h9 := key false (iff_of_false (by decide) (fun z => hy ((hi0 x rfl).mpr z)))
          rw [if_neg (by decide)] at h9
          exact hgo _ h9
  · intro a b ha hb
    have h8 := lc_le (m := cn (sS r36) n) (b := b) (by omega)
    unfold gM
    dsimp only
    rw [hz89 _ (by omega)]
    have l0 : (0 : Int64).toInt = 0 := rfl
    rw [l0]
    have c00 : cn (sS r36) 0 = 0 := rfl
    unfold gX0
    rw [c00, if_neg (Nat.not_lt_zero b), if_neg (Nat.not_lt_zero a)]
    refine ⟨⟨by omega, by omega⟩, ?_⟩
    split <;> exact cg_rf _
