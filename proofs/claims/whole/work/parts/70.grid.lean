/-! ===== the reference lays its grid ===== -/
def lc (m b : Nat) : Nat := if b < m then b else 200
theorem lc_le {m b : Nat} (hm : m ≤ 200) : lc m b ≤ 200 := by unfold lc; split <;> omega
theorem lc_ne {m b b' : Nat} (hm : m ≤ 200) (hb : b ≤ m) (hb' : b' ≤ m) (h : b ≠ b') : lc m b ≠ lc m b' := by unfold lc; split <;> split <;> omega
def gM (m : Nat) (q : Nat → Int64) (a b : Nat) : Int := (q (201 * a + lc m b)).toInt
def gJ (S : Nat → Bool) (r71 : Nat → Int32) (i : Nat) (a71 a88 : Nat → Int32) : Prop := (∀ k, k ≠ 38 → a71 k = r71 k) ∧ (a71 38).toInt = (cn S i : Nat) ∧ ∀ j, j < i → (a88 j).toInt = if S j then ((cn S j : Nat) : Int) else -1
theorem s11_g1 (F : Nat) (hF : 50000 ≤ F) {n : Nat} (hn : n ≤ 200) {r36 r71 r86 r88 : Nat → Int32} (h24 : (r71 24).toInt = (n : Nat)) (hl : ∀ t, t < n → (¬ r86 t = 0 ↔ r36 t = 0)) :
    sp (mj_it (mj_u2 (fun z0 => (mj_u2 (fun z1 z2 => bdX11_laysGrid_7 F r86 z0 z1 z2)))) F ((0 : Int32), (upd r71 38 (0 : Int32)), r88)) (fun e => gJ (sS r36) r71 n e.1 e.2) := by
  have e0 : (0 : Int32).toInt = 0 := rfl
  have e1 : (1 : Int32).toInt = 1 := rfl
  refine sp_cnt (fun s : Int32 × (Nat → Int32) × (Nat → Int32) => s.1) n (by omega) (fun i s => gJ (sS r36) r71 i s.2.1 s.2.2) ?_ F 0 _ (by omega) e0 ?_ (by omega)
  · rintro i ⟨x, a71, a88⟩ hi hx hcx hx1 ⟨j1, j2, j3⟩
    refine sp_u2 (sp_u2 ?_)
    dsimp only at hx hcx hx1 j1 j2 j3
    have hcl := cn_le (sS r36) i
    have g24 : (a71 24).toInt = (n : Nat) := by rw [j1 24 (by decide)]; exact h24
    unfold bdX11_laysGrid_7
    refine sp_ite (fun hz => sp_some ?_) (fun hz => ?_)
    · have := i_le.mp hz
      have : i = n := by omega
      subst this
      exact ⟨j1, j2, j3⟩
    · have hz2 : ¬ (a71 24).toInt ≤ x.toInt := fun z => hz (i_le.mpr z)
      have hin : i < n := by omega
      have hib : mj_ib x 200 = true := mj_ib_of (by omega) (by omega)
      refine sp_pos hib ?_
      unfold jnX11_laysGrid_37
      rw [hcx]
      refine sp_ite (fun hq => ?_) (fun hq => ?_)
      · have hS : ¬ sS r36 i = true := fun z => (hl i hin).mpr (sS_t.mp z) hq
        refine sp_pos hib (sp_pos hib (sp_pos hq (sp_some ⟨hin, rfl, fun k hk => ?_, ?_, fun j hj => ?_⟩)))
        · dsimp only; rw [upd_ne hk]; exact j1 k hk
        · dsimp only; rw [upd_at, cn_s, if_neg hS, i_add (by omega) (by omega), e0, j2]; omega
        · dsimp only
          by_cases e : j = i
          · rw [e, upd_at, if_neg hS]; rfl
          · rw [upd_ne e]; exact j3 j (by omega)
      · have hS : sS r36 i = true := sS_t.mpr ((hl i hin).mp hq)
        refine sp_pos hib (sp_pos hib (sp_neg hq (sp_some ⟨hin, rfl, fun k hk => ?_, ?_, fun j hj => ?_⟩)))
        · dsimp only; rw [upd_ne hk]; exact j1 k hk
        · dsimp only; rw [upd_at, cn_s, if_pos hS, i_add (by omega) (by omega), e1, j2]; omega
        · dsimp only
          by_cases e : j = i
          · rw [e, upd_at, if_pos hS]; exact j2
          · rw [upd_ne e]; exact j3 j (by omega)
  · exact ⟨fun k hk => upd_ne hk, by show (upd r71 38 (0 : Int32) 38).toInt = _; rw [upd_at]; rfl, fun j hj => absurd hj (Nat.not_lt_zero j)⟩
theorem s11_g2 (F : Nat) (hF : 50000 ≤ F) (q89 : Nat → Int64) : sp (mj_it (mj_u2 (fun z0 z1 => bdX11_laysGrid_69 F z0 z1)) F ((0 : Int32), q89)) (fun e => ∀ j, j < 40200 → e j = 0) := by
  have e0 : (0 : Int32).toInt = 0 := rfl
  have e4 : (40200 : Int32).toInt = 40200 := rfl
  refine sp_cnt (fun s : Int32 × (Nat → Int64) => s.1) 40200 (by omega) (fun i s => ∀ u, u < i → s.2 u = 0) ?_ F 0 _ (by omega) e0 (fun u hu => absurd hu (Nat.not_lt_zero u)) (by omega)
  rintro i ⟨x, a⟩ hi hx hcx hx1 hJ
  refine sp_u2 ?_
  dsimp only at hx hcx hx1 hJ
  unfold bdX11_laysGrid_69
  refine sp_ite (fun hz => sp_some ?_) (fun hz => ?_)
  · have := i_le.mp hz
    have : i = 40200 := by omega
    subst this
    exact hJ
  · have hz2 : ¬ (40200 : Int32).toInt ≤ x.toInt := fun z => hz (i_le.mpr z)
    refine sp_pos (mj_ib_of (by omega) (by omega)) (sp_some ⟨by omega, rfl, fun u hu => ?_⟩)
    dsimp only
    rw [hcx]
    by_cases hui : u = i
    · rw [hui, updL_at]
    · rw [updL_ne hui]; exact hJ u (by omega)
/-- the grid behind the first r unknowns -/
def gX0 (na : Nat → Nat) (tg : Nat → Nat → Nat) (sh : Nat → Nat → Int) (u : Nat → Nat) (m r a b : Nat) : Int := if b < m then (if b < r then mx na tg sh u m a b else 0) else (if a < r then (if u a = 0 then 1 else 0) else 0)
/-- .. and k arcs of the next -/
def gX1 (na : Nat → Nat) (tg : Nat → Nat → Nat) (sh : Nat → Nat → Int) (u : Nat → Nat) (m r k a b : Nat) : Int := if b < m then (if b < r then mx na tg sh u m a b else if b = r then (if a = b then 1 else 0) - sm k (fun j => if tg (u b) j = u a then 715408453 * sh (u b) j else 0) else 0) else (if a ≤ r then (if u a = 0 then 1 else 0) else 0)
def gA (m : Nat) (X : Nat → Nat → Int) (q : Nat → Int64) : Prop := ∀ a b, a < m → b ≤ m → fd (gM m q a b) ∧ cg (gM m q a b) (X a b)
theorem gX_next {na : Nat → Nat} {tg : Nat → Nat → Nat} {sh : Nat → Nat → Int} {u : Nat → Nat} {m r : Nat} (hr : r < m) (a b : Nat) : gX1 na tg sh u m r (na (u r)) a b = gX0 na tg sh u m (r + 1) a b := by
  unfold gX1 gX0
  by_cases e1 : b < m
  · rw [if_pos e1, if_pos e1]
    by_cases e2 : b < r
    · rw [if_pos e2, if_pos (show b < r + 1 by omega)]
    · rw [if_neg e2]
      by_cases e3 : b = r
      · rw [if_pos e3, if_pos (show b < r + 1 by omega)]
        unfold mx
        rw [if_pos e1, e3]
      · rw [if_neg e3, if_neg (show ¬ b < r + 1 by omega)]
  · rw [if_neg e1, if_neg e1]
    by_cases e2 : a ≤ r
    · rw [if_pos e2, if_pos (show a < r + 1 by omega)]
    · rw [if_neg e2, if_neg (show ¬ a < r + 1 by omega)]
theorem gX1_col {na : Nat → Nat} {tg : Nat → Nat → Nat} {sh : Nat → Nat → Int} {u : Nat → Nat} {m r k a b : Nat} (h : ¬ (b = r ∧ tg (u r) k = u a)) : gX1 na tg sh u m r (k + 1) a b = gX1 na tg sh u m r k a b := by
  unfold gX1
  by_cases e1 : b < m
  · rw [if_pos e1, if_pos e1]
    by_cases e2 : b < r
    · rw [if_pos e2, if_pos e2]
    · by_cases e3 : b = r
      · rw [if_neg e2, if_neg e2, if_pos e3, if_pos e3, sm_s, e3]
        rw [if_neg (show ¬ tg (u r) k = u a from fun z => h ⟨e3, z⟩), Int.add_zero]
      · rw [if_neg e2, if_neg e2, if_neg e3, if_neg e3]
  · rw [if_neg e1, if_neg e1]
theorem gX1_hit {na : Nat → Nat} {tg : Nat → Nat → Nat} {sh : Nat → Nat → Int} {u : Nat → Nat} {m r k a : Nat} (hr : r < m) (h : tg (u r) k = u a) : gX1 na tg sh u m r (k + 1) a r = gX1 na tg sh u m r k a r - 715408453 * sh (u r) k := by
  unfold gX1
  rw [if_pos hr, if_pos hr, if_neg (Nat.lt_irrefl r), if_neg (Nat.lt_irrefl r), if_pos (rfl : r = r), if_pos (rfl : r = r), sm_s, if_pos h]
  omega
theorem gM_upd {m a b a' b' : Nat} {q : Nat → Int64} {v : Int64} (hm : m ≤ 200) (hb : b ≤ m) (hb' : b' ≤ m) : gM m (vp_updL q (201 * a' + lc m b') v) a b = if a = a' ∧ b = b' then v.toInt else gM m q a b := by
  unfold gM
  have h1 := lc_le (b := b) hm
  have h2 := lc_le (b := b') hm
  by_cases e : a = a' ∧ b = b'
  · rw [if_pos e, e.1, e.2, updL_at]
  · rw [if_neg e, updL_ne]
    intro z
    apply e
    have : a = a' := by omega
    refine ⟨this, ?_⟩
    by_cases e2 : b = b'
    · exact e2
    · exact absurd (show lc m b = lc m b' by omega) (lc_ne hm hb hb' e2)
theorem s11_gArcs (F : Nat) (hF : 50000 ≤ F) {n : Nat} (hn : n ≤ 200) {na : Nat → Nat} {tg : Nat → Nat → Nat} {sh : Nat → Nat → Int} {r36 r83 r84 r85 r86 r88 : Nat → Int32} {q97 b89 : Nat → Int64} (hA : rA n na tg r83 r84) (ho : odQ q97) (hs : ∀ i, i < n → ∀ k, k < na i → (r85 (10 * i + k)).toInt = sh i k ∧ 1 ≤ sh i k ∧ sh i k ≤ 60) (hl : ∀ t, t < n → (¬ r86 t = 0 ↔ r36 t = 0)) {u : Nat → Nat} (hk : rkQ n (sS r36) u (fun b => Int32.ofNat (u b)) r88) {x1 : Int32} {i : Nat} (hin : i < n) (hS : sS r36 i = true) (hx1 : x1.toInt = (i : Nat)) (h0 : gA (cn (sS r36) n) (gX1 na tg sh u (cn (sS r36) n) (cn (sS r36) i) 0) b89) :
    sp (mj_it (mj_u2 (fun z0 z1 => bdX11_laysGrid_187 F r83 r84 r85 r86 r88 q97 x1 z0 z1)) F ((0 : Int32), b89)) (fun e => gA (cn (sS r36) n) (gX0 na tg sh u (cn (sS r36) n) (cn (sS r36) i + 1)) e) := by
  have e0 : (0 : Int32).toInt = 0 := rfl
  have e10 : (10 : Int32).toInt = 10 := rfl
  have e201 : (201 : Int32).toInt = 201 := rfl
  have eP : (998244353 : Int64).toInt = 998244353 := rfl
  obtain ⟨k1, k2, k3⟩ := hk
  have hml := cn_le (sS r36) n
  have hri := cn_lt (sS r36) hin hS
  have hui := k3 i hin hS
  generalize hmm : cn (sS r36) n = m at *
  generalize hrr : cn (sS r36) i = r at *
  obtain ⟨a1, a2, a3⟩ := hA i hin
  have hcx1 : x1.toNatClampNeg = i := by rw [i_cl, hx1]; rfl
  have hib1 : mj_ib x1 200 = true := mj_ib_of (by omega) (by omega)
  refine sp_cnt (fun s : Int32 × (Nat → Int64) => s.1) (na i) (by omega) (fun k s => gA m (gX1 na tg sh u m r k) s.2) ?_ F 0 _ (by omega) e0 h0 (by omega)
  rintro k ⟨z, a89⟩ hj hz hcz hz1 hJ
  refine sp_u2 ?_
  dsimp only at hz hcz hz1 hJ
  unfold bdX11_laysGrid_187
  refine sp_pos hib1 ?_
  rw [hcx1]
  refine sp_ite (fun hy => sp_some ?_) (fun hy => ?_)
  · have := i_le.mp hy
    have : k = na i := by omega
    subst this
    intro a b ha hb
    have h9 := hJ a b ha hb
    rw [← hui, gX_next hri] at h9
    exact h9
  · have hy2 : ¬ (r83 i).toInt ≤ z.toInt := fun w => hy (i_le.mpr w)
    have hkn : k < na i := by omega
    obtain ⟨t1, t2⟩ := a3 k hkn
    obtain ⟨s1, s2, s3⟩ := hs i hin k hkn
    obtain ⟨c1, hib2⟩ := ix10 hx1 hz (show i < 200 by omega) (show k < 10 by omega)
    refine sp_pos hib2 ?_
    rw [c1]
    clear c1
    generalize ht : tg i k = t at *
    have ct : (r84 (10 * i + k)).toNatClampNeg = t := by rw [i_cl, t1]; rfl
    have hibt : mj_ib (r84 (10 * i + k)) 200 = true := mj_ib_of (by omega) (by omega)
    refine sp_pos hibt ?_
    rw [ct]
    have kt := k2 t t2
    have ki := k2 i hin
    rw [if_pos hS, hrr] at ki
    refine sp_ite (fun hq => ?_) (fun hq => ?_)
    · have hU : ¬ sS r36 t = true := fun w => (hl t t2).mpr (sS_t.mp w) hq
      refine sp_some ⟨by omega, rfl, fun a b ha hb => ?_⟩
      rw [gX1_col (fun w => hU (by rw [← ht, ← hui, w.2]; exact (k1 a ha).2.2.1))]
      exact hJ a b ha hb
    · have hU : sS r36 t = true := sS_t.mpr ((hl t t2).mp hq)
      rw [if_pos hU] at kt
      have hct := cn_lt (sS r36) t2 hU
      rw [hmm] at hct
      have elc : lc m r = r := by unfold lc; rw [if_pos hri]
      have hcu : ∃ z : Nat, cn (sS r36) t = z := ⟨_, rfl⟩
      obtain ⟨ct0, hct0⟩ := hcu
      rw [hct0] at kt hct
      have hib4 : mj_ib (r85 (10 * i + k)) 61 = true := mj_ib_of (by omega) (by omega)
      obtain ⟨o1, o2⟩ := hJ ct0 r hct (by omega)
      have cs : (r85 (10 * i + k)).toNatClampNeg = (sh i k).toNat := by rw [i_cl, s1]
      have hod := ho (sh i k).toNat (by omega)
      have esh : (((sh i k).toNat : Nat) : Int) = sh i k := by omega
      rw [esh] at hod
      have hk9 : ∀ w : Nat, w < na i → True := fun _ _ => trivial
      have hua : ∀ a, a < m → tg (u r) k = u a → a = ct0 := by
        intro a ha w
        have h8 := (k1 a ha).2.2.2
        rw [← w, hui, ht, hct0] at h8
        exact h8.symm
      have hut : tg (u r) k = u ct0 := by rw [hui, ht, ← hct0, k3 t t2 hU]
      have hsub := l_subm (A := a89 (201 * ct0 + lc m r)) (B := q97 (sh i k).toNat) o1 (by rw [hod]; exact fd_md _)
      rw [hod] at hsub
      have o2' : cg (a89 (201 * ct0 + lc m r)).toInt (gX1 na tg sh u m r k ct0 r) := o2
      have hnew : fd ((a89 (201 * ct0 + lc m r)).toInt - sh i k * 715408453 % 998244353) ∨ True := Or.inr trivial
      have hfin : cg (((a89 (201 * ct0 + lc m r)).toInt - sh i k * 715408453 % 998244353) % 998244353) (gX1 na tg sh u m r (k + 1) ct0 r) := by
        rw [gX1_hit hri hut, hui, Int.mul_comm 715408453]
        generalize sh i k * 715408453 = w at *
        clear hsub hod hnew
        unfold cg at *
        omega
      have hkk : k + 1 ≤ na i ∧ k < na i := by omega
      have hm2 : m ≤ 200 := by omega
      have hr2 : r ≤ m := by omega
      obtain ⟨c2, hib3⟩ := ix201 kt ki (show ct0 < 200 by omega) (show r < 201 by omega)
      refine sp_pos hibt (sp_pos hib1 (sp_pos hib3 (sp_pos hib2 (sp_pos hib4 (sp_pos hib3 (sp_some ⟨hkk.2, rfl, fun a b ha hb => ?_⟩))))))
      dsimp only
      rw [c2, cs]
      clear c2
      have c3 : 201 * ct0 + r = 201 * ct0 + lc m r := by rw [elc]
      rw [c3, gM_upd hm2 hb hr2]
      by_cases e : a = ct0 ∧ b = r
      · rw [if_pos e, e.1, e.2, hsub]
        exact ⟨fd_md _, hfin⟩
      · rw [if_neg e, gX1_col (fun w => e ⟨hua a ha w.2, w.1⟩)]
        exact hJ a b ha hb
