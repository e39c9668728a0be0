/-! ===== the class solves ===== -/
theorem sp_dec {σ ε : Type} {body : σ → Option (σ ⊕ ε)} {Q : ε → Prop} (c : σ → Int32) (J : Nat → σ → Prop) (h : ∀ (i : Nat) s, i ≤ 1000 → (c s).toInt = (i : Int) - 1 → J i s → sp (body s) (Sum.elim (fun s' => 0 < i ∧ (c s').toInt = (i : Int) - 2 ∧ J (i - 1) s') Q)) : ∀ (F i : Nat) (s : σ), i ≤ 1000 → (c s).toInt = (i : Int) - 1 → J i s → i < F → sp (mj_it body F s) Q := by
  intro F
  induction F with
  | zero => intro i s _ _ _ h; omega
  | succ F ih =>
    intro i s h1 h2 h3 h4
    refine sp_bind (h i s h1 h2 h3) ?_
    intro a ha
    rcases a with s' | e
    · obtain ⟨g1, g2, g3⟩ := ha
      exact ih (i - 1) s' (by omega) (by omega) g3 (by omega)
    · exact sp_some ha
theorem sm_none {c : Nat} {f : Nat → Int} : ∀ w, w ≤ c + 1 → sm w (fun k => if c < k then f k else 0) = 0 := by
  intro w hw
  refine (sm_eq w (fun k hk => ?_)).trans (sm_zero w)
  rw [if_neg (by omega)]
theorem s2_subst1 (F : Nat) (hF : 50000 ≤ F) {m c : Nat} (hm : m ≤ 200) (hc : c < m) {σ u : Nat → Nat} {x1 y0 z0 : Int32} {r41 r42 r43 r45 r50 : Nat → Int32} (h6 : (r41 6).toInt = (m : Nat)) (hp : pmQ m σ r45) (hfd : ∀ a b, a < m → b ≤ m → fd (cM m σ r50 a b)) (hk : ∀ b, b < m → (r43 b).toInt = (u b : Nat) ∧ u b < 200) (hx1 : x1.toInt = (c : Nat)) (hy : y0.toInt = cM m σ r50 c m) (hz : z0.toInt = ((c + 1 : Nat) : Int)) (hf : ∀ k, c < k → k < m → fd (r42 (u k)).toInt) :
    sp (mj_it (mj_u2 (fun z0 z1 => bdX2_substitute_32 F r41 r42 r43 r45 r50 x1 z0 z1)) F (y0, z0)) (fun e => fd e.toInt ∧ cg e.toInt (cM m σ r50 c m - sm m (fun k => if c < k then cM m σ r50 c k * (r42 (u k)).toInt else 0))) := by
  have e0 : (0 : Int32).toInt = 0 := rfl
  refine sp_cnt (fun s : Int32 × Int32 => s.2) m (by omega) (fun k s => c < k ∧ fd s.1.toInt ∧ cg s.1.toInt (cM m σ r50 c m - sm k (fun k => if c < k then cM m σ r50 c k * (r42 (u k)).toInt else 0))) ?_ F (c + 1) _ (by omega) hz ⟨by omega, by rw [hy]; exact hfd c m hc (Nat.le_refl m), ?_⟩ (by omega)
  · rintro k ⟨y, x⟩ hi hx hcx hxs ⟨j0, j1, j2⟩
    refine sp_u2 ?_
    dsimp only at hx hcx hxs j1 j2
    unfold bdX2_substitute_32
    refine sp_ite (fun hw => sp_some ?_) (fun hw => ?_)
    · have := i_le.mp hw
      have : k = m := by omega
      subst this
      exact ⟨j1, j2⟩
    · have hw2 : ¬ (r41 6).toInt ≤ x.toInt := fun z => hw (i_le.mpr z)
      have hkm : k < m := by omega
      obtain ⟨p1, p2⟩ := hp.1 c hc
      have hl := ix_lt p1 (Nat.le_of_lt hkm) hm
      have hcx1 : x1.toNatClampNeg = c := by rw [i_cl, hx1]; rfl
      have d1 : (r45 c + x).toInt = ((σ c * (m + 1) + k : Nat) : Int) := by rw [i_add (by omega) (by omega), p2, hx]; omega
      have c1 : (r45 c + x).toNatClampNeg = σ c * (m + 1) + k := by rw [i_cl, d1]; rfl
      have hck := hfd c k hc (by omega)
      refine sp_pos (mj_ib_of (by omega) (by omega)) ?_
      rw [hcx1]
      refine sp_pos (mj_ib_of (by omega) (by omega)) ?_
      rw [c1]
      refine sp_ite (fun hq => sp_some ⟨hkm, rfl, by omega, j1, ?_⟩) (fun hq => ?_)
      · have : cM m σ r50 c k = 0 := by unfold cM; rw [hq]; rfl
        rw [sm_s, if_pos j0, this, Int.zero_mul, Int.add_zero]
        exact j2
      · obtain ⟨k1, k2⟩ := hk k hkm
        have c43 : (r43 k).toNatClampNeg = u k := by rw [i_cl, k1]; rfl
        refine sp_pos (mj_ib_of (by omega) (by omega)) ?_
        rw [hcx]
        refine sp_pos (mj_ib_of (by omega) (by omega)) ?_
        rw [c43]
        refine sp_bind (s3_times F hck (hf k j0 hkm)) (fun o7 h7 => ?_)
        refine sp_bind (s3_less F j1 (by rw [h7]; exact fd_md _)) (fun o8 h8 => sp_some ⟨hkm, rfl, by omega, by rw [h8]; exact fd_md _, ?_⟩)
        dsimp only
        rw [sm_s, if_pos j0, h8, h7]
        have hcM : (r50 (σ c * (m + 1) + k)).toInt = cM m σ r50 c k := rfl
        rw [hcM]
        generalize cM m σ r50 c k * (r42 (u k)).toInt = w
        unfold cg at *
        omega
  · rw [sm_none (c + 1) (Nat.le_refl _), Int.sub_zero]
    dsimp only
    rw [hy]
    exact cg_rf _
theorem i_two (d : Nat) : (d : Int) - 1 = ((d + 1 : Nat) : Int) - 2 := by omega
theorem s2_substitute (F : Nat) (hF : 50000 ≤ F) {m : Nat} (hm : m ≤ 200) {σ u : Nat → Nat} {r41 r42 r43 r45 r50 : Nat → Int32} (h6 : (r41 6).toInt = (m : Nat)) (hp : pmQ m σ r45) (hfd : ∀ a b, a < m → b ≤ m → fd (cM m σ r50 a b)) (hk : ∀ b, b < m → (r43 b).toInt = (u b : Nat) ∧ u b < 200) (hinj : ∀ b b', b < m → b' < m → u b = u b' → b = b') :
    sp (fnX2_substitute F r41 r42 r43 r45 r50) (fun e => ∀ c, c < m → fd (e (u c)).toInt ∧ cg (e (u c)).toInt (cM m σ r50 c m - sm m (fun k => if c < k then cM m σ r50 c k * (e (u k)).toInt else 0))) := by
  have e0 : (0 : Int32).toInt = 0 := rfl
  have e1 : (1 : Int32).toInt = 1 := rfl
  have hst : (r41 6 - 1).toInt = (m : Int) - 1 := by rw [i_sub (by omega) (by omega), h6, e1]
  unfold fnX2_substitute
  refine sp_bind (sp_dec (fun s : Int32 × (Nat → Int32) => s.1) (fun i s => i ≤ m ∧ ∀ c, i ≤ c → c < m → fd (s.2 (u c)).toInt ∧ cg (s.2 (u c)).toInt (cM m σ r50 c m - sm m (fun k => if c < k then cM m σ r50 c k * (s.2 (u k)).toInt else 0))) (Q := fun e : Nat → Int32 => ∀ c, c < m → fd (e (u c)).toInt ∧ cg (e (u c)).toInt (cM m σ r50 c m - sm m (fun k => if c < k then cM m σ r50 c k * (e (u k)).toInt else 0))) ?_ F m _ (by omega) hst ⟨Nat.le_refl m, fun c h1 h2 => by omega⟩ (by omega)) (fun e he => sp_some he)
  rintro i ⟨x, a42⟩ hi hx ⟨j1, j2⟩
  refine sp_u2 ?_
  dsimp only at hx j2
  unfold bdX2_substitute_7
  refine sp_ite (fun hw => sp_some fun c hc => ?_) (fun hw => ?_)
  · have := i_lt.mp hw
    exact j2 c (by omega) hc
  · have hw2 : ¬ x.toInt < (0 : Int32).toInt := fun z => hw (i_lt.mpr z)
    have hi0 : 0 < i := by omega
    obtain ⟨d, rfl⟩ : ∃ d, i = d + 1 := ⟨i - 1, by omega⟩
    have hxd : x.toInt = (d : Nat) := by omega
    have hdm : d < m := by omega
    have hcx : x.toNatClampNeg = d := by rw [i_cl, hxd]; rfl
    have hxs : (x + 1).toInt = ((d + 1 : Nat) : Int) := by rw [i_add (by omega) (by omega), hxd, e1]; omega
    obtain ⟨p1, p2⟩ := hp.1 d hdm
    have hl := ix_lt p1 (Nat.le_refl m) hm
    have d1 : (r45 d + r41 6).toInt = ((σ d * (m + 1) + m : Nat) : Int) := by rw [i_add (by omega) (by omega), p2, h6]; omega
    have c1 : (r45 d + r41 6).toNatClampNeg = σ d * (m + 1) + m := by rw [i_cl, d1]; rfl
    have hib : mj_ib x 200 = true := mj_ib_of (by omega) (by omega)
    obtain ⟨k1, k2⟩ := hk d hdm
    have c43 : (r43 d).toNatClampNeg = u d := by rw [i_cl, k1]; rfl
    refine sp_pos hib ?_
    rw [hcx]
    refine sp_pos (mj_ib_of (by omega) (by omega)) ?_
    rw [c1]
    refine sp_bind (s2_subst1 F hF hm hdm h6 hp hfd hk hxd rfl hxs (fun k h1 h2 => (j2 k (by omega) h2).1)) ?_
    rintro o ⟨o1, o2⟩
    refine sp_pos hib (sp_pos (mj_ib_of (by omega) (by omega)) (sp_some ⟨by omega, ?_, by omega, fun c h1 h2 => ?_⟩))
    · exact (i_dec hxd (by omega)).trans (i_two d)
    · dsimp only
      rw [c43]
      have hsum : ∀ c, d ≤ c → c < m → sm m (fun k => if c < k then cM m σ r50 c k * (upd a42 (u d) o (u k)).toInt else 0) = sm m (fun k => if c < k then cM m σ r50 c k * (a42 (u k)).toInt else 0) := by
        intro c h1 h2
        refine sm_eq m (fun k hkm => ?_)
        by_cases e : c < k
        · rw [if_pos e, if_pos e, upd_ne (fun z => by have := hinj k d hkm hdm z; omega)]
        · rw [if_neg e, if_neg e]
      rw [hsum c (by omega) h2]
      by_cases e : c = d
      · rw [e, upd_at]
        exact ⟨o1, o2⟩
      · rw [upd_ne (fun z => e (hinj c d h2 hdm z))]
        exact j2 c (by omega) h2
theorem s2_pass1 (F : Nat) (hF : 50000 ≤ F) {n : Nat} (hn : n ≤ 200) {U : Nat → Bool} {r32 r36 r42 r44 : Nat → Int32} (h2 : (r32 2).toInt = (n : Nat)) (hk : ∀ t, t < n → (r44 t).toInt = if U t then ((cn U t : Nat) : Int) else -1) :
    sp (mj_it (mj_u2 (fun z0 z1 => bdX2_passOn_2 F r32 r36 r44 z0 z1)) F ((0 : Int32), r42)) (fun e => (∀ t, t < n → ¬ U t = true → e t = if t = 0 ∧ r36 0 = 0 then 1 else 0) ∧ ∀ t, t < n → U t = true → e t = r42 t) := by
  have e0 : (0 : Int32).toInt = 0 := rfl
  have c0 : (0 : Int32).toNatClampNeg = 0 := rfl
  refine sp_cnt (fun s : Int32 × (Nat → Int32) => s.1) n (by omega) (fun i s => (∀ t, t < i → ¬ U t = true → s.2 t = if t = 0 ∧ r36 0 = 0 then 1 else 0) ∧ ∀ t, t < n → U t = true → s.2 t = r42 t) ?_ F 0 _ (by omega) e0 ⟨fun t ht => absurd ht (Nat.not_lt_zero t), fun _ _ _ => rfl⟩ (by omega)
  rintro i ⟨x, a42⟩ hi hx hcx hxs ⟨j1, j2⟩
  refine sp_u2 ?_
  dsimp only at hx hcx hxs j1 j2
  have step : ∀ w : Int32, i < n → ¬ U i = true → (w = if i = 0 ∧ r36 0 = 0 then 1 else 0) → (∀ t, t < i + 1 → ¬ U t = true → upd a42 i w t = if t = 0 ∧ r36 0 = 0 then 1 else 0) ∧ ∀ t, t < n → U t = true → upd a42 i w t = r42 t := by
    intro w hin hU hw
    refine ⟨fun t ht hUt => ?_, fun t ht hUt => ?_⟩
    · by_cases e : t = i
      · rw [e, upd_at]; exact hw
      · rw [upd_ne e]; exact j1 t (by omega) hUt
    · by_cases e : t = i
      · rw [e] at hUt; exact absurd hUt hU
      · rw [upd_ne e]; exact j2 t ht hUt
  unfold bdX2_passOn_2
  refine sp_ite (fun hw => sp_some ?_) (fun hw => ?_)
  · have := i_le.mp hw
    have : i = n := by omega
    subst this
    exact ⟨j1, j2⟩
  · have hw2 : ¬ (r32 2).toInt ≤ x.toInt := fun z => hw (i_le.mpr z)
    have hin : i < n := by omega
    have hib : mj_ib x 200 = true := mj_ib_of (by omega) (by omega)
    have kt := hk i hin
    refine sp_pos hib ?_
    rw [hcx, c0]
    refine sp_ite (fun hq => ?_) (fun hq => ?_)
    · have hq1 : (r44 i).toInt = -1 := by rw [hq]; rfl
      clear hq
      have hU : ¬ U i = true := fun w => by rw [if_pos w] at kt; omega
      refine sp_ite (fun hy => ?_) (fun hy => ?_)
      · have hi0 : i = 0 := by rw [hy] at hx; omega
        refine sp_pos (by decide) (sp_ite (fun hv => sp_pos hib (sp_some ⟨hin, rfl, step _ hin hU ?_⟩)) (fun hv => sp_pos hib (sp_some ⟨hin, rfl, step _ hin hU ?_⟩)))
        · rw [if_pos ⟨hi0, hv⟩]
        · rw [if_neg (fun z => hv z.2)]
      · refine sp_pos hib (sp_some ⟨hin, rfl, step _ hin hU ?_⟩)
        rw [if_neg (fun z => hy (i_eq.mpr (by omega)))]
    · have hq1 : ¬ (r44 i).toInt = -1 := fun w => hq (i_eq.mpr w)
      clear hq
      have hU : U i = true := by
        by_cases w : U i = true
        · exact w
        · rw [if_neg w] at kt; exact absurd kt hq1
      refine sp_some ⟨hin, rfl, fun t ht hUt => ?_, j2⟩
      by_cases e : t = i
      · rw [e] at hUt; exact absurd hU hUt
      · exact j1 t (by omega) hUt
def pI (n : Nat) (na : Nat → Nat) (tg : Nat → Nat → Nat) (sh : Nat → Nat → Int) (r36 : Nat → Int32) (U : Nat → Bool) (i : Nat) (f : Int) (b42 : Nat → Int32) (k : Nat) (a42 : Nat → Int32) : Prop := ∀ t, t < n → fd (a42 t).toInt ∧ (U t = true → a42 t = b42 t) ∧ (¬ r36 t = 0 → a42 t = b42 t) ∧ (r36 t = 0 → ¬ U t = true → cg (a42 t).toInt ((b42 t).toInt + sm k (fun j => if tg i j = t then f * sh i j else 0)))
theorem s2_pass2 (F : Nat) (hF : 50000 ≤ F) {n : Nat} (hn : n ≤ 200) {fr na : Nat → Nat} {tg : Nat → Nat → Nat} {sh : Nat → Nat → Int} {U : Nat → Bool} {r36 r37 r38 r39 r44 b42 : Nat → Int32} (hA : cA n fr na tg r37 r38) (hs : ∀ i, i < n → ∀ k, k < na i → (r39 (fr i + k)).toInt = sh i k ∧ 1 ≤ sh i k ∧ sh i k ≤ 60) (hk : ∀ t, t < n → (r44 t).toInt = if U t then ((cn U t : Nat) : Int) else -1) {x2 x3 x4 : Int32} {i : Nat} (hin : i < n) (hx3 : x3.toInt = (i : Nat)) (hx4 : fd x4.toInt) (hb : ∀ t, t < n → fd (b42 t).toInt) :
    sp (mj_it (mj_u2 (fun z0 z1 => bdX2_passOn_86 F r36 r37 r38 r39 r44 x2 x3 x4 z0 z1)) F (r37 i, b42)) (fun e => pI n na tg sh r36 U i x4.toInt b42 (na i) e) := by
  have e1 : (1 : Int32).toInt = 1 := rfl
  obtain ⟨a1, a2, a3, a4⟩ := hA i hin
  have y1 : (x3 + 1).toInt = ((i + 1 : Nat) : Int) := by rw [i_add (by omega) (by omega), hx3, e1]; omega
  have cy1 : (x3 + 1).toNatClampNeg = i + 1 := by rw [i_cl, y1]; rfl
  refine sp_cnt (fun s : Int32 × (Nat → Int32) => s.1) (fr i + na i) (by omega) (fun j s => ∃ k, j = fr i + k ∧ pI n na tg sh r36 U i x4.toInt b42 k s.2) ?_ F (fr i) _ (by omega) a1 ⟨0, rfl, fun t ht => ⟨hb t ht, fun _ => rfl, fun _ => rfl, fun _ _ => by show cg _ (_ + 0); rw [Int.add_zero]; exact cg_rf _⟩⟩ (by omega)
  rintro j ⟨z, a42⟩ hj hz hcz hz1 ⟨k, rfl, hJ⟩
  refine sp_u2 ?_
  dsimp only at hz hcz hz1 hJ
  unfold bdX2_passOn_86
  refine sp_pos (mj_ib_of (by omega) (by omega)) ?_
  rw [cy1]
  refine sp_ite (fun hy => sp_some ?_) (fun hy => ?_)
  · have := i_le.mp hy
    have : k = na i := by omega
    subst this
    exact hJ
  · have hy2 : ¬ (r37 (i + 1)).toInt ≤ z.toInt := fun w => hy (i_le.mpr w)
    have hkn : k < na i := by omega
    obtain ⟨t1, t2⟩ := a4 k hkn
    obtain ⟨s1, s2, s3⟩ := hs i hin k hkn
    have hib : mj_ib z 2000 = true := mj_ib_of (by omega) (by omega)
    refine sp_pos hib ?_
    rw [hcz]
    have same : ∀ t, ¬ (tg i k = t) → sm (k + 1) (fun j => if tg i j = t then x4.toInt * sh i j else 0) = sm k (fun j => if tg i j = t then x4.toInt * sh i j else 0) := by
      intro t ht
      rw [sm_s, if_neg ht, Int.add_zero]
    have hit : sm (k + 1) (fun j => if tg i j = tg i k then x4.toInt * sh i j else 0) = sm k (fun j => if tg i j = tg i k then x4.toInt * sh i j else 0) + x4.toInt * sh i k := by
      rw [sm_s, if_pos rfl]
    generalize ht : tg i k = t at *
    have ct : (r38 (fr i + k)).toNatClampNeg = t := by rw [i_cl, t1]; rfl
    have hibt : mj_ib (r38 (fr i + k)) 200 = true := mj_ib_of (by omega) (by omega)
    have kt := hk t t2
    have skip : (¬ (r36 t = 0 ∧ ¬ U t = true)) → pI n na tg sh r36 U i x4.toInt b42 (k + 1) a42 := by
      intro hno w hw
      obtain ⟨g1, g2, g3, g4⟩ := hJ w hw
      refine ⟨g1, g2, g3, fun q1 q2 => ?_⟩
      rw [same w (fun q => hno (by rw [q]; exact ⟨q1, q2⟩))]
      exact g4 q1 q2
    refine sp_pos hibt ?_
    rw [ct]
    refine sp_ite (fun hq => sp_pos hibt ?_) (fun hq => sp_some ⟨by omega, rfl, k + 1, by omega, skip (fun w => hq w.1)⟩)
    refine sp_ite (fun hv => ?_) (fun hv => ?_)
    · have hq1 : (r44 t).toInt = -1 := by rw [hv]; rfl
      clear hv
      have hU : ¬ U t = true := fun w => by rw [if_pos w] at kt; omega
      obtain ⟨g1, g2, g3, g4⟩ := hJ t t2
      refine sp_pos hibt (sp_pos hib ?_)
      refine sp_bind (s3_times F hx4 (by rw [s1]; exact ⟨by omega, by omega⟩)) (fun o19 h19 => ?_)
      refine sp_bind (s3_plus F g1 (by rw [h19]; exact fd_md _)) (fun o20 h20 => sp_pos hibt (sp_some ⟨by omega, rfl, k + 1, by omega, fun w hw => ?_⟩))
      dsimp only
      by_cases e : w = t
      · subst e
        rw [upd_at]
        refine ⟨by rw [h20]; exact fd_md _, fun q => absurd q hU, fun q => absurd hq q, fun q1 q2 => ?_⟩
        have g5 := g4 q1 q2
        rw [hit, h20, h19, s1]
        generalize x4.toInt * sh i k = p at *
        unfold cg at *
        omega
      · rw [upd_ne e, same w (fun q => e q.symm)]
        exact hJ w hw
    · have hq1 : ¬ (r44 t).toInt = -1 := fun w => hv (i_eq.mpr w)
      clear hv
      refine sp_some ⟨by omega, rfl, k + 1, by omega, skip (fun w => ?_)⟩
      rw [if_neg w.2] at kt
      exact hq1 kt
