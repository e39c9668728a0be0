/-! ===== the class solves: passing on, sums, the whole ===== -/
theorem s2_passOn (F : Nat) (hF : 50000 ≤ F) {n : Nat} (hn : n ≤ 200) {fr na : Nat → Nat} {tg : Nat → Nat → Nat} {sh : Nat → Nat → Int} {u : Nat → Nat} {r32 r36 r37 r38 r39 r41 r42 r43 r44 : Nat → Int32} (h2 : (r32 2).toInt = (n : Nat)) (hA : cA n fr na tg r37 r38) (hs : ∀ i, i < n → ∀ k, k < na i → (r39 (fr i + k)).toInt = sh i k ∧ 1 ≤ sh i k ∧ sh i k ≤ 60) (hk : rkQ n (uK r36 na) u r43 r44) (h6 : (r41 6).toInt = (cn (uK r36 na) n : Nat)) (hf : ∀ b, b < cn (uK r36 na) n → fd (r42 (u b)).toInt) :
    sp (fnX2_passOn F r32 r36 r37 r38 r39 r41 r42 r43 r44) (fun e => ∀ t, t < n → fd (e t).toInt ∧ (uK r36 na t = true → e t = r42 t) ∧ (¬ r36 t = 0 → e t = 0) ∧ (r36 t = 0 → ¬ uK r36 na t = true → cg (e t).toInt ((if t = 0 then 1 else 0) + sm (cn (uK r36 na) n) (fun b => sm (na (u b)) (fun j => if tg (u b) j = t then (r42 (u b)).toInt * 715408453 * sh (u b) j else 0))))) := by
  have e0 : (0 : Int32).toInt = 0 := rfl
  obtain ⟨k1, k2, k3⟩ := hk
  have hml := cn_le (uK r36 na) n
  unfold fnX2_passOn
  refine sp_bind (s2_pass1 F hF hn (r42 := r42) h2 k2) ?_
  rintro b42 ⟨b1, b2⟩
  refine sp_bind (sp_cnt (fun s : Int32 × (Nat → Int32) => s.1) (cn (uK r36 na) n) (by omega) (fun r s => ∀ t, t < n → fd (s.2 t).toInt ∧ (uK r36 na t = true → s.2 t = r42 t) ∧ (¬ r36 t = 0 → s.2 t = 0) ∧ (r36 t = 0 → ¬ uK r36 na t = true → cg (s.2 t).toInt ((if t = 0 then 1 else 0) + sm r (fun b => sm (na (u b)) (fun j => if tg (u b) j = t then (r42 (u b)).toInt * 715408453 * sh (u b) j else 0))))) (Q := fun e : Nat → Int32 => ∀ t, t < n → fd (e t).toInt ∧ (uK r36 na t = true → e t = r42 t) ∧ (¬ r36 t = 0 → e t = 0) ∧ (r36 t = 0 → ¬ uK r36 na t = true → cg (e t).toInt ((if t = 0 then 1 else 0) + sm (cn (uK r36 na) n) (fun b => sm (na (u b)) (fun j => if tg (u b) j = t then (r42 (u b)).toInt * 715408453 * sh (u b) j else 0))))) ?_ F 0 _ (by omega) e0 ?_ (by omega)) (fun e he => sp_some he)
  · rintro r ⟨x, a42⟩ hi hx hcx hxs hJ
    refine sp_u2 ?_
    dsimp only at hx hcx hxs hJ
    unfold bdX2_passOn_52
    refine sp_ite (fun hw => sp_some ?_) (fun hw => ?_)
    · have := i_le.mp hw
      have : r = cn (uK r36 na) n := by omega
      subst this
      exact hJ
    · have hw2 : ¬ (r41 6).toInt ≤ x.toInt := fun z => hw (i_le.mpr z)
      have hrm : r < cn (uK r36 na) n := by omega
      obtain ⟨q1, q2, q3, q4⟩ := k1 r hrm
      have c43 : (r43 r).toNatClampNeg = u r := by rw [i_cl, q1]; rfl
      refine sp_pos (mj_ib_of (by omega) (by omega)) ?_
      rw [hcx]
      refine sp_pos (mj_ib_of (by omega) (by omega)) ?_
      rw [c43]
      have hur : a42 (u r) = r42 (u r) := (hJ (u r) q2).2.1 q3
      rw [hur]
      refine sp_bind (s3_sixtieth F (hf r hrm)) (fun o25 h25 => ?_)
      refine sp_pos (mj_ib_of (by omega) (by omega)) ?_
      refine sp_bind (s2_pass2 F hF hn (U := uK r36 na) (x2 := x) hA hs k2 q2 q1 (by rw [h25]; exact fd_md _) (fun t ht => (hJ t ht).1)) (fun e he => sp_some ⟨hrm, rfl, fun t ht => ?_⟩)
      obtain ⟨g1, g2, g3, g4⟩ := he t ht
      obtain ⟨f1, f2, f3, f4⟩ := hJ t ht
      refine ⟨g1, fun q => (g2 q).trans (f2 q), fun q => (g3 q).trans (f3 q), fun p1 p2 => ?_⟩
      rw [sm_s]
      have h9 : cg (sm (na (u r)) (fun j => if tg (u r) j = t then o25.toInt * sh (u r) j else 0)) (sm (na (u r)) (fun j => if tg (u r) j = t then (r42 (u r)).toInt * 715408453 * sh (u r) j else 0)) := by
        refine sm_cg _ (fun j _ => ?_)
        split
        · rw [h25]; exact cg_mul (cg_md _) (cg_rf _)
        · exact cg_rf _
      have h10 := g4 p1 p2
      have h11 := f4 p1 p2
      dsimp only
      have h12 := cg_add h11 h9
      have h13 := cg_tr h10 h12
      rw [Int.add_assoc] at h13
      exact h13
  · intro t ht
    dsimp only
    by_cases e : uK r36 na t = true
    · rw [b2 t ht e]
      have hct := cn_lt (uK r36 na) ht e
      have := hf (cn (uK r36 na) t) hct
      rw [k3 t ht e] at this
      exact ⟨this, fun _ => rfl, fun q => absurd (uK_t.mp e).1 q, fun _ q => absurd e q⟩
    · rw [b1 t ht e]
      have z0 : sm 0 (fun b => sm (na (u b)) (fun j => if tg (u b) j = t then (r42 (u b)).toInt * 715408453 * sh (u b) j else 0)) = 0 := rfl
      rw [z0, Int.add_zero]
      by_cases q : t = 0
      · subst q
        by_cases q2 : r36 0 = 0
        · rw [if_pos ⟨rfl, q2⟩, if_pos rfl]
          exact ⟨⟨by decide, by decide⟩, fun p => absurd p e, fun p => absurd q2 p, fun _ _ => cg_rf _⟩
        · rw [if_neg (fun w => q2 w.2)]
          exact ⟨⟨by decide, by decide⟩, fun p => absurd p e, fun _ => rfl, fun p => absurd p q2⟩
      · rw [if_neg (fun w => q w.1), if_neg q]
        exact ⟨⟨by decide, by decide⟩, fun p => absurd p e, fun _ => rfl, fun _ _ => cg_rf _⟩
def br_ (r33 : Nat → Int32) (c : Int32) (t : Nat) : Bool := decide (¬ r33 t ≤ c)
def go_ (r33 : Nat → Int32) (c : Int32) (t : Nat) : Bool := decide (¬ r33 t = c) && decide (r33 t ≤ c)
theorem at_s (i : Nat) (en : Nat → Bool) (g : Nat → Int) : at_ (i + 1) en g = at_ i en g + if en i then g i else 0 := rfl
def suQ (n : Nat) (r32 r33 r42 a41 : Nat → Int32) : Prop := (a41 0).toInt = at_ n (en_ r33 (r32 7)) (fun t => (r42 t).toInt) % 998244353 ∧ (a41 1).toInt = at_ n (br_ r33 (r32 7)) (fun t => (r42 t).toInt) % 998244353 ∧ (a41 2).toInt = at_ n (go_ r33 (r32 7)) (fun t => (r42 t).toInt) % 998244353
theorem s2_addUp (F : Nat) (hF : 50000 ≤ F) {n : Nat} (hn : n ≤ 200) {r32 r33 r41 r42 : Nat → Int32} (h2 : (r32 2).toInt = (n : Nat)) (hf : ∀ t, t < n → fd (r42 t).toInt) :
    sp (fnX2_addUp F r32 r33 r41 r42) (fun e => (∀ k, 2 < k → e k = r41 k) ∧ suQ n r32 r33 r42 e) := by
  have e0 : (0 : Int32).toInt = 0 := rfl
  unfold fnX2_addUp
  refine sp_bind (sp_cnt (fun s : Int32 × (Nat → Int32) => s.1) n (by omega) (fun i s => (∀ k, 2 < k → s.2 k = r41 k) ∧ suQ i r32 r33 r42 s.2) (Q := fun e : Nat → Int32 => (∀ k, 2 < k → e k = r41 k) ∧ suQ n r32 r33 r42 e) ?_ F 0 _ (by omega) e0 ?_ (by omega)) (fun e he => sp_some he)
  · rintro i ⟨x, a41⟩ hi hx hcx hxs ⟨j0, j1, j2, j3⟩
    refine sp_u2 ?_
    dsimp only at hx hcx hxs j0 j1 j2 j3
    unfold bdX2_addUp_17
    refine sp_ite (fun hw => sp_some ?_) (fun hw => ?_)
    · have := i_le.mp hw
      have : i = n := by omega
      subst this
      exact ⟨j0, j1, j2, j3⟩
    · have hw2 : ¬ (r32 2).toInt ≤ x.toInt := fun z => hw (i_le.mpr z)
      have hin : i < n := by omega
      have hib : mj_ib x 200 = true := mj_ib_of (by omega) (by omega)
      have hfi := hf i hin
      unfold fnX4_isEnd fnX4_isBroken
      rw [if_pos hib, hcx]
      by_cases q : r33 i = r32 7
      · have ben : en_ r33 (r32 7) i = true := decide_eq_true q
        have bbr : ¬ br_ r33 (r32 7) i = true := fun z => (of_decide_eq_true z) (i_le.mpr (by rw [q]; exact Int.le_refl _))
        have bgo : ¬ go_ r33 (r32 7) i = true := fun z => by simp [go_, q] at z
        rw [if_pos q, Option.bind_some, if_neg (show ¬ (1 : Int32) = 0 from by decide)]
        refine sp_pos hib (sp_bind (s3_plus F (by rw [j1]; exact fd_md _) hfi) (fun o ho => sp_some ⟨hin, rfl, fun k hk => ?_, ?_, ?_, ?_⟩))
        · dsimp only; rw [upd_ne (by omega)]; exact j0 k hk
        · dsimp only; rw [upd_at, at_s, if_pos ben, ho, j1]; omega
        · dsimp only; rw [upd_ne (by omega), at_s, if_neg bbr, Int.add_zero]; exact j2
        · dsimp only; rw [upd_ne (by omega), at_s, if_neg bgo, Int.add_zero]; exact j3
      · have ben : ¬ en_ r33 (r32 7) i = true := fun z => q (of_decide_eq_true z)
        rw [if_neg q, Option.bind_some, if_pos rfl, if_pos hib]
        by_cases p : r33 i ≤ r32 7
        · have bbr : ¬ br_ r33 (r32 7) i = true := fun z => (of_decide_eq_true z) p
          have bgo : go_ r33 (r32 7) i = true := by simp [go_, q, p]
          rw [if_pos p, Option.bind_some, if_pos rfl]
          refine sp_pos hib (sp_bind (s3_plus F (by rw [j3]; exact fd_md _) hfi) (fun o ho => sp_some ⟨hin, rfl, fun k hk => ?_, ?_, ?_, ?_⟩))
          · dsimp only; rw [upd_ne (by omega)]; exact j0 k hk
          · dsimp only; rw [upd_ne (by omega), at_s, if_neg ben, Int.add_zero]; exact j1
          · dsimp only; rw [upd_ne (by omega), at_s, if_neg bbr, Int.add_zero]; exact j2
          · dsimp only; rw [upd_at, at_s, if_pos bgo, ho, j3]; omega
        · have bbr : br_ r33 (r32 7) i = true := decide_eq_true p
          have bgo : ¬ go_ r33 (r32 7) i = true := fun z => by simp [go_, p] at z
          rw [if_neg p, Option.bind_some, if_neg (show ¬ (1 : Int32) = 0 from by decide)]
          refine sp_pos hib (sp_bind (s3_plus F (by rw [j2]; exact fd_md _) hfi) (fun o ho => sp_some ⟨hin, rfl, fun k hk => ?_, ?_, ?_, ?_⟩))
          · dsimp only; rw [upd_ne (by omega)]; exact j0 k hk
          · dsimp only; rw [upd_ne (by omega), at_s, if_neg ben, Int.add_zero]; exact j1
          · dsimp only; rw [upd_at, at_s, if_pos bbr, ho, j2]; omega
          · dsimp only; rw [upd_ne (by omega), at_s, if_neg bgo, Int.add_zero]; exact j3
  · refine ⟨fun k hk => ?_, rfl, rfl, rfl⟩
    dsimp only
    rw [upd_ne (by omega), upd_ne (by omega), upd_ne (by omega)]
theorem sat_cg {m w : Nat} {M : Nat → Nat → Int} {x y : Nat → Int} (h : ∀ k, k < w → x k = y k) (hs : sat m w M x) : sat m w M y := by
  intro r hr
  have h1 := hs r hr
  unfold rs at h1 ⊢
  rw [← sm_eq w (f := fun k => M r k * x k) (g := fun k => M r k * y k) (fun k hk => by rw [h k hk])]
  exact h1
/-- the class's numbers of visits, where there is one solution -/
def viQ (n : Nat) (na : Nat → Nat) (tg : Nat → Nat → Nat) (sh : Nat → Nat → Int) (r36 r42 : Nat → Int32) : Prop := (∀ t, t < n → fd (r42 t).toInt ∧ (¬ r36 t = 0 → r42 t = 0)) ∧ slv n na tg sh (sS r36) 1 (fun t => (r42 t).toInt)
theorem s2_solveNew (F : Nat) (hF : 50000 ≤ F) {n : Nat} (hn : n ≤ 200) {fr na : Nat → Nat} {tg : Nat → Nat → Nat} {sh : Nat → Nat → Int} {r32 r33 r36 r37 r38 r39 r41 r42 r43 r44 r45 r46 r50 : Nat → Int32} (h2 : (r32 2).toInt = (n : Nat)) (hA : cA n fr na tg r37 r38) (hs : ∀ i, i < n → ∀ k, k < na i → (r39 (fr i + k)).toInt = sh i k ∧ 1 ≤ sh i k ∧ sh i k ≤ 60) (hv : ¬ r41 4 = r32 0) :
    sp (fnX2_solve F r32 r33 r36 r37 r38 r39 r41 r42 r43 r44 r45 r46 r50) (fun o => o.2.1 4 = r32 0 ∧ o.2.1 5 = o.1 ∧ ((o.1 = 1 ∧ ¬ kr n na tg sh (sS r36) ∧ viQ n na tg sh r36 o.2.2.1 ∧ suQ n r32 r33 o.2.2.1 o.2.1) ∨ (o.1 = 0 ∧ kr n na tg sh (sS r36)))) := by
  have e0 : (0 : Int32).toInt = 0 := rfl
  unfold fnX2_solve
  refine sp_neg hv ?_
  refine sp_bind (s2_write F hF hn h2 hA hs) ?_
  rintro ⟨a41, a43, a44, a45, a50⟩ ⟨u, w1, w2, w3, w4, w5⟩
  dsimp only at w1 w2 w3 w4 w5
  have hml := cn_le (uK r36 na) n
  have hM := wA_mx w5
  have hun : unk n na (sS r36) (uK r36 na) u := ⟨w1.2.2, fun i _ h => sS_t.mpr (uK_t.mp h).1, fun i _ h1 h2 => uK_t.mpr ⟨sS_t.mp h1, h2⟩⟩
  have hel : elQ (cn (uK r36 na) n) (fun a b => (a50 (a * (cn (uK r36 na) n + 1) + b)).toInt) 0 a45 a50 := by
    refine ⟨id, ⟨fun a ha => ⟨ha, w4 a ha⟩, fun a a' _ _ h => h⟩, fun a b ha hb => (w5 a b ha hb).1, fun x => Iff.rfl, fun j hj => absurd hj (Nat.not_lt_zero j)⟩
  dsimp only
  refine sp_bind (s2_eliminate F hF (r46 := r46) (by omega) w3 hel) ?_
  rintro ⟨o4, b45, b46, b50⟩ hq
  dsimp only at hq ⊢
  rcases hq with ⟨rfl, σ, p1, p2, p3, p4⟩ | ⟨rfl, v, d, d1, d2, d3, d4⟩
  · refine sp_pos (by decide) (sp_neg (by decide) ?_)
    have g6 : (upd a41 5 (1 : Int32) 6).toInt = (cn (uK r36 na) n : Nat) := by rw [upd_ne (by decide)]; exact w3
    have hinj : ∀ b b', b < cn (uK r36 na) n → b' < cn (uK r36 na) n → u b = u b' → b = b' := by
      intro b b' hb hb' e
      have h3 := (w1.1 b hb).2.2.2
      have h4 := (w1.1 b' hb').2.2.2
      rw [e] at h3
      omega
    refine sp_bind (s2_substitute F hF (by omega) (u := u) (r42 := r42) g6 p1 p2 (fun b hb => ⟨(w1.1 b hb).1, by have := (w1.1 b hb).2.1; omega⟩) hinj) (fun o8 h8 => ?_)
    refine sp_bind (s2_passOn F hF hn h2 hA hs w1 g6 (fun b hb => (h8 b hb).1)) (fun o9 h9 => ?_)
    refine sp_bind (s2_addUp F hF hn h2 (r33 := r33) (r41 := upd a41 5 1) (fun t ht => (h9 t ht).1)) ?_
    rintro o10 ⟨q1, q2⟩
    have f5 : o10 5 = 1 := by rw [q1 5 (by decide), upd_at]
    have f4 : o10 4 = r32 0 := by rw [q1 4 (by decide), upd_ne (by decide), w2 4 (by decide), upd_at]
    rw [f5]
    refine sp_pos (by decide) (sp_some ⟨f4, f5, Or.inl ⟨rfl, nk_of hun hM p3 p4, ⟨fun t ht => ⟨(h9 t ht).1, (h9 t ht).2.2.1⟩, ?_⟩, q2⟩⟩)
    have hback := tri_back (x := fun k => if k < cn (uK r36 na) n then (o8 (u k)).toInt else -1) p4 (by rw [if_neg (Nat.lt_irrefl _)]) (fun c hc => by
      rw [if_pos hc]
      refine cg_tr (h8 c hc).2 ?_
      have : sm (cn (uK r36 na) n) (fun k => if c < k then cM (cn (uK r36 na) n) σ b50 c k * (o8 (u k)).toInt else 0) = sm (cn (uK r36 na) n) (fun k => if c < k then cM (cn (uK r36 na) n) σ b50 c k * (if k < cn (uK r36 na) n then (o8 (u k)).toInt else -1) else 0) := by
        refine sm_eq _ (fun k hk => ?_)
        rw [if_pos hk]
      rw [this]
      exact cg_rf _)
    have hsl := sat_slv hun hM ((p3 _).mpr hback)
    rw [if_neg (Nat.lt_irrefl _)] at hsl
    refine slv_cg (fun t ht hS => ?_) hsl
    obtain ⟨t1, t2, t3, t4⟩ := h9 t ht
    unfold vH
    by_cases e : uK r36 na t = true
    · have hlt := cn_lt (uK r36 na) ht e
      rw [if_pos e]
      dsimp only
      rw [if_pos hlt, w1.2.2 t ht e, t2 e]
      exact cg_rf _
    · rw [if_neg e]
      refine cg_sy (cg_tr (t4 (sS_t.mp hS) e) (cg_add (cg_rf _) ?_))
      have h10 := sm_cn (uK r36 na) u (fun i => sm (na i) (fun j => if tg i j = t then (o8 i).toInt * 715408453 * sh i j else 0)) n w1.2.2
      rw [h10]
      unfold inf
      refine sm_cg n (fun i hi => ?_)
      dsimp only
      by_cases e2 : uK r36 na i = true
      · have hlt := cn_lt (uK r36 na) hi e2
        rw [if_pos e2, if_pos e2, if_pos hlt, w1.2.2 i hi e2]
        exact cg_rf _
      · rw [if_neg e2, if_neg e2]
        have : sm (na i) (fun k => if tg i k = t then (0 : Int) * 715408453 * sh i k else 0) = 0 := by
          refine (sm_eq _ (fun k _ => ?_)).trans (sm_zero (na i))
          split
          · rw [Int.zero_mul, Int.zero_mul]
          · rfl
        rw [this]
        exact cg_rf _
  · refine sp_pos (by decide) (sp_pos rfl (sp_pos (by decide) (sp_some ⟨?_, ?_, Or.inr ⟨rfl, kr_of hun hM d1 d2 d3 d4⟩⟩)))
    · dsimp only
      rw [upd_ne (by decide), w2 4 (by decide), upd_at]
    · dsimp only
      rw [upd_at]
