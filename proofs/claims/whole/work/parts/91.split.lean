/-! ===== lumping: the class splits ===== -/
def isP (nl : Nat → Nat) (o b : Nat) (x : Int) : Prop := (x = -1 ∧ ∀ b', b' < b → ¬ nl b' = o) ∨ ∃ y : Nat, x = (y : Int) ∧ y < b ∧ nl y = o ∧ ∀ b', y < b' → b' < b → ¬ nl b' = o
def ldr (n : Nat) (c : Nat → Nat) (b : Nat) : Nat := uO (ld c) n b
theorem ldr_at {n : Nat} {c : Nat → Nat} {l : Nat} (hl : l < n) (h : c l = l) : ldr n c (rk_ c l) = l := uO_at (ld c) n l hl (ld_t.mpr h)
def sQ (n known : Nat) (lab c' : Nat → Nat) (i : Nat) (x3 : Int32) (r60 r61 r62 r63 r64 : Nat → Int32) : Prop := x3.toInt = (rk_ c' i : Nat) ∧ (∀ j, j < i → (r60 j).toInt = (rk_ c' (c' j) : Nat)) ∧ (∀ l, l < i → c' l = l → (r63 (rk_ c' l)).toInt = (l : Nat)) ∧ (∀ o, o < known → isP (fun b => lab (ldr n c' b)) o (rk_ c' i) (r61 o).toInt) ∧ (∀ b, b < rk_ c' i → isP (fun b => lab (ldr n c' b)) (lab (ldr n c' b)) b (r62 b).toInt) ∧ ∀ b, b < 200 → (r64 b).toInt = 0
theorem s6_search (F : Nat) (hF : 3000 ≤ F) {n : Nat} {fr na : Nat → Nat} {tg : Nat → Nat → Nat} {sh : Nat → Nat → Int} {kd c c' lab : Nat → Nat} {r37 r38 r39 r59 r60 r61 r62 r63 r64 : Nat → Int32} (h : uG n fr na tg sh r37 r38 r39) (hl : laQ n lab r59) (hcan : can n kd c) (hlab : ∀ t, t < n → lab t = rk_ c (c t)) (hc' : lst n (alk na tg sh c) c') {x3 x4 x50 : Int32} {i : Nat} (hi : i < n) (hx4 : x4.toInt = (i : Nat)) (hx5 : isP (fun b => lab (ldr n c' b)) (lab i) (rk_ c' i) x50.toInt) {known : Nat} (hs : sQ n known lab c' i x3 r60 r61 r62 r63 r64) :
    sp (mj_it (mj_u2 (fun z0 => (mj_u2 (fun z1 z2 => bdX6_split_41 F r37 r38 r39 r59 r62 r63 x3 x4 z0 z1 z2)))) F (x50, (0 : Int32), r64)) (fun e => Sum.elim (fun e : Int32 × (Nat → Int32) => e.1.toInt = -1 ∧ (∀ l, l < i → c' l = l → ¬ alk na tg sh c i l) ∧ ∀ b, b < 200 → (e.2 b).toInt = 0) (fun e : Int32 × (Nat → Int32) => (∃ l, l < i ∧ c' l = l ∧ alk na tg sh c i l ∧ e.1.toInt = ((rk_ c' l : Nat) : Int)) ∧ ∀ b, b < 200 → (e.2 b).toInt = 0) e) := by
  obtain ⟨s1, s2, s3, s4, s5, s6⟩ := hs
  have ht := uG_t h
  have hn := h.1
  have e0 : (0 : Int32).toInt = 0 := rfl
  have hrl := rk_le c' i
  have conv : (∀ b, b < rk_ c' i → lab (ldr n c' b) = lab i → ¬ alk na tg sh c i (ldr n c' b)) → ∀ l, l < i → c' l = l → ¬ alk na tg sh c i l := by
    intro hb l hli hll ha
    have h1 : rk_ c' l < rk_ c' i := cn_lt (ld c') hli (ld_t.mpr hll)
    have h2 := ldr_at (n := n) (c := c') (show l < n by omega) hll
    have h3 := hb (rk_ c' l) h1
    rw [h2] at h3
    refine h3 ?_ ha
    rw [hlab l (by omega), hlab i hi, ha.1]
  refine sp_cnt (fun s : Int32 × Int32 × (Nat → Int32) => s.2.1) (rk_ c' i) (by omega) (fun q s => ∃ B, q + B ≤ rk_ c' i ∧ isP (fun b => lab (ldr n c' b)) (lab i) B s.1.toInt ∧ (∀ b, B ≤ b → b < rk_ c' i → lab (ldr n c' b) = lab i → ¬ alk na tg sh c i (ldr n c' b)) ∧ ∀ b, b < 200 → (s.2.2 b).toInt = 0) ?_ F 0 _ (by omega) e0 ⟨rk_ c' i, by omega, hx5, fun b h1 h2 => by omega, s6⟩ (by omega)
  rintro q ⟨x5, x6, a64⟩ hq hx hcx hxs ⟨B, b1, b2, b3, b4⟩
  refine sp_u2 (sp_u2 ?_)
  dsimp only at hx hcx hxs b2 b4
  have done : x5.toInt = -1 → ∀ l, l < i → c' l = l → ¬ alk na tg sh c i l := by
    intro hz
    refine conv (fun b hb hnl => ?_)
    rcases b2 with ⟨-, w2⟩ | ⟨y, w1, w2, w3, w4⟩
    · by_cases e : b < B
      · exact absurd hnl (w2 b e)
      · exact b3 b (by omega) hb hnl
    · omega
  unfold bdX6_split_41
  refine sp_ite (fun hz => sp_some ?_) (fun hz => ?_)
  · have := i_le.mp hz
    have hB : B = 0 := by omega
    have hm : x5.toInt = -1 := by
      rcases b2 with ⟨w1, -⟩ | ⟨y, w1, w2, -⟩
      · exact w1
      · omega
    exact ⟨hm, done hm, b4⟩
  · have hz2 : ¬ x3.toInt ≤ x6.toInt := fun z => hz (i_le.mpr z)
    refine sp_ite (fun hw => sp_some ?_) (fun hw => ?_)
    · have hm : x5.toInt = -1 := by rw [hw]; rfl
      exact ⟨hm, done hm, b4⟩
    · have hm : ¬ x5.toInt = -1 := fun z => hw (i_eq.mpr z)
      clear hw
      rcases b2 with ⟨w1, -⟩ | ⟨y, w1, w2, w3, w4⟩
      · exact absurd w1 hm
      · have w3' : lab (ldr n c' y) = lab i := w3
        obtain ⟨l, l1, l2, l3⟩ := cn_inv (ld c') i y (show y < cn (ld c') i by unfold rk_ at b1; omega)
        have l2' := ld_t.mp l2
        have hly : ldr n c' y = l := by rw [← l3]; exact ldr_at (by omega) l2'
        have h63 : (r63 y).toInt = (l : Nat) := by rw [← l3]; exact s3 l l1 l2'
        have c5 : x5.toNatClampNeg = y := by rw [i_cl, w1]; rfl
        have ib5 : mj_ib x5 200 = true := mj_ib_of (by omega) (by omega)
        refine sp_pos ib5 ?_
        rw [c5]
        rw [hly] at w3'
        refine sp_bind (s6_flowAlike F hF h hl hi (show l < n by omega) hx4 h63 b4) ?_
        rintro ⟨o1, o2⟩ ⟨f1, f2⟩
        dsimp only at f1 f2
        have hFA := FL_alk (sh := sh) ht hcan hlab hi (show l < n by omega) w3'.symm
        rcases f2 with ⟨rfl, f2⟩ | ⟨rfl, f2⟩
        · refine sp_neg (show ¬ (1 : Int32) = 0 from by decide) (sp_some ⟨⟨l, l1, l2', hFA.mp f2, ?_⟩, f1⟩)
          unfold rk_
          rw [l3]
          exact w1
        · refine sp_pos rfl (sp_pos ib5 (sp_some ⟨by omega, rfl, y, by omega, ?_, fun b hb1 hb2 hb3 => ?_, f1⟩))
          · have := s5 y (by omega)
            rw [hly, w3'] at this
            exact this
          · by_cases e : b = y
            · rw [e, hly]
              exact fun w => f2 (hFA.mpr w)
            · by_cases e2 : b < B
              · exact absurd hb3 (w4 b (by omega) e2)
              · exact b3 b (by omega) hb2 hb3
theorem isP_ext {nl : Nat → Nat} {o b : Nat} {x : Int} (h : isP nl o b x) (hb : ¬ nl b = o) : isP nl o (b + 1) x := by
  rcases h with ⟨w1, w2⟩ | ⟨y, w1, w2, w3, w4⟩
  · refine Or.inl ⟨w1, fun b' hb' => ?_⟩
    by_cases e : b' = b
    · rw [e]; exact hb
    · exact w2 b' (by omega)
  · refine Or.inr ⟨y, w1, by omega, w3, fun b' h1 h2 => ?_⟩
    by_cases e : b' = b
    · rw [e]; exact hb
    · exact w4 b' h1 (by omega)
theorem s6_split (F : Nat) (hF : 3000 ≤ F) {n : Nat} {fr na : Nat → Nat} {tg : Nat → Nat → Nat} {sh : Nat → Nat → Int} {kd c c' : Nat → Nat} {r32 r37 r38 r39 r59 r60 r61 r62 r63 r64 : Nat → Int32} (h : uG n fr na tg sh r37 r38 r39) (h2 : (r32 2).toInt = (n : Nat)) (hcan : can n kd c) (hr59 : ∀ t, t < n → (r59 t).toInt = (rk_ c (c t) : Nat)) (hc' : lst n (alk na tg sh c) c') (h64 : ∀ b, b < 200 → (r64 b).toInt = 0) {x2 : Int32} (hx2 : x2.toInt = (rk_ c n : Nat)) :
    sp (fnX6_split F r32 r37 r38 r39 r59 r60 r61 r62 r63 r64 x2) (fun e => e.1.toInt = (rk_ c' n : Nat) ∧ (∀ t, t < n → (e.2.1 t).toInt = (rk_ c' (c' t) : Nat)) ∧ ∀ b, b < 200 → (e.2.2.2.2.2.2 b).toInt = 0) := by
  have hn := h.1
  have e0 : (0 : Int32).toInt = 0 := rfl
  have e1 : (1 : Int32).toInt = 1 := rfl
  have c00 : (0 : Int32).toNatClampNeg = 0 := rfl
  have hrn := rk_le c n
  have hl : laQ n (fun t => rk_ c (c t)) r59 := fun t ht => ⟨hr59 t ht, by show rk_ c (c t) < 200; have := rk_lt hcan ht; omega⟩
  have hce := alk_eqv n na tg sh c
  unfold fnX6_split
  refine sp_bind (s_fill61 F hF r61 hx2 (by omega) (show (-1 : Int32).toInt = -1 from rfl)) (fun o20 h20 => ?_)
  refine sp_bind (sp_cnt (fun s : Int32 × Int32 × (Nat → Int32) × (Nat → Int32) × (Nat → Int32) × (Nat → Int32) × (Nat → Int32) => s.2.1) n (by omega) (fun i s => sQ n (rk_ c n) (fun t => rk_ c (c t)) c' i s.1 s.2.2.1 s.2.2.2.1 s.2.2.2.2.1 s.2.2.2.2.2.1 s.2.2.2.2.2.2) (Q := fun e : Int32 × (Nat → Int32) × (Nat → Int32) × (Nat → Int32) × (Nat → Int32) × (Nat → Int32) => sQ n (rk_ c n) (fun t => rk_ c (c t)) c' n e.1 e.2.1 e.2.2.1 e.2.2.2.1 e.2.2.2.2.1 e.2.2.2.2.2) ?_ F 0 _ (by omega) e0 ⟨e0, fun j hj => absurd hj (Nat.not_lt_zero j), fun l hl => absurd hl (Nat.not_lt_zero l), fun o ho => Or.inl ⟨h20 o ho, fun b' hb' => absurd hb' (Nat.not_lt_zero b')⟩, fun b hb => absurd hb (Nat.not_lt_zero b), h64⟩ (by omega)) ?_
  · rintro i ⟨x3, x4, a60, a61, a62, a63, a64⟩ hi hx hcx hxs hs
    refine sp_u2 (sp_u2 (sp_u2 (sp_u2 (sp_u2 (sp_u2 ?_)))))
    dsimp only at hx hcx hxs hs
    unfold bdX6_split_15
    refine sp_ite (fun hz => sp_some ?_) (fun hz => ?_)
    · have := i_le.mp hz
      have : i = n := by omega
      subst this
      exact hs
    · have hz2 : ¬ (r32 2).toInt ≤ x4.toInt := fun z => hz (i_le.mpr z)
      have hin : i < n := by omega
      have hib : mj_ib x4 200 = true := mj_ib_of (by omega) (by omega)
      obtain ⟨l1, l2⟩ := hl i hin
      have ibl : mj_ib (r59 i) 200 = true := mj_ib_of (by omega) (by omega)
      have cl : (r59 i).toNatClampNeg = rk_ c (c i) := by rw [i_cl, l1]; rfl
      obtain ⟨s1, s2, s3, s4, s5, s6⟩ := id hs
      have hlk := rk_lt hcan hin
      refine sp_pos hib ?_
      rw [hcx]
      refine sp_pos ibl ?_
      rw [cl]
      have hrl := rk_le c' i
      have ib3 : mj_ib x3 200 = true := mj_ib_of (by omega) (by omega)
      have c3 : x3.toNatClampNeg = rk_ c' i := by rw [i_cl, s1]; rfl
      have jn : ∀ (x5 : Int32) (b64 : Nat → Int32), (∀ b, b < 200 → (b64 b).toInt = 0) → ((x5.toInt = -1 ∧ ∀ l, l < i → c' l = l → ¬ alk na tg sh c i l) ∨ ∃ l, l < i ∧ c' l = l ∧ alk na tg sh c i l ∧ x5.toInt = ((rk_ c' l : Nat) : Int)) → sp (jnX6_split_88 F r32 r37 r38 r39 r59 x3 x4 x5 a60 a61 a62 a63 b64) (Sum.elim (fun s' => i < n ∧ s'.2.1 = x4 + 1 ∧ sQ n (rk_ c n) (fun t => rk_ c (c t)) c' (i + 1) s'.1 s'.2.2.1 s'.2.2.2.1 s'.2.2.2.2.1 s'.2.2.2.2.2.1 s'.2.2.2.2.2.2) (fun e : Int32 × (Nat → Int32) × (Nat → Int32) × (Nat → Int32) × (Nat → Int32) × (Nat → Int32) => sQ n (rk_ c n) (fun t => rk_ c (c t)) c' n e.1 e.2.1 e.2.2.1 e.2.2.2.1 e.2.2.2.2.1 e.2.2.2.2.2)) := by
        intro x5 b64 hb64 hcase
        unfold jnX6_split_88
        rcases hcase with ⟨w1, w2⟩ | ⟨l, w1, w2, w3, w4⟩
        · have hci : c' i = i := by
            rcases Nat.lt_or_ge (c' i) i with z | z
            · exact absurd (hc' i hin).1 (w2 (c' i) z (lst_can hce hc' hin).2)
            · have := (hc' i hin).2.1; omega
          have hrk : rk_ c' (i + 1) = rk_ c' i + 1 := by unfold rk_; rw [cn_s, if_pos (ld_t.mpr hci)]
          have hli : ldr n c' (rk_ c' i) = i := ldr_at hin hci
          refine sp_pos (i_eq.mpr w1) (sp_pos ib3 (sp_pos hib ?_))
          rw [hcx, c3]
          refine sp_pos ibl (sp_pos ib3 (sp_pos hib (sp_pos ibl (sp_pos hib (sp_some ⟨hin, rfl, ?_, fun j hj => ?_, fun l hl' hll => ?_, fun o ho => ?_, fun b hb => ?_, hb64⟩)))))
          · dsimp only; rw [hrk, i_add (by omega) (by omega), s1, e1]; omega
          · dsimp only
            by_cases e : j = i
            · rw [e, upd_at, hci]; exact s1
            · rw [upd_ne e]; exact s2 j (by omega)
          · dsimp only
            by_cases e : l = i
            · rw [e, upd_at]; exact hx
            · have : rk_ c' l < rk_ c' i := cn_lt (ld c') (show l < i by omega) (ld_t.mpr hll)
              rw [upd_ne (by omega)]; exact s3 l (by omega) hll
          · dsimp only
            rw [hrk, cl]
            by_cases e : o = rk_ c (c i)
            · rw [e, upd_at]
              refine Or.inr ⟨rk_ c' i, s1, by omega, ?_, fun b' h1 h2 => by omega⟩
              show rk_ c (c (ldr n c' (rk_ c' i))) = _
              rw [hli]
            · rw [upd_ne e]
              refine isP_ext (s4 o ho) ?_
              show ¬ rk_ c (c (ldr n c' (rk_ c' i))) = o
              rw [hli]
              exact fun z => e z.symm
          · dsimp only
            rw [hrk] at hb
            rw [cl]
            by_cases e : b = rk_ c' i
            · rw [e, upd_at, hli]
              exact s4 (rk_ c (c i)) hlk
            · rw [upd_ne e]; exact s5 b (by omega)
        · have hci : c' i = l := nx_at hc' hin (by omega) w2 w3
          have hrk : rk_ c' (i + 1) = rk_ c' i := by unfold rk_; rw [cn_s, if_neg (fun z => by have := ld_t.mp z; omega)]; rfl
          refine sp_neg (fun z => by have z1 : x5.toInt = -1 := (by rw [z]; rfl); clear z; omega) (sp_pos hib ?_)
          rw [hcx]
          refine sp_some ⟨hin, rfl, ?_, fun j hj => ?_, fun l' hl' hll => ?_, ?_, ?_, hb64⟩
          · rw [hrk]; exact s1
          · dsimp only
            by_cases e : j = i
            · rw [e, upd_at, hci]; exact w4
            · rw [upd_ne e]; exact s2 j (by omega)
          · by_cases e : l' = i
            · rw [e] at hll; omega
            · exact s3 l' (by omega) hll
          · rw [hrk]; exact s4
          · rw [hrk]; exact s5
      refine sp_bind (s6_search F hF h hl hcan (fun _ _ => rfl) hc' hin hx (s4 (rk_ c (c i)) hlk) hs) ?_
      rintro (⟨x5, b64⟩ | ⟨x5, b64⟩) he
      · obtain ⟨g1, g2, g3⟩ := he
        exact sp_u2 (jn x5 b64 g3 (Or.inl ⟨g1, g2⟩))
      · obtain ⟨g1, g2⟩ := he
        exact sp_u2 (jn x5 b64 g2 (Or.inr g1))
  · rintro ⟨y3, d60, d61, d62, d63, d64⟩ ⟨s1, s2, s3, s4, s5, s6⟩
    dsimp only at s1 s2 s6
    refine sp_u2 (sp_u2 (sp_u2 (sp_u2 (sp_u2 ?_))))
    have cn2 : (r32 2).toNatClampNeg = n := by rw [i_cl, h2]; rfl
    have hcp : mj_cpk 0 0 (r32 2) 200 200 = true := by
      have q1 : (0 : Int32) ≤ r32 2 := i_le.mpr (by rw [h2, e0]; omega)
      unfold mj_cpk
      rw [cn2, c00]
      simp only [q1, decide_true, Bool.and_true, Bool.true_and, Bool.and_eq_true, decide_eq_true_eq]
      exact ⟨⟨⟨by decide, by decide⟩, by omega⟩, by omega⟩
    refine sp_pos hcp (sp_some ⟨s1, fun t ht => ?_, s6⟩)
    dsimp only
    rw [cn2, c00]
    unfold va_cpy
    rw [if_pos ⟨by omega, by omega⟩]
    rw [show 0 + (t - 0) = t by omega]
    exact s2 t ht
