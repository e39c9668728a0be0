/-! ===== lumping: the class finds the classes ===== -/
def kdF (r32 r33 r34 : Nat → Int32) (v i : Nat) : Nat := if r33 i = r32 7 then (dgt (r34 i) v).toInt.toNat else if r33 i ≤ r32 7 then 11 else 10
def kiJ (kd c : Nat → Nat) (i : Nat) (x3 : Int32) (r59 r61 : Nat → Int32) : Prop := x3.toInt = (rk_ c i : Nat) ∧ (∀ j, j < i → (r59 j).toInt = (rk_ c (c j) : Nat)) ∧ ∀ q, q < 12 → ((r61 q).toInt = -1 ∧ ∀ j, j < i → ¬ kd j = q) ∨ ∃ l, l < i ∧ kd l = q ∧ c l = l ∧ (r61 q).toInt = (rk_ c l : Nat)
theorem s6_kind (F : Nat) {n : Nat} (hn : n ≤ 200) {kd c : Nat → Nat} (hc : lst n (kdE kd) c) {r32 r33 r34 a59 a61 : Nat → Int32} {x2 x3 x4 x5 : Int32} {i : Nat} (hi : i < n) (hx4 : x4.toInt = (i : Nat)) (hx5 : x5.toInt = (kd i : Nat)) (hk : kd i < 12) (hJ : kiJ kd c i x3 a59 a61) :
    sp (jnX6_labelKinds_67 F r32 r33 r34 x2 x3 x4 x5 a59 a61) (Sum.elim (fun s' => i < n ∧ s'.2.1 = x4 + 1 ∧ kiJ kd c (i + 1) s'.1 s'.2.2.1 s'.2.2.2) (fun e : Int32 × (Nat → Int32) × (Nat → Int32) => kiJ kd c n e.1 e.2.1 e.2.2)) := by
  obtain ⟨j1, j2, j3⟩ := hJ
  have e1 : (1 : Int32).toInt = 1 := rfl
  have c5 : x5.toNatClampNeg = kd i := by rw [i_cl, hx5]; rfl
  have c4 : x4.toNatClampNeg = i := by rw [i_cl, hx4]; rfl
  have ib5 : mj_ib x5 200 = true := mj_ib_of (by omega) (by omega)
  have ib4 : mj_ib x4 200 = true := mj_ib_of (by omega) (by omega)
  have hrl := rk_le c i
  have hE := kd_eqv n kd
  unfold jnX6_labelKinds_67
  refine sp_pos ib5 ?_
  rw [c5, c4]
  rcases j3 (kd i) hk with ⟨w1, w2⟩ | ⟨l, w1, w2, w3, w4⟩
  · have hci : c i = i := by
      obtain ⟨a1, a2, a3⟩ := hc i hi
      rcases Nat.lt_or_ge (c i) i with z | z
      · exact absurd (Eq.symm a1) (w2 (c i) z)
      · omega
    have hrk : rk_ c (i + 1) = rk_ c i + 1 := by unfold rk_; rw [cn_s, if_pos (ld_t.mpr hci)]
    refine sp_pos (i_eq.mpr w1) (sp_pos ib5 (sp_pos ib5 (sp_pos ib4 (sp_some ⟨hi, rfl, ?_, fun j hj => ?_, fun q hq => ?_⟩))))
    · dsimp only; rw [hrk, i_add (by omega) (by omega), j1, e1]; omega
    · dsimp only
      by_cases e : j = i
      · rw [e, upd_at, upd_at, hci]; exact j1
      · rw [upd_ne e]; exact j2 j (by omega)
    · dsimp only
      by_cases e : q = kd i
      · rw [e, upd_at]
        exact Or.inr ⟨i, by omega, rfl, hci, j1⟩
      · rw [upd_ne e]
        rcases j3 q hq with ⟨v1, v2⟩ | ⟨l, v1, v2⟩
        · refine Or.inl ⟨v1, fun j hj => ?_⟩
          by_cases e2 : j = i
          · rw [e2]; exact fun z => e z.symm
          · exact v2 j (by omega)
        · exact Or.inr ⟨l, by omega, v2⟩
  · have hci : c i = l := by
      have := (lst_iff hE hc hi (show l < n by omega)).mpr (show kdE kd i l from w2.symm)
      omega
    have hrk : rk_ c (i + 1) = rk_ c i := by unfold rk_; rw [cn_s, if_neg (fun z => by have := ld_t.mp z; omega)]; rfl
    refine sp_neg (fun z => by have z1 : (a61 (kd i)).toInt = -1 := (by rw [z]; rfl); clear z; omega) (sp_pos ib5 (sp_pos ib4 (sp_some ⟨hi, rfl, ?_, fun j hj => ?_, fun q hq => ?_⟩)))
    · rw [hrk]; exact j1
    · dsimp only
      by_cases e : j = i
      · rw [e, upd_at, hci]; exact w4
      · rw [upd_ne e]; exact j2 j (by omega)
    · rcases j3 q hq with ⟨v1, v2⟩ | ⟨l', v1, v2⟩
      · refine Or.inl ⟨v1, fun j hj => ?_⟩
        by_cases e2 : j = i
        · rw [e2]; exact fun z => v2 l w1 (by rw [w2, z])
        · exact v2 j (by omega)
      · exact Or.inr ⟨l', by omega, v2⟩
theorem s6_labelKinds (F : Nat) (hF : 3000 ≤ F) {n : Nat} (hn : n ≤ 200) {c : Nat → Nat} {r32 r33 r34 r59 r61 : Nat → Int32} (h2 : (r32 2).toInt = (n : Nat)) (hs : ∀ t, t < n → sx (r34 t)) {x2 : Int32} (hv : vr x2) (hc : lst n (kdE (kdF r32 r33 r34 x2.toNatClampNeg)) c) :
    sp (fnX6_labelKinds F r32 r33 r34 r59 r61 x2) (fun e => e.1.toInt = (rk_ c n : Nat) ∧ ∀ t, t < n → (e.2.1 t).toInt = (rk_ c (c t) : Nat)) := by
  have e0 : (0 : Int32).toInt = 0 := rfl
  unfold fnX6_labelKinds
  refine sp_bind (s_fill61 F hF r61 (show (12 : Int32).toInt = ((12 : Nat) : Int) from rfl) (by omega) (show (-1 : Int32).toInt = -1 from rfl)) (fun o15 h15 => ?_)
  refine sp_bind (sp_cnt (fun s : Int32 × Int32 × (Nat → Int32) × (Nat → Int32) => s.2.1) n (by omega) (fun i s => kiJ (kdF r32 r33 r34 x2.toNatClampNeg) c i s.1 s.2.2.1 s.2.2.2) (Q := fun e : Int32 × (Nat → Int32) × (Nat → Int32) => kiJ (kdF r32 r33 r34 x2.toNatClampNeg) c n e.1 e.2.1 e.2.2) ?_ F 0 _ (by omega) e0 ⟨e0, fun j hj => absurd hj (Nat.not_lt_zero j), fun q hq => Or.inl ⟨h15 q hq, fun j hj => absurd hj (Nat.not_lt_zero j)⟩⟩ (by omega)) ?_
  · rintro i ⟨x3, x4, a59, a61⟩ hi hx hcx hxs hJ
    refine sp_u2 (sp_u2 (sp_u2 ?_))
    dsimp only at hx hcx hxs hJ
    unfold bdX6_labelKinds_16
    refine sp_ite (fun hz => sp_some ?_) (fun hz => ?_)
    · have := i_le.mp hz
      have : i = n := by omega
      subst this
      exact hJ
    · have hz2 : ¬ (r32 2).toInt ≤ x4.toInt := fun z => hz (i_le.mpr z)
      have hin : i < n := by omega
      have hib : mj_ib x4 200 = true := mj_ib_of (by omega) (by omega)
      unfold fnX4_isEnd fnX4_isBroken
      rw [if_pos hib, hcx]
      by_cases q : r33 i = r32 7
      · have hd := dgt_b (hs i hin).1 x2.toNatClampNeg
        have hkd : kdF r32 r33 r34 x2.toNatClampNeg i = (dgt (r34 i) x2.toNatClampNeg).toInt.toNat := by unfold kdF; rw [if_pos q]
        rw [if_pos q, Option.bind_some, if_neg (show ¬ (1 : Int32) = 0 from by decide), if_pos hib, g_get F _ hv, Option.bind_some]
        exact s6_kind F hn hc hin hx (by rw [hkd]; omega) (by rw [hkd]; omega) hJ
      · rw [if_neg q, Option.bind_some, if_pos rfl, if_pos hib]
        by_cases p : r33 i ≤ r32 7
        · have hkd : kdF r32 r33 r34 x2.toNatClampNeg i = 11 := by unfold kdF; rw [if_neg q, if_pos p]
          rw [if_pos p, Option.bind_some, if_pos rfl]
          exact s6_kind F hn hc hin hx (by rw [hkd]; rfl) (by rw [hkd]; omega) hJ
        · have hkd : kdF r32 r33 r34 x2.toNatClampNeg i = 10 := by unfold kdF; rw [if_neg q, if_neg p]
          rw [if_neg p, Option.bind_some, if_neg (show ¬ (1 : Int32) = 0 from by decide)]
          exact s6_kind F hn hc hin hx (by rw [hkd]; rfl) (by rw [hkd]; omega) hJ
  · rintro ⟨y3, d59, d61⟩ ⟨s1, s2, -⟩
    exact sp_u2 (sp_u2 (sp_some ⟨s1, s2⟩))
/-- the classes kept for the variable v -/
def lbQ (n : Nat) (na : Nat → Nat) (tg : Nat → Nat → Nat) (sh : Nat → Nat → Int) (kd : Nat → Nat) (v : Nat) (r57 r58 : Nat → Int32) : Prop := ∃ c, fin_ n na tg sh kd c ∧ (∀ i, i < n → (r58 (200 * v + i)).toInt = (rk_ c (c i) : Nat)) ∧ (r57 v).toInt = (rk_ c n : Nat)
theorem s6_find (F : Nat) (hF : 3000 ≤ F) {n : Nat} {fr na : Nat → Nat} {tg : Nat → Nat → Nat} {sh : Nat → Nat → Int} {r32 r33 r34 r37 r38 r39 r56 r57 r58 r59 r60 r61 r62 r63 r64 : Nat → Int32} (h : uG n fr na tg sh r37 r38 r39) (hn0 : 0 < n) (h2 : (r32 2).toInt = (n : Nat)) (hs : ∀ t, t < n → sx (r34 t)) (h64 : ∀ b, b < 200 → (r64 b).toInt = 0) {x2 : Int32} (hv : vr x2) (hc : r56 x2.toNatClampNeg = r32 0 → lbQ n na tg sh (kdF r32 r33 r34 x2.toNatClampNeg) x2.toNatClampNeg r57 r58) :
    sp (fnX6_find F r32 r33 r34 r37 r38 r39 r56 r57 r58 r59 r60 r61 r62 r63 r64 x2) (fun e => e.1 x2.toNatClampNeg = r32 0 ∧ lbQ n na tg sh (kdF r32 r33 r34 x2.toNatClampNeg) x2.toNatClampNeg e.2.1 e.2.2.1 ∧ (∀ v, v ≠ x2.toNatClampNeg → e.1 v = r56 v ∧ e.2.1 v = r57 v ∧ ∀ i, i < 200 → e.2.2.1 (200 * v + i) = r58 (200 * v + i)) ∧ ∀ b, b < 200 → (e.2.2.2.2.2.2.2.2 b).toInt = 0) := by
  have hn := h.1
  have hv' := hv
  obtain ⟨v0, v1⟩ := hv
  obtain ⟨v, hvv⟩ : ∃ v : Nat, x2.toNatClampNeg = v := ⟨_, rfl⟩
  have hx2 : x2.toInt = (v : Nat) := by rw [← hvv, i_cl]; omega
  have hv6 : v < 6 := by omega
  have ib2 : mj_ib x2 6 = true := mj_ib_of (by omega) (by omega)
  have e0 : (0 : Int32).toInt = 0 := rfl
  have e200 : (200 : Int32).toInt = 200 := rfl
  have c00 : (0 : Int32).toNatClampNeg = 0 := rfl
  unfold fnX6_find
  refine sp_pos ib2 (sp_ite (fun q => sp_some ⟨q, hc q, fun _ _ => ⟨rfl, rfl, fun _ _ => rfl⟩, h64⟩) (fun q => sp_pos ib2 ?_))
  obtain ⟨c0, hc0⟩ := lst_ex (kd_eqv n (kdF r32 r33 r34 x2.toNatClampNeg))
  refine sp_bind (s6_labelKinds F hF hn (r59 := r59) (r61 := r61) h2 hs hv' hc0) ?_
  rintro ⟨k0, a59, a61⟩ ⟨g1, g2⟩
  dsimp only at g1 g2 ⊢
  have hr0 : 1 ≤ rk_ c0 n := by
    have h00 : c0 0 = 0 := by have := (hc0 0 hn0).2.1; omega
    have : rk_ c0 0 < rk_ c0 n := cn_lt (ld c0) hn0 (ld_t.mpr h00)
    omega
  have fin : ∀ (k : Int32) (b59 b60 b61 b62 b63 b64 : Nat → Int32), (∃ c, fin_ n na tg sh (kdF r32 r33 r34 x2.toNatClampNeg) c ∧ k.toInt = (rk_ c n : Nat) ∧ ∀ t, t < n → (b59 t).toInt = (rk_ c (c t) : Nat)) → (∀ b, b < 200 → (b64 b).toInt = 0) → sp (jnX6_find_68 F r32 r33 r34 r37 r38 r39 x2 k (upd r56 x2.toNatClampNeg (r32 0)) r57 r58 b59 b60 b61 b62 b63 b64) (fun e => e.1 x2.toNatClampNeg = r32 0 ∧ lbQ n na tg sh (kdF r32 r33 r34 x2.toNatClampNeg) x2.toNatClampNeg e.2.1 e.2.2.1 ∧ (∀ v, v ≠ x2.toNatClampNeg → e.1 v = r56 v ∧ e.2.1 v = r57 v ∧ ∀ i, i < 200 → e.2.2.1 (200 * v + i) = r58 (200 * v + i)) ∧ ∀ b, b < 200 → (e.2.2.2.2.2.2.2.2 b).toInt = 0) := by
    rintro k b59 b60 b61 b62 b63 b64 ⟨c, f1, f2, f3⟩ hb
    have cn2 : (r32 2).toNatClampNeg = n := by rw [i_cl, h2]; rfl
    have m2 : (x2 * 200).toInt = ((200 * v : Nat) : Int) := by rw [i_mul (by rw [e200, hx2]; omega) (by rw [e200, hx2]; omega), e200, hx2]; omega
    have cm : (x2 * 200).toNatClampNeg = 200 * v := by rw [i_cl, m2]; rfl
    have hcp : mj_cpk 0 (x2 * 200) (r32 2) 200 1200 = true := by
      have q1 : (0 : Int32) ≤ r32 2 := i_le.mpr (by rw [h2, e0]; omega)
      have q2 : (0 : Int32) ≤ x2 * 200 := i_le.mpr (by rw [m2, e0]; omega)
      unfold mj_cpk
      rw [cn2, c00, cm]
      simp only [q1, q2, decide_true, Bool.and_true, Bool.true_and, Bool.and_eq_true, decide_eq_true_eq]
      exact ⟨⟨by decide, by omega⟩, by omega⟩
    unfold jnX6_find_68
    refine sp_pos ib2 (sp_pos hcp (sp_some ⟨upd_at, ⟨c, f1, fun i hi => ?_, ?_⟩, fun w hw => ⟨upd_ne hw, upd_ne hw, fun i hi => ?_⟩, hb⟩))
    · dsimp only
      rw [cn2, c00, cm, hvv]
      unfold va_cpy
      rw [if_pos ⟨by omega, by omega⟩, show 0 + (200 * v + i - 200 * v) = i by omega]
      exact f3 i hi
    · dsimp only; rw [upd_at]; exact f2
    · dsimp only
      rw [hvv] at hw
      rw [cn2, c00, cm]
      unfold va_cpy
      rw [if_neg (by omega)]
  refine sp_bind (sp_cnt (fun s : Int32 × Int32 × (Nat → Int32) × (Nat → Int32) × (Nat → Int32) × (Nat → Int32) × (Nat → Int32) × (Nat → Int32) => s.2.1) 200 (by omega) (fun r s => (∃ t c, ch n na tg sh (kdF r32 r33 r34 x2.toNatClampNeg) t c ∧ s.1.toInt = (rk_ c n : Nat) ∧ (∀ t, t < n → (s.2.2.1 t).toInt = (rk_ c (c t) : Nat)) ∧ r + 1 ≤ rk_ c n) ∧ ∀ b, b < 200 → (s.2.2.2.2.2.2.2 b).toInt = 0) (Q := fun e : (Int32 × (Nat → Int32) × (Nat → Int32) × (Nat → Int32) × (Nat → Int32) × (Nat → Int32) × (Nat → Int32)) ⊕ (Int32 × (Nat → Int32) × (Nat → Int32) × (Nat → Int32) × (Nat → Int32) × (Nat → Int32) × (Nat → Int32)) => Sum.elim (fun _ => False) (fun e : Int32 × (Nat → Int32) × (Nat → Int32) × (Nat → Int32) × (Nat → Int32) × (Nat → Int32) × (Nat → Int32) => (∃ c, fin_ n na tg sh (kdF r32 r33 r34 x2.toNatClampNeg) c ∧ e.1.toInt = ((rk_ c n : Nat) : Int) ∧ ∀ t, t < n → (e.2.1 t).toInt = ((rk_ c (c t) : Nat) : Int)) ∧ ∀ b, b < 200 → (e.2.2.2.2.2.2 b).toInt = 0) e) ?_ F 0 _ (by omega) e0 ⟨⟨0, c0, hc0, g1, g2, by omega⟩, h64⟩ (by omega)) ?_
  · rintro r ⟨k, x4, b59, b60, b61, b62, b63, b64⟩ hi hx hcx hxs ⟨⟨t, c, j1, j2, j3, j4⟩, j5⟩
    refine sp_u2 (sp_u2 (sp_u2 (sp_u2 (sp_u2 (sp_u2 (sp_u2 ?_))))))
    dsimp only at hx hcx hxs j2 j3 j5
    have hrk := rk_le c n
    unfold bdX6_find_34
    refine sp_neg (fun z => by have := i_le.mp z; omega) ?_
    obtain ⟨c', hc'⟩ := lst_ex (alk_eqv n na tg sh c)
    have hcan := ch_can t c j1
    obtain ⟨n1, n2⟩ := nx_rk hcan hc'
    refine sp_bind (s6_split F hF (r60 := b60) (r61 := b61) (r62 := b62) (r63 := b63) h h2 hcan j3 hc' j5 j2) ?_
    rintro ⟨o1, d59, d60, d61, d62, d63, d64⟩ ⟨w1, w2, w3⟩
    dsimp only at w1 w2 w3 ⊢
    refine sp_ite (fun q => sp_some ?_) (fun q => sp_some ?_)
    · have q' := i_eq.mp q
      rw [w1, j2] at q'
      exact ⟨⟨c', ⟨t, c, j1, hc', n2.mp (by omega)⟩, by rw [j2]; omega, w2⟩, w3⟩
    · have q' : ¬ rk_ c n = rk_ c' n := fun z => q (i_eq.mpr (by rw [w1, j2]; omega))
      exact ⟨by omega, rfl, ⟨t + 1, c', ⟨c, j1, hc', fun z => q' (n2.mpr z)⟩, w1, w2, by omega⟩, w3⟩
  · rintro (e | ⟨k, b59, b60, b61, b62, b63, b64⟩) he
    · exact absurd he id
    · exact sp_u2 (sp_u2 (sp_u2 (sp_u2 (sp_u2 (sp_u2 (fin k b59 b60 b61 b62 b63 b64 he.1 he.2))))))
