/-! ===== lumping: the reference, flows and rounds ===== -/
theorem s11_al1 (F : Nat) (hF : 600 ≤ F) {n : Nat} {na : Nat → Nat} {tg : Nat → Nat → Nat} {sh : Nat → Nat → Int} {c : Nat → Nat} {r32 r33 r34 r71 r80 r81 r83 r84 r85 r93 b95 : Nat → Int32} (h : vG n na tg sh r32 r33 r34 r71 r80 r81 r83 r84 r85) (hr : ∀ t, t < n → (r93 t).toInt = (c t : Nat) ∧ c t < n) {x1 x2 : Int32} {i : Nat} (hi : i < n) (hxx : x1.toInt = (i : Nat)) (hb : ∀ m, m < n → -200000 ≤ (b95 m).toInt ∧ (b95 m).toInt ≤ 200000) :
    sp (mj_it (mj_u2 (fun z0 z1 => bdX11_areAlike_53 F r83 r84 r85 r93 x1 x2 z0 z1)) F ((0 : Int32), b95)) (fun e => ∀ m, m < n → (e m).toInt = (b95 m).toInt + fl na tg sh c i m) := by
  obtain ⟨h1, h2, h3, h4, h5, h6⟩ := h
  have e0 : (0 : Int32).toInt = 0 := rfl
  obtain ⟨a1, a2, a3⟩ := h4 i hi
  have cx : x1.toNatClampNeg = i := by rw [i_cl, hxx]; rfl
  have ibx : mj_ib x1 200 = true := mj_ib_of (by omega) (by omega)
  refine sp_cnt (fun s : Int32 × (Nat → Int32) => s.1) (na i) (by omega) (fun k s => ∀ m, m < n → (s.2 m).toInt = (b95 m).toInt + sm k (fun k => if c (tg i k) = m then sh i k else 0)) ?_ F 0 _ (by omega) e0 (fun m hm => by show (b95 m).toInt = (b95 m).toInt + 0; omega) (by omega)
  rintro k ⟨z, a95⟩ hk hz hcz hzs hJ
  refine sp_u2 ?_
  dsimp only at hz hcz hzs hJ
  unfold bdX11_areAlike_53
  refine sp_pos ibx ?_
  rw [cx]
  refine sp_ite (fun hy => sp_some ?_) (fun hy => ?_)
  · have := i_le.mp hy
    have : k = na i := by omega
    subst this
    exact hJ
  · have hy2 : ¬ (r83 i).toInt ≤ z.toInt := fun w => hy (i_le.mpr w)
    have hkn : k < na i := by omega
    have hk10 : k < 10 := by omega
    have hi2 : i < 200 := by omega
    obtain ⟨t1, t2⟩ := a3 k hkn
    obtain ⟨s1, s2⟩ := h5 i hi k hkn
    obtain ⟨q1, q2⟩ := hr (tg i k) t2
    have ct : (r84 (10 * i + k)).toNatClampNeg = tg i k := by rw [i_cl, t1]; rfl
    have ibt : mj_ib (r84 (10 * i + k)) 200 = true := mj_ib_of (by omega) (by omega)
    have cc : (r93 (tg i k)).toNatClampNeg = c (tg i k) := by rw [i_cl, q1]; rfl
    have ibc : mj_ib (r93 (tg i k)) 200 = true := mj_ib_of (by omega) (by omega)
    have hb0 := hJ (c (tg i k)) q2
    have hb1 := fl_b (lab := c) (tg := tg) (b := c (tg i k)) k (fun q hq => (h5 i hi q (by omega)).2)
    have hb2 := hb (c (tg i k)) q2
    obtain ⟨c1, ib1⟩ := ix10 hxx hz hi2 hk10
    refine sp_pos ib1 ?_
    rw [c1]
    clear c1
    refine sp_pos ibt ?_
    rw [ct]
    refine sp_pos ibc (sp_pos ib1 (sp_pos ibc (sp_some ⟨hkn, rfl, fun m hm => ?_⟩)))
    dsimp only
    rw [cc, sm_s]
    by_cases e : m = c (tg i k)
    · rw [e, upd_at, if_pos rfl]
      have := (i_accm (a := a95 (c (tg i k))) hb0 s1 (by omega) (by omega)).1
      rw [this]
      omega
    · rw [upd_ne e, if_neg (fun q => e q.symm)]
      have := hJ m hm
      omega
theorem s11_al2 (F : Nat) (hF : 600 ≤ F) {n : Nat} {na : Nat → Nat} {tg : Nat → Nat → Nat} {sh : Nat → Nat → Int} {c : Nat → Nat} {r32 r33 r34 r71 r80 r81 r83 r84 r85 r93 b95 : Nat → Int32} (h : vG n na tg sh r32 r33 r34 r71 r80 r81 r83 r84 r85) (hr : ∀ t, t < n → (r93 t).toInt = (c t : Nat) ∧ c t < n) {x2 : Int32} {i : Nat} (hi : i < n) (hxx : x2.toInt = (i : Nat)) (hb : ∀ m, m < n → -200000 ≤ (b95 m).toInt ∧ (b95 m).toInt ≤ 200000) :
    sp (mj_it (mj_u2 (fun z0 z1 => bdX11_areAlike_106 F r83 r84 r85 r93 x2 z0 z1)) F ((0 : Int32), b95)) (fun e => ∀ m, m < n → (e m).toInt = (b95 m).toInt - fl na tg sh c i m) := by
  obtain ⟨h1, h2, h3, h4, h5, h6⟩ := h
  have e0 : (0 : Int32).toInt = 0 := rfl
  obtain ⟨a1, a2, a3⟩ := h4 i hi
  have cx : x2.toNatClampNeg = i := by rw [i_cl, hxx]; rfl
  have ibx : mj_ib x2 200 = true := mj_ib_of (by omega) (by omega)
  refine sp_cnt (fun s : Int32 × (Nat → Int32) => s.1) (na i) (by omega) (fun k s => ∀ m, m < n → (s.2 m).toInt = (b95 m).toInt - sm k (fun k => if c (tg i k) = m then sh i k else 0)) ?_ F 0 _ (by omega) e0 (fun m hm => by show (b95 m).toInt = (b95 m).toInt - 0; omega) (by omega)
  rintro k ⟨z, a95⟩ hk hz hcz hzs hJ
  refine sp_u2 ?_
  dsimp only at hz hcz hzs hJ
  unfold bdX11_areAlike_106
  refine sp_pos ibx ?_
  rw [cx]
  refine sp_ite (fun hy => sp_some ?_) (fun hy => ?_)
  · have := i_le.mp hy
    have : k = na i := by omega
    subst this
    exact hJ
  · have hy2 : ¬ (r83 i).toInt ≤ z.toInt := fun w => hy (i_le.mpr w)
    have hkn : k < na i := by omega
    have hk10 : k < 10 := by omega
    have hi2 : i < 200 := by omega
    obtain ⟨t1, t2⟩ := a3 k hkn
    obtain ⟨s1, s2⟩ := h5 i hi k hkn
    obtain ⟨q1, q2⟩ := hr (tg i k) t2
    have ct : (r84 (10 * i + k)).toNatClampNeg = tg i k := by rw [i_cl, t1]; rfl
    have ibt : mj_ib (r84 (10 * i + k)) 200 = true := mj_ib_of (by omega) (by omega)
    have cc : (r93 (tg i k)).toNatClampNeg = c (tg i k) := by rw [i_cl, q1]; rfl
    have ibc : mj_ib (r93 (tg i k)) 200 = true := mj_ib_of (by omega) (by omega)
    have hb0 := hJ (c (tg i k)) q2
    have hb1 := fl_b (lab := c) (tg := tg) (b := c (tg i k)) k (fun q hq => (h5 i hi q (by omega)).2)
    have hb2 := hb (c (tg i k)) q2
    obtain ⟨c1, ib1⟩ := ix10 hxx hz hi2 hk10
    refine sp_pos ib1 ?_
    rw [c1]
    clear c1
    refine sp_pos ibt ?_
    rw [ct]
    refine sp_pos ibc (sp_pos ib1 (sp_pos ibc (sp_some ⟨hkn, rfl, fun m hm => ?_⟩)))
    dsimp only
    rw [cc, sm_s]
    by_cases e : m = c (tg i k)
    · rw [e, upd_at, if_pos rfl]
      have := (i_accm (a := a95 (c (tg i k))) hb0 s1 (by omega) (by omega)).2
      rw [this]
      omega
    · rw [upd_ne e, if_neg (fun q => e q.symm)]
      have := hJ m hm
      omega
theorem s11_alike (F : Nat) (hF : 600 ≤ F) {n : Nat} {na : Nat → Nat} {tg : Nat → Nat → Nat} {sh : Nat → Nat → Int} {c : Nat → Nat} {v : Nat} {r32 r33 r34 r71 r80 r81 r83 r84 r85 r93 r95 : Nat → Int32} (h : vG n na tg sh r32 r33 r34 r71 r80 r81 r83 r84 r85) (hcan : can n (kdF r32 r33 r34 v) c) (hr : ∀ t, t < n → (r93 t).toInt = (c t : Nat)) {x1 x2 : Int32} {a b : Nat} (ha : a < n) (hb : b < n) (hx1 : x1.toInt = (a : Nat)) (hx2 : x2.toInt = (b : Nat)) :
    sp (fnX11_areAlike F r71 r83 r84 r85 r93 r95 x1 x2) (fun e => (e.1 = 1 ∧ alk na tg sh c a b) ∨ (e.1 = 0 ∧ ¬ alk na tg sh c a b)) := by
  have ka := kd_11 h v ha
  have kb := kd_11 h v hb
  have hG := h
  obtain ⟨h1, h2, h3, h4, h5, h6⟩ := h
  have e0 : (0 : Int32).toInt = 0 := rfl
  have hr2 : ∀ t, t < n → (r93 t).toInt = (c t : Nat) ∧ c t < n := fun t ht => ⟨hr t ht, by have := (hcan.1 t ht).1; omega⟩
  have c1 : x1.toNatClampNeg = a := by rw [i_cl, hx1]; rfl
  have c2 : x2.toNatClampNeg = b := by rw [i_cl, hx2]; rfl
  have ib1 : mj_ib x1 200 = true := mj_ib_of (by omega) (by omega)
  have ib2 : mj_ib x2 200 = true := mj_ib_of (by omega) (by omega)
  have r83a := (h4 a ha).1
  have zero : ∀ i m, na i = 0 → fl na tg sh c i m = 0 := fun i m hz => by unfold fl; rw [hz]; rfl
  have big : ∀ i, i < n → ∀ m, ¬ m < n → fl na tg sh c i m = 0 := by
    intro i hi m hm
    unfold fl
    refine (sm_eq _ (fun k hk => ?_)).trans (sm_zero (na i))
    rw [if_neg (fun e => hm (by rw [← e]; exact (hr2 _ (vG_t hG i hi k hk)).2))]
  unfold fnX11_areAlike
  refine sp_pos ib1 (sp_pos ib2 ?_)
  rw [c1, c2]
  refine sp_ite (fun q => sp_pos ib1 ?_) (fun q => sp_some (Or.inr ⟨rfl, fun w => q (i_eq.mpr (by rw [hr a ha, hr b hb, w.1]))⟩))
  have hcc : c a = c b := by
    have := i_eq.mp q
    rw [hr a ha, hr b hb] at this
    omega
  have hkd := hcan.2 a b ha hb hcc
  refine sp_ite (fun q2 => sp_some (Or.inl ⟨rfl, hcc, fun m => ?_⟩)) (fun q2 => ?_)
  · have na0 : na a = 0 := by rw [q2] at r83a; omega
    have nb0 : na b = 0 := by
      rcases Nat.eq_zero_or_pos (na b) with z | z
      · exact z
      · have := ka.mpr (by rw [hkd]; exact kb.mp z)
        omega
    rw [zero a m na0, zero b m nb0]
  · refine sp_bind (sp_cnt (fun s : Int32 × (Nat → Int32) => s.1) n (by omega) (fun i s => ∀ m, m < i → (s.2 m).toInt = 0) (Q := fun e : Nat → Int32 => ∀ m, m < n → (e m).toInt = 0) ?_ F 0 _ (by omega) e0 (fun m hm => absurd hm (Nat.not_lt_zero m)) (by omega)) (fun d95 hd => ?_)
    · rintro i ⟨x, b95⟩ hi hx hcx hxs hJ
      refine sp_u2 ?_
      dsimp only at hx hcx hxs hJ
      unfold bdX11_areAlike_30
      refine sp_ite (fun hz => sp_some ?_) (fun hz => ?_)
      · have := i_le.mp hz
        have : i = n := by omega
        subst this
        exact hJ
      · have hz2 : ¬ (r71 24).toInt ≤ x.toInt := fun z => hz (i_le.mpr z)
        refine sp_pos (mj_ib_of (by omega) (by omega)) (sp_some ⟨by omega, rfl, fun m hm => ?_⟩)
        dsimp only
        rw [hcx]
        by_cases e : m = i
        · rw [e, upd_at]; rfl
        · rw [upd_ne e]; exact hJ m (by omega)
    · refine sp_bind (s11_al1 F hF (x2 := x2) (b95 := d95) hG hr2 ha hx1 (fun m hm => by rw [hd m hm]; omega)) (fun f95 hf => ?_)
      have hfa : ∀ m, 0 ≤ fl na tg sh c a m ∧ fl na tg sh c a m ≤ 600 := by
        intro m
        have := fl_b (lab := c) (tg := tg) (b := m) (na a) (fun q hq => (h5 a ha q hq).2)
        have := (h4 a ha).2.1
        unfold fl
        omega
      refine sp_bind (s11_al2 F hF (b95 := f95) hG hr2 hb hx2 (fun m hm => by rw [hf m hm, hd m hm]; have := hfa m; omega)) (fun g95 hg => ?_)
      have hD : ∀ m, m < n → (g95 m).toInt = fl na tg sh c a m - fl na tg sh c b m := fun m hm => by rw [hg m hm, hf m hm, hd m hm]; omega
      refine sp_bind (sp_cnt (fun s : Int32 => s) n (by omega) (fun i _ => ∀ m, m < i → fl na tg sh c a m = fl na tg sh c b m) (Q := fun e : Unit ⊕ Unit => Sum.elim (fun _ => ∀ m, m < n → fl na tg sh c a m = fl na tg sh c b m) (fun _ => ∃ m, ¬ fl na tg sh c a m = fl na tg sh c b m) e) ?_ F 0 _ (by omega) e0 (fun m hm => absurd hm (Nat.not_lt_zero m)) (by omega)) ?_
      · rintro i x hi hx hcx hxs hJ
        unfold bdX11_areAlike_159
        refine sp_ite (fun hz => sp_some ?_) (fun hz => ?_)
        · have := i_le.mp hz
          have : i = n := by omega
          subst this
          exact hJ
        · have hz2 : ¬ (r71 24).toInt ≤ x.toInt := fun z => hz (i_le.mpr z)
          have hin : i < n := by omega
          have hDi := hD i hin
          refine sp_pos (mj_ib_of (by omega) (by omega)) ?_
          rw [hcx]
          refine sp_ite (fun p => sp_some ⟨hin, rfl, fun m hm => ?_⟩) (fun p => sp_some ⟨i, fun w => p (i_eq.mpr (by rw [hDi, w, e0]; omega))⟩)
          by_cases e : m = i
          · rw [e]
            rw [p, e0] at hDi
            omega
          · exact hJ m (by omega)
      · rintro (e | e) he
        · refine sp_some (Or.inl ⟨rfl, hcc, fun m => ?_⟩)
          by_cases hm : m < n
          · exact he m hm
          · rw [big a ha m hm, big b hb m hm]
        · obtain ⟨m, hm⟩ := he
          exact sp_some (Or.inr ⟨rfl, fun w => hm (w.2 m)⟩)
theorem s11_round (F : Nat) (hF : 600 ≤ F) {n : Nat} {na : Nat → Nat} {tg : Nat → Nat → Nat} {sh : Nat → Nat → Int} {c c' : Nat → Nat} {v : Nat} {r32 r33 r34 r71 r80 r81 r83 r84 r85 r93 r94 r95 : Nat → Int32} (h : vG n na tg sh r32 r33 r34 r71 r80 r81 r83 r84 r85) (hcan : can n (kdF r32 r33 r34 v) c) (hr : ∀ t, t < n → (r93 t).toInt = (c t : Nat)) (hc' : lst n (alk na tg sh c) c') :
    sp (mj_it (mj_u2 (fun z0 => (mj_u2 (fun z1 => (mj_u2 (fun z2 z3 => bdX11_parts_51 F r71 r83 r84 r85 r93 z0 z1 z2 z3)))))) F ((0 : Int32), (0 : Int32), r94, r95)) (fun e => (∀ i, i < n → (e.2.1 i).toInt = (c' i : Nat)) ∧ ((e.1 = 0 ∧ ∀ i, i < n → c i = c' i) ∨ (e.1 = 1 ∧ ¬ ∀ i, i < n → c i = c' i))) := by
  have e0 : (0 : Int32).toInt = 0 := rfl
  obtain ⟨h1, h2, -⟩ := id h
  have hce := alk_eqv n na tg sh c
  refine sp_cnt (fun s : Int32 × Int32 × (Nat → Int32) × (Nat → Int32) => s.2.1) n (by omega) (fun i s => (∀ j, j < i → (s.2.2.1 j).toInt = (c' j : Nat)) ∧ ((s.1 = 0 ∧ ∀ j, j < i → c j = c' j) ∨ (s.1 = 1 ∧ ¬ ∀ j, j < n → c j = c' j))) ?_ F 0 _ (by omega) e0 ⟨fun j hj => absurd hj (Nat.not_lt_zero j), Or.inl ⟨rfl, fun j hj => absurd hj (Nat.not_lt_zero j)⟩⟩ (by omega)
  rintro i ⟨x2, x3, a94, a95⟩ hi hx hcx hxs ⟨j1, j2⟩
  refine sp_u2 (sp_u2 (sp_u2 ?_))
  dsimp only at hx hcx hxs j1 j2
  unfold bdX11_parts_51
  refine sp_ite (fun hz => sp_some ?_) (fun hz => ?_)
  · have := i_le.mp hz
    have : i = n := by omega
    subst this
    exact ⟨j1, j2⟩
  · have hz2 : ¬ (r71 24).toInt ≤ x3.toInt := fun z => hz (i_le.mpr z)
    have hin : i < n := by omega
    have hib : mj_ib x3 200 = true := mj_ib_of (by omega) (by omega)
    obtain ⟨g1, g2, g3⟩ := hc' i hin
    obtain ⟨-, hcc⟩ := lst_can hce hc' hin
    refine sp_bind (sp_cnt (fun s : Int32 × (Nat → Int32) => s.1) (c' i) (by omega) (fun _ _ => True) (Q := fun e : Int32 × (Nat → Int32) => e.1.toInt = (c' i : Nat)) ?_ F 0 _ (by omega) e0 trivial (by omega)) ?_
    · rintro k ⟨y, b95⟩ hk hy hcy hys -
      refine sp_u2 ?_
      dsimp only at hy hcy hys
      unfold bdX11_parts_62
      refine sp_ite (fun hw => sp_some ?_) (fun hw => ?_)
      · have := i_le.mp hw
        show y.toInt = _
        omega
      · have hw2 : ¬ x3.toInt ≤ y.toInt := fun z => hw (i_le.mpr z)
        have hki : k < i := by omega
        refine sp_pos (mj_ib_of (by omega) (by omega)) ?_
        rw [hcy]
        have hck := j1 k hki
        refine sp_ite (fun q => ?_) (fun q => sp_some ⟨?_, rfl, trivial⟩)
        · refine sp_bind (s11_alike F hF (r95 := b95) h hcan hr hin (show k < n by omega) hx hy) ?_
          rintro ⟨o1, o2⟩ ho
          dsimp only at ho ⊢
          rcases ho with ⟨rfl, ho⟩ | ⟨rfl, ho⟩
          · refine sp_neg (by decide) (sp_some ?_)
            show y.toInt = _
            rcases Nat.lt_or_ge k (c' i) with z | z
            · exact absurd ho (g3 k z)
            · omega
          · refine sp_pos rfl (sp_some ⟨?_, rfl, trivial⟩)
            rcases Nat.lt_or_ge k (c' i) with z | z
            · exact z
            · have : k = c' i := by omega
              rw [this] at ho
              exact absurd g1 ho
        · rcases Nat.lt_or_ge k (c' i) with z | z
          · exact z
          · exfalso
            have hk2 : k = c' i := by omega
            apply q
            refine i_eq.mpr ?_
            rw [hck, hy, hk2, hcc]
    · rintro ⟨y, b95⟩ hy
      dsimp only at hy
      refine sp_u2 (sp_pos hib ?_)
      rw [hcx, upd_at]
      have nx : ∀ j, j < i + 1 → (upd a94 i y j).toInt = (c' j : Nat) := by
        intro j hj
        by_cases e : j = i
        · rw [e, upd_at]; exact hy
        · rw [upd_ne e]; exact j1 j (by omega)
      rcases j2 with ⟨rfl, j2⟩ | ⟨rfl, j2⟩
      · refine sp_pos rfl (sp_pos hib (sp_pos hib (sp_ite (fun q => sp_some ⟨hin, rfl, nx, Or.inl ⟨rfl, fun j hj => ?_⟩⟩) (fun q => sp_some ⟨hin, rfl, nx, Or.inr ⟨rfl, fun w => q (i_eq.mpr ?_)⟩⟩))))
        · by_cases e : j = i
          · have q' := i_eq.mp q
            rw [hy, hr i hin] at q'
            rw [e]
            omega
          · exact j2 j (by omega)
        · rw [hy, hr i hin, w i hin]
      · exact sp_neg (by decide) (sp_some ⟨hin, rfl, nx, Or.inr ⟨rfl, j2⟩⟩)
theorem s11_copy (F : Nat) (hF : 600 ≤ F) {n : Nat} (hn : n ≤ 200) {r71 r94 r93 : Nat → Int32} {x2 : Int32} (h24 : (r71 24).toInt = (n : Nat)) : sp (mj_it (mj_u2 (fun z0 z1 => bdX11_parts_137 F r71 r94 x2 z0 z1)) F ((0 : Int32), r93)) (fun e => ∀ i, i < n → e i = r94 i) := by
  have e0 : (0 : Int32).toInt = 0 := rfl
  refine sp_cnt (fun s : Int32 × (Nat → Int32) => s.1) n (by omega) (fun k s => ∀ i, i < k → s.2 i = r94 i) ?_ F 0 _ (by omega) e0 (fun i hi => absurd hi (Nat.not_lt_zero i)) (by omega)
  rintro k ⟨x, a93⟩ hk hx hcx hxs hJ
  refine sp_u2 ?_
  dsimp only at hx hcx hxs hJ
  unfold bdX11_parts_137
  refine sp_ite (fun hz => sp_some ?_) (fun hz => ?_)
  · have := i_le.mp hz
    have : k = n := by omega
    subst this
    exact hJ
  · have hz2 : ¬ (r71 24).toInt ≤ x.toInt := fun z => hz (i_le.mpr z)
    have hib : mj_ib x 200 = true := mj_ib_of (by omega) (by omega)
    refine sp_pos hib (sp_pos hib (sp_some ⟨by omega, rfl, fun i hi => ?_⟩))
    dsimp only
    rw [hcx]
    by_cases e : i = k
    · rw [e, upd_at]
    · rw [upd_ne e]; exact hJ i (by omega)
def rkR (r93 : Nat → Int32) (n : Nat) : Nat := cn (fun j => decide ((r93 j).toInt = (j : Int))) n
theorem rkR_eq {c : Nat → Nat} {r93 : Nat → Int32} : ∀ n, (∀ i, i < n → (r93 i).toInt = (c i : Nat)) → rkR r93 n = rk_ c n := by
  intro n
  induction n with
  | zero => intro _; rfl
  | succ n ih =>
    intro h
    have h1 := ih (fun i hi => h i (by omega))
    unfold rkR rk_ at *
    rw [cn_s, cn_s, h1]
    have h2 := h n (by omega)
    have : (decide ((r93 n).toInt = (n : Int))) = ld c n := by
      unfold ld
      refine decide_eq_decide.mpr ?_
      rw [h2]
      omega
    rw [this]
theorem s11_parts (F : Nat) (hF : 600 ≤ F) {n : Nat} {na : Nat → Nat} {tg : Nat → Nat → Nat} {sh : Nat → Nat → Int} {r32 r33 r34 r71 r80 r81 r83 r84 r85 r87 r93 r94 r95 : Nat → Int32} (h : vG n na tg sh r32 r33 r34 r71 r80 r81 r83 r84 r85) (ht : tens r87) {x1 : Int32} (hv : vr x1) :
    sp (fnX11_parts F r71 r80 r81 r83 r84 r85 r87 r93 r94 r95 x1) (fun e => ∃ c, fin_ n na tg sh (kdF r32 r33 r34 x1.toNatClampNeg) c ∧ can n (kdF r32 r33 r34 x1.toNatClampNeg) c ∧ ∀ i, i < n → (e.1 i).toInt = (c i : Nat)) := by
  obtain ⟨h1, h2, -⟩ := id h
  unfold fnX11_parts
  obtain ⟨c0, hc0⟩ := lst_ex (kd_eqv n (kdF r32 r33 r34 x1.toNatClampNeg))
  refine sp_bind (s11_near0 F hF (r93 := r93) h ht hv hc0) (fun a93 ha => ?_)
  refine sp_bind (sp_it (J := fun s : Int32 × (Nat → Int32) × (Nat → Int32) × (Nat → Int32) => (s.1 = 1 ∧ ∃ t c, ch n na tg sh (kdF r32 r33 r34 x1.toNatClampNeg) t c ∧ ∀ i, i < n → (s.2.1 i).toInt = (c i : Nat)) ∨ (s.1 = 0 ∧ ∃ c, fin_ n na tg sh (kdF r32 r33 r34 x1.toNatClampNeg) c ∧ can n (kdF r32 r33 r34 x1.toNatClampNeg) c ∧ ∀ i, i < n → (s.2.1 i).toInt = (c i : Nat))) (Q := fun e : (Nat → Int32) × (Nat → Int32) × (Nat → Int32) => ∃ c, fin_ n na tg sh (kdF r32 r33 r34 x1.toNatClampNeg) c ∧ can n (kdF r32 r33 r34 x1.toNatClampNeg) c ∧ ∀ i, i < n → (e.1 i).toInt = (c i : Nat)) (fun s => if s.1 = 0 then 0 else 1 + (n - rkR s.2.1 n)) ?_ F _ (Or.inl ⟨rfl, 0, c0, hc0, ha⟩) ?_) ?_
  · rintro ⟨x2, b93, b94, b95⟩ hJ
    refine sp_u2 (sp_u2 (sp_u2 ?_))
    dsimp only at hJ
    unfold bdX11_parts_43
    rcases hJ with ⟨rfl, t, c, j1, j2⟩ | ⟨rfl, hJ⟩
    · refine sp_neg (by decide) ?_
      have hcan := ch_can t c j1
      obtain ⟨c', hc'⟩ := lst_ex (alk_eqv n na tg sh c)
      obtain ⟨n1, n2⟩ := nx_rk hcan hc'
      refine sp_bind (s11_round F hF (r94 := b94) (r95 := b95) h hcan j2 hc') ?_
      rintro ⟨y, d94, d95⟩ ⟨w1, w2⟩
      dsimp only at w1 w2
      refine sp_u2 (sp_u2 ?_)
      refine sp_bind (s11_copy F hF h1 (r94 := d94) (r93 := b93) (x2 := y) h2) (fun e93 he => ?_)
      have hs : ∀ i, i < n → (e93 i).toInt = (c' i : Nat) := fun i hi => by rw [he i hi]; exact w1 i hi
      have r1 := rkR_eq n j2
      have r2 := rkR_eq n hs
      have r3 := rk_le c n
      have r4 := rk_le c' n
      rcases w2 with ⟨rfl, w2⟩ | ⟨rfl, w2⟩
      · refine sp_some ⟨Or.inr ⟨rfl, c', ⟨t, c, j1, hc', w2⟩, ⟨fun i hi => lst_can (alk_eqv n na tg sh c) hc' hi, fun i j hi hj e => hcan.2 i j hi hj ((lst_iff (alk_eqv n na tg sh c) hc' hi hj).mp e).1⟩, hs⟩, ?_⟩
        show (if (0 : Int32) = 0 then 0 else 1 + (n - rkR e93 n)) < (if (1 : Int32) = 0 then 0 else 1 + (n - rkR b93 n))
        rw [if_pos rfl, if_neg (by decide)]
        omega
      · have hne : ¬ rk_ c n = rk_ c' n := fun z => w2 (n2.mp z)
        refine sp_some ⟨Or.inl ⟨rfl, t + 1, c', ⟨c, j1, hc', w2⟩, hs⟩, ?_⟩
        show (if (1 : Int32) = 0 then 0 else 1 + (n - rkR e93 n)) < (if (1 : Int32) = 0 then 0 else 1 + (n - rkR b93 n))
        rw [if_neg (by decide), if_neg (by decide), r1, r2]
        omega
    · exact sp_pos rfl (sp_some hJ)
  · show (if (1 : Int32) = 0 then 0 else 1 + (n - rkR a93 n)) < F
    rw [if_neg (by decide)]
    omega
  · rintro ⟨b93, b94, b95⟩ hJ
    exact sp_u2 (sp_u2 (sp_some hJ))
theorem s11_rank (F : Nat) (hF : 600 ≤ F) {m : Nat} (hm : m ≤ 200) {c : Nat → Nat} {r93 : Nat → Int32} (hr : ∀ i, i < m → (r93 i).toInt = (c i : Nat)) {x1 : Int32} (hx1 : x1.toInt = (m : Nat)) : sp (fnX11_rank F r93 x1) (fun e => e.toInt = (rk_ c m : Nat)) := by
  have e0 : (0 : Int32).toInt = 0 := rfl
  have e1 : (1 : Int32).toInt = 1 := rfl
  unfold fnX11_rank
  refine sp_bind (sp_cnt (fun s : Int32 × Int32 => s.2) m (by omega) (fun i s => s.1.toInt = (rk_ c i : Nat)) (Q := fun e : Int32 => e.toInt = (rk_ c m : Nat)) ?_ F 0 _ (by omega) e0 e0 (by omega)) (fun e he => sp_some he)
  rintro i ⟨y, x⟩ hi hx hcx hxs hJ
  refine sp_u2 ?_
  dsimp only at hx hcx hxs hJ
  have hrl := rk_le c i
  have hs : rk_ c (i + 1) = rk_ c i + if ld c i then 1 else 0 := rfl
  unfold bdX11_rank_4
  refine sp_ite (fun hz => sp_some ?_) (fun hz => ?_)
  · have := i_le.mp hz
    have : i = m := by omega
    subst this
    exact hJ
  · have hz2 : ¬ x1.toInt ≤ x.toInt := fun z => hz (i_le.mpr z)
    have him : i < m := by omega
    refine sp_pos (mj_ib_of (by omega) (by omega)) ?_
    rw [hcx]
    have h9 := hr i him
    refine sp_ite (fun q => sp_some ⟨him, rfl, ?_⟩) (fun q => sp_some ⟨him, rfl, ?_⟩)
    · have q' := i_eq.mp q
      dsimp only
      rw [hs, if_pos (ld_t.mpr (by omega)), i_add (by omega) (by omega), hJ, e1]; omega
    · dsimp only
      rw [hs, if_neg (fun z => q (i_eq.mpr (by have := ld_t.mp z; rw [h9, hx]; omega))), i_add (by omega) (by omega), hJ, e0]; omega
