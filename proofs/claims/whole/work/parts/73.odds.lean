/-! ===== sums over the end ===== -/
def cpB (r33 : Nat → Int32) (c : Int32) (r34 : Nat → Int32) (v : Nat) (x : Int32) (w : Nat) (y : Int32) (i : Nat) : Bool := decide (r33 i = c) && (decide (dgt (r34 i) v = x) && decide (dgt (r34 i) w = y))
theorem cpB_t {r33 r34 : Nat → Int32} {c x y : Int32} {v w i : Nat} : cpB r33 c r34 v x w y i = true ↔ r33 i = c ∧ dgt (r34 i) v = x ∧ dgt (r34 i) w = y := by simp [cpB]
theorem at_b {n : Nat} {g : Nat → Int} (h : ∀ t, t < n → fd (g t)) (en : Nat → Bool) : ∀ i, i ≤ n → 0 ≤ at_ i en g ∧ at_ i en g ≤ (i : Int) * 998244352 := by
  intro i
  induction i with
  | zero => intro _; exact ⟨Int.le_refl _, by show (0 : Int) ≤ ((0 : Nat) : Int) * 998244352; decide⟩
  | succ i ih =>
    intro hi
    have h1 := ih (by omega)
    obtain ⟨h2, h3⟩ := h i (by omega)
    rw [at_s]
    split <;> omega
theorem at_eq {n : Nat} {en en' : Nat → Bool} {g g' : Nat → Int} (h1 : ∀ t, t < n → en t = en' t) (h2 : ∀ t, t < n → g t = g' t) : at_ n en g = at_ n en' g' := by
  unfold at_
  exact sm_eq n (fun t ht => by rw [h1 t ht, h2 t ht])
theorem s2_couple (F : Nat) (hF : 600 ≤ F) {n : Nat} (hn : n ≤ 200) {r32 r33 r34 r42 : Nat → Int32} (h2 : (r32 2).toInt = (n : Nat)) (hf : ∀ t, t < n → fd (r42 t).toInt) {v x w y : Int32} (hv : vr v) (hw : vr w) :
    sp (fnX2_coupleTogether F r32 r33 r34 r42 v x w y) (fun c => c.toInt = at_ n (cpB r33 (r32 7) r34 v.toNatClampNeg x w.toNatClampNeg y) (fun t => (r42 t).toInt) % 998244353) := by
  have e0 : (0 : Int32).toInt = 0 := rfl
  unfold fnX2_coupleTogether
  refine sp_bind (sp_cnt (fun s : Int32 × Int32 => s.2) n (by omega) (fun i s => s.1.toInt = at_ i (cpB r33 (r32 7) r34 v.toNatClampNeg x w.toNatClampNeg y) (fun t => (r42 t).toInt) % 998244353) (Q := fun c : Int32 => c.toInt = at_ n (cpB r33 (r32 7) r34 v.toNatClampNeg x w.toNatClampNeg y) (fun t => (r42 t).toInt) % 998244353) ?_ F 0 _ (by omega) e0 rfl (by omega)) (fun c hc => sp_some hc)
  rintro i ⟨s, z⟩ hi hx hcx hxs hJ
  refine sp_u2 ?_
  dsimp only at hx hcx hxs hJ
  unfold bdX2_coupleTogether_6
  refine sp_ite (fun hw => sp_some ?_) (fun hw2 => ?_)
  · have := i_le.mp hw
    have : i = n := by omega
    subst this
    exact hJ
  · have hw3 : ¬ (r32 2).toInt ≤ z.toInt := fun q => hw2 (i_le.mpr q)
    have hin : i < n := by omega
    have hib : mj_ib z 200 = true := mj_ib_of (by omega) (by omega)
    have skip : ¬ cpB r33 (r32 7) r34 v.toNatClampNeg x w.toNatClampNeg y i = true → at_ (i + 1) (cpB r33 (r32 7) r34 v.toNatClampNeg x w.toNatClampNeg y) (fun t => (r42 t).toInt) = at_ i (cpB r33 (r32 7) r34 v.toNatClampNeg x w.toNatClampNeg y) (fun t => (r42 t).toInt) := fun q => by rw [at_s, if_neg q, Int.add_zero]
    unfold fnX4_isEnd
    rw [if_pos hib, hcx, g_get F _ hv, g_get F _ hw]
    by_cases q : r33 i = r32 7
    · rw [if_pos q, Option.bind_some, if_neg (show ¬ (1 : Int32) = 0 from by decide), if_pos hib, Option.bind_some]
      by_cases q1 : dgt (r34 i) v.toNatClampNeg = x
      · rw [if_pos q1, if_pos hib, Option.bind_some]
        by_cases q2 : dgt (r34 i) w.toNatClampNeg = y
        · rw [if_pos q2]
          refine sp_pos hib (sp_bind (s3_plus F (by rw [hJ]; exact fd_md _) (hf i hin)) (fun o ho => sp_some ⟨hin, rfl, ?_⟩))
          dsimp only
          rw [at_s, if_pos (cpB_t.mpr ⟨q, q1, q2⟩), ho, hJ]
          omega
        · rw [if_neg q2]
          refine sp_some ⟨hin, rfl, ?_⟩
          rw [skip (fun z => q2 (cpB_t.mp z).2.2)]
          exact hJ
      · rw [if_neg q1]
        refine sp_some ⟨hin, rfl, ?_⟩
        rw [skip (fun z => q1 (cpB_t.mp z).2.1)]
        exact hJ
    · rw [if_neg q, Option.bind_some, if_pos rfl]
      refine sp_some ⟨hin, rfl, ?_⟩
      rw [skip (fun z => q (cpB_t.mp z).1)]
      exact hJ
theorem s2_values (F : Nat) (hF : 600 ≤ F) {n : Nat} (hn : n ≤ 200) {r32 r33 r34 r42 : Nat → Int32} (h2 : (r32 2).toInt = (n : Nat)) (hf : ∀ t, t < n → fd (r42 t).toInt) (hs : ∀ t, t < n → sx (r34 t)) {v : Int32} (hv : vr v) :
    sp (fnX2_valuesTogether F r32 r33 r34 r42 v) (fun c => c.toInt = at_ n (en_ r33 (r32 7)) (fun t => (dgt (r34 t) v.toNatClampNeg).toInt * (r42 t).toInt) % 998244353) := by
  have e0 : (0 : Int32).toInt = 0 := rfl
  unfold fnX2_valuesTogether
  refine sp_bind (sp_cnt (fun s : Int32 × Int32 => s.2) n (by omega) (fun i s => s.1.toInt = at_ i (en_ r33 (r32 7)) (fun t => (dgt (r34 t) v.toNatClampNeg).toInt * (r42 t).toInt) % 998244353) (Q := fun c : Int32 => c.toInt = at_ n (en_ r33 (r32 7)) (fun t => (dgt (r34 t) v.toNatClampNeg).toInt * (r42 t).toInt) % 998244353) ?_ F 0 _ (by omega) e0 rfl (by omega)) (fun c hc => sp_some hc)
  rintro i ⟨s, z⟩ hi hx hcx hxs hJ
  refine sp_u2 ?_
  dsimp only at hx hcx hxs hJ
  unfold bdX2_valuesTogether_5
  refine sp_ite (fun hw => sp_some ?_) (fun hw2 => ?_)
  · have := i_le.mp hw
    have : i = n := by omega
    subst this
    exact hJ
  · have hw3 : ¬ (r32 2).toInt ≤ z.toInt := fun q => hw2 (i_le.mpr q)
    have hin : i < n := by omega
    have hib : mj_ib z 200 = true := mj_ib_of (by omega) (by omega)
    unfold fnX4_isEnd
    rw [if_pos hib, hcx, g_get F _ hv]
    by_cases q : r33 i = r32 7
    · have hd := dgt_b (hs i hin).1 v.toNatClampNeg
      rw [if_pos q, Option.bind_some, if_neg (show ¬ (1 : Int32) = 0 from by decide), if_pos hib, Option.bind_some, if_pos hib]
      refine sp_bind (s3_times F (by constructor <;> omega) (hf i hin)) (fun o7 h7 => ?_)
      refine sp_bind (s3_plus F (by rw [hJ]; exact fd_md _) (by rw [h7]; exact fd_md _)) (fun o ho => sp_some ⟨hin, rfl, ?_⟩)
      dsimp only
      rw [at_s, if_pos (show en_ r33 (r32 7) i = true from decide_eq_true q), ho, hJ, h7]
      omega
    · rw [if_neg q, Option.bind_some, if_pos rfl]
      refine sp_some ⟨hin, rfl, ?_⟩
      rw [at_s, if_neg (show ¬ en_ r33 (r32 7) i = true from fun z => q (of_decide_eq_true z)), Int.add_zero]
      exact hJ
theorem l_addb {A B : Int64} {a b : Int} (hA : A.toInt = a) (hB : B.toInt = b) (h1 : -9223372036854775808 ≤ a + b) (h2 : a + b < 9223372036854775808) : (A + B).toInt = a + b := by
  rw [l_add (by rw [hA, hB]; exact h1) (by rw [hA, hB]; exact h2), hA, hB]
theorem l_remP {A : Int64} {a : Int} (hA : A.toInt = a) (h : 0 ≤ a) : (A - A / 998244353 * 998244353).toInt = a % 998244353 := by
  have eP : (998244353 : Int64).toInt = 998244353 := rfl
  rw [l_rem (by rw [hA]; exact h) (by rw [eP]; decide), hA, eP]
theorem s11_sumAt (F : Nat) (hF : 600 ≤ F) {n : Nat} (hn : n ≤ 200) {r71 r80 : Nat → Int32} {q90 : Nat → Int64} (h24 : (r71 24).toInt = (n : Nat)) (hf : ∀ t, t < n → fd (q90 t).toInt) (x : Int32) :
    sp (fnX11_sumAt F r71 r80 q90 x) (fun c => c.toInt = at_ n (fun t => decide (r80 t = x)) (fun t => (q90 t).toInt) % 998244353) := by
  have e0 : (0 : Int32).toInt = 0 := rfl
  have l0 : (0 : Int64).toInt = 0 := rfl
  have hb := at_b (g := fun t => (q90 t).toInt) hf (fun t => decide (r80 t = x))
  unfold fnX11_sumAt
  refine sp_bind (sp_cnt (fun s : Int64 × Int32 => s.2) n (by omega) (fun i s => s.1.toInt = at_ i (fun t => decide (r80 t = x)) (fun t => (q90 t).toInt)) (Q := fun c : Int64 => c.toInt = at_ n (fun t => decide (r80 t = x)) (fun t => (q90 t).toInt)) ?_ F 0 _ (by omega) e0 rfl (by omega)) (fun c hc => sp_some (l_remP hc (hb n (Nat.le_refl n)).1))
  rintro i ⟨s, z⟩ hi hx hcx hxs hJ
  refine sp_u2 ?_
  dsimp only at hx hcx hxs hJ
  unfold bdX11_sumAt_5
  refine sp_ite (fun hw => sp_some ?_) (fun hw2 => ?_)
  · have := i_le.mp hw
    have : i = n := by omega
    subst this
    exact hJ
  · have hw3 : ¬ (r71 24).toInt ≤ z.toInt := fun q => hw2 (i_le.mpr q)
    have hin : i < n := by omega
    have hib : mj_ib z 200 = true := mj_ib_of (by omega) (by omega)
    obtain ⟨b1, b2⟩ := hb i (by omega)
    obtain ⟨f1, f2⟩ := hf i hin
    refine sp_pos hib ?_
    rw [hcx]
    refine sp_ite (fun q => sp_pos hib (sp_some ⟨hin, rfl, ?_⟩)) (fun q => sp_some ⟨hin, rfl, ?_⟩)
    · rw [at_s, if_pos (decide_eq_true q)]
      exact l_addb hJ rfl (by omega) (by omega)
    · rw [at_s, if_neg (fun w => q (of_decide_eq_true w))]
      exact l_addb hJ l0 (by omega) (by omega)
theorem s11_ended (F : Nat) (hF : 600 ≤ F) {n : Nat} (hn : n ≤ 200) {r71 r80 : Nat → Int32} {q90 : Nat → Int64} (h24 : (r71 24).toInt = (n : Nat)) (hf : ∀ t, t < n → fd (q90 t).toInt) :
    sp (fnX11_ended F r71 r80 q90) (fun c => c.toInt = at_ n (en_ r80 (r71 4)) (fun t => (q90 t).toInt) % 998244353) := by
  unfold fnX11_ended
  exact sp_bind (s11_sumAt F hF hn h24 hf (r71 4)) (fun c hc => sp_some hc)
theorem s11_oddsOf (F : Nat) (hF : 600 ≤ F) {n : Nat} (hn : n ≤ 200) {r71 r80 r81 r87 : Nat → Int32} {q90 : Nat → Int64} (h24 : (r71 24).toInt = (n : Nat)) (hf : ∀ t, t < n → fd (q90 t).toInt) (ht : tens r87) {v x w y : Int32} (hv : vr v) (hw : vr w) :
    sp (fnX11_oddsOf F r71 r80 r81 r87 q90 v x w y) (fun c => c.toInt = (at_ n (cpB r80 (r71 4) r81 v.toNatClampNeg x w.toNatClampNeg y) (fun t => (q90 t).toInt) % 998244353) * iv (at_ n (en_ r80 (r71 4)) (fun t => (q90 t).toInt) % 998244353) % 998244353) := by
  have e0 : (0 : Int32).toInt = 0 := rfl
  have l0 : (0 : Int64).toInt = 0 := rfl
  have hb := at_b (g := fun t => (q90 t).toInt) hf (cpB r80 (r71 4) r81 v.toNatClampNeg x w.toNatClampNeg y)
  unfold fnX11_oddsOf
  refine sp_bind (sp_cnt (fun s : Int64 × Int32 => s.2) n (by omega) (fun i s => s.1.toInt = at_ i (cpB r80 (r71 4) r81 v.toNatClampNeg x w.toNatClampNeg y) (fun t => (q90 t).toInt)) (Q := fun c : Int64 => c.toInt = at_ n (cpB r80 (r71 4) r81 v.toNatClampNeg x w.toNatClampNeg y) (fun t => (q90 t).toInt)) ?_ F 0 _ (by omega) e0 rfl (by omega)) (fun c hc => ?_)
  · rintro i ⟨s, z⟩ hi hx hcx hxs hJ
    refine sp_u2 ?_
    dsimp only at hx hcx hxs hJ
    unfold bdX11_oddsOf_6
    refine sp_ite (fun hw => sp_some ?_) (fun hw2 => ?_)
    · have := i_le.mp hw
      have : i = n := by omega
      subst this
      exact hJ
    · have hw3 : ¬ (r71 24).toInt ≤ z.toInt := fun q => hw2 (i_le.mpr q)
      have hin : i < n := by omega
      have hib : mj_ib z 200 = true := mj_ib_of (by omega) (by omega)
      obtain ⟨b1, b2⟩ := hb i (by omega)
      obtain ⟨f1, f2⟩ := hf i hin
      have skip : ¬ cpB r80 (r71 4) r81 v.toNatClampNeg x w.toNatClampNeg y i = true → (s + (0 : Int64)).toInt = at_ (i + 1) (cpB r80 (r71 4) r81 v.toNatClampNeg x w.toNatClampNeg y) (fun t => (q90 t).toInt) := fun q => by
        rw [at_s, if_neg q]
        exact l_addb hJ l0 (by omega) (by omega)
      unfold fnX11_isEnd
      rw [if_pos hib, hcx, g_valueIn F ht _ hv, g_valueIn F ht _ hw]
      by_cases q : r80 i = r71 4
      · rw [if_pos q, Option.bind_some, if_neg (show ¬ (1 : Int32) = 0 from by decide), if_pos hib, Option.bind_some]
        by_cases q1 : dgt (r81 i) v.toNatClampNeg = x
        · rw [if_pos q1, if_pos hib, Option.bind_some]
          by_cases q2 : dgt (r81 i) w.toNatClampNeg = y
          · rw [if_pos q2]
            refine sp_pos hib (sp_some ⟨hin, rfl, ?_⟩)
            rw [at_s, if_pos (cpB_t.mpr ⟨q, q1, q2⟩)]
            exact l_addb hJ rfl (by omega) (by omega)
          · rw [if_neg q2]
            exact sp_some ⟨hin, rfl, skip (fun z => q2 (cpB_t.mp z).2.2)⟩
        · rw [if_neg q1]
          exact sp_some ⟨hin, rfl, skip (fun z => q1 (cpB_t.mp z).2.1)⟩
      · rw [if_neg q, Option.bind_some, if_pos rfl]
        exact sp_some ⟨hin, rfl, skip (fun z => q (cpB_t.mp z).1)⟩
  · refine sp_bind (s11_ended F hF hn h24 hf) (fun o12 h12 => ?_)
    refine sp_bind (s11_inverse F (by omega) (by rw [h12]; exact (fd_md _).1)) (fun o13 h13 => sp_some ?_)
    have hr := l_remP hc (hb n (Nat.le_refl n)).1
    generalize c - c / 998244353 * 998244353 = d at hr ⊢
    rw [l_mulm (by rw [hr]; exact fd_md _) (by rw [h13]; exact iv_fd _), hr, h13, h12]
theorem s11_oddsAlone (F : Nat) (hF : 600 ≤ F) {n : Nat} (hn : n ≤ 200) {r71 r80 r81 r87 : Nat → Int32} {q90 : Nat → Int64} (h24 : (r71 24).toInt = (n : Nat)) (hf : ∀ t, t < n → fd (q90 t).toInt) (ht : tens r87) {v x : Int32} (hv : vr v) :
    sp (fnX11_oddsAlone F r71 r80 r81 r87 q90 v x) (fun c => c.toInt = (at_ n (cpB r80 (r71 4) r81 v.toNatClampNeg x v.toNatClampNeg x) (fun t => (q90 t).toInt) % 998244353) * iv (at_ n (en_ r80 (r71 4)) (fun t => (q90 t).toInt) % 998244353) % 998244353) := by
  unfold fnX11_oddsAlone
  exact sp_bind (s11_oddsOf F hF hn h24 hf ht hv hv) (fun c hc => sp_some hc)
