/-! ===== the text: the token in front ===== -/
/-- the class has read the token that begins at q -/
def tk (n : Nat) (r3 r2 : Nat → Int32) (q : Nat) : Prop :=
  (r2 3).toInt = (n : Nat) ∧ (r2 5).toInt = (q : Nat) ∧ q ≤ n ∧ (q < n → ¬ isB (bt r3 q)) ∧ ∃ e : Nat, (r2 6).toInt = (e : Nat) ∧ q ≤ e ∧ e ≤ n ∧
    ((q = n ∧ r2 4 = 0 ∧ e = n) ∨ (q < n ∧ isL (bt r3 q) ∧ r2 4 = 1 ∧ run isL n (bt r3) q e) ∨
     (q < n ∧ isD (bt r3 q) ∧ r2 4 = 2 ∧ run isD n (bt r3) q e ∧ (r2 7).toInt = ncl (bt r3) q (e - q)) ∨
     (q < n ∧ ¬ isL (bt r3 q) ∧ ¬ isD (bt r3 q) ∧ r2 4 = 3 ∧ e = q + 1))
def ck (r2 r2' : Nat → Int32) : Prop := ∀ k, k ≠ 4 → k ≠ 5 → k ≠ 6 → k ≠ 7 → k ≠ 8 → k ≠ 9 → r2' k = r2 k
theorem ck_rf (r : Nat → Int32) : ck r r := fun k _ _ _ _ _ _ => rfl
theorem ck_tr {a b c : Nat → Int32} (h : ck a b) (h' : ck b c) : ck a c := fun k k1 k2 k3 k4 k5 k6 => (h' k k1 k2 k3 k4 k5 k6).trans (h k k1 k2 k3 k4 k5 k6)
theorem s8_goOn (F : Nat) (hF : 500 ≤ F) {n p : Nat} {r2 r3 : Nat → Int32} (hn : n ≤ 400) (h8 : r2 8 = 0) (h3 : (r2 3).toInt = (n : Nat)) (h6 : (r2 6).toInt = (p : Nat)) (hp : p ≤ n) :
    sp (fnX8_goOn F r2 r3) (fun s => ∃ q : Nat, run isB n (bt r3) p q ∧ tk n r3 s q ∧ s 8 = 0 ∧ ck r2 s ∧ s 9 = r2 9) := by
  have e1 : (1 : Int32).toInt = 1 := rfl
  unfold fnX8_goOn
  rw [if_pos h8]
  refine sp_bind (s8_blank F hF (n := n) (p := p) hn (by rw [upd_ne (by omega)]; exact h3) (by rw [upd_at]; exact h6) hp) ?_
  rintro s ⟨q, s1, s2, s3⟩
  have f1 : ∀ k, k ≠ 5 → s k = r2 k := fun k hk => by rw [s3 k hk, upd_ne hk]
  have hq := s2.2.1
  refine sp_bind (s8_word F hF (n := n) (p := q) hn (by rw [upd_ne (by omega), upd_ne (by omega), upd_ne (by omega), f1 3 (by omega)]; exact h3) (by rw [upd_ne (by omega), upd_ne (by omega), upd_at]; exact s1) hq (by rw [upd_at])) ?_
  rintro t ⟨e, t1, t2, t3, t4, t5⟩
  have f2 : ∀ k, k ≠ 4 → k ≠ 5 → k ≠ 6 → k ≠ 7 → t k = r2 k := fun k k1 k2 k3 k4 => by rw [t5 k k1 k3, upd_ne k1, upd_ne k4, upd_ne k3, f1 k k2]
  have t_5 : (t 5).toInt = (q : Nat) := by rw [t5 5 (by omega) (by omega), upd_ne (by omega), upd_ne (by omega), upd_ne (by omega)]; exact s1
  have t_3 : (t 3).toInt = (n : Nat) := by rw [f2 3 (by omega) (by omega) (by omega) (by omega)]; exact h3
  have t_8 : t 8 = 0 := by rw [f2 8 (by omega) (by omega) (by omega) (by omega)]; exact h8
  have t_7 : t 7 = 0 := by rw [t5 7 (by omega) (by omega), upd_ne (by omega), upd_at]
  have hbq : q < n → ¬ isB (bt r3 q) := s2.2.2.2
  by_cases hqe : q < e
  · -- a word
    have h1 := t4 hqe
    have hqn : q < n := by have := t2.2.1; omega
    have hm : mj_it (bdX8_goOn_129 F r3) F t = some t := by
      cases F with
      | zero => omega
      | succ F => 
        show (bdX8_goOn_129 (F + 1) r3 t).bind _ = _
        unfold bdX8_goOn_129
        rw [if_pos h1]
        rfl
    rw [hm, Option.bind_some, if_neg (by rw [h1]; decide)]
    exact sp_some ⟨q, s2, ⟨t_3, t_5, hq, hbq, e, t1, t2.1, t2.2.1, .inr (.inl ⟨hqn, t2.2.2.1 q (Nat.le_refl q) hqe, h1, t2⟩)⟩, t_8, fun k k1 k2 k3 k4 _ _ => f2 k k1 k2 k3 k4, f2 9 (by omega) (by omega) (by omega) (by omega)⟩
  · have hqe' : q = e := by have := t2.1; omega
    subst hqe'
    have hnl : q < n → ¬ isL (bt r3 q) := t2.2.2.2
    refine sp_bind (s8_digits F hF (n := n) (p := q) hn t_3 t1 hq (t3 rfl) t_7) ?_
    rintro u ⟨e, u1, u2, u3, u4, u6, u5⟩
    have f3 : ∀ k, k ≠ 4 → k ≠ 5 → k ≠ 6 → k ≠ 7 → u k = r2 k := fun k k1 k2 k3 k4 => by rw [u5 k k1 k3 k4, f2 k k1 k2 k3 k4]
    have u_5 : (u 5).toInt = (q : Nat) := by rw [u5 5 (by omega) (by omega) (by omega)]; exact t_5
    have u_3 : (u 3).toInt = (n : Nat) := by rw [f3 3 (by omega) (by omega) (by omega) (by omega)]; exact h3
    have u_8 : u 8 = 0 := by rw [f3 8 (by omega) (by omega) (by omega) (by omega)]; exact h8
    by_cases hqe : q < e
    · have h1 := u4 hqe
      have hqn : q < n := by have := u2.2.1; omega
      rw [if_neg (show ¬ u 4 = 0 by rw [h1]; decide)]
      exact sp_some ⟨q, s2, ⟨u_3, u_5, hq, hbq, e, u1, u2.1, u2.2.1, .inr (.inr (.inl ⟨hqn, u2.2.2.1 q (Nat.le_refl q) hqe, h1, u2, u6⟩))⟩, u_8, fun k k1 k2 k3 k4 _ _ => f3 k k1 k2 k3 k4, f3 9 (by omega) (by omega) (by omega) (by omega)⟩
    · have hqe' : q = e := by have := u2.1; omega
      subst hqe'
      have hnd : q < n → ¬ isD (bt r3 q) := u2.2.2.2
      rw [if_pos (u3 rfl)]
      refine sp_ite (fun hz => sp_some ?_) (fun hz => sp_some ?_)
      · have := i_le.mp hz
        have hqn : q = n := by omega
        exact ⟨q, s2, ⟨u_3, u_5, hq, hbq, q, u1, Nat.le_refl q, hq, .inl ⟨hqn, u3 rfl, hqn⟩⟩, u_8, fun k k1 k2 k3 k4 _ _ => f3 k k1 k2 k3 k4, f3 9 (by omega) (by omega) (by omega) (by omega)⟩
      · have hz' : ¬ (u 3).toInt ≤ (u 6).toInt := fun z => hz (i_le.mpr z)
        have hqn : q < n := by omega
        refine ⟨q, s2, ⟨?_, ?_, hq, hbq, q + 1, ?_, by omega, hqn, .inr (.inr (.inr ⟨hqn, hnl hqn, hnd hqn, ?_, rfl⟩))⟩, ?_, fun k k1 k2 k3 k4 _ _ => ?_, ?_⟩
        · rw [upd_ne (by omega), upd_ne (by omega)]; exact u_3
        · rw [upd_ne (by omega), upd_ne (by omega)]; exact u_5
        · rw [upd_at, i_add (by omega) (by omega), u1, e1]; omega
        · rw [upd_ne (by omega), upd_at]
        · rw [upd_ne (by omega), upd_ne (by omega)]; exact u_8
        · rw [upd_ne k3, upd_ne k1]; exact f3 k k1 k2 k3 k4
        · rw [upd_ne (by omega), upd_ne (by omega)]; exact f3 9 (by omega) (by omega) (by omega) (by omega)
theorem s8_goOnF (F : Nat) {r2 r3 : Nat → Int32} (h8 : ¬ r2 8 = 0) : fnX8_goOn F r2 r3 = some r2 := by
  unfold fnX8_goOn
  rw [if_neg h8]
/-! the reference -/
def hQr (n : Nat) (r3 r71 : Nat → Int32) (q : Nat) : Prop := (r71 10).toInt = (n : Nat) ∧ ∃ h : Nat, (r71 11).toInt = (h : Nat) ∧ run isB n (bt r3) h q
/-- what sign answers at q -/
def sg (n : Nat) (r77 : Nat → Int32) (q : Nat) : Int32 := if q < n then r77 q else 0
theorem s11_sign (F : Nat) (hF : 500 ≤ F) {n q : Nat} {r3 r71 r77 : Nat → Int32} (ht : tx n r3 r77) (hh : hQr n r3 r71 q) :
    sp (fnX11_sign F r71 r77) (fun o => o.1 = sg n r77 q ∧ (o.2 10).toInt = (n : Nat) ∧ (o.2 11).toInt = (q : Nat) ∧ ∀ k, k ≠ 11 → o.2 k = r71 k) := by
  obtain ⟨h1, h, h2, h3⟩ := hh
  have hn := ht.1
  unfold fnX11_sign
  have hhn : h ≤ n := by have := h3.1; have := h3.2.1; omega
  refine sp_bind (s11_blank F hF ht h1 h2 hhn) ?_
  rintro s ⟨q', s1, s2, s3⟩
  have := run_un s2 h3
  subst this
  have e10 : (s 10).toInt = (n : Nat) := by rw [s3 10 (by omega)]; exact h1
  refine sp_ite (fun hz => sp_some ⟨?_, e10, s1, s3⟩) (fun hz => sp_pos (mj_ib_of ?_ ?_) (sp_some ⟨?_, e10, s1, s3⟩))
  · have := i_le.mp hz
    unfold sg
    rw [if_neg (by omega)]
  · omega
  · have : ¬ (s 10).toInt ≤ (s 11).toInt := fun z => hz (i_le.mpr z)
    omega
  · have : ¬ (s 10).toInt ≤ (s 11).toInt := fun z => hz (i_le.mpr z)
    unfold sg
    rw [if_pos (by omega), i_cl, s1]
    rfl
theorem hQr_at {n q : Nat} {r3 r71 : Nat → Int32} (h1 : (r71 10).toInt = (n : Nat)) (h2 : (r71 11).toInt = (q : Nat)) (hq : q ≤ n) (hb : q < n → ¬ isB (bt r3 q)) : hQr n r3 r71 q := ⟨h1, q, h2, run_rf hq hb⟩
/-- in a fault sign moves on at most to the text's end -/
theorem s11_signF (F : Nat) (hF : 500 ≤ F) {n h M : Nat} {r3 r71 r77 : Nat → Int32} (ht : tx n r3 r77) (h1 : (r71 10).toInt = (n : Nat)) (h2 : (r71 11).toInt = (h : Nat)) (hM : h ≤ M) (hM2 : 400 ≤ M) (hM3 : M ≤ 1000) :
    sp (fnX11_sign F r71 r77) (fun o => (∃ h' : Nat, (o.2 11).toInt = (h' : Nat) ∧ h' ≤ M) ∧ ∀ k, k ≠ 11 → o.2 k = r71 k) := by
  have hn := ht.1
  by_cases hh : h ≤ n
  · unfold fnX11_sign
    refine sp_bind (s11_blank F hF ht h1 h2 hh) ?_
    rintro s ⟨q, s1, s2, s3⟩
    have hq := s2.2.1
    refine sp_ite (fun hz => sp_some ⟨⟨q, s1, by omega⟩, s3⟩) (fun hz => sp_pos (mj_ib_of ?_ ?_) (sp_some ⟨⟨q, s1, by omega⟩, s3⟩))
    · omega
    · have e10 : (s 10).toInt = (n : Nat) := by rw [s3 10 (by omega)]; exact h1
      have : ¬ (s 10).toInt ≤ (s 11).toInt := fun z => hz (i_le.mpr z)
      omega
  · have hm : mj_it (bdX11_sign_0 F r77) F r71 = some r71 := by
      cases F with
      | zero => omega
      | succ F =>
        show (bdX11_sign_0 (F + 1) r77 r71).bind _ = _
        unfold bdX11_sign_0
        rw [if_pos (i_le.mpr (by omega))]
        rfl
    unfold fnX11_sign
    rw [hm, Option.bind_some, if_pos (i_le.mpr (by omega))]
    exact sp_some ⟨⟨h, h2, hM⟩, fun k _ => rfl⟩
theorem s11_digits (F : Nat) (hF : 500 ≤ F) {n p : Nat} {r71 r3 r77 : Nat → Int32} (ht : tx n r3 r77) (h3 : (r71 10).toInt = (n : Nat)) (h5 : (r71 11).toInt = (p : Nat)) (hp : p ≤ n) :
    sp (mj_it (mj_u2 (fun z0 z1 => bdX11_number_42 F r77 z0 z1)) F ((0 : Int32), r71)) (fun s => ∃ e : Nat, (s.2 11).toInt = (e : Nat) ∧ run isD n (bt r3) p e ∧ s.1.toInt = nb 100000 (bt r3) p (e - p) ∧ ∀ k, k ≠ 11 → s.2 k = r71 k) := by
  have hn := ht.1
  refine sp_cnt (fun s : Int32 × (Nat → Int32) => s.2 11) n (by omega) (fun i s => p ≤ i ∧ (∀ k, p ≤ k → k < i → isD (bt r3 k)) ∧ s.1.toInt = nb 100000 (bt r3) p (i - p) ∧ ∀ k, k ≠ 11 → s.2 k = r71 k) ?_ F p _ hp h5 ⟨Nat.le_refl p, fun k k1 k2 => absurd k2 (by omega), by rw [Nat.sub_self]; rfl, fun k _ => rfl⟩ (by omega)
  rintro i ⟨v, s⟩ hi hx hcx hxs ⟨j1, j2, j6, j5⟩
  refine sp_u2 ?_
  dsimp only at hx hcx hxs j6 j5
  unfold bdX11_number_42
  have e3 : (s 10).toInt = (n : Nat) := by rw [j5 10 (by omega)]; exact h3
  refine sp_ite (fun hz => sp_some ⟨i, hx, ⟨j1, hi, j2, ?_⟩, j6, j5⟩) (fun hz => ?_)
  · have := i_le.mp hz
    intro z
    omega
  · have hz' : ¬ (s 10).toInt ≤ (s 11).toInt := fun z => hz (i_le.mpr z)
    have hib : mj_ib (s 11) 400 = true := mj_ib_of (by omega) (by omega)
    have hin : i < n := by omega
    have hT := tb_i (ht.2 i hin)
    refine sp_pos hib ?_
    rw [hcx]
    refine sp_ite (fun hb => sp_some ⟨i, hx, ⟨j1, hi, j2, fun _ z => ?_⟩, j6, j5⟩) (fun hb => sp_pos hib (sp_ite (fun hb2 => sp_some ⟨i, hx, ⟨j1, hi, j2, fun _ z => ?_⟩, j6, j5⟩) (fun hb2 => sp_pos hib (sp_some ⟨by omega, show upd s 11 (s 11 + 1) 11 = s 11 + 1 from upd_at, by omega, ?_, ?_, ?_⟩))))
    · have a : (r77 i).toInt < 48 := i_lt.mp hb
      unfold isD bt at z
      omega
    · have a : 57 < (r77 i).toInt := i_lt.mp hb2
      unfold isD bt at z
      omega
    · intro k k1 k2
      by_cases z : k = i
      · rw [z]
        have a : ¬ (r77 i).toInt < 48 := fun z => hb (i_lt.mpr z)
        have a2 : ¬ 57 < (r77 i).toInt := fun z => hb2 (i_lt.mpr z)
        unfold isD bt
        omega
      · exact j2 k k1 (by omega)
    · have a : ¬ (r77 i).toInt < 48 := fun z => hb (i_lt.mpr z)
      have a2 : ¬ 57 < (r77 i).toInt := fun z => hb2 (i_lt.mpr z)
      have bd := nb_b (cap := 100000) (by omega) (b := bt r3) (q := p) (i - p) (fun k k1 k2 => j2 k k1 (by omega))
      have hd := i_dig (c := r77 i) j6 bd.1 (by omega) ⟨by omega, by omega⟩
      have es : i + 1 - p = (i - p) + 1 := by omega
      have ei : p + (i - p) = i := by omega
      have eb : bt r3 i = (r77 i).toInt := by unfold bt; omega
      show (if _ then _ else _ : Int32).toInt = _
      rw [es, nb_s, ei, eb, ← hd]
      by_cases z : (100000 : Int32) < ((10 * v + r77 i) - 48)
      · rw [if_pos z, if_neg (show ¬ (10 * v + r77 i - 48).toInt < 100000 from fun y => by have : 100000 < (10 * v + r77 i - 48).toInt := i_lt.mp z; omega)]
        rfl
      · rw [if_neg z]
        have z' : ¬ 100000 < (10 * v + r77 i - 48).toInt := fun y => z (i_lt.mpr y)
        by_cases y : (10 * v + r77 i - 48).toInt < 100000
        · rw [if_pos y]
        · rw [if_neg y]
          omega
    · intro k hk
      show upd _ _ _ k = _
      rw [upd_ne hk]
      exact j5 k hk
