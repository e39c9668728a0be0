/-! ===== independence, the reference ===== -/
theorem in_eq {E C A B : Int} (hE : ¬ cg E 0) : ((C % 998244353) * iv (E % 998244353) % 998244353 = ((A % 998244353) * iv (E % 998244353) % 998244353) * ((B % 998244353) * iv (E % 998244353) % 998244353) % 998244353) ↔ cg (C * E) (A * B) := by
  have hiv := iv_mul hE
  have e1 : iv (E % 998244353) = iv E := iv_cg (cg_md E)
  rw [e1]
  generalize iv E = i at *
  have l1 : cg ((C % 998244353) * i % 998244353) (C * i) := cg_tr (cg_md _) (cg_mul (cg_md _) (cg_rf _))
  have l2 : cg ((A % 998244353) * i % 998244353 * ((B % 998244353) * i % 998244353)) ((A * i) * (B * i)) := cg_mul (cg_tr (cg_md _) (cg_mul (cg_md _) (cg_rf _))) (cg_tr (cg_md _) (cg_mul (cg_md _) (cg_rf _)))
  constructor
  · intro h
    have h1 : cg (C * i) ((A * i) * (B * i)) := by
      refine cg_tr (cg_sy l1) (cg_tr ?_ l2)
      unfold cg
      omega
    have h2 := cg_mul h1 (cg_rf (E * E))
    have h3 : C * i * (E * E) = C * E * (E * i) := by grind
    have h4 : A * i * (B * i) * (E * E) = A * B * (E * i) * (E * i) := by grind
    rw [h3, h4] at h2
    have h5 := cg_mul (cg_rf (C * E)) hiv
    have h6 := cg_mul (cg_mul (cg_rf (A * B)) hiv) hiv
    rw [Int.mul_one] at h5
    rw [Int.mul_one, Int.mul_one] at h6
    exact cg_tr (cg_sy h5) (cg_tr h2 h6)
  · intro h
    have h2 := cg_mul h (cg_rf (i * i))
    have h3 : C * E * (i * i) = C * i * (E * i) := by grind
    have h4 : A * B * (i * i) = A * i * (B * i) := by grind
    rw [h3, h4] at h2
    have h5 := cg_mul (cg_rf (C * i)) hiv
    rw [Int.mul_one] at h5
    have h7 : cg ((C % 998244353) * i % 998244353) ((A % 998244353) * i % 998244353 * ((B % 998244353) * i % 998244353)) := cg_tr l1 (cg_tr (cg_sy h5) (cg_tr h2 (cg_sy l2)))
    unfold cg at h7
    omega
theorem s11_independent (F : Nat) (hF : 600 ≤ F) {n : Nat} (hn : n ≤ 200) {r71 r80 r81 r87 : Nat → Int32} {q90 : Nat → Int64} (h24 : (r71 24).toInt = (n : Nat)) (hf : ∀ t, t < n → fd (q90 t).toInt) (ht : tens r87) {v w : Int32} (hv : vr v) (hw : vr w) (hE : ¬ cg (at_ n (en_ r80 (r71 4)) (fun t => (q90 t).toInt)) 0) :
    sp (mj_it (bdX11_independent_63 F r71 r80 r81 r87 q90 v w) F (0 : Int32)) (fun e => Sum.elim (fun _ => ∀ x y, x < 10 → y < 10 → inP n r80 (r71 4) r81 v.toNatClampNeg w.toNatClampNeg (fun t => (q90 t).toInt) x y) (fun _ => ∃ x y, x < 10 ∧ y < 10 ∧ ¬ inP n r80 (r71 4) r81 v.toNatClampNeg w.toNatClampNeg (fun t => (q90 t).toInt) x y) e) := by
  have e0 : (0 : Int32).toInt = 0 := rfl
  have e10 : (10 : Int32).toInt = 10 := rfl
  refine sp_cnt (fun s : Int32 => s) 10 (by omega) (fun i _ => ∀ x y, x < i → y < 10 → inP n r80 (r71 4) r81 v.toNatClampNeg w.toNatClampNeg (fun t => (q90 t).toInt) x y) ?_ F 0 _ (by omega) e0 (fun x y hx => absurd hx (Nat.not_lt_zero x)) (by omega)
  rintro x z hi hx hcx hxs hJ
  unfold bdX11_independent_63
  refine sp_ite (fun hw => sp_some ?_) (fun hw2 => ?_)
  · have := i_le.mp hw
    have : x = 10 := by omega
    subst this
    exact hJ
  · have hw3 : ¬ (10 : Int32).toInt ≤ z.toInt := fun q => hw2 (i_le.mpr q)
    have hx10 : x < 10 := by omega
    refine sp_bind (sp_cnt (fun s : Int32 => s) 10 (by omega) (fun i _ => ∀ y, y < i → inP n r80 (r71 4) r81 v.toNatClampNeg w.toNatClampNeg (fun t => (q90 t).toInt) x y) (Q := fun e : Unit ⊕ Unit => Sum.elim (fun _ => ∀ y, y < 10 → inP n r80 (r71 4) r81 v.toNatClampNeg w.toNatClampNeg (fun t => (q90 t).toInt) x y) (fun _ => ∃ y, y < 10 ∧ ¬ inP n r80 (r71 4) r81 v.toNatClampNeg w.toNatClampNeg (fun t => (q90 t).toInt) x y) e) ?_ F 0 _ (by omega) e0 (fun y hy => absurd hy (Nat.not_lt_zero y)) (by omega)) ?_
    · rintro y z' hi' hx' hcx' hxs' hJ'
      unfold bdX11_independent_72
      refine sp_ite (fun hw => sp_some ?_) (fun hw4 => ?_)
      · have := i_le.mp hw
        have : y = 10 := by omega
        subst this
        exact hJ'
      · have hw5 : ¬ (10 : Int32).toInt ≤ z'.toInt := fun q => hw4 (i_le.mpr q)
        have hy10 : y < 10 := by omega
        refine sp_bind (s11_oddsOf F hF hn h24 hf ht (x := z) (y := z') hv hw) (fun o2 h2 => ?_)
        refine sp_bind (s11_oddsAlone F hF hn h24 hf ht (x := z) hv) (fun o3 h3 => ?_)
        refine sp_bind (s11_oddsAlone F hF hn h24 hf ht (x := z') hw) (fun o4 h4 => ?_)
        rw [at_eq (en' := pB r80 (r71 4) r81 v.toNatClampNeg x w.toNatClampNeg y) (g' := fun t => (q90 t).toInt) (fun t _ => cpB_pB hx hx' t) (fun _ _ => rfl)] at h2
        rw [at_eq (en' := dB r80 (r71 4) r81 v.toNatClampNeg x) (g' := fun t => (q90 t).toInt) (fun t _ => cpB_dB hx t) (fun _ _ => rfl)] at h3
        rw [at_eq (en' := dB r80 (r71 4) r81 w.toNatClampNeg y) (g' := fun t => (q90 t).toInt) (fun t _ => cpB_dB hx' t) (fun _ _ => rfl)] at h4
        have hm := l_mulm (A := o3) (B := o4) (by rw [h3]; exact fd_md _) (by rw [h4]; exact fd_md _)
        have kk : o2.toInt = (o3 * o4 - o3 * o4 / 998244353 * 998244353).toInt ↔ inP n r80 (r71 4) r81 v.toNatClampNeg w.toNatClampNeg (fun t => (q90 t).toInt) x y := by
          rw [hm, h2, h3, h4]
          exact in_eq hE
        refine sp_ite (fun hq => sp_some ⟨hy10, rfl, fun j hj => ?_⟩) (fun hq => sp_some ⟨y, hy10, fun q => hq (l_eq.mpr (kk.mpr q))⟩)
        by_cases e : j = y
        · rw [e]; exact kk.mp (l_eq.mp hq)
        · clear hm kk h2 h3 h4
          exact hJ' j (by omega)
    · rintro (e | e) he
      · refine sp_some ⟨hx10, rfl, fun x' y hx' hy => ?_⟩
        by_cases e2 : x' = x
        · rw [e2]; exact he y hy
        · exact hJ x' y (by omega) hy
      · obtain ⟨y, y1, y2⟩ := he
        exact sp_some ⟨x, y, hx10, y1, y2⟩
