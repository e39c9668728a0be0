/-! ===== calls that only ask ===== -/
def frI (I I' : mj_IT) : Prop := (∀ a, a ≠ 70 → a ≠ 71 → a ≠ 72 → I' a = I a) ∧ ∀ k, k ≠ 0 → I' 71 k = I 71 k
def frL (L L' : mj_LT) : Prop := ∀ a, a ≠ 98 → L' a = L a
def rfQ (I : mj_IT) : Prop := ∀ k, k < 3 → I 70 k = I 72 k
/-- what a call that only asks wants of the bond between the two -/
def kQ (Inv : Nat → mj_IT → mj_LT → Prop) : Prop :=
  (∀ j I L I' L', j < 512 → Inv j I L → frI I I' → frL L L' → rfQ I' → Inv (j + 1) I' L') ∧
  (∀ j I L, j < 512 → Inv j I L → rfQ I ∧ pK (I 18) (I 19) (I 20) (I 21) (I 22) (I 23) (I 24) (I 25) (I 26) (I 73) ∧ I 71 4 = I 18 0 ∧ vQ (I 1 3) (I 75) ∧ I 1 1 = I 71 16)
theorem rw_ne {α : Type} (I : Nat → Nat → α) (l : List (Nat × (Nat → α))) (a : Nat) (h : ∀ q ∈ l, a = q.1 → q.2 = I a) : mj_rows I l a = I a := by
  induction l with
  | nil => rfl
  | cons q l ih =>
    show (if a = q.1 then q.2 else mj_rows I l a) = I a
    by_cases e : a = q.1
    · rw [if_pos e]; exact h q (List.mem_cons_self ..) e
    · rw [if_neg e]; exact ih (fun q' hq => h q' (List.mem_cons_of_mem _ hq))
theorem b_status (F : Nat) {Inv : Nat → mj_IT → mj_LT → Prop} (hK : kQ Inv) : pb_status F Inv := by
  intro j hj I L hI x1
  have e0 : (0 : Int32).toInt = 0 := rfl
  have e3 : (3 : Int32).toInt = 3 := rfl
  obtain ⟨hr, hp, h4, hv, hf⟩ := hK.2 j I L hj hI
  have hfin : ∀ I2 : mj_IT, (∀ a, a ≠ 70 → a ≠ 71 → a ≠ 72 → I2 a = I a) → I2 70 = I 70 → I2 72 = I 72 → I2 71 = upd (I 71) 0 0 → Inv (j + 1) I2 L := by
    intro I2 w1 w2 w3 w4
    refine hK.1 j I L I2 L hj hI ⟨w1, fun k hk => by rw [w4, upd_ne hk]⟩ (fun _ _ => rfl) (fun k hk => by rw [w2, w3]; exact hr k hk)
  by_cases h : 0 ≤ x1.toInt ∧ x1.toInt ≤ 2
  · have hi : mj_ib x1 3 = true := mj_ib_of (by omega) (by omega)
    have hc : x1.toNatClampNeg < 3 := by rw [i_cl]; omega
    have q1 : fnX10_status F (I 70) x1 = some (I 70 x1.toNatClampNeg) := by
      unfold fnX10_status
      rw [if_neg (fun z => by have := i_lt.mp z; omega), if_neg (fun z => by have := i_le.mp z; omega), if_pos hi]
    have q2 : fnX11_status F (I 71) (I 72) x1 = some (I 72 x1.toNatClampNeg, upd (I 71) 0 0) := by
      unfold fnX11_status
      rw [q_lies3_in F (a := 0) (b := 2) h, Option.bind_some, if_neg (show ¬ (1 : Int32) = 0 from by decide), if_pos hi]
    refine ⟨I 70 x1.toNatClampNeg, mj_rows I [(70, I 70)], mj_rows (mj_rows I [(70, I 70)]) [(71, upd (I 71) 0 0), (72, I 72)], L, L, ?_, ?_, hfin _ ?_ rfl rfl rfl⟩
    · unfold stX10_status; rw [q1]; rfl
    · show (fnX11_status F (I 71) (I 72) x1).map _ = _
      rw [q2, hr _ hc]; rfl
    · intro a a0 a1 a2
      rw [rw_ne _ _ a (by simp [a1, a2]), rw_ne _ _ a (by simp [a0])]
  · have q1 : fnX10_status F (I 70) x1 = some (-1) := by
      unfold fnX10_status
      by_cases z : x1 < 0
      · rw [if_pos z]
      · have z1 : ¬ x1.toInt < 0 := fun w => z (i_lt.mpr w)
        rw [if_neg z, if_pos (i_le.mpr (by omega))]
    have q2 : fnX11_status F (I 71) (I 72) x1 = some (-1, upd (I 71) 0 0) := by
      unfold fnX11_status
      rw [q_lies3_out F (a := 0) (b := 2) h, Option.bind_some, if_pos rfl]
    refine ⟨-1, mj_rows I [(70, I 70)], mj_rows (mj_rows I [(70, I 70)]) [(71, upd (I 71) 0 0), (72, I 72)], L, L, ?_, ?_, hfin _ ?_ rfl rfl rfl⟩
    · unfold stX10_status; rw [q1]; rfl
    · show (fnX11_status F (I 71) (I 72) x1).map _ = _
      rw [q2]; rfl
    · intro a a0 a1 a2
      rw [rw_ne _ _ a (by simp [a1, a2]), rw_ne _ _ a (by simp [a0])]
theorem b_fault (F : Nat) {Inv : Nat → mj_IT → mj_LT → Prop} (hK : kQ Inv) : pb_fault F Inv := by
  intro j hj I L hI
  obtain ⟨hr, hp, h4, hv, hf⟩ := hK.2 j I L hj hI
  refine ⟨I 1 1, mj_rows I [(1, I 1)], mj_rows (mj_rows I [(1, I 1)]) [(71, upd (I 71) 0 0)], L, L, rfl, ?_, ?_⟩
  · show (fnX11_fault F (I 71)).map _ = _
    rw [hf]; rfl
  · refine hK.1 j I L _ L hj hI ⟨fun a a0 a1 a2 => ?_, fun k hk => ?_⟩ (fun _ _ => rfl) hr
    · rw [rw_ne _ _ a (by simp +contextual [a1]), rw_ne _ _ a (by simp +contextual)]
    · show upd (I 71) 0 0 k = I 71 k
      rw [upd_ne hk]
theorem rf_up {a b : Nat → Int32} (h : ∀ k, k < 3 → a k = b k) {m : Nat} (hm : m < 3) : ∀ k, k < 3 → upd a m (a m + 1) k = upd b m (b m + 1) k := by
  intro k hk
  by_cases e : k = m
  · rw [e, upd_at, upd_at, h m hm]
  · rw [upd_ne e, upd_ne e]; exact h k hk
theorem frL_up (L : mj_LT) (f : Nat → Int64) : frL L (va_up L 98 f) := by
  intro a ha
  first
    | exact if_neg ha
    | simp [va_up, ha]
theorem b_firstOf (F : Nat) {Inv : Nat → mj_IT → mj_LT → Prop} (hK : kQ Inv) : pb_firstOf F Inv := by
  intro j hj I L hI x1
  obtain ⟨hr, hp, h4, hv, hf⟩ := hK.2 j I L hj hI
  by_cases h : 0 ≤ x1.toInt ∧ x1.toInt < 6
  · have hi : mj_ib x1 6 = true := mj_ib_of (by omega) (by omega)
    have hc : x1.toNatClampNeg < 6 := by rw [i_cl]; omega
    have q1 : fnX10_firstOf F (I 1) (I 70) x1 = some (.inl (I 75 x1.toNatClampNeg, I 70)) := by
      unfold fnX10_firstOf
      rw [q_var_in F (I 70) h, Option.bind_some, Sum.elim_inl, g_get F (I 1 3) (show vr x1 from h), hv.2 _ hc]
      rfl
    have q2 : fnX11_firstOf F (I 71) (I 72) (I 75) x1 = some (I 75 x1.toNatClampNeg, upd (I 71) 0 0, I 72) := by
      unfold fnX11_firstOf
      rw [q_isName_in F h, Option.bind_some, q_fine F upd_at, Option.bind_some, if_neg (show ¬ (1 : Int32) = 0 from by decide), if_pos hi]
    generalize I 75 x1.toNatClampNeg = v at q1 q2
    refine ⟨.inl (v, mj_rows I [(1, I 1), (70, I 70)], L), v, 0, mj_rows (mj_rows I [(1, I 1), (70, I 70)]) [(71, upd (I 71) 0 0), (72, I 72), (75, I 75)], mj_rows (mj_rows (mj_rows I [(1, I 1), (70, I 70)]) [(71, upd (I 71) 0 0), (72, I 72), (75, I 75)]) [(71, upd (I 71) 0 0)], va_up L 98 (vp_updL (L 98) 0 v.toInt64), va_up L 98 (vp_updL (L 98) 0 v.toInt64), ?_, ?_, ?_, rfl, rfl, fun _ => rfl, ?_⟩
    · unfold stX10_firstOf; rw [q1]; rfl
    · intro q hq; cases hq
    · show (fnX11_firstOf F (I 71) (I 72) (I 75) x1).map _ = _
      rw [q2]; rfl
    · refine hK.1 j I L _ _ hj hI ⟨fun a a0 a1 a2 => ?_, fun k hk => ?_⟩ (frL_up L _) hr
      · rw [rw_ne _ _ a (by simp +contextual [a1]), rw_ne _ _ a (by simp +contextual [a1, a2]; try (intro z; rfl)), rw_ne _ _ a (by simp +contextual [a0])]
      · show upd (I 71) 0 0 k = I 71 k
        rw [upd_ne hk]
  · have q1 : fnX10_firstOf F (I 1) (I 70) x1 = some (.inr (0, upd (I 70) 0 (I 70 0 + 1))) := by
      unfold fnX10_firstOf
      rw [q_var_out F (I 70) h]
      rfl
    have q2 : fnX11_firstOf F (I 71) (I 72) (I 75) x1 = some (0, upd (upd (I 71) 0 0) 0 1, upd (I 72) 0 (I 72 0 + 1)) := by
      unfold fnX11_firstOf
      rw [q_isName_out F h, Option.bind_some, q_fine0 F upd_at (show ¬ (1 : Int32) = 0 from by decide) (by decide), Option.bind_some, if_pos rfl]
      rfl
    refine ⟨.inr (0, mj_rows I [(1, I 1), (70, upd (I 70) 0 (I 70 0 + 1))], L), 0, 1, mj_rows (mj_rows I [(1, I 1), (70, upd (I 70) 0 (I 70 0 + 1))]) [(71, upd (upd (I 71) 0 0) 0 1), (72, upd (I 72) 0 (I 72 0 + 1)), (75, I 75)], mj_rows (mj_rows (mj_rows I [(1, I 1), (70, upd (I 70) 0 (I 70 0 + 1))]) [(71, upd (upd (I 71) 0 0) 0 1), (72, upd (I 72) 0 (I 72 0 + 1)), (75, I 75)]) [(71, upd (upd (I 71) 0 0) 0 1)], L, L, ?_, ?_, ?_, rfl, rfl, ?_, ?_⟩
    · unfold stX10_firstOf; rw [q1]; rfl
    · intro q hq; cases hq; rfl
    · show (fnX11_firstOf F (I 71) (I 72) (I 75) x1).map _ = _
      rw [q2]; rfl
    · intro z; exact absurd z (show ¬ (1 : Int32) = 0 from by decide)
    · refine hK.1 j I L _ _ hj hI ⟨fun a a0 a1 a2 => ?_, fun k hk => ?_⟩ (fun _ _ => rfl) (rf_up hr (by decide))
      · rw [rw_ne _ _ a (by simp +contextual [a1]), rw_ne _ _ a (by simp +contextual [a1, a2]; try (intro z; rfl)), rw_ne _ _ a (by simp +contextual [a0])]
      · show upd (upd (I 71) 0 0) 0 1 k = I 71 k
        rw [upd_ne hk, upd_ne hk]
