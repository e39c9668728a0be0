/-! ===== the law's start, from the Statement's own words ===== -/
theorem mj_arrT {args : Array Value} {s : State} {ty : FieldType} (h : (Cond.arrayClass ty).before args s = true) : ∃ cA : ClassId, ArrOfT s cA ty ∧ s.vm.findClass ("[" ++ ty.toString) = some cA := by
  obtain ⟨cA, kA, comp, h1, h2, h3⟩ := Cond.arrayClass_spec (args := args) (first := s) (o := none) (s := s) (idx := []) h
  exact ⟨cA, fun n z => ⟨fun k h => (by cases h), kA, h2, comp, h3⟩, h1⟩
theorem mj_Kn {args : Array Value} {s : State} (hts : ∀ w ∈ mj_tb, w.before args s = true) (ci n : Nat) (hK : mj_K1 ci) (hi : Cond.instantiable (mj_Rn ci) n ∈ mj_tb) : ∃ (cC : ClassId) (iS : Nat → Nat), u_Kn s (mj_Rn ci) (mj_T ci) (mj_nf ci) cC iS :=
  u_known hts hK.2.1 (hts _ hi)
theorem inst_0 : Cond.instantiable (mj_Rn 0) 3 ∈ mj_tb := mj_seg_1 (j := 155) (by decide +kernel) rfl
theorem inst_1 : Cond.instantiable (mj_Rn 1) 15 ∈ mj_tb := mj_seg_2 (j := 23) (by decide +kernel) rfl
theorem inst_2 : Cond.instantiable (mj_Rn 2) 16 ∈ mj_tb := mj_seg_1 (j := 172) (by decide +kernel) rfl
theorem inst_3 : Cond.instantiable (mj_Rn 3) 7 ∈ mj_tb := mj_seg_2 (j := 136) (by decide +kernel) rfl
theorem inst_4 : Cond.instantiable (mj_Rn 4) 9 ∈ mj_tb := mj_seg_2 (j := 102) (by decide +kernel) rfl
theorem inst_5 : Cond.instantiable (mj_Rn 5) 11 ∈ mj_tb := mj_seg_1 (j := 46) (by decide +kernel) rfl
theorem inst_6 : Cond.instantiable (mj_Rn 6) 14 ∈ mj_tb := mj_seg_1 (j := 40) (by decide +kernel) rfl
theorem inst_7 : Cond.instantiable (mj_Rn 7) 5 ∈ mj_tb := mj_seg_2 (j := 80) (by decide +kernel) rfl
theorem inst_8 : Cond.instantiable (mj_Rn 8) 11 ∈ mj_tb := mj_seg_1 (j := 32) (by decide +kernel) rfl
theorem inst_9 : Cond.instantiable (mj_Rn 9) 46 ∈ mj_tb := mj_seg_6 (j := 204) (by decide +kernel) rfl
theorem mj_Kstart {args : Array Value} {s : State} (hts : ∀ w ∈ mj_tb, w.before args s = true) (g : Nat → Nat) : ∃ G : mj_GT, G.2.2.2.2.2 = g ∧ va_K G.1 mj_cl (mj_tys G) s := by
  have key : ∀ ci, ∃ q : ClassId × (Nat → Nat), ci < 10 → u_Kn s (mj_Rn ci) (mj_T ci) (mj_nf ci) q.1 q.2 := by
    intro ci
    by_cases h0 : ci = 0
    · subst h0; obtain ⟨a, b, h⟩ := mj_Kn hts 0 _ k1_0 inst_0; exact ⟨(a, b), fun _ => h⟩
    by_cases h0 : ci = 1
    · subst h0; obtain ⟨a, b, h⟩ := mj_Kn hts 1 _ k1_1 inst_1; exact ⟨(a, b), fun _ => h⟩
    by_cases h0 : ci = 2
    · subst h0; obtain ⟨a, b, h⟩ := mj_Kn hts 2 _ k1_2 inst_2; exact ⟨(a, b), fun _ => h⟩
    by_cases h0 : ci = 3
    · subst h0; obtain ⟨a, b, h⟩ := mj_Kn hts 3 _ k1_3 inst_3; exact ⟨(a, b), fun _ => h⟩
    by_cases h0 : ci = 4
    · subst h0; obtain ⟨a, b, h⟩ := mj_Kn hts 4 _ k1_4 inst_4; exact ⟨(a, b), fun _ => h⟩
    by_cases h0 : ci = 5
    · subst h0; obtain ⟨a, b, h⟩ := mj_Kn hts 5 _ k1_5 inst_5; exact ⟨(a, b), fun _ => h⟩
    by_cases h0 : ci = 6
    · subst h0; obtain ⟨a, b, h⟩ := mj_Kn hts 6 _ k1_6 inst_6; exact ⟨(a, b), fun _ => h⟩
    by_cases h0 : ci = 7
    · subst h0; obtain ⟨a, b, h⟩ := mj_Kn hts 7 _ k1_7 inst_7; exact ⟨(a, b), fun _ => h⟩
    by_cases h0 : ci = 8
    · subst h0; obtain ⟨a, b, h⟩ := mj_Kn hts 8 _ k1_8 inst_8; exact ⟨(a, b), fun _ => h⟩
    by_cases h0 : ci = 9
    · subst h0; obtain ⟨a, b, h⟩ := mj_Kn hts 9 _ k1_9 inst_9; exact ⟨(a, b), fun _ => h⟩
    exact ⟨(0, fun _ => 0), fun h => absurd h (by omega)⟩
  obtain ⟨D, hD⟩ := Classical.axiomOfChoice key
  obtain ⟨c1, a1, b1⟩ := mj_arrT (hts _ ac_int)
  obtain ⟨c2, a2, b2⟩ := mj_arrT (hts _ ac_long)
  obtain ⟨c3, a3, b3⟩ := mj_arrT (hts _ ac_boolean)
  obtain ⟨c4, a4, b4⟩ := mj_arrT (hts _ ac_byte)
  refine ⟨((fun c => (D c).1, fun c => (D c).2), c1, c2, c3, c4, g), rfl, ?_, ?_⟩
  · intro c q hq
    have hc : c < 10 := (List.getElem?_eq_some_iff.mp hq).1
    have hq2 := (mj_cl_at hc).symm.trans hq
    cases hq2
    exact hD c hc
  · intro k q hq
    have hk : k < 4 := (List.getElem?_eq_some_iff.mp hq).1
    by_cases e0 : k = 0
    · subst e0; cases hq; exact ⟨a1, b1⟩
    by_cases e1 : k = 1
    · subst e1; cases hq; exact ⟨a2, b2⟩
    by_cases e2 : k = 2
    · subst e2; cases hq; exact ⟨a3, b3⟩
    by_cases e3 : k = 3
    · subst e3; cases hq; exact ⟨a4, b4⟩
    omega
/-- the law's contract, from what phase B owes -/
theorem mj_whole (F : Nat) (Inv : Nat → mj_IT → mj_LT → Prop) (hB : pb_all F Inv) (hmono : ∀ j I L, Inv j I L → Inv (j + 1) I L) (h0 : Inv 0 mj_is mj_ls) {p : Program} {e : Env} {s : State} {m : MethodId} {below : List Frame} {meth : Method} {c : Code} (l : Launch) (hflags : l.flags = flags0) {b L : Nat} {xs : Nat → Int32} (hL : L ≤ 3072) (C0 : lw_At p s m meth c b L xs) : W p l e room_1 s m #[Value.ref b] below meth c s.heap [] 0 0 (lw_Z below #[Value.ref b] s) (entryFrame m ([Value.ref b] : List Value).toArray 8) := by
  obtain ⟨hx, hb, hr, hml, hown, hts, hX, hbl, hlocks, hgv⟩ := C0
  have hlt : l.stackTraces = false := by
    simp only [Launch.stackTraces, hflags]
    decide
  have htb : ∀ w ∈ mj_tb, w.before #[Value.ref b] s = true := fun w hw => hts w (List.mem_filter.mp hw).1
  obtain ⟨g, hg50, hZ⟩ := mj_Zstart (A := fun q : Nat => s.heap.size ≤ q) hgv hts (fun a ha => Nat.not_le.mpr ha)
  obtain ⟨G, hG, hK⟩ := mj_Kstart htb g
  have hl := lv_entry ([Value.ref b]) (n := 8) (Nat.le_of_ble_eq_true rfl)
  rw [lg_entry_eq]
  generalize (lg_sl ([Value.ref b]) ++ List.replicate (8 - (lg_sl ([Value.ref b])).length) Slot.unset).toArray = la at hl ⊢
  have hl : lv_has la 8 [(0, Value.ref b)] := hl
  let ad : Nat → Nat := fun a => g (a - 2000)
  have had : ∀ i, ad (2000 + i) = G.2.2.2.2.2 i := by
    intro i
    show g (2000 + i - 2000) = _
    rw [hG, Nat.add_sub_cancel_left]
  have key := lw_begin (X := (p, l, e, room_1, s, m, #[Value.ref b], below, meth, c, lw_Z below #[Value.ref b] s, fun q : Nat => s.heap.size ≤ q)) (G := G) (nm := meth.name) (ad := ad) (N := L) (xs := xs) ?_ hL hlt F Inv hB hmono h0 ⟨rfl, rfl⟩ ?_
  · have hC : mj_C (p, l, e, room_1, s, m, #[Value.ref b], below, meth, c, lw_Z below #[Value.ref b] s, fun q : Nat => s.heap.size ≤ q) G RL meth.name cL_law 8 51 (some .boolean) ad :=
      ⟨hx, hb, hml, hown, htb, hr, hlocks, rfl, ⟨Nat.le_of_ble_eq_true rfl, Nat.le_of_ble_eq_true rfl⟩, hK, fun q h => h, hZ G hG, had⟩
    have e50 : ad 2050 = b := (had 50).trans (by rw [hG]; exact hg50)
    have hP0 : va_P G.1 mj_cl (mj_w G ad mj_z2 mj_S0 0 mj_z3 mj_z4) s.heap := fun k q h => by simp [mj_w] at h
    have hD0 : va_D (fun q : Nat => s.heap.size ≤ q) (mj_w G ad mj_z2 mj_S0 0 mj_z3 mj_z4) := ⟨fun i j x y h => by simp [mj_w] at h, fun k q h => by simp [mj_w] at h⟩
    exact key hC s.heap [] la hP0 hD0 va_S.rf (by simp only [List.map_cons, List.map_nil, mj_v, e50]; exact hl)
  · refine ⟨?_, ?_, ?_⟩
    · rw [hG, hg50]; exact hX
    · rw [hG, hg50]; exact hbl
    · rw [hG, hg50]; exact Nat.not_le.mpr hbl
  · intro j ad9 I9 L9 kc ks hk C H locs la hP hD hS hl
    refine lv_iconst (v := 1) C.1 C.2.1 dL_law_1623 (by decide +kernel) ?_
    refine va_forget (fun q hq => hS.2.2 q hq) ?_
    refine W.widen (k := 601024) (n := 7293034) (Nat.le_trans hk.1 (Nat.le_of_ble_eq_true rfl)) (Nat.le_trans hk.2 (Nat.le_of_ble_eq_true rfl)) ?_
    exact lw_ret C.1 C.2.1 hr hlocks dL_law_1624
