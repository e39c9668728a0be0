/-! ===== rows for the law's own body ===== -/
def mj_scr (X : mj_XT) (G : mj_GT) (N : Nat) (xs : Nat → Int32) : Prop := match X with
  | (_, _, _, _, s, _, _, _, _, _, _, A) => va_X (G.2.2.2.2.2 50) N xs s s.heap ∧ G.2.2.2.2.2 50 < s.heap.size ∧ ¬ A (G.2.2.2.2.2 50)
def mj_cX (own : String) (ix : Nat) (y : MethodName) (cc : ByteArray) (mL : Nat) (ret : Option FieldType) (hh : List (Nat × Nat × Nat × Nat)) (np : Nat) : Prop :=
  Cond.codeWith y cc mL ret hh ∈ mj_tb ∧ Cond.methodLink own ix y ∈ mj_tb ∧ Cond.static y ∈ mj_tb ∧ Cond.initialized y.cls ∈ mj_tb ∧ (y.cls ≠ "java/lang/invoke/MethodHandle" ∧ y.cls ≠ "java/lang/invoke/VarHandle" ∧ (parseMethodDescriptor y.desc).map (fun d => d.parameters.length) = some np) ∧ mL ≤ 22
section ML
variable {X : mj_XT} {l : Launch} {G : mj_GT} {own nm : String} {cc : ByteArray} {mL d : Nat} {ret : Option FieldType} {P : mj_PT} {S : mj_ST} {n n' : Nat} {ad : Nat → Nat} {mc ms kc ks kc' ks' pc : Nat} {ls : List (Nat × Value)} {st : List Value} {I : mj_IT} {L : mj_LT}
theorem mj_sld {N : Nat} {xs : Nat → Int32} {i : Int32} (j : Nat) (hs : mj_scr X G N xs) (hi : i.toNatClampNeg = j ∧ vp_in i N) (hd : decode cc pc = .ok (.iaload, 1)) (k : mj_W X G own nm cc mL d ret P S n ad kc ks (pc + 1) ls (.int (xs j) :: st) I L) : mj_W X G own nm cc mL d ret P S n ad kc ks pc ls (.int i :: .ref 2050 :: st) I L := by
  obtain ⟨p, l0, e, R, s, m, args, below, meth, c, Q, A⟩ := X
  intro C H locs la hP hD hS hl
  have e1 : ad 2050 = G.2.2.2.2.2 50 := C.2.2.2.2.2.2.2.2.2.2.2.2 50
  simp only [List.map_cons, mj_v, e1]
  refine va_sld (H0 := s.heap) C.1 C.2.1 hs.1 hs.2.1 hs.2.2 hS hi.2 hd ?_
  rw [hi.1]
  exact k C H locs la hP hD hS hl
theorem mj_slen {N : Nat} {xs : Nat → Int32} (hs : mj_scr X G N xs) (hd : decode cc pc = .ok (.arraylength, 1)) (k : mj_W X G own nm cc mL d ret P S n ad kc ks (pc + 1) ls (.int (Int32.ofNat N) :: st) I L) : mj_W X G own nm cc mL d ret P S n ad kc ks pc ls (.ref 2050 :: st) I L := by
  obtain ⟨p, l0, e, R, s, m, args, below, meth, c, Q, A⟩ := X
  intro C H locs la hP hD hS hl
  have e1 : ad 2050 = G.2.2.2.2.2 50 := C.2.2.2.2.2.2.2.2.2.2.2.2 50
  simp only [List.map_cons, mj_v, e1]
  exact va_slen (H0 := s.heap) C.1 C.2.1 hs.1 hs.2.1 hs.2.2 hS hd (k C H locs la hP hD hS hl)
theorem mj_callI {ix np d' mL' b mc' ms' : Nat} {y : MethodName} {cc' : ByteArray} {s0 : List Value} {Qn' : mj_PT → mj_IT → mj_LT → Prop} (as : List Value) (hM : mj_Mc X.2.1 G y cc' mL' d' mc' ms' P S n n' (.ref b :: as) I L Qn') (hw : mj_cw own ix y cc' mL' none np ∧ y.name = "<init>" ∧ Cond.instanceMethod y ∈ mj_tb) (hdd : d' + 1 ≤ d) (hnp : as.length = np) (hst : s0 = as.reverse ++ .ref b :: st) (hsm : (st.map fun v => v.category).sum ≤ 8) (hf : kc + mc' ≤ X.2.2.2.1.cells ∧ ks + ms' ≤ X.2.2.2.1.slots) (hd : decode cc pc = .ok (.invokespecial ix, 3)) (hfl : ls.all (fun q => mj_lv n q.2) = true) (hfs : st.all (mj_lv n) = true)
    (k : ∀ (P' : mj_PT) (I' : mj_IT) (L' : mj_LT) (ad' : Nat → Nat), mj_ex n ad ad' → Qn' P' I' L' → mj_W X G own nm cc mL d ret P' S n' ad' (kc + mc') (ks + ms') (pc + 3) ls (st) (I') (L')) : mj_W X G own nm cc mL d ret P S n ad kc ks pc ls (s0) (I) (L) := by
  obtain ⟨p, l0, e, R, s, m, args, below, meth, c, Q, A⟩ := X
  intro C H locs la hP hD hS hl
  subst hst
  obtain ⟨hbl, hpre, hfree⟩ := mj_pre (as := .ref b :: as) C.2.2.2.2.2.2.2.2.2.1 C.2.2.2.2.2.2.2.2.2.2.1 C.2.2.2.2.2.2.2.2.2.2.2.1 C.2.2.2.2.2.2.2.2.2.2.2.2 hP hD hS
  have hr := va_runI (b := ad b) (As := as.map (mj_v ad)) (rest := st.map (mj_v ad)) (g := F0 m pc la ((as.reverse ++ .ref b :: st).map (mj_v ad))) (p := p) (e := e) (below := below) (meth := meth) (locs := locs) (cells := kc) (slots := ks) ⟨C.1, C.2.1, C.2.2.1, C.2.2.2.1, C.2.2.2.2.1⟩ (hM ad H.size)
    ⟨mj_callB C.2.2.2.2.1 hw.1 hdd C.2.2.2.2.2.2.2.2.1, hw.2.1, C.2.2.2.2.1 _ hw.2.2⟩ ⟨hbl, hpre⟩ rfl (by rw [List.length_map]; exact hnp) hl.1 (mj_rev ad as (.ref b :: st)) (mj_room hsm) hd hf
  intro T9 hT X9
  obtain ⟨v, st₀, t, T', L9, h0, X', hL, e1, e2, ⟨⟨P', I', L', ad', hag, hv, hq, hp, hd9⟩, hF⟩, stp⟩ := hr T9 hT X9
  cases hv
  obtain ⟨k1, k2, k3⟩ := vx_keep h0 e1 hS (fun q _ h => hfree q h) hfree hL hF
  have C2 : mj_C (p, l0, e, R, s, m, args, below, meth, c, Q, A) G own nm cc mL d ret ad' := by
    obtain ⟨c1, c2, c3, c4, c5, c6, c7, c8, c9, c10, c11, c12, c13⟩ := C
    exact ⟨c1, c2, c3, c4, c5, c6, c7, c8, c9, c10, c11, c12, fun i => (hag _ (Or.inr (by omega))).trans (c13 i)⟩
  have kk := k P' I' L' ad' hag hq C2 T'.heap (locs ++ L9) la (by rw [e1]; exact hp) (hd9.weaken (fun _ _ _ h => hfree _ h)) k3 (by rw [mj_lv_ls hag hfl]; exact hl)
  rw [mj_lv_st hag hfs] at kk
  obtain ⟨t2, a1, b1⟩ := kk T' rfl X'
  exact ⟨t2, stp t2 a1, b1⟩
theorem mj_callW {ix np d' mL' mc' ms' : Nat} {y : MethodName} {cc' : ByteArray} {ret' : Option FieldType} {hh : List (Nat × Nat × Nat × Nat)} {s0 : List Value} {Qn' : Option Value → mj_PT → mj_IT → mj_LT → Prop} (as : List Value) (hM : mj_MW X.2.1 G y cc' mL' d' ret' hh mc' ms' P S n as I L Qn') (hw : mj_cX own ix y cc' mL' ret' hh np) (hdd : d' + 1 ≤ d) (hnp : as.length = np) (hst : s0 = as.reverse ++ st) (hsm : (st.map fun v => v.category).sum ≤ 8) (hf : kc + mc' ≤ X.2.2.2.1.cells ∧ ks + ms' ≤ X.2.2.2.1.slots) (hd : decode cc pc = .ok (.invokestatic ix, 3)) (hfl : ls.all (fun q => mj_fx q.2) = true) (hfs : st.all mj_fx = true)
    (k : ∀ (r : Option Value) (P' : mj_PT) (I' : mj_IT) (L' : mj_LT) (ad' : Nat → Nat), mj_ag ad ad' → Qn' r P' I' L' → mj_W X G own nm cc mL d ret P' S n ad' (kc + mc') (ks + ms') (pc + 3) ls (r.toList ++ st) (I') (L')) : mj_W X G own nm cc mL d ret P S n ad kc ks pc ls (s0) (I) (L) := by
  obtain ⟨p, l0, e, R, s, m, args, below, meth, c, Q, A⟩ := X
  intro C H locs la hP hD hS hl
  subst hst
  obtain ⟨hbl, hpre, hfree⟩ := mj_pre (as := as) C.2.2.2.2.2.2.2.2.2.1 C.2.2.2.2.2.2.2.2.2.2.1 C.2.2.2.2.2.2.2.2.2.2.2.1 C.2.2.2.2.2.2.2.2.2.2.2.2 hP hD hS
  have hr0 := C.2.2.2.2.2.2.2.2.1
  have hml := hw.2.2.2.2.2
  have hr := vx_runSW (As := as.map (mj_v ad)) (rest := st.map (mj_v ad)) (g := F0 m pc la ((as.reverse ++ st).map (mj_v ad))) (p := p) (e := e) (below := below) (meth := meth) (locs := locs) (cells := kc) (slots := ks) ⟨C.1, C.2.1, C.2.2.1, C.2.2.2.1, C.2.2.2.2.1⟩ (hM ad H.size)
    (vx_cwSW np C.2.2.2.2.1 (mj_goodIn (fun w h => by
      simp only [va_wsS, List.cons_append, List.nil_append, List.mem_cons] at h
      rcases h with h | h | h | h | h
      · rw [h]; exact hw.2.1
      · rw [h]; exact hw.2.2.1
      · rw [h]; exact hw.2.2.2.1
      · rw [h]; exact hw.1
      · exact h)) rfl rfl rfl hw.2.2.2.2.1 ⟨by show d' + 1 ≤ R.frames; omega, by show 8 + (mL' + 11) + 41 * d' ≤ R.locals; omega⟩) ⟨hbl, hpre⟩ rfl (by rw [List.length_map]; exact hnp) hl.1 (mj_rev ad as st) (mj_room hsm) hd hf
  intro T9 hT X9
  obtain ⟨v, st₀, t, T', L9, h0, X', hL, e1, e2, ⟨⟨r, P', I', L', ad', hag, hv, hq, hp, hd9⟩, hF⟩, stp⟩ := hr T9 hT X9
  cases hv
  obtain ⟨k1, k2, k3⟩ := vx_keep h0 e1 hS (fun q _ h => hfree q h) hfree hL hF
  have C2 : mj_C (p, l0, e, R, s, m, args, below, meth, c, Q, A) G own nm cc mL d ret ad' := by
    obtain ⟨c1, c2, c3, c4, c5, c6, c7, c8, c9, c10, c11, c12, c13⟩ := C
    exact ⟨c1, c2, c3, c4, c5, c6, c7, c8, c9, c10, c11, c12, fun i => (hag _ (mj_mv_st i)).trans (c13 i)⟩
  have kk := k r P' I' L' ad' hag hq C2 T'.heap (locs ++ L9) la (by rw [e1]; exact hp) (hd9.weaken (fun _ _ _ h => hfree _ h)) k3 (by rw [mj_fx_ls hag hfl]; exact hl)
  have e9 : (r.toList ++ st).map (mj_v ad') = (r.map (mj_v ad')).toList ++ st.map (mj_v ad) := by rw [List.map_append, mj_fx_st hag hfs]; cases r <;> rfl
  rw [e9] at kk
  obtain ⟨t2, a1, b1⟩ := kk T' rfl X'
  exact ⟨t2, stp t2 a1, b1⟩
/-- the references may be told otherwise where nothing reads them -/
theorem mj_Pcong {P' : mj_PT} (h : ∀ a, a < n + 1 → ∀ k, k < 46 → P a k = P' a k) (k : mj_W X G own nm cc mL d ret P' S n ad kc ks pc ls st I L) : mj_W X G own nm cc mL d ret P S n ad kc ks pc ls st I L := by
  obtain ⟨p, l0, e, R, s, m, args, below, meth, c, Q, A⟩ := X
  have nf46 : ∀ ci, mj_nf ci ≤ 46 := by
    intro ci
    rcases ci with _ | _ | _ | _ | _ | _ | _ | _ | _ | _ | ci <;> first | (show _ ≤ 46; decide) | (simp [mj_nf])
  have e9 : mj_w G ad P S n I L = mj_w G ad P' S n I L := by
    unfold mj_w
    apply List.map_congr_left
    intro i hi
    have hi2 : i + 1 < n + 1 := by have := List.mem_range.mp hi; omega
    have hfv : ∀ ci, (List.range (mj_nf ci)).map (mj_fv ad P I L ci (i + 1)) = (List.range (mj_nf ci)).map (mj_fv ad P' I L ci (i + 1)) := by
      intro ci
      apply List.map_congr_left
      intro j hj
      have hj2 : j < 46 := Nat.lt_of_lt_of_le (List.mem_range.mp hj) (nf46 ci)
      simp only [mj_fv, h (i + 1) hi2 j hj2]
    simp only [mj_E, hfv]
  intro C H locs la hP hD hS hl
  rw [e9] at hP hD
  exact k C H locs la hP hD hS hl
end ML
theorem mj_ix {N : Nat} (hN : N ≤ 3072) {i t : Nat} (h : i + t < N) : (Int32.ofNat i + Int32.ofNat t).toNatClampNeg = i + t ∧ vp_in (Int32.ofNat i + Int32.ofNat t) N := by
  have e1 : Int32.ofNat i + Int32.ofNat t = Int32.ofNat (i + t) := (Int32.ofNat_add i t).symm
  have e2 : (Int32.ofNat (i + t)).toInt = ((i + t : Nat) : Int) := Int32.toInt_ofNat_small (by omega)
  have e3 : (Int32.ofNat (i + t)).toNatClampNeg = i + t := by
    show (Int32.ofNat (i + t)).toInt.toNat = i + t
    rw [e2]; rfl
  rw [e1]
  refine ⟨e3, ?_⟩
  intro h9
  rcases h9 with h9 | h9
  · have h10 := Int32.lt_iff_toInt_lt.mp h9
    rw [e2] at h10
    have : (0 : Int32).toInt = 0 := by decide
    omega
  · rw [e3] at h9; omega
