/-! ===== the text: the reference's reads, kind by kind ===== -/
def rdK0 (rw : (Nat → Int32) → (Nat → Int32) → (Nat → Int32) → Int32 → Option ((Int32) × (Nat → Int32) × (Nat → Int32))) (F : Nat) (r77 : Nat → Int32) (x1 : Int32) (s : Nat → Int32) (r74_3 : Nat → Int32) (o4 : Int32) : Option ((Nat → Int32) × (Nat → Int32)) := (if mj_ib (((12 : Int32) * x1) + (0 : Int32)) 480 = true then (fnX11_name F s r77).bind (fun o53 => (if mj_ib (((12 : Int32) * x1) + (1 : Int32)) 480 = true then (fnX11_needs F o53.2 r77 (61 : Int32)).bind (fun o55 => (fnX11_sum F o55 (upd (upd (upd r74_3 ((((12 : Int32) * x1) + (3 : Int32)).toNatClampNeg) o4) ((((12 : Int32) * x1) + (0 : Int32)).toNatClampNeg) (0 : Int32)) ((((12 : Int32) * x1) + (1 : Int32)).toNatClampNeg) o53.1) r77 (((12 : Int32) * x1) + (5 : Int32))).bind (fun o56 => (fnX11_needs F o56.1 r77 (59 : Int32)).bind (fun o57 => some (o57, o56.2)))) else none)) else none)
def rdK1 (rw : (Nat → Int32) → (Nat → Int32) → (Nat → Int32) → Int32 → Option ((Int32) × (Nat → Int32) × (Nat → Int32))) (F : Nat) (r77 : Nat → Int32) (x1 : Int32) (s : Nat → Int32) (r74_3 : Nat → Int32) (o4 : Int32) : Option ((Nat → Int32) × (Nat → Int32)) := (if mj_ib (((12 : Int32) * x1) + (0 : Int32)) 480 = true then (fnX11_name F s r77).bind (fun o40 => (if mj_ib (((12 : Int32) * x1) + (1 : Int32)) 480 = true then (fnX11_number F o40.2 r77).bind (fun o42 => (if mj_ib (((12 : Int32) * x1) + (2 : Int32)) 480 = true then (if (o42.2 14) = 0 then (if mj_ib (((12 : Int32) * x1) + (2 : Int32)) 480 = true then (fnX11_isChance F ((upd (upd (upd (upd r74_3 ((((12 : Int32) * x1) + (3 : Int32)).toNatClampNeg) o4) ((((12 : Int32) * x1) + (0 : Int32)).toNatClampNeg) (1 : Int32)) ((((12 : Int32) * x1) + (1 : Int32)).toNatClampNeg) o40.1) ((((12 : Int32) * x1) + (2 : Int32)).toNatClampNeg) o42.1) ((((12 : Int32) * x1) + (2 : Int32)).toNatClampNeg))).bind (fun o47 => (if o47 = 0 then (fnX11_wrong F o42.2 (2 : Int32) (o42.2 12)).bind (fun o50 => (fnX11_needs F o50 r77 (59 : Int32)).bind (fun o51 => some (o51, (upd (upd (upd (upd r74_3 ((((12 : Int32) * x1) + (3 : Int32)).toNatClampNeg) o4) ((((12 : Int32) * x1) + (0 : Int32)).toNatClampNeg) (1 : Int32)) ((((12 : Int32) * x1) + (1 : Int32)).toNatClampNeg) o40.1) ((((12 : Int32) * x1) + (2 : Int32)).toNatClampNeg) o42.1)))) else (fnX11_needs F o42.2 r77 (59 : Int32)).bind (fun o49 => some (o49, (upd (upd (upd (upd r74_3 ((((12 : Int32) * x1) + (3 : Int32)).toNatClampNeg) o4) ((((12 : Int32) * x1) + (0 : Int32)).toNatClampNeg) (1 : Int32)) ((((12 : Int32) * x1) + (1 : Int32)).toNatClampNeg) o40.1) ((((12 : Int32) * x1) + (2 : Int32)).toNatClampNeg) o42.1))))) else none) else (fnX11_needs F o42.2 r77 (59 : Int32)).bind (fun o45 => some (o45, (upd (upd (upd (upd r74_3 ((((12 : Int32) * x1) + (3 : Int32)).toNatClampNeg) o4) ((((12 : Int32) * x1) + (0 : Int32)).toNatClampNeg) (1 : Int32)) ((((12 : Int32) * x1) + (1 : Int32)).toNatClampNeg) o40.1) ((((12 : Int32) * x1) + (2 : Int32)).toNatClampNeg) o42.1)))) else none)) else none)) else none)
def rdK2 (rw : (Nat → Int32) → (Nat → Int32) → (Nat → Int32) → Int32 → Option ((Int32) × (Nat → Int32) × (Nat → Int32))) (F : Nat) (r77 : Nat → Int32) (x1 : Int32) (s : Nat → Int32) (r74_3 : Nat → Int32) (o4 : Int32) : Option ((Nat → Int32) × (Nat → Int32)) := (if mj_ib (((12 : Int32) * x1) + (0 : Int32)) 480 = true then (fnX11_numberTo F s r77 (60 : Int32)).bind (fun o36 => (if mj_ib (((12 : Int32) * x1) + (2 : Int32)) 480 = true then (fnX11_forks rw F o36.2 (upd (upd (upd r74_3 ((((12 : Int32) * x1) + (3 : Int32)).toNatClampNeg) o4) ((((12 : Int32) * x1) + (0 : Int32)).toNatClampNeg) (2 : Int32)) ((((12 : Int32) * x1) + (2 : Int32)).toNatClampNeg) o36.1) r77 x1).bind (fun o38 => some (o38.1, o38.2)) else none)) else none)
def rdK3 (rw : (Nat → Int32) → (Nat → Int32) → (Nat → Int32) → Int32 → Option ((Int32) × (Nat → Int32) × (Nat → Int32))) (F : Nat) (r77 : Nat → Int32) (x1 : Int32) (s : Nat → Int32) (r74_3 : Nat → Int32) (o4 : Int32) : Option ((Nat → Int32) × (Nat → Int32)) := (if mj_ib (((12 : Int32) * x1) + (0 : Int32)) 480 = true then (fnX11_test F s (upd (upd r74_3 ((((12 : Int32) * x1) + (3 : Int32)).toNatClampNeg) o4) ((((12 : Int32) * x1) + (0 : Int32)).toNatClampNeg) (3 : Int32)) r77 x1).bind (fun o33 => (fnX11_forks rw F o33.1 o33.2 r77 x1).bind (fun o34 => some (o34.1, o34.2))) else none)
def rdK4 (rw : (Nat → Int32) → (Nat → Int32) → (Nat → Int32) → Int32 → Option ((Int32) × (Nat → Int32) × (Nat → Int32))) (F : Nat) (r77 : Nat → Int32) (x1 : Int32) (s : Nat → Int32) (r74_3 : Nat → Int32) (o4 : Int32) : Option ((Nat → Int32) × (Nat → Int32)) := (if mj_ib (((12 : Int32) * x1) + (0 : Int32)) 480 = true then (fnX11_test F s (upd (upd r74_3 ((((12 : Int32) * x1) + (3 : Int32)).toNatClampNeg) o4) ((((12 : Int32) * x1) + (0 : Int32)).toNatClampNeg) (4 : Int32)) r77 x1).bind (fun o27 => (fnX11_behind F x1).bind (fun o28 => (if mj_ib (((12 : Int32) * x1) + (4 : Int32)) 480 = true then (fnX11_block rw F o27.1 (upd o27.2 ((((12 : Int32) * x1) + (4 : Int32)).toNatClampNeg) o28) r77 x1).bind (fun o30 => (if mj_ib (((12 : Int32) * x1) + (3 : Int32)) 480 = true then some (o30.2.1, (upd o30.2.2 ((((12 : Int32) * x1) + (3 : Int32)).toNatClampNeg) o30.1)) else none)) else none))) else none)
def rdK5 (rw : (Nat → Int32) → (Nat → Int32) → (Nat → Int32) → Int32 → Option ((Int32) × (Nat → Int32) × (Nat → Int32))) (F : Nat) (r77 : Nat → Int32) (x1 : Int32) (s : Nat → Int32) (r74_3 : Nat → Int32) (o4 : Int32) : Option ((Nat → Int32) × (Nat → Int32)) := (if mj_ib (((12 : Int32) * x1) + (0 : Int32)) 480 = true then (fnX11_test F s (upd (upd r74_3 ((((12 : Int32) * x1) + (3 : Int32)).toNatClampNeg) o4) ((((12 : Int32) * x1) + (0 : Int32)).toNatClampNeg) (5 : Int32)) r77 x1).bind (fun o23 => (if mj_ib (((12 : Int32) * x1) + (4 : Int32)) 480 = true then (fnX11_needs F o23.1 r77 (59 : Int32)).bind (fun o25 => some (o25, (upd o23.2 ((((12 : Int32) * x1) + (4 : Int32)).toNatClampNeg) (-2 : Int32)))) else none)) else none)
def rdK6 (rw : (Nat → Int32) → (Nat → Int32) → (Nat → Int32) → Int32 → Option ((Int32) × (Nat → Int32) × (Nat → Int32))) (F : Nat) (r77 : Nat → Int32) (x1 : Int32) (s : Nat → Int32) (r74_3 : Nat → Int32) (o4 : Int32) : Option ((Nat → Int32) × (Nat → Int32)) := (if mj_ib (((12 : Int32) * x1) + (0 : Int32)) 480 = true then (if mj_ib (((12 : Int32) * x1) + (3 : Int32)) 480 = true then (fnX11_needs F s r77 (59 : Int32)).bind (fun o21 => some (o21, (upd (upd (upd r74_3 ((((12 : Int32) * x1) + (3 : Int32)).toNatClampNeg) o4) ((((12 : Int32) * x1) + (0 : Int32)).toNatClampNeg) (6 : Int32)) ((((12 : Int32) * x1) + (3 : Int32)).toNatClampNeg) (-3 : Int32)))) else none) else none)
theorem e_reads (rw : (Nat → Int32) → (Nat → Int32) → (Nat → Int32) → Int32 → Option ((Int32) × (Nat → Int32) × (Nat → Int32))) (F : Nat) (r71 r74 r77 : Nat → Int32) (x1 : Int32) : fnX11_reads rw F r71 r74 r77 x1 = (mj_it (mj_u2 (fun z0 z1 => bdX11_reads_7 rw F x1 ((12 : Int32) * x1) z0 z1)) F ((0 : Int32), r74)).bind (fun r74_3 => (fnX11_behind F x1).bind (fun o4 => (if mj_ib (((12 : Int32) * x1) + (3 : Int32)) 480 = true then (fnX11_isNameHere F r71 r77).bind (fun o6 => (if o6.1 = 0 then (fnX11_passes_71_2001 F o6.2 r77).bind (fun o8 => (if o8.1 = 0 then (fnX11_passes_71_2002 F o8.2 r77).bind (fun o10 => (if o10.1 = 0 then (fnX11_passes_71_2003 F o10.2 r77).bind (fun o12 => (if o12.1 = 0 then (fnX11_passes_71_2004 F o12.2 r77).bind (fun o14 => (if o14.1 = 0 then (fnX11_passes_71_2005 F o14.2 r77).bind (fun o16 => (if o16.1 = 0 then (fnX11_passes_71_2006 F o16.2 r77).bind (fun o18 => rdK6 rw F r77 x1 o18.2 r74_3 o4) else rdK5 rw F r77 x1 o16.2 r74_3 o4)) else rdK4 rw F r77 x1 o14.2 r74_3 o4)) else rdK3 rw F r77 x1 o12.2 r74_3 o4)) else rdK2 rw F r77 x1 o10.2 r74_3 o4)) else rdK1 rw F r77 x1 o8.2 r74_3 o4)) else rdK0 rw F r77 x1 o6.2 r74_3 o4)) else none))) := rfl
theorem i_12 {x1 c : Int32} {k m : Nat} (hx : x1.toInt = (k : Nat)) (hk : k < 40) (hc : c.toInt = (m : Nat)) (hm : m < 12) : (12 * x1 + c).toInt = ((12 * k + m : Nat) : Int) := by
  have e12 : (12 : Int32).toInt = 12 := rfl
  have a : (12 * x1).toInt = 12 * (k : Int) := by rw [i_mul (by rw [e12]; omega) (by rw [e12]; omega), hx, e12]
  rw [i_add (by omega) (by omega), a, hc]
  omega
theorem c_12 {x1 c : Int32} {k m : Nat} (hx : x1.toInt = (k : Nat)) (hk : k < 40) (hc : c.toInt = (m : Nat)) (hm : m < 12) : (12 * x1 + c).toNatClampNeg = 12 * k + m := by
  rw [i_cl, i_12 hx hk hc hm]
  rfl
theorem b_12 {x1 c : Int32} {k m : Nat} (hx : x1.toInt = (k : Nat)) (hk : k < 40) (hc : c.toInt = (m : Nat)) (hm : m < 12) : mj_ib (12 * x1 + c) 480 = true := by
  have := i_12 hx hk hc hm
  exact mj_ib_of (by omega) (by omega)
theorem s11_clear (rw : (Nat → Int32) → (Nat → Int32) → (Nat → Int32) → Int32 → Option ((Int32) × (Nat → Int32) × (Nat → Int32))) (F : Nat) (hF : 500 ≤ F) {k : Nat} {r74 : Nat → Int32} {x1 : Int32} (hx : x1.toInt = (k : Nat)) (hk : k < 40) :
    sp (mj_it (mj_u2 (fun z0 z1 => bdX11_reads_7 rw F x1 ((12 : Int32) * x1) z0 z1)) F ((0 : Int32), r74)) (fun s => (∀ j, j < 12 → s (12 * k + j) = -1) ∧ ∀ j, j < 12 * k ∨ 12 * k + 12 ≤ j → s j = r74 j) := by
  refine sp_cnt (fun s : Int32 × (Nat → Int32) => s.1) 12 (by omega) (fun i s => (∀ j, j < i → s.2 (12 * k + j) = -1) ∧ ∀ j, j < 12 * k ∨ 12 * k + 12 ≤ j → s.2 j = r74 j) ?_ F 0 _ (by omega) rfl ⟨fun j hj => absurd hj (by omega), fun j _ => rfl⟩ (by omega)
  rintro i ⟨x, s⟩ hi hx' hcx hxs ⟨j1, j2⟩
  refine sp_u2 ?_
  dsimp only at hx' hcx hxs j1 j2
  unfold bdX11_reads_7
  have e12 : (12 : Int32).toInt = 12 := rfl
  refine sp_ite (fun hz => sp_some ⟨fun j hj => ?_, j2⟩) (fun hz => ?_)
  · have := i_le.mp hz
    exact j1 j (by omega)
  · have hz' : ¬ (12 : Int32).toInt ≤ x.toInt := fun z => hz (i_le.mpr z)
    have hi' : i < 12 := by omega
    refine sp_pos (b_12 hx hk hx' hi') ?_
    rw [c_12 hx hk hx' hi']
    refine sp_some ⟨hi', rfl, fun j hj => ?_, fun j hj => ?_⟩
    · show upd s (12 * k + i) (-1) (12 * k + j) = -1
      by_cases z : j = i
      · rw [z, upd_at]
      · rw [upd_ne (by omega)]
        exact j1 j (by omega)
    · show upd s (12 * k + i) (-1) j = r74 j
      rw [upd_ne (by omega)]
      exact j2 j hj
def wLen (i : Nat) : Nat := match i with
  | 0 => 0
  | 1 => 4
  | 2 => 4
  | 3 => 2
  | 4 => 5
  | 5 => 7
  | 6 => 4
  | _ => 0
theorem s11_d0 (rw : (Nat → Int32) → (Nat → Int32) → (Nat → Int32) → Int32 → Option ((Int32) × (Nat → Int32) × (Nat → Int32))) (F : Nat) (hF : 500 ≤ F) {n q k : Nat} {r3 r71 r74 r77 : Nat → Int32} {x1 : Int32} (hx : x1.toInt = (k : Nat)) (hk : k < 40) (ht : tx n r3 r77) (h14 : r71 14 = 0) (hh : hQr n r3 r71 q) (hK : kR n r3 q 0) :
    ∃ s t : Nat → Int32, fnX11_reads rw F r71 r74 r77 x1 = rdK0 rw F r77 x1 s t (-100 - x1) ∧ (s 10).toInt = (n : Nat) ∧ (s 11).toInt = ((q + 0 : Nat) : Int) ∧ (∀ k, k ≠ 11 → s k = r71 k) ∧ (∀ j, j < 12 → t (12 * k + j) = -1) ∧ (∀ j, j < 12 * k ∨ 12 * k + 12 ≤ j → t j = r74 j) := by
  have hqn : q ≤ n := by obtain ⟨_, h, _, h3⟩ := hh; exact h3.2.1
  have hqb : q < n → ¬ isB (bt r3 q) := by obtain ⟨_, h, _, h3⟩ := hh; exact h3.2.2.2
  obtain ⟨t, ht1, t1, t2⟩ := s11_clear rw F hF (r74 := r74) hx hk
  obtain ⟨o0, ho0, a1, a0, a2, a3, f0⟩ := s11_isName F hF ht hh
  rw [e_reads, ht1, Option.bind_some, show fnX11_behind F x1 = some (-100 - x1) from rfl, Option.bind_some, if_pos (b_12 hx hk (show (3 : Int32).toInt = ((3 : Nat) : Int) from rfl) (by omega)), ho0, Option.bind_some]
  rw [if_neg (by rw [a1 hK.2.1]; decide)]
  exact ⟨o0.2, t, rfl, a2, a3, f0, t1, t2⟩
theorem s11_d1 (rw : (Nat → Int32) → (Nat → Int32) → (Nat → Int32) → Int32 → Option ((Int32) × (Nat → Int32) × (Nat → Int32))) (F : Nat) (hF : 500 ≤ F) {n q k : Nat} {r3 r71 r74 r77 : Nat → Int32} {x1 : Int32} (hx : x1.toInt = (k : Nat)) (hk : k < 40) (ht : tx n r3 r77) (h14 : r71 14 = 0) (hh : hQr n r3 r71 q) (hK : kR n r3 q 1) :
    ∃ s t : Nat → Int32, fnX11_reads rw F r71 r74 r77 x1 = rdK1 rw F r77 x1 s t (-100 - x1) ∧ (s 10).toInt = (n : Nat) ∧ (s 11).toInt = ((q + 4 : Nat) : Int) ∧ (∀ k, k ≠ 11 → s k = r71 k) ∧ (∀ j, j < 12 → t (12 * k + j) = -1) ∧ (∀ j, j < 12 * k ∨ 12 * k + 12 ≤ j → t j = r74 j) := by
  have hqn : q ≤ n := by obtain ⟨_, h, _, h3⟩ := hh; exact h3.2.1
  have hqb : q < n → ¬ isB (bt r3 q) := by obtain ⟨_, h, _, h3⟩ := hh; exact h3.2.2.2
  obtain ⟨t, ht1, t1, t2⟩ := s11_clear rw F hF (r74 := r74) hx hk
  obtain ⟨o0, ho0, a1, a0, a2, a3, f0⟩ := s11_isName F hF ht hh
  rw [e_reads, ht1, Option.bind_some, show fnX11_behind F x1 = some (-100 - x1) from rfl, Option.bind_some, if_pos (b_12 hx hk (show (3 : Int32).toInt = ((3 : Nat) : Int) from rfl) (by omega)), ho0, Option.bind_some]
  rw [if_pos (a0 (hK.2.2 0 (by omega)))]
  obtain ⟨o1, ho1, y1, n1, c1, g1⟩ := s11_passR F hF (L := 4) (w := 0) (Lz := 4) (by omega) (by omega) rfl ht (show o0.2 14 = 0 from (f0 14 (by omega)).trans h14) (hQr_at a2 a3 hqn hqb)
  have f1 : ∀ k, k ≠ 11 → o1.2 k = r71 k := fun k hk => (g1 k hk).trans (f0 k hk)
  rw [p11_1, ho1, Option.bind_some]
  have m1 := y1 hK.2.1
  rw [if_neg (by rw [m1.1]; decide)]
  exact ⟨o1.2, t, rfl, c1, m1.2, f1, t1, t2⟩
theorem s11_d2 (rw : (Nat → Int32) → (Nat → Int32) → (Nat → Int32) → Int32 → Option ((Int32) × (Nat → Int32) × (Nat → Int32))) (F : Nat) (hF : 500 ≤ F) {n q k : Nat} {r3 r71 r74 r77 : Nat → Int32} {x1 : Int32} (hx : x1.toInt = (k : Nat)) (hk : k < 40) (ht : tx n r3 r77) (h14 : r71 14 = 0) (hh : hQr n r3 r71 q) (hK : kR n r3 q 2) :
    ∃ s t : Nat → Int32, fnX11_reads rw F r71 r74 r77 x1 = rdK2 rw F r77 x1 s t (-100 - x1) ∧ (s 10).toInt = (n : Nat) ∧ (s 11).toInt = ((q + 4 : Nat) : Int) ∧ (∀ k, k ≠ 11 → s k = r71 k) ∧ (∀ j, j < 12 → t (12 * k + j) = -1) ∧ (∀ j, j < 12 * k ∨ 12 * k + 12 ≤ j → t j = r74 j) := by
  have hqn : q ≤ n := by obtain ⟨_, h, _, h3⟩ := hh; exact h3.2.1
  have hqb : q < n → ¬ isB (bt r3 q) := by obtain ⟨_, h, _, h3⟩ := hh; exact h3.2.2.2
  obtain ⟨t, ht1, t1, t2⟩ := s11_clear rw F hF (r74 := r74) hx hk
  obtain ⟨o0, ho0, a1, a0, a2, a3, f0⟩ := s11_isName F hF ht hh
  rw [e_reads, ht1, Option.bind_some, show fnX11_behind F x1 = some (-100 - x1) from rfl, Option.bind_some, if_pos (b_12 hx hk (show (3 : Int32).toInt = ((3 : Nat) : Int) from rfl) (by omega)), ho0, Option.bind_some]
  rw [if_pos (a0 (hK.2.2 0 (by omega)))]
  obtain ⟨o1, ho1, y1, n1, c1, g1⟩ := s11_passR F hF (L := 4) (w := 0) (Lz := 4) (by omega) (by omega) rfl ht (show o0.2 14 = 0 from (f0 14 (by omega)).trans h14) (hQr_at a2 a3 hqn hqb)
  have f1 : ∀ k, k ≠ 11 → o1.2 k = r71 k := fun k hk => (g1 k hk).trans (f0 k hk)
  rw [p11_1, ho1, Option.bind_some]
  have m1 := n1 (hK.2.2 1 (by omega))
  have d1 := m1.2
  rw [if_pos m1.1]
  obtain ⟨o2, ho2, y2, n2, c2, g2⟩ := s11_passR F hF (L := 4) (w := 1) (Lz := 4) (by omega) (by omega) rfl ht (show o1.2 14 = 0 from (f1 14 (by omega)).trans h14) (hQr_at c1 d1 hqn hqb)
  have f2 : ∀ k, k ≠ 11 → o2.2 k = r71 k := fun k hk => (g2 k hk).trans (f1 k hk)
  rw [p11_2, ho2, Option.bind_some]
  have m2 := y2 hK.2.1
  rw [if_neg (by rw [m2.1]; decide)]
  exact ⟨o2.2, t, rfl, c2, m2.2, f2, t1, t2⟩
theorem s11_d3 (rw : (Nat → Int32) → (Nat → Int32) → (Nat → Int32) → Int32 → Option ((Int32) × (Nat → Int32) × (Nat → Int32))) (F : Nat) (hF : 500 ≤ F) {n q k : Nat} {r3 r71 r74 r77 : Nat → Int32} {x1 : Int32} (hx : x1.toInt = (k : Nat)) (hk : k < 40) (ht : tx n r3 r77) (h14 : r71 14 = 0) (hh : hQr n r3 r71 q) (hK : kR n r3 q 3) :
    ∃ s t : Nat → Int32, fnX11_reads rw F r71 r74 r77 x1 = rdK3 rw F r77 x1 s t (-100 - x1) ∧ (s 10).toInt = (n : Nat) ∧ (s 11).toInt = ((q + 2 : Nat) : Int) ∧ (∀ k, k ≠ 11 → s k = r71 k) ∧ (∀ j, j < 12 → t (12 * k + j) = -1) ∧ (∀ j, j < 12 * k ∨ 12 * k + 12 ≤ j → t j = r74 j) := by
  have hqn : q ≤ n := by obtain ⟨_, h, _, h3⟩ := hh; exact h3.2.1
  have hqb : q < n → ¬ isB (bt r3 q) := by obtain ⟨_, h, _, h3⟩ := hh; exact h3.2.2.2
  obtain ⟨t, ht1, t1, t2⟩ := s11_clear rw F hF (r74 := r74) hx hk
  obtain ⟨o0, ho0, a1, a0, a2, a3, f0⟩ := s11_isName F hF ht hh
  rw [e_reads, ht1, Option.bind_some, show fnX11_behind F x1 = some (-100 - x1) from rfl, Option.bind_some, if_pos (b_12 hx hk (show (3 : Int32).toInt = ((3 : Nat) : Int) from rfl) (by omega)), ho0, Option.bind_some]
  rw [if_pos (a0 (hK.2.2 0 (by omega)))]
  obtain ⟨o1, ho1, y1, n1, c1, g1⟩ := s11_passR F hF (L := 4) (w := 0) (Lz := 4) (by omega) (by omega) rfl ht (show o0.2 14 = 0 from (f0 14 (by omega)).trans h14) (hQr_at a2 a3 hqn hqb)
  have f1 : ∀ k, k ≠ 11 → o1.2 k = r71 k := fun k hk => (g1 k hk).trans (f0 k hk)
  rw [p11_1, ho1, Option.bind_some]
  have m1 := n1 (hK.2.2 1 (by omega))
  have d1 := m1.2
  rw [if_pos m1.1]
  obtain ⟨o2, ho2, y2, n2, c2, g2⟩ := s11_passR F hF (L := 4) (w := 1) (Lz := 4) (by omega) (by omega) rfl ht (show o1.2 14 = 0 from (f1 14 (by omega)).trans h14) (hQr_at c1 d1 hqn hqb)
  have f2 : ∀ k, k ≠ 11 → o2.2 k = r71 k := fun k hk => (g2 k hk).trans (f1 k hk)
  rw [p11_2, ho2, Option.bind_some]
  have m2 := n2 (hK.2.2 2 (by omega))
  have d2 := m2.2
  rw [if_pos m2.1]
  obtain ⟨o3, ho3, y3, n3, c3, g3⟩ := s11_passR F hF (L := 2) (w := 2) (Lz := 2) (by omega) (by omega) rfl ht (show o2.2 14 = 0 from (f2 14 (by omega)).trans h14) (hQr_at c2 d2 hqn hqb)
  have f3 : ∀ k, k ≠ 11 → o3.2 k = r71 k := fun k hk => (g3 k hk).trans (f2 k hk)
  rw [p11_3, ho3, Option.bind_some]
  have m3 := y3 hK.2.1
  rw [if_neg (by rw [m3.1]; decide)]
  exact ⟨o3.2, t, rfl, c3, m3.2, f3, t1, t2⟩
theorem s11_d4 (rw : (Nat → Int32) → (Nat → Int32) → (Nat → Int32) → Int32 → Option ((Int32) × (Nat → Int32) × (Nat → Int32))) (F : Nat) (hF : 500 ≤ F) {n q k : Nat} {r3 r71 r74 r77 : Nat → Int32} {x1 : Int32} (hx : x1.toInt = (k : Nat)) (hk : k < 40) (ht : tx n r3 r77) (h14 : r71 14 = 0) (hh : hQr n r3 r71 q) (hK : kR n r3 q 4) :
    ∃ s t : Nat → Int32, fnX11_reads rw F r71 r74 r77 x1 = rdK4 rw F r77 x1 s t (-100 - x1) ∧ (s 10).toInt = (n : Nat) ∧ (s 11).toInt = ((q + 5 : Nat) : Int) ∧ (∀ k, k ≠ 11 → s k = r71 k) ∧ (∀ j, j < 12 → t (12 * k + j) = -1) ∧ (∀ j, j < 12 * k ∨ 12 * k + 12 ≤ j → t j = r74 j) := by
  have hqn : q ≤ n := by obtain ⟨_, h, _, h3⟩ := hh; exact h3.2.1
  have hqb : q < n → ¬ isB (bt r3 q) := by obtain ⟨_, h, _, h3⟩ := hh; exact h3.2.2.2
  obtain ⟨t, ht1, t1, t2⟩ := s11_clear rw F hF (r74 := r74) hx hk
  obtain ⟨o0, ho0, a1, a0, a2, a3, f0⟩ := s11_isName F hF ht hh
  rw [e_reads, ht1, Option.bind_some, show fnX11_behind F x1 = some (-100 - x1) from rfl, Option.bind_some, if_pos (b_12 hx hk (show (3 : Int32).toInt = ((3 : Nat) : Int) from rfl) (by omega)), ho0, Option.bind_some]
  rw [if_pos (a0 (hK.2.2 0 (by omega)))]
  obtain ⟨o1, ho1, y1, n1, c1, g1⟩ := s11_passR F hF (L := 4) (w := 0) (Lz := 4) (by omega) (by omega) rfl ht (show o0.2 14 = 0 from (f0 14 (by omega)).trans h14) (hQr_at a2 a3 hqn hqb)
  have f1 : ∀ k, k ≠ 11 → o1.2 k = r71 k := fun k hk => (g1 k hk).trans (f0 k hk)
  rw [p11_1, ho1, Option.bind_some]
  have m1 := n1 (hK.2.2 1 (by omega))
  have d1 := m1.2
  rw [if_pos m1.1]
  obtain ⟨o2, ho2, y2, n2, c2, g2⟩ := s11_passR F hF (L := 4) (w := 1) (Lz := 4) (by omega) (by omega) rfl ht (show o1.2 14 = 0 from (f1 14 (by omega)).trans h14) (hQr_at c1 d1 hqn hqb)
  have f2 : ∀ k, k ≠ 11 → o2.2 k = r71 k := fun k hk => (g2 k hk).trans (f1 k hk)
  rw [p11_2, ho2, Option.bind_some]
  have m2 := n2 (hK.2.2 2 (by omega))
  have d2 := m2.2
  rw [if_pos m2.1]
  obtain ⟨o3, ho3, y3, n3, c3, g3⟩ := s11_passR F hF (L := 2) (w := 2) (Lz := 2) (by omega) (by omega) rfl ht (show o2.2 14 = 0 from (f2 14 (by omega)).trans h14) (hQr_at c2 d2 hqn hqb)
  have f3 : ∀ k, k ≠ 11 → o3.2 k = r71 k := fun k hk => (g3 k hk).trans (f2 k hk)
  rw [p11_3, ho3, Option.bind_some]
  have m3 := n3 (hK.2.2 3 (by omega))
  have d3 := m3.2
  rw [if_pos m3.1]
  obtain ⟨o4, ho4, y4, n4, c4, g4⟩ := s11_passR F hF (L := 5) (w := 3) (Lz := 5) (by omega) (by omega) rfl ht (show o3.2 14 = 0 from (f3 14 (by omega)).trans h14) (hQr_at c3 d3 hqn hqb)
  have f4 : ∀ k, k ≠ 11 → o4.2 k = r71 k := fun k hk => (g4 k hk).trans (f3 k hk)
  rw [p11_4, ho4, Option.bind_some]
  have m4 := y4 hK.2.1
  rw [if_neg (by rw [m4.1]; decide)]
  exact ⟨o4.2, t, rfl, c4, m4.2, f4, t1, t2⟩
theorem s11_d5 (rw : (Nat → Int32) → (Nat → Int32) → (Nat → Int32) → Int32 → Option ((Int32) × (Nat → Int32) × (Nat → Int32))) (F : Nat) (hF : 500 ≤ F) {n q k : Nat} {r3 r71 r74 r77 : Nat → Int32} {x1 : Int32} (hx : x1.toInt = (k : Nat)) (hk : k < 40) (ht : tx n r3 r77) (h14 : r71 14 = 0) (hh : hQr n r3 r71 q) (hK : kR n r3 q 5) :
    ∃ s t : Nat → Int32, fnX11_reads rw F r71 r74 r77 x1 = rdK5 rw F r77 x1 s t (-100 - x1) ∧ (s 10).toInt = (n : Nat) ∧ (s 11).toInt = ((q + 7 : Nat) : Int) ∧ (∀ k, k ≠ 11 → s k = r71 k) ∧ (∀ j, j < 12 → t (12 * k + j) = -1) ∧ (∀ j, j < 12 * k ∨ 12 * k + 12 ≤ j → t j = r74 j) := by
  have hqn : q ≤ n := by obtain ⟨_, h, _, h3⟩ := hh; exact h3.2.1
  have hqb : q < n → ¬ isB (bt r3 q) := by obtain ⟨_, h, _, h3⟩ := hh; exact h3.2.2.2
  obtain ⟨t, ht1, t1, t2⟩ := s11_clear rw F hF (r74 := r74) hx hk
  obtain ⟨o0, ho0, a1, a0, a2, a3, f0⟩ := s11_isName F hF ht hh
  rw [e_reads, ht1, Option.bind_some, show fnX11_behind F x1 = some (-100 - x1) from rfl, Option.bind_some, if_pos (b_12 hx hk (show (3 : Int32).toInt = ((3 : Nat) : Int) from rfl) (by omega)), ho0, Option.bind_some]
  rw [if_pos (a0 (hK.2.2 0 (by omega)))]
  obtain ⟨o1, ho1, y1, n1, c1, g1⟩ := s11_passR F hF (L := 4) (w := 0) (Lz := 4) (by omega) (by omega) rfl ht (show o0.2 14 = 0 from (f0 14 (by omega)).trans h14) (hQr_at a2 a3 hqn hqb)
  have f1 : ∀ k, k ≠ 11 → o1.2 k = r71 k := fun k hk => (g1 k hk).trans (f0 k hk)
  rw [p11_1, ho1, Option.bind_some]
  have m1 := n1 (hK.2.2 1 (by omega))
  have d1 := m1.2
  rw [if_pos m1.1]
  obtain ⟨o2, ho2, y2, n2, c2, g2⟩ := s11_passR F hF (L := 4) (w := 1) (Lz := 4) (by omega) (by omega) rfl ht (show o1.2 14 = 0 from (f1 14 (by omega)).trans h14) (hQr_at c1 d1 hqn hqb)
  have f2 : ∀ k, k ≠ 11 → o2.2 k = r71 k := fun k hk => (g2 k hk).trans (f1 k hk)
  rw [p11_2, ho2, Option.bind_some]
  have m2 := n2 (hK.2.2 2 (by omega))
  have d2 := m2.2
  rw [if_pos m2.1]
  obtain ⟨o3, ho3, y3, n3, c3, g3⟩ := s11_passR F hF (L := 2) (w := 2) (Lz := 2) (by omega) (by omega) rfl ht (show o2.2 14 = 0 from (f2 14 (by omega)).trans h14) (hQr_at c2 d2 hqn hqb)
  have f3 : ∀ k, k ≠ 11 → o3.2 k = r71 k := fun k hk => (g3 k hk).trans (f2 k hk)
  rw [p11_3, ho3, Option.bind_some]
  have m3 := n3 (hK.2.2 3 (by omega))
  have d3 := m3.2
  rw [if_pos m3.1]
  obtain ⟨o4, ho4, y4, n4, c4, g4⟩ := s11_passR F hF (L := 5) (w := 3) (Lz := 5) (by omega) (by omega) rfl ht (show o3.2 14 = 0 from (f3 14 (by omega)).trans h14) (hQr_at c3 d3 hqn hqb)
  have f4 : ∀ k, k ≠ 11 → o4.2 k = r71 k := fun k hk => (g4 k hk).trans (f3 k hk)
  rw [p11_4, ho4, Option.bind_some]
  have m4 := n4 (hK.2.2 4 (by omega))
  have d4 := m4.2
  rw [if_pos m4.1]
  obtain ⟨o5, ho5, y5, n5, c5, g5⟩ := s11_passR F hF (L := 7) (w := 4) (Lz := 7) (by omega) (by omega) rfl ht (show o4.2 14 = 0 from (f4 14 (by omega)).trans h14) (hQr_at c4 d4 hqn hqb)
  have f5 : ∀ k, k ≠ 11 → o5.2 k = r71 k := fun k hk => (g5 k hk).trans (f4 k hk)
  rw [p11_5, ho5, Option.bind_some]
  have m5 := y5 hK.2.1
  rw [if_neg (by rw [m5.1]; decide)]
  exact ⟨o5.2, t, rfl, c5, m5.2, f5, t1, t2⟩
theorem s11_d6 (rw : (Nat → Int32) → (Nat → Int32) → (Nat → Int32) → Int32 → Option ((Int32) × (Nat → Int32) × (Nat → Int32))) (F : Nat) (hF : 500 ≤ F) {n q k : Nat} {r3 r71 r74 r77 : Nat → Int32} {x1 : Int32} (hx : x1.toInt = (k : Nat)) (hk : k < 40) (ht : tx n r3 r77) (h14 : r71 14 = 0) (hh : hQr n r3 r71 q) (hK : kR n r3 q 6) :
    ∃ s t : Nat → Int32, fnX11_reads rw F r71 r74 r77 x1 = rdK6 rw F r77 x1 s t (-100 - x1) ∧ (s 10).toInt = (n : Nat) ∧ (s 11).toInt = ((q + 4 : Nat) : Int) ∧ (∀ k, k ≠ 11 → s k = r71 k) ∧ (∀ j, j < 12 → t (12 * k + j) = -1) ∧ (∀ j, j < 12 * k ∨ 12 * k + 12 ≤ j → t j = r74 j) := by
  have hqn : q ≤ n := by obtain ⟨_, h, _, h3⟩ := hh; exact h3.2.1
  have hqb : q < n → ¬ isB (bt r3 q) := by obtain ⟨_, h, _, h3⟩ := hh; exact h3.2.2.2
  obtain ⟨t, ht1, t1, t2⟩ := s11_clear rw F hF (r74 := r74) hx hk
  obtain ⟨o0, ho0, a1, a0, a2, a3, f0⟩ := s11_isName F hF ht hh
  rw [e_reads, ht1, Option.bind_some, show fnX11_behind F x1 = some (-100 - x1) from rfl, Option.bind_some, if_pos (b_12 hx hk (show (3 : Int32).toInt = ((3 : Nat) : Int) from rfl) (by omega)), ho0, Option.bind_some]
  rw [if_pos (a0 (hK.2.2 0 (by omega)))]
  obtain ⟨o1, ho1, y1, n1, c1, g1⟩ := s11_passR F hF (L := 4) (w := 0) (Lz := 4) (by omega) (by omega) rfl ht (show o0.2 14 = 0 from (f0 14 (by omega)).trans h14) (hQr_at a2 a3 hqn hqb)
  have f1 : ∀ k, k ≠ 11 → o1.2 k = r71 k := fun k hk => (g1 k hk).trans (f0 k hk)
  rw [p11_1, ho1, Option.bind_some]
  have m1 := n1 (hK.2.2 1 (by omega))
  have d1 := m1.2
  rw [if_pos m1.1]
  obtain ⟨o2, ho2, y2, n2, c2, g2⟩ := s11_passR F hF (L := 4) (w := 1) (Lz := 4) (by omega) (by omega) rfl ht (show o1.2 14 = 0 from (f1 14 (by omega)).trans h14) (hQr_at c1 d1 hqn hqb)
  have f2 : ∀ k, k ≠ 11 → o2.2 k = r71 k := fun k hk => (g2 k hk).trans (f1 k hk)
  rw [p11_2, ho2, Option.bind_some]
  have m2 := n2 (hK.2.2 2 (by omega))
  have d2 := m2.2
  rw [if_pos m2.1]
  obtain ⟨o3, ho3, y3, n3, c3, g3⟩ := s11_passR F hF (L := 2) (w := 2) (Lz := 2) (by omega) (by omega) rfl ht (show o2.2 14 = 0 from (f2 14 (by omega)).trans h14) (hQr_at c2 d2 hqn hqb)
  have f3 : ∀ k, k ≠ 11 → o3.2 k = r71 k := fun k hk => (g3 k hk).trans (f2 k hk)
  rw [p11_3, ho3, Option.bind_some]
  have m3 := n3 (hK.2.2 3 (by omega))
  have d3 := m3.2
  rw [if_pos m3.1]
  obtain ⟨o4, ho4, y4, n4, c4, g4⟩ := s11_passR F hF (L := 5) (w := 3) (Lz := 5) (by omega) (by omega) rfl ht (show o3.2 14 = 0 from (f3 14 (by omega)).trans h14) (hQr_at c3 d3 hqn hqb)
  have f4 : ∀ k, k ≠ 11 → o4.2 k = r71 k := fun k hk => (g4 k hk).trans (f3 k hk)
  rw [p11_4, ho4, Option.bind_some]
  have m4 := n4 (hK.2.2 4 (by omega))
  have d4 := m4.2
  rw [if_pos m4.1]
  obtain ⟨o5, ho5, y5, n5, c5, g5⟩ := s11_passR F hF (L := 7) (w := 4) (Lz := 7) (by omega) (by omega) rfl ht (show o4.2 14 = 0 from (f4 14 (by omega)).trans h14) (hQr_at c4 d4 hqn hqb)
  have f5 : ∀ k, k ≠ 11 → o5.2 k = r71 k := fun k hk => (g5 k hk).trans (f4 k hk)
  rw [p11_5, ho5, Option.bind_some]
  have m5 := n5 (hK.2.2 5 (by omega))
  have d5 := m5.2
  rw [if_pos m5.1]
  obtain ⟨o6, ho6, y6, n6, c6, g6⟩ := s11_passR F hF (L := 4) (w := 5) (Lz := 4) (by omega) (by omega) rfl ht (show o5.2 14 = 0 from (f5 14 (by omega)).trans h14) (hQr_at c5 d5 hqn hqb)
  have f6 : ∀ k, k ≠ 11 → o6.2 k = r71 k := fun k hk => (g6 k hk).trans (f5 k hk)
  rw [p11_6, ho6, Option.bind_some]
  have m6 := y6 hK.2.1
  exact ⟨o6.2, t, rfl, c6, m6.2, f6, t1, t2⟩
