/-! ===== the reference's constructor ===== -/
set_option maxRecDepth 100000 in
set_option maxHeartbeats 4000000 in
theorem lpX11_power_13g {P9 : mj_PT} {S9 : mj_ST} {n9 : Nat} {X : mj_XT} {l : Launch} {G : mj_GT} {ad : Nat → Nat} {Qn : Option Value → mj_IT → mj_LT → Prop} (hR : mj_R X l G P9 S9 n9 ad 0 0 Qn) (F : Nat) (I : mj_IT) (L : mj_LT) : ∀ (n : Nat) (s : ((Int64) × (Int64) × (Int64))) (e : ((Int64))), mj_it (mj_u2 (fun z0 => (mj_u2 (fun z1 z2 => bdX11_power_13 F z0 z1 z2)))) n s = some e → (fun x4 => mj_W X G RX11 "power" cX11_power 10 1 (some .long) P9 S9 n9 ad 0 0 64 [(4, .long x4)] [] I L) e → (mj_u2 (fun x4 => (mj_u2 (fun x6 x8 => mj_W X G RX11 "power" cX11_power 10 1 (some .long) P9 S9 n9 ad 0 0 13 [(4, .long x4), (6, .long x6), (8, .long x8)] [] I L)))) s := by
  refine mj_loop (fun s o hf hc hx => ?_)
  obtain ⟨x4, x6, x8⟩ := s
  replace hf := mj_u2e hf
  refine mj_u2q ?_
  replace hf := mj_u2e hf
  refine mj_u2q ?_
  unfold bdX11_power_13 at hf
  refine mj_lload 2 dX11_power_13 rfl ?_
  refine mj_lconst (v := 0) dX11_power_15 (by decide) ?_
  refine mj_lc_le 64 dX11_power_16 dX11_power_17 (by decide) (fun c1 => ?_) (fun c1 => ?_)
  · replace hf := mj_pos c1 hf
    refine mj_sub [0] [(4, .long x4)] rfl ?_
    obtain rfl := Option.some.inj hf
    have hZ := hx x4 rfl
    exact hZ
  · replace hf := mj_neg c1 hf
    refine mj_lload 2 dX11_power_20 rfl ?_
    refine mj_ldc2 kk_X11_281 dX11_power_22 ?_
    refine mj_lrem dX11_power_25 (by decide) ?_
    refine mj_lconst (v := 1) dX11_power_26 (by decide) ?_
    refine mj_lc_ne 42 dX11_power_27 dX11_power_28 (by decide) (fun c2 => ?_) (fun c2 => ?_)
    · replace hf := mj_neg c2 hf
      refine mj_lload 1 dX11_power_42 rfl ?_
      refine mj_lload 1 dX11_power_44 rfl ?_
      refine mj_lmul dX11_power_46 ?_
      refine mj_ldc2 kk_X11_279 dX11_power_47 ?_
      refine mj_lrem dX11_power_50 (by decide) ?_
      refine mj_lstore [(6, .long ((x6 * x6) - (x6 * x6) / (998244353 : Int64) * (998244353 : Int64))), (4, .long x4), (8, .long x8)] dX11_power_51 (by decide) rfl ?_
      refine mj_lload 2 dX11_power_53 rfl ?_
      refine mj_ldc2 kk_X11_281 dX11_power_55 ?_
      refine mj_ldiv dX11_power_58 (by decide) ?_
      refine mj_lstore [(8, .long (x8 / (2 : Int64))), (6, .long ((x6 * x6) - (x6 * x6) / (998244353 : Int64) * (998244353 : Int64))), (4, .long x4)] dX11_power_59 (by decide) rfl ?_
      refine mj_goto 13 dX11_power_61 (by decide) ?_
      refine mj_sub [2, 1, 0] [(4, .long x4), (6, .long ((x6 * x6) - (x6 * x6) / (998244353 : Int64) * (998244353 : Int64))), (8, .long (x8 / (2 : Int64)))] rfl ?_
      obtain rfl := Option.some.inj hf
      have hZ := hc (x4, ((x6 * x6) - (x6 * x6) / (998244353 : Int64) * (998244353 : Int64)), (x8 / (2 : Int64))) rfl
      replace hZ := mj_u2p hZ
      replace hZ := mj_u2p hZ
      exact hZ
    · replace hf := mj_pos c2 hf
      refine mj_lload 0 dX11_power_31 rfl ?_
      refine mj_lload 1 dX11_power_33 rfl ?_
      refine mj_lmul dX11_power_35 ?_
      refine mj_ldc2 kk_X11_279 dX11_power_36 ?_
      refine mj_lrem dX11_power_39 (by decide) ?_
      refine mj_lstore [(4, .long ((x4 * x6) - (x4 * x6) / (998244353 : Int64) * (998244353 : Int64))), (6, .long x6), (8, .long x8)] dX11_power_40 (by decide) rfl ?_
      refine mj_lload 1 dX11_power_42 rfl ?_
      refine mj_lload 1 dX11_power_44 rfl ?_
      refine mj_lmul dX11_power_46 ?_
      refine mj_ldc2 kk_X11_279 dX11_power_47 ?_
      refine mj_lrem dX11_power_50 (by decide) ?_
      refine mj_lstore [(6, .long ((x6 * x6) - (x6 * x6) / (998244353 : Int64) * (998244353 : Int64))), (4, .long ((x4 * x6) - (x4 * x6) / (998244353 : Int64) * (998244353 : Int64))), (8, .long x8)] dX11_power_51 (by decide) rfl ?_
      refine mj_lload 2 dX11_power_53 rfl ?_
      refine mj_ldc2 kk_X11_281 dX11_power_55 ?_
      refine mj_ldiv dX11_power_58 (by decide) ?_
      refine mj_lstore [(8, .long (x8 / (2 : Int64))), (6, .long ((x6 * x6) - (x6 * x6) / (998244353 : Int64) * (998244353 : Int64))), (4, .long ((x4 * x6) - (x4 * x6) / (998244353 : Int64) * (998244353 : Int64)))] dX11_power_59 (by decide) rfl ?_
      refine mj_goto 13 dX11_power_61 (by decide) ?_
      refine mj_sub [2, 1, 0] [(4, .long ((x4 * x6) - (x4 * x6) / (998244353 : Int64) * (998244353 : Int64))), (6, .long ((x6 * x6) - (x6 * x6) / (998244353 : Int64) * (998244353 : Int64))), (8, .long (x8 / (2 : Int64)))] rfl ?_
      obtain rfl := Option.some.inj hf
      have hZ := hc (((x4 * x6) - (x4 * x6) / (998244353 : Int64) * (998244353 : Int64)), ((x6 * x6) - (x6 * x6) / (998244353 : Int64) * (998244353 : Int64)), (x8 / (2 : Int64))) rfl
      replace hZ := mj_u2p hZ
      replace hZ := mj_u2p hZ
      exact hZ
set_option maxRecDepth 100000 in
set_option maxHeartbeats 4000000 in
theorem mtX11_powerg {P9 : mj_PT} {S9 : mj_ST} {n9 : Nat} {X : mj_XT} {l : Launch} {G : mj_GT} {ad : Nat → Nat} {Qn : Option Value → mj_IT → mj_LT → Prop} (hR : mj_R X l G P9 S9 n9 ad 0 0 Qn) (F : Nat) (I : mj_IT) (L : mj_LT) (x0 : Int64) (x2 : Int64) (o : ((Int64))) (hf : fnX11_power F x0 x2 = some o) (hq : (fun ov => Qn (some (.long ov)) I L) o) : mj_W X G RX11 "power" cX11_power 10 1 (some .long) P9 S9 n9 ad 0 0 0 [(0, .long x0), (2, .long x2)] [] I L := by
  unfold fnX11_power at hf
  refine mj_lconst (v := 1) dX11_power_0 (by decide) ?_
  refine mj_lstore [(4, .long (1 : Int64)), (0, .long x0), (2, .long x2)] dX11_power_1 (by decide) rfl ?_
  refine mj_lload_n 1 dX11_power_3 rfl ?_
  refine mj_ldc2 kk_X11_279 dX11_power_4 ?_
  refine mj_lrem dX11_power_7 (by decide) ?_
  refine mj_lstore [(6, .long (x0 - x0 / (998244353 : Int64) * (998244353 : Int64))), (4, .long (1 : Int64)), (0, .long x0), (2, .long x2)] dX11_power_8 (by decide) rfl ?_
  refine mj_lload_n 3 dX11_power_10 rfl ?_
  refine mj_lstore [(8, .long x2), (6, .long (x0 - x0 / (998244353 : Int64) * (998244353 : Int64))), (4, .long (1 : Int64)), (0, .long x0), (2, .long x2)] dX11_power_11 (by decide) rfl ?_
  refine mj_sub [2, 1, 0] [(4, .long (1 : Int64)), (6, .long (x0 - x0 / (998244353 : Int64) * (998244353 : Int64))), (8, .long x2)] rfl ?_
  obtain ⟨x4_3, ho3, hf⟩ := mj_bd hf
  refine lpX11_power_13g hR F I L  F ((1 : Int64), (x0 - x0 / (998244353 : Int64) * (998244353 : Int64)), x2) x4_3 ho3 ?_
  refine ?_
  refine mj_lload 0 dX11_power_64 rfl ?_
  obtain rfl := Option.some.inj hf
  have hZ := hq
  exact mj_lret hR ⟨Nat.le_refl _, Nat.le_refl _⟩ rfl dX11_power_66 hZ
set_option maxRecDepth 100000 in
set_option maxHeartbeats 4000000 in
theorem cmX11_powerg {P9 : mj_PT} {S9 : mj_ST} {n9 : Nat} (l : Launch) (G : mj_GT) (F : Nat) (x0 : Int64) (x2 : Int64) (I : mj_IT) (L : mj_LT) (o : ((Int64))) (hf : fnX11_power F x0 x2 = some o) : mj_M l G yX11_power cX11_power 10 1 (some .long) 0 0 P9 S9 n9 [.long x0, .long x2] I L (mj_qd (some (.long o)) I L) := by
  refine mj_in RX11 "power" [(0, .long x0), (2, .long x2)] rfl rfl rfl (by decide) (Nat.le_of_ble_eq_true rfl) (fun X ad hR => ?_)
  refine mtX11_powerg hR F I L x0 x2 o hf ?_
  exact ⟨rfl, rfl, rfl⟩


set_option maxRecDepth 100000 in
set_option maxHeartbeats 4000000 in
theorem mtX11_inverseg {P9 : mj_PT} {S9 : mj_ST} {n9 : Nat} {X : mj_XT} {l : Launch} {G : mj_GT} {ad : Nat → Nat} {Qn : Option Value → mj_IT → mj_LT → Prop} (hR : mj_R X l G P9 S9 n9 ad 0 0 Qn) (F : Nat) (I : mj_IT) (L : mj_LT) (x0 : Int64) (o : ((Int64))) (hf : fnX11_inverse F x0 = some o) (hq : (fun ov => Qn (some (.long ov)) I L) o) : mj_W X G RX11 "inverse" cX11_inverse 2 2 (some .long) P9 S9 n9 ad 0 0 0 [(0, .long x0)] [] I L := by
  unfold fnX11_inverse at hf
  refine mj_lload_n 0 dX11_inverse_0 rfl ?_
  refine mj_ldc2 kk_X11_283 dX11_inverse_1 ?_
  obtain ⟨o1, ho1, hf⟩ := mj_bd hf
  refine mj_callSd (I2 := I) (L2 := L) (s1 := [.long o1]) (st := []) [.long x0, .long (998244351 : Int64)] (cmX11_powerg X.2.1 G F x0 (998244351 : Int64) _ _   o1 ho1) rfl rfl cw_X11_285 (by decide) rfl rfl (Nat.le_of_ble_eq_true rfl) ⟨Nat.zero_le _, Nat.zero_le _⟩ dX11_inverse_4 rfl ?_
  obtain rfl := Option.some.inj hf
  have hZ := hq
  exact mj_lret hR ⟨Nat.le_refl _, Nat.le_refl _⟩ rfl dX11_inverse_7 hZ
set_option maxRecDepth 100000 in
set_option maxHeartbeats 4000000 in
theorem cmX11_inverseg {P9 : mj_PT} {S9 : mj_ST} {n9 : Nat} (l : Launch) (G : mj_GT) (F : Nat) (x0 : Int64) (I : mj_IT) (L : mj_LT) (o : ((Int64))) (hf : fnX11_inverse F x0 = some o) : mj_M l G yX11_inverse cX11_inverse 2 2 (some .long) 0 0 P9 S9 n9 [.long x0] I L (mj_qd (some (.long o)) I L) := by
  refine mj_in RX11 "inverse" [(0, .long x0)] rfl rfl rfl (by decide) (Nat.le_of_ble_eq_true rfl) (fun X ad hR => ?_)
  refine mtX11_inverseg hR F I L x0 o hf ?_
  exact ⟨rfl, rfl, rfl⟩


set_option maxRecDepth 100000 in
set_option maxHeartbeats 4000000 in
theorem mtX11_oddsg {P9 : mj_PT} {S9 : mj_ST} {n9 : Nat} {X : mj_XT} {l : Launch} {G : mj_GT} {ad : Nat → Nat} {Qn : Option Value → mj_IT → mj_LT → Prop} (hR : mj_R X l G P9 S9 n9 ad 0 0 Qn) (F : Nat) (I : mj_IT) (L : mj_LT) (x0 : Int32) (o : ((Int64))) (hf : fnX11_odds F x0 = some o) (hq : (fun ov => Qn (some (.long ov)) I L) o) : mj_W X G RX11 "odds" cX11_odds 1 3 (some .long) P9 S9 n9 ad 0 0 0 [(0, .int x0)] [] I L := by
  unfold fnX11_odds at hf
  refine mj_iload_n 0 dX11_odds_0 rfl ?_
  refine mj_i2l dX11_odds_1 ?_
  refine mj_ldc2 kk_X11_206 dX11_odds_2 ?_
  obtain ⟨o1, ho1, hf⟩ := mj_bd hf
  refine mj_callSd (I2 := I) (L2 := L) (s1 := [.long o1, .long x0.toInt64]) (st := [.long x0.toInt64]) [.long (60 : Int64)] (cmX11_inverseg X.2.1 G F (60 : Int64) _ _   o1 ho1) rfl rfl cw_X11_289 (by decide) rfl rfl (Nat.le_of_ble_eq_true rfl) ⟨Nat.zero_le _, Nat.zero_le _⟩ dX11_odds_5 rfl ?_
  refine mj_lmul dX11_odds_8 ?_
  refine mj_ldc2 kk_X11_279 dX11_odds_9 ?_
  refine mj_lrem dX11_odds_12 (by decide) ?_
  obtain rfl := Option.some.inj hf
  have hZ := hq
  exact mj_lret hR ⟨Nat.le_refl _, Nat.le_refl _⟩ rfl dX11_odds_13 hZ
set_option maxRecDepth 100000 in
set_option maxHeartbeats 4000000 in
theorem cmX11_oddsg {P9 : mj_PT} {S9 : mj_ST} {n9 : Nat} (l : Launch) (G : mj_GT) (F : Nat) (x0 : Int32) (I : mj_IT) (L : mj_LT) (o : ((Int64))) (hf : fnX11_odds F x0 = some o) : mj_M l G yX11_odds cX11_odds 1 3 (some .long) 0 0 P9 S9 n9 [.int x0] I L (mj_qd (some (.long o)) I L) := by
  refine mj_in RX11 "odds" [(0, .int x0)] rfl rfl rfl (by decide) (Nat.le_of_ble_eq_true rfl) (fun X ad hR => ?_)
  refine mtX11_oddsg hR F I L x0 o hf ?_
  exact ⟨rfl, rfl, rfl⟩


def mj_od (k : Nat) : Int64 := Int64.ofNat (k * 715408453 % 998244353)
theorem mj_od_ok : ∀ k, k < 61 → fnX11_odds 64 (Int32.ofNat k) = some (mj_od k) := by decide +kernel
def mj_odr (k : Nat) : Nat → Int64 := fun j => if j < k then mj_od j else 0
theorem mj_odr_s (k : Nat) : vp_updL (mj_odr k) k (mj_od k) = mj_odr (k + 1) := by
  funext j
  by_cases h : j = k
  · subst h
    simp [vp_updL, mj_odr]
  · have h2 : j < k + 1 ↔ j < k := by omega
    simp [vp_updL, mj_odr, h, h2]
theorem mj_odr_0 : mj_odr 0 = fun _ => 0 := by
  funext j
  simp [mj_odr]
def cP_71 (P : mj_PT) : mj_PT := (mj_sp (mj_sp (mj_sp (mj_sp (mj_sp (mj_sp (mj_sp (mj_sp (mj_sp (mj_sp (mj_sp (mj_sp (mj_sp (mj_sp (mj_sp (mj_sp (mj_sp (mj_sp (mj_sp (mj_sp (mj_sp (mj_sp (mj_sp (mj_sp (mj_sp (mj_sp P 71 1 72) 71 2 73) 71 3 74) 71 6 75) 71 7 76) 71 8 77) 71 18 78) 71 19 79) 71 27 80) 71 28 81) 71 29 82) 71 30 83) 71 31 84) 71 32 85) 71 33 86) 71 34 87) 71 35 88) 71 36 89) 71 37 90) 71 39 91) 71 40 92) 71 41 93) 71 42 94) 71 43 95) 71 44 96) 71 45 97)
def cI_71 (I : mj_IT) : mj_IT := (mj_zi (mj_zi (mj_zi (mj_zi (mj_si (mj_si (mj_si (mj_si (mj_si (mj_si (mj_zi (mj_zi (mj_zi (mj_zi (mj_zi (mj_zi (mj_zi (mj_zi (mj_zi (mj_zi (mj_si (mj_zi (mj_zi (mj_zi (mj_zi (mj_zi (mj_zi I 72) 73) 74) 75) 76) 77) 71 16 (-1)) 78) 79) 80) 81) 82) 83) 84) 85) 86) 87) 87 0 (100000)) 87 1 (10000)) 87 2 (1000)) 87 3 (100)) 87 4 (10)) 87 5 (1)) 88) 93) 94) 95)
def cK_71 (L : mj_LT) : mj_LT := (mj_zl (mj_zl (mj_zl (mj_zl (mj_zl (mj_zl L 89) 90) 91) 92) 96) 97)
def cL_71 (L : mj_LT) : mj_LT := va_up (cK_71 L) 97 (mj_odr 61)
theorem ci_71 {P : mj_PT} (hp : mj_in9 P 71) : mj_in9 (cP_71 P) 97 := by
  unfold cP_71
  exact mj_in9_sp (mj_in9_sp (mj_in9_sp (mj_in9_sp (mj_in9_sp (mj_in9_sp (mj_in9_sp (mj_in9_sp (mj_in9_sp (mj_in9_sp (mj_in9_sp (mj_in9_sp (mj_in9_sp (mj_in9_sp (mj_in9_sp (mj_in9_sp (mj_in9_sp (mj_in9_sp (mj_in9_sp (mj_in9_sp (mj_in9_sp (mj_in9_sp (mj_in9_sp (mj_in9_sp (mj_in9_sp (mj_in9_sp (mj_in9_le hp (by decide)) (by decide)) (by decide)) (by decide)) (by decide)) (by decide)) (by decide)) (by decide)) (by decide)) (by decide)) (by decide)) (by decide)) (by decide)) (by decide)) (by decide)) (by decide)) (by decide)) (by decide)) (by decide)) (by decide)) (by decide)) (by decide)) (by decide)) (by decide)) (by decide)) (by decide)) (by decide)
theorem cp_71 (P : mj_PT) : cP_71 P 71 45 = 97 := by
  simp [cP_71, mj_sp, va_up]
theorem mj_upup {α : Type} (f : Nat → α) (k : Nat) (u v : α) : va_up (va_up f k u) k v = va_up f k v := by
  funext j
  by_cases h : j = k <;> simp [va_up, h]
theorem mj_upself {α : Type} (f : Nat → α) (k : Nat) : va_up f k (f k) = f := by
  funext j
  by_cases h : j = k
  · subst h; simp [va_up]
  · simp [va_up, h]
set_option maxRecDepth 100000 in
set_option maxHeartbeats 4000000 in
theorem cl_71 {X : mj_XT} {G : mj_GT} {P : mj_PT} {I : mj_IT} {L : mj_LT} {ad : Nat → Nat} (hRR : 26 + 0 ≤ X.2.2.2.1.cells ∧ 50662 + 0 ≤ X.2.2.2.1.slots) (k0 : mj_W X G RX11 "<init>" cX11_init 2 4 none (cP_71 P) mj_S0 97 ad 26 50662 291 [] [] (cI_71 I) (va_up L 97 (mj_odr 61))) : ∀ (u k : Nat), k + u = 61 → mj_W X G RX11 "<init>" cX11_init 2 4 none (cP_71 P) mj_S0 97 ad 26 50662 269 [(1, .int (Int32.ofNat k)), (0, .ref 71)] [] (cI_71 I) (va_up L 97 (mj_odr k)) := by
  intro u
  induction u with
  | zero =>
    intro k hk
    obtain rfl : k = 61 := by omega
    refine mj_iload_n 0 dX11_init_269 rfl ?_
    refine mj_bipush (v := 61) dX11_init_270 (by decide +kernel) ?_
    refine mj_icmp_ge 291 dX11_init_272 (by decide) (fun _ => ?_) (fun hc => absurd (by decide +kernel) hc)
    exact mj_sub [] [] rfl k0
  | succ u ih =>
    intro k hk
    have hk2 : k < 61 := by omega
    refine mj_iload_n 0 dX11_init_269 rfl ?_
    refine mj_bipush (v := 61) dX11_init_270 (by decide +kernel) ?_
    refine mj_icmp_ge 291 dX11_init_272 (by decide) (fun hc => absurd hc ((by decide +kernel : ∀ k, k < 61 → ¬ (61 : Int32) ≤ Int32.ofNat k) k hk2)) (fun _ => ?_)
    refine mj_aload_n 1 dX11_init_275 rfl ?_
    refine mj_getP (b := 97) (cp_71 P) (by decide) fl_X11_304 rfl s0_71 (by decide) dX11_init_276 ?_
    refine mj_iload_n 0 dX11_init_279 rfl ?_
    refine mj_iload_n 0 dX11_init_280 rfl ?_
    refine mj_callS (Qn := mj_qd (some (.long (mj_od k))) (cI_71 I) (va_up L 97 (mj_odr k))) (st := [.int (Int32.ofNat k), .ref 97]) [.int (Int32.ofNat k)] (cmX11_oddsg X.2.1 G 64 (Int32.ofNat k) _ _ (mj_od k) (mj_od_ok k hk2)) cw_X11_437 (by decide) rfl rfl (Nat.le_of_ble_eq_true rfl) hRR dX11_init_281 (fun r I1 L1 hq => ?_)
    obtain ⟨rfl, rfl, rfl⟩ := hq
    refine mj_last (i := Int32.ofNat k) (x := mj_od k) s0_97 (by decide) (mj_ib_in ((by decide +kernel : ∀ k, k < 61 → mj_ib (Int32.ofNat k) 61 = true) k hk2)) dX11_init_284 ?_
    refine mj_iinc (v := Int32.ofNat (k + 1)) 0 [(1, .int (Int32.ofNat (k + 1))), (0, .ref 71)] dX11_init_285 rfl ((by decide +kernel : ∀ k, k < 61 → Int32.ofNat k + Int32.ofInt 1 = Int32.ofNat (k + 1)) k hk2) (by decide) rfl ?_
    refine mj_goto 269 dX11_init_288 (by decide) ?_
    have e1 : (Int32.ofNat k).toNatClampNeg = k := (by decide +kernel : ∀ k, k < 61 → (Int32.ofNat k).toNatClampNeg = k) k hk2
    have e2 : va_up (va_up L 97 (mj_odr k)) 97 (vp_updL (va_up L 97 (mj_odr k) 97) (Int32.ofNat k).toNatClampNeg (mj_od k)) = va_up L 97 (mj_odr (k + 1)) := by
      rw [e1, mj_upup, show va_up L 97 (mj_odr k) 97 = mj_odr k from by simp [va_up], mj_odr_s]
    rw [e2]
    exact ih (k + 1) (by omega)
set_option maxRecDepth 100000 in
set_option maxHeartbeats 4000000 in
theorem ct_71 (l : Launch) (G : mj_GT) (P : mj_PT) (I : mj_IT) (L : mj_LT) (hp : mj_in9 P 71) : mj_Mc l G yX11_init cX11_init 2 4 26 50662 P mj_S0 71 97 [.ref 71] I L (fun P' I' L' => P' = cP_71 P ∧ I' = cI_71 I ∧ L' = cL_71 L) := by
  refine mj_inc RX11 "<init>" [(0, .ref 71)] rfl rfl rfl (by decide) (by decide) (fun X ad hR => ?_)
  have hx0 : mj_ex 71 ad ad := mj_ex.rf
  refine mj_aload_n 0 dX11_init_0 rfl ?_
  refine mj_objInit ⟨mj_seg_8 (j := 120) (by decide +kernel) rfl, oi_i, oi_c⟩ (by decide) (by decide) dX11_init_1 ?_
  refine mj_aload_n 0 dX11_init_4 rfl ?_
  refine mj_iconst (v := 3) dX11_init_5 (by decide +kernel) ?_
  refine mj_n_int (n' := 72) (N := 3) (kc' := 1) (ks' := 3) rfl ⟨rfl, rfl⟩ ⟨by decide +kernel, by decide +kernel, Nat.le_of_ble_eq_true rfl⟩ s0_72 (by decide) hp (by decide +kernel) (by decide +kernel) ac_int (mj_rcc hR ⟨Nat.le_of_ble_eq_true rfl, Nat.le_of_ble_eq_true rfl⟩) dX11_init_6 (fun ad1 hy1 => ?_)
  have hx1 := mj_ex.tr (n := 71) (n' := 71) (by decide) hx0 hy1
  have hp1 := mj_in9_le (n' := 72) hp (by decide)
  refine mj_p_fin (by decide) fl_X11_7 rfl rfl rfl rfl s0_71 (by decide) dX11_init_8 ?_
  have hp2 : mj_in9 (mj_sp P 71 1 72) 72 := mj_in9_sp hp1 (by decide)
  refine mj_aload_n 0 dX11_init_11 rfl ?_
  refine mj_sipush (v := 480) dX11_init_12 (by decide +kernel) ?_
  refine mj_n_int (n' := 73) (N := 480) (kc' := 2) (ks' := 483) rfl ⟨rfl, rfl⟩ ⟨by decide +kernel, by decide +kernel, Nat.le_of_ble_eq_true rfl⟩ s0_73 (by decide) hp2 (by decide +kernel) (by decide +kernel) ac_int (mj_rcc hR ⟨Nat.le_of_ble_eq_true rfl, Nat.le_of_ble_eq_true rfl⟩) dX11_init_15 (fun ad3 hy3 => ?_)
  have hx3 := mj_ex.tr (n := 71) (n' := 72) (by decide) hx1 hy3
  have hp3 := mj_in9_le (n' := 73) hp2 (by decide)
  refine mj_p_fin (by decide) fl_X11_11 rfl rfl rfl rfl s0_71 (by decide) dX11_init_17 ?_
  have hp4 : mj_in9 (mj_sp (mj_sp P 71 1 72) 71 2 73) 73 := mj_in9_sp hp3 (by decide)
  refine mj_aload_n 0 dX11_init_20 rfl ?_
  refine mj_sipush (v := 480) dX11_init_21 (by decide +kernel) ?_
  refine mj_n_int (n' := 74) (N := 480) (kc' := 3) (ks' := 963) rfl ⟨rfl, rfl⟩ ⟨by decide +kernel, by decide +kernel, Nat.le_of_ble_eq_true rfl⟩ s0_74 (by decide) hp4 (by decide +kernel) (by decide +kernel) ac_int (mj_rcc hR ⟨Nat.le_of_ble_eq_true rfl, Nat.le_of_ble_eq_true rfl⟩) dX11_init_24 (fun ad5 hy5 => ?_)
  have hx5 := mj_ex.tr (n := 71) (n' := 73) (by decide) hx3 hy5
  have hp5 := mj_in9_le (n' := 74) hp4 (by decide)
  refine mj_p_fin (by decide) fl_X11_95 rfl rfl rfl rfl s0_71 (by decide) dX11_init_26 ?_
  have hp6 : mj_in9 (mj_sp (mj_sp (mj_sp P 71 1 72) 71 2 73) 71 3 74) 74 := mj_in9_sp hp5 (by decide)
  refine mj_aload_n 0 dX11_init_29 rfl ?_
  refine mj_bipush (v := 6) dX11_init_30 (by decide +kernel) ?_
  refine mj_n_int (n' := 75) (N := 6) (kc' := 4) (ks' := 969) rfl ⟨rfl, rfl⟩ ⟨by decide +kernel, by decide +kernel, Nat.le_of_ble_eq_true rfl⟩ s0_75 (by decide) hp6 (by decide +kernel) (by decide +kernel) ac_int (mj_rcc hR ⟨Nat.le_of_ble_eq_true rfl, Nat.le_of_ble_eq_true rfl⟩) dX11_init_32 (fun ad7 hy7 => ?_)
  have hx7 := mj_ex.tr (n := 71) (n' := 74) (by decide) hx5 hy7
  have hp7 := mj_in9_le (n' := 75) hp6 (by decide)
  refine mj_p_fin (by decide) fl_X11_178 rfl rfl rfl rfl s0_71 (by decide) dX11_init_34 ?_
  have hp8 : mj_in9 (mj_sp (mj_sp (mj_sp (mj_sp P 71 1 72) 71 2 73) 71 3 74) 71 6 75) 75 := mj_in9_sp hp7 (by decide)
  refine mj_aload_n 0 dX11_init_37 rfl ?_
  refine mj_sipush (v := 400) dX11_init_38 (by decide +kernel) ?_
  refine mj_n_byte (n' := 76) (N := 400) (kc' := 5) (ks' := 1369) rfl ⟨rfl, rfl⟩ ⟨by decide +kernel, by decide +kernel, Nat.le_of_ble_eq_true rfl⟩ s0_76 (by decide) hp8 (by decide +kernel) (by decide +kernel) ac_byte (mj_rcc hR ⟨Nat.le_of_ble_eq_true rfl, Nat.le_of_ble_eq_true rfl⟩) dX11_init_41 (fun ad9 hy9 => ?_)
  have hx9 := mj_ex.tr (n := 71) (n' := 75) (by decide) hx7 hy9
  have hp9 := mj_in9_le (n' := 76) hp8 (by decide)
  refine mj_p_fin (by decide) fl_X11_21 rfl rfl rfl rfl s0_71 (by decide) dX11_init_43 ?_
  have hp10 : mj_in9 (mj_sp (mj_sp (mj_sp (mj_sp (mj_sp P 71 1 72) 71 2 73) 71 3 74) 71 6 75) 71 7 76) 76 := mj_in9_sp hp9 (by decide)
  refine mj_aload_n 0 dX11_init_46 rfl ?_
  refine mj_sipush (v := 400) dX11_init_47 (by decide +kernel) ?_
  refine mj_n_byte (n' := 77) (N := 400) (kc' := 6) (ks' := 1769) rfl ⟨rfl, rfl⟩ ⟨by decide +kernel, by decide +kernel, Nat.le_of_ble_eq_true rfl⟩ s0_77 (by decide) hp10 (by decide +kernel) (by decide +kernel) ac_byte (mj_rcc hR ⟨Nat.le_of_ble_eq_true rfl, Nat.le_of_ble_eq_true rfl⟩) dX11_init_50 (fun ad11 hy11 => ?_)
  have hx11 := mj_ex.tr (n := 71) (n' := 76) (by decide) hx9 hy11
  have hp11 := mj_in9_le (n' := 77) hp10 (by decide)
  refine mj_p_fin (by decide) fl_X11_37 rfl rfl rfl rfl s0_71 (by decide) dX11_init_52 ?_
  have hp12 : mj_in9 (mj_sp (mj_sp (mj_sp (mj_sp (mj_sp (mj_sp P 71 1 72) 71 2 73) 71 3 74) 71 6 75) 71 7 76) 71 8 77) 77 := mj_in9_sp hp11 (by decide)
  refine mj_aload_n 0 dX11_init_55 rfl ?_
  refine mj_iconst (v := -1) dX11_init_56 (by decide +kernel) ?_
  refine mj_p_int ⟨rfl, rfl⟩ fl_X11_165 rfl rfl s0_71 (by decide) dX11_init_57 ?_
  refine mj_aload_n 0 dX11_init_60 rfl ?_
  refine mj_bipush (v := 13) dX11_init_61 (by decide +kernel) ?_
  refine mj_n_int (n' := 78) (N := 13) (kc' := 7) (ks' := 1782) rfl ⟨rfl, rfl⟩ ⟨by decide +kernel, by decide +kernel, Nat.le_of_ble_eq_true rfl⟩ s0_78 (by decide) hp12 (by decide +kernel) (by decide +kernel) ac_int (mj_rcc hR ⟨Nat.le_of_ble_eq_true rfl, Nat.le_of_ble_eq_true rfl⟩) dX11_init_63 (fun ad13 hy13 => ?_)
  have hx13 := mj_ex.tr (n := 71) (n' := 77) (by decide) hx11 hy13
  have hp13 := mj_in9_le (n' := 78) hp12 (by decide)
  refine mj_p_fin (by decide) fl_X11_187 rfl rfl rfl rfl s0_71 (by decide) dX11_init_65 ?_
  have hp14 : mj_in9 (mj_sp (mj_sp (mj_sp (mj_sp (mj_sp (mj_sp (mj_sp P 71 1 72) 71 2 73) 71 3 74) 71 6 75) 71 7 76) 71 8 77) 71 18 78) 78 := mj_in9_sp hp13 (by decide)
  refine mj_aload_n 0 dX11_init_68 rfl ?_
  refine mj_bipush (v := 13) dX11_init_69 (by decide +kernel) ?_
  refine mj_n_int (n' := 79) (N := 13) (kc' := 8) (ks' := 1795) rfl ⟨rfl, rfl⟩ ⟨by decide +kernel, by decide +kernel, Nat.le_of_ble_eq_true rfl⟩ s0_79 (by decide) hp14 (by decide +kernel) (by decide +kernel) ac_int (mj_rcc hR ⟨Nat.le_of_ble_eq_true rfl, Nat.le_of_ble_eq_true rfl⟩) dX11_init_71 (fun ad15 hy15 => ?_)
  have hx15 := mj_ex.tr (n := 71) (n' := 78) (by decide) hx13 hy15
  have hp15 := mj_in9_le (n' := 79) hp14 (by decide)
  refine mj_p_fin (by decide) fl_X11_190 rfl rfl rfl rfl s0_71 (by decide) dX11_init_73 ?_
  have hp16 : mj_in9 (mj_sp (mj_sp (mj_sp (mj_sp (mj_sp (mj_sp (mj_sp (mj_sp P 71 1 72) 71 2 73) 71 3 74) 71 6 75) 71 7 76) 71 8 77) 71 18 78) 71 19 79) 79 := mj_in9_sp hp15 (by decide)
  refine mj_aload_n 0 dX11_init_76 rfl ?_
  refine mj_sipush (v := 200) dX11_init_77 (by decide +kernel) ?_
  refine mj_n_int (n' := 80) (N := 200) (kc' := 9) (ks' := 1995) rfl ⟨rfl, rfl⟩ ⟨by decide +kernel, by decide +kernel, Nat.le_of_ble_eq_true rfl⟩ s0_80 (by decide) hp16 (by decide +kernel) (by decide +kernel) ac_int (mj_rcc hR ⟨Nat.le_of_ble_eq_true rfl, Nat.le_of_ble_eq_true rfl⟩) dX11_init_80 (fun ad17 hy17 => ?_)
  have hx17 := mj_ex.tr (n := 71) (n' := 79) (by decide) hx15 hy17
  have hp17 := mj_in9_le (n' := 80) hp16 (by decide)
  refine mj_p_fin (by decide) fl_X11_230 rfl rfl rfl rfl s0_71 (by decide) dX11_init_82 ?_
  have hp18 : mj_in9 (mj_sp (mj_sp (mj_sp (mj_sp (mj_sp (mj_sp (mj_sp (mj_sp (mj_sp P 71 1 72) 71 2 73) 71 3 74) 71 6 75) 71 7 76) 71 8 77) 71 18 78) 71 19 79) 71 27 80) 80 := mj_in9_sp hp17 (by decide)
  refine mj_aload_n 0 dX11_init_85 rfl ?_
  refine mj_sipush (v := 200) dX11_init_86 (by decide +kernel) ?_
  refine mj_n_int (n' := 81) (N := 200) (kc' := 10) (ks' := 2195) rfl ⟨rfl, rfl⟩ ⟨by decide +kernel, by decide +kernel, Nat.le_of_ble_eq_true rfl⟩ s0_81 (by decide) hp18 (by decide +kernel) (by decide +kernel) ac_int (mj_rcc hR ⟨Nat.le_of_ble_eq_true rfl, Nat.le_of_ble_eq_true rfl⟩) dX11_init_89 (fun ad19 hy19 => ?_)
  have hx19 := mj_ex.tr (n := 71) (n' := 80) (by decide) hx17 hy19
  have hp19 := mj_in9_le (n' := 81) hp18 (by decide)
  refine mj_p_fin (by decide) fl_X11_233 rfl rfl rfl rfl s0_71 (by decide) dX11_init_91 ?_
  have hp20 : mj_in9 (mj_sp (mj_sp (mj_sp (mj_sp (mj_sp (mj_sp (mj_sp (mj_sp (mj_sp (mj_sp P 71 1 72) 71 2 73) 71 3 74) 71 6 75) 71 7 76) 71 8 77) 71 18 78) 71 19 79) 71 27 80) 71 28 81) 81 := mj_in9_sp hp19 (by decide)
  refine mj_aload_n 0 dX11_init_94 rfl ?_
  refine mj_sipush (v := 200) dX11_init_95 (by decide +kernel) ?_
  refine mj_n_int (n' := 82) (N := 200) (kc' := 11) (ks' := 2395) rfl ⟨rfl, rfl⟩ ⟨by decide +kernel, by decide +kernel, Nat.le_of_ble_eq_true rfl⟩ s0_82 (by decide) hp20 (by decide +kernel) (by decide +kernel) ac_int (mj_rcc hR ⟨Nat.le_of_ble_eq_true rfl, Nat.le_of_ble_eq_true rfl⟩) dX11_init_98 (fun ad21 hy21 => ?_)
  have hx21 := mj_ex.tr (n := 71) (n' := 81) (by decide) hx19 hy21
  have hp21 := mj_in9_le (n' := 82) hp20 (by decide)
  refine mj_p_fin (by decide) fl_X11_239 rfl rfl rfl rfl s0_71 (by decide) dX11_init_100 ?_
  have hp22 : mj_in9 (mj_sp (mj_sp (mj_sp (mj_sp (mj_sp (mj_sp (mj_sp (mj_sp (mj_sp (mj_sp (mj_sp P 71 1 72) 71 2 73) 71 3 74) 71 6 75) 71 7 76) 71 8 77) 71 18 78) 71 19 79) 71 27 80) 71 28 81) 71 29 82) 82 := mj_in9_sp hp21 (by decide)
  refine mj_aload_n 0 dX11_init_103 rfl ?_
  refine mj_sipush (v := 200) dX11_init_104 (by decide +kernel) ?_
  refine mj_n_int (n' := 83) (N := 200) (kc' := 12) (ks' := 2595) rfl ⟨rfl, rfl⟩ ⟨by decide +kernel, by decide +kernel, Nat.le_of_ble_eq_true rfl⟩ s0_83 (by decide) hp22 (by decide +kernel) (by decide +kernel) ac_int (mj_rcc hR ⟨Nat.le_of_ble_eq_true rfl, Nat.le_of_ble_eq_true rfl⟩) dX11_init_107 (fun ad23 hy23 => ?_)
  have hx23 := mj_ex.tr (n := 71) (n' := 82) (by decide) hx21 hy23
  have hp23 := mj_in9_le (n' := 83) hp22 (by decide)
  refine mj_p_fin (by decide) fl_X11_251 rfl rfl rfl rfl s0_71 (by decide) dX11_init_109 ?_
  have hp24 : mj_in9 (mj_sp (mj_sp (mj_sp (mj_sp (mj_sp (mj_sp (mj_sp (mj_sp (mj_sp (mj_sp (mj_sp (mj_sp P 71 1 72) 71 2 73) 71 3 74) 71 6 75) 71 7 76) 71 8 77) 71 18 78) 71 19 79) 71 27 80) 71 28 81) 71 29 82) 71 30 83) 83 := mj_in9_sp hp23 (by decide)
  refine mj_aload_n 0 dX11_init_112 rfl ?_
  refine mj_sipush (v := 2000) dX11_init_113 (by decide +kernel) ?_
  refine mj_n_int (n' := 84) (N := 2000) (kc' := 13) (ks' := 4595) rfl ⟨rfl, rfl⟩ ⟨by decide +kernel, by decide +kernel, Nat.le_of_ble_eq_true rfl⟩ s0_84 (by decide) hp24 (by decide +kernel) (by decide +kernel) ac_int (mj_rcc hR ⟨Nat.le_of_ble_eq_true rfl, Nat.le_of_ble_eq_true rfl⟩) dX11_init_116 (fun ad25 hy25 => ?_)
  have hx25 := mj_ex.tr (n := 71) (n' := 83) (by decide) hx23 hy25
  have hp25 := mj_in9_le (n' := 84) hp24 (by decide)
  refine mj_p_fin (by decide) fl_X11_248 rfl rfl rfl rfl s0_71 (by decide) dX11_init_118 ?_
  have hp26 : mj_in9 (mj_sp (mj_sp (mj_sp (mj_sp (mj_sp (mj_sp (mj_sp (mj_sp (mj_sp (mj_sp (mj_sp (mj_sp (mj_sp P 71 1 72) 71 2 73) 71 3 74) 71 6 75) 71 7 76) 71 8 77) 71 18 78) 71 19 79) 71 27 80) 71 28 81) 71 29 82) 71 30 83) 71 31 84) 84 := mj_in9_sp hp25 (by decide)
  refine mj_aload_n 0 dX11_init_121 rfl ?_
  refine mj_sipush (v := 2000) dX11_init_122 (by decide +kernel) ?_
  refine mj_n_int (n' := 85) (N := 2000) (kc' := 14) (ks' := 6595) rfl ⟨rfl, rfl⟩ ⟨by decide +kernel, by decide +kernel, Nat.le_of_ble_eq_true rfl⟩ s0_85 (by decide) hp26 (by decide +kernel) (by decide +kernel) ac_int (mj_rcc hR ⟨Nat.le_of_ble_eq_true rfl, Nat.le_of_ble_eq_true rfl⟩) dX11_init_125 (fun ad27 hy27 => ?_)
  have hx27 := mj_ex.tr (n := 71) (n' := 84) (by decide) hx25 hy27
  have hp27 := mj_in9_le (n' := 85) hp26 (by decide)
  refine mj_p_fin (by decide) fl_X11_254 rfl rfl rfl rfl s0_71 (by decide) dX11_init_127 ?_
  have hp28 : mj_in9 (mj_sp (mj_sp (mj_sp (mj_sp (mj_sp (mj_sp (mj_sp (mj_sp (mj_sp (mj_sp (mj_sp (mj_sp (mj_sp (mj_sp P 71 1 72) 71 2 73) 71 3 74) 71 6 75) 71 7 76) 71 8 77) 71 18 78) 71 19 79) 71 27 80) 71 28 81) 71 29 82) 71 30 83) 71 31 84) 71 32 85) 85 := mj_in9_sp hp27 (by decide)
  refine mj_aload_n 0 dX11_init_130 rfl ?_
  refine mj_sipush (v := 200) dX11_init_131 (by decide +kernel) ?_
  refine mj_n_boolean (n' := 86) (N := 200) (kc' := 15) (ks' := 6795) rfl ⟨rfl, rfl⟩ ⟨by decide +kernel, by decide +kernel, Nat.le_of_ble_eq_true rfl⟩ s0_86 (by decide) hp28 (by decide +kernel) (by decide +kernel) ac_boolean (mj_rcc hR ⟨Nat.le_of_ble_eq_true rfl, Nat.le_of_ble_eq_true rfl⟩) dX11_init_134 (fun ad29 hy29 => ?_)
  have hx29 := mj_ex.tr (n := 71) (n' := 85) (by decide) hx27 hy29
  have hp29 := mj_in9_le (n' := 86) hp28 (by decide)
  refine mj_p_fin (by decide) fl_X11_275 rfl rfl rfl rfl s0_71 (by decide) dX11_init_136 ?_
  have hp30 : mj_in9 (mj_sp (mj_sp (mj_sp (mj_sp (mj_sp (mj_sp (mj_sp (mj_sp (mj_sp (mj_sp (mj_sp (mj_sp (mj_sp (mj_sp (mj_sp P 71 1 72) 71 2 73) 71 3 74) 71 6 75) 71 7 76) 71 8 77) 71 18 78) 71 19 79) 71 27 80) 71 28 81) 71 29 82) 71 30 83) 71 31 84) 71 32 85) 71 33 86) 86 := mj_in9_sp hp29 (by decide)
  refine mj_aload_n 0 dX11_init_139 rfl ?_
  refine mj_bipush (v := 6) dX11_init_140 (by decide +kernel) ?_
  refine mj_n_int (n' := 87) (N := 6) (kc' := 16) (ks' := 6801) rfl ⟨rfl, rfl⟩ ⟨by decide +kernel, by decide +kernel, Nat.le_of_ble_eq_true rfl⟩ s0_87 (by decide) hp30 (by decide +kernel) (by decide +kernel) ac_int (mj_rcc hR ⟨Nat.le_of_ble_eq_true rfl, Nat.le_of_ble_eq_true rfl⟩) dX11_init_142 (fun ad31 hy31 => ?_)
  have hx31 := mj_ex.tr (n := 71) (n' := 86) (by decide) hx29 hy31
  have hp31 := mj_in9_le (n' := 87) hp30 (by decide)
  refine mj_dup dX11_init_144 rfl ?_
  refine mj_iconst (v := 0) dX11_init_145 (by decide +kernel) ?_
  refine mj_ldc kk_X11_78 dX11_init_146 ?_
  refine mj_p_ia (j := 0) (N := 6) (by decide +kernel) s0_87 (by decide) (mj_ib_in (by decide +kernel)) dX11_init_148 ?_
  refine mj_dup dX11_init_149 rfl ?_
  refine mj_iconst (v := 1) dX11_init_150 (by decide +kernel) ?_
  refine mj_sipush (v := 10000) dX11_init_151 (by decide +kernel) ?_
  refine mj_p_ia (j := 1) (N := 6) (by decide +kernel) s0_87 (by decide) (mj_ib_in (by decide +kernel)) dX11_init_154 ?_
  refine mj_dup dX11_init_155 rfl ?_
  refine mj_iconst (v := 2) dX11_init_156 (by decide +kernel) ?_
  refine mj_sipush (v := 1000) dX11_init_157 (by decide +kernel) ?_
  refine mj_p_ia (j := 2) (N := 6) (by decide +kernel) s0_87 (by decide) (mj_ib_in (by decide +kernel)) dX11_init_160 ?_
  refine mj_dup dX11_init_161 rfl ?_
  refine mj_iconst (v := 3) dX11_init_162 (by decide +kernel) ?_
  refine mj_bipush (v := 100) dX11_init_163 (by decide +kernel) ?_
  refine mj_p_ia (j := 3) (N := 6) (by decide +kernel) s0_87 (by decide) (mj_ib_in (by decide +kernel)) dX11_init_165 ?_
  refine mj_dup dX11_init_166 rfl ?_
  refine mj_iconst (v := 4) dX11_init_167 (by decide +kernel) ?_
  refine mj_bipush (v := 10) dX11_init_168 (by decide +kernel) ?_
  refine mj_p_ia (j := 4) (N := 6) (by decide +kernel) s0_87 (by decide) (mj_ib_in (by decide +kernel)) dX11_init_170 ?_
  refine mj_dup dX11_init_171 rfl ?_
  refine mj_iconst (v := 5) dX11_init_172 (by decide +kernel) ?_
  refine mj_iconst (v := 1) dX11_init_173 (by decide +kernel) ?_
  refine mj_p_ia (j := 5) (N := 6) (by decide +kernel) s0_87 (by decide) (mj_ib_in (by decide +kernel)) dX11_init_174 ?_
  refine mj_p_fin (by decide) fl_X11_215 rfl rfl rfl rfl s0_71 (by decide) dX11_init_175 ?_
  have hp32 : mj_in9 (mj_sp (mj_sp (mj_sp (mj_sp (mj_sp (mj_sp (mj_sp (mj_sp (mj_sp (mj_sp (mj_sp (mj_sp (mj_sp (mj_sp (mj_sp (mj_sp P 71 1 72) 71 2 73) 71 3 74) 71 6 75) 71 7 76) 71 8 77) 71 18 78) 71 19 79) 71 27 80) 71 28 81) 71 29 82) 71 30 83) 71 31 84) 71 32 85) 71 33 86) 71 34 87) 87 := mj_in9_sp hp31 (by decide)
  refine mj_aload_n 0 dX11_init_178 rfl ?_
  refine mj_sipush (v := 200) dX11_init_179 (by decide +kernel) ?_
  refine mj_n_int (n' := 88) (N := 200) (kc' := 17) (ks' := 7001) rfl ⟨rfl, rfl⟩ ⟨by decide +kernel, by decide +kernel, Nat.le_of_ble_eq_true rfl⟩ s0_88 (by decide) hp32 (by decide +kernel) (by decide +kernel) ac_int (mj_rcc hR ⟨Nat.le_of_ble_eq_true rfl, Nat.le_of_ble_eq_true rfl⟩) dX11_init_182 (fun ad33 hy33 => ?_)
  have hx33 := mj_ex.tr (n := 71) (n' := 87) (by decide) hx31 hy33
  have hp33 := mj_in9_le (n' := 88) hp32 (by decide)
  refine mj_p_fin (by decide) fl_X11_296 rfl rfl rfl rfl s0_71 (by decide) dX11_init_184 ?_
  have hp34 : mj_in9 (mj_sp (mj_sp (mj_sp (mj_sp (mj_sp (mj_sp (mj_sp (mj_sp (mj_sp (mj_sp (mj_sp (mj_sp (mj_sp (mj_sp (mj_sp (mj_sp (mj_sp P 71 1 72) 71 2 73) 71 3 74) 71 6 75) 71 7 76) 71 8 77) 71 18 78) 71 19 79) 71 27 80) 71 28 81) 71 29 82) 71 30 83) 71 31 84) 71 32 85) 71 33 86) 71 34 87) 71 35 88) 88 := mj_in9_sp hp33 (by decide)
  refine mj_aload_n 0 dX11_init_187 rfl ?_
  refine mj_ldcw kk_X11_299 dX11_init_188 ?_
  refine mj_n_long (n' := 89) (N := 40200) (kc' := 18) (ks' := 47201) rfl ⟨rfl, rfl⟩ ⟨by decide +kernel, by decide +kernel, Nat.le_of_ble_eq_true rfl⟩ s0_89 (by decide) hp34 (by decide +kernel) (by decide +kernel) ac_long (mj_rcc hR ⟨Nat.le_of_ble_eq_true rfl, Nat.le_of_ble_eq_true rfl⟩) dX11_init_191 (fun ad35 hy35 => ?_)
  have hx35 := mj_ex.tr (n := 71) (n' := 88) (by decide) hx33 hy35
  have hp35 := mj_in9_le (n' := 89) hp34 (by decide)
  refine mj_p_fin (by decide) fl_X11_300 rfl rfl rfl rfl s0_71 (by decide) dX11_init_193 ?_
  have hp36 : mj_in9 (mj_sp (mj_sp (mj_sp (mj_sp (mj_sp (mj_sp (mj_sp (mj_sp (mj_sp (mj_sp (mj_sp (mj_sp (mj_sp (mj_sp (mj_sp (mj_sp (mj_sp (mj_sp P 71 1 72) 71 2 73) 71 3 74) 71 6 75) 71 7 76) 71 8 77) 71 18 78) 71 19 79) 71 27 80) 71 28 81) 71 29 82) 71 30 83) 71 31 84) 71 32 85) 71 33 86) 71 34 87) 71 35 88) 71 36 89) 89 := mj_in9_sp hp35 (by decide)
  refine mj_aload_n 0 dX11_init_196 rfl ?_
  refine mj_sipush (v := 200) dX11_init_197 (by decide +kernel) ?_
  refine mj_n_long (n' := 90) (N := 200) (kc' := 19) (ks' := 47401) rfl ⟨rfl, rfl⟩ ⟨by decide +kernel, by decide +kernel, Nat.le_of_ble_eq_true rfl⟩ s0_90 (by decide) hp36 (by decide +kernel) (by decide +kernel) ac_long (mj_rcc hR ⟨Nat.le_of_ble_eq_true rfl, Nat.le_of_ble_eq_true rfl⟩) dX11_init_200 (fun ad37 hy37 => ?_)
  have hx37 := mj_ex.tr (n := 71) (n' := 89) (by decide) hx35 hy37
  have hp37 := mj_in9_le (n' := 90) hp36 (by decide)
  refine mj_p_fin (by decide) fl_X11_316 rfl rfl rfl rfl s0_71 (by decide) dX11_init_202 ?_
  have hp38 : mj_in9 (mj_sp (mj_sp (mj_sp (mj_sp (mj_sp (mj_sp (mj_sp (mj_sp (mj_sp (mj_sp (mj_sp (mj_sp (mj_sp (mj_sp (mj_sp (mj_sp (mj_sp (mj_sp (mj_sp P 71 1 72) 71 2 73) 71 3 74) 71 6 75) 71 7 76) 71 8 77) 71 18 78) 71 19 79) 71 27 80) 71 28 81) 71 29 82) 71 30 83) 71 31 84) 71 32 85) 71 33 86) 71 34 87) 71 35 88) 71 36 89) 71 37 90) 90 := mj_in9_sp hp37 (by decide)
  refine mj_aload_n 0 dX11_init_205 rfl ?_
  refine mj_sipush (v := 200) dX11_init_206 (by decide +kernel) ?_
  refine mj_n_long (n' := 91) (N := 200) (kc' := 20) (ks' := 47601) rfl ⟨rfl, rfl⟩ ⟨by decide +kernel, by decide +kernel, Nat.le_of_ble_eq_true rfl⟩ s0_91 (by decide) hp38 (by decide +kernel) (by decide +kernel) ac_long (mj_rcc hR ⟨Nat.le_of_ble_eq_true rfl, Nat.le_of_ble_eq_true rfl⟩) dX11_init_209 (fun ad39 hy39 => ?_)
  have hx39 := mj_ex.tr (n := 71) (n' := 90) (by decide) hx37 hy39
  have hp39 := mj_in9_le (n' := 91) hp38 (by decide)
  refine mj_p_fin (by decide) fl_X11_373 rfl rfl rfl rfl s0_71 (by decide) dX11_init_211 ?_
  have hp40 : mj_in9 (mj_sp (mj_sp (mj_sp (mj_sp (mj_sp (mj_sp (mj_sp (mj_sp (mj_sp (mj_sp (mj_sp (mj_sp (mj_sp (mj_sp (mj_sp (mj_sp (mj_sp (mj_sp (mj_sp (mj_sp P 71 1 72) 71 2 73) 71 3 74) 71 6 75) 71 7 76) 71 8 77) 71 18 78) 71 19 79) 71 27 80) 71 28 81) 71 29 82) 71 30 83) 71 31 84) 71 32 85) 71 33 86) 71 34 87) 71 35 88) 71 36 89) 71 37 90) 71 39 91) 91 := mj_in9_sp hp39 (by decide)
  refine mj_aload_n 0 dX11_init_214 rfl ?_
  refine mj_sipush (v := 200) dX11_init_215 (by decide +kernel) ?_
  refine mj_n_long (n' := 92) (N := 200) (kc' := 21) (ks' := 47801) rfl ⟨rfl, rfl⟩ ⟨by decide +kernel, by decide +kernel, Nat.le_of_ble_eq_true rfl⟩ s0_92 (by decide) hp40 (by decide +kernel) (by decide +kernel) ac_long (mj_rcc hR ⟨Nat.le_of_ble_eq_true rfl, Nat.le_of_ble_eq_true rfl⟩) dX11_init_218 (fun ad41 hy41 => ?_)
  have hx41 := mj_ex.tr (n := 71) (n' := 91) (by decide) hx39 hy41
  have hp41 := mj_in9_le (n' := 92) hp40 (by decide)
  refine mj_p_fin (by decide) fl_X11_376 rfl rfl rfl rfl s0_71 (by decide) dX11_init_220 ?_
  have hp42 : mj_in9 (mj_sp (mj_sp (mj_sp (mj_sp (mj_sp (mj_sp (mj_sp (mj_sp (mj_sp (mj_sp (mj_sp (mj_sp (mj_sp (mj_sp (mj_sp (mj_sp (mj_sp (mj_sp (mj_sp (mj_sp (mj_sp P 71 1 72) 71 2 73) 71 3 74) 71 6 75) 71 7 76) 71 8 77) 71 18 78) 71 19 79) 71 27 80) 71 28 81) 71 29 82) 71 30 83) 71 31 84) 71 32 85) 71 33 86) 71 34 87) 71 35 88) 71 36 89) 71 37 90) 71 39 91) 71 40 92) 92 := mj_in9_sp hp41 (by decide)
  refine mj_aload_n 0 dX11_init_223 rfl ?_
  refine mj_sipush (v := 200) dX11_init_224 (by decide +kernel) ?_
  refine mj_n_int (n' := 93) (N := 200) (kc' := 22) (ks' := 48001) rfl ⟨rfl, rfl⟩ ⟨by decide +kernel, by decide +kernel, Nat.le_of_ble_eq_true rfl⟩ s0_93 (by decide) hp42 (by decide +kernel) (by decide +kernel) ac_int (mj_rcc hR ⟨Nat.le_of_ble_eq_true rfl, Nat.le_of_ble_eq_true rfl⟩) dX11_init_227 (fun ad43 hy43 => ?_)
  have hx43 := mj_ex.tr (n := 71) (n' := 92) (by decide) hx41 hy43
  have hp43 := mj_in9_le (n' := 93) hp42 (by decide)
  refine mj_p_fin (by decide) fl_X11_379 rfl rfl rfl rfl s0_71 (by decide) dX11_init_229 ?_
  have hp44 : mj_in9 (mj_sp (mj_sp (mj_sp (mj_sp (mj_sp (mj_sp (mj_sp (mj_sp (mj_sp (mj_sp (mj_sp (mj_sp (mj_sp (mj_sp (mj_sp (mj_sp (mj_sp (mj_sp (mj_sp (mj_sp (mj_sp (mj_sp P 71 1 72) 71 2 73) 71 3 74) 71 6 75) 71 7 76) 71 8 77) 71 18 78) 71 19 79) 71 27 80) 71 28 81) 71 29 82) 71 30 83) 71 31 84) 71 32 85) 71 33 86) 71 34 87) 71 35 88) 71 36 89) 71 37 90) 71 39 91) 71 40 92) 71 41 93) 93 := mj_in9_sp hp43 (by decide)
  refine mj_aload_n 0 dX11_init_232 rfl ?_
  refine mj_sipush (v := 200) dX11_init_233 (by decide +kernel) ?_
  refine mj_n_int (n' := 94) (N := 200) (kc' := 23) (ks' := 48201) rfl ⟨rfl, rfl⟩ ⟨by decide +kernel, by decide +kernel, Nat.le_of_ble_eq_true rfl⟩ s0_94 (by decide) hp44 (by decide +kernel) (by decide +kernel) ac_int (mj_rcc hR ⟨Nat.le_of_ble_eq_true rfl, Nat.le_of_ble_eq_true rfl⟩) dX11_init_236 (fun ad45 hy45 => ?_)
  have hx45 := mj_ex.tr (n := 71) (n' := 93) (by decide) hx43 hy45
  have hp45 := mj_in9_le (n' := 94) hp44 (by decide)
  refine mj_p_fin (by decide) fl_X11_389 rfl rfl rfl rfl s0_71 (by decide) dX11_init_238 ?_
  have hp46 : mj_in9 (mj_sp (mj_sp (mj_sp (mj_sp (mj_sp (mj_sp (mj_sp (mj_sp (mj_sp (mj_sp (mj_sp (mj_sp (mj_sp (mj_sp (mj_sp (mj_sp (mj_sp (mj_sp (mj_sp (mj_sp (mj_sp (mj_sp (mj_sp P 71 1 72) 71 2 73) 71 3 74) 71 6 75) 71 7 76) 71 8 77) 71 18 78) 71 19 79) 71 27 80) 71 28 81) 71 29 82) 71 30 83) 71 31 84) 71 32 85) 71 33 86) 71 34 87) 71 35 88) 71 36 89) 71 37 90) 71 39 91) 71 40 92) 71 41 93) 71 42 94) 94 := mj_in9_sp hp45 (by decide)
  refine mj_aload_n 0 dX11_init_241 rfl ?_
  refine mj_sipush (v := 200) dX11_init_242 (by decide +kernel) ?_
  refine mj_n_int (n' := 95) (N := 200) (kc' := 24) (ks' := 48401) rfl ⟨rfl, rfl⟩ ⟨by decide +kernel, by decide +kernel, Nat.le_of_ble_eq_true rfl⟩ s0_95 (by decide) hp46 (by decide +kernel) (by decide +kernel) ac_int (mj_rcc hR ⟨Nat.le_of_ble_eq_true rfl, Nat.le_of_ble_eq_true rfl⟩) dX11_init_245 (fun ad47 hy47 => ?_)
  have hx47 := mj_ex.tr (n := 71) (n' := 94) (by decide) hx45 hy47
  have hp47 := mj_in9_le (n' := 95) hp46 (by decide)
  refine mj_p_fin (by decide) fl_X11_382 rfl rfl rfl rfl s0_71 (by decide) dX11_init_247 ?_
  have hp48 : mj_in9 (mj_sp (mj_sp (mj_sp (mj_sp (mj_sp (mj_sp (mj_sp (mj_sp (mj_sp (mj_sp (mj_sp (mj_sp (mj_sp (mj_sp (mj_sp (mj_sp (mj_sp (mj_sp (mj_sp (mj_sp (mj_sp (mj_sp (mj_sp (mj_sp P 71 1 72) 71 2 73) 71 3 74) 71 6 75) 71 7 76) 71 8 77) 71 18 78) 71 19 79) 71 27 80) 71 28 81) 71 29 82) 71 30 83) 71 31 84) 71 32 85) 71 33 86) 71 34 87) 71 35 88) 71 36 89) 71 37 90) 71 39 91) 71 40 92) 71 41 93) 71 42 94) 71 43 95) 95 := mj_in9_sp hp47 (by decide)
  refine mj_aload_n 0 dX11_init_250 rfl ?_
  refine mj_sipush (v := 2200) dX11_init_251 (by decide +kernel) ?_
  refine mj_n_long (n' := 96) (N := 2200) (kc' := 25) (ks' := 50601) rfl ⟨rfl, rfl⟩ ⟨by decide +kernel, by decide +kernel, Nat.le_of_ble_eq_true rfl⟩ s0_96 (by decide) hp48 (by decide +kernel) (by decide +kernel) ac_long (mj_rcc hR ⟨Nat.le_of_ble_eq_true rfl, Nat.le_of_ble_eq_true rfl⟩) dX11_init_254 (fun ad49 hy49 => ?_)
  have hx49 := mj_ex.tr (n := 71) (n' := 95) (by decide) hx47 hy49
  have hp49 := mj_in9_le (n' := 96) hp48 (by decide)
  refine mj_p_fin (by decide) fl_X11_407 rfl rfl rfl rfl s0_71 (by decide) dX11_init_256 ?_
  have hp50 : mj_in9 (mj_sp (mj_sp (mj_sp (mj_sp (mj_sp (mj_sp (mj_sp (mj_sp (mj_sp (mj_sp (mj_sp (mj_sp (mj_sp (mj_sp (mj_sp (mj_sp (mj_sp (mj_sp (mj_sp (mj_sp (mj_sp (mj_sp (mj_sp (mj_sp (mj_sp P 71 1 72) 71 2 73) 71 3 74) 71 6 75) 71 7 76) 71 8 77) 71 18 78) 71 19 79) 71 27 80) 71 28 81) 71 29 82) 71 30 83) 71 31 84) 71 32 85) 71 33 86) 71 34 87) 71 35 88) 71 36 89) 71 37 90) 71 39 91) 71 40 92) 71 41 93) 71 42 94) 71 43 95) 71 44 96) 96 := mj_in9_sp hp49 (by decide)
  refine mj_aload_n 0 dX11_init_259 rfl ?_
  refine mj_bipush (v := 61) dX11_init_260 (by decide +kernel) ?_
  refine mj_n_long (n' := 97) (N := 61) (kc' := 26) (ks' := 50662) rfl ⟨rfl, rfl⟩ ⟨by decide +kernel, by decide +kernel, Nat.le_of_ble_eq_true rfl⟩ s0_97 (by decide) hp50 (by decide +kernel) (by decide +kernel) ac_long (mj_rcc hR ⟨Nat.le_of_ble_eq_true rfl, Nat.le_of_ble_eq_true rfl⟩) dX11_init_262 (fun ad51 hy51 => ?_)
  have hx51 := mj_ex.tr (n := 71) (n' := 96) (by decide) hx49 hy51
  have hp51 := mj_in9_le (n' := 97) hp50 (by decide)
  refine mj_p_fin (by decide) fl_X11_304 rfl rfl rfl rfl s0_71 (by decide) dX11_init_264 ?_
  have hp52 : mj_in9 (mj_sp (mj_sp (mj_sp (mj_sp (mj_sp (mj_sp (mj_sp (mj_sp (mj_sp (mj_sp (mj_sp (mj_sp (mj_sp (mj_sp (mj_sp (mj_sp (mj_sp (mj_sp (mj_sp (mj_sp (mj_sp (mj_sp (mj_sp (mj_sp (mj_sp (mj_sp P 71 1 72) 71 2 73) 71 3 74) 71 6 75) 71 7 76) 71 8 77) 71 18 78) 71 19 79) 71 27 80) 71 28 81) 71 29 82) 71 30 83) 71 31 84) 71 32 85) 71 33 86) 71 34 87) 71 35 88) 71 36 89) 71 37 90) 71 39 91) 71 40 92) 71 41 93) 71 42 94) 71 43 95) 71 44 96) 71 45 97) 97 := mj_in9_sp hp51 (by decide)
  refine mj_iconst (v := 0) dX11_init_267 (by decide +kernel) ?_
  refine mj_istore_n (i := 1) [(1, .int 0), (0, .ref 71)] dX11_init_268 rfl (by decide) rfl ?_
  have hL : cK_71 L = va_up (cK_71 L) 97 (mj_odr 0) := by
    rw [mj_odr_0]
    exact (mj_upself (cK_71 L) 97).symm
  have key := cl_71 (X := X) (G := G) (P := P) (I := I) (L := cK_71 L) (mj_rcc hR ⟨Nat.le_of_ble_eq_true rfl, Nat.le_of_ble_eq_true rfl⟩) (mj_vretc hR hx51 ⟨Nat.le_refl _, Nat.le_refl _⟩ rfl dX11_init_291 ⟨rfl, rfl, rfl⟩) 61 0 rfl
  rw [← hL] at key
  exact key
