-- X11_independent
def bdX11_independent_72 (F : Nat) (r71 : Nat → Int32) (r80 : Nat → Int32) (r81 : Nat → Int32) (r87 : Nat → Int32) (q90 : Nat → Int64) (x1 : Int32) (x2 : Int32) (x3 : Int32) (x4 : Int32) : Option (((Int32)) ⊕ (Unit ⊕ Unit)) := (if (10 : Int32) ≤ x4 then some (.inr (.inl ())) else (fnX11_oddsOf F r71 r80 r81 r87 q90 x1 x3 x2 x4).bind (fun o2 => (fnX11_oddsAlone F r71 r80 r81 r87 q90 x1 x3).bind (fun o3 => (fnX11_oddsAlone F r71 r80 r81 r87 q90 x2 x4).bind (fun o4 => (if o2 = ((o3 * o4) - (o3 * o4) / (998244353 : Int64) * (998244353 : Int64)) then some (.inl (x4 + (1))) else some (.inr (.inr ())))))))
def bdX11_independent_63 (F : Nat) (r71 : Nat → Int32) (r80 : Nat → Int32) (r81 : Nat → Int32) (r87 : Nat → Int32) (q90 : Nat → Int64) (x1 : Int32) (x2 : Int32) (x3 : Int32) : Option (((Int32)) ⊕ (Unit ⊕ Unit)) := (if (10 : Int32) ≤ x3 then some (.inr (.inl ())) else (mj_it (bdX11_independent_72 F r71 r80 r81 r87 q90 x1 x2 x3) F (0 : Int32)).bind (Sum.elim (fun _ => some (.inl (x3 + (1)))) (fun _ => some (.inr (.inr ())))))
def jnX11_independent_34 (F : Nat) (r73 : Nat → Int32) (r75 : Nat → Int32) (r87 : Nat → Int32) (q97 : Nat → Int64) (x1 : Int32) (x2 : Int32) (t1 : Int32) (r71 : Nat → Int32) (r72 : Nat → Int32) (r80 : Nat → Int32) (r81 : Nat → Int32) (r82 : Nat → Int32) (r83 : Nat → Int32) (r84 : Nat → Int32) (r85 : Nat → Int32) (r86 : Nat → Int32) (r88 : Nat → Int32) (q89 : Nat → Int64) (q90 : Nat → Int64) : Option ((Int32) × (Nat → Int32) × (Nat → Int32) × (Nat → Int32) × (Nat → Int32) × (Nat → Int32) × (Nat → Int32) × (Nat → Int32) × (Nat → Int32) × (Nat → Int32) × (Nat → Int32) × (Nat → Int64) × (Nat → Int64)) := (fnX11_isFine F r71 r72 t1 (2 : Int32) (0 : Int32)).bind (fun o8 => (if o8.1 = 0 then some ((0 : Int32), o8.2.1, o8.2.2, r80, r81, r82, r83, r84, r85, r86, r88, q89, q90) else (fnX11_hasEnd F o8.2.1 o8.2.2 r80).bind (fun o10 => (if o10.1 = 0 then some ((0 : Int32), o10.2.1, o10.2.2, r80, r81, r82, r83, r84, r85, r86, r88, q89, q90) else (fnX11_isSure F o10.2.1 r80 r83 r84 r85 r86 r88 q89 q90 q97).bind (fun o12 => (if o12.1 = 0 then some ((-3 : Int32), o12.2.1, o10.2.2, r80, r81, r82, r83, r84, r85, r86, o12.2.2.1, o12.2.2.2.1, o12.2.2.2.2) else (mj_it (bdX11_independent_63 F o12.2.1 r80 r81 r87 o12.2.2.2.2 x1 x2) F (0 : Int32)).bind (Sum.elim (fun _ => some ((1 : Int32), o12.2.1, o10.2.2, r80, r81, r82, r83, r84, r85, r86, o12.2.2.1, o12.2.2.2.1, o12.2.2.2.2)) (fun _ => some ((0 : Int32), o12.2.1, o10.2.2, r80, r81, r82, r83, r84, r85, r86, o12.2.2.1, o12.2.2.2.1, o12.2.2.2.2)))))))))
def jnX11_independent_33 (F : Nat) (r73 : Nat → Int32) (r75 : Nat → Int32) (r87 : Nat → Int32) (q97 : Nat → Int64) (x1 : Int32) (x2 : Int32) (r71 : Nat → Int32) (r72 : Nat → Int32) (r80 : Nat → Int32) (r81 : Nat → Int32) (r82 : Nat → Int32) (r83 : Nat → Int32) (r84 : Nat → Int32) (r85 : Nat → Int32) (r86 : Nat → Int32) (r88 : Nat → Int32) (q89 : Nat → Int64) (q90 : Nat → Int64) : Option ((Int32) × (Nat → Int32) × (Nat → Int32) × (Nat → Int32) × (Nat → Int32) × (Nat → Int32) × (Nat → Int32) × (Nat → Int32) × (Nat → Int32) × (Nat → Int32) × (Nat → Int32) × (Nat → Int64) × (Nat → Int64)) := jnX11_independent_34 F r73 r75 r87 q97 x1 x2 (0 : Int32) r71 r72 r80 r81 r82 r83 r84 r85 r86 r88 q89 q90
def fnX11_independent (F : Nat) (r71 : Nat → Int32) (r72 : Nat → Int32) (r73 : Nat → Int32) (r75 : Nat → Int32) (r80 : Nat → Int32) (r81 : Nat → Int32) (r82 : Nat → Int32) (r83 : Nat → Int32) (r84 : Nat → Int32) (r85 : Nat → Int32) (r86 : Nat → Int32) (r87 : Nat → Int32) (r88 : Nat → Int32) (q89 : Nat → Int64) (q90 : Nat → Int64) (q97 : Nat → Int64) (x1 : Int32) (x2 : Int32) : Option ((Int32) × (Nat → Int32) × (Nat → Int32) × (Nat → Int32) × (Nat → Int32) × (Nat → Int32) × (Nat → Int32) × (Nat → Int32) × (Nat → Int32) × (Nat → Int32) × (Nat → Int32) × (Nat → Int64) × (Nat → Int64)) := (fnX11_isFew F (upd r71 0 (0 : Int32)) r72 r73 r75 r80 r81 r82 r83 r84 r85 r86 r87).bind (fun o15 => (if o15.1 = 0 then some ((0 : Int32), o15.2.1, o15.2.2.1, o15.2.2.2.1, o15.2.2.2.2.1, o15.2.2.2.2.2.1, o15.2.2.2.2.2.2.1, o15.2.2.2.2.2.2.2.1, o15.2.2.2.2.2.2.2.2.1, o15.2.2.2.2.2.2.2.2.2, r88, q89, q90) else (fnX11_isName F x1).bind (fun o17 => (if o17 = 0 then jnX11_independent_33 F r73 r75 r87 q97 x1 x2 o15.2.1 o15.2.2.1 o15.2.2.2.1 o15.2.2.2.2.1 o15.2.2.2.2.2.1 o15.2.2.2.2.2.2.1 o15.2.2.2.2.2.2.2.1 o15.2.2.2.2.2.2.2.2.1 o15.2.2.2.2.2.2.2.2.2 r88 q89 q90 else (fnX11_isName F x2).bind (fun o19 => (if o19 = 0 then jnX11_independent_33 F r73 r75 r87 q97 x1 x2 o15.2.1 o15.2.2.1 o15.2.2.2.1 o15.2.2.2.2.1 o15.2.2.2.2.2.1 o15.2.2.2.2.2.2.1 o15.2.2.2.2.2.2.2.1 o15.2.2.2.2.2.2.2.2.1 o15.2.2.2.2.2.2.2.2.2 r88 q89 q90 else jnX11_independent_34 F r73 r75 r87 q97 x1 x2 (1 : Int32) o15.2.1 o15.2.2.1 o15.2.2.2.1 o15.2.2.2.2.1 o15.2.2.2.2.2.1 o15.2.2.2.2.2.2.1 o15.2.2.2.2.2.2.2.1 o15.2.2.2.2.2.2.2.2.1 o15.2.2.2.2.2.2.2.2.2 r88 q89 q90))))))
set_option maxRecDepth 100000 in
set_option maxHeartbeats 4000000 in
theorem lpX11_independent_72 {X : mj_XT} {l : Launch} {G : mj_GT} {ad : Nat → Nat} {Qn : Option Value → mj_IT → mj_LT → Prop} (hR : mj_R X l G mj_P0 mj_S0 98 ad 0 0 Qn) (F : Nat) (I : mj_IT) (L : mj_LT) (r71 : Nat → Int32) (r72 : Nat → Int32) (r73 : Nat → Int32) (r75 : Nat → Int32) (r80 : Nat → Int32) (r81 : Nat → Int32) (r82 : Nat → Int32) (r83 : Nat → Int32) (r84 : Nat → Int32) (r85 : Nat → Int32) (r86 : Nat → Int32) (r87 : Nat → Int32) (r88 : Nat → Int32) (q89 : Nat → Int64) (q90 : Nat → Int64) (q97 : Nat → Int64) (x1 : Int32) (x2 : Int32) (x3 : Int32) : ∀ (n : Nat) (s : ((Int32))) (e : (Unit ⊕ Unit)), mj_it (bdX11_independent_72 F r71 r80 r81 r87 q90 x1 x2 x3) n s = some e → (Sum.elim (fun _ => mj_W X G RX11 "independent" cX11_independent 5 8 (some .int) mj_P0 mj_S0 98 ad 0 0 118 [(0, .ref 71), (1, .int x1), (2, .int x2), (3, .int x3)] [] (mj_rows I [(71, r71), (72, r72), (73, r73), (75, r75), (80, r80), (81, r81), (82, r82), (83, r83), (84, r84), (85, r85), (86, r86), (87, r87), (88, r88)]) (mj_rows L [(89, q89), (90, q90), (97, q97)])) (fun _ => mj_W X G RX11 "independent" cX11_independent 5 8 (some .int) mj_P0 mj_S0 98 ad 0 0 110 [] [] (mj_rows I [(71, r71), (72, r72), (73, r73), (75, r75), (80, r80), (81, r81), (82, r82), (83, r83), (84, r84), (85, r85), (86, r86), (87, r87), (88, r88)]) (mj_rows L [(89, q89), (90, q90), (97, q97)]))) e → (fun x4 => mj_W X G RX11 "independent" cX11_independent 5 8 (some .int) mj_P0 mj_S0 98 ad 0 0 72 [(0, .ref 71), (1, .int x1), (2, .int x2), (3, .int x3), (4, .int x4)] [] (mj_rows I [(71, r71), (72, r72), (73, r73), (75, r75), (80, r80), (81, r81), (82, r82), (83, r83), (84, r84), (85, r85), (86, r86), (87, r87), (88, r88)]) (mj_rows L [(89, q89), (90, q90), (97, q97)])) s := by
  refine mj_loop (fun x4 o hf hc hx => ?_)
  unfold bdX11_independent_72 at hf
  refine mj_iload 4 dX11_independent_72 rfl ?_
  refine mj_bipush dX11_independent_74 kc_bipush_10 ?_
  refine mj_icmp_ge 118 dX11_independent_76 (by decide) (fun c1 => ?_) (fun c1 => ?_)
  · replace hf := mj_pos c1 hf
    refine mj_sub [0, 1, 2, 3] [(0, .ref 71), (1, .int x1), (2, .int x2), (3, .int x3)] rfl ?_
    obtain rfl := Option.some.inj hf
    have hZ := hx (.inl ()) rfl
    replace hZ := mj_el hZ
    exact hZ
  · replace hf := mj_neg c1 hf
    refine mj_aload_n 0 dX11_independent_79 rfl ?_
    refine mj_iload_n 1 dX11_independent_80 rfl ?_
    refine mj_iload_n 3 dX11_independent_81 rfl ?_
    refine mj_iload_n 2 dX11_independent_82 rfl ?_
    refine mj_iload 4 dX11_independent_83 rfl ?_
    obtain ⟨o2, ho2, hf⟩ := mj_bd hf
    refine mj_callVd (I2 := (mj_rows I [(71, r71), (72, r72), (73, r73), (75, r75), (80, r80), (81, r81), (82, r82), (83, r83), (84, r84), (85, r85), (86, r86), (87, r87), (88, r88)])) (L2 := (mj_rows L [(89, q89), (90, q90), (97, q97)])) (s1 := [.long o2]) (st := []) [.int x1, .int x3, .int x2, .int x4] (cmX11_oddsOf X.2.1 G F x1 x3 x2 x4 _ _ r71 r80 r81 r87 q90 rfl rfl rfl rfl rfl o2 ho2) (mj_rr rfl) (mj_rr rfl) cw_X11_357 s0_71 a0_71 (by decide) rfl rfl (Nat.le_of_ble_eq_true rfl) ⟨Nat.zero_le _, Nat.zero_le _⟩ dX11_independent_85 rfl ?_
    refine mj_aload_n 0 dX11_independent_88 rfl ?_
    refine mj_iload_n 1 dX11_independent_89 rfl ?_
    refine mj_iload_n 3 dX11_independent_90 rfl ?_
    obtain ⟨o3, ho3, hf⟩ := mj_bd hf
    refine mj_callVd (I2 := (mj_rows I [(71, r71), (72, r72), (73, r73), (75, r75), (80, r80), (81, r81), (82, r82), (83, r83), (84, r84), (85, r85), (86, r86), (87, r87), (88, r88)])) (L2 := (mj_rows L [(89, q89), (90, q90), (97, q97)])) (s1 := [.long o3, .long o2]) (st := [.long o2]) [.int x1, .int x3] (cmX11_oddsAlone X.2.1 G F x1 x3 _ _ r71 r80 r81 r87 q90 rfl rfl rfl rfl rfl o3 ho3) (mj_rr rfl) (mj_rr rfl) cw_X11_367 s0_71 a0_71 (by decide) rfl rfl (Nat.le_of_ble_eq_true rfl) ⟨Nat.zero_le _, Nat.zero_le _⟩ dX11_independent_91 rfl ?_
    refine mj_aload_n 0 dX11_independent_94 rfl ?_
    refine mj_iload_n 2 dX11_independent_95 rfl ?_
    refine mj_iload 4 dX11_independent_96 rfl ?_
    obtain ⟨o4, ho4, hf⟩ := mj_bd hf
    refine mj_callVd (I2 := (mj_rows I [(71, r71), (72, r72), (73, r73), (75, r75), (80, r80), (81, r81), (82, r82), (83, r83), (84, r84), (85, r85), (86, r86), (87, r87), (88, r88)])) (L2 := (mj_rows L [(89, q89), (90, q90), (97, q97)])) (s1 := [.long o4, .long o3, .long o2]) (st := [.long o3, .long o2]) [.int x2, .int x4] (cmX11_oddsAlone X.2.1 G F x2 x4 _ _ r71 r80 r81 r87 q90 rfl rfl rfl rfl rfl o4 ho4) (mj_rr rfl) (mj_rr rfl) cw_X11_367 s0_71 a0_71 (by decide) rfl rfl (Nat.le_of_ble_eq_true rfl) ⟨Nat.zero_le _, Nat.zero_le _⟩ dX11_independent_98 rfl ?_
    refine mj_lmul dX11_independent_101 ?_
    refine mj_ldc2 kk_X11_279 dX11_independent_102 ?_
    refine mj_lrem dX11_independent_105 (by decide) ?_
    refine mj_lc_eq 112 dX11_independent_106 dX11_independent_107 (by decide) (fun c5 => ?_) (fun c5 => ?_)
    · replace hf := mj_pos c5 hf
      refine mj_iinc 4 [(4, .int (x4 + (1))), (0, .ref 71), (1, .int x1), (2, .int x2), (3, .int x3)] dX11_independent_112 rfl (kz_1 _) (by decide) rfl ?_
      refine mj_goto 72 dX11_independent_115 (by decide) ?_
      refine mj_sub [1, 2, 3, 4, 0] [(0, .ref 71), (1, .int x1), (2, .int x2), (3, .int x3), (4, .int (x4 + (1)))] rfl ?_
      obtain rfl := Option.some.inj hf
      have hZ := hc (x4 + (1)) rfl
      exact hZ
    · replace hf := mj_neg c5 hf
      refine mj_sub [] [] rfl ?_
      obtain rfl := Option.some.inj hf
      have hZ := hx (.inr ()) rfl
      replace hZ := mj_er hZ
      exact hZ
set_option maxRecDepth 100000 in
set_option maxHeartbeats 4000000 in
theorem lpX11_independent_63 {X : mj_XT} {l : Launch} {G : mj_GT} {ad : Nat → Nat} {Qn : Option Value → mj_IT → mj_LT → Prop} (hR : mj_R X l G mj_P0 mj_S0 98 ad 0 0 Qn) (F : Nat) (I : mj_IT) (L : mj_LT) (r71 : Nat → Int32) (r72 : Nat → Int32) (r73 : Nat → Int32) (r75 : Nat → Int32) (r80 : Nat → Int32) (r81 : Nat → Int32) (r82 : Nat → Int32) (r83 : Nat → Int32) (r84 : Nat → Int32) (r85 : Nat → Int32) (r86 : Nat → Int32) (r87 : Nat → Int32) (r88 : Nat → Int32) (q89 : Nat → Int64) (q90 : Nat → Int64) (q97 : Nat → Int64) (x1 : Int32) (x2 : Int32) : ∀ (n : Nat) (s : ((Int32))) (e : (Unit ⊕ Unit)), mj_it (bdX11_independent_63 F r71 r80 r81 r87 q90 x1 x2) n s = some e → (Sum.elim (fun _ => mj_W X G RX11 "independent" cX11_independent 5 8 (some .int) mj_P0 mj_S0 98 ad 0 0 124 [] [] (mj_rows I [(71, r71), (72, r72), (73, r73), (75, r75), (80, r80), (81, r81), (82, r82), (83, r83), (84, r84), (85, r85), (86, r86), (87, r87), (88, r88)]) (mj_rows L [(89, q89), (90, q90), (97, q97)])) (fun _ => mj_W X G RX11 "independent" cX11_independent 5 8 (some .int) mj_P0 mj_S0 98 ad 0 0 110 [] [] (mj_rows I [(71, r71), (72, r72), (73, r73), (75, r75), (80, r80), (81, r81), (82, r82), (83, r83), (84, r84), (85, r85), (86, r86), (87, r87), (88, r88)]) (mj_rows L [(89, q89), (90, q90), (97, q97)]))) e → (fun x3 => mj_W X G RX11 "independent" cX11_independent 5 8 (some .int) mj_P0 mj_S0 98 ad 0 0 63 [(0, .ref 71), (1, .int x1), (2, .int x2), (3, .int x3)] [] (mj_rows I [(71, r71), (72, r72), (73, r73), (75, r75), (80, r80), (81, r81), (82, r82), (83, r83), (84, r84), (85, r85), (86, r86), (87, r87), (88, r88)]) (mj_rows L [(89, q89), (90, q90), (97, q97)])) s := by
  refine mj_loop (fun x3 o hf hc hx => ?_)
  unfold bdX11_independent_63 at hf
  refine mj_iload_n 3 dX11_independent_63 rfl ?_
  refine mj_bipush dX11_independent_64 kc_bipush_10 ?_
  refine mj_icmp_ge 124 dX11_independent_66 (by decide) (fun c6 => ?_) (fun c6 => ?_)
  · replace hf := mj_pos c6 hf
    refine mj_sub [] [] rfl ?_
    obtain rfl := Option.some.inj hf
    have hZ := hx (.inl ()) rfl
    replace hZ := mj_el hZ
    exact hZ
  · replace hf := mj_neg c6 hf
    refine mj_iconst dX11_independent_69 kc_iconst_0 ?_
    refine mj_istore [(4, .int (0 : Int32)), (0, .ref 71), (1, .int x1), (2, .int x2), (3, .int x3)] dX11_independent_70 (by decide) rfl ?_
    refine mj_sub [1, 2, 3, 4, 0] [(0, .ref 71), (1, .int x1), (2, .int x2), (3, .int x3), (4, .int (0 : Int32))] rfl ?_
    obtain ⟨e7, ho7, hf⟩ := mj_bd hf
    refine lpX11_independent_72 hR F I L r71 r72 r73 r75 r80 r81 r82 r83 r84 r85 r86 r87 r88 q89 q90 q97 x1 x2 x3 F (0 : Int32) e7 ho7 ?_
    rcases e7 with e7 | e7
    · replace hf := mj_ele hf
      refine mj_elq (?_)
      refine mj_iinc 3 [(3, .int (x3 + (1))), (0, .ref 71), (1, .int x1), (2, .int x2)] dX11_independent_118 rfl (kz_1 _) (by decide) rfl ?_
      refine mj_goto 63 dX11_independent_121 (by decide) ?_
      refine mj_sub [1, 2, 3, 0] [(0, .ref 71), (1, .int x1), (2, .int x2), (3, .int (x3 + (1)))] rfl ?_
      obtain rfl := Option.some.inj hf
      have hZ := hc (x3 + (1)) rfl
      exact hZ
    · replace hf := mj_ere hf
      refine mj_erq (?_)
      obtain rfl := Option.some.inj hf
      have hZ := hx (.inr ()) rfl
      replace hZ := mj_er hZ
      exact hZ
set_option maxRecDepth 100000 in
set_option maxHeartbeats 4000000 in
theorem jtX11_independent_34 {X : mj_XT} {l : Launch} {G : mj_GT} {ad : Nat → Nat} {Qn : Option Value → mj_IT → mj_LT → Prop} (hR : mj_R X l G mj_P0 mj_S0 98 ad 0 0 Qn) (F : Nat) (I : mj_IT) (L : mj_LT) (r71 : Nat → Int32) (r72 : Nat → Int32) (r73 : Nat → Int32) (r75 : Nat → Int32) (r80 : Nat → Int32) (r81 : Nat → Int32) (r82 : Nat → Int32) (r83 : Nat → Int32) (r84 : Nat → Int32) (r85 : Nat → Int32) (r86 : Nat → Int32) (r87 : Nat → Int32) (r88 : Nat → Int32) (q89 : Nat → Int64) (q90 : Nat → Int64) (q97 : Nat → Int64) (x1 : Int32) (x2 : Int32) (t1 : Int32) (o : ((Int32) × (Nat → Int32) × (Nat → Int32) × (Nat → Int32) × (Nat → Int32) × (Nat → Int32) × (Nat → Int32) × (Nat → Int32) × (Nat → Int32) × (Nat → Int32) × (Nat → Int32) × (Nat → Int64) × (Nat → Int64))) (hf : jnX11_independent_34 F r73 r75 r87 q97 x1 x2 t1 r71 r72 r80 r81 r82 r83 r84 r85 r86 r88 q89 q90 = some o) (hq : (mj_u2 (fun ov => (mj_u2 (fun r71 => (mj_u2 (fun r72 => (mj_u2 (fun r80 => (mj_u2 (fun r81 => (mj_u2 (fun r82 => (mj_u2 (fun r83 => (mj_u2 (fun r84 => (mj_u2 (fun r85 => (mj_u2 (fun r86 => (mj_u2 (fun r88 => (mj_u2 (fun q89 q90 => Qn (some (.int ov)) (mj_rows I [(71, r71), (72, r72), (73, r73), (75, r75), (80, r80), (81, r81), (82, r82), (83, r83), (84, r84), (85, r85), (86, r86), (87, r87), (88, r88)]) (mj_rows L [(89, q89), (90, q90), (97, q97)]))))))))))))))))))))))))) o) : mj_W X G RX11 "independent" cX11_independent 5 8 (some .int) mj_P0 mj_S0 98 ad 0 0 34 [(0, .ref 71), (1, .int x1), (2, .int x2)] [.int t1, .ref 71] (mj_rows I [(71, r71), (72, r72), (73, r73), (75, r75), (80, r80), (81, r81), (82, r82), (83, r83), (84, r84), (85, r85), (86, r86), (87, r87), (88, r88)]) (mj_rows L [(89, q89), (90, q90), (97, q97)]) := by
  unfold jnX11_independent_34 at hf
  refine mj_iconst dX11_independent_34 kc_iconst_2 ?_
  refine mj_iconst dX11_independent_35 kc_iconst_0 ?_
  obtain ⟨o8, ho8, hf⟩ := mj_bd hf
  refine mj_callVd (I2 := (mj_rows I [(71, o8.2.1), (72, o8.2.2), (73, r73), (75, r75), (80, r80), (81, r81), (82, r82), (83, r83), (84, r84), (85, r85), (86, r86), (87, r87), (88, r88)])) (L2 := (mj_rows L [(89, q89), (90, q90), (97, q97)])) (s1 := [.int o8.1]) (st := []) [.int t1, .int (2 : Int32), .int (0 : Int32)] (cmX11_isFine X.2.1 G F t1 (2 : Int32) (0 : Int32) _ _ r71 r72 rfl rfl o8 ho8) (mj_rr rfl) rfl cw_X11_161 s0_71 a0_71 (by decide) rfl rfl (Nat.le_of_ble_eq_true rfl) ⟨Nat.zero_le _, Nat.zero_le _⟩ dX11_independent_36 rfl ?_
  refine mj_if_eq 49 dX11_independent_39 (by decide) (fun c9 => ?_) (fun c9 => ?_)
  · replace hf := mj_pos c9 hf
    refine mj_iconst dX11_independent_49 kc_iconst_0 ?_
    obtain rfl := Option.some.inj hf
    have hZ := hq
    replace hZ := mj_u2p hZ
    replace hZ := mj_u2p hZ
    replace hZ := mj_u2p hZ
    replace hZ := mj_u2p hZ
    replace hZ := mj_u2p hZ
    replace hZ := mj_u2p hZ
    replace hZ := mj_u2p hZ
    replace hZ := mj_u2p hZ
    replace hZ := mj_u2p hZ
    replace hZ := mj_u2p hZ
    replace hZ := mj_u2p hZ
    replace hZ := mj_u2p hZ
    exact mj_iret hR ⟨Nat.le_refl _, Nat.le_refl _⟩ rfl rfl dX11_independent_50 hZ
  · replace hf := mj_neg c9 hf
    refine mj_aload_n 0 dX11_independent_42 rfl ?_
    obtain ⟨o10, ho10, hf⟩ := mj_bd hf
    refine mj_callVd (I2 := (mj_rows I [(71, o10.2.1), (72, o10.2.2), (73, r73), (75, r75), (80, r80), (81, r81), (82, r82), (83, r83), (84, r84), (85, r85), (86, r86), (87, r87), (88, r88)])) (L2 := (mj_rows L [(89, q89), (90, q90), (97, q97)])) (s1 := [.int o10.1]) (st := []) [] (cmX11_hasEnd X.2.1 G F  _ _ o8.2.1 o8.2.2 r80 rfl rfl rfl o10 ho10) (mj_rr rfl) rfl cw_X11_361 s0_71 a0_71 (by decide) rfl rfl (Nat.le_of_ble_eq_true rfl) ⟨Nat.zero_le _, Nat.zero_le _⟩ dX11_independent_43 rfl ?_
    refine mj_if_ne 51 dX11_independent_46 (by decide) (fun c11 => ?_) (fun c11 => ?_)
    · replace hf := mj_neg c11 hf
      refine mj_aload_n 0 dX11_independent_51 rfl ?_
      obtain ⟨o12, ho12, hf⟩ := mj_bd hf
      refine mj_callVd (I2 := (mj_rows I [(71, o12.2.1), (72, o10.2.2), (73, r73), (75, r75), (80, r80), (81, r81), (82, r82), (83, r83), (84, r84), (85, r85), (86, r86), (87, r87), (88, o12.2.2.1)])) (L2 := (mj_rows L [(89, o12.2.2.2.1), (90, o12.2.2.2.2), (97, q97)])) (s1 := [.int o12.1]) (st := []) [] (cmX11_isSure X.2.1 G F  _ _ o10.2.1 r80 r83 r84 r85 r86 r88 q89 q90 q97 rfl rfl rfl rfl rfl rfl rfl rfl rfl rfl o12 ho12) (mj_rr rfl) (mj_rr rfl) cw_X11_364 s0_71 a0_71 (by decide) rfl rfl (Nat.le_of_ble_eq_true rfl) ⟨Nat.zero_le _, Nat.zero_le _⟩ dX11_independent_52 rfl ?_
      refine mj_if_ne 61 dX11_independent_55 (by decide) (fun c13 => ?_) (fun c13 => ?_)
      · replace hf := mj_neg c13 hf
        refine mj_iconst dX11_independent_61 kc_iconst_0 ?_
        refine mj_istore_n [(3, .int (0 : Int32)), (0, .ref 71), (1, .int x1), (2, .int x2)] dX11_independent_62 rfl (by decide) rfl ?_
        refine mj_sub [1, 2, 3, 0] [(0, .ref 71), (1, .int x1), (2, .int x2), (3, .int (0 : Int32))] rfl ?_
        obtain ⟨e14, ho14, hf⟩ := mj_bd hf
        refine lpX11_independent_63 hR F I L o12.2.1 o10.2.2 r73 r75 r80 r81 r82 r83 r84 r85 r86 r87 o12.2.2.1 o12.2.2.2.1 o12.2.2.2.2 q97 x1 x2 F (0 : Int32) e14 ho14 ?_
        rcases e14 with e14 | e14
        · replace hf := mj_ele hf
          refine mj_elq (?_)
          refine mj_iconst dX11_independent_124 kc_iconst_1 ?_
          obtain rfl := Option.some.inj hf
          have hZ := hq
          replace hZ := mj_u2p hZ
          replace hZ := mj_u2p hZ
          replace hZ := mj_u2p hZ
          replace hZ := mj_u2p hZ
          replace hZ := mj_u2p hZ
          replace hZ := mj_u2p hZ
          replace hZ := mj_u2p hZ
          replace hZ := mj_u2p hZ
          replace hZ := mj_u2p hZ
          replace hZ := mj_u2p hZ
          replace hZ := mj_u2p hZ
          replace hZ := mj_u2p hZ
          exact mj_iret hR ⟨Nat.le_refl _, Nat.le_refl _⟩ rfl rfl dX11_independent_125 hZ
        · replace hf := mj_ere hf
          refine mj_erq (?_)
          refine mj_iconst dX11_independent_110 kc_iconst_0 ?_
          obtain rfl := Option.some.inj hf
          have hZ := hq
          replace hZ := mj_u2p hZ
          replace hZ := mj_u2p hZ
          replace hZ := mj_u2p hZ
          replace hZ := mj_u2p hZ
          replace hZ := mj_u2p hZ
          replace hZ := mj_u2p hZ
          replace hZ := mj_u2p hZ
          replace hZ := mj_u2p hZ
          replace hZ := mj_u2p hZ
          replace hZ := mj_u2p hZ
          replace hZ := mj_u2p hZ
          replace hZ := mj_u2p hZ
          exact mj_iret hR ⟨Nat.le_refl _, Nat.le_refl _⟩ rfl rfl dX11_independent_111 hZ
      · replace hf := mj_pos c13 hf
        refine mj_bipush dX11_independent_58 kc_bipush_m3 ?_
        obtain rfl := Option.some.inj hf
        have hZ := hq
        replace hZ := mj_u2p hZ
        replace hZ := mj_u2p hZ
        replace hZ := mj_u2p hZ
        replace hZ := mj_u2p hZ
        replace hZ := mj_u2p hZ
        replace hZ := mj_u2p hZ
        replace hZ := mj_u2p hZ
        replace hZ := mj_u2p hZ
        replace hZ := mj_u2p hZ
        replace hZ := mj_u2p hZ
        replace hZ := mj_u2p hZ
        replace hZ := mj_u2p hZ
        exact mj_iret hR ⟨Nat.le_refl _, Nat.le_refl _⟩ rfl rfl dX11_independent_60 hZ
    · replace hf := mj_pos c11 hf
      refine mj_iconst dX11_independent_49 kc_iconst_0 ?_
      obtain rfl := Option.some.inj hf
      have hZ := hq
      replace hZ := mj_u2p hZ
      replace hZ := mj_u2p hZ
      replace hZ := mj_u2p hZ
      replace hZ := mj_u2p hZ
      replace hZ := mj_u2p hZ
      replace hZ := mj_u2p hZ
      replace hZ := mj_u2p hZ
      replace hZ := mj_u2p hZ
      replace hZ := mj_u2p hZ
      replace hZ := mj_u2p hZ
      replace hZ := mj_u2p hZ
      replace hZ := mj_u2p hZ
      exact mj_iret hR ⟨Nat.le_refl _, Nat.le_refl _⟩ rfl rfl dX11_independent_50 hZ
set_option maxRecDepth 100000 in
set_option maxHeartbeats 4000000 in
theorem jtX11_independent_33 {X : mj_XT} {l : Launch} {G : mj_GT} {ad : Nat → Nat} {Qn : Option Value → mj_IT → mj_LT → Prop} (hR : mj_R X l G mj_P0 mj_S0 98 ad 0 0 Qn) (F : Nat) (I : mj_IT) (L : mj_LT) (r71 : Nat → Int32) (r72 : Nat → Int32) (r73 : Nat → Int32) (r75 : Nat → Int32) (r80 : Nat → Int32) (r81 : Nat → Int32) (r82 : Nat → Int32) (r83 : Nat → Int32) (r84 : Nat → Int32) (r85 : Nat → Int32) (r86 : Nat → Int32) (r87 : Nat → Int32) (r88 : Nat → Int32) (q89 : Nat → Int64) (q90 : Nat → Int64) (q97 : Nat → Int64) (x1 : Int32) (x2 : Int32) (o : ((Int32) × (Nat → Int32) × (Nat → Int32) × (Nat → Int32) × (Nat → Int32) × (Nat → Int32) × (Nat → Int32) × (Nat → Int32) × (Nat → Int32) × (Nat → Int32) × (Nat → Int32) × (Nat → Int64) × (Nat → Int64))) (hf : jnX11_independent_33 F r73 r75 r87 q97 x1 x2 r71 r72 r80 r81 r82 r83 r84 r85 r86 r88 q89 q90 = some o) (hq : (mj_u2 (fun ov => (mj_u2 (fun r71 => (mj_u2 (fun r72 => (mj_u2 (fun r80 => (mj_u2 (fun r81 => (mj_u2 (fun r82 => (mj_u2 (fun r83 => (mj_u2 (fun r84 => (mj_u2 (fun r85 => (mj_u2 (fun r86 => (mj_u2 (fun r88 => (mj_u2 (fun q89 q90 => Qn (some (.int ov)) (mj_rows I [(71, r71), (72, r72), (73, r73), (75, r75), (80, r80), (81, r81), (82, r82), (83, r83), (84, r84), (85, r85), (86, r86), (87, r87), (88, r88)]) (mj_rows L [(89, q89), (90, q90), (97, q97)]))))))))))))))))))))))))) o) : mj_W X G RX11 "independent" cX11_independent 5 8 (some .int) mj_P0 mj_S0 98 ad 0 0 33 [(0, .ref 71), (1, .int x1), (2, .int x2)] [.ref 71] (mj_rows I [(71, r71), (72, r72), (73, r73), (75, r75), (80, r80), (81, r81), (82, r82), (83, r83), (84, r84), (85, r85), (86, r86), (87, r87), (88, r88)]) (mj_rows L [(89, q89), (90, q90), (97, q97)]) := by
  unfold jnX11_independent_33 at hf
  refine mj_iconst dX11_independent_33 kc_iconst_0 ?_
  exact jtX11_independent_34 hR F I L r71 r72 r73 r75 r80 r81 r82 r83 r84 r85 r86 r87 r88 q89 q90 q97 x1 x2 (0 : Int32) o hf hq
set_option maxRecDepth 100000 in
set_option maxHeartbeats 4000000 in
theorem mtX11_independent {X : mj_XT} {l : Launch} {G : mj_GT} {ad : Nat → Nat} {Qn : Option Value → mj_IT → mj_LT → Prop} (hR : mj_R X l G mj_P0 mj_S0 98 ad 0 0 Qn) (F : Nat) (I : mj_IT) (L : mj_LT) (r71 : Nat → Int32) (r72 : Nat → Int32) (r73 : Nat → Int32) (r75 : Nat → Int32) (r80 : Nat → Int32) (r81 : Nat → Int32) (r82 : Nat → Int32) (r83 : Nat → Int32) (r84 : Nat → Int32) (r85 : Nat → Int32) (r86 : Nat → Int32) (r87 : Nat → Int32) (r88 : Nat → Int32) (q89 : Nat → Int64) (q90 : Nat → Int64) (q97 : Nat → Int64) (x1 : Int32) (x2 : Int32) (o : ((Int32) × (Nat → Int32) × (Nat → Int32) × (Nat → Int32) × (Nat → Int32) × (Nat → Int32) × (Nat → Int32) × (Nat → Int32) × (Nat → Int32) × (Nat → Int32) × (Nat → Int32) × (Nat → Int64) × (Nat → Int64))) (hf : fnX11_independent F r71 r72 r73 r75 r80 r81 r82 r83 r84 r85 r86 r87 r88 q89 q90 q97 x1 x2 = some o) (hq : (mj_u2 (fun ov => (mj_u2 (fun r71 => (mj_u2 (fun r72 => (mj_u2 (fun r80 => (mj_u2 (fun r81 => (mj_u2 (fun r82 => (mj_u2 (fun r83 => (mj_u2 (fun r84 => (mj_u2 (fun r85 => (mj_u2 (fun r86 => (mj_u2 (fun r88 => (mj_u2 (fun q89 q90 => Qn (some (.int ov)) (mj_rows I [(71, r71), (72, r72), (73, r73), (75, r75), (80, r80), (81, r81), (82, r82), (83, r83), (84, r84), (85, r85), (86, r86), (87, r87), (88, r88)]) (mj_rows L [(89, q89), (90, q90), (97, q97)]))))))))))))))))))))))))) o) : mj_W X G RX11 "independent" cX11_independent 5 8 (some .int) mj_P0 mj_S0 98 ad 0 0 0 [(0, .ref 71), (1, .int x1), (2, .int x2)] [] (mj_rows I [(71, r71), (72, r72), (73, r73), (75, r75), (80, r80), (81, r81), (82, r82), (83, r83), (84, r84), (85, r85), (86, r86), (87, r87), (88, r88)]) (mj_rows L [(89, q89), (90, q90), (97, q97)]) := by
  unfold fnX11_independent at hf
  refine mj_aload_n 0 dX11_independent_0 rfl ?_
  refine mj_iconst dX11_independent_1 kc_iconst_0 ?_
  refine mj_putIr (ci := 9) (j := 0) [(71, (upd r71 0 (0 : Int32))), (72, r72), (73, r73), (75, r75), (80, r80), (81, r81), (82, r82), (83, r83), (84, r84), (85, r85), (86, r86), (87, r87), (88, r88)] rfl ⟨rfl, rfl⟩ fl_X11_1 rfl rfl s0_71 a0_71 dX11_independent_2 ?_
  refine mj_aload_n 0 dX11_independent_5 rfl ?_
  obtain ⟨o15, ho15, hf⟩ := mj_bd hf
  refine mj_callVd (I2 := (mj_rows I [(71, o15.2.1), (72, o15.2.2.1), (73, r73), (75, r75), (80, o15.2.2.2.1), (81, o15.2.2.2.2.1), (82, o15.2.2.2.2.2.1), (83, o15.2.2.2.2.2.2.1), (84, o15.2.2.2.2.2.2.2.1), (85, o15.2.2.2.2.2.2.2.2.1), (86, o15.2.2.2.2.2.2.2.2.2), (87, r87), (88, r88)])) (L2 := (mj_rows L [(89, q89), (90, q90), (97, q97)])) (s1 := [.int o15.1]) (st := []) [] (cmX11_isFew X.2.1 G F  _ _ (upd r71 0 (0 : Int32)) r72 r73 r75 r80 r81 r82 r83 r84 r85 r86 r87 rfl rfl rfl rfl rfl rfl rfl rfl rfl rfl rfl rfl o15 ho15) (mj_rr rfl) rfl cw_X11_335 s0_71 a0_71 (by decide) rfl rfl (Nat.le_of_ble_eq_true rfl) ⟨Nat.zero_le _, Nat.zero_le _⟩ dX11_independent_6 rfl ?_
  refine mj_if_eq 49 dX11_independent_9 (by decide) (fun c16 => ?_) (fun c16 => ?_)
  · replace hf := mj_pos c16 hf
    refine mj_iconst dX11_independent_49 kc_iconst_0 ?_
    obtain rfl := Option.some.inj hf
    have hZ := hq
    replace hZ := mj_u2p hZ
    replace hZ := mj_u2p hZ
    replace hZ := mj_u2p hZ
    replace hZ := mj_u2p hZ
    replace hZ := mj_u2p hZ
    replace hZ := mj_u2p hZ
    replace hZ := mj_u2p hZ
    replace hZ := mj_u2p hZ
    replace hZ := mj_u2p hZ
    replace hZ := mj_u2p hZ
    replace hZ := mj_u2p hZ
    replace hZ := mj_u2p hZ
    exact mj_iret hR ⟨Nat.le_refl _, Nat.le_refl _⟩ rfl rfl dX11_independent_50 hZ
  · replace hf := mj_neg c16 hf
    refine mj_aload_n 0 dX11_independent_12 rfl ?_
    refine mj_aload_n 0 dX11_independent_13 rfl ?_
    refine mj_iload_n 1 dX11_independent_14 rfl ?_
    obtain ⟨o17, ho17, hf⟩ := mj_bd hf
    refine mj_callVd (I2 := (mj_rows I [(71, o15.2.1), (72, o15.2.2.1), (73, r73), (75, r75), (80, o15.2.2.2.1), (81, o15.2.2.2.2.1), (82, o15.2.2.2.2.2.1), (83, o15.2.2.2.2.2.2.1), (84, o15.2.2.2.2.2.2.2.1), (85, o15.2.2.2.2.2.2.2.2.1), (86, o15.2.2.2.2.2.2.2.2.2), (87, r87), (88, r88)])) (L2 := (mj_rows L [(89, q89), (90, q90), (97, q97)])) (s1 := [.int o17, .ref 71]) (st := [.ref 71]) [.int x1] (cmX11_isName X.2.1 G F x1 _ _   o17 ho17) rfl rfl cw_X11_195 s0_71 a0_71 (by decide) rfl rfl (Nat.le_of_ble_eq_true rfl) ⟨Nat.zero_le _, Nat.zero_le _⟩ dX11_independent_15 rfl ?_
    refine mj_if_eq 33 dX11_independent_18 (by decide) (fun c18 => ?_) (fun c18 => ?_)
    · replace hf := mj_pos c18 hf
      exact jtX11_independent_33 hR F I L o15.2.1 o15.2.2.1 r73 r75 o15.2.2.2.1 o15.2.2.2.2.1 o15.2.2.2.2.2.1 o15.2.2.2.2.2.2.1 o15.2.2.2.2.2.2.2.1 o15.2.2.2.2.2.2.2.2.1 o15.2.2.2.2.2.2.2.2.2 r87 r88 q89 q90 q97 x1 x2 o hf hq
    · replace hf := mj_neg c18 hf
      refine mj_aload_n 0 dX11_independent_21 rfl ?_
      refine mj_iload_n 2 dX11_independent_22 rfl ?_
      obtain ⟨o19, ho19, hf⟩ := mj_bd hf
      refine mj_callVd (I2 := (mj_rows I [(71, o15.2.1), (72, o15.2.2.1), (73, r73), (75, r75), (80, o15.2.2.2.1), (81, o15.2.2.2.2.1), (82, o15.2.2.2.2.2.1), (83, o15.2.2.2.2.2.2.1), (84, o15.2.2.2.2.2.2.2.1), (85, o15.2.2.2.2.2.2.2.2.1), (86, o15.2.2.2.2.2.2.2.2.2), (87, r87), (88, r88)])) (L2 := (mj_rows L [(89, q89), (90, q90), (97, q97)])) (s1 := [.int o19, .ref 71]) (st := [.ref 71]) [.int x2] (cmX11_isName X.2.1 G F x2 _ _   o19 ho19) rfl rfl cw_X11_195 s0_71 a0_71 (by decide) rfl rfl (Nat.le_of_ble_eq_true rfl) ⟨Nat.zero_le _, Nat.zero_le _⟩ dX11_independent_23 rfl ?_
      refine mj_if_eq 33 dX11_independent_26 (by decide) (fun c20 => ?_) (fun c20 => ?_)
      · replace hf := mj_pos c20 hf
        exact jtX11_independent_33 hR F I L o15.2.1 o15.2.2.1 r73 r75 o15.2.2.2.1 o15.2.2.2.2.1 o15.2.2.2.2.2.1 o15.2.2.2.2.2.2.1 o15.2.2.2.2.2.2.2.1 o15.2.2.2.2.2.2.2.2.1 o15.2.2.2.2.2.2.2.2.2 r87 r88 q89 q90 q97 x1 x2 o hf hq
      · replace hf := mj_neg c20 hf
        refine mj_iconst dX11_independent_29 kc_iconst_1 ?_
        refine mj_goto 34 dX11_independent_30 (by decide) ?_
        exact jtX11_independent_34 hR F I L o15.2.1 o15.2.2.1 r73 r75 o15.2.2.2.1 o15.2.2.2.2.1 o15.2.2.2.2.2.1 o15.2.2.2.2.2.2.1 o15.2.2.2.2.2.2.2.1 o15.2.2.2.2.2.2.2.2.1 o15.2.2.2.2.2.2.2.2.2 r87 r88 q89 q90 q97 x1 x2 (1 : Int32) o hf hq
set_option maxRecDepth 100000 in
set_option maxHeartbeats 4000000 in
theorem cmX11_independent (l : Launch) (G : mj_GT) (F : Nat) (x1 : Int32) (x2 : Int32) (I : mj_IT) (L : mj_LT) (r71 : Nat → Int32) (r72 : Nat → Int32) (r73 : Nat → Int32) (r75 : Nat → Int32) (r80 : Nat → Int32) (r81 : Nat → Int32) (r82 : Nat → Int32) (r83 : Nat → Int32) (r84 : Nat → Int32) (r85 : Nat → Int32) (r86 : Nat → Int32) (r87 : Nat → Int32) (r88 : Nat → Int32) (q89 : Nat → Int64) (q90 : Nat → Int64) (q97 : Nat → Int64) (hr71 : I 71 = r71) (hr72 : I 72 = r72) (hr73 : I 73 = r73) (hr75 : I 75 = r75) (hr80 : I 80 = r80) (hr81 : I 81 = r81) (hr82 : I 82 = r82) (hr83 : I 83 = r83) (hr84 : I 84 = r84) (hr85 : I 85 = r85) (hr86 : I 86 = r86) (hr87 : I 87 = r87) (hr88 : I 88 = r88) (hq89 : L 89 = q89) (hq90 : L 90 = q90) (hq97 : L 97 = q97) (o : ((Int32) × (Nat → Int32) × (Nat → Int32) × (Nat → Int32) × (Nat → Int32) × (Nat → Int32) × (Nat → Int32) × (Nat → Int32) × (Nat → Int32) × (Nat → Int32) × (Nat → Int32) × (Nat → Int64) × (Nat → Int64))) (hf : fnX11_independent F r71 r72 r73 r75 r80 r81 r82 r83 r84 r85 r86 r87 r88 q89 q90 q97 x1 x2 = some o) : mj_M l G yX11_independent cX11_independent 5 8 (some .int) 0 0 mj_P0 mj_S0 98 [.ref 71, .int x1, .int x2] I L (mj_qd (some (.int o.1)) (mj_rows I [(71, o.2.1), (72, o.2.2.1), (73, r73), (75, r75), (80, o.2.2.2.1), (81, o.2.2.2.2.1), (82, o.2.2.2.2.2.1), (83, o.2.2.2.2.2.2.1), (84, o.2.2.2.2.2.2.2.1), (85, o.2.2.2.2.2.2.2.2.1), (86, o.2.2.2.2.2.2.2.2.2.1), (87, r87), (88, o.2.2.2.2.2.2.2.2.2.2.1)]) (mj_rows L [(89, o.2.2.2.2.2.2.2.2.2.2.2.1), (90, o.2.2.2.2.2.2.2.2.2.2.2.2), (97, q97)])) := by
  refine mj_in RX11 "independent" [(0, .ref 71), (1, .int x1), (2, .int x2)] rfl rfl rfl (by decide) (Nat.le_of_ble_eq_true rfl) (fun X ad hR => ?_)
  refine mj_toI [(71, r71), (72, r72), (73, r73), (75, r75), (80, r80), (81, r81), (82, r82), (83, r83), (84, r84), (85, r85), (86, r86), (87, r87), (88, r88)] (by intro q hq; simp only [List.mem_cons, List.not_mem_nil, or_false] at hq; rcases hq with rfl | rfl | rfl | rfl | rfl | rfl | rfl | rfl | rfl | rfl | rfl | rfl | rfl <;> assumption) ?_
  refine mj_toL [(89, q89), (90, q90), (97, q97)] (by intro q hq; simp only [List.mem_cons, List.not_mem_nil, or_false] at hq; rcases hq with rfl | rfl | rfl <;> assumption) ?_
  refine mtX11_independent hR F I L r71 r72 r73 r75 r80 r81 r82 r83 r84 r85 r86 r87 r88 q89 q90 q97 x1 x2 o hf ?_
  obtain ⟨w0, w1, w2, w3, w4, w5, w6, w7, w8, w9, w10, w11, w12⟩ := o
  refine mj_u2q ?_
  refine mj_u2q ?_
  refine mj_u2q ?_
  refine mj_u2q ?_
  refine mj_u2q ?_
  refine mj_u2q ?_
  refine mj_u2q ?_
  refine mj_u2q ?_
  refine mj_u2q ?_
  refine mj_u2q ?_
  refine mj_u2q ?_
  refine mj_u2q ?_
  exact ⟨rfl, rfl, rfl⟩

-- X11_visits
def fnX11_visits (F : Nat) (r71 : Nat → Int32) (r72 : Nat → Int32) (r73 : Nat → Int32) (r75 : Nat → Int32) (r80 : Nat → Int32) (r81 : Nat → Int32) (r82 : Nat → Int32) (r83 : Nat → Int32) (r84 : Nat → Int32) (r85 : Nat → Int32) (r86 : Nat → Int32) (r87 : Nat → Int32) (r88 : Nat → Int32) (q89 : Nat → Int64) (q90 : Nat → Int64) (q97 : Nat → Int64) (x1 : Int32) (x2 : Int32) : Option ((Int32) × (Nat → Int32) × (Nat → Int32) × (Nat → Int32) × (Nat → Int32) × (Nat → Int32) × (Nat → Int32) × (Nat → Int32) × (Nat → Int32) × (Nat → Int32) × (Nat → Int32) × (Nat → Int64) × (Nat → Int64)) := (fnX11_isFew F (upd r71 0 (0 : Int32)) r72 r73 r75 r80 r81 r82 r83 r84 r85 r86 r87).bind (fun o1 => (if o1.1 = 0 then some ((0 : Int32), o1.2.1, o1.2.2.1, o1.2.2.2.1, o1.2.2.2.2.1, o1.2.2.2.2.2.1, o1.2.2.2.2.2.2.1, o1.2.2.2.2.2.2.2.1, o1.2.2.2.2.2.2.2.2.1, o1.2.2.2.2.2.2.2.2.2, r88, q89, q90) else (fnX11_isState F o1.2.1 x1).bind (fun o3 => (fnX11_isFine F o1.2.1 o1.2.2.1 o3 (2 : Int32) (0 : Int32)).bind (fun o4 => (if o4.1 = 0 then some ((0 : Int32), o4.2.1, o4.2.2, o1.2.2.2.1, o1.2.2.2.2.1, o1.2.2.2.2.2.1, o1.2.2.2.2.2.2.1, o1.2.2.2.2.2.2.2.1, o1.2.2.2.2.2.2.2.2.1, o1.2.2.2.2.2.2.2.2.2, r88, q89, q90) else (fnX11_isForm F x2).bind (fun o6 => (fnX11_isFine F o4.2.1 o4.2.2 o6 (3 : Int32) (1 : Int32)).bind (fun o7 => (if o7.1 = 0 then some ((0 : Int32), o7.2.1, o7.2.2, o1.2.2.2.1, o1.2.2.2.2.1, o1.2.2.2.2.2.1, o1.2.2.2.2.2.2.1, o1.2.2.2.2.2.2.2.1, o1.2.2.2.2.2.2.2.2.1, o1.2.2.2.2.2.2.2.2.2, r88, q89, q90) else (if mj_ib x1 200 = true then (if (o1.2.2.2.2.2.2.2.2.2 x1.toNatClampNeg) = 0 then some ((-2 : Int32), o7.2.1, o7.2.2, o1.2.2.2.1, o1.2.2.2.2.1, o1.2.2.2.2.2.1, o1.2.2.2.2.2.2.1, o1.2.2.2.2.2.2.2.1, o1.2.2.2.2.2.2.2.2.1, o1.2.2.2.2.2.2.2.2.2, r88, q89, q90) else (fnX11_solves F o7.2.1 o1.2.2.2.2.2.2.1 o1.2.2.2.2.2.2.2.1 o1.2.2.2.2.2.2.2.2.1 o1.2.2.2.2.2.2.2.2.2 r88 q89 q90 q97).bind (fun o11 => (if o11.1 = 0 then some ((-3 : Int32), o11.2.1, o7.2.2, o1.2.2.2.1, o1.2.2.2.2.1, o1.2.2.2.2.2.1, o1.2.2.2.2.2.2.1, o1.2.2.2.2.2.2.2.1, o1.2.2.2.2.2.2.2.2.1, o1.2.2.2.2.2.2.2.2.2, o11.2.2.1, o11.2.2.2.1, o11.2.2.2.2) else (if mj_ib x1 200 = true then (fnX11_formed F (o11.2.2.2.2 x1.toNatClampNeg) x2).bind (fun o14 => some (o14, o11.2.1, o7.2.2, o1.2.2.2.1, o1.2.2.2.2.1, o1.2.2.2.2.2.1, o1.2.2.2.2.2.2.1, o1.2.2.2.2.2.2.2.1, o1.2.2.2.2.2.2.2.2.1, o1.2.2.2.2.2.2.2.2.2, o11.2.2.1, o11.2.2.2.1, o11.2.2.2.2)) else none)))) else none)))))))))
set_option maxRecDepth 100000 in
set_option maxHeartbeats 4000000 in
theorem mtX11_visits {X : mj_XT} {l : Launch} {G : mj_GT} {ad : Nat → Nat} {Qn : Option Value → mj_IT → mj_LT → Prop} (hR : mj_R X l G mj_P0 mj_S0 98 ad 0 0 Qn) (F : Nat) (I : mj_IT) (L : mj_LT) (r71 : Nat → Int32) (r72 : Nat → Int32) (r73 : Nat → Int32) (r75 : Nat → Int32) (r80 : Nat → Int32) (r81 : Nat → Int32) (r82 : Nat → Int32) (r83 : Nat → Int32) (r84 : Nat → Int32) (r85 : Nat → Int32) (r86 : Nat → Int32) (r87 : Nat → Int32) (r88 : Nat → Int32) (q89 : Nat → Int64) (q90 : Nat → Int64) (q97 : Nat → Int64) (x1 : Int32) (x2 : Int32) (o : ((Int32) × (Nat → Int32) × (Nat → Int32) × (Nat → Int32) × (Nat → Int32) × (Nat → Int32) × (Nat → Int32) × (Nat → Int32) × (Nat → Int32) × (Nat → Int32) × (Nat → Int32) × (Nat → Int64) × (Nat → Int64))) (hf : fnX11_visits F r71 r72 r73 r75 r80 r81 r82 r83 r84 r85 r86 r87 r88 q89 q90 q97 x1 x2 = some o) (hq : (mj_u2 (fun ov => (mj_u2 (fun r71 => (mj_u2 (fun r72 => (mj_u2 (fun r80 => (mj_u2 (fun r81 => (mj_u2 (fun r82 => (mj_u2 (fun r83 => (mj_u2 (fun r84 => (mj_u2 (fun r85 => (mj_u2 (fun r86 => (mj_u2 (fun r88 => (mj_u2 (fun q89 q90 => Qn (some (.int ov)) (mj_rows I [(71, r71), (72, r72), (73, r73), (75, r75), (80, r80), (81, r81), (82, r82), (83, r83), (84, r84), (85, r85), (86, r86), (87, r87), (88, r88)]) (mj_rows L [(89, q89), (90, q90), (97, q97)]))))))))))))))))))))))))) o) : mj_W X G RX11 "visits" cX11_visits 3 8 (some .int) mj_P0 mj_S0 98 ad 0 0 0 [(0, .ref 71), (1, .int x1), (2, .int x2)] [] (mj_rows I [(71, r71), (72, r72), (73, r73), (75, r75), (80, r80), (81, r81), (82, r82), (83, r83), (84, r84), (85, r85), (86, r86), (87, r87), (88, r88)]) (mj_rows L [(89, q89), (90, q90), (97, q97)]) := by
  unfold fnX11_visits at hf
  refine mj_aload_n 0 dX11_visits_0 rfl ?_
  refine mj_iconst dX11_visits_1 kc_iconst_0 ?_
  refine mj_putIr (ci := 9) (j := 0) [(71, (upd r71 0 (0 : Int32))), (72, r72), (73, r73), (75, r75), (80, r80), (81, r81), (82, r82), (83, r83), (84, r84), (85, r85), (86, r86), (87, r87), (88, r88)] rfl ⟨rfl, rfl⟩ fl_X11_1 rfl rfl s0_71 a0_71 dX11_visits_2 ?_
  refine mj_aload_n 0 dX11_visits_5 rfl ?_
  obtain ⟨o1, ho1, hf⟩ := mj_bd hf
  refine mj_callVd (I2 := (mj_rows I [(71, o1.2.1), (72, o1.2.2.1), (73, r73), (75, r75), (80, o1.2.2.2.1), (81, o1.2.2.2.2.1), (82, o1.2.2.2.2.2.1), (83, o1.2.2.2.2.2.2.1), (84, o1.2.2.2.2.2.2.2.1), (85, o1.2.2.2.2.2.2.2.2.1), (86, o1.2.2.2.2.2.2.2.2.2), (87, r87), (88, r88)])) (L2 := (mj_rows L [(89, q89), (90, q90), (97, q97)])) (s1 := [.int o1.1]) (st := []) [] (cmX11_isFew X.2.1 G F  _ _ (upd r71 0 (0 : Int32)) r72 r73 r75 r80 r81 r82 r83 r84 r85 r86 r87 rfl rfl rfl rfl rfl rfl rfl rfl rfl rfl rfl rfl o1 ho1) (mj_rr rfl) rfl cw_X11_335 s0_71 a0_71 (by decide) rfl rfl (Nat.le_of_ble_eq_true rfl) ⟨Nat.zero_le _, Nat.zero_le _⟩ dX11_visits_6 rfl ?_
  refine mj_if_eq 40 dX11_visits_9 (by decide) (fun c2 => ?_) (fun c2 => ?_)
  · replace hf := mj_pos c2 hf
    refine mj_iconst dX11_visits_40 kc_iconst_0 ?_
    obtain rfl := Option.some.inj hf
    have hZ := hq
    replace hZ := mj_u2p hZ
    replace hZ := mj_u2p hZ
    replace hZ := mj_u2p hZ
    replace hZ := mj_u2p hZ
    replace hZ := mj_u2p hZ
    replace hZ := mj_u2p hZ
    replace hZ := mj_u2p hZ
    replace hZ := mj_u2p hZ
    replace hZ := mj_u2p hZ
    replace hZ := mj_u2p hZ
    replace hZ := mj_u2p hZ
    replace hZ := mj_u2p hZ
    exact mj_iret hR ⟨Nat.le_refl _, Nat.le_refl _⟩ rfl rfl dX11_visits_41 hZ
  · replace hf := mj_neg c2 hf
    refine mj_aload_n 0 dX11_visits_12 rfl ?_
    refine mj_aload_n 0 dX11_visits_13 rfl ?_
    refine mj_iload_n 1 dX11_visits_14 rfl ?_
    obtain ⟨o3, ho3, hf⟩ := mj_bd hf
    refine mj_callVd (I2 := (mj_rows I [(71, o1.2.1), (72, o1.2.2.1), (73, r73), (75, r75), (80, o1.2.2.2.1), (81, o1.2.2.2.2.1), (82, o1.2.2.2.2.2.1), (83, o1.2.2.2.2.2.2.1), (84, o1.2.2.2.2.2.2.2.1), (85, o1.2.2.2.2.2.2.2.2.1), (86, o1.2.2.2.2.2.2.2.2.2), (87, r87), (88, r88)])) (L2 := (mj_rows L [(89, q89), (90, q90), (97, q97)])) (s1 := [.int o3, .ref 71]) (st := [.ref 71]) [.int x1] (cmX11_isState X.2.1 G F x1 _ _ o1.2.1 rfl o3 ho3) (mj_rr rfl) rfl cw_X11_338 s0_71 a0_71 (by decide) rfl rfl (Nat.le_of_ble_eq_true rfl) ⟨Nat.zero_le _, Nat.zero_le _⟩ dX11_visits_15 rfl ?_
    refine mj_iconst dX11_visits_18 kc_iconst_2 ?_
    refine mj_iconst dX11_visits_19 kc_iconst_0 ?_
    obtain ⟨o4, ho4, hf⟩ := mj_bd hf
    refine mj_callVd (I2 := (mj_rows I [(71, o4.2.1), (72, o4.2.2), (73, r73), (75, r75), (80, o1.2.2.2.1), (81, o1.2.2.2.2.1), (82, o1.2.2.2.2.2.1), (83, o1.2.2.2.2.2.2.1), (84, o1.2.2.2.2.2.2.2.1), (85, o1.2.2.2.2.2.2.2.2.1), (86, o1.2.2.2.2.2.2.2.2.2), (87, r87), (88, r88)])) (L2 := (mj_rows L [(89, q89), (90, q90), (97, q97)])) (s1 := [.int o4.1]) (st := []) [.int o3, .int (2 : Int32), .int (0 : Int32)] (cmX11_isFine X.2.1 G F o3 (2 : Int32) (0 : Int32) _ _ o1.2.1 o1.2.2.1 rfl rfl o4 ho4) (mj_rr rfl) rfl cw_X11_161 s0_71 a0_71 (by decide) rfl rfl (Nat.le_of_ble_eq_true rfl) ⟨Nat.zero_le _, Nat.zero_le _⟩ dX11_visits_20 rfl ?_
    refine mj_if_eq 40 dX11_visits_23 (by decide) (fun c5 => ?_) (fun c5 => ?_)
    · replace hf := mj_pos c5 hf
      refine mj_iconst dX11_visits_40 kc_iconst_0 ?_
      obtain rfl := Option.some.inj hf
      have hZ := hq
      replace hZ := mj_u2p hZ
      replace hZ := mj_u2p hZ
      replace hZ := mj_u2p hZ
      replace hZ := mj_u2p hZ
      replace hZ := mj_u2p hZ
      replace hZ := mj_u2p hZ
      replace hZ := mj_u2p hZ
      replace hZ := mj_u2p hZ
      replace hZ := mj_u2p hZ
      replace hZ := mj_u2p hZ
      replace hZ := mj_u2p hZ
      replace hZ := mj_u2p hZ
      exact mj_iret hR ⟨Nat.le_refl _, Nat.le_refl _⟩ rfl rfl dX11_visits_41 hZ
    · replace hf := mj_neg c5 hf
      refine mj_aload_n 0 dX11_visits_26 rfl ?_
      refine mj_aload_n 0 dX11_visits_27 rfl ?_
      refine mj_iload_n 2 dX11_visits_28 rfl ?_
      obtain ⟨o6, ho6, hf⟩ := mj_bd hf
      refine mj_callVd (I2 := (mj_rows I [(71, o4.2.1), (72, o4.2.2), (73, r73), (75, r75), (80, o1.2.2.2.1), (81, o1.2.2.2.2.1), (82, o1.2.2.2.2.2.1), (83, o1.2.2.2.2.2.2.1), (84, o1.2.2.2.2.2.2.2.1), (85, o1.2.2.2.2.2.2.2.2.1), (86, o1.2.2.2.2.2.2.2.2.2), (87, r87), (88, r88)])) (L2 := (mj_rows L [(89, q89), (90, q90), (97, q97)])) (s1 := [.int o6, .ref 71]) (st := [.ref 71]) [.int x2] (cmX11_isForm X.2.1 G F x2 _ _   o6 ho6) rfl rfl cw_X11_341 s0_71 a0_71 (by decide) rfl rfl (Nat.le_of_ble_eq_true rfl) ⟨Nat.zero_le _, Nat.zero_le _⟩ dX11_visits_29 rfl ?_
      refine mj_iconst dX11_visits_32 kc_iconst_3 ?_
      refine mj_iconst dX11_visits_33 kc_iconst_1 ?_
      obtain ⟨o7, ho7, hf⟩ := mj_bd hf
      refine mj_callVd (I2 := (mj_rows I [(71, o7.2.1), (72, o7.2.2), (73, r73), (75, r75), (80, o1.2.2.2.1), (81, o1.2.2.2.2.1), (82, o1.2.2.2.2.2.1), (83, o1.2.2.2.2.2.2.1), (84, o1.2.2.2.2.2.2.2.1), (85, o1.2.2.2.2.2.2.2.2.1), (86, o1.2.2.2.2.2.2.2.2.2), (87, r87), (88, r88)])) (L2 := (mj_rows L [(89, q89), (90, q90), (97, q97)])) (s1 := [.int o7.1]) (st := []) [.int o6, .int (3 : Int32), .int (1 : Int32)] (cmX11_isFine X.2.1 G F o6 (3 : Int32) (1 : Int32) _ _ o4.2.1 o4.2.2 rfl rfl o7 ho7) (mj_rr rfl) rfl cw_X11_161 s0_71 a0_71 (by decide) rfl rfl (Nat.le_of_ble_eq_true rfl) ⟨Nat.zero_le _, Nat.zero_le _⟩ dX11_visits_34 rfl ?_
      refine mj_if_ne 42 dX11_visits_37 (by decide) (fun c8 => ?_) (fun c8 => ?_)
      · replace hf := mj_neg c8 hf
        refine mj_aload_n 0 dX11_visits_42 rfl ?_
        refine mj_getP p0_71_33 (by decide) fl_X11_275 rfl s0_71 a0_71 dX11_visits_43 ?_
        refine mj_iload_n 1 dX11_visits_46 rfl ?_
        obtain ⟨z9, hf⟩ := mj_ck hf
        refine mj_zaldv (x := o1.2.2.2.2.2.2.2.2.2) rfl s0_86 a0_86 z9 dX11_visits_47 ?_
        refine mj_if_ne 54 dX11_visits_48 (by decide) (fun c10 => ?_) (fun c10 => ?_)
        · replace hf := mj_neg c10 hf
          refine mj_aload_n 0 dX11_visits_54 rfl ?_
          obtain ⟨o11, ho11, hf⟩ := mj_bd hf
          refine mj_callVd (I2 := (mj_rows I [(71, o11.2.1), (72, o7.2.2), (73, r73), (75, r75), (80, o1.2.2.2.1), (81, o1.2.2.2.2.1), (82, o1.2.2.2.2.2.1), (83, o1.2.2.2.2.2.2.1), (84, o1.2.2.2.2.2.2.2.1), (85, o1.2.2.2.2.2.2.2.2.1), (86, o1.2.2.2.2.2.2.2.2.2), (87, r87), (88, o11.2.2.1)])) (L2 := (mj_rows L [(89, o11.2.2.2.1), (90, o11.2.2.2.2), (97, q97)])) (s1 := [.int o11.1]) (st := []) [] (cmX11_solves X.2.1 G F  _ _ o7.2.1 o1.2.2.2.2.2.2.1 o1.2.2.2.2.2.2.2.1 o1.2.2.2.2.2.2.2.2.1 o1.2.2.2.2.2.2.2.2.2 r88 q89 q90 q97 rfl rfl rfl rfl rfl rfl rfl rfl rfl o11 ho11) (mj_rr rfl) (mj_rr rfl) cw_X11_344 s0_71 a0_71 (by decide) rfl rfl (Nat.le_of_ble_eq_true rfl) ⟨Nat.zero_le _, Nat.zero_le _⟩ dX11_visits_55 rfl ?_
          refine mj_if_eq 74 dX11_visits_58 (by decide) (fun c12 => ?_) (fun c12 => ?_)
          · replace hf := mj_pos c12 hf
            refine mj_bipush dX11_visits_74 kc_bipush_m3 ?_
            obtain rfl := Option.some.inj hf
            have hZ := hq
            replace hZ := mj_u2p hZ
            replace hZ := mj_u2p hZ
            replace hZ := mj_u2p hZ
            replace hZ := mj_u2p hZ
            replace hZ := mj_u2p hZ
            replace hZ := mj_u2p hZ
            replace hZ := mj_u2p hZ
            replace hZ := mj_u2p hZ
            replace hZ := mj_u2p hZ
            replace hZ := mj_u2p hZ
            replace hZ := mj_u2p hZ
            replace hZ := mj_u2p hZ
            exact mj_iret hR ⟨Nat.le_refl _, Nat.le_refl _⟩ rfl rfl dX11_visits_76 hZ
          · replace hf := mj_neg c12 hf
            refine mj_aload_n 0 dX11_visits_61 rfl ?_
            refine mj_getP p0_71_37 (by decide) fl_X11_316 rfl s0_71 a0_71 dX11_visits_62 ?_
            refine mj_iload_n 1 dX11_visits_65 rfl ?_
            obtain ⟨z13, hf⟩ := mj_ck hf
            refine mj_laldv (x := o11.2.2.2.2) rfl s0_90 a0_90 z13 dX11_visits_66 ?_
            refine mj_iload_n 2 dX11_visits_67 rfl ?_
            obtain ⟨o14, ho14, hf⟩ := mj_bd hf
            refine mj_callSd (I2 := (mj_rows I [(71, o11.2.1), (72, o7.2.2), (73, r73), (75, r75), (80, o1.2.2.2.1), (81, o1.2.2.2.2.1), (82, o1.2.2.2.2.2.1), (83, o1.2.2.2.2.2.2.1), (84, o1.2.2.2.2.2.2.2.1), (85, o1.2.2.2.2.2.2.2.2.1), (86, o1.2.2.2.2.2.2.2.2.2), (87, r87), (88, o11.2.2.1)])) (L2 := (mj_rows L [(89, o11.2.2.2.1), (90, o11.2.2.2.2), (97, q97)])) (s1 := [.int o14]) (st := []) [.long (o11.2.2.2.2 x1.toNatClampNeg), .int x2] (cmX11_formed X.2.1 G F (o11.2.2.2.2 x1.toNatClampNeg) x2 _ _   o14 ho14) rfl rfl cw_X11_353 (by decide) rfl rfl (Nat.le_of_ble_eq_true rfl) ⟨Nat.zero_le _, Nat.zero_le _⟩ dX11_visits_68 rfl ?_
            refine mj_goto 76 dX11_visits_71 (by decide) ?_
            obtain rfl := Option.some.inj hf
            have hZ := hq
            replace hZ := mj_u2p hZ
            replace hZ := mj_u2p hZ
            replace hZ := mj_u2p hZ
            replace hZ := mj_u2p hZ
            replace hZ := mj_u2p hZ
            replace hZ := mj_u2p hZ
            replace hZ := mj_u2p hZ
            replace hZ := mj_u2p hZ
            replace hZ := mj_u2p hZ
            replace hZ := mj_u2p hZ
            replace hZ := mj_u2p hZ
            replace hZ := mj_u2p hZ
            exact mj_iret hR ⟨Nat.le_refl _, Nat.le_refl _⟩ rfl rfl dX11_visits_76 hZ
        · replace hf := mj_pos c10 hf
          refine mj_bipush dX11_visits_51 kc_bipush_m2 ?_
          obtain rfl := Option.some.inj hf
          have hZ := hq
          replace hZ := mj_u2p hZ
          replace hZ := mj_u2p hZ
          replace hZ := mj_u2p hZ
          replace hZ := mj_u2p hZ
          replace hZ := mj_u2p hZ
          replace hZ := mj_u2p hZ
          replace hZ := mj_u2p hZ
          replace hZ := mj_u2p hZ
          replace hZ := mj_u2p hZ
          replace hZ := mj_u2p hZ
          replace hZ := mj_u2p hZ
          replace hZ := mj_u2p hZ
          exact mj_iret hR ⟨Nat.le_refl _, Nat.le_refl _⟩ rfl rfl dX11_visits_53 hZ
      · replace hf := mj_pos c8 hf
        refine mj_iconst dX11_visits_40 kc_iconst_0 ?_
        obtain rfl := Option.some.inj hf
        have hZ := hq
        replace hZ := mj_u2p hZ
        replace hZ := mj_u2p hZ
        replace hZ := mj_u2p hZ
        replace hZ := mj_u2p hZ
        replace hZ := mj_u2p hZ
        replace hZ := mj_u2p hZ
        replace hZ := mj_u2p hZ
        replace hZ := mj_u2p hZ
        replace hZ := mj_u2p hZ
        replace hZ := mj_u2p hZ
        replace hZ := mj_u2p hZ
        replace hZ := mj_u2p hZ
        exact mj_iret hR ⟨Nat.le_refl _, Nat.le_refl _⟩ rfl rfl dX11_visits_41 hZ
set_option maxRecDepth 100000 in
set_option maxHeartbeats 4000000 in
theorem cmX11_visits (l : Launch) (G : mj_GT) (F : Nat) (x1 : Int32) (x2 : Int32) (I : mj_IT) (L : mj_LT) (r71 : Nat → Int32) (r72 : Nat → Int32) (r73 : Nat → Int32) (r75 : Nat → Int32) (r80 : Nat → Int32) (r81 : Nat → Int32) (r82 : Nat → Int32) (r83 : Nat → Int32) (r84 : Nat → Int32) (r85 : Nat → Int32) (r86 : Nat → Int32) (r87 : Nat → Int32) (r88 : Nat → Int32) (q89 : Nat → Int64) (q90 : Nat → Int64) (q97 : Nat → Int64) (hr71 : I 71 = r71) (hr72 : I 72 = r72) (hr73 : I 73 = r73) (hr75 : I 75 = r75) (hr80 : I 80 = r80) (hr81 : I 81 = r81) (hr82 : I 82 = r82) (hr83 : I 83 = r83) (hr84 : I 84 = r84) (hr85 : I 85 = r85) (hr86 : I 86 = r86) (hr87 : I 87 = r87) (hr88 : I 88 = r88) (hq89 : L 89 = q89) (hq90 : L 90 = q90) (hq97 : L 97 = q97) (o : ((Int32) × (Nat → Int32) × (Nat → Int32) × (Nat → Int32) × (Nat → Int32) × (Nat → Int32) × (Nat → Int32) × (Nat → Int32) × (Nat → Int32) × (Nat → Int32) × (Nat → Int32) × (Nat → Int64) × (Nat → Int64))) (hf : fnX11_visits F r71 r72 r73 r75 r80 r81 r82 r83 r84 r85 r86 r87 r88 q89 q90 q97 x1 x2 = some o) : mj_M l G yX11_visits cX11_visits 3 8 (some .int) 0 0 mj_P0 mj_S0 98 [.ref 71, .int x1, .int x2] I L (mj_qd (some (.int o.1)) (mj_rows I [(71, o.2.1), (72, o.2.2.1), (73, r73), (75, r75), (80, o.2.2.2.1), (81, o.2.2.2.2.1), (82, o.2.2.2.2.2.1), (83, o.2.2.2.2.2.2.1), (84, o.2.2.2.2.2.2.2.1), (85, o.2.2.2.2.2.2.2.2.1), (86, o.2.2.2.2.2.2.2.2.2.1), (87, r87), (88, o.2.2.2.2.2.2.2.2.2.2.1)]) (mj_rows L [(89, o.2.2.2.2.2.2.2.2.2.2.2.1), (90, o.2.2.2.2.2.2.2.2.2.2.2.2), (97, q97)])) := by
  refine mj_in RX11 "visits" [(0, .ref 71), (1, .int x1), (2, .int x2)] rfl rfl rfl (by decide) (Nat.le_of_ble_eq_true rfl) (fun X ad hR => ?_)
  refine mj_toI [(71, r71), (72, r72), (73, r73), (75, r75), (80, r80), (81, r81), (82, r82), (83, r83), (84, r84), (85, r85), (86, r86), (87, r87), (88, r88)] (by intro q hq; simp only [List.mem_cons, List.not_mem_nil, or_false] at hq; rcases hq with rfl | rfl | rfl | rfl | rfl | rfl | rfl | rfl | rfl | rfl | rfl | rfl | rfl <;> assumption) ?_
  refine mj_toL [(89, q89), (90, q90), (97, q97)] (by intro q hq; simp only [List.mem_cons, List.not_mem_nil, or_false] at hq; rcases hq with rfl | rfl | rfl <;> assumption) ?_
  refine mtX11_visits hR F I L r71 r72 r73 r75 r80 r81 r82 r83 r84 r85 r86 r87 r88 q89 q90 q97 x1 x2 o hf ?_
  obtain ⟨w0, w1, w2, w3, w4, w5, w6, w7, w8, w9, w10, w11, w12⟩ := o
  refine mj_u2q ?_
  refine mj_u2q ?_
  refine mj_u2q ?_
  refine mj_u2q ?_
  refine mj_u2q ?_
  refine mj_u2q ?_
  refine mj_u2q ?_
  refine mj_u2q ?_
  refine mj_u2q ?_
  refine mj_u2q ?_
  refine mj_u2q ?_
  refine mj_u2q ?_
  exact ⟨rfl, rfl, rfl⟩

-- X11_steps
def bdX11_steps_36 (F : Nat) (r71 : Nat → Int32) (r86 : Nat → Int32) (x1 : Int32) (x2 : Int64) (x4 : Int32) (x5 : Int32) : Option (((Int32) × (Int32)) ⊕ ((Int32))) := (if (r71 24) ≤ x5 then some (.inr x4) else (if x4 = 0 then some (.inl ((0 : Int32), (x5 + (1)))) else (if mj_ib x5 200 = true then (if (r86 x5.toNatClampNeg) = 0 then some (.inl ((0 : Int32), (x5 + (1)))) else some (.inl ((1 : Int32), (x5 + (1))))) else none)))
def bdX11_steps_94 (F : Nat) (r71 : Nat → Int32) (r83 : Nat → Int32) (q90 : Nat → Int64) (x1 : Int32) (x2 : Int64) (x5 : Int32) : Option (((Int64) × (Int32)) ⊕ ((Int64))) := (if (r71 24) ≤ x5 then some (.inr x2) else (if mj_ib x5 200 = true then (if (r83 x5.toNatClampNeg) ≤ 0 then some (.inl ((x2 + (0 : Int64)), (x5 + (1)))) else (if mj_ib x5 200 = true then some (.inl ((x2 + (q90 x5.toNatClampNeg)), (x5 + (1)))) else none)) else none))
def fnX11_steps (F : Nat) (r71 : Nat → Int32) (r72 : Nat → Int32) (r73 : Nat → Int32) (r75 : Nat → Int32) (r80 : Nat → Int32) (r81 : Nat → Int32) (r82 : Nat → Int32) (r83 : Nat → Int32) (r84 : Nat → Int32) (r85 : Nat → Int32) (r86 : Nat → Int32) (r87 : Nat → Int32) (r88 : Nat → Int32) (q89 : Nat → Int64) (q90 : Nat → Int64) (q97 : Nat → Int64) (x1 : Int32) : Option ((Int32) × (Nat → Int32) × (Nat → Int32) × (Nat → Int32) × (Nat → Int32) × (Nat → Int32) × (Nat → Int32) × (Nat → Int32) × (Nat → Int32) × (Nat → Int32) × (Nat → Int32) × (Nat → Int64) × (Nat → Int64)) := (fnX11_isFew F (upd r71 0 (0 : Int32)) r72 r73 r75 r80 r81 r82 r83 r84 r85 r86 r87).bind (fun o9 => (if o9.1 = 0 then some ((0 : Int32), o9.2.1, o9.2.2.1, o9.2.2.2.1, o9.2.2.2.2.1, o9.2.2.2.2.2.1, o9.2.2.2.2.2.2.1, o9.2.2.2.2.2.2.2.1, o9.2.2.2.2.2.2.2.2.1, o9.2.2.2.2.2.2.2.2.2, r88, q89, q90) else (fnX11_isForm F x1).bind (fun o11 => (fnX11_isFine F o9.2.1 o9.2.2.1 o11 (2 : Int32) (1 : Int32)).bind (fun o12 => (if o12.1 = 0 then some ((0 : Int32), o12.2.1, o12.2.2, o9.2.2.2.1, o9.2.2.2.2.1, o9.2.2.2.2.2.1, o9.2.2.2.2.2.2.1, o9.2.2.2.2.2.2.2.1, o9.2.2.2.2.2.2.2.2.1, o9.2.2.2.2.2.2.2.2.2, r88, q89, q90) else (mj_it (mj_u2 (fun z0 z1 => bdX11_steps_36 F o12.2.1 o9.2.2.2.2.2.2.2.2.2 x1 (0 : Int64) z0 z1)) F ((1 : Int32), (0 : Int32))).bind (fun x4_14 => (if x4_14 = 0 then some ((-2 : Int32), o12.2.1, o12.2.2, o9.2.2.2.1, o9.2.2.2.2.1, o9.2.2.2.2.2.1, o9.2.2.2.2.2.2.1, o9.2.2.2.2.2.2.2.1, o9.2.2.2.2.2.2.2.2.1, o9.2.2.2.2.2.2.2.2.2, r88, q89, q90) else (fnX11_solves F o12.2.1 o9.2.2.2.2.2.2.1 o9.2.2.2.2.2.2.2.1 o9.2.2.2.2.2.2.2.2.1 o9.2.2.2.2.2.2.2.2.2 r88 q89 q90 q97).bind (fun o16 => (if o16.1 = 0 then some ((-3 : Int32), o16.2.1, o12.2.2, o9.2.2.2.1, o9.2.2.2.2.1, o9.2.2.2.2.2.1, o9.2.2.2.2.2.2.1, o9.2.2.2.2.2.2.2.1, o9.2.2.2.2.2.2.2.2.1, o9.2.2.2.2.2.2.2.2.2, o16.2.2.1, o16.2.2.2.1, o16.2.2.2.2) else (mj_it (mj_u2 (fun z0 z1 => bdX11_steps_94 F o16.2.1 o9.2.2.2.2.2.2.1 o16.2.2.2.2 x1 z0 z1)) F ((0 : Int64), (0 : Int32))).bind (fun x2_18 => (fnX11_formed F (x2_18 - x2_18 / (998244353 : Int64) * (998244353 : Int64)) x1).bind (fun o19 => some (o19, o16.2.1, o12.2.2, o9.2.2.2.1, o9.2.2.2.2.1, o9.2.2.2.2.2.1, o9.2.2.2.2.2.2.1, o9.2.2.2.2.2.2.2.1, o9.2.2.2.2.2.2.2.2.1, o9.2.2.2.2.2.2.2.2.2, o16.2.2.1, o16.2.2.2.1, o16.2.2.2.2))))))))))))
set_option maxRecDepth 100000 in
set_option maxHeartbeats 4000000 in
theorem lpX11_steps_36 {X : mj_XT} {l : Launch} {G : mj_GT} {ad : Nat → Nat} {Qn : Option Value → mj_IT → mj_LT → Prop} (hR : mj_R X l G mj_P0 mj_S0 98 ad 0 0 Qn) (F : Nat) (I : mj_IT) (L : mj_LT) (r71 : Nat → Int32) (r72 : Nat → Int32) (r73 : Nat → Int32) (r75 : Nat → Int32) (r80 : Nat → Int32) (r81 : Nat → Int32) (r82 : Nat → Int32) (r83 : Nat → Int32) (r84 : Nat → Int32) (r85 : Nat → Int32) (r86 : Nat → Int32) (r87 : Nat → Int32) (r88 : Nat → Int32) (q89 : Nat → Int64) (q90 : Nat → Int64) (q97 : Nat → Int64) (x1 : Int32) (x2 : Int64) : ∀ (n : Nat) (s : ((Int32) × (Int32))) (e : ((Int32))), mj_it (mj_u2 (fun z0 z1 => bdX11_steps_36 F r71 r86 x1 x2 z0 z1)) n s = some e → (fun x4 => mj_W X G RX11 "steps" cX11_steps 6 8 (some .int) mj_P0 mj_S0 98 ad 0 0 73 [(0, .ref 71), (1, .int x1), (2, .long x2), (4, .int x4)] [] (mj_rows I [(71, r71), (72, r72), (73, r73), (75, r75), (80, r80), (81, r81), (82, r82), (83, r83), (84, r84), (85, r85), (86, r86), (87, r87), (88, r88)]) (mj_rows L [(89, q89), (90, q90), (97, q97)])) e → (mj_u2 (fun x4 x5 => mj_W X G RX11 "steps" cX11_steps 6 8 (some .int) mj_P0 mj_S0 98 ad 0 0 36 [(0, .ref 71), (1, .int x1), (2, .long x2), (4, .int x4), (5, .int x5)] [] (mj_rows I [(71, r71), (72, r72), (73, r73), (75, r75), (80, r80), (81, r81), (82, r82), (83, r83), (84, r84), (85, r85), (86, r86), (87, r87), (88, r88)]) (mj_rows L [(89, q89), (90, q90), (97, q97)]))) s := by
  refine mj_loop (fun s o hf hc hx => ?_)
  obtain ⟨x4, x5⟩ := s
  replace hf := mj_u2e hf
  refine mj_u2q ?_
  unfold bdX11_steps_36 at hf
  refine mj_iload 4 dX11_steps_36 rfl ?_
  refine mj_aload_n 0 dX11_steps_38 rfl ?_
  refine mj_getIv (v := (r71 24)) rfl fl_X11_227 rfl s0_71 a0_71 dX11_steps_39 ?_
  refine mj_icmp_ge 73 dX11_steps_42 (by decide) (fun c1 => ?_) (fun c1 => ?_)
  · replace hf := mj_pos c1 hf
    refine mj_sub [0, 1, 2, 3] [(0, .ref 71), (1, .int x1), (2, .long x2), (4, .int x4)] rfl ?_
    obtain rfl := Option.some.inj hf
    have hZ := hx x4 rfl
    exact hZ
  · replace hf := mj_neg c1 hf
    refine mj_iload 3 dX11_steps_45 rfl ?_
    refine mj_if_eq 64 dX11_steps_47 (by decide) (fun c2 => ?_) (fun c2 => ?_)
    · replace hf := mj_pos c2 hf
      refine mj_iconst dX11_steps_64 kc_iconst_0 ?_
      refine mj_istore [(4, .int (0 : Int32)), (0, .ref 71), (1, .int x1), (2, .long x2), (5, .int x5)] dX11_steps_65 (by decide) rfl ?_
      refine mj_iinc 4 [(5, .int (x5 + (1))), (4, .int (0 : Int32)), (0, .ref 71), (1, .int x1), (2, .long x2)] dX11_steps_67 rfl (kz_1 _) (by decide) rfl ?_
      refine mj_goto 36 dX11_steps_70 (by decide) ?_
      refine mj_sub [2, 3, 4, 1, 0] [(0, .ref 71), (1, .int x1), (2, .long x2), (4, .int (0 : Int32)), (5, .int (x5 + (1)))] rfl ?_
      obtain rfl := Option.some.inj hf
      have hZ := hc ((0 : Int32), (x5 + (1))) rfl
      replace hZ := mj_u2p hZ
      exact hZ
    · replace hf := mj_neg c2 hf
      refine mj_aload_n 0 dX11_steps_50 rfl ?_
      refine mj_getP p0_71_33 (by decide) fl_X11_275 rfl s0_71 a0_71 dX11_steps_51 ?_
      refine mj_iload 4 dX11_steps_54 rfl ?_
      obtain ⟨z3, hf⟩ := mj_ck hf
      refine mj_zaldv (x := r86) rfl s0_86 a0_86 z3 dX11_steps_56 ?_
      refine mj_if_eq 64 dX11_steps_57 (by decide) (fun c4 => ?_) (fun c4 => ?_)
      · replace hf := mj_pos c4 hf
        refine mj_iconst dX11_steps_64 kc_iconst_0 ?_
        refine mj_istore [(4, .int (0 : Int32)), (0, .ref 71), (1, .int x1), (2, .long x2), (5, .int x5)] dX11_steps_65 (by decide) rfl ?_
        refine mj_iinc 4 [(5, .int (x5 + (1))), (4, .int (0 : Int32)), (0, .ref 71), (1, .int x1), (2, .long x2)] dX11_steps_67 rfl (kz_1 _) (by decide) rfl ?_
        refine mj_goto 36 dX11_steps_70 (by decide) ?_
        refine mj_sub [2, 3, 4, 1, 0] [(0, .ref 71), (1, .int x1), (2, .long x2), (4, .int (0 : Int32)), (5, .int (x5 + (1)))] rfl ?_
        obtain rfl := Option.some.inj hf
        have hZ := hc ((0 : Int32), (x5 + (1))) rfl
        replace hZ := mj_u2p hZ
        exact hZ
      · replace hf := mj_neg c4 hf
        refine mj_iconst dX11_steps_60 kc_iconst_1 ?_
        refine mj_goto 65 dX11_steps_61 (by decide) ?_
        refine mj_istore [(4, .int (1 : Int32)), (0, .ref 71), (1, .int x1), (2, .long x2), (5, .int x5)] dX11_steps_65 (by decide) rfl ?_
        refine mj_iinc 4 [(5, .int (x5 + (1))), (4, .int (1 : Int32)), (0, .ref 71), (1, .int x1), (2, .long x2)] dX11_steps_67 rfl (kz_1 _) (by decide) rfl ?_
        refine mj_goto 36 dX11_steps_70 (by decide) ?_
        refine mj_sub [2, 3, 4, 1, 0] [(0, .ref 71), (1, .int x1), (2, .long x2), (4, .int (1 : Int32)), (5, .int (x5 + (1)))] rfl ?_
        obtain rfl := Option.some.inj hf
        have hZ := hc ((1 : Int32), (x5 + (1))) rfl
        replace hZ := mj_u2p hZ
        exact hZ
set_option maxRecDepth 100000 in
set_option maxHeartbeats 4000000 in
theorem lpX11_steps_94 {X : mj_XT} {l : Launch} {G : mj_GT} {ad : Nat → Nat} {Qn : Option Value → mj_IT → mj_LT → Prop} (hR : mj_R X l G mj_P0 mj_S0 98 ad 0 0 Qn) (F : Nat) (I : mj_IT) (L : mj_LT) (r71 : Nat → Int32) (r72 : Nat → Int32) (r73 : Nat → Int32) (r75 : Nat → Int32) (r80 : Nat → Int32) (r81 : Nat → Int32) (r82 : Nat → Int32) (r83 : Nat → Int32) (r84 : Nat → Int32) (r85 : Nat → Int32) (r86 : Nat → Int32) (r87 : Nat → Int32) (r88 : Nat → Int32) (q89 : Nat → Int64) (q90 : Nat → Int64) (q97 : Nat → Int64) (x1 : Int32) : ∀ (n : Nat) (s : ((Int64) × (Int32))) (e : ((Int64))), mj_it (mj_u2 (fun z0 z1 => bdX11_steps_94 F r71 r83 q90 x1 z0 z1)) n s = some e → (fun x2 => mj_W X G RX11 "steps" cX11_steps 6 8 (some .int) mj_P0 mj_S0 98 ad 0 0 133 [(1, .int x1), (2, .long x2)] [] (mj_rows I [(71, r71), (72, r72), (73, r73), (75, r75), (80, r80), (81, r81), (82, r82), (83, r83), (84, r84), (85, r85), (86, r86), (87, r87), (88, r88)]) (mj_rows L [(89, q89), (90, q90), (97, q97)])) e → (mj_u2 (fun x2 x5 => mj_W X G RX11 "steps" cX11_steps 6 8 (some .int) mj_P0 mj_S0 98 ad 0 0 94 [(0, .ref 71), (1, .int x1), (2, .long x2), (5, .int x5)] [] (mj_rows I [(71, r71), (72, r72), (73, r73), (75, r75), (80, r80), (81, r81), (82, r82), (83, r83), (84, r84), (85, r85), (86, r86), (87, r87), (88, r88)]) (mj_rows L [(89, q89), (90, q90), (97, q97)]))) s := by
  refine mj_loop (fun s o hf hc hx => ?_)
  obtain ⟨x2, x5⟩ := s
  replace hf := mj_u2e hf
  refine mj_u2q ?_
  unfold bdX11_steps_94 at hf
  refine mj_iload 3 dX11_steps_94 rfl ?_
  refine mj_aload_n 0 dX11_steps_96 rfl ?_
  refine mj_getIv (v := (r71 24)) rfl fl_X11_227 rfl s0_71 a0_71 dX11_steps_97 ?_
  refine mj_icmp_ge 133 dX11_steps_100 (by decide) (fun c5 => ?_) (fun c5 => ?_)
  · replace hf := mj_pos c5 hf
    refine mj_sub [1, 2] [(1, .int x1), (2, .long x2)] rfl ?_
    obtain rfl := Option.some.inj hf
    have hZ := hx x2 rfl
    exact hZ
  · replace hf := mj_neg c5 hf
    refine mj_lload_n 2 dX11_steps_103 rfl ?_
    refine mj_aload_n 0 dX11_steps_104 rfl ?_
    refine mj_getP p0_71_30 (by decide) fl_X11_251 rfl s0_71 a0_71 dX11_steps_105 ?_
    refine mj_iload 3 dX11_steps_108 rfl ?_
    obtain ⟨z6, hf⟩ := mj_ck hf
    refine mj_ialdv (x := r83) rfl s0_83 a0_83 z6 dX11_steps_110 ?_
    refine mj_if_le 124 dX11_steps_111 (by decide) (fun c7 => ?_) (fun c7 => ?_)
    · replace hf := mj_pos c7 hf
      refine mj_lconst (v := 0) dX11_steps_124 (by decide) ?_
      refine mj_ladd dX11_steps_125 ?_
      refine mj_lstore_n [(2, .long (x2 + (0 : Int64))), (0, .ref 71), (1, .int x1), (5, .int x5)] dX11_steps_126 rfl (by decide) rfl ?_
      refine mj_iinc 3 [(5, .int (x5 + (1))), (2, .long (x2 + (0 : Int64))), (0, .ref 71), (1, .int x1)] dX11_steps_127 rfl (kz_1 _) (by decide) rfl ?_
      refine mj_goto 94 dX11_steps_130 (by decide) ?_
      refine mj_sub [2, 3, 1, 0] [(0, .ref 71), (1, .int x1), (2, .long (x2 + (0 : Int64))), (5, .int (x5 + (1)))] rfl ?_
      obtain rfl := Option.some.inj hf
      have hZ := hc ((x2 + (0 : Int64)), (x5 + (1))) rfl
      replace hZ := mj_u2p hZ
      exact hZ
    · replace hf := mj_neg c7 hf
      refine mj_aload_n 0 dX11_steps_114 rfl ?_
      refine mj_getP p0_71_37 (by decide) fl_X11_316 rfl s0_71 a0_71 dX11_steps_115 ?_
      refine mj_iload 3 dX11_steps_118 rfl ?_
      obtain ⟨z8, hf⟩ := mj_ck hf
      refine mj_laldv (x := q90) rfl s0_90 a0_90 z8 dX11_steps_120 ?_
      refine mj_goto 125 dX11_steps_121 (by decide) ?_
      refine mj_ladd dX11_steps_125 ?_
      refine mj_lstore_n [(2, .long (x2 + (q90 x5.toNatClampNeg))), (0, .ref 71), (1, .int x1), (5, .int x5)] dX11_steps_126 rfl (by decide) rfl ?_
      refine mj_iinc 3 [(5, .int (x5 + (1))), (2, .long (x2 + (q90 x5.toNatClampNeg))), (0, .ref 71), (1, .int x1)] dX11_steps_127 rfl (kz_1 _) (by decide) rfl ?_
      refine mj_goto 94 dX11_steps_130 (by decide) ?_
      refine mj_sub [2, 3, 1, 0] [(0, .ref 71), (1, .int x1), (2, .long (x2 + (q90 x5.toNatClampNeg))), (5, .int (x5 + (1)))] rfl ?_
      obtain rfl := Option.some.inj hf
      have hZ := hc ((x2 + (q90 x5.toNatClampNeg)), (x5 + (1))) rfl
      replace hZ := mj_u2p hZ
      exact hZ
set_option maxRecDepth 100000 in
set_option maxHeartbeats 4000000 in
theorem mtX11_steps {X : mj_XT} {l : Launch} {G : mj_GT} {ad : Nat → Nat} {Qn : Option Value → mj_IT → mj_LT → Prop} (hR : mj_R X l G mj_P0 mj_S0 98 ad 0 0 Qn) (F : Nat) (I : mj_IT) (L : mj_LT) (r71 : Nat → Int32) (r72 : Nat → Int32) (r73 : Nat → Int32) (r75 : Nat → Int32) (r80 : Nat → Int32) (r81 : Nat → Int32) (r82 : Nat → Int32) (r83 : Nat → Int32) (r84 : Nat → Int32) (r85 : Nat → Int32) (r86 : Nat → Int32) (r87 : Nat → Int32) (r88 : Nat → Int32) (q89 : Nat → Int64) (q90 : Nat → Int64) (q97 : Nat → Int64) (x1 : Int32) (o : ((Int32) × (Nat → Int32) × (Nat → Int32) × (Nat → Int32) × (Nat → Int32) × (Nat → Int32) × (Nat → Int32) × (Nat → Int32) × (Nat → Int32) × (Nat → Int32) × (Nat → Int32) × (Nat → Int64) × (Nat → Int64))) (hf : fnX11_steps F r71 r72 r73 r75 r80 r81 r82 r83 r84 r85 r86 r87 r88 q89 q90 q97 x1 = some o) (hq : (mj_u2 (fun ov => (mj_u2 (fun r71 => (mj_u2 (fun r72 => (mj_u2 (fun r80 => (mj_u2 (fun r81 => (mj_u2 (fun r82 => (mj_u2 (fun r83 => (mj_u2 (fun r84 => (mj_u2 (fun r85 => (mj_u2 (fun r86 => (mj_u2 (fun r88 => (mj_u2 (fun q89 q90 => Qn (some (.int ov)) (mj_rows I [(71, r71), (72, r72), (73, r73), (75, r75), (80, r80), (81, r81), (82, r82), (83, r83), (84, r84), (85, r85), (86, r86), (87, r87), (88, r88)]) (mj_rows L [(89, q89), (90, q90), (97, q97)]))))))))))))))))))))))))) o) : mj_W X G RX11 "steps" cX11_steps 6 8 (some .int) mj_P0 mj_S0 98 ad 0 0 0 [(0, .ref 71), (1, .int x1)] [] (mj_rows I [(71, r71), (72, r72), (73, r73), (75, r75), (80, r80), (81, r81), (82, r82), (83, r83), (84, r84), (85, r85), (86, r86), (87, r87), (88, r88)]) (mj_rows L [(89, q89), (90, q90), (97, q97)]) := by
  unfold fnX11_steps at hf
  refine mj_aload_n 0 dX11_steps_0 rfl ?_
  refine mj_iconst dX11_steps_1 kc_iconst_0 ?_
  refine mj_putIr (ci := 9) (j := 0) [(71, (upd r71 0 (0 : Int32))), (72, r72), (73, r73), (75, r75), (80, r80), (81, r81), (82, r82), (83, r83), (84, r84), (85, r85), (86, r86), (87, r87), (88, r88)] rfl ⟨rfl, rfl⟩ fl_X11_1 rfl rfl s0_71 a0_71 dX11_steps_2 ?_
  refine mj_aload_n 0 dX11_steps_5 rfl ?_
  obtain ⟨o9, ho9, hf⟩ := mj_bd hf
  refine mj_callVd (I2 := (mj_rows I [(71, o9.2.1), (72, o9.2.2.1), (73, r73), (75, r75), (80, o9.2.2.2.1), (81, o9.2.2.2.2.1), (82, o9.2.2.2.2.2.1), (83, o9.2.2.2.2.2.2.1), (84, o9.2.2.2.2.2.2.2.1), (85, o9.2.2.2.2.2.2.2.2.1), (86, o9.2.2.2.2.2.2.2.2.2), (87, r87), (88, r88)])) (L2 := (mj_rows L [(89, q89), (90, q90), (97, q97)])) (s1 := [.int o9.1]) (st := []) [] (cmX11_isFew X.2.1 G F  _ _ (upd r71 0 (0 : Int32)) r72 r73 r75 r80 r81 r82 r83 r84 r85 r86 r87 rfl rfl rfl rfl rfl rfl rfl rfl rfl rfl rfl rfl o9 ho9) (mj_rr rfl) rfl cw_X11_335 s0_71 a0_71 (by decide) rfl rfl (Nat.le_of_ble_eq_true rfl) ⟨Nat.zero_le _, Nat.zero_le _⟩ dX11_steps_6 rfl ?_
  refine mj_if_eq 26 dX11_steps_9 (by decide) (fun c10 => ?_) (fun c10 => ?_)
  · replace hf := mj_pos c10 hf
    refine mj_iconst dX11_steps_26 kc_iconst_0 ?_
    obtain rfl := Option.some.inj hf
    have hZ := hq
    replace hZ := mj_u2p hZ
    replace hZ := mj_u2p hZ
    replace hZ := mj_u2p hZ
    replace hZ := mj_u2p hZ
    replace hZ := mj_u2p hZ
    replace hZ := mj_u2p hZ
    replace hZ := mj_u2p hZ
    replace hZ := mj_u2p hZ
    replace hZ := mj_u2p hZ
    replace hZ := mj_u2p hZ
    replace hZ := mj_u2p hZ
    replace hZ := mj_u2p hZ
    exact mj_iret hR ⟨Nat.le_refl _, Nat.le_refl _⟩ rfl rfl dX11_steps_27 hZ
  · replace hf := mj_neg c10 hf
    refine mj_aload_n 0 dX11_steps_12 rfl ?_
    refine mj_aload_n 0 dX11_steps_13 rfl ?_
    refine mj_iload_n 1 dX11_steps_14 rfl ?_
    obtain ⟨o11, ho11, hf⟩ := mj_bd hf
    refine mj_callVd (I2 := (mj_rows I [(71, o9.2.1), (72, o9.2.2.1), (73, r73), (75, r75), (80, o9.2.2.2.1), (81, o9.2.2.2.2.1), (82, o9.2.2.2.2.2.1), (83, o9.2.2.2.2.2.2.1), (84, o9.2.2.2.2.2.2.2.1), (85, o9.2.2.2.2.2.2.2.2.1), (86, o9.2.2.2.2.2.2.2.2.2), (87, r87), (88, r88)])) (L2 := (mj_rows L [(89, q89), (90, q90), (97, q97)])) (s1 := [.int o11, .ref 71]) (st := [.ref 71]) [.int x1] (cmX11_isForm X.2.1 G F x1 _ _   o11 ho11) rfl rfl cw_X11_341 s0_71 a0_71 (by decide) rfl rfl (Nat.le_of_ble_eq_true rfl) ⟨Nat.zero_le _, Nat.zero_le _⟩ dX11_steps_15 rfl ?_
    refine mj_iconst dX11_steps_18 kc_iconst_2 ?_
    refine mj_iconst dX11_steps_19 kc_iconst_1 ?_
    obtain ⟨o12, ho12, hf⟩ := mj_bd hf
    refine mj_callVd (I2 := (mj_rows I [(71, o12.2.1), (72, o12.2.2), (73, r73), (75, r75), (80, o9.2.2.2.1), (81, o9.2.2.2.2.1), (82, o9.2.2.2.2.2.1), (83, o9.2.2.2.2.2.2.1), (84, o9.2.2.2.2.2.2.2.1), (85, o9.2.2.2.2.2.2.2.2.1), (86, o9.2.2.2.2.2.2.2.2.2), (87, r87), (88, r88)])) (L2 := (mj_rows L [(89, q89), (90, q90), (97, q97)])) (s1 := [.int o12.1]) (st := []) [.int o11, .int (2 : Int32), .int (1 : Int32)] (cmX11_isFine X.2.1 G F o11 (2 : Int32) (1 : Int32) _ _ o9.2.1 o9.2.2.1 rfl rfl o12 ho12) (mj_rr rfl) rfl cw_X11_161 s0_71 a0_71 (by decide) rfl rfl (Nat.le_of_ble_eq_true rfl) ⟨Nat.zero_le _, Nat.zero_le _⟩ dX11_steps_20 rfl ?_
    refine mj_if_ne 28 dX11_steps_23 (by decide) (fun c13 => ?_) (fun c13 => ?_)
    · replace hf := mj_neg c13 hf
      refine mj_lconst (v := 0) dX11_steps_28 (by decide) ?_
      refine mj_lstore_n [(2, .long (0 : Int64)), (0, .ref 71), (1, .int x1)] dX11_steps_29 rfl (by decide) rfl ?_
      refine mj_iconst dX11_steps_30 kc_iconst_1 ?_
      refine mj_istore [(4, .int (1 : Int32)), (2, .long (0 : Int64)), (0, .ref 71), (1, .int x1)] dX11_steps_31 (by decide) rfl ?_
      refine mj_iconst dX11_steps_33 kc_iconst_0 ?_
      refine mj_istore [(5, .int (0 : Int32)), (4, .int (1 : Int32)), (2, .long (0 : Int64)), (0, .ref 71), (1, .int x1)] dX11_steps_34 (by decide) rfl ?_
      refine mj_sub [3, 4, 2, 1, 0] [(0, .ref 71), (1, .int x1), (2, .long (0 : Int64)), (4, .int (1 : Int32)), (5, .int (0 : Int32))] rfl ?_
      obtain ⟨x4_14, ho14, hf⟩ := mj_bd hf
      refine lpX11_steps_36 hR F I L o12.2.1 o12.2.2 r73 r75 o9.2.2.2.1 o9.2.2.2.2.1 o9.2.2.2.2.2.1 o9.2.2.2.2.2.2.1 o9.2.2.2.2.2.2.2.1 o9.2.2.2.2.2.2.2.2.1 o9.2.2.2.2.2.2.2.2.2 r87 r88 q89 q90 q97 x1 (0 : Int64) F ((1 : Int32), (0 : Int32)) x4_14 ho14 ?_
      refine ?_
      refine mj_iload 3 dX11_steps_73 rfl ?_
      refine mj_if_ne 81 dX11_steps_75 (by decide) (fun c15 => ?_) (fun c15 => ?_)
      · replace hf := mj_neg c15 hf
        refine mj_aload_n 0 dX11_steps_81 rfl ?_
        obtain ⟨o16, ho16, hf⟩ := mj_bd hf
        refine mj_callVd (I2 := (mj_rows I [(71, o16.2.1), (72, o12.2.2), (73, r73), (75, r75), (80, o9.2.2.2.1), (81, o9.2.2.2.2.1), (82, o9.2.2.2.2.2.1), (83, o9.2.2.2.2.2.2.1), (84, o9.2.2.2.2.2.2.2.1), (85, o9.2.2.2.2.2.2.2.2.1), (86, o9.2.2.2.2.2.2.2.2.2), (87, r87), (88, o16.2.2.1)])) (L2 := (mj_rows L [(89, o16.2.2.2.1), (90, o16.2.2.2.2), (97, q97)])) (s1 := [.int o16.1]) (st := []) [] (cmX11_solves X.2.1 G F  _ _ o12.2.1 o9.2.2.2.2.2.2.1 o9.2.2.2.2.2.2.2.1 o9.2.2.2.2.2.2.2.2.1 o9.2.2.2.2.2.2.2.2.2 r88 q89 q90 q97 rfl rfl rfl rfl rfl rfl rfl rfl rfl o16 ho16) (mj_rr rfl) (mj_rr rfl) cw_X11_344 s0_71 a0_71 (by decide) rfl rfl (Nat.le_of_ble_eq_true rfl) ⟨Nat.zero_le _, Nat.zero_le _⟩ dX11_steps_82 rfl ?_
        refine mj_if_ne 91 dX11_steps_85 (by decide) (fun c17 => ?_) (fun c17 => ?_)
        · replace hf := mj_neg c17 hf
          refine mj_iconst dX11_steps_91 kc_iconst_0 ?_
          refine mj_istore [(5, .int (0 : Int32)), (0, .ref 71), (1, .int x1), (2, .long (0 : Int64)), (4, .int x4_14)] dX11_steps_92 (by decide) rfl ?_
          refine mj_sub [1, 2, 3, 0] [(0, .ref 71), (1, .int x1), (2, .long (0 : Int64)), (5, .int (0 : Int32))] rfl ?_
          obtain ⟨x2_18, ho18, hf⟩ := mj_bd hf
          refine lpX11_steps_94 hR F I L o16.2.1 o12.2.2 r73 r75 o9.2.2.2.1 o9.2.2.2.2.1 o9.2.2.2.2.2.1 o9.2.2.2.2.2.2.1 o9.2.2.2.2.2.2.2.1 o9.2.2.2.2.2.2.2.2.1 o9.2.2.2.2.2.2.2.2.2 r87 o16.2.2.1 o16.2.2.2.1 o16.2.2.2.2 q97 x1 F ((0 : Int64), (0 : Int32)) x2_18 ho18 ?_
          refine ?_
          refine mj_lload_n 1 dX11_steps_133 rfl ?_
          refine mj_ldc2 kk_X11_279 dX11_steps_134 ?_
          refine mj_lrem dX11_steps_137 (by decide) ?_
          refine mj_iload_n 0 dX11_steps_138 rfl ?_
          obtain ⟨o19, ho19, hf⟩ := mj_bd hf
          refine mj_callSd (I2 := (mj_rows I [(71, o16.2.1), (72, o12.2.2), (73, r73), (75, r75), (80, o9.2.2.2.1), (81, o9.2.2.2.2.1), (82, o9.2.2.2.2.2.1), (83, o9.2.2.2.2.2.2.1), (84, o9.2.2.2.2.2.2.2.1), (85, o9.2.2.2.2.2.2.2.2.1), (86, o9.2.2.2.2.2.2.2.2.2), (87, r87), (88, o16.2.2.1)])) (L2 := (mj_rows L [(89, o16.2.2.2.1), (90, o16.2.2.2.2), (97, q97)])) (s1 := [.int o19]) (st := []) [.long (x2_18 - x2_18 / (998244353 : Int64) * (998244353 : Int64)), .int x1] (cmX11_formed X.2.1 G F (x2_18 - x2_18 / (998244353 : Int64) * (998244353 : Int64)) x1 _ _   o19 ho19) rfl rfl cw_X11_353 (by decide) rfl rfl (Nat.le_of_ble_eq_true rfl) ⟨Nat.zero_le _, Nat.zero_le _⟩ dX11_steps_139 rfl ?_
          obtain rfl := Option.some.inj hf
          have hZ := hq
          replace hZ := mj_u2p hZ
          replace hZ := mj_u2p hZ
          replace hZ := mj_u2p hZ
          replace hZ := mj_u2p hZ
          replace hZ := mj_u2p hZ
          replace hZ := mj_u2p hZ
          replace hZ := mj_u2p hZ
          replace hZ := mj_u2p hZ
          replace hZ := mj_u2p hZ
          replace hZ := mj_u2p hZ
          replace hZ := mj_u2p hZ
          replace hZ := mj_u2p hZ
          exact mj_iret hR ⟨Nat.le_refl _, Nat.le_refl _⟩ rfl rfl dX11_steps_142 hZ
        · replace hf := mj_pos c17 hf
          refine mj_bipush dX11_steps_88 kc_bipush_m3 ?_
          obtain rfl := Option.some.inj hf
          have hZ := hq
          replace hZ := mj_u2p hZ
          replace hZ := mj_u2p hZ
          replace hZ := mj_u2p hZ
          replace hZ := mj_u2p hZ
          replace hZ := mj_u2p hZ
          replace hZ := mj_u2p hZ
          replace hZ := mj_u2p hZ
          replace hZ := mj_u2p hZ
          replace hZ := mj_u2p hZ
          replace hZ := mj_u2p hZ
          replace hZ := mj_u2p hZ
          replace hZ := mj_u2p hZ
          exact mj_iret hR ⟨Nat.le_refl _, Nat.le_refl _⟩ rfl rfl dX11_steps_90 hZ
      · replace hf := mj_pos c15 hf
        refine mj_bipush dX11_steps_78 kc_bipush_m2 ?_
        obtain rfl := Option.some.inj hf
        have hZ := hq
        replace hZ := mj_u2p hZ
        replace hZ := mj_u2p hZ
        replace hZ := mj_u2p hZ
        replace hZ := mj_u2p hZ
        replace hZ := mj_u2p hZ
        replace hZ := mj_u2p hZ
        replace hZ := mj_u2p hZ
        replace hZ := mj_u2p hZ
        replace hZ := mj_u2p hZ
        replace hZ := mj_u2p hZ
        replace hZ := mj_u2p hZ
        replace hZ := mj_u2p hZ
        exact mj_iret hR ⟨Nat.le_refl _, Nat.le_refl _⟩ rfl rfl dX11_steps_80 hZ
    · replace hf := mj_pos c13 hf
      refine mj_iconst dX11_steps_26 kc_iconst_0 ?_
      obtain rfl := Option.some.inj hf
      have hZ := hq
      replace hZ := mj_u2p hZ
      replace hZ := mj_u2p hZ
      replace hZ := mj_u2p hZ
      replace hZ := mj_u2p hZ
      replace hZ := mj_u2p hZ
      replace hZ := mj_u2p hZ
      replace hZ := mj_u2p hZ
      replace hZ := mj_u2p hZ
      replace hZ := mj_u2p hZ
      replace hZ := mj_u2p hZ
      replace hZ := mj_u2p hZ
      replace hZ := mj_u2p hZ
      exact mj_iret hR ⟨Nat.le_refl _, Nat.le_refl _⟩ rfl rfl dX11_steps_27 hZ
set_option maxRecDepth 100000 in
set_option maxHeartbeats 4000000 in
theorem cmX11_steps (l : Launch) (G : mj_GT) (F : Nat) (x1 : Int32) (I : mj_IT) (L : mj_LT) (r71 : Nat → Int32) (r72 : Nat → Int32) (r73 : Nat → Int32) (r75 : Nat → Int32) (r80 : Nat → Int32) (r81 : Nat → Int32) (r82 : Nat → Int32) (r83 : Nat → Int32) (r84 : Nat → Int32) (r85 : Nat → Int32) (r86 : Nat → Int32) (r87 : Nat → Int32) (r88 : Nat → Int32) (q89 : Nat → Int64) (q90 : Nat → Int64) (q97 : Nat → Int64) (hr71 : I 71 = r71) (hr72 : I 72 = r72) (hr73 : I 73 = r73) (hr75 : I 75 = r75) (hr80 : I 80 = r80) (hr81 : I 81 = r81) (hr82 : I 82 = r82) (hr83 : I 83 = r83) (hr84 : I 84 = r84) (hr85 : I 85 = r85) (hr86 : I 86 = r86) (hr87 : I 87 = r87) (hr88 : I 88 = r88) (hq89 : L 89 = q89) (hq90 : L 90 = q90) (hq97 : L 97 = q97) (o : ((Int32) × (Nat → Int32) × (Nat → Int32) × (Nat → Int32) × (Nat → Int32) × (Nat → Int32) × (Nat → Int32) × (Nat → Int32) × (Nat → Int32) × (Nat → Int32) × (Nat → Int32) × (Nat → Int64) × (Nat → Int64))) (hf : fnX11_steps F r71 r72 r73 r75 r80 r81 r82 r83 r84 r85 r86 r87 r88 q89 q90 q97 x1 = some o) : mj_M l G yX11_steps cX11_steps 6 8 (some .int) 0 0 mj_P0 mj_S0 98 [.ref 71, .int x1] I L (mj_qd (some (.int o.1)) (mj_rows I [(71, o.2.1), (72, o.2.2.1), (73, r73), (75, r75), (80, o.2.2.2.1), (81, o.2.2.2.2.1), (82, o.2.2.2.2.2.1), (83, o.2.2.2.2.2.2.1), (84, o.2.2.2.2.2.2.2.1), (85, o.2.2.2.2.2.2.2.2.1), (86, o.2.2.2.2.2.2.2.2.2.1), (87, r87), (88, o.2.2.2.2.2.2.2.2.2.2.1)]) (mj_rows L [(89, o.2.2.2.2.2.2.2.2.2.2.2.1), (90, o.2.2.2.2.2.2.2.2.2.2.2.2), (97, q97)])) := by
  refine mj_in RX11 "steps" [(0, .ref 71), (1, .int x1)] rfl rfl rfl (by decide) (Nat.le_of_ble_eq_true rfl) (fun X ad hR => ?_)
  refine mj_toI [(71, r71), (72, r72), (73, r73), (75, r75), (80, r80), (81, r81), (82, r82), (83, r83), (84, r84), (85, r85), (86, r86), (87, r87), (88, r88)] (by intro q hq; simp only [List.mem_cons, List.not_mem_nil, or_false] at hq; rcases hq with rfl | rfl | rfl | rfl | rfl | rfl | rfl | rfl | rfl | rfl | rfl | rfl | rfl <;> assumption) ?_
  refine mj_toL [(89, q89), (90, q90), (97, q97)] (by intro q hq; simp only [List.mem_cons, List.not_mem_nil, or_false] at hq; rcases hq with rfl | rfl | rfl <;> assumption) ?_
  refine mtX11_steps hR F I L r71 r72 r73 r75 r80 r81 r82 r83 r84 r85 r86 r87 r88 q89 q90 q97 x1 o hf ?_
  obtain ⟨w0, w1, w2, w3, w4, w5, w6, w7, w8, w9, w10, w11, w12⟩ := o
  refine mj_u2q ?_
  refine mj_u2q ?_
  refine mj_u2q ?_
  refine mj_u2q ?_
  refine mj_u2q ?_
  refine mj_u2q ?_
  refine mj_u2q ?_
  refine mj_u2q ?_
  refine mj_u2q ?_
  refine mj_u2q ?_
  refine mj_u2q ?_
  refine mj_u2q ?_
  exact ⟨rfl, rfl, rfl⟩

