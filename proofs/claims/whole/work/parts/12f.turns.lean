/-! ===== what is owed of the two programs, call by call; the turns of the law ===== -/
def pb_feed (F : Nat) (Inv : Nat → mj_IT → mj_LT → Prop) : Prop := ∀ (j : Nat), j < 512 → ∀ (I : mj_IT) (L : mj_LT), Inv j I L → ∀ (x1 x2 x3 x4 x5 : Int32), ∃ (v : Int32) (I1 I2 : mj_IT) (L1 L2 : mj_LT), stX10_feed F I L x1 x2 x3 x4 x5 = some (v, I1, L1) ∧ stX11_feed F I1 L1 x1 x2 x3 x4 x5 = some (v, I2, L2) ∧ Inv (j + 1) I2 L2
def pb_text (F : Nat) (Inv : Nat → mj_IT → mj_LT → Prop) : Prop := ∀ (j : Nat), j < 512 → ∀ (I : mj_IT) (L : mj_LT), Inv j I L → ∀ (x1 : Int32), ∃ (o : (Int32 × mj_IT × mj_LT) ⊕ (Nat × mj_IT × mj_LT)) (b : Int32) (t : Int32) (I2 I3 : mj_IT) (L2 L3 : mj_LT), stX10_text F I L x1 = some o ∧ (∀ q, o = .inr q → ok_text q.1 = true) ∧ stX11_text F (wr_text o).2.1 (wr_text o).2.2 x1 = some (b, I2, L2) ∧ stX11_thrown F I2 L2 = some (t, I3, L3) ∧ t = (wr_text o).1 ∧ ((wr_text o).1 = 0 → L3 98 0 = b.toInt64) ∧ Inv (j + 1) I3 L3
def pb_fault (F : Nat) (Inv : Nat → mj_IT → mj_LT → Prop) : Prop := ∀ (j : Nat), j < 512 → ∀ (I : mj_IT) (L : mj_LT), Inv j I L → ∃ (v : Int32) (I1 I2 : mj_IT) (L1 L2 : mj_LT), stX10_fault F I L = some (v, I1, L1) ∧ stX11_fault F I1 L1 = some (v, I2, L2) ∧ Inv (j + 1) I2 L2
def pb_first (F : Nat) (Inv : Nat → mj_IT → mj_LT → Prop) : Prop := ∀ (j : Nat), j < 512 → ∀ (I : mj_IT) (L : mj_LT), Inv j I L → ∀ (x1 x2 : Int32), ∃ (o : (Int32 × mj_IT × mj_LT) ⊕ (Nat × mj_IT × mj_LT)) (b : Int32) (t : Int32) (I2 I3 : mj_IT) (L2 L3 : mj_LT), stX10_first F I L x1 x2 = some o ∧ (∀ q, o = .inr q → ok_first q.1 = true) ∧ stX11_first F (wr_first o).2.1 (wr_first o).2.2 x1 x2 = some (b, I2, L2) ∧ stX11_thrown F I2 L2 = some (t, I3, L3) ∧ t = (wr_first o).1 ∧ ((wr_first o).1 = 0 → L3 98 0 = b.toInt64) ∧ Inv (j + 1) I3 L3
def pb_chance (F : Nat) (Inv : Nat → mj_IT → mj_LT → Prop) : Prop := ∀ (j : Nat), j < 512 → ∀ (I : mj_IT) (L : mj_LT), Inv j I L → ∀ (x1 x2 : Int32), ∃ (o : (Int32 × mj_IT × mj_LT) ⊕ (Nat × mj_IT × mj_LT)) (b : Int32) (t : Int32) (I2 I3 : mj_IT) (L2 L3 : mj_LT), stX10_chance F I L x1 x2 = some o ∧ (∀ q, o = .inr q → ok_chance q.1 = true) ∧ stX11_chance F (wr_chance o).2.1 (wr_chance o).2.2 x1 x2 = some (b, I2, L2) ∧ stX11_thrown F I2 L2 = some (t, I3, L3) ∧ t = (wr_chance o).1 ∧ ((wr_chance o).1 = 0 → L3 98 0 = b.toInt64) ∧ Inv (j + 1) I3 L3
def pb_undo (F : Nat) (Inv : Nat → mj_IT → mj_LT → Prop) : Prop := ∀ (j : Nat), j < 512 → ∀ (I : mj_IT) (L : mj_LT), Inv j I L → ∃ (v : Int32) (I1 I2 : mj_IT) (L1 L2 : mj_LT), stX10_undo F I L = some (v, I1, L1) ∧ stX11_undo F I1 L1 = some (v, I2, L2) ∧ Inv (j + 1) I2 L2
def pb_told (F : Nat) (Inv : Nat → mj_IT → mj_LT → Prop) : Prop := ∀ (j : Nat), j < 512 → ∀ (I : mj_IT) (L : mj_LT), Inv j I L → ∀ (x1 : Int32), ∃ (o : (Int32 × mj_IT × mj_LT) ⊕ (Nat × mj_IT × mj_LT)) (b : Int32) (t : Int32) (I2 I3 : mj_IT) (L2 L3 : mj_LT), stX10_told F I L x1 = some o ∧ (∀ q, o = .inr q → ok_told q.1 = true) ∧ stX11_told F (wr_told o).2.1 (wr_told o).2.2 x1 = some (b, I2, L2) ∧ stX11_thrown F I2 L2 = some (t, I3, L3) ∧ t = (wr_told o).1 ∧ ((wr_told o).1 = 0 → L3 98 0 = b.toInt64) ∧ Inv (j + 1) I3 L3
def pb_statement (F : Nat) (Inv : Nat → mj_IT → mj_LT → Prop) : Prop := ∀ (j : Nat), j < 512 → ∀ (I : mj_IT) (L : mj_LT), Inv j I L → ∀ (x1 x2 : Int32), ∃ (o : (Int32 × mj_IT × mj_LT) ⊕ (Nat × mj_IT × mj_LT)) (b : Int32) (t : Int32) (I2 I3 : mj_IT) (L2 L3 : mj_LT), stX10_statement F I L x1 x2 = some o ∧ (∀ q, o = .inr q → ok_statement q.1 = true) ∧ stX11_statement F (wr_statement o).2.1 (wr_statement o).2.2 x1 x2 = some (b, I2, L2) ∧ stX11_thrown F I2 L2 = some (t, I3, L3) ∧ t = (wr_statement o).1 ∧ ((wr_statement o).1 = 0 → L3 98 0 = b.toInt64) ∧ Inv (j + 1) I3 L3
def pb_firstOf (F : Nat) (Inv : Nat → mj_IT → mj_LT → Prop) : Prop := ∀ (j : Nat), j < 512 → ∀ (I : mj_IT) (L : mj_LT), Inv j I L → ∀ (x1 : Int32), ∃ (o : (Int32 × mj_IT × mj_LT) ⊕ (Nat × mj_IT × mj_LT)) (b : Int32) (t : Int32) (I2 I3 : mj_IT) (L2 L3 : mj_LT), stX10_firstOf F I L x1 = some o ∧ (∀ q, o = .inr q → ok_firstOf q.1 = true) ∧ stX11_firstOf F (wr_firstOf o).2.1 (wr_firstOf o).2.2 x1 = some (b, I2, L2) ∧ stX11_thrown F I2 L2 = some (t, I3, L3) ∧ t = (wr_firstOf o).1 ∧ ((wr_firstOf o).1 = 0 → L3 98 0 = b.toInt64) ∧ Inv (j + 1) I3 L3
def pb_state (F : Nat) (Inv : Nat → mj_IT → mj_LT → Prop) : Prop := ∀ (j : Nat), j < 512 → ∀ (I : mj_IT) (L : mj_LT), Inv j I L → ∀ (x1 x2 : Int32), ∃ (o : (Int32 × mj_IT × mj_LT) ⊕ (Nat × mj_IT × mj_LT)) (b : Int32) (t : Int32) (I2 I3 : mj_IT) (L2 L3 : mj_LT), stX10_state F I L x1 x2 = some o ∧ (∀ q, o = .inr q → ok_state q.1 = true) ∧ stX11_state F (wr_state o).2.1 (wr_state o).2.2 x1 x2 = some (b, I2, L2) ∧ stX11_thrown F I2 L2 = some (t, I3, L3) ∧ t = (wr_state o).1 ∧ ((wr_state o).1 = 0 → L3 98 0 = b.toInt64) ∧ Inv (j + 1) I3 L3
def pb_arc (F : Nat) (Inv : Nat → mj_IT → mj_LT → Prop) : Prop := ∀ (j : Nat), j < 512 → ∀ (I : mj_IT) (L : mj_LT), Inv j I L → ∀ (x1 x2 x3 : Int32), ∃ (o : (Int32 × mj_IT × mj_LT) ⊕ (Nat × mj_IT × mj_LT)) (b : Int32) (t : Int32) (I2 I3 : mj_IT) (L2 L3 : mj_LT), stX10_arc F I L x1 x2 x3 = some o ∧ (∀ q, o = .inr q → ok_arc q.1 = true) ∧ stX11_arc F (wr_arc o).2.1 (wr_arc o).2.2 x1 x2 x3 = some (b, I2, L2) ∧ stX11_thrown F I2 L2 = some (t, I3, L3) ∧ t = (wr_arc o).1 ∧ ((wr_arc o).1 = 0 → L3 98 0 = b.toInt64) ∧ Inv (j + 1) I3 L3
def pb_total (F : Nat) (Inv : Nat → mj_IT → mj_LT → Prop) : Prop := ∀ (j : Nat), j < 512 → ∀ (I : mj_IT) (L : mj_LT), Inv j I L → ∀ (x1 x2 : Int32), ∃ (o : (Int32 × mj_IT × mj_LT) ⊕ (Nat × mj_IT × mj_LT)) (b : Int32) (t : Int32) (I2 I3 : mj_IT) (L2 L3 : mj_LT), stX10_total F I L x1 x2 = some o ∧ (∀ q, o = .inr q → ok_total q.1 = true) ∧ stX11_total F (wr_total o).2.1 (wr_total o).2.2 x1 x2 = some (b, I2, L2) ∧ stX11_thrown F I2 L2 = some (t, I3, L3) ∧ t = (wr_total o).1 ∧ ((wr_total o).1 = 0 → L3 98 0 = b.toInt64) ∧ Inv (j + 1) I3 L3
def pb_value (F : Nat) (Inv : Nat → mj_IT → mj_LT → Prop) : Prop := ∀ (j : Nat), j < 512 → ∀ (I : mj_IT) (L : mj_LT), Inv j I L → ∀ (x1 x2 x3 : Int32), ∃ (o : (Int32 × mj_IT × mj_LT) ⊕ (Nat × mj_IT × mj_LT)) (b : Int32) (t : Int32) (I2 I3 : mj_IT) (L2 L3 : mj_LT), stX10_value F I L x1 x2 x3 = some o ∧ (∀ q, o = .inr q → ok_value q.1 = true) ∧ stX11_value F (wr_value o).2.1 (wr_value o).2.2 x1 x2 x3 = some (b, I2, L2) ∧ stX11_thrown F I2 L2 = some (t, I3, L3) ∧ t = (wr_value o).1 ∧ ((wr_value o).1 = 0 → L3 98 0 = b.toInt64) ∧ Inv (j + 1) I3 L3
def pb_both (F : Nat) (Inv : Nat → mj_IT → mj_LT → Prop) : Prop := ∀ (j : Nat), j < 512 → ∀ (I : mj_IT) (L : mj_LT), Inv j I L → ∀ (x1 x2 x3 x4 x5 : Int32), ∃ (o : (Int32 × mj_IT × mj_LT) ⊕ (Nat × mj_IT × mj_LT)) (b : Int32) (t : Int32) (I2 I3 : mj_IT) (L2 L3 : mj_LT), stX10_both F I L x1 x2 x3 x4 x5 = some o ∧ (∀ q, o = .inr q → ok_both q.1 = true) ∧ stX11_both F (wr_both o).2.1 (wr_both o).2.2 x1 x2 x3 x4 x5 = some (b, I2, L2) ∧ stX11_thrown F I2 L2 = some (t, I3, L3) ∧ t = (wr_both o).1 ∧ ((wr_both o).1 = 0 → L3 98 0 = b.toInt64) ∧ Inv (j + 1) I3 L3
def pb_mean (F : Nat) (Inv : Nat → mj_IT → mj_LT → Prop) : Prop := ∀ (j : Nat), j < 512 → ∀ (I : mj_IT) (L : mj_LT), Inv j I L → ∀ (x1 x2 : Int32), ∃ (o : (Int32 × mj_IT × mj_LT) ⊕ (Nat × mj_IT × mj_LT)) (b : Int32) (t : Int32) (I2 I3 : mj_IT) (L2 L3 : mj_LT), stX10_mean F I L x1 x2 = some o ∧ (∀ q, o = .inr q → ok_mean q.1 = true) ∧ stX11_mean F (wr_mean o).2.1 (wr_mean o).2.2 x1 x2 = some (b, I2, L2) ∧ stX11_thrown F I2 L2 = some (t, I3, L3) ∧ t = (wr_mean o).1 ∧ ((wr_mean o).1 = 0 → L3 98 0 = b.toInt64) ∧ Inv (j + 1) I3 L3
def pb_independent (F : Nat) (Inv : Nat → mj_IT → mj_LT → Prop) : Prop := ∀ (j : Nat), j < 512 → ∀ (I : mj_IT) (L : mj_LT), Inv j I L → ∀ (x1 x2 : Int32), ∃ (o : (Int32 × mj_IT × mj_LT) ⊕ (Nat × mj_IT × mj_LT)) (b : Int32) (t : Int32) (I2 I3 : mj_IT) (L2 L3 : mj_LT), stX10_independent F I L x1 x2 = some o ∧ (∀ q, o = .inr q → ok_independent q.1 = true) ∧ stX11_independent F (wr_independent o).2.1 (wr_independent o).2.2 x1 x2 = some (b, I2, L2) ∧ stX11_thrown F I2 L2 = some (t, I3, L3) ∧ t = (wr_independent o).1 ∧ ((wr_independent o).1 = 0 → L3 98 0 = b.toInt64) ∧ Inv (j + 1) I3 L3
def pb_visits (F : Nat) (Inv : Nat → mj_IT → mj_LT → Prop) : Prop := ∀ (j : Nat), j < 512 → ∀ (I : mj_IT) (L : mj_LT), Inv j I L → ∀ (x1 x2 : Int32), ∃ (o : (Int32 × mj_IT × mj_LT) ⊕ (Nat × mj_IT × mj_LT)) (b : Int32) (t : Int32) (I2 I3 : mj_IT) (L2 L3 : mj_LT), stX10_visits F I L x1 x2 = some o ∧ (∀ q, o = .inr q → ok_visits q.1 = true) ∧ stX11_visits F (wr_visits o).2.1 (wr_visits o).2.2 x1 x2 = some (b, I2, L2) ∧ stX11_thrown F I2 L2 = some (t, I3, L3) ∧ t = (wr_visits o).1 ∧ ((wr_visits o).1 = 0 → L3 98 0 = b.toInt64) ∧ Inv (j + 1) I3 L3
def pb_steps (F : Nat) (Inv : Nat → mj_IT → mj_LT → Prop) : Prop := ∀ (j : Nat), j < 512 → ∀ (I : mj_IT) (L : mj_LT), Inv j I L → ∀ (x1 : Int32), ∃ (o : (Int32 × mj_IT × mj_LT) ⊕ (Nat × mj_IT × mj_LT)) (b : Int32) (t : Int32) (I2 I3 : mj_IT) (L2 L3 : mj_LT), stX10_steps F I L x1 = some o ∧ (∀ q, o = .inr q → ok_steps q.1 = true) ∧ stX11_steps F (wr_steps o).2.1 (wr_steps o).2.2 x1 = some (b, I2, L2) ∧ stX11_thrown F I2 L2 = some (t, I3, L3) ∧ t = (wr_steps o).1 ∧ ((wr_steps o).1 = 0 → L3 98 0 = b.toInt64) ∧ Inv (j + 1) I3 L3
def pb_within (F : Nat) (Inv : Nat → mj_IT → mj_LT → Prop) : Prop := ∀ (j : Nat), j < 512 → ∀ (I : mj_IT) (L : mj_LT), Inv j I L → ∀ (x1 x2 : Int32), ∃ (o : (Int32 × mj_IT × mj_LT) ⊕ (Nat × mj_IT × mj_LT)) (b : Int32) (t : Int32) (I2 I3 : mj_IT) (L2 L3 : mj_LT), stX10_within F I L x1 x2 = some o ∧ (∀ q, o = .inr q → ok_within q.1 = true) ∧ stX11_within F (wr_within o).2.1 (wr_within o).2.2 x1 x2 = some (b, I2, L2) ∧ stX11_thrown F I2 L2 = some (t, I3, L3) ∧ t = (wr_within o).1 ∧ ((wr_within o).1 = 0 → L3 98 0 = b.toInt64) ∧ Inv (j + 1) I3 L3
def pb_classes (F : Nat) (Inv : Nat → mj_IT → mj_LT → Prop) : Prop := ∀ (j : Nat), j < 512 → ∀ (I : mj_IT) (L : mj_LT), Inv j I L → ∀ (x1 : Int32), ∃ (o : (Int32 × mj_IT × mj_LT) ⊕ (Nat × mj_IT × mj_LT)) (b : Int32) (t : Int32) (I2 I3 : mj_IT) (L2 L3 : mj_LT), stX10_classes F I L x1 = some o ∧ (∀ q, o = .inr q → ok_classes q.1 = true) ∧ stX11_classes F (wr_classes o).2.1 (wr_classes o).2.2 x1 = some (b, I2, L2) ∧ stX11_thrown F I2 L2 = some (t, I3, L3) ∧ t = (wr_classes o).1 ∧ ((wr_classes o).1 = 0 → L3 98 0 = b.toInt64) ∧ Inv (j + 1) I3 L3
def pb_classOf (F : Nat) (Inv : Nat → mj_IT → mj_LT → Prop) : Prop := ∀ (j : Nat), j < 512 → ∀ (I : mj_IT) (L : mj_LT), Inv j I L → ∀ (x1 x2 : Int32), ∃ (o : (Int32 × mj_IT × mj_LT) ⊕ (Nat × mj_IT × mj_LT)) (b : Int32) (t : Int32) (I2 I3 : mj_IT) (L2 L3 : mj_LT), stX10_classOf F I L x1 x2 = some o ∧ (∀ q, o = .inr q → ok_classOf q.1 = true) ∧ stX11_classOf F (wr_classOf o).2.1 (wr_classOf o).2.2 x1 x2 = some (b, I2, L2) ∧ stX11_thrown F I2 L2 = some (t, I3, L3) ∧ t = (wr_classOf o).1 ∧ ((wr_classOf o).1 = 0 → L3 98 0 = b.toInt64) ∧ Inv (j + 1) I3 L3
def pb_run (F : Nat) (Inv : Nat → mj_IT → mj_LT → Prop) : Prop := ∀ (j : Nat), j < 512 → ∀ (I : mj_IT) (L : mj_LT), Inv j I L → ∀ (x1 : Int32), ∃ (o : (Int32 × mj_IT × mj_LT) ⊕ (Nat × mj_IT × mj_LT)) (b : Int32) (t : Int32) (I2 I3 : mj_IT) (L2 L3 : mj_LT), stX10_run F I L x1 = some o ∧ (∀ q, o = .inr q → ok_run q.1 = true) ∧ stX11_run F (wr_run o).2.1 (wr_run o).2.2 x1 = some (b, I2, L2) ∧ stX11_thrown F I2 L2 = some (t, I3, L3) ∧ t = (wr_run o).1 ∧ ((wr_run o).1 = 0 → L3 98 0 = b.toInt64) ∧ Inv (j + 1) I3 L3
def pb_worth (F : Nat) (Inv : Nat → mj_IT → mj_LT → Prop) : Prop := ∀ (j : Nat), j < 512 → ∀ (I : mj_IT) (L : mj_LT), Inv j I L → ∃ (o : (Int64 × mj_IT × mj_LT) ⊕ (Nat × mj_IT × mj_LT)) (b : Int64) (t : Int32) (I2 I3 : mj_IT) (L2 L3 : mj_LT), stX10_worth F I L = some o ∧ (∀ q, o = .inr q → ok_worth q.1 = true) ∧ stX11_worth F (wr_worth o).2.1 (wr_worth o).2.2 = some (b, I2, L2) ∧ stX11_thrown F I2 L2 = some (t, I3, L3) ∧ t = (wr_worth o).1 ∧ ((wr_worth o).1 = 0 → L3 98 0 = b) ∧ Inv (j + 1) I3 L3
def pb_print (F : Nat) (Inv : Nat → mj_IT → mj_LT → Prop) : Prop := ∀ (j : Nat), j < 512 → ∀ (I : mj_IT) (L : mj_LT), Inv j I L → ∃ (v : Int64) (I1 I2 : mj_IT) (L1 L2 : mj_LT), stX10_print F I L = some (v, I1, L1) ∧ stX11_print F I1 L1 = some (v, I2, L2) ∧ Inv (j + 1) I2 L2
def pb_status (F : Nat) (Inv : Nat → mj_IT → mj_LT → Prop) : Prop := ∀ (j : Nat), j < 512 → ∀ (I : mj_IT) (L : mj_LT), Inv j I L → ∀ (x1 : Int32), ∃ (v : Int32) (I1 I2 : mj_IT) (L1 L2 : mj_LT), stX10_status F I L x1 = some (v, I1, L1) ∧ stX11_status F I1 L1 x1 = some (v, I2, L2) ∧ Inv (j + 1) I2 L2
def pb_all (F : Nat) (Inv : Nat → mj_IT → mj_LT → Prop) : Prop := pb_feed F Inv ∧ pb_text F Inv ∧ pb_fault F Inv ∧ pb_first F Inv ∧ pb_chance F Inv ∧ pb_undo F Inv ∧ pb_told F Inv ∧ pb_statement F Inv ∧ pb_firstOf F Inv ∧ pb_state F Inv ∧ pb_arc F Inv ∧ pb_total F Inv ∧ pb_value F Inv ∧ pb_both F Inv ∧ pb_mean F Inv ∧ pb_independent F Inv ∧ pb_visits F Inv ∧ pb_steps F Inv ∧ pb_within F Inv ∧ pb_classes F Inv ∧ pb_classOf F Inv ∧ pb_run F Inv ∧ pb_worth F Inv ∧ pb_print F Inv ∧ pb_status F Inv
theorem mj_in32 {y : Int32} (h : ¬ (y.toInt < 0 ∨ 24 < y.toInt)) : ∃ k : Nat, k < 25 ∧ y = Int32.ofNat k := by
  refine ⟨y.toInt.toNat, by omega, ?_⟩
  apply Int32.toInt_inj.mp
  rw [Int32.toInt_ofNat_small (by omega)]
  omega
theorem mj_len {N : Nat} (hN : N ≤ 3072) {i : Nat} (hi : i ≤ 4000) : (Int32.ofNat N - 6 < Int32.ofNat i ↔ N < i + 6) := by
  have e1 : (Int32.ofNat N - 6).toInt = (N : Int) - 6 := by
    rw [Int32.toInt_sub, Int32.toInt_ofNat_small (by omega)]
    have : (6 : Int32).toInt = 6 := by decide
    rw [this]
    exact Int.bmod_eq_of_le_mul_two (by omega) (by omega)
  rw [Int32.lt_iff_toInt_lt, e1, Int32.toInt_ofNat_small (by omega)]
  omega
theorem lw_next {X : mj_XT} {G : mj_GT} {nm : String} {ad : Nat → Nat} {kc ks : Nat} {I : mj_IT} {L : mj_LT} {j : Nat} (k : mj_W X G RL nm cL_law 8 51 (some .boolean) mj_P0 mj_S0 98 ad kc ks 23 [(0, .ref 2050), (1, .ref 1), (2, .ref 71), (3, .ref 98), (4, .int (Int32.ofNat (6 * (j + 1))))] [] I L) : mj_W X G RL nm cL_law 8 51 (some .boolean) mj_P0 mj_S0 98 ad kc ks 1617 [(0, .ref 2050), (1, .ref 1), (2, .ref 71), (3, .ref 98), (4, .int (Int32.ofNat (6 * j)))] [] I L := by
  have e : Int32.ofNat (6 * j) + Int32.ofInt 6 = Int32.ofNat (6 * (j + 1)) := by
    rw [show 6 * (j + 1) = 6 * j + 6 by omega, Int32.ofNat_add]
    rfl
  refine mj_iinc (v := Int32.ofNat (6 * (j + 1))) 4 [(4, .int (Int32.ofNat (6 * (j + 1)))), (0, .ref 2050), (1, .ref 1), (2, .ref 71), (3, .ref 98)] dL_law_1617 rfl e (by decide) rfl ?_
  refine mj_goto 23 dL_law_1620 (by decide) ?_
  refine mj_sub [1, 2, 3, 4, 0] [(0, .ref 2050), (1, .ref 1), (2, .ref 71), (3, .ref 98), (4, .int (Int32.ofNat (6 * (j + 1))))] rfl ?_
  exact k
theorem mj_ix0 {N : Nat} (hN : N ≤ 3072) {i : Nat} (h : i < N) : (Int32.ofNat i).toNatClampNeg = i ∧ vp_in (Int32.ofNat i) N := by
  have h1 := mj_ix (N := N) hN (i := i) (t := 0) (by omega)
  have e : Int32.ofNat i + Int32.ofNat 0 = Int32.ofNat i := (Int32.ofNat_add i 0).symm
  rw [e] at h1
  exact h1
set_option maxRecDepth 100000 in
set_option maxHeartbeats 4000000 in
theorem lw_turn {X : mj_XT} {G : mj_GT} {nm : String} {ad : Nat → Nat} {kc ks : Nat} {I : mj_IT} {L : mj_LT} {N : Nat} {xs : Nat → Int32} (hsc : mj_scr X G N xs) (hN : N ≤ 3072) (hlt : X.2.1.stackTraces = false) (F j : Nat) (hj : 6 * j + 6 ≤ N) (hroom : kc + 7 ≤ X.2.2.2.1.cells ∧ ks + 42 ≤ X.2.2.2.1.slots) (Inv : Nat → mj_IT → mj_LT → Prop) (hB : pb_all F Inv) (hI : Inv j I L)
    (hmono : ∀ I L, Inv j I L → Inv (j + 1) I L) (k : ∀ (ad' : Nat → Nat) (I' : mj_IT) (L' : mj_LT), Inv (j + 1) I' L' → mj_W X G RL nm cL_law 8 51 (some .boolean) mj_P0 mj_S0 98 ad' (kc + 7) (ks + 42) 1617 [(0, .ref 2050), (1, .ref 1), (2, .ref 71), (3, .ref 98), (4, .int (Int32.ofNat (6 * j)))] [] I' L') : mj_W X G RL nm cL_law 8 51 (some .boolean) mj_P0 mj_S0 98 ad kc ks 33 [(0, .ref 2050), (1, .ref 1), (2, .ref 71), (3, .ref 98), (4, .int (Int32.ofNat (6 * j)))] [] I L := by
  refine mj_aload_n 0 dL_law_33 rfl ?_
  refine mj_iload 4 dL_law_34 rfl ?_
  refine mj_sld (6 * j) hsc (mj_ix0 hN (by omega)) dL_law_36 ?_
  refine mj_bipush (v := 31) dL_law_37 (by decide +kernel) ?_
  refine mj_iand dL_law_39 ?_
  generalize xs (6 * j) &&& 31 = y
  by_cases hy : y.toInt < 0 ∨ 24 < y.toInt
  · refine mj_tsO 1617 hy dL_law_40 (by decide) ?_
    exact mj_wid (by omega) (by omega) (k ad I L (hmono I L hI))
  · obtain ⟨q, hq, rfl⟩ := mj_in32 hy
    obtain ⟨hfeed, htext, hfault, hfirst, hchance, hundo, htold, hstatement, hfirstOf, hstate, harc, htotal, hvalue, hboth, hmean, hindependent, hvisits, hsteps, hwithin, hclasses, hclassOf, hrun, hworth, hprint, hstatus⟩ := hB
    by_cases e0 : q = 0
    · subst e0
      refine mj_tsI (v := 0) (off := 116) 156 (by decide +kernel) dL_law_40 (by decide) (by decide) (by decide) (by decide) ?_
      obtain ⟨v, I1, I2, L1, L2, a1, a2, a3⟩ := hfeed j (by omega) I L hI (xs (6 * j + 1)) (xs (6 * j + 2)) (xs (6 * j + 3)) (xs (6 * j + 4)) (xs (6 * j + 5))
      exact lc_feed hsc hN hlt F j hj hroom v I1 I2 L1 L2 a1 a2 (fun ad9 _ => k ad9 I2 L2 a3)
    by_cases e1 : q = 1
    · subst e1
      refine mj_tsI (v := 1) (off := 189) 229 (by decide +kernel) dL_law_40 (by decide) (by decide) (by decide) (by decide) ?_
      obtain ⟨o, b, t, I2, I3, L2, L3, a1, a2, a3, a4, a5, a6, a7⟩ := htext j (by omega) I L hI (xs (6 * j + 1))
      exact lc_text hsc hN hlt F j hj hroom o a1 a2 b t I2 I3 L2 L3 a3 a4 a5 a6 (fun ad9 _ => k ad9 I3 L3 a7)
    by_cases e2 : q = 2
    · subst e2
      refine mj_tsI (v := 2) (off := 245) 285 (by decide +kernel) dL_law_40 (by decide) (by decide) (by decide) (by decide) ?_
      obtain ⟨v, I1, I2, L1, L2, a1, a2, a3⟩ := hfault j (by omega) I L hI
      exact lc_fault hsc hN hlt F j hj hroom v I1 I2 L1 L2 a1 a2 (fun ad9 _ => k ad9 I2 L2 a3)
    by_cases e3 : q = 3
    · subst e3
      refine mj_tsI (v := 3) (off := 258) 298 (by decide +kernel) dL_law_40 (by decide) (by decide) (by decide) (by decide) ?_
      obtain ⟨o, b, t, I2, I3, L2, L3, a1, a2, a3, a4, a5, a6, a7⟩ := hfirst j (by omega) I L hI (xs (6 * j + 1)) (xs (6 * j + 2))
      exact lc_first hsc hN hlt F j hj hroom o a1 a2 b t I2 I3 L2 L3 a3 a4 a5 a6 (fun ad9 _ => k ad9 I3 L3 a7)
    by_cases e4 : q = 4
    · subst e4
      refine mj_tsI (v := 4) (off := 326) 366 (by decide +kernel) dL_law_40 (by decide) (by decide) (by decide) (by decide) ?_
      obtain ⟨o, b, t, I2, I3, L2, L3, a1, a2, a3, a4, a5, a6, a7⟩ := hchance j (by omega) I L hI (xs (6 * j + 1)) (xs (6 * j + 2))
      exact lc_chance hsc hN hlt F j hj hroom o a1 a2 b t I2 I3 L2 L3 a3 a4 a5 a6 (fun ad9 _ => k ad9 I3 L3 a7)
    by_cases e5 : q = 5
    · subst e5
      refine mj_tsI (v := 5) (off := 394) 434 (by decide +kernel) dL_law_40 (by decide) (by decide) (by decide) (by decide) ?_
      obtain ⟨v, I1, I2, L1, L2, a1, a2, a3⟩ := hundo j (by omega) I L hI
      exact lc_undo hsc hN hlt F j hj hroom v I1 I2 L1 L2 a1 a2 (fun ad9 _ => k ad9 I2 L2 a3)
    by_cases e6 : q = 6
    · subst e6
      refine mj_tsI (v := 6) (off := 407) 447 (by decide +kernel) dL_law_40 (by decide) (by decide) (by decide) (by decide) ?_
      obtain ⟨o, b, t, I2, I3, L2, L3, a1, a2, a3, a4, a5, a6, a7⟩ := htold j (by omega) I L hI (xs (6 * j + 1))
      exact lc_told hsc hN hlt F j hj hroom o a1 a2 b t I2 I3 L2 L3 a3 a4 a5 a6 (fun ad9 _ => k ad9 I3 L3 a7)
    by_cases e7 : q = 7
    · subst e7
      refine mj_tsI (v := 7) (off := 463) 503 (by decide +kernel) dL_law_40 (by decide) (by decide) (by decide) (by decide) ?_
      obtain ⟨o, b, t, I2, I3, L2, L3, a1, a2, a3, a4, a5, a6, a7⟩ := hstatement j (by omega) I L hI (xs (6 * j + 1)) (xs (6 * j + 2))
      exact lc_statement hsc hN hlt F j hj hroom o a1 a2 b t I2 I3 L2 L3 a3 a4 a5 a6 (fun ad9 _ => k ad9 I3 L3 a7)
    by_cases e8 : q = 8
    · subst e8
      refine mj_tsI (v := 8) (off := 531) 571 (by decide +kernel) dL_law_40 (by decide) (by decide) (by decide) (by decide) ?_
      obtain ⟨o, b, t, I2, I3, L2, L3, a1, a2, a3, a4, a5, a6, a7⟩ := hfirstOf j (by omega) I L hI (xs (6 * j + 1))
      exact lc_firstOf hsc hN hlt F j hj hroom o a1 a2 b t I2 I3 L2 L3 a3 a4 a5 a6 (fun ad9 _ => k ad9 I3 L3 a7)
    by_cases e9 : q = 9
    · subst e9
      refine mj_tsI (v := 9) (off := 587) 627 (by decide +kernel) dL_law_40 (by decide) (by decide) (by decide) (by decide) ?_
      obtain ⟨o, b, t, I2, I3, L2, L3, a1, a2, a3, a4, a5, a6, a7⟩ := hstate j (by omega) I L hI (xs (6 * j + 1)) (xs (6 * j + 2))
      exact lc_state hsc hN hlt F j hj hroom o a1 a2 b t I2 I3 L2 L3 a3 a4 a5 a6 (fun ad9 _ => k ad9 I3 L3 a7)
    by_cases e10 : q = 10
    · subst e10
      refine mj_tsI (v := 10) (off := 655) 695 (by decide +kernel) dL_law_40 (by decide) (by decide) (by decide) (by decide) ?_
      obtain ⟨o, b, t, I2, I3, L2, L3, a1, a2, a3, a4, a5, a6, a7⟩ := harc j (by omega) I L hI (xs (6 * j + 1)) (xs (6 * j + 2)) (xs (6 * j + 3))
      exact lc_arc hsc hN hlt F j hj hroom o a1 a2 b t I2 I3 L2 L3 a3 a4 a5 a6 (fun ad9 _ => k ad9 I3 L3 a7)
    by_cases e11 : q = 11
    · subst e11
      refine mj_tsI (v := 11) (off := 735) 775 (by decide +kernel) dL_law_40 (by decide) (by decide) (by decide) (by decide) ?_
      obtain ⟨o, b, t, I2, I3, L2, L3, a1, a2, a3, a4, a5, a6, a7⟩ := htotal j (by omega) I L hI (xs (6 * j + 1)) (xs (6 * j + 2))
      exact lc_total hsc hN hlt F j hj hroom o a1 a2 b t I2 I3 L2 L3 a3 a4 a5 a6 (fun ad9 _ => k ad9 I3 L3 a7)
    by_cases e12 : q = 12
    · subst e12
      refine mj_tsI (v := 12) (off := 803) 843 (by decide +kernel) dL_law_40 (by decide) (by decide) (by decide) (by decide) ?_
      obtain ⟨o, b, t, I2, I3, L2, L3, a1, a2, a3, a4, a5, a6, a7⟩ := hvalue j (by omega) I L hI (xs (6 * j + 1)) (xs (6 * j + 2)) (xs (6 * j + 3))
      exact lc_value hsc hN hlt F j hj hroom o a1 a2 b t I2 I3 L2 L3 a3 a4 a5 a6 (fun ad9 _ => k ad9 I3 L3 a7)
    by_cases e13 : q = 13
    · subst e13
      refine mj_tsI (v := 13) (off := 883) 923 (by decide +kernel) dL_law_40 (by decide) (by decide) (by decide) (by decide) ?_
      obtain ⟨o, b, t, I2, I3, L2, L3, a1, a2, a3, a4, a5, a6, a7⟩ := hboth j (by omega) I L hI (xs (6 * j + 1)) (xs (6 * j + 2)) (xs (6 * j + 3)) (xs (6 * j + 4)) (xs (6 * j + 5))
      exact lc_both hsc hN hlt F j hj hroom o a1 a2 b t I2 I3 L2 L3 a3 a4 a5 a6 (fun ad9 _ => k ad9 I3 L3 a7)
    by_cases e14 : q = 14
    · subst e14
      refine mj_tsI (v := 14) (off := 987) 1027 (by decide +kernel) dL_law_40 (by decide) (by decide) (by decide) (by decide) ?_
      obtain ⟨o, b, t, I2, I3, L2, L3, a1, a2, a3, a4, a5, a6, a7⟩ := hmean j (by omega) I L hI (xs (6 * j + 1)) (xs (6 * j + 2))
      exact lc_mean hsc hN hlt F j hj hroom o a1 a2 b t I2 I3 L2 L3 a3 a4 a5 a6 (fun ad9 _ => k ad9 I3 L3 a7)
    by_cases e15 : q = 15
    · subst e15
      refine mj_tsI (v := 15) (off := 1055) 1095 (by decide +kernel) dL_law_40 (by decide) (by decide) (by decide) (by decide) ?_
      obtain ⟨o, b, t, I2, I3, L2, L3, a1, a2, a3, a4, a5, a6, a7⟩ := hindependent j (by omega) I L hI (xs (6 * j + 1)) (xs (6 * j + 2))
      exact lc_independent hsc hN hlt F j hj hroom o a1 a2 b t I2 I3 L2 L3 a3 a4 a5 a6 (fun ad9 _ => k ad9 I3 L3 a7)
    by_cases e16 : q = 16
    · subst e16
      refine mj_tsI (v := 16) (off := 1123) 1163 (by decide +kernel) dL_law_40 (by decide) (by decide) (by decide) (by decide) ?_
      obtain ⟨o, b, t, I2, I3, L2, L3, a1, a2, a3, a4, a5, a6, a7⟩ := hvisits j (by omega) I L hI (xs (6 * j + 1)) (xs (6 * j + 2))
      exact lc_visits hsc hN hlt F j hj hroom o a1 a2 b t I2 I3 L2 L3 a3 a4 a5 a6 (fun ad9 _ => k ad9 I3 L3 a7)
    by_cases e17 : q = 17
    · subst e17
      refine mj_tsI (v := 17) (off := 1191) 1231 (by decide +kernel) dL_law_40 (by decide) (by decide) (by decide) (by decide) ?_
      obtain ⟨o, b, t, I2, I3, L2, L3, a1, a2, a3, a4, a5, a6, a7⟩ := hsteps j (by omega) I L hI (xs (6 * j + 1))
      exact lc_steps hsc hN hlt F j hj hroom o a1 a2 b t I2 I3 L2 L3 a3 a4 a5 a6 (fun ad9 _ => k ad9 I3 L3 a7)
    by_cases e18 : q = 18
    · subst e18
      refine mj_tsI (v := 18) (off := 1247) 1287 (by decide +kernel) dL_law_40 (by decide) (by decide) (by decide) (by decide) ?_
      obtain ⟨o, b, t, I2, I3, L2, L3, a1, a2, a3, a4, a5, a6, a7⟩ := hwithin j (by omega) I L hI (xs (6 * j + 1)) (xs (6 * j + 2))
      exact lc_within hsc hN hlt F j hj hroom o a1 a2 b t I2 I3 L2 L3 a3 a4 a5 a6 (fun ad9 _ => k ad9 I3 L3 a7)
    by_cases e19 : q = 19
    · subst e19
      refine mj_tsI (v := 19) (off := 1315) 1355 (by decide +kernel) dL_law_40 (by decide) (by decide) (by decide) (by decide) ?_
      obtain ⟨o, b, t, I2, I3, L2, L3, a1, a2, a3, a4, a5, a6, a7⟩ := hclasses j (by omega) I L hI (xs (6 * j + 1))
      exact lc_classes hsc hN hlt F j hj hroom o a1 a2 b t I2 I3 L2 L3 a3 a4 a5 a6 (fun ad9 _ => k ad9 I3 L3 a7)
    by_cases e20 : q = 20
    · subst e20
      refine mj_tsI (v := 20) (off := 1371) 1411 (by decide +kernel) dL_law_40 (by decide) (by decide) (by decide) (by decide) ?_
      obtain ⟨o, b, t, I2, I3, L2, L3, a1, a2, a3, a4, a5, a6, a7⟩ := hclassOf j (by omega) I L hI (xs (6 * j + 1)) (xs (6 * j + 2))
      exact lc_classOf hsc hN hlt F j hj hroom o a1 a2 b t I2 I3 L2 L3 a3 a4 a5 a6 (fun ad9 _ => k ad9 I3 L3 a7)
    by_cases e21 : q = 21
    · subst e21
      refine mj_tsI (v := 21) (off := 1439) 1479 (by decide +kernel) dL_law_40 (by decide) (by decide) (by decide) (by decide) ?_
      obtain ⟨o, b, t, I2, I3, L2, L3, a1, a2, a3, a4, a5, a6, a7⟩ := hrun j (by omega) I L hI (xs (6 * j + 1))
      exact lc_run hsc hN hlt F j hj hroom o a1 a2 b t I2 I3 L2 L3 a3 a4 a5 a6 (fun ad9 _ => k ad9 I3 L3 a7)
    by_cases e22 : q = 22
    · subst e22
      refine mj_tsI (v := 22) (off := 1495) 1535 (by decide +kernel) dL_law_40 (by decide) (by decide) (by decide) (by decide) ?_
      obtain ⟨o, b, t, I2, I3, L2, L3, a1, a2, a3, a4, a5, a6, a7⟩ := hworth j (by omega) I L hI
      exact lc_worth hsc hN hlt F j hj hroom o a1 a2 b t I2 I3 L2 L3 a3 a4 a5 a6 (fun ad9 _ => k ad9 I3 L3 a7)
    by_cases e23 : q = 23
    · subst e23
      refine mj_tsI (v := 23) (off := 1538) 1578 (by decide +kernel) dL_law_40 (by decide) (by decide) (by decide) (by decide) ?_
      obtain ⟨v, I1, I2, L1, L2, a1, a2, a3⟩ := hprint j (by omega) I L hI
      exact lc_print hsc hN hlt F j hj hroom v I1 I2 L1 L2 a1 a2 (fun ad9 _ => k ad9 I2 L2 a3)
    by_cases e24 : q = 24
    · subst e24
      refine mj_tsI (v := 24) (off := 1552) 1592 (by decide +kernel) dL_law_40 (by decide) (by decide) (by decide) (by decide) ?_
      obtain ⟨v, I1, I2, L1, L2, a1, a2, a3⟩ := hstatus j (by omega) I L hI (xs (6 * j + 1))
      exact lc_status hsc hN hlt F j hj hroom v I1 I2 L1 L2 a1 a2 (fun ad9 _ => k ad9 I2 L2 a3)
    omega
theorem lw_turns {X : mj_XT} {G : mj_GT} {nm : String} {N : Nat} {xs : Nat → Int32} (hsc : mj_scr X G N xs) (hN : N ≤ 3072) (hlt : X.2.1.stackTraces = false) (F : Nat) (Inv : Nat → mj_IT → mj_LT → Prop) (hB : pb_all F Inv) (hmono : ∀ j I L, Inv j I L → Inv (j + 1) I L) (M1 M2 : Nat) (hM : M1 ≤ X.2.2.2.1.cells ∧ M2 ≤ X.2.2.2.1.slots)
    (k : ∀ (j : Nat) (ad : Nat → Nat) (I : mj_IT) (L : mj_LT) (kc ks : Nat), kc ≤ M1 ∧ ks ≤ M2 → mj_W X G RL nm cL_law 8 51 (some .boolean) mj_P0 mj_S0 98 ad kc ks 1623 [(0, .ref 2050), (1, .ref 1), (2, .ref 71), (3, .ref 98), (4, .int (Int32.ofNat (6 * j)))] [] I L) :
    ∀ (u j : Nat) (ad : Nat → Nat) (I : mj_IT) (L : mj_LT) (kc ks : Nat), N ≤ 6 * j + 6 * u → 6 * j ≤ N + 6 → Inv j I L → kc + 7 * u ≤ M1 ∧ ks + 42 * u ≤ M2 → mj_W X G RL nm cL_law 8 51 (some .boolean) mj_P0 mj_S0 98 ad kc ks 23 [(0, .ref 2050), (1, .ref 1), (2, .ref 71), (3, .ref 98), (4, .int (Int32.ofNat (6 * j)))] [] I L := by
  intro u
  induction u with
  | zero =>
    intro j ad I L kc ks h1 h2 hI hr
    refine mj_iload 4 dL_law_23 rfl ?_
    refine mj_aload_n 0 dL_law_25 rfl ?_
    refine mj_slen hsc dL_law_26 ?_
    refine mj_bipush (v := 6) dL_law_27 (by decide +kernel) ?_
    refine mj_isub dL_law_29 ?_
    refine mj_icmp_gt 1623 dL_law_30 (by decide) (fun _ => ?_) (fun hc => absurd ((mj_len hN (i := 6 * j) (by omega)).mpr (by omega)) hc)
    exact k j ad I L kc ks ⟨by omega, by omega⟩
  | succ u ih =>
    intro j ad I L kc ks h1 h2 hI hr
    refine mj_iload 4 dL_law_23 rfl ?_
    refine mj_aload_n 0 dL_law_25 rfl ?_
    refine mj_slen hsc dL_law_26 ?_
    refine mj_bipush (v := 6) dL_law_27 (by decide +kernel) ?_
    refine mj_isub dL_law_29 ?_
    refine mj_icmp_gt 1623 dL_law_30 (by decide) (fun _ => ?_) (fun hc => ?_)
    · exact k j ad I L kc ks ⟨by omega, by omega⟩
    · have hj : 6 * j + 6 ≤ N := Nat.le_of_not_lt (fun z => hc ((mj_len hN (i := 6 * j) (by omega)).mpr z))
      refine lw_turn hsc hN hlt F j hj ⟨by omega, by omega⟩ Inv hB hI (hmono j) (fun ad' I' L' hI' => ?_)
      refine lw_next ?_
      exact ih (j + 1) ad' I' L' (kc + 7) (ks + 42) (by omega) (by omega) hI' ⟨by omega, by omega⟩
