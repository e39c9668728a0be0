/-! ===== the layout: where the cells lie once the law has made its objects ===== -/
def mj_St : List (Nat × Nat) := [(9, 0), (0, 8), (0, 6), (1, 400), (0, 5), (1, 40), (1, 40), (1, 40), (1, 40), (1, 40), (1, 40), (1, 40), (1, 40), (1, 40), (1, 40), (1, 7), (1, 7), (3, 7), (0, 5), (1, 40), (1, 40), (1, 40), (1, 40), (1, 40), (1, 40), (1, 40), (1, 40), (1, 40), (1, 40), (0, 0), (1, 12), (1, 12), (0, 2), (1, 200), (1, 200), (1, 200), (3, 200), (1, 201), (1, 2000), (1, 2000), (1, 512), (0, 1), (1, 200), (1, 200), (1, 200), (1, 200), (1, 201), (1, 100), (1, 10), (1, 10), (1, 40200), (0, 7), (1, 200), (1, 200), (1, 201), (0, 4), (1, 6), (1, 6), (1, 1200), (1, 200), (1, 200), (1, 200), (1, 200), (1, 200), (1, 200), (0, 3), (1, 10), (1, 200), (2, 2200), (1, 2200), (1, 3), (0, 9), (1, 3), (1, 480), (1, 480), (1, 6), (4, 400), (4, 400), (1, 13), (1, 13), (1, 200), (1, 200), (1, 200), (1, 200), (1, 2000), (1, 2000), (3, 200), (1, 6), (1, 200), (2, 40200), (2, 200), (2, 200), (2, 200), (1, 200), (1, 200), (1, 200), (2, 2200), (2, 61), (2, 1)]
def mj_S0 : mj_ST := fun a => mj_St.getD a (9, 0)
theorem s0_1 : mj_S0 1 = (0, 8) := rfl
theorem s0_2 : mj_S0 2 = (0, 6) := rfl
theorem s0_3 : mj_S0 3 = (1, 400) := rfl
theorem s0_4 : mj_S0 4 = (0, 5) := rfl
theorem s0_5 : mj_S0 5 = (1, 40) := rfl
theorem s0_6 : mj_S0 6 = (1, 40) := rfl
theorem s0_7 : mj_S0 7 = (1, 40) := rfl
theorem s0_8 : mj_S0 8 = (1, 40) := rfl
theorem s0_9 : mj_S0 9 = (1, 40) := rfl
theorem s0_10 : mj_S0 10 = (1, 40) := rfl
theorem s0_11 : mj_S0 11 = (1, 40) := rfl
theorem s0_12 : mj_S0 12 = (1, 40) := rfl
theorem s0_13 : mj_S0 13 = (1, 40) := rfl
theorem s0_14 : mj_S0 14 = (1, 40) := rfl
theorem s0_15 : mj_S0 15 = (1, 7) := rfl
theorem s0_16 : mj_S0 16 = (1, 7) := rfl
theorem s0_17 : mj_S0 17 = (3, 7) := rfl
theorem s0_18 : mj_S0 18 = (0, 5) := rfl
theorem s0_19 : mj_S0 19 = (1, 40) := rfl
theorem s0_20 : mj_S0 20 = (1, 40) := rfl
theorem s0_21 : mj_S0 21 = (1, 40) := rfl
theorem s0_22 : mj_S0 22 = (1, 40) := rfl
theorem s0_23 : mj_S0 23 = (1, 40) := rfl
theorem s0_24 : mj_S0 24 = (1, 40) := rfl
theorem s0_25 : mj_S0 25 = (1, 40) := rfl
theorem s0_26 : mj_S0 26 = (1, 40) := rfl
theorem s0_27 : mj_S0 27 = (1, 40) := rfl
theorem s0_28 : mj_S0 28 = (1, 40) := rfl
theorem s0_29 : mj_S0 29 = (0, 0) := rfl
theorem s0_30 : mj_S0 30 = (1, 12) := rfl
theorem s0_31 : mj_S0 31 = (1, 12) := rfl
theorem s0_32 : mj_S0 32 = (0, 2) := rfl
theorem s0_33 : mj_S0 33 = (1, 200) := rfl
theorem s0_34 : mj_S0 34 = (1, 200) := rfl
theorem s0_35 : mj_S0 35 = (1, 200) := rfl
theorem s0_36 : mj_S0 36 = (3, 200) := rfl
theorem s0_37 : mj_S0 37 = (1, 201) := rfl
theorem s0_38 : mj_S0 38 = (1, 2000) := rfl
theorem s0_39 : mj_S0 39 = (1, 2000) := rfl
theorem s0_40 : mj_S0 40 = (1, 512) := rfl
theorem s0_41 : mj_S0 41 = (0, 1) := rfl
theorem s0_42 : mj_S0 42 = (1, 200) := rfl
theorem s0_43 : mj_S0 43 = (1, 200) := rfl
theorem s0_44 : mj_S0 44 = (1, 200) := rfl
theorem s0_45 : mj_S0 45 = (1, 200) := rfl
theorem s0_46 : mj_S0 46 = (1, 201) := rfl
theorem s0_47 : mj_S0 47 = (1, 100) := rfl
theorem s0_48 : mj_S0 48 = (1, 10) := rfl
theorem s0_49 : mj_S0 49 = (1, 10) := rfl
theorem s0_50 : mj_S0 50 = (1, 40200) := rfl
theorem s0_51 : mj_S0 51 = (0, 7) := rfl
theorem s0_52 : mj_S0 52 = (1, 200) := rfl
theorem s0_53 : mj_S0 53 = (1, 200) := rfl
theorem s0_54 : mj_S0 54 = (1, 201) := rfl
theorem s0_55 : mj_S0 55 = (0, 4) := rfl
theorem s0_56 : mj_S0 56 = (1, 6) := rfl
theorem s0_57 : mj_S0 57 = (1, 6) := rfl
theorem s0_58 : mj_S0 58 = (1, 1200) := rfl
theorem s0_59 : mj_S0 59 = (1, 200) := rfl
theorem s0_60 : mj_S0 60 = (1, 200) := rfl
theorem s0_61 : mj_S0 61 = (1, 200) := rfl
theorem s0_62 : mj_S0 62 = (1, 200) := rfl
theorem s0_63 : mj_S0 63 = (1, 200) := rfl
theorem s0_64 : mj_S0 64 = (1, 200) := rfl
theorem s0_65 : mj_S0 65 = (0, 3) := rfl
theorem s0_66 : mj_S0 66 = (1, 10) := rfl
theorem s0_67 : mj_S0 67 = (1, 200) := rfl
theorem s0_68 : mj_S0 68 = (2, 2200) := rfl
theorem s0_69 : mj_S0 69 = (1, 2200) := rfl
theorem s0_70 : mj_S0 70 = (1, 3) := rfl
theorem s0_71 : mj_S0 71 = (0, 9) := rfl
theorem s0_72 : mj_S0 72 = (1, 3) := rfl
theorem s0_73 : mj_S0 73 = (1, 480) := rfl
theorem s0_74 : mj_S0 74 = (1, 480) := rfl
theorem s0_75 : mj_S0 75 = (1, 6) := rfl
theorem s0_76 : mj_S0 76 = (4, 400) := rfl
theorem s0_77 : mj_S0 77 = (4, 400) := rfl
theorem s0_78 : mj_S0 78 = (1, 13) := rfl
theorem s0_79 : mj_S0 79 = (1, 13) := rfl
theorem s0_80 : mj_S0 80 = (1, 200) := rfl
theorem s0_81 : mj_S0 81 = (1, 200) := rfl
theorem s0_82 : mj_S0 82 = (1, 200) := rfl
theorem s0_83 : mj_S0 83 = (1, 200) := rfl
theorem s0_84 : mj_S0 84 = (1, 2000) := rfl
theorem s0_85 : mj_S0 85 = (1, 2000) := rfl
theorem s0_86 : mj_S0 86 = (3, 200) := rfl
theorem s0_87 : mj_S0 87 = (1, 6) := rfl
theorem s0_88 : mj_S0 88 = (1, 200) := rfl
theorem s0_89 : mj_S0 89 = (2, 40200) := rfl
theorem s0_90 : mj_S0 90 = (2, 200) := rfl
theorem s0_91 : mj_S0 91 = (2, 200) := rfl
theorem s0_92 : mj_S0 92 = (2, 200) := rfl
theorem s0_93 : mj_S0 93 = (1, 200) := rfl
theorem s0_94 : mj_S0 94 = (1, 200) := rfl
theorem s0_95 : mj_S0 95 = (1, 200) := rfl
theorem s0_96 : mj_S0 96 = (2, 2200) := rfl
theorem s0_97 : mj_S0 97 = (2, 61) := rfl
theorem s0_98 : mj_S0 98 = (2, 1) := rfl
def mj_Pt (a : Nat) : List Nat := match a with
  | 1 => [2, 0, 18, 0, 29, 32, 41, 51, 55, 65, 70]
  | 2 => [0, 3, 4, 0, 0, 0, 0, 0, 0, 0, 0, 15, 16, 17]
  | 4 => [0, 5, 6, 7, 8, 9, 10, 11, 12, 13, 14]
  | 18 => [0, 19, 20, 21, 22, 23, 24, 25, 26, 27, 28]
  | 29 => [0, 30, 31]
  | 32 => [0, 0, 0, 0, 0, 0, 0, 0, 33, 34, 35, 36, 37, 38, 39, 40]
  | 41 => [0, 0, 0, 42, 0, 0, 0, 43, 44, 45, 46, 47, 48, 49, 50]
  | 51 => [0, 0, 52, 53, 54]
  | 55 => [56, 57, 58, 59, 60, 61, 62, 63, 64]
  | 65 => [0, 0, 0, 66, 67, 68, 69]
  | 71 => [0, 72, 73, 74, 0, 0, 75, 76, 77, 0, 0, 0, 0, 0, 0, 0, 0, 0, 78, 79, 0, 0, 0, 0, 0, 0, 0, 80, 81, 82, 83, 84, 85, 86, 87, 88, 89, 90, 0, 91, 92, 93, 94, 95, 96, 97]
  | _ => []
def mj_P0 : mj_PT := fun a k => (mj_Pt a).getD k 0
theorem p0_1_0 : mj_P0 1 0 = 2 := rfl
theorem p0_1_2 : mj_P0 1 2 = 18 := rfl
theorem p0_1_4 : mj_P0 1 4 = 29 := rfl
theorem p0_1_5 : mj_P0 1 5 = 32 := rfl
theorem p0_1_6 : mj_P0 1 6 = 41 := rfl
theorem p0_1_7 : mj_P0 1 7 = 51 := rfl
theorem p0_1_8 : mj_P0 1 8 = 55 := rfl
theorem p0_1_9 : mj_P0 1 9 = 65 := rfl
theorem p0_1_10 : mj_P0 1 10 = 70 := rfl
theorem p0_2_1 : mj_P0 2 1 = 3 := rfl
theorem p0_2_2 : mj_P0 2 2 = 4 := rfl
theorem p0_2_11 : mj_P0 2 11 = 15 := rfl
theorem p0_2_12 : mj_P0 2 12 = 16 := rfl
theorem p0_2_13 : mj_P0 2 13 = 17 := rfl
theorem p0_4_1 : mj_P0 4 1 = 5 := rfl
theorem p0_4_2 : mj_P0 4 2 = 6 := rfl
theorem p0_4_3 : mj_P0 4 3 = 7 := rfl
theorem p0_4_4 : mj_P0 4 4 = 8 := rfl
theorem p0_4_5 : mj_P0 4 5 = 9 := rfl
theorem p0_4_6 : mj_P0 4 6 = 10 := rfl
theorem p0_4_7 : mj_P0 4 7 = 11 := rfl
theorem p0_4_8 : mj_P0 4 8 = 12 := rfl
theorem p0_4_9 : mj_P0 4 9 = 13 := rfl
theorem p0_4_10 : mj_P0 4 10 = 14 := rfl
theorem p0_18_1 : mj_P0 18 1 = 19 := rfl
theorem p0_18_2 : mj_P0 18 2 = 20 := rfl
theorem p0_18_3 : mj_P0 18 3 = 21 := rfl
theorem p0_18_4 : mj_P0 18 4 = 22 := rfl
theorem p0_18_5 : mj_P0 18 5 = 23 := rfl
theorem p0_18_6 : mj_P0 18 6 = 24 := rfl
theorem p0_18_7 : mj_P0 18 7 = 25 := rfl
theorem p0_18_8 : mj_P0 18 8 = 26 := rfl
theorem p0_18_9 : mj_P0 18 9 = 27 := rfl
theorem p0_18_10 : mj_P0 18 10 = 28 := rfl
theorem p0_29_1 : mj_P0 29 1 = 30 := rfl
theorem p0_29_2 : mj_P0 29 2 = 31 := rfl
theorem p0_32_8 : mj_P0 32 8 = 33 := rfl
theorem p0_32_9 : mj_P0 32 9 = 34 := rfl
theorem p0_32_10 : mj_P0 32 10 = 35 := rfl
theorem p0_32_11 : mj_P0 32 11 = 36 := rfl
theorem p0_32_12 : mj_P0 32 12 = 37 := rfl
theorem p0_32_13 : mj_P0 32 13 = 38 := rfl
theorem p0_32_14 : mj_P0 32 14 = 39 := rfl
theorem p0_32_15 : mj_P0 32 15 = 40 := rfl
theorem p0_41_3 : mj_P0 41 3 = 42 := rfl
theorem p0_41_7 : mj_P0 41 7 = 43 := rfl
theorem p0_41_8 : mj_P0 41 8 = 44 := rfl
theorem p0_41_9 : mj_P0 41 9 = 45 := rfl
theorem p0_41_10 : mj_P0 41 10 = 46 := rfl
theorem p0_41_11 : mj_P0 41 11 = 47 := rfl
theorem p0_41_12 : mj_P0 41 12 = 48 := rfl
theorem p0_41_13 : mj_P0 41 13 = 49 := rfl
theorem p0_41_14 : mj_P0 41 14 = 50 := rfl
theorem p0_51_2 : mj_P0 51 2 = 52 := rfl
theorem p0_51_3 : mj_P0 51 3 = 53 := rfl
theorem p0_51_4 : mj_P0 51 4 = 54 := rfl
theorem p0_55_0 : mj_P0 55 0 = 56 := rfl
theorem p0_55_1 : mj_P0 55 1 = 57 := rfl
theorem p0_55_2 : mj_P0 55 2 = 58 := rfl
theorem p0_55_3 : mj_P0 55 3 = 59 := rfl
theorem p0_55_4 : mj_P0 55 4 = 60 := rfl
theorem p0_55_5 : mj_P0 55 5 = 61 := rfl
theorem p0_55_6 : mj_P0 55 6 = 62 := rfl
theorem p0_55_7 : mj_P0 55 7 = 63 := rfl
theorem p0_55_8 : mj_P0 55 8 = 64 := rfl
theorem p0_65_3 : mj_P0 65 3 = 66 := rfl
theorem p0_65_4 : mj_P0 65 4 = 67 := rfl
theorem p0_65_5 : mj_P0 65 5 = 68 := rfl
theorem p0_65_6 : mj_P0 65 6 = 69 := rfl
theorem p0_71_1 : mj_P0 71 1 = 72 := rfl
theorem p0_71_2 : mj_P0 71 2 = 73 := rfl
theorem p0_71_3 : mj_P0 71 3 = 74 := rfl
theorem p0_71_6 : mj_P0 71 6 = 75 := rfl
theorem p0_71_7 : mj_P0 71 7 = 76 := rfl
theorem p0_71_8 : mj_P0 71 8 = 77 := rfl
theorem p0_71_18 : mj_P0 71 18 = 78 := rfl
theorem p0_71_19 : mj_P0 71 19 = 79 := rfl
theorem p0_71_27 : mj_P0 71 27 = 80 := rfl
theorem p0_71_28 : mj_P0 71 28 = 81 := rfl
theorem p0_71_29 : mj_P0 71 29 = 82 := rfl
theorem p0_71_30 : mj_P0 71 30 = 83 := rfl
theorem p0_71_31 : mj_P0 71 31 = 84 := rfl
theorem p0_71_32 : mj_P0 71 32 = 85 := rfl
theorem p0_71_33 : mj_P0 71 33 = 86 := rfl
theorem p0_71_34 : mj_P0 71 34 = 87 := rfl
theorem p0_71_35 : mj_P0 71 35 = 88 := rfl
theorem p0_71_36 : mj_P0 71 36 = 89 := rfl
theorem p0_71_37 : mj_P0 71 37 = 90 := rfl
theorem p0_71_39 : mj_P0 71 39 = 91 := rfl
theorem p0_71_40 : mj_P0 71 40 = 92 := rfl
theorem p0_71_41 : mj_P0 71 41 = 93 := rfl
theorem p0_71_42 : mj_P0 71 42 = 94 := rfl
theorem p0_71_43 : mj_P0 71 43 = 95 := rfl
theorem p0_71_44 : mj_P0 71 44 = 96 := rfl
theorem p0_71_45 : mj_P0 71 45 = 97 := rfl
theorem n0_ok (a : Nat) (h : (decide (0 < a) && decide (a ≤ 98)) = true) : 0 < a ∧ a ≤ 98 := by simpa using h
theorem a0_1 : 0 < 1 ∧ 1 ≤ 98 := by decide
theorem a0_2 : 0 < 2 ∧ 2 ≤ 98 := by decide
theorem a0_3 : 0 < 3 ∧ 3 ≤ 98 := by decide
theorem a0_4 : 0 < 4 ∧ 4 ≤ 98 := by decide
theorem a0_5 : 0 < 5 ∧ 5 ≤ 98 := by decide
theorem a0_6 : 0 < 6 ∧ 6 ≤ 98 := by decide
theorem a0_7 : 0 < 7 ∧ 7 ≤ 98 := by decide
theorem a0_8 : 0 < 8 ∧ 8 ≤ 98 := by decide
theorem a0_9 : 0 < 9 ∧ 9 ≤ 98 := by decide
theorem a0_10 : 0 < 10 ∧ 10 ≤ 98 := by decide
theorem a0_11 : 0 < 11 ∧ 11 ≤ 98 := by decide
theorem a0_12 : 0 < 12 ∧ 12 ≤ 98 := by decide
theorem a0_13 : 0 < 13 ∧ 13 ≤ 98 := by decide
theorem a0_14 : 0 < 14 ∧ 14 ≤ 98 := by decide
theorem a0_15 : 0 < 15 ∧ 15 ≤ 98 := by decide
theorem a0_16 : 0 < 16 ∧ 16 ≤ 98 := by decide
theorem a0_17 : 0 < 17 ∧ 17 ≤ 98 := by decide
theorem a0_18 : 0 < 18 ∧ 18 ≤ 98 := by decide
theorem a0_19 : 0 < 19 ∧ 19 ≤ 98 := by decide
theorem a0_20 : 0 < 20 ∧ 20 ≤ 98 := by decide
theorem a0_21 : 0 < 21 ∧ 21 ≤ 98 := by decide
theorem a0_22 : 0 < 22 ∧ 22 ≤ 98 := by decide
theorem a0_23 : 0 < 23 ∧ 23 ≤ 98 := by decide
theorem a0_24 : 0 < 24 ∧ 24 ≤ 98 := by decide
theorem a0_25 : 0 < 25 ∧ 25 ≤ 98 := by decide
theorem a0_26 : 0 < 26 ∧ 26 ≤ 98 := by decide
theorem a0_27 : 0 < 27 ∧ 27 ≤ 98 := by decide
theorem a0_28 : 0 < 28 ∧ 28 ≤ 98 := by decide
theorem a0_29 : 0 < 29 ∧ 29 ≤ 98 := by decide
theorem a0_30 : 0 < 30 ∧ 30 ≤ 98 := by decide
theorem a0_31 : 0 < 31 ∧ 31 ≤ 98 := by decide
theorem a0_32 : 0 < 32 ∧ 32 ≤ 98 := by decide
theorem a0_33 : 0 < 33 ∧ 33 ≤ 98 := by decide
theorem a0_34 : 0 < 34 ∧ 34 ≤ 98 := by decide
theorem a0_35 : 0 < 35 ∧ 35 ≤ 98 := by decide
theorem a0_36 : 0 < 36 ∧ 36 ≤ 98 := by decide
theorem a0_37 : 0 < 37 ∧ 37 ≤ 98 := by decide
theorem a0_38 : 0 < 38 ∧ 38 ≤ 98 := by decide
theorem a0_39 : 0 < 39 ∧ 39 ≤ 98 := by decide
theorem a0_40 : 0 < 40 ∧ 40 ≤ 98 := by decide
theorem a0_41 : 0 < 41 ∧ 41 ≤ 98 := by decide
theorem a0_42 : 0 < 42 ∧ 42 ≤ 98 := by decide
theorem a0_43 : 0 < 43 ∧ 43 ≤ 98 := by decide
theorem a0_44 : 0 < 44 ∧ 44 ≤ 98 := by decide
theorem a0_45 : 0 < 45 ∧ 45 ≤ 98 := by decide
theorem a0_46 : 0 < 46 ∧ 46 ≤ 98 := by decide
theorem a0_47 : 0 < 47 ∧ 47 ≤ 98 := by decide
theorem a0_48 : 0 < 48 ∧ 48 ≤ 98 := by decide
theorem a0_49 : 0 < 49 ∧ 49 ≤ 98 := by decide
theorem a0_50 : 0 < 50 ∧ 50 ≤ 98 := by decide
theorem a0_51 : 0 < 51 ∧ 51 ≤ 98 := by decide
theorem a0_52 : 0 < 52 ∧ 52 ≤ 98 := by decide
theorem a0_53 : 0 < 53 ∧ 53 ≤ 98 := by decide
theorem a0_54 : 0 < 54 ∧ 54 ≤ 98 := by decide
theorem a0_55 : 0 < 55 ∧ 55 ≤ 98 := by decide
theorem a0_56 : 0 < 56 ∧ 56 ≤ 98 := by decide
theorem a0_57 : 0 < 57 ∧ 57 ≤ 98 := by decide
theorem a0_58 : 0 < 58 ∧ 58 ≤ 98 := by decide
theorem a0_59 : 0 < 59 ∧ 59 ≤ 98 := by decide
theorem a0_60 : 0 < 60 ∧ 60 ≤ 98 := by decide
theorem a0_61 : 0 < 61 ∧ 61 ≤ 98 := by decide
theorem a0_62 : 0 < 62 ∧ 62 ≤ 98 := by decide
theorem a0_63 : 0 < 63 ∧ 63 ≤ 98 := by decide
theorem a0_64 : 0 < 64 ∧ 64 ≤ 98 := by decide
theorem a0_65 : 0 < 65 ∧ 65 ≤ 98 := by decide
theorem a0_66 : 0 < 66 ∧ 66 ≤ 98 := by decide
theorem a0_67 : 0 < 67 ∧ 67 ≤ 98 := by decide
theorem a0_68 : 0 < 68 ∧ 68 ≤ 98 := by decide
theorem a0_69 : 0 < 69 ∧ 69 ≤ 98 := by decide
theorem a0_70 : 0 < 70 ∧ 70 ≤ 98 := by decide
theorem a0_71 : 0 < 71 ∧ 71 ≤ 98 := by decide
theorem a0_72 : 0 < 72 ∧ 72 ≤ 98 := by decide
theorem a0_73 : 0 < 73 ∧ 73 ≤ 98 := by decide
theorem a0_74 : 0 < 74 ∧ 74 ≤ 98 := by decide
theorem a0_75 : 0 < 75 ∧ 75 ≤ 98 := by decide
theorem a0_76 : 0 < 76 ∧ 76 ≤ 98 := by decide
theorem a0_77 : 0 < 77 ∧ 77 ≤ 98 := by decide
theorem a0_78 : 0 < 78 ∧ 78 ≤ 98 := by decide
theorem a0_79 : 0 < 79 ∧ 79 ≤ 98 := by decide
theorem a0_80 : 0 < 80 ∧ 80 ≤ 98 := by decide
theorem a0_81 : 0 < 81 ∧ 81 ≤ 98 := by decide
theorem a0_82 : 0 < 82 ∧ 82 ≤ 98 := by decide
theorem a0_83 : 0 < 83 ∧ 83 ≤ 98 := by decide
theorem a0_84 : 0 < 84 ∧ 84 ≤ 98 := by decide
theorem a0_85 : 0 < 85 ∧ 85 ≤ 98 := by decide
theorem a0_86 : 0 < 86 ∧ 86 ≤ 98 := by decide
theorem a0_87 : 0 < 87 ∧ 87 ≤ 98 := by decide
theorem a0_88 : 0 < 88 ∧ 88 ≤ 98 := by decide
theorem a0_89 : 0 < 89 ∧ 89 ≤ 98 := by decide
theorem a0_90 : 0 < 90 ∧ 90 ≤ 98 := by decide
theorem a0_91 : 0 < 91 ∧ 91 ≤ 98 := by decide
theorem a0_92 : 0 < 92 ∧ 92 ≤ 98 := by decide
theorem a0_93 : 0 < 93 ∧ 93 ≤ 98 := by decide
theorem a0_94 : 0 < 94 ∧ 94 ≤ 98 := by decide
theorem a0_95 : 0 < 95 ∧ 95 ≤ 98 := by decide
theorem a0_96 : 0 < 96 ∧ 96 ≤ 98 := by decide
theorem a0_97 : 0 < 97 ∧ 97 ≤ 98 := by decide
theorem a0_98 : 0 < 98 ∧ 98 ≤ 98 := by decide
theorem dJ7_rangeCheck_23922_0 : decode cJ7_rangeCheck_23922 0 = .ok (.iload_n 1, 1) := by decide +kernel
theorem dJ7_rangeCheck_23922_1 : decode cJ7_rangeCheck_23922 1 = .ok (.iload_n 2, 1) := by decide +kernel
theorem dJ7_rangeCheck_23922_2 : decode cJ7_rangeCheck_23922 2 = .ok (.if_icmp .le 44, 3) := by decide +kernel
theorem dJ7_rangeCheck_23922_5 : decode cJ7_rangeCheck_23922 5 = .ok (.new 43, 3) := by decide +kernel
theorem dJ7_rangeCheck_23922_8 : decode cJ7_rangeCheck_23922 8 = .ok (.dup, 1) := by decide +kernel
theorem dJ7_rangeCheck_23922_9 : decode cJ7_rangeCheck_23922 9 = .ok (.new 45, 3) := by decide +kernel
theorem dJ7_rangeCheck_23922_12 : decode cJ7_rangeCheck_23922 12 = .ok (.dup, 1) := by decide +kernel
theorem dJ7_rangeCheck_23922_13 : decode cJ7_rangeCheck_23922 13 = .ok (.invokespecial 47, 3) := by decide +kernel
theorem dJ7_rangeCheck_23922_16 : decode cJ7_rangeCheck_23922 16 = .ok (.ldc 48, 2) := by decide +kernel
theorem dJ7_rangeCheck_23922_18 : decode cJ7_rangeCheck_23922 18 = .ok (.invokevirtual 50, 3) := by decide +kernel
theorem dJ7_rangeCheck_23922_21 : decode cJ7_rangeCheck_23922 21 = .ok (.iload_n 1, 1) := by decide +kernel
theorem dJ7_rangeCheck_23922_22 : decode cJ7_rangeCheck_23922 22 = .ok (.invokevirtual 54, 3) := by decide +kernel
theorem dJ7_rangeCheck_23922_25 : decode cJ7_rangeCheck_23922 25 = .ok (.ldc 57, 2) := by decide +kernel
theorem dJ7_rangeCheck_23922_27 : decode cJ7_rangeCheck_23922 27 = .ok (.invokevirtual 50, 3) := by decide +kernel
theorem dJ7_rangeCheck_23922_30 : decode cJ7_rangeCheck_23922 30 = .ok (.iload_n 2, 1) := by decide +kernel
theorem dJ7_rangeCheck_23922_31 : decode cJ7_rangeCheck_23922 31 = .ok (.invokevirtual 54, 3) := by decide +kernel
theorem dJ7_rangeCheck_23922_34 : decode cJ7_rangeCheck_23922 34 = .ok (.ldc 59, 2) := by decide +kernel
theorem dJ7_rangeCheck_23922_36 : decode cJ7_rangeCheck_23922 36 = .ok (.invokevirtual 50, 3) := by decide +kernel
theorem dJ7_rangeCheck_23922_39 : decode cJ7_rangeCheck_23922 39 = .ok (.invokevirtual 61, 3) := by decide +kernel
theorem dJ7_rangeCheck_23922_42 : decode cJ7_rangeCheck_23922 42 = .ok (.invokespecial 65, 3) := by decide +kernel
theorem dJ7_rangeCheck_23922_45 : decode cJ7_rangeCheck_23922 45 = .ok (.athrow, 1) := by decide +kernel
theorem dJ7_rangeCheck_23922_46 : decode cJ7_rangeCheck_23922 46 = .ok (.iload_n 1, 1) := by decide +kernel
theorem dJ7_rangeCheck_23922_47 : decode cJ7_rangeCheck_23922 47 = .ok (.ifCond .ge 12, 3) := by decide +kernel
theorem dJ7_rangeCheck_23922_50 : decode cJ7_rangeCheck_23922 50 = .ok (.new 68, 3) := by decide +kernel
theorem dJ7_rangeCheck_23922_53 : decode cJ7_rangeCheck_23922 53 = .ok (.dup, 1) := by decide +kernel
theorem dJ7_rangeCheck_23922_54 : decode cJ7_rangeCheck_23922 54 = .ok (.iload_n 1, 1) := by decide +kernel
theorem dJ7_rangeCheck_23922_55 : decode cJ7_rangeCheck_23922 55 = .ok (.invokespecial 70, 3) := by decide +kernel
theorem dJ7_rangeCheck_23922_58 : decode cJ7_rangeCheck_23922 58 = .ok (.athrow, 1) := by decide +kernel
theorem dJ7_rangeCheck_23922_59 : decode cJ7_rangeCheck_23922 59 = .ok (.iload_n 2, 1) := by decide +kernel
theorem dJ7_rangeCheck_23922_60 : decode cJ7_rangeCheck_23922 60 = .ok (.iload_n 0, 1) := by decide +kernel
theorem dJ7_rangeCheck_23922_61 : decode cJ7_rangeCheck_23922 61 = .ok (.if_icmp .le 12, 3) := by decide +kernel
theorem dJ7_rangeCheck_23922_64 : decode cJ7_rangeCheck_23922 64 = .ok (.new 68, 3) := by decide +kernel
theorem dJ7_rangeCheck_23922_67 : decode cJ7_rangeCheck_23922 67 = .ok (.dup, 1) := by decide +kernel
theorem dJ7_rangeCheck_23922_68 : decode cJ7_rangeCheck_23922 68 = .ok (.iload_n 2, 1) := by decide +kernel
theorem dJ7_rangeCheck_23922_69 : decode cJ7_rangeCheck_23922 69 = .ok (.invokespecial 70, 3) := by decide +kernel
theorem dJ7_rangeCheck_23922_72 : decode cJ7_rangeCheck_23922 72 = .ok (.athrow, 1) := by decide +kernel
theorem dJ7_rangeCheck_23922_73 : decode cJ7_rangeCheck_23922 73 = .ok (.return_, 1) := by decide +kernel
theorem dJ7_fill_53178_0 : decode cJ7_fill_53178 0 = .ok (.iconst 0, 1) := by decide +kernel
theorem dJ7_fill_53178_1 : decode cJ7_fill_53178 1 = .ok (.istore_n 2, 1) := by decide +kernel
theorem dJ7_fill_53178_2 : decode cJ7_fill_53178 2 = .ok (.aload_n 0, 1) := by decide +kernel
theorem dJ7_fill_53178_3 : decode cJ7_fill_53178 3 = .ok (.arraylength, 1) := by decide +kernel
theorem dJ7_fill_53178_4 : decode cJ7_fill_53178 4 = .ok (.istore_n 3, 1) := by decide +kernel
theorem dJ7_fill_53178_5 : decode cJ7_fill_53178 5 = .ok (.iload_n 2, 1) := by decide +kernel
theorem dJ7_fill_53178_6 : decode cJ7_fill_53178 6 = .ok (.iload_n 3, 1) := by decide +kernel
theorem dJ7_fill_53178_7 : decode cJ7_fill_53178 7 = .ok (.if_icmp .ge 13, 3) := by decide +kernel
theorem dJ7_fill_53178_10 : decode cJ7_fill_53178 10 = .ok (.aload_n 0, 1) := by decide +kernel
theorem dJ7_fill_53178_11 : decode cJ7_fill_53178 11 = .ok (.iload_n 2, 1) := by decide +kernel
theorem dJ7_fill_53178_12 : decode cJ7_fill_53178 12 = .ok (.iload_n 1, 1) := by decide +kernel
theorem dJ7_fill_53178_13 : decode cJ7_fill_53178 13 = .ok (.iastore, 1) := by decide +kernel
theorem dJ7_fill_53178_14 : decode cJ7_fill_53178 14 = .ok (.iinc 2 1, 3) := by decide +kernel
theorem dJ7_fill_53178_17 : decode cJ7_fill_53178 17 = .ok (.goto (-12), 3) := by decide +kernel
theorem dJ7_fill_53178_20 : decode cJ7_fill_53178 20 = .ok (.return_, 1) := by decide +kernel
theorem dJ7_fill_fda19_0 : decode cJ7_fill_fda19 0 = .ok (.aload_n 0, 1) := by decide +kernel
theorem dJ7_fill_fda19_1 : decode cJ7_fill_fda19 1 = .ok (.arraylength, 1) := by decide +kernel
theorem dJ7_fill_fda19_2 : decode cJ7_fill_fda19 2 = .ok (.iload_n 1, 1) := by decide +kernel
theorem dJ7_fill_fda19_3 : decode cJ7_fill_fda19 3 = .ok (.iload_n 2, 1) := by decide +kernel
theorem dJ7_fill_fda19_4 : decode cJ7_fill_fda19 4 = .ok (.invokestatic 13, 3) := by decide +kernel
theorem dJ7_fill_fda19_7 : decode cJ7_fill_fda19 7 = .ok (.iload_n 1, 1) := by decide +kernel
theorem dJ7_fill_fda19_8 : decode cJ7_fill_fda19 8 = .ok (.istore 4, 2) := by decide +kernel
theorem dJ7_fill_fda19_10 : decode cJ7_fill_fda19 10 = .ok (.iload 4, 2) := by decide +kernel
theorem dJ7_fill_fda19_12 : decode cJ7_fill_fda19 12 = .ok (.iload_n 2, 1) := by decide +kernel
theorem dJ7_fill_fda19_13 : decode cJ7_fill_fda19 13 = .ok (.if_icmp .ge 14, 3) := by decide +kernel
theorem dJ7_fill_fda19_16 : decode cJ7_fill_fda19 16 = .ok (.aload_n 0, 1) := by decide +kernel
theorem dJ7_fill_fda19_17 : decode cJ7_fill_fda19 17 = .ok (.iload 4, 2) := by decide +kernel
theorem dJ7_fill_fda19_19 : decode cJ7_fill_fda19 19 = .ok (.iload_n 3, 1) := by decide +kernel
theorem dJ7_fill_fda19_20 : decode cJ7_fill_fda19 20 = .ok (.iastore, 1) := by decide +kernel
theorem dJ7_fill_fda19_21 : decode cJ7_fill_fda19 21 = .ok (.iinc 4 1, 3) := by decide +kernel
theorem dJ7_fill_fda19_24 : decode cJ7_fill_fda19 24 = .ok (.goto (-14), 3) := by decide +kernel
theorem dJ7_fill_fda19_27 : decode cJ7_fill_fda19 27 = .ok (.return_, 1) := by decide +kernel
theorem cw_J7_13 : mj_cs RJ7 13 yJ7_rangeCheck_23922 cJ7_rangeCheck_23922 3 none 3 := ⟨⟨mj_seg_4 (j := 209) (by decide +kernel) rfl, mj_seg_1 (j := 23) (by decide +kernel) rfl, mj_seg_4 (j := 207) (by decide +kernel) rfl, by decide +kernel, by decide⟩, mj_seg_4 (j := 208) (by decide +kernel) rfl⟩
def mj_cvS (own : String) (ix : Nat) (y : MethodName) (cc : ByteArray) (mL : Nat) (ret : Option FieldType) (np : Nat) : Prop :=
  mj_cw own ix y cc mL ret np ∧ Cond.instanceMethod y ∈ mj_tb ∧ Cond.selects "java/lang/String" y y ∈ mj_tb
theorem cw_J0_335 : mj_cvS RJ0 335 yJ0_coder_7d493 cJ0_coder_7d493 1 (some .byte) 0 := ⟨⟨mj_seg_3 (j := 175) (by decide +kernel) rfl, mj_seg_1 (j := 16) (by decide +kernel) rfl, mj_seg_3 (j := 172) (by decide +kernel) rfl, by decide +kernel, by decide⟩, mj_seg_3 (j := 173) (by decide +kernel) rfl, mj_seg_3 (j := 174) (by decide +kernel) rfl⟩
theorem cw_J0_492 : mj_cvS RJ0 492 yJ0_isLatin1_aae02 cJ0_isLatin1_aae02 1 (some .boolean) 0 := ⟨⟨mj_seg_3 (j := 185) (by decide +kernel) rfl, mj_seg_1 (j := 16) (by decide +kernel) rfl, mj_seg_3 (j := 182) (by decide +kernel) rfl, by decide +kernel, by decide⟩, mj_seg_3 (j := 183) (by decide +kernel) rfl, mj_seg_3 (j := 184) (by decide +kernel) rfl⟩
theorem cw_J0_495 : mj_cs RJ0 495 yJ1_charAt_3b067 cJ1_charAt_3b067 2 (some .char) 2 := ⟨⟨mj_seg_3 (j := 188) (by decide +kernel) rfl, mj_seg_1 (j := 17) (by decide +kernel) rfl, mj_seg_3 (j := 186) (by decide +kernel) rfl, by decide +kernel, by decide⟩, mj_seg_3 (j := 187) (by decide +kernel) rfl⟩
theorem cw_J1_9 : mj_cs RJ1 9 yJ0_checkIndex_df160 cJ0_checkIndex_df160 2 none 2 := ⟨⟨mj_seg_3 (j := 191) (by decide +kernel) rfl, mj_seg_1 (j := 16) (by decide +kernel) rfl, mj_seg_3 (j := 189) (by decide +kernel) rfl, by decide +kernel, by decide⟩, mj_seg_3 (j := 190) (by decide +kernel) rfl⟩
theorem cw_J0_1059 : mj_cs RJ0 1059 yJ3_checkIndex_8e157 cJ3_checkIndex_8e157 3 (some .int) 3 := ⟨⟨mj_seg_3 (j := 196) (by decide +kernel) rfl, mj_seg_1 (j := 18) (by decide +kernel) rfl, mj_seg_3 (j := 194) (by decide +kernel) rfl, by decide +kernel, by decide⟩, mj_seg_3 (j := 195) (by decide +kernel) rfl⟩
theorem cw_X8_85 : mj_cvS RX8 85 yJ0_length_8abf5 cJ0_length_8abf5 1 (some .int) 0 := ⟨⟨mj_seg_3 (j := 171) (by decide +kernel) rfl, mj_seg_1 (j := 16) (by decide +kernel) rfl, mj_seg_3 (j := 168) (by decide +kernel) rfl, by decide +kernel, by decide⟩, mj_seg_3 (j := 169) (by decide +kernel) rfl, mj_seg_3 (j := 170) (by decide +kernel) rfl⟩
theorem cw_X8_90 : mj_cvS RX8 90 yJ0_charAt_5068e cJ0_charAt_5068e 2 (some .char) 1 := ⟨⟨mj_seg_3 (j := 181) (by decide +kernel) rfl, mj_seg_1 (j := 16) (by decide +kernel) rfl, mj_seg_3 (j := 178) (by decide +kernel) rfl, by decide +kernel, by decide⟩, mj_seg_3 (j := 179) (by decide +kernel) rfl, mj_seg_3 (j := 180) (by decide +kernel) rfl⟩
theorem cw_X11_44 : mj_cvS RX11 44 yJ0_length_8abf5 cJ0_length_8abf5 1 (some .int) 0 := ⟨⟨mj_seg_3 (j := 171) (by decide +kernel) rfl, mj_seg_1 (j := 16) (by decide +kernel) rfl, mj_seg_7 (j := 2) (by decide +kernel) rfl, by decide +kernel, by decide⟩, mj_seg_3 (j := 169) (by decide +kernel) rfl, mj_seg_3 (j := 170) (by decide +kernel) rfl⟩
theorem cw_X11_53 : mj_cvS RX11 53 yJ0_charAt_5068e cJ0_charAt_5068e 2 (some .char) 1 := ⟨⟨mj_seg_3 (j := 181) (by decide +kernel) rfl, mj_seg_1 (j := 16) (by decide +kernel) rfl, mj_seg_7 (j := 3) (by decide +kernel) rfl, by decide +kernel, by decide⟩, mj_seg_3 (j := 179) (by decide +kernel) rfl, mj_seg_3 (j := 180) (by decide +kernel) rfl⟩
theorem sf_value : Cond.fieldLink RJ0 9 "java/lang/String" "value" "[B" ∈ mj_tb := mj_seg_5 (j := 174) (by decide +kernel) rfl
theorem sf_coder : Cond.fieldLink RJ0 15 "java/lang/String" "coder" "B" ∈ mj_tb := mj_seg_5 (j := 175) (by decide +kernel) rfl
theorem sf_COMPACT_STRINGS : Cond.fieldLink RJ0 38 "java/lang/String" "COMPACT_STRINGS" "Z" ∈ mj_tb := mj_seg_3 (j := 176) (by decide +kernel) rfl
theorem sf_sioobe : Cond.fieldLink RJ0 1053 "jdk/internal/util/Preconditions" "SIOOBE_FORMATTER" "Ljava/util/function/BiFunction;" ∈ mj_tb := mj_seg_3 (j := 192) (by decide +kernel) rfl
theorem dJ0_length_8abf5_0 : decode cJ0_length_8abf5 0 = .ok (.aload_n 0, 1) := by decide +kernel
theorem dJ0_length_8abf5_1 : decode cJ0_length_8abf5 1 = .ok (.getfield 9, 3) := by decide +kernel
theorem dJ0_length_8abf5_4 : decode cJ0_length_8abf5 4 = .ok (.arraylength, 1) := by decide +kernel
theorem dJ0_length_8abf5_5 : decode cJ0_length_8abf5 5 = .ok (.aload_n 0, 1) := by decide +kernel
theorem dJ0_length_8abf5_6 : decode cJ0_length_8abf5 6 = .ok (.invokevirtual 335, 3) := by decide +kernel
theorem dJ0_length_8abf5_9 : decode cJ0_length_8abf5 9 = .ok (.ishr, 1) := by decide +kernel
theorem dJ0_length_8abf5_10 : decode cJ0_length_8abf5 10 = .ok (.ireturn, 1) := by decide +kernel
theorem dJ0_charAt_5068e_0 : decode cJ0_charAt_5068e 0 = .ok (.aload_n 0, 1) := by decide +kernel
theorem dJ0_charAt_5068e_1 : decode cJ0_charAt_5068e 1 = .ok (.invokevirtual 492, 3) := by decide +kernel
theorem dJ0_charAt_5068e_4 : decode cJ0_charAt_5068e 4 = .ok (.ifCond .eq 12, 3) := by decide +kernel
theorem dJ0_charAt_5068e_7 : decode cJ0_charAt_5068e 7 = .ok (.aload_n 0, 1) := by decide +kernel
theorem dJ0_charAt_5068e_8 : decode cJ0_charAt_5068e 8 = .ok (.getfield 9, 3) := by decide +kernel
theorem dJ0_charAt_5068e_11 : decode cJ0_charAt_5068e 11 = .ok (.iload_n 1, 1) := by decide +kernel
theorem dJ0_charAt_5068e_12 : decode cJ0_charAt_5068e 12 = .ok (.invokestatic 495, 3) := by decide +kernel
theorem dJ0_charAt_5068e_15 : decode cJ0_charAt_5068e 15 = .ok (.ireturn, 1) := by decide +kernel
theorem dJ0_charAt_5068e_16 : decode cJ0_charAt_5068e 16 = .ok (.aload_n 0, 1) := by decide +kernel
theorem dJ0_charAt_5068e_17 : decode cJ0_charAt_5068e 17 = .ok (.getfield 9, 3) := by decide +kernel
theorem dJ0_charAt_5068e_20 : decode cJ0_charAt_5068e 20 = .ok (.iload_n 1, 1) := by decide +kernel
theorem dJ0_charAt_5068e_21 : decode cJ0_charAt_5068e 21 = .ok (.invokestatic 498, 3) := by decide +kernel
theorem dJ0_charAt_5068e_24 : decode cJ0_charAt_5068e 24 = .ok (.ireturn, 1) := by decide +kernel
theorem dJ0_coder_7d493_0 : decode cJ0_coder_7d493 0 = .ok (.getstatic 38, 3) := by decide +kernel
theorem dJ0_coder_7d493_3 : decode cJ0_coder_7d493 3 = .ok (.ifCond .eq 10, 3) := by decide +kernel
theorem dJ0_coder_7d493_6 : decode cJ0_coder_7d493 6 = .ok (.aload_n 0, 1) := by decide +kernel
theorem dJ0_coder_7d493_7 : decode cJ0_coder_7d493 7 = .ok (.getfield 15, 3) := by decide +kernel
theorem dJ0_coder_7d493_10 : decode cJ0_coder_7d493 10 = .ok (.goto 4, 3) := by decide +kernel
theorem dJ0_coder_7d493_13 : decode cJ0_coder_7d493 13 = .ok (.iconst 1, 1) := by decide +kernel
theorem dJ0_coder_7d493_14 : decode cJ0_coder_7d493 14 = .ok (.ireturn, 1) := by decide +kernel
theorem dJ0_isLatin1_aae02_0 : decode cJ0_isLatin1_aae02 0 = .ok (.getstatic 38, 3) := by decide +kernel
theorem dJ0_isLatin1_aae02_3 : decode cJ0_isLatin1_aae02 3 = .ok (.ifCond .eq 14, 3) := by decide +kernel
theorem dJ0_isLatin1_aae02_6 : decode cJ0_isLatin1_aae02 6 = .ok (.aload_n 0, 1) := by decide +kernel
theorem dJ0_isLatin1_aae02_7 : decode cJ0_isLatin1_aae02 7 = .ok (.getfield 15, 3) := by decide +kernel
theorem dJ0_isLatin1_aae02_10 : decode cJ0_isLatin1_aae02 10 = .ok (.ifCond .ne 7, 3) := by decide +kernel
theorem dJ0_isLatin1_aae02_13 : decode cJ0_isLatin1_aae02 13 = .ok (.iconst 1, 1) := by decide +kernel
theorem dJ0_isLatin1_aae02_14 : decode cJ0_isLatin1_aae02 14 = .ok (.goto 4, 3) := by decide +kernel
theorem dJ0_isLatin1_aae02_17 : decode cJ0_isLatin1_aae02 17 = .ok (.iconst 0, 1) := by decide +kernel
theorem dJ0_isLatin1_aae02_18 : decode cJ0_isLatin1_aae02 18 = .ok (.ireturn, 1) := by decide +kernel
theorem dJ0_checkIndex_df160_0 : decode cJ0_checkIndex_df160 0 = .ok (.iload_n 0, 1) := by decide +kernel
theorem dJ0_checkIndex_df160_1 : decode cJ0_checkIndex_df160 1 = .ok (.iload_n 1, 1) := by decide +kernel
theorem dJ0_checkIndex_df160_2 : decode cJ0_checkIndex_df160 2 = .ok (.getstatic 1053, 3) := by decide +kernel
theorem dJ0_checkIndex_df160_5 : decode cJ0_checkIndex_df160 5 = .ok (.invokestatic 1059, 3) := by decide +kernel
theorem dJ0_checkIndex_df160_8 : decode cJ0_checkIndex_df160 8 = .ok (.pop, 1) := by decide +kernel
theorem dJ0_checkIndex_df160_9 : decode cJ0_checkIndex_df160 9 = .ok (.return_, 1) := by decide +kernel
theorem dJ1_charAt_3b067_0 : decode cJ1_charAt_3b067 0 = .ok (.iload_n 1, 1) := by decide +kernel
theorem dJ1_charAt_3b067_1 : decode cJ1_charAt_3b067 1 = .ok (.aload_n 0, 1) := by decide +kernel
theorem dJ1_charAt_3b067_2 : decode cJ1_charAt_3b067 2 = .ok (.arraylength, 1) := by decide +kernel
theorem dJ1_charAt_3b067_3 : decode cJ1_charAt_3b067 3 = .ok (.invokestatic 9, 3) := by decide +kernel
theorem dJ1_charAt_3b067_6 : decode cJ1_charAt_3b067 6 = .ok (.aload_n 0, 1) := by decide +kernel
theorem dJ1_charAt_3b067_7 : decode cJ1_charAt_3b067 7 = .ok (.iload_n 1, 1) := by decide +kernel
theorem dJ1_charAt_3b067_8 : decode cJ1_charAt_3b067 8 = .ok (.baload, 1) := by decide +kernel
theorem dJ1_charAt_3b067_9 : decode cJ1_charAt_3b067 9 = .ok (.sipush 255, 3) := by decide +kernel
theorem dJ1_charAt_3b067_12 : decode cJ1_charAt_3b067 12 = .ok (.iand, 1) := by decide +kernel
theorem dJ1_charAt_3b067_13 : decode cJ1_charAt_3b067 13 = .ok (.i2c, 1) := by decide +kernel
theorem dJ1_charAt_3b067_14 : decode cJ1_charAt_3b067 14 = .ok (.ireturn, 1) := by decide +kernel
theorem dJ3_checkIndex_8e157_0 : decode cJ3_checkIndex_8e157 0 = .ok (.iload_n 0, 1) := by decide +kernel
theorem dJ3_checkIndex_8e157_1 : decode cJ3_checkIndex_8e157 1 = .ok (.ifCond .lt 8, 3) := by decide +kernel
theorem dJ3_checkIndex_8e157_4 : decode cJ3_checkIndex_8e157 4 = .ok (.iload_n 0, 1) := by decide +kernel
theorem dJ3_checkIndex_8e157_5 : decode cJ3_checkIndex_8e157 5 = .ok (.iload_n 1, 1) := by decide +kernel
theorem dJ3_checkIndex_8e157_6 : decode cJ3_checkIndex_8e157 6 = .ok (.if_icmp .lt 10, 3) := by decide +kernel
theorem dJ3_checkIndex_8e157_9 : decode cJ3_checkIndex_8e157 9 = .ok (.aload_n 2, 1) := by decide +kernel
theorem dJ3_checkIndex_8e157_10 : decode cJ3_checkIndex_8e157 10 = .ok (.iload_n 0, 1) := by decide +kernel
theorem dJ3_checkIndex_8e157_11 : decode cJ3_checkIndex_8e157 11 = .ok (.iload_n 1, 1) := by decide +kernel
theorem dJ3_checkIndex_8e157_12 : decode cJ3_checkIndex_8e157 12 = .ok (.invokestatic 95, 3) := by decide +kernel
theorem dJ3_checkIndex_8e157_15 : decode cJ3_checkIndex_8e157 15 = .ok (.athrow, 1) := by decide +kernel
theorem dJ3_checkIndex_8e157_16 : decode cJ3_checkIndex_8e157 16 = .ok (.iload_n 0, 1) := by decide +kernel
theorem dJ3_checkIndex_8e157_17 : decode cJ3_checkIndex_8e157 17 = .ok (.ireturn, 1) := by decide +kernel
