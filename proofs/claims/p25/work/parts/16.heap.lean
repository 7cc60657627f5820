/-! the heap behind the two constructors: 102 cells; only ints move, and which state stands where in the history -/
def hTl : List (Nat × Nat) := [(6, 0), (3, 0), (10, 3), (10, 10), (10, 10), (10, 10), (0, 0), (13, 6), (3, 0), (10, 3), (10, 10), (10, 10), (10, 10), (3, 0), (10, 3), (10, 10), (10, 10), (10, 10), (3, 0), (10, 3), (10, 10), (10, 10), (10, 10), (3, 0), (10, 3), (10, 10), (10, 10), (10, 10), (3, 0), (10, 3), (10, 10), (10, 10), (10, 10), (3, 0), (10, 3), (10, 10), (10, 10), (10, 10), (13, 2), (3, 0), (10, 3), (10, 10), (10, 10), (10, 10), (3, 0), (10, 3), (10, 10), (10, 10), (10, 10), (11, 2), (1, 0), (12, 80), (2, 0), (10, 10), (10, 10), (10, 10), (5, 0), (10, 20), (4, 0), (14, 10), (15, 10), (10, 20), (10, 20), (10, 20), (10, 20), (10, 20), (10, 20), (10, 20), (10, 20), (10, 20), (10, 20), (15, 10), (10, 20), (10, 20), (10, 20), (10, 20), (10, 20), (10, 20), (10, 20), (10, 20), (10, 20), (10, 20), (5, 0), (10, 20), (5, 0), (10, 20), (5, 0), (10, 20), (5, 0), (10, 20), (5, 0), (10, 20), (5, 0), (10, 20), (5, 0), (10, 20), (5, 0), (10, 20), (5, 0), (10, 20), (5, 0), (10, 20)]
def hRl : List (List (Nat × Nat)) := [[(0, 1), (1, 6), (2, 38), (3, 49), (4, 50), (5, 52), (6, 56), (7, 58)], [(0, 2), (1, 3), (2, 4), (3, 5)], [], [], [], [], [(0, 7)], [(0, 8), (1, 13), (2, 18), (3, 23), (4, 28), (5, 33)], [(0, 9), (1, 10), (2, 11), (3, 12)], [], [], [], [], [(0, 14), (1, 15), (2, 16), (3, 17)], [], [], [], [], [(0, 19), (1, 20), (2, 21), (3, 22)], [], [], [], [], [(0, 24), (1, 25), (2, 26), (3, 27)], [], [], [], [], [(0, 29), (1, 30), (2, 31), (3, 32)], [], [], [], [], [(0, 34), (1, 35), (2, 36), (3, 37)], [], [], [], [], [(0, 39), (1, 44)], [(0, 40), (1, 41), (2, 42), (3, 43)], [], [], [], [], [(0, 45), (1, 46), (2, 47), (3, 48)], [], [], [], [], [], [(0, 51)], [], [(0, 53), (1, 54), (2, 55)], [], [], [], [(0, 57)], [], [(0, 59), (1, 60), (2, 71)], [(0, 82), (1, 84), (2, 86), (3, 88), (4, 90), (5, 92), (6, 94), (7, 96), (8, 98), (9, 100)], [(0, 61), (1, 62), (2, 63), (3, 64), (4, 65), (5, 66), (6, 67), (7, 68), (8, 69), (9, 70)], [], [], [], [], [], [], [], [], [], [], [(0, 72), (1, 73), (2, 74), (3, 75), (4, 76), (5, 77), (6, 78), (7, 79), (8, 80), (9, 81)], [], [], [], [], [], [], [], [], [], [], [(0, 83)], [], [(0, 85)], [], [(0, 87)], [], [(0, 89)], [], [(0, 91)], [], [(0, 93)], [], [(0, 95)], [], [(0, 97)], [], [(0, 99)], [], [(0, 101)], []]
def hT0 (L i : Nat) : Nat × Nat := match hTl[i]? with
  | some p => p
  | none => if 1000000 ≤ i ∧ i < 1000007 then (16, fb_rl L (i - 1000000)) else (99, 0)
def hR0 (σ : Nat → Nat) (i k : Nat) : Option Nat := if i = 7 then (if k < 6 then some (8 + 5 * σ k) else none) else match hRl[i]? with
  | some l => l.lookup k
  | none => none
def hp (L : Nat) (σ : Nat → Nat) (I : Nat → Nat → Int32) : fb_H := (hT0 L, (102, 1155), hR0 σ, I)
section HP
variable {L : Nat} {σ : Nat → Nat} {I : Nat → Nat → Int32}
theorem hp_I : fb_I (hp L σ I) = I := rfl
theorem hp_sI (i k : Nat) (v : Int32) : fb_sI (hp L σ I) i k v = hp L σ (fb_u2 I i k v) := rfl
theorem hp_N : fb_N (hp L σ I) = 102 := rfl
theorem hT_0 : fb_T (hp L σ I) 0 = (6, 0) := rfl
theorem hT_1 : fb_T (hp L σ I) 1 = (3, 0) := rfl
theorem hT_2 : fb_T (hp L σ I) 2 = (10, 3) := rfl
theorem hT_3 : fb_T (hp L σ I) 3 = (10, 10) := rfl
theorem hT_4 : fb_T (hp L σ I) 4 = (10, 10) := rfl
theorem hT_5 : fb_T (hp L σ I) 5 = (10, 10) := rfl
theorem hT_6 : fb_T (hp L σ I) 6 = (0, 0) := rfl
theorem hT_7 : fb_T (hp L σ I) 7 = (13, 6) := rfl
theorem hT_8 : fb_T (hp L σ I) 8 = (3, 0) := rfl
theorem hT_9 : fb_T (hp L σ I) 9 = (10, 3) := rfl
theorem hT_10 : fb_T (hp L σ I) 10 = (10, 10) := rfl
theorem hT_11 : fb_T (hp L σ I) 11 = (10, 10) := rfl
theorem hT_12 : fb_T (hp L σ I) 12 = (10, 10) := rfl
theorem hT_13 : fb_T (hp L σ I) 13 = (3, 0) := rfl
theorem hT_14 : fb_T (hp L σ I) 14 = (10, 3) := rfl
theorem hT_15 : fb_T (hp L σ I) 15 = (10, 10) := rfl
theorem hT_16 : fb_T (hp L σ I) 16 = (10, 10) := rfl
theorem hT_17 : fb_T (hp L σ I) 17 = (10, 10) := rfl
theorem hT_18 : fb_T (hp L σ I) 18 = (3, 0) := rfl
theorem hT_19 : fb_T (hp L σ I) 19 = (10, 3) := rfl
theorem hT_20 : fb_T (hp L σ I) 20 = (10, 10) := rfl
theorem hT_21 : fb_T (hp L σ I) 21 = (10, 10) := rfl
theorem hT_22 : fb_T (hp L σ I) 22 = (10, 10) := rfl
theorem hT_23 : fb_T (hp L σ I) 23 = (3, 0) := rfl
theorem hT_24 : fb_T (hp L σ I) 24 = (10, 3) := rfl
theorem hT_25 : fb_T (hp L σ I) 25 = (10, 10) := rfl
theorem hT_26 : fb_T (hp L σ I) 26 = (10, 10) := rfl
theorem hT_27 : fb_T (hp L σ I) 27 = (10, 10) := rfl
theorem hT_28 : fb_T (hp L σ I) 28 = (3, 0) := rfl
theorem hT_29 : fb_T (hp L σ I) 29 = (10, 3) := rfl
theorem hT_30 : fb_T (hp L σ I) 30 = (10, 10) := rfl
theorem hT_31 : fb_T (hp L σ I) 31 = (10, 10) := rfl
theorem hT_32 : fb_T (hp L σ I) 32 = (10, 10) := rfl
theorem hT_33 : fb_T (hp L σ I) 33 = (3, 0) := rfl
theorem hT_34 : fb_T (hp L σ I) 34 = (10, 3) := rfl
theorem hT_35 : fb_T (hp L σ I) 35 = (10, 10) := rfl
theorem hT_36 : fb_T (hp L σ I) 36 = (10, 10) := rfl
theorem hT_37 : fb_T (hp L σ I) 37 = (10, 10) := rfl
theorem hT_38 : fb_T (hp L σ I) 38 = (13, 2) := rfl
theorem hT_39 : fb_T (hp L σ I) 39 = (3, 0) := rfl
theorem hT_40 : fb_T (hp L σ I) 40 = (10, 3) := rfl
theorem hT_41 : fb_T (hp L σ I) 41 = (10, 10) := rfl
theorem hT_42 : fb_T (hp L σ I) 42 = (10, 10) := rfl
theorem hT_43 : fb_T (hp L σ I) 43 = (10, 10) := rfl
theorem hT_44 : fb_T (hp L σ I) 44 = (3, 0) := rfl
theorem hT_45 : fb_T (hp L σ I) 45 = (10, 3) := rfl
theorem hT_46 : fb_T (hp L σ I) 46 = (10, 10) := rfl
theorem hT_47 : fb_T (hp L σ I) 47 = (10, 10) := rfl
theorem hT_48 : fb_T (hp L σ I) 48 = (10, 10) := rfl
theorem hT_49 : fb_T (hp L σ I) 49 = (11, 2) := rfl
theorem hT_50 : fb_T (hp L σ I) 50 = (1, 0) := rfl
theorem hT_51 : fb_T (hp L σ I) 51 = (12, 80) := rfl
theorem hT_52 : fb_T (hp L σ I) 52 = (2, 0) := rfl
theorem hT_53 : fb_T (hp L σ I) 53 = (10, 10) := rfl
theorem hT_54 : fb_T (hp L σ I) 54 = (10, 10) := rfl
theorem hT_55 : fb_T (hp L σ I) 55 = (10, 10) := rfl
theorem hT_56 : fb_T (hp L σ I) 56 = (5, 0) := rfl
theorem hT_57 : fb_T (hp L σ I) 57 = (10, 20) := rfl
theorem hT_58 : fb_T (hp L σ I) 58 = (4, 0) := rfl
theorem hT_59 : fb_T (hp L σ I) 59 = (14, 10) := rfl
theorem hT_60 : fb_T (hp L σ I) 60 = (15, 10) := rfl
theorem hT_61 : fb_T (hp L σ I) 61 = (10, 20) := rfl
theorem hT_62 : fb_T (hp L σ I) 62 = (10, 20) := rfl
theorem hT_63 : fb_T (hp L σ I) 63 = (10, 20) := rfl
theorem hT_64 : fb_T (hp L σ I) 64 = (10, 20) := rfl
theorem hT_65 : fb_T (hp L σ I) 65 = (10, 20) := rfl
theorem hT_66 : fb_T (hp L σ I) 66 = (10, 20) := rfl
theorem hT_67 : fb_T (hp L σ I) 67 = (10, 20) := rfl
theorem hT_68 : fb_T (hp L σ I) 68 = (10, 20) := rfl
theorem hT_69 : fb_T (hp L σ I) 69 = (10, 20) := rfl
theorem hT_70 : fb_T (hp L σ I) 70 = (10, 20) := rfl
theorem hT_71 : fb_T (hp L σ I) 71 = (15, 10) := rfl
theorem hT_72 : fb_T (hp L σ I) 72 = (10, 20) := rfl
theorem hT_73 : fb_T (hp L σ I) 73 = (10, 20) := rfl
theorem hT_74 : fb_T (hp L σ I) 74 = (10, 20) := rfl
theorem hT_75 : fb_T (hp L σ I) 75 = (10, 20) := rfl
theorem hT_76 : fb_T (hp L σ I) 76 = (10, 20) := rfl
theorem hT_77 : fb_T (hp L σ I) 77 = (10, 20) := rfl
theorem hT_78 : fb_T (hp L σ I) 78 = (10, 20) := rfl
theorem hT_79 : fb_T (hp L σ I) 79 = (10, 20) := rfl
theorem hT_80 : fb_T (hp L σ I) 80 = (10, 20) := rfl
theorem hT_81 : fb_T (hp L σ I) 81 = (10, 20) := rfl
theorem hT_82 : fb_T (hp L σ I) 82 = (5, 0) := rfl
theorem hT_83 : fb_T (hp L σ I) 83 = (10, 20) := rfl
theorem hT_84 : fb_T (hp L σ I) 84 = (5, 0) := rfl
theorem hT_85 : fb_T (hp L σ I) 85 = (10, 20) := rfl
theorem hT_86 : fb_T (hp L σ I) 86 = (5, 0) := rfl
theorem hT_87 : fb_T (hp L σ I) 87 = (10, 20) := rfl
theorem hT_88 : fb_T (hp L σ I) 88 = (5, 0) := rfl
theorem hT_89 : fb_T (hp L σ I) 89 = (10, 20) := rfl
theorem hT_90 : fb_T (hp L σ I) 90 = (5, 0) := rfl
theorem hT_91 : fb_T (hp L σ I) 91 = (10, 20) := rfl
theorem hT_92 : fb_T (hp L σ I) 92 = (5, 0) := rfl
theorem hT_93 : fb_T (hp L σ I) 93 = (10, 20) := rfl
theorem hT_94 : fb_T (hp L σ I) 94 = (5, 0) := rfl
theorem hT_95 : fb_T (hp L σ I) 95 = (10, 20) := rfl
theorem hT_96 : fb_T (hp L σ I) 96 = (5, 0) := rfl
theorem hT_97 : fb_T (hp L σ I) 97 = (10, 20) := rfl
theorem hT_98 : fb_T (hp L σ I) 98 = (5, 0) := rfl
theorem hT_99 : fb_T (hp L σ I) 99 = (10, 20) := rfl
theorem hT_100 : fb_T (hp L σ I) 100 = (5, 0) := rfl
theorem hT_101 : fb_T (hp L σ I) 101 = (10, 20) := rfl
theorem hT_1000000 : fb_T (hp L σ I) 1000000 = (16, 7) := rfl
theorem hT_1000001 : fb_T (hp L σ I) 1000001 = (16, 3) := rfl
theorem hT_1000002 : fb_T (hp L σ I) 1000002 = (16, 3) := rfl
theorem hT_1000003 : fb_T (hp L σ I) 1000003 = (16, 3) := rfl
theorem hT_1000004 : fb_T (hp L σ I) 1000004 = (16, 4) := rfl
theorem hT_1000005 : fb_T (hp L σ I) 1000005 = (16, 4) := rfl
theorem hT_1000006 : fb_T (hp L σ I) 1000006 = (16, L) := rfl
theorem hR_0_0 : fb_R (hp L σ I) 0 0 = some 1 := rfl
theorem hR_0_1 : fb_R (hp L σ I) 0 1 = some 6 := rfl
theorem hR_0_2 : fb_R (hp L σ I) 0 2 = some 38 := rfl
theorem hR_0_3 : fb_R (hp L σ I) 0 3 = some 49 := rfl
theorem hR_0_4 : fb_R (hp L σ I) 0 4 = some 50 := rfl
theorem hR_0_5 : fb_R (hp L σ I) 0 5 = some 52 := rfl
theorem hR_0_6 : fb_R (hp L σ I) 0 6 = some 56 := rfl
theorem hR_0_7 : fb_R (hp L σ I) 0 7 = some 58 := rfl
theorem hR_1_0 : fb_R (hp L σ I) 1 0 = some 2 := rfl
theorem hR_1_1 : fb_R (hp L σ I) 1 1 = some 3 := rfl
theorem hR_1_2 : fb_R (hp L σ I) 1 2 = some 4 := rfl
theorem hR_1_3 : fb_R (hp L σ I) 1 3 = some 5 := rfl
theorem hR_6_0 : fb_R (hp L σ I) 6 0 = some 7 := rfl
theorem hR_8_0 : fb_R (hp L σ I) 8 0 = some 9 := rfl
theorem hR_8_1 : fb_R (hp L σ I) 8 1 = some 10 := rfl
theorem hR_8_2 : fb_R (hp L σ I) 8 2 = some 11 := rfl
theorem hR_8_3 : fb_R (hp L σ I) 8 3 = some 12 := rfl
theorem hR_13_0 : fb_R (hp L σ I) 13 0 = some 14 := rfl
theorem hR_13_1 : fb_R (hp L σ I) 13 1 = some 15 := rfl
theorem hR_13_2 : fb_R (hp L σ I) 13 2 = some 16 := rfl
theorem hR_13_3 : fb_R (hp L σ I) 13 3 = some 17 := rfl
theorem hR_18_0 : fb_R (hp L σ I) 18 0 = some 19 := rfl
theorem hR_18_1 : fb_R (hp L σ I) 18 1 = some 20 := rfl
theorem hR_18_2 : fb_R (hp L σ I) 18 2 = some 21 := rfl
theorem hR_18_3 : fb_R (hp L σ I) 18 3 = some 22 := rfl
theorem hR_23_0 : fb_R (hp L σ I) 23 0 = some 24 := rfl
theorem hR_23_1 : fb_R (hp L σ I) 23 1 = some 25 := rfl
theorem hR_23_2 : fb_R (hp L σ I) 23 2 = some 26 := rfl
theorem hR_23_3 : fb_R (hp L σ I) 23 3 = some 27 := rfl
theorem hR_28_0 : fb_R (hp L σ I) 28 0 = some 29 := rfl
theorem hR_28_1 : fb_R (hp L σ I) 28 1 = some 30 := rfl
theorem hR_28_2 : fb_R (hp L σ I) 28 2 = some 31 := rfl
theorem hR_28_3 : fb_R (hp L σ I) 28 3 = some 32 := rfl
theorem hR_33_0 : fb_R (hp L σ I) 33 0 = some 34 := rfl
theorem hR_33_1 : fb_R (hp L σ I) 33 1 = some 35 := rfl
theorem hR_33_2 : fb_R (hp L σ I) 33 2 = some 36 := rfl
theorem hR_33_3 : fb_R (hp L σ I) 33 3 = some 37 := rfl
theorem hR_38_0 : fb_R (hp L σ I) 38 0 = some 39 := rfl
theorem hR_38_1 : fb_R (hp L σ I) 38 1 = some 44 := rfl
theorem hR_39_0 : fb_R (hp L σ I) 39 0 = some 40 := rfl
theorem hR_39_1 : fb_R (hp L σ I) 39 1 = some 41 := rfl
theorem hR_39_2 : fb_R (hp L σ I) 39 2 = some 42 := rfl
theorem hR_39_3 : fb_R (hp L σ I) 39 3 = some 43 := rfl
theorem hR_44_0 : fb_R (hp L σ I) 44 0 = some 45 := rfl
theorem hR_44_1 : fb_R (hp L σ I) 44 1 = some 46 := rfl
theorem hR_44_2 : fb_R (hp L σ I) 44 2 = some 47 := rfl
theorem hR_44_3 : fb_R (hp L σ I) 44 3 = some 48 := rfl
theorem hR_50_0 : fb_R (hp L σ I) 50 0 = some 51 := rfl
theorem hR_52_0 : fb_R (hp L σ I) 52 0 = some 53 := rfl
theorem hR_52_1 : fb_R (hp L σ I) 52 1 = some 54 := rfl
theorem hR_52_2 : fb_R (hp L σ I) 52 2 = some 55 := rfl
theorem hR_56_0 : fb_R (hp L σ I) 56 0 = some 57 := rfl
theorem hR_58_0 : fb_R (hp L σ I) 58 0 = some 59 := rfl
theorem hR_58_1 : fb_R (hp L σ I) 58 1 = some 60 := rfl
theorem hR_58_2 : fb_R (hp L σ I) 58 2 = some 71 := rfl
theorem hR_59_0 : fb_R (hp L σ I) 59 0 = some 82 := rfl
theorem hR_59_1 : fb_R (hp L σ I) 59 1 = some 84 := rfl
theorem hR_59_2 : fb_R (hp L σ I) 59 2 = some 86 := rfl
theorem hR_59_3 : fb_R (hp L σ I) 59 3 = some 88 := rfl
theorem hR_59_4 : fb_R (hp L σ I) 59 4 = some 90 := rfl
theorem hR_59_5 : fb_R (hp L σ I) 59 5 = some 92 := rfl
theorem hR_59_6 : fb_R (hp L σ I) 59 6 = some 94 := rfl
theorem hR_59_7 : fb_R (hp L σ I) 59 7 = some 96 := rfl
theorem hR_59_8 : fb_R (hp L σ I) 59 8 = some 98 := rfl
theorem hR_59_9 : fb_R (hp L σ I) 59 9 = some 100 := rfl
theorem hR_60_0 : fb_R (hp L σ I) 60 0 = some 61 := rfl
theorem hR_60_1 : fb_R (hp L σ I) 60 1 = some 62 := rfl
theorem hR_60_2 : fb_R (hp L σ I) 60 2 = some 63 := rfl
theorem hR_60_3 : fb_R (hp L σ I) 60 3 = some 64 := rfl
theorem hR_60_4 : fb_R (hp L σ I) 60 4 = some 65 := rfl
theorem hR_60_5 : fb_R (hp L σ I) 60 5 = some 66 := rfl
theorem hR_60_6 : fb_R (hp L σ I) 60 6 = some 67 := rfl
theorem hR_60_7 : fb_R (hp L σ I) 60 7 = some 68 := rfl
theorem hR_60_8 : fb_R (hp L σ I) 60 8 = some 69 := rfl
theorem hR_60_9 : fb_R (hp L σ I) 60 9 = some 70 := rfl
theorem hR_71_0 : fb_R (hp L σ I) 71 0 = some 72 := rfl
theorem hR_71_1 : fb_R (hp L σ I) 71 1 = some 73 := rfl
theorem hR_71_2 : fb_R (hp L σ I) 71 2 = some 74 := rfl
theorem hR_71_3 : fb_R (hp L σ I) 71 3 = some 75 := rfl
theorem hR_71_4 : fb_R (hp L σ I) 71 4 = some 76 := rfl
theorem hR_71_5 : fb_R (hp L σ I) 71 5 = some 77 := rfl
theorem hR_71_6 : fb_R (hp L σ I) 71 6 = some 78 := rfl
theorem hR_71_7 : fb_R (hp L σ I) 71 7 = some 79 := rfl
theorem hR_71_8 : fb_R (hp L σ I) 71 8 = some 80 := rfl
theorem hR_71_9 : fb_R (hp L σ I) 71 9 = some 81 := rfl
theorem hR_82_0 : fb_R (hp L σ I) 82 0 = some 83 := rfl
theorem hR_84_0 : fb_R (hp L σ I) 84 0 = some 85 := rfl
theorem hR_86_0 : fb_R (hp L σ I) 86 0 = some 87 := rfl
theorem hR_88_0 : fb_R (hp L σ I) 88 0 = some 89 := rfl
theorem hR_90_0 : fb_R (hp L σ I) 90 0 = some 91 := rfl
theorem hR_92_0 : fb_R (hp L σ I) 92 0 = some 93 := rfl
theorem hR_94_0 : fb_R (hp L σ I) 94 0 = some 95 := rfl
theorem hR_96_0 : fb_R (hp L σ I) 96 0 = some 97 := rfl
theorem hR_98_0 : fb_R (hp L σ I) 98 0 = some 99 := rfl
theorem hR_100_0 : fb_R (hp L σ I) 100 0 = some 101 := rfl
theorem hR_7 {k : Nat} (h : k < 6) : fb_R (hp L σ I) 7 k = some (8 + 5 * σ k) := if_pos h
theorem hR_59 {k : Nat} (h : k < 10) : fb_R (hp L σ I) 59 k = some (82 + 2 * k) := match k, h with
  | 0, _ => rfl | 1, _ => rfl | 2, _ => rfl | 3, _ => rfl | 4, _ => rfl | 5, _ => rfl | 6, _ => rfl | 7, _ => rfl | 8, _ => rfl | 9, _ => rfl
  | k + 10, h => absurd h (by omega)
theorem hR_60 {k : Nat} (h : k < 10) : fb_R (hp L σ I) 60 k = some (61 + k) := match k, h with
  | 0, _ => rfl | 1, _ => rfl | 2, _ => rfl | 3, _ => rfl | 4, _ => rfl | 5, _ => rfl | 6, _ => rfl | 7, _ => rfl | 8, _ => rfl | 9, _ => rfl
  | k + 10, h => absurd h (by omega)
theorem hR_71 {k : Nat} (h : k < 10) : fb_R (hp L σ I) 71 k = some (72 + k) := match k, h with
  | 0, _ => rfl | 1, _ => rfl | 2, _ => rfl | 3, _ => rfl | 4, _ => rfl | 5, _ => rfl | 6, _ => rfl | 7, _ => rfl | 8, _ => rfl | 9, _ => rfl
  | k + 10, h => absurd h (by omega)
theorem hT_61k {k : Nat} (h : k < 10) : fb_T (hp L σ I) (61 + k) = (10, 20) := match k, h with
  | 0, _ => rfl | 1, _ => rfl | 2, _ => rfl | 3, _ => rfl | 4, _ => rfl | 5, _ => rfl | 6, _ => rfl | 7, _ => rfl | 8, _ => rfl | 9, _ => rfl
  | k + 10, h => absurd h (by omega)
theorem hT_72k {k : Nat} (h : k < 10) : fb_T (hp L σ I) (72 + k) = (10, 20) := match k, h with
  | 0, _ => rfl | 1, _ => rfl | 2, _ => rfl | 3, _ => rfl | 4, _ => rfl | 5, _ => rfl | 6, _ => rfl | 7, _ => rfl | 8, _ => rfl | 9, _ => rfl
  | k + 10, h => absurd h (by omega)
/-- where pieces stand, and voicings -/
def isp (t : Nat) : Prop := t = 1 ∨ t = 8 ∨ t = 13 ∨ t = 18 ∨ t = 23 ∨ t = 28 ∨ t = 33 ∨ t = 39 ∨ t = 44
def isv (t : Nat) : Prop := t = 56 ∨ t = 82 ∨ t = 84 ∨ t = 86 ∨ t = 88 ∨ t = 90 ∨ t = 92 ∨ t = 94 ∨ t = 96 ∨ t = 98 ∨ t = 100
theorem hT_p {t : Nat} (h : isp t) : fb_T (hp L σ I) t = (3, 0) := by rcases h with rfl | rfl | rfl | rfl | rfl | rfl | rfl | rfl | rfl <;> rfl
theorem hT_p1 {t : Nat} (h : isp t) : fb_T (hp L σ I) (t + 1) = (10, 3) := by rcases h with rfl | rfl | rfl | rfl | rfl | rfl | rfl | rfl | rfl <;> rfl
theorem hT_p2 {t : Nat} (h : isp t) : fb_T (hp L σ I) (t + 2) = (10, 10) := by rcases h with rfl | rfl | rfl | rfl | rfl | rfl | rfl | rfl | rfl <;> rfl
theorem hT_p3 {t : Nat} (h : isp t) : fb_T (hp L σ I) (t + 3) = (10, 10) := by rcases h with rfl | rfl | rfl | rfl | rfl | rfl | rfl | rfl | rfl <;> rfl
theorem hT_p4 {t : Nat} (h : isp t) : fb_T (hp L σ I) (t + 4) = (10, 10) := by rcases h with rfl | rfl | rfl | rfl | rfl | rfl | rfl | rfl | rfl <;> rfl
theorem hR_p0 {t : Nat} (h : isp t) : fb_R (hp L σ I) t 0 = some (t + 1) := by rcases h with rfl | rfl | rfl | rfl | rfl | rfl | rfl | rfl | rfl <;> rfl
theorem hR_p1 {t : Nat} (h : isp t) : fb_R (hp L σ I) t 1 = some (t + 2) := by rcases h with rfl | rfl | rfl | rfl | rfl | rfl | rfl | rfl | rfl <;> rfl
theorem hR_p2 {t : Nat} (h : isp t) : fb_R (hp L σ I) t 2 = some (t + 3) := by rcases h with rfl | rfl | rfl | rfl | rfl | rfl | rfl | rfl | rfl <;> rfl
theorem hR_p3 {t : Nat} (h : isp t) : fb_R (hp L σ I) t 3 = some (t + 4) := by rcases h with rfl | rfl | rfl | rfl | rfl | rfl | rfl | rfl | rfl <;> rfl
theorem hT_v {t : Nat} (h : isv t) : fb_T (hp L σ I) t = (5, 0) := by rcases h with rfl | rfl | rfl | rfl | rfl | rfl | rfl | rfl | rfl | rfl | rfl <;> rfl
theorem hT_v1 {t : Nat} (h : isv t) : fb_T (hp L σ I) (t + 1) = (10, 20) := by rcases h with rfl | rfl | rfl | rfl | rfl | rfl | rfl | rfl | rfl | rfl | rfl <;> rfl
theorem hR_v0 {t : Nat} (h : isv t) : fb_R (hp L σ I) t 0 = some (t + 1) := by rcases h with rfl | rfl | rfl | rfl | rfl | rfl | rfl | rfl | rfl | rfl | rfl <;> rfl
end HP
theorem u2_eq {f : Nat → Nat → Int32} {i k : Nat} {v : Int32} : fb_u2 f i k v i k = v := if_pos ⟨rfl, rfl⟩
theorem u2_ne {f : Nat → Nat → Int32} {i k a b : Nat} {v : Int32} (h : a ≠ i ∨ b ≠ k) : fb_u2 f i k v a b = f a b := if_neg (by omega)
/-- a boolean as an int -/
def zI (c : Bool) : Int32 := if c then iI 1 else iI 0
theorem nb_z (c : Bool) : narrow .boolean (.int (zI c)) = .int (zI c) := by cases c <;> rfl
theorem zI_t : zI true = iI 1 := rfl
theorem zI_f : zI false = iI 0 := rfl
theorem zI_e (c : Bool) : (zI c = iI 0) = (c = false) := by cases c <;> simp [zI] <;> decide
/-! the state of a piece: key, span, leap; chords: bass, figure, voices -/
abbrev Ch : Type := Nat × Nat × Option (Nat × Nat × Nat)
abbrev Co : Type := (Nat × Nat × Nat) × List Ch
def ch (S : Co) (c : Nat) : Ch := S.2.getD c (0, 0, none)
def pkv (v : Nat × Nat × Nat) : Nat := v.1 * 16384 + v.2.1 * 128 + v.2.2
def pkO : Option (Nat × Nat × Nat) → Int
  | none => -1
  | some v => (pkv v : Int)
def isFig (f : Nat) : Prop := f = 5 ∨ f = 6 ∨ f = 64 ∨ f = 7
def VV (v : Nat × Nat × Nat) : Prop := v.1 ≤ 99 ∧ v.2.1 ≤ 99 ∧ v.2.2 ≤ 99
def VC (x : Ch) : Prop := 36 ≤ x.1 ∧ x.1 ≤ 59 ∧ isFig x.2.1 ∧ ∀ v, x.2.2 = some v → VV v
def VS (S : Co) : Prop := S.1.1 < 12 ∧ (7 ≤ S.1.2.1 ∧ S.1.2.1 ≤ 24) ∧ (1 ≤ S.1.2.2 ∧ S.1.2.2 ≤ 12) ∧ S.2.length ≤ 10 ∧ ∀ c, c < S.2.length → VC (ch S c)
def RepP (I : Nat → Nat → Int32) (t : Nat) (S : Co) : Prop := I (t + 1) 0 = iI (S.1.1 : Int) ∧ I (t + 1) 1 = iI (S.1.2.1 : Int) ∧ I (t + 1) 2 = iI (S.1.2.2 : Int) ∧ I t 4 = iI (S.2.length : Int) ∧ ∀ c, c < S.2.length → I (t + 2) c = iI ((ch S c).1 : Int) ∧ I (t + 3) c = iI ((ch S c).2.1 : Int) ∧ I (t + 4) c = iI (pkO (ch S c).2.2)
/-- the static arrays hold what they hold -/
def StI (I : Nat → Nat → Int32) : Prop := ∀ k, k < 6 → ∀ q, I (1000000 + k) q = (fb_va k).getD q 0
theorem pkv_lt {v : Nat × Nat × Nat} (h : VV v) : pkv v < 2097152 := by
  unfold pkv
  obtain ⟨h1, h2, h3⟩ := h
  omega
theorem pkO_lt {S : Co} (h : VS S) {c : Nat} (hc : c < S.2.length) : -1 ≤ pkO (ch S c).2.2 ∧ pkO (ch S c).2.2 < 2097152 := by
  have h1 := (h.2.2.2.2 c hc).2.2.2
  cases hx : (ch S c).2.2 with
  | none => simp [pkO]
  | some v =>
    have := pkv_lt (h1 v hx)
    simp only [pkO]
    omega
