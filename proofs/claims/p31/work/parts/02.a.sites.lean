/-! allocation sites: kind and number of fields of the cells of each, and the kinds of the fields of each class -/
def SKl : List Nat := [100, 104, 100, 100, 100, 100, 100, 100, 100, 100, 100, 100, 100, 101, 105, 100, 105, 100, 100, 100, 100, 101, 100, 100, 101, 101, 100, 100, 100, 100, 100, 100, 101, 105, 100, 4, 3, 6, 7, 2, 5, 100, 100, 100, 100, 100, 100, 100, 100, 100, 100, 100, 100, 100, 100, 100, 100, 100, 100, 100, 100, 8, 100, 100, 100, 100]
def SK (s : Nat) : Nat := SKl.getD s 99
theorem SK_0 : SK 0 = 100 := rfl -- script
theorem SK_1 : SK 1 = 104 := rfl -- none
theorem SK_2 : SK 2 = 100 := rfl -- X0_init@7 .int[]
theorem SK_3 : SK 3 = 100 := rfl -- X1_init@6 .int[]
theorem SK_4 : SK 4 = 100 := rfl -- X1_init@13 .int[]
theorem SK_5 : SK 5 = 100 := rfl -- X2_init@7 .int[]
theorem SK_6 : SK 6 = 100 := rfl -- X2_init@15 .int[]
theorem SK_7 : SK 7 = 100 := rfl -- X2_init@23 .int[]
theorem SK_8 : SK 8 = 100 := rfl -- X2_init@31 .int[]
theorem SK_9 : SK 9 = 100 := rfl -- X2_init@39 .int[]
theorem SK_10 : SK 10 = 100 := rfl -- X2_init@47 .int[]
theorem SK_11 : SK 11 = 100 := rfl -- X2_init@55 .int[]
theorem SK_12 : SK 12 = 100 := rfl -- X2_init@63 .int[]
theorem SK_13 : SK 13 = 101 := rfl -- X2_init@71 .boolean[]
theorem SK_14 : SK 14 = 105 := rfl -- X2_init@81 int[][]
theorem SK_15 : SK 15 = 100 := rfl -- X2_init@81 its rows
theorem SK_16 : SK 16 = 105 := rfl -- X2_init@93 int[][]
theorem SK_17 : SK 17 = 100 := rfl -- X2_init@93 its rows
theorem SK_18 : SK 18 = 100 := rfl -- X3_init@6 .int[]
theorem SK_19 : SK 19 = 100 := rfl -- X3_init@13 .int[]
theorem SK_20 : SK 20 = 100 := rfl -- X3_init@21 .int[]
theorem SK_21 : SK 21 = 101 := rfl -- X3_init@29 .boolean[]
theorem SK_22 : SK 22 = 100 := rfl -- X4_init@7 .int[]
theorem SK_23 : SK 23 = 100 := rfl -- X4_init@15 .int[]
theorem SK_24 : SK 24 = 101 := rfl -- X4_init@23 .boolean[]
theorem SK_25 : SK 25 = 101 := rfl -- X4_init@31 .boolean[]
theorem SK_26 : SK 26 = 100 := rfl -- X5_init@7 .int[]
theorem SK_27 : SK 27 = 100 := rfl -- X5_init@15 .int[]
theorem SK_28 : SK 28 = 100 := rfl -- X5_init@23 .int[]
theorem SK_29 : SK 29 = 100 := rfl -- X5_init@31 .int[]
theorem SK_30 : SK 30 = 100 := rfl -- X5_init@39 .int[]
theorem SK_31 : SK 31 = 100 := rfl -- X5_init@47 .int[]
theorem SK_32 : SK 32 = 101 := rfl -- X5_init@55 .boolean[]
theorem SK_33 : SK 33 = 105 := rfl -- X5_init@65 int[][]
theorem SK_34 : SK 34 = 100 := rfl -- X5_init@65 its rows
theorem SK_35 : SK 35 = 4 := rfl -- X6_init@5 new Iemotohall$People
theorem SK_36 : SK 36 = 3 := rfl -- X6_init@16 new Iemotohall$Houses
theorem SK_37 : SK 37 = 6 := rfl -- X6_init@27 new Iemotohall$Secrets
theorem SK_38 : SK 38 = 7 := rfl -- X6_init@38 new Iemotohall$Utensils
theorem SK_39 : SK 39 = 2 := rfl -- X6_init@49 new Iemotohall$Falling
theorem SK_40 : SK 40 = 5 := rfl -- X6_init@64 new Iemotohall$Planner
theorem SK_41 : SK 41 = 100 := rfl -- -
theorem SK_42 : SK 42 = 100 := rfl -- -
theorem SK_43 : SK 43 = 100 := rfl -- -
theorem SK_44 : SK 44 = 100 := rfl -- -
theorem SK_45 : SK 45 = 100 := rfl -- -
theorem SK_46 : SK 46 = 100 := rfl -- -
theorem SK_47 : SK 47 = 100 := rfl -- -
theorem SK_48 : SK 48 = 100 := rfl -- -
theorem SK_49 : SK 49 = 100 := rfl -- -
theorem SK_50 : SK 50 = 100 := rfl -- -
theorem SK_51 : SK 51 = 100 := rfl -- -
theorem SK_52 : SK 52 = 100 := rfl -- -
theorem SK_53 : SK 53 = 100 := rfl -- -
theorem SK_54 : SK 54 = 100 := rfl -- -
theorem SK_55 : SK 55 = 100 := rfl -- -
theorem SK_56 : SK 56 = 100 := rfl -- -
theorem SK_57 : SK 57 = 100 := rfl -- -
theorem SK_58 : SK 58 = 100 := rfl -- -
theorem SK_59 : SK 59 = 100 := rfl -- -
theorem SK_60 : SK 60 = 100 := rfl -- -
theorem SK_61 : SK 61 = 8 := rfl -- L_law@0 new Iemotohall
theorem SK_62 : SK 62 = 100 := rfl -- -
theorem SK_63 : SK 63 = 100 := rfl -- -
theorem SK_64 : SK 64 = 100 := rfl -- -
theorem SK_65 : SK 65 = 100 := rfl -- -
def NFl : List Nat := [2, 2, 2, 3, 12, 7, 5, 9, 11]
def NF (c : Nat) : Nat := NFl.getD c 0
def FTl : List (List Nat) := [[2, 2], [2, 2], [2, 2], [0, 2, 2], [0, 2, 2, 2, 2, 2, 2, 2, 2, 2, 2, 2], [2, 2, 2, 2, 2, 2, 0], [0, 2, 2, 2, 2], [0, 2, 2, 2, 2, 2, 2, 2, 2], [2, 2, 2, 2, 2, 2, 0, 0, 0, 0, 0]]
def FT (c k : Nat) : Nat := (FTl.getD c []).getD k 0
