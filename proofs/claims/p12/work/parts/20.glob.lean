/-! NUMBERS: what each number is, in the order of making. Printed by wip/am/gen_glob.py. -/
def SHl : List (Nat ⊕ (Nat × Nat)) := [.inl 11, .inr (1, 2000), .inl 5, .inl 9, .inl 2, .inr (0, 408), .inr (0, 408), .inr (0, 4), .inr (0, 9), .inr (0, 24), .inr (0, 5), .inr (0, 5), .inr (0, 5), .inr (0, 5), .inl 8, .inr (3, 19), .inr (0, 402), .inr (0, 402), .inr (3, 402), .inr (3, 5), .inl 9, .inl 2, .inr (0, 408), .inr (0, 408), .inr (0, 4), .inr (0, 9), .inr (0, 24), .inr (0, 5), .inr (0, 5), .inr (0, 5), .inr (0, 5), .inl 4, .inr (0, 40), .inl 4, .inr (0, 40), .inl 7, .inr (0, 1600), .inr (0, 120), .inl 0, .inl 10, .inr (0, 12), .inr (0, 12), .inr (0, 12), .inl 3, .inl 1, .inr (0, 12), .inr (0, 5), .inl 6, .inr (0, 20), .inr (2, 20), .inr (0, 5), .inl 12, .inr (1, 2000), .inr (1, 2000), .inr (0, 403), .inr (0, 403), .inr (0, 403), .inr (3, 403), .inr (3, 19), .inr (3, 5), .inr (0, 2), .inr (0, 2), .inr (0, 10), .inr (0, 10), .inr (0, 10), .inr (0, 10), .inr (0, 2), .inr (0, 8), .inr (0, 8), .inr (2, 260), .inr (0, 260), .inr (0, 260), .inr (0, 260), .inr (0, 260), .inr (0, 840), .inr (0, 840), .inr (0, 64), .inr (0, 9), .inr (0, 400), .inr (0, 51), .inr (0, 51), .inr (0, 2040), .inr (0, 5), .inr (2, 144), .inr (2, 144), .inr (0, 5), .inr (0, 5), .inr (0, 32), .inr (0, 20), .inr (2, 20), .inr (2, 3), .inr (0, 153)]
def SH : am_Sh := fun o => SHl.getD o (.inr (0, 0))
def K1l : List (List Nat) := [[3, 0, 0, 3, 3, 3, 3, 3, 3, 3, 3, 3, 3, 3], [], [3, 3, 3, 0, 0, 0, 1, 0, 0, 0, 0], [0, 0, 0, 3, 3, 3, 3, 3], [3, 3, 3, 3, 3, 0], [], [], [], [], [], [], [], [], [], [3, 3, 3, 3, 0], [], [], [], [], [], [0, 0, 0, 3, 3, 3, 3, 3], [3, 3, 3, 3, 3, 0], [], [], [], [], [], [], [], [], [], [3], [], [3], [], [3, 3, 0, 0, 0], [], [], [3, 3], [3, 3, 3, 3, 3], [], [], [], [3, 3], [3, 3, 3, 3], [], [], [3, 3, 3, 0], [], [], [], [0, 3, 0, 3, 0, 3, 3, 3, 3, 3, 0, 0, 0, 0, 0, 0, 0, 0, 0, 0, 0, 3, 3, 3, 3, 3, 3, 3, 3, 3, 3, 0, 3, 3, 3, 3, 3, 0, 3, 3, 3, 0, 3, 3, 2, 3, 3, 0, 2, 0, 3, 3, 3, 3, 0, 3, 3, 3, 0, 3, 3, 3, 3], [], [], [], [], [], [], [], [], [], [], [], [], [], [], [], [], [], [], [], [], [], [], [], [], [], [], [], [], [], [], [], [], [], [], [], [], [], [], [], []]
def K1 : am_Kf := fun o => K1l.getD o []
def KFl : List (List Nat) := [[5, 0, 0, 6, 24, 35, 37, 39, 42, 43, 47, 48, 51, 54], [], [7, 18, 23, 0, 0, 0, 1, 0, 0, 0, 0], [0, 0, 0, 8, 14, 15, 16, 17], [9, 10, 11, 12, 13, 0], [], [], [], [], [], [], [], [], [], [19, 20, 21, 22, 0], [], [], [], [], [], [0, 0, 0, 25, 31, 32, 33, 34], [26, 27, 28, 29, 30, 0], [], [], [], [], [], [], [], [], [], [36], [], [38], [], [40, 41, 0, 0, 0], [], [], [24, 25], [24, 42, 44, 3, 3], [], [], [], [24, 42], [24, 42, 49, 50], [], [], [24, 52, 53, 0], [], [], [], [0, 56, 0, 57, 0, 58, 59, 60, 61, 62, 0, 0, 0, 0, 0, 0, 0, 0, 0, 0, 0, 63, 64, 65, 66, 67, 68, 69, 70, 71, 72, 0, 73, 74, 75, 76, 77, 0, 78, 79, 80, 0, 81, 82, 2, 83, 84, 0, 2, 0, 85, 86, 87, 88, 0, 89, 90, 91, 0, 92, 93, 94, 95], [], [], [], [], [], [], [], [], [], [], [], [], [], [], [], [], [], [], [], [], [], [], [], [], [], [], [], [], [], [], [], [], [], [], [], [], [], [], [], []]
def KF : am_Kf := fun o => KFl.getD o []
theorem SH_0 : SH 0 = .inl 11 := rfl
theorem SH_1 : SH 1 = .inr (1, 2000) := rfl
theorem SH_2 : SH 2 = .inl 5 := rfl
theorem SH_3 : SH 3 = .inl 9 := rfl
theorem SH_4 : SH 4 = .inl 2 := rfl
theorem SH_5 : SH 5 = .inr (0, 408) := rfl
theorem SH_6 : SH 6 = .inr (0, 408) := rfl
theorem SH_7 : SH 7 = .inr (0, 4) := rfl
theorem SH_8 : SH 8 = .inr (0, 9) := rfl
theorem SH_9 : SH 9 = .inr (0, 24) := rfl
theorem SH_10 : SH 10 = .inr (0, 5) := rfl
theorem SH_11 : SH 11 = .inr (0, 5) := rfl
theorem SH_12 : SH 12 = .inr (0, 5) := rfl
theorem SH_13 : SH 13 = .inr (0, 5) := rfl
theorem SH_14 : SH 14 = .inl 8 := rfl
theorem SH_15 : SH 15 = .inr (3, 19) := rfl
theorem SH_16 : SH 16 = .inr (0, 402) := rfl
theorem SH_17 : SH 17 = .inr (0, 402) := rfl
theorem SH_18 : SH 18 = .inr (3, 402) := rfl
theorem SH_19 : SH 19 = .inr (3, 5) := rfl
theorem SH_20 : SH 20 = .inl 9 := rfl
theorem SH_21 : SH 21 = .inl 2 := rfl
theorem SH_22 : SH 22 = .inr (0, 408) := rfl
theorem SH_23 : SH 23 = .inr (0, 408) := rfl
theorem SH_24 : SH 24 = .inr (0, 4) := rfl
theorem SH_25 : SH 25 = .inr (0, 9) := rfl
theorem SH_26 : SH 26 = .inr (0, 24) := rfl
theorem SH_27 : SH 27 = .inr (0, 5) := rfl
theorem SH_28 : SH 28 = .inr (0, 5) := rfl
theorem SH_29 : SH 29 = .inr (0, 5) := rfl
theorem SH_30 : SH 30 = .inr (0, 5) := rfl
theorem SH_31 : SH 31 = .inl 4 := rfl
theorem SH_32 : SH 32 = .inr (0, 40) := rfl
theorem SH_33 : SH 33 = .inl 4 := rfl
theorem SH_34 : SH 34 = .inr (0, 40) := rfl
theorem SH_35 : SH 35 = .inl 7 := rfl
theorem SH_36 : SH 36 = .inr (0, 1600) := rfl
theorem SH_37 : SH 37 = .inr (0, 120) := rfl
theorem SH_38 : SH 38 = .inl 0 := rfl
theorem SH_39 : SH 39 = .inl 10 := rfl
theorem SH_40 : SH 40 = .inr (0, 12) := rfl
theorem SH_41 : SH 41 = .inr (0, 12) := rfl
theorem SH_42 : SH 42 = .inr (0, 12) := rfl
theorem SH_43 : SH 43 = .inl 3 := rfl
theorem SH_44 : SH 44 = .inl 1 := rfl
theorem SH_45 : SH 45 = .inr (0, 12) := rfl
theorem SH_46 : SH 46 = .inr (0, 5) := rfl
theorem SH_47 : SH 47 = .inl 6 := rfl
theorem SH_48 : SH 48 = .inr (0, 20) := rfl
theorem SH_49 : SH 49 = .inr (2, 20) := rfl
theorem SH_50 : SH 50 = .inr (0, 5) := rfl
theorem SH_51 : SH 51 = .inl 12 := rfl
theorem SH_52 : SH 52 = .inr (1, 2000) := rfl
theorem SH_53 : SH 53 = .inr (1, 2000) := rfl
theorem SH_54 : SH 54 = .inr (0, 403) := rfl
theorem SH_55 : SH 55 = .inr (0, 403) := rfl
theorem SH_56 : SH 56 = .inr (0, 403) := rfl
theorem SH_57 : SH 57 = .inr (3, 403) := rfl
theorem SH_58 : SH 58 = .inr (3, 19) := rfl
theorem SH_59 : SH 59 = .inr (3, 5) := rfl
theorem SH_60 : SH 60 = .inr (0, 2) := rfl
theorem SH_61 : SH 61 = .inr (0, 2) := rfl
theorem SH_62 : SH 62 = .inr (0, 10) := rfl
theorem SH_63 : SH 63 = .inr (0, 10) := rfl
theorem SH_64 : SH 64 = .inr (0, 10) := rfl
theorem SH_65 : SH 65 = .inr (0, 10) := rfl
theorem SH_66 : SH 66 = .inr (0, 2) := rfl
theorem SH_67 : SH 67 = .inr (0, 8) := rfl
theorem SH_68 : SH 68 = .inr (0, 8) := rfl
theorem SH_69 : SH 69 = .inr (2, 260) := rfl
theorem SH_70 : SH 70 = .inr (0, 260) := rfl
theorem SH_71 : SH 71 = .inr (0, 260) := rfl
theorem SH_72 : SH 72 = .inr (0, 260) := rfl
theorem SH_73 : SH 73 = .inr (0, 260) := rfl
theorem SH_74 : SH 74 = .inr (0, 840) := rfl
theorem SH_75 : SH 75 = .inr (0, 840) := rfl
theorem SH_76 : SH 76 = .inr (0, 64) := rfl
theorem SH_77 : SH 77 = .inr (0, 9) := rfl
theorem SH_78 : SH 78 = .inr (0, 400) := rfl
theorem SH_79 : SH 79 = .inr (0, 51) := rfl
theorem SH_80 : SH 80 = .inr (0, 51) := rfl
theorem SH_81 : SH 81 = .inr (0, 2040) := rfl
theorem SH_82 : SH 82 = .inr (0, 5) := rfl
theorem SH_83 : SH 83 = .inr (2, 144) := rfl
theorem SH_84 : SH 84 = .inr (2, 144) := rfl
theorem SH_85 : SH 85 = .inr (0, 5) := rfl
theorem SH_86 : SH 86 = .inr (0, 5) := rfl
theorem SH_87 : SH 87 = .inr (0, 32) := rfl
theorem SH_88 : SH 88 = .inr (0, 20) := rfl
theorem SH_89 : SH 89 = .inr (2, 20) := rfl
theorem SH_90 : SH 90 = .inr (2, 3) := rfl
theorem SH_91 : SH 91 = .inr (0, 153) := rfl
theorem K1_0_0 : (K1 0)[0]? = some 3 := rfl
theorem K1_0_1 : (K1 0)[1]? = some 0 := rfl
theorem K1_0_2 : (K1 0)[2]? = some 0 := rfl
theorem K1_0_3 : (K1 0)[3]? = some 3 := rfl
theorem K1_0_4 : (K1 0)[4]? = some 3 := rfl
theorem K1_0_5 : (K1 0)[5]? = some 3 := rfl
theorem K1_0_6 : (K1 0)[6]? = some 3 := rfl
theorem K1_0_7 : (K1 0)[7]? = some 3 := rfl
theorem K1_0_8 : (K1 0)[8]? = some 3 := rfl
theorem K1_0_9 : (K1 0)[9]? = some 3 := rfl
theorem K1_0_10 : (K1 0)[10]? = some 3 := rfl
theorem K1_0_11 : (K1 0)[11]? = some 3 := rfl
theorem K1_0_12 : (K1 0)[12]? = some 3 := rfl
theorem K1_0_13 : (K1 0)[13]? = some 3 := rfl
theorem KF_0_0 : (KF 0)[0]? = some 5 := rfl
theorem KF_0_1 : (KF 0)[1]? = some 0 := rfl
theorem KF_0_2 : (KF 0)[2]? = some 0 := rfl
theorem KF_0_3 : (KF 0)[3]? = some 6 := rfl
theorem KF_0_4 : (KF 0)[4]? = some 24 := rfl
theorem KF_0_5 : (KF 0)[5]? = some 35 := rfl
theorem KF_0_6 : (KF 0)[6]? = some 37 := rfl
theorem KF_0_7 : (KF 0)[7]? = some 39 := rfl
theorem KF_0_8 : (KF 0)[8]? = some 42 := rfl
theorem KF_0_10 : (KF 0)[10]? = some 47 := rfl
theorem KF_0_11 : (KF 0)[11]? = some 48 := rfl
theorem KF_0_12 : (KF 0)[12]? = some 51 := rfl
theorem K1_2_0 : (K1 2)[0]? = some 3 := rfl
theorem K1_2_1 : (K1 2)[1]? = some 3 := rfl
theorem K1_2_2 : (K1 2)[2]? = some 3 := rfl
theorem K1_2_3 : (K1 2)[3]? = some 0 := rfl
theorem K1_2_4 : (K1 2)[4]? = some 0 := rfl
theorem K1_2_5 : (K1 2)[5]? = some 0 := rfl
theorem K1_2_6 : (K1 2)[6]? = some 1 := rfl
theorem K1_2_7 : (K1 2)[7]? = some 0 := rfl
theorem K1_2_8 : (K1 2)[8]? = some 0 := rfl
theorem K1_2_9 : (K1 2)[9]? = some 0 := rfl
theorem K1_2_10 : (K1 2)[10]? = some 0 := rfl
theorem KF_2_0 : (KF 2)[0]? = some 7 := rfl
theorem KF_2_1 : (KF 2)[1]? = some 18 := rfl
theorem KF_2_2 : (KF 2)[2]? = some 23 := rfl
theorem KF_2_3 : (KF 2)[3]? = some 0 := rfl
theorem KF_2_4 : (KF 2)[4]? = some 0 := rfl
theorem KF_2_5 : (KF 2)[5]? = some 0 := rfl
theorem KF_2_6 : (KF 2)[6]? = some 1 := rfl
theorem KF_2_7 : (KF 2)[7]? = some 0 := rfl
theorem KF_2_8 : (KF 2)[8]? = some 0 := rfl
theorem KF_2_9 : (KF 2)[9]? = some 0 := rfl
theorem KF_2_10 : (KF 2)[10]? = some 0 := rfl
theorem K1_3_0 : (K1 3)[0]? = some 0 := rfl
theorem K1_3_1 : (K1 3)[1]? = some 0 := rfl
theorem K1_3_2 : (K1 3)[2]? = some 0 := rfl
theorem K1_3_3 : (K1 3)[3]? = some 3 := rfl
theorem K1_3_4 : (K1 3)[4]? = some 3 := rfl
theorem K1_3_5 : (K1 3)[5]? = some 3 := rfl
theorem K1_3_6 : (K1 3)[6]? = some 3 := rfl
theorem K1_3_7 : (K1 3)[7]? = some 3 := rfl
theorem KF_3_0 : (KF 3)[0]? = some 0 := rfl
theorem KF_3_1 : (KF 3)[1]? = some 0 := rfl
theorem KF_3_2 : (KF 3)[2]? = some 0 := rfl
theorem KF_3_3 : (KF 3)[3]? = some 8 := rfl
theorem KF_3_4 : (KF 3)[4]? = some 14 := rfl
theorem KF_3_5 : (KF 3)[5]? = some 15 := rfl
theorem KF_3_6 : (KF 3)[6]? = some 16 := rfl
theorem KF_3_7 : (KF 3)[7]? = some 17 := rfl
theorem K1_4_0 : (K1 4)[0]? = some 3 := rfl
theorem K1_4_1 : (K1 4)[1]? = some 3 := rfl
theorem K1_4_2 : (K1 4)[2]? = some 3 := rfl
theorem K1_4_3 : (K1 4)[3]? = some 3 := rfl
theorem K1_4_4 : (K1 4)[4]? = some 3 := rfl
theorem K1_4_5 : (K1 4)[5]? = some 0 := rfl
theorem KF_4_0 : (KF 4)[0]? = some 9 := rfl
theorem KF_4_1 : (KF 4)[1]? = some 10 := rfl
theorem KF_4_2 : (KF 4)[2]? = some 11 := rfl
theorem KF_4_3 : (KF 4)[3]? = some 12 := rfl
theorem KF_4_4 : (KF 4)[4]? = some 13 := rfl
theorem KF_4_5 : (KF 4)[5]? = some 0 := rfl
theorem K1_14_0 : (K1 14)[0]? = some 3 := rfl
theorem K1_14_1 : (K1 14)[1]? = some 3 := rfl
theorem K1_14_2 : (K1 14)[2]? = some 3 := rfl
theorem K1_14_3 : (K1 14)[3]? = some 3 := rfl
theorem K1_14_4 : (K1 14)[4]? = some 0 := rfl
theorem KF_14_0 : (KF 14)[0]? = some 19 := rfl
theorem KF_14_1 : (KF 14)[1]? = some 20 := rfl
theorem KF_14_2 : (KF 14)[2]? = some 21 := rfl
theorem KF_14_3 : (KF 14)[3]? = some 22 := rfl
theorem KF_14_4 : (KF 14)[4]? = some 0 := rfl
theorem K1_20_0 : (K1 20)[0]? = some 0 := rfl
theorem K1_20_1 : (K1 20)[1]? = some 0 := rfl
theorem K1_20_2 : (K1 20)[2]? = some 0 := rfl
theorem K1_20_3 : (K1 20)[3]? = some 3 := rfl
theorem K1_20_4 : (K1 20)[4]? = some 3 := rfl
theorem K1_20_5 : (K1 20)[5]? = some 3 := rfl
theorem K1_20_6 : (K1 20)[6]? = some 3 := rfl
theorem K1_20_7 : (K1 20)[7]? = some 3 := rfl
theorem KF_20_0 : (KF 20)[0]? = some 0 := rfl
theorem KF_20_1 : (KF 20)[1]? = some 0 := rfl
theorem KF_20_2 : (KF 20)[2]? = some 0 := rfl
theorem KF_20_3 : (KF 20)[3]? = some 25 := rfl
theorem KF_20_4 : (KF 20)[4]? = some 31 := rfl
theorem KF_20_5 : (KF 20)[5]? = some 32 := rfl
theorem KF_20_6 : (KF 20)[6]? = some 33 := rfl
theorem KF_20_7 : (KF 20)[7]? = some 34 := rfl
theorem K1_21_0 : (K1 21)[0]? = some 3 := rfl
theorem K1_21_1 : (K1 21)[1]? = some 3 := rfl
theorem K1_21_2 : (K1 21)[2]? = some 3 := rfl
theorem K1_21_3 : (K1 21)[3]? = some 3 := rfl
theorem K1_21_4 : (K1 21)[4]? = some 3 := rfl
theorem K1_21_5 : (K1 21)[5]? = some 0 := rfl
theorem KF_21_0 : (KF 21)[0]? = some 26 := rfl
theorem KF_21_1 : (KF 21)[1]? = some 27 := rfl
theorem KF_21_2 : (KF 21)[2]? = some 28 := rfl
theorem KF_21_3 : (KF 21)[3]? = some 29 := rfl
theorem KF_21_4 : (KF 21)[4]? = some 30 := rfl
theorem KF_21_5 : (KF 21)[5]? = some 0 := rfl
theorem K1_31_0 : (K1 31)[0]? = some 3 := rfl
theorem KF_31_0 : (KF 31)[0]? = some 36 := rfl
theorem K1_33_0 : (K1 33)[0]? = some 3 := rfl
theorem KF_33_0 : (KF 33)[0]? = some 38 := rfl
theorem K1_35_0 : (K1 35)[0]? = some 3 := rfl
theorem K1_35_1 : (K1 35)[1]? = some 3 := rfl
theorem K1_35_2 : (K1 35)[2]? = some 0 := rfl
theorem K1_35_3 : (K1 35)[3]? = some 0 := rfl
theorem K1_35_4 : (K1 35)[4]? = some 0 := rfl
theorem KF_35_0 : (KF 35)[0]? = some 40 := rfl
theorem KF_35_1 : (KF 35)[1]? = some 41 := rfl
theorem KF_35_2 : (KF 35)[2]? = some 0 := rfl
theorem KF_35_3 : (KF 35)[3]? = some 0 := rfl
theorem KF_35_4 : (KF 35)[4]? = some 0 := rfl
theorem K1_38_0 : (K1 38)[0]? = some 3 := rfl
theorem K1_38_1 : (K1 38)[1]? = some 3 := rfl
theorem KF_38_0 : (KF 38)[0]? = some 24 := rfl
theorem KF_38_1 : (KF 38)[1]? = some 25 := rfl
theorem K1_39_0 : (K1 39)[0]? = some 3 := rfl
theorem K1_39_1 : (K1 39)[1]? = some 3 := rfl
theorem K1_39_2 : (K1 39)[2]? = some 3 := rfl
theorem K1_39_3 : (K1 39)[3]? = some 3 := rfl
theorem K1_39_4 : (K1 39)[4]? = some 3 := rfl
theorem KF_39_0 : (KF 39)[0]? = some 24 := rfl
theorem KF_39_1 : (KF 39)[1]? = some 42 := rfl
theorem KF_39_2 : (KF 39)[2]? = some 44 := rfl
theorem KF_39_3 : (KF 39)[3]? = some 3 := rfl
theorem KF_39_4 : (KF 39)[4]? = some 3 := rfl
theorem K1_43_0 : (K1 43)[0]? = some 3 := rfl
theorem K1_43_1 : (K1 43)[1]? = some 3 := rfl
theorem KF_43_0 : (KF 43)[0]? = some 24 := rfl
theorem KF_43_1 : (KF 43)[1]? = some 42 := rfl
theorem K1_44_0 : (K1 44)[0]? = some 3 := rfl
theorem K1_44_1 : (K1 44)[1]? = some 3 := rfl
theorem K1_44_2 : (K1 44)[2]? = some 3 := rfl
theorem K1_44_3 : (K1 44)[3]? = some 3 := rfl
theorem KF_44_0 : (KF 44)[0]? = some 24 := rfl
theorem KF_44_1 : (KF 44)[1]? = some 42 := rfl
theorem KF_44_2 : (KF 44)[2]? = some 49 := rfl
theorem KF_44_3 : (KF 44)[3]? = some 50 := rfl
theorem K1_47_0 : (K1 47)[0]? = some 3 := rfl
theorem K1_47_1 : (K1 47)[1]? = some 3 := rfl
theorem K1_47_2 : (K1 47)[2]? = some 3 := rfl
theorem K1_47_3 : (K1 47)[3]? = some 0 := rfl
theorem KF_47_1 : (KF 47)[1]? = some 52 := rfl
theorem KF_47_2 : (KF 47)[2]? = some 53 := rfl
theorem KF_47_3 : (KF 47)[3]? = some 0 := rfl
theorem KF_51_1 : (KF 51)[1]? = some 56 := rfl
theorem KF_51_2 : (KF 51)[2]? = some 0 := rfl
theorem KF_51_3 : (KF 51)[3]? = some 57 := rfl
theorem KF_51_4 : (KF 51)[4]? = some 0 := rfl
theorem KF_51_5 : (KF 51)[5]? = some 58 := rfl
theorem KF_51_6 : (KF 51)[6]? = some 59 := rfl
theorem KF_51_7 : (KF 51)[7]? = some 60 := rfl
theorem KF_51_8 : (KF 51)[8]? = some 61 := rfl
theorem KF_51_9 : (KF 51)[9]? = some 62 := rfl
theorem KF_51_10 : (KF 51)[10]? = some 0 := rfl
theorem KF_51_11 : (KF 51)[11]? = some 0 := rfl
theorem KF_51_12 : (KF 51)[12]? = some 0 := rfl
theorem KF_51_13 : (KF 51)[13]? = some 0 := rfl
theorem KF_51_14 : (KF 51)[14]? = some 0 := rfl
theorem KF_51_15 : (KF 51)[15]? = some 0 := rfl
theorem KF_51_16 : (KF 51)[16]? = some 0 := rfl
theorem KF_51_17 : (KF 51)[17]? = some 0 := rfl
theorem KF_51_18 : (KF 51)[18]? = some 0 := rfl
theorem KF_51_19 : (KF 51)[19]? = some 0 := rfl
theorem KF_51_20 : (KF 51)[20]? = some 0 := rfl
theorem KF_51_21 : (KF 51)[21]? = some 63 := rfl
theorem KF_51_22 : (KF 51)[22]? = some 64 := rfl
theorem KF_51_23 : (KF 51)[23]? = some 65 := rfl
theorem KF_51_24 : (KF 51)[24]? = some 66 := rfl
theorem KF_51_25 : (KF 51)[25]? = some 67 := rfl
theorem KF_51_26 : (KF 51)[26]? = some 68 := rfl
theorem KF_51_27 : (KF 51)[27]? = some 69 := rfl
theorem KF_51_28 : (KF 51)[28]? = some 70 := rfl
theorem KF_51_29 : (KF 51)[29]? = some 71 := rfl
theorem KF_51_30 : (KF 51)[30]? = some 72 := rfl
theorem KF_51_31 : (KF 51)[31]? = some 0 := rfl
theorem KF_51_32 : (KF 51)[32]? = some 73 := rfl
theorem KF_51_33 : (KF 51)[33]? = some 74 := rfl
theorem KF_51_34 : (KF 51)[34]? = some 75 := rfl
theorem KF_51_35 : (KF 51)[35]? = some 76 := rfl
theorem KF_51_36 : (KF 51)[36]? = some 77 := rfl
theorem KF_51_37 : (KF 51)[37]? = some 0 := rfl
theorem KF_51_38 : (KF 51)[38]? = some 78 := rfl
theorem KF_51_39 : (KF 51)[39]? = some 79 := rfl
theorem KF_51_40 : (KF 51)[40]? = some 80 := rfl
theorem KF_51_41 : (KF 51)[41]? = some 0 := rfl
theorem KF_51_42 : (KF 51)[42]? = some 81 := rfl
theorem KF_51_43 : (KF 51)[43]? = some 82 := rfl
theorem KF_51_44 : (KF 51)[44]? = some 2 := rfl
theorem KF_51_45 : (KF 51)[45]? = some 83 := rfl
theorem KF_51_46 : (KF 51)[46]? = some 84 := rfl
theorem KF_51_47 : (KF 51)[47]? = some 0 := rfl
theorem KF_51_48 : (KF 51)[48]? = some 2 := rfl
theorem KF_51_49 : (KF 51)[49]? = some 0 := rfl
theorem KF_51_50 : (KF 51)[50]? = some 85 := rfl
theorem KF_51_51 : (KF 51)[51]? = some 86 := rfl
theorem KF_51_55 : (KF 51)[55]? = some 89 := rfl
theorem KF_51_58 : (KF 51)[58]? = some 0 := rfl
theorem KF_51_59 : (KF 51)[59]? = some 92 := rfl
theorem KF_51_60 : (KF 51)[60]? = some 93 := rfl
theorem KF_51_61 : (KF 51)[61]? = some 94 := rfl
theorem KF_51_62 : (KF 51)[62]? = some 95 := rfl
def TB : List Cond := lw_tbl.filter goodWord
theorem TB_good : ∀ w ∈ TB, goodWord w = true := fun w h => (List.mem_filter.mp h).2
theorem tb_at (i : Nat) {w : Cond} (h : lw_tbl[i]? = some w) (hg : goodWord w = true) : w ∈ TB := List.mem_filter.mpr ⟨List.mem_of_getElem? h, hg⟩
def NB : List Cond := lw_tbl
theorem nb_at (i : Nat) {w : Cond} (h : lw_tbl[i]? = some w) : w ∈ NB := List.mem_of_getElem? h
