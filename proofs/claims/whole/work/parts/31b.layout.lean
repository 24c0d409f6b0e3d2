set_option linter.unusedVariables false
theorem g_0 {α : Type} {k : Option α} : bzGd (kd 0 = 9) k = k := if_pos rfl
theorem l_0_0 : ly 0 0 = 1 := rfl
theorem l_0_1 : ly 0 1 = 28 := rfl
theorem l_0_3 : ly 0 3 = 55 := rfl
theorem l_0_4 : ly 0 4 = 71 := rfl
theorem l_0_5 : ly 0 5 = 72 := rfl
theorem l_0_6 : ly 0 6 = 79 := rfl
theorem l_0_7 : ly 0 7 = 82 := rfl
theorem g_1 {α : Type} {k : Option α} : bzGd (kd 1 = 6) k = k := if_pos rfl
theorem l_1_0 : ly 1 0 = 2 := rfl
theorem l_1_1 : ly 1 1 = 18 := rfl
theorem l_1_2 : ly 1 2 = 24 := rfl
theorem l_1_3 : ly 1 3 = 26 := rfl
theorem g_2 {α : Type} {k : Option α} : bzGd (kd 2 = 0) k = k := if_pos rfl
theorem l_2_0 : ly 2 0 = 3 := rfl
theorem l_2_1 : ly 2 1 = 4 := rfl
theorem l_2_2 : ly 2 2 = 5 := rfl
theorem l_2_3 : ly 2 3 = 10 := rfl
theorem l_2_4 : ly 2 4 = 14 := rfl
theorem g_5 {α : Type} {k : Option α} : bzGd (kd 5 = 7) k = k := if_pos rfl
theorem l_5_0 : ly 5 0 = 6 := rfl
theorem l_5_1 : ly 5 1 = 7 := rfl
theorem l_5_2 : ly 5 2 = 8 := rfl
theorem l_5_3 : ly 5 3 = 9 := rfl
theorem g_10 {α : Type} {k : Option α} : bzGd (kd 10 = 2) k = k := if_pos rfl
theorem l_10_0 : ly 10 0 = 11 := rfl
theorem l_10_1 : ly 10 1 = 13 := rfl
theorem g_11 {α : Type} {k : Option α} : bzGd (kd 11 = 4) k = k := if_pos rfl
theorem l_11_0 : ly 11 0 = 12 := rfl
theorem g_14 {α : Type} {k : Option α} : bzGd (kd 14 = 2) k = k := if_pos rfl
theorem l_14_0 : ly 14 0 = 15 := rfl
theorem l_14_1 : ly 14 1 = 17 := rfl
theorem g_15 {α : Type} {k : Option α} : bzGd (kd 15 = 4) k = k := if_pos rfl
theorem l_15_0 : ly 15 0 = 16 := rfl
theorem g_18 {α : Type} {k : Option α} : bzGd (kd 18 = 1) k = k := if_pos rfl
theorem l_18_0 : ly 18 0 = 19 := rfl
theorem l_18_1 : ly 18 1 = 20 := rfl
theorem l_18_2 : ly 18 2 = 21 := rfl
theorem l_18_3 : ly 18 3 = 22 := rfl
theorem l_18_4 : ly 18 4 = 23 := rfl
theorem g_24 {α : Type} {k : Option α} : bzGd (kd 24 = 4) k = k := if_pos rfl
theorem l_24_0 : ly 24 0 = 25 := rfl
theorem g_26 {α : Type} {k : Option α} : bzGd (kd 26 = 4) k = k := if_pos rfl
theorem l_26_0 : ly 26 0 = 27 := rfl
theorem g_28 {α : Type} {k : Option α} : bzGd (kd 28 = 6) k = k := if_pos rfl
theorem l_28_0 : ly 28 0 = 29 := rfl
theorem l_28_1 : ly 28 1 = 45 := rfl
theorem l_28_2 : ly 28 2 = 51 := rfl
theorem l_28_3 : ly 28 3 = 53 := rfl
theorem g_29 {α : Type} {k : Option α} : bzGd (kd 29 = 0) k = k := if_pos rfl
theorem l_29_0 : ly 29 0 = 30 := rfl
theorem l_29_1 : ly 29 1 = 31 := rfl
theorem l_29_2 : ly 29 2 = 32 := rfl
theorem l_29_3 : ly 29 3 = 37 := rfl
theorem l_29_4 : ly 29 4 = 41 := rfl
theorem g_32 {α : Type} {k : Option α} : bzGd (kd 32 = 7) k = k := if_pos rfl
theorem l_32_0 : ly 32 0 = 33 := rfl
theorem l_32_1 : ly 32 1 = 34 := rfl
theorem l_32_2 : ly 32 2 = 35 := rfl
theorem l_32_3 : ly 32 3 = 36 := rfl
theorem g_37 {α : Type} {k : Option α} : bzGd (kd 37 = 2) k = k := if_pos rfl
theorem l_37_0 : ly 37 0 = 38 := rfl
theorem l_37_1 : ly 37 1 = 40 := rfl
theorem g_38 {α : Type} {k : Option α} : bzGd (kd 38 = 4) k = k := if_pos rfl
theorem l_38_0 : ly 38 0 = 39 := rfl
theorem g_41 {α : Type} {k : Option α} : bzGd (kd 41 = 2) k = k := if_pos rfl
theorem l_41_0 : ly 41 0 = 42 := rfl
theorem l_41_1 : ly 41 1 = 44 := rfl
theorem g_42 {α : Type} {k : Option α} : bzGd (kd 42 = 4) k = k := if_pos rfl
theorem l_42_0 : ly 42 0 = 43 := rfl
theorem g_45 {α : Type} {k : Option α} : bzGd (kd 45 = 1) k = k := if_pos rfl
theorem l_45_0 : ly 45 0 = 46 := rfl
theorem l_45_1 : ly 45 1 = 47 := rfl
theorem l_45_2 : ly 45 2 = 48 := rfl
theorem l_45_3 : ly 45 3 = 49 := rfl
theorem l_45_4 : ly 45 4 = 50 := rfl
theorem g_51 {α : Type} {k : Option α} : bzGd (kd 51 = 4) k = k := if_pos rfl
theorem l_51_0 : ly 51 0 = 52 := rfl
theorem g_53 {α : Type} {k : Option α} : bzGd (kd 53 = 4) k = k := if_pos rfl
theorem l_53_0 : ly 53 0 = 54 := rfl
theorem g_55 {α : Type} {k : Option α} : bzGd (kd 55 = 0) k = k := if_pos rfl
theorem l_55_0 : ly 55 0 = 56 := rfl
theorem l_55_1 : ly 55 1 = 57 := rfl
theorem l_55_2 : ly 55 2 = 58 := rfl
theorem l_55_3 : ly 55 3 = 63 := rfl
theorem l_55_4 : ly 55 4 = 67 := rfl
theorem g_58 {α : Type} {k : Option α} : bzGd (kd 58 = 7) k = k := if_pos rfl
theorem l_58_0 : ly 58 0 = 59 := rfl
theorem l_58_1 : ly 58 1 = 60 := rfl
theorem l_58_2 : ly 58 2 = 61 := rfl
theorem l_58_3 : ly 58 3 = 62 := rfl
theorem g_63 {α : Type} {k : Option α} : bzGd (kd 63 = 2) k = k := if_pos rfl
theorem l_63_0 : ly 63 0 = 64 := rfl
theorem l_63_1 : ly 63 1 = 66 := rfl
theorem g_64 {α : Type} {k : Option α} : bzGd (kd 64 = 4) k = k := if_pos rfl
theorem l_64_0 : ly 64 0 = 65 := rfl
theorem g_67 {α : Type} {k : Option α} : bzGd (kd 67 = 2) k = k := if_pos rfl
theorem l_67_0 : ly 67 0 = 68 := rfl
theorem l_67_1 : ly 67 1 = 70 := rfl
theorem g_68 {α : Type} {k : Option α} : bzGd (kd 68 = 4) k = k := if_pos rfl
theorem l_68_0 : ly 68 0 = 69 := rfl
theorem l_71_0 : ly 71 0 = 83 := rfl
theorem l_71_1 : ly 71 1 = 86 := rfl
theorem l_71_2 : ly 71 2 = 89 := rfl
theorem l_71_3 : ly 71 3 = 92 := rfl
theorem g_72 {α : Type} {k : Option α} : bzGd (kd 72 = 3) k = k := if_pos rfl
theorem l_72_0 : ly 72 0 = 73 := rfl
theorem l_72_1 : ly 72 1 = 75 := rfl
theorem g_73 {α : Type} {k : Option α} : bzGd (kd 73 = 4) k = k := if_pos rfl
theorem l_73_0 : ly 73 0 = 74 := rfl
theorem g_75 {α : Type} {k : Option α} : bzGd (kd 75 = 2) k = k := if_pos rfl
theorem l_75_0 : ly 75 0 = 76 := rfl
theorem l_75_1 : ly 75 1 = 78 := rfl
theorem g_76 {α : Type} {k : Option α} : bzGd (kd 76 = 4) k = k := if_pos rfl
theorem l_76_0 : ly 76 0 = 77 := rfl
theorem g_79 {α : Type} {k : Option α} : bzGd (kd 79 = 8) k = k := if_pos rfl
theorem l_79_0 : ly 79 0 = 80 := rfl
theorem g_80 {α : Type} {k : Option α} : bzGd (kd 80 = 4) k = k := if_pos rfl
theorem l_80_0 : ly 80 0 = 81 := rfl
theorem g_83 {α : Type} {k : Option α} : bzGd (kd 83 = 5) k = k := if_pos rfl
theorem l_83_0 : ly 83 0 = 84 := rfl
theorem g_84 {α : Type} {k : Option α} : bzGd (kd 84 = 4) k = k := if_pos rfl
theorem l_84_0 : ly 84 0 = 85 := rfl
theorem g_86 {α : Type} {k : Option α} : bzGd (kd 86 = 5) k = k := if_pos rfl
theorem l_86_0 : ly 86 0 = 87 := rfl
theorem g_87 {α : Type} {k : Option α} : bzGd (kd 87 = 4) k = k := if_pos rfl
theorem l_87_0 : ly 87 0 = 88 := rfl
theorem g_89 {α : Type} {k : Option α} : bzGd (kd 89 = 5) k = k := if_pos rfl
theorem l_89_0 : ly 89 0 = 90 := rfl
theorem g_90 {α : Type} {k : Option α} : bzGd (kd 90 = 4) k = k := if_pos rfl
theorem l_90_0 : ly 90 0 = 91 := rfl
theorem g_92 {α : Type} {k : Option α} : bzGd (kd 92 = 5) k = k := if_pos rfl
theorem l_92_0 : ly 92 0 = 93 := rfl
theorem g_93 {α : Type} {k : Option α} : bzGd (kd 93 = 4) k = k := if_pos rfl
theorem l_93_0 : ly 93 0 = 94 := rfl
theorem g_95 {α : Type} {k : Option α} : bzGd (kd 95 = 10) k = k := if_pos rfl
theorem l_95_0 : ly 95 0 = 96 := rfl
theorem l_95_1 : ly 95 1 = 97 := rfl
theorem l_95_2 : ly 95 2 = 98 := rfl
theorem l_95_3 : ly 95 3 = 99 := rfl
theorem l_95_6 : ly 95 6 = 100 := rfl
theorem l_95_16 : ly 95 16 = 101 := rfl
theorem l_95_17 : ly 95 17 = 102 := rfl
theorem l_95_18 : ly 95 18 = 103 := rfl
theorem l_95_19 : ly 95 19 = 104 := rfl
theorem l_95_20 : ly 95 20 = 105 := rfl
theorem l_95_21 : ly 95 21 = 106 := rfl
theorem l_95_22 : ly 95 22 = 107 := rfl
theorem n_3 : ln 3 = 6 := rfl
theorem n_4 : ln 4 = 6 := rfl
theorem n_6 : ln 6 = 8 := rfl
theorem n_7 : ln 7 = 8 := rfl
theorem n_8 : ln 8 = 8 := rfl
theorem n_9 : ln 9 = 8 := rfl
theorem n_12 : ln 12 = 50 := rfl
theorem n_13 : ln 13 = 50 := rfl
theorem n_16 : ln 16 = 50 := rfl
theorem n_17 : ln 17 = 50 := rfl
theorem n_19 : ln 19 = 10 := rfl
theorem n_20 : ln 20 = 10 := rfl
theorem n_21 : ln 21 = 8 := rfl
theorem n_22 : ln 22 = 16 := rfl
theorem n_23 : ln 23 = 16 := rfl
theorem n_25 : ln 25 = 50 := rfl
theorem n_27 : ln 27 = 20 := rfl
theorem n_30 : ln 30 = 6 := rfl
theorem n_31 : ln 31 = 6 := rfl
theorem n_33 : ln 33 = 8 := rfl
theorem n_34 : ln 34 = 8 := rfl
theorem n_35 : ln 35 = 8 := rfl
theorem n_36 : ln 36 = 8 := rfl
theorem n_39 : ln 39 = 50 := rfl
theorem n_40 : ln 40 = 50 := rfl
theorem n_43 : ln 43 = 50 := rfl
theorem n_44 : ln 44 = 50 := rfl
theorem n_46 : ln 46 = 10 := rfl
theorem n_47 : ln 47 = 10 := rfl
theorem n_48 : ln 48 = 8 := rfl
theorem n_49 : ln 49 = 16 := rfl
theorem n_50 : ln 50 = 16 := rfl
theorem n_52 : ln 52 = 50 := rfl
theorem n_54 : ln 54 = 20 := rfl
theorem n_56 : ln 56 = 6 := rfl
theorem n_57 : ln 57 = 6 := rfl
theorem n_59 : ln 59 = 8 := rfl
theorem n_60 : ln 60 = 8 := rfl
theorem n_61 : ln 61 = 8 := rfl
theorem n_62 : ln 62 = 8 := rfl
theorem n_65 : ln 65 = 50 := rfl
theorem n_66 : ln 66 = 50 := rfl
theorem n_69 : ln 69 = 50 := rfl
theorem n_70 : ln 70 = 50 := rfl
theorem n_74 : ln 74 = 50 := rfl
theorem n_77 : ln 77 = 50 := rfl
theorem n_78 : ln 78 = 50 := rfl
theorem n_81 : ln 81 = 40 := rfl
theorem n_82 : ln 82 = 6 := rfl
theorem n_85 : ln 85 = 40 := rfl
theorem n_88 : ln 88 = 40 := rfl
theorem n_91 : ln 91 = 40 := rfl
theorem n_94 : ln 94 = 40 := rfl
theorem n_96 : ln 96 = 254 := rfl
theorem n_97 : ln 97 = 254 := rfl
theorem n_98 : ln 98 = 254 := rfl
theorem n_99 : ln 99 = 254 := rfl
theorem n_100 : ln 100 = 6 := rfl
theorem n_101 : ln 101 = 4 := rfl
theorem n_102 : ln 102 = 4 := rfl
theorem n_103 : ln 103 = 160 := rfl
theorem n_104 : ln 104 = 40 := rfl
theorem n_105 : ln 105 = 16 := rfl
theorem n_106 : ln 106 = 16 := rfl
theorem n_107 : ln 107 = 40 := rfl
