/-! ===== THE INVARIANT, printed by wip/whole/inv.py ===== -/
def shR3 (k : Nat) : Option (Nat × Nat) := if k = 0 then some (21, 0) else if k = 1 then some (22, 0) else if k = 2 then some (23, 0) else if k = 3 then some (24, 0) else if k = 4 then some (25, 0) else if k = 5 then some (26, 0) else if k = 6 then some (27, 0) else if k = 7 then some (28, 0) else if k = 8 then some (29, 0) else if k = 9 then some (30, 0) else if k = 10 then some (31, 0) else if k = 11 then some (32, 0) else none
theorem shR3_0 : shR3 0 = some (21, 0) := rfl
theorem shR3_1 : shR3 1 = some (22, 0) := rfl
theorem shR3_2 : shR3 2 = some (23, 0) := rfl
theorem shR3_3 : shR3 3 = some (24, 0) := rfl
theorem shR3_4 : shR3 4 = some (25, 0) := rfl
theorem shR3_5 : shR3 5 = some (26, 0) := rfl
theorem shR3_6 : shR3 6 = some (27, 0) := rfl
theorem shR3_7 : shR3 7 = some (28, 0) := rfl
theorem shR3_8 : shR3 8 = some (29, 0) := rfl
theorem shR3_9 : shR3 9 = some (30, 0) := rfl
theorem shR3_10 : shR3 10 = some (31, 0) := rfl
theorem shR3_11 : shR3 11 = some (32, 0) := rfl
def shR4 (k : Nat) : Option (Nat × Nat) := if k = 3 then some (41, 0) else if k = 4 then some (42, 0) else if k = 5 then some (43, 0) else if k = 6 then some (44, 0) else if k = 7 then some (45, 0) else if k = 8 then some (46, 0) else if k = 9 then some (47, 0) else if k = 10 then some (48, 0) else if k = 11 then some (49, 0) else if k = 12 then some (50, 0) else if k = 13 then some (51, 0) else if k = 14 then some (52, 0) else if k = 15 then some (53, 0) else if k = 16 then some (54, 0) else if k = 17 then some (55, 0) else if k = 18 then some (56, 0) else if k = 19 then some (57, 0) else if k = 21 then some (58, 0) else if k = 22 then some (59, 0) else if k = 23 then some (60, 0) else if k = 24 then some (61, 0) else if k = 28 then some (62, 0) else if k = 29 then some (63, 0) else if k = 30 then some (64, 0) else if k = 31 then some (65, 0) else if k = 32 then some (66, 0) else if k = 33 then some (67, 0) else if k = 34 then some (68, 0) else if k = 35 then some (69, 0) else if k = 36 then some (70, 0) else if k = 37 then some (71, 0) else if k = 38 then some (72, 0) else if k = 39 then some (73, 0) else if k = 40 then some (74, 0) else if k = 43 then some (75, 0) else if k = 44 then some (76, 0) else if k = 54 then some (77, 0) else if k = 55 then some (78, 0) else if k = 56 then some (79, 0) else if k = 59 then some (80, 0) else if k = 60 then some (81, 0) else if k = 61 then some (82, 0) else if k = 62 then some (83, 0) else if k = 65 then some (84, 0) else if k = 66 then some (85, 0) else if k = 67 then some (86, 0) else if k = 69 then some (87, 0) else if k = 70 then some (88, 0) else if k = 72 then some (89, 0) else if k = 73 then some (90, 0) else if k = 74 then some (91, 0) else if k = 75 then some (92, 0) else if k = 77 then some (93, 0) else if k = 78 then some (94, 0) else if k = 79 then some (95, 0) else if k = 80 then some (96, 0) else if k = 81 then some (97, 0) else if k = 82 then some (98, 0) else if k = 83 then some (99, 0) else if k = 84 then some (100, 0) else none
theorem shR4_3 : shR4 3 = some (41, 0) := rfl
theorem shR4_4 : shR4 4 = some (42, 0) := rfl
theorem shR4_5 : shR4 5 = some (43, 0) := rfl
theorem shR4_6 : shR4 6 = some (44, 0) := rfl
theorem shR4_7 : shR4 7 = some (45, 0) := rfl
theorem shR4_8 : shR4 8 = some (46, 0) := rfl
theorem shR4_9 : shR4 9 = some (47, 0) := rfl
theorem shR4_10 : shR4 10 = some (48, 0) := rfl
theorem shR4_11 : shR4 11 = some (49, 0) := rfl
theorem shR4_12 : shR4 12 = some (50, 0) := rfl
theorem shR4_13 : shR4 13 = some (51, 0) := rfl
theorem shR4_14 : shR4 14 = some (52, 0) := rfl
theorem shR4_15 : shR4 15 = some (53, 0) := rfl
theorem shR4_16 : shR4 16 = some (54, 0) := rfl
theorem shR4_17 : shR4 17 = some (55, 0) := rfl
theorem shR4_18 : shR4 18 = some (56, 0) := rfl
theorem shR4_19 : shR4 19 = some (57, 0) := rfl
theorem shR4_21 : shR4 21 = some (58, 0) := rfl
theorem shR4_22 : shR4 22 = some (59, 0) := rfl
theorem shR4_23 : shR4 23 = some (60, 0) := rfl
theorem shR4_24 : shR4 24 = some (61, 0) := rfl
theorem shR4_28 : shR4 28 = some (62, 0) := rfl
theorem shR4_29 : shR4 29 = some (63, 0) := rfl
theorem shR4_30 : shR4 30 = some (64, 0) := rfl
theorem shR4_31 : shR4 31 = some (65, 0) := rfl
theorem shR4_32 : shR4 32 = some (66, 0) := rfl
theorem shR4_33 : shR4 33 = some (67, 0) := rfl
theorem shR4_34 : shR4 34 = some (68, 0) := rfl
theorem shR4_35 : shR4 35 = some (69, 0) := rfl
theorem shR4_36 : shR4 36 = some (70, 0) := rfl
theorem shR4_37 : shR4 37 = some (71, 0) := rfl
theorem shR4_38 : shR4 38 = some (72, 0) := rfl
theorem shR4_39 : shR4 39 = some (73, 0) := rfl
theorem shR4_40 : shR4 40 = some (74, 0) := rfl
theorem shR4_43 : shR4 43 = some (75, 0) := rfl
theorem shR4_44 : shR4 44 = some (76, 0) := rfl
theorem shR4_54 : shR4 54 = some (77, 0) := rfl
theorem shR4_55 : shR4 55 = some (78, 0) := rfl
theorem shR4_56 : shR4 56 = some (79, 0) := rfl
theorem shR4_59 : shR4 59 = some (80, 0) := rfl
theorem shR4_60 : shR4 60 = some (81, 0) := rfl
theorem shR4_61 : shR4 61 = some (82, 0) := rfl
theorem shR4_62 : shR4 62 = some (83, 0) := rfl
theorem shR4_65 : shR4 65 = some (84, 0) := rfl
theorem shR4_66 : shR4 66 = some (85, 0) := rfl
theorem shR4_67 : shR4 67 = some (86, 0) := rfl
theorem shR4_69 : shR4 69 = some (87, 0) := rfl
theorem shR4_70 : shR4 70 = some (88, 0) := rfl
theorem shR4_72 : shR4 72 = some (89, 0) := rfl
theorem shR4_73 : shR4 73 = some (90, 0) := rfl
theorem shR4_74 : shR4 74 = some (91, 0) := rfl
theorem shR4_75 : shR4 75 = some (92, 0) := rfl
theorem shR4_77 : shR4 77 = some (93, 0) := rfl
theorem shR4_78 : shR4 78 = some (94, 0) := rfl
theorem shR4_79 : shR4 79 = some (95, 0) := rfl
theorem shR4_80 : shR4 80 = some (96, 0) := rfl
theorem shR4_81 : shR4 81 = some (97, 0) := rfl
theorem shR4_82 : shR4 82 = some (98, 0) := rfl
theorem shR4_83 : shR4 83 = some (99, 0) := rfl
theorem shR4_84 : shR4 84 = some (100, 0) := rfl
def shR29 (k : Nat) : Option (Nat × Nat) := if k = 0 then some (13, 0) else if k = 4 then some (14, 0) else if k = 6 then some (15, 0) else if k = 7 then some (16, 0) else if k = 8 then some (17, 0) else none
theorem shR29_0 : shR29 0 = some (13, 0) := rfl
theorem shR29_4 : shR29 4 = some (14, 0) := rfl
theorem shR29_6 : shR29 6 = some (15, 0) := rfl
theorem shR29_7 : shR29 7 = some (16, 0) := rfl
theorem shR29_8 : shR29 8 = some (17, 0) := rfl
def shR30 (k : Nat) : Option (Nat × Nat) := if k = 0 then some (7, 0) else if k = 1 then some (8, 0) else if k = 2 then some (9, 0) else if k = 4 then some (10, 0) else if k = 5 then some (11, 0) else none
theorem shR30_0 : shR30 0 = some (7, 0) := rfl
theorem shR30_1 : shR30 1 = some (8, 0) := rfl
theorem shR30_2 : shR30 2 = some (9, 0) := rfl
theorem shR30_4 : shR30 4 = some (10, 0) := rfl
theorem shR30_5 : shR30 5 = some (11, 0) := rfl
def shN (k : Nat) : Nat := if k = 5 then 1 else if k = 9 then 120 else if k = 10 then 10 else if k = 11 then 40 else if k = 13 then 300 else if k = 14 then 300 else if k = 15 then 301 else if k = 16 then 301 else if k = 17 then 301 else if k = 28 then 6 else if k = 32 then 128 else if k = 41 then 60 else if k = 42 then 60 else if k = 43 then 60 else if k = 44 then 60 else if k = 45 then 60 else if k = 46 then 60 else if k = 47 then 60 else if k = 48 then 60 else if k = 49 then 60 else if k = 50 then 60 else if k = 51 then 60 else if k = 52 then 60 else if k = 53 then 60 else if k = 54 then 60 else if k = 55 then 60 else if k = 56 then 60 else if k = 57 then 60 else if k = 58 then 30 else if k = 59 then 30 else if k = 60 then 30 else if k = 61 then 30 else if k = 62 then 12 else if k = 63 then 12 else if k = 64 then 12 else if k = 65 then 120 else if k = 66 then 120 else if k = 67 then 120 else if k = 68 then 120 else if k = 69 then 120 else if k = 70 then 120 else if k = 71 then 120 else if k = 72 then 120 else if k = 73 then 3840 else if k = 74 then 3840 else if k = 75 then 120 else if k = 76 then 300 else if k = 77 then 10 else if k = 78 then 320 else if k = 79 then 12 else if k = 80 then 400 else if k = 81 then 400 else if k = 82 then 400 else if k = 83 then 685920 else if k = 84 then 6 else if k = 85 then 6 else if k = 86 then 6 else if k = 87 then 60 else if k = 88 then 60 else if k = 89 then 100 else if k = 90 then 100 else if k = 91 then 100 else if k = 92 then 100 else if k = 93 then 60 else if k = 94 then 60 else if k = 95 then 60 else if k = 96 then 60 else if k = 97 then 1800 else if k = 98 then 7 else if k = 99 then 7 else if k = 100 then 128 else 0
theorem shN_5 : shN 5 = 1 := rfl
theorem shN_9 : shN 9 = 120 := rfl
theorem shN_10 : shN 10 = 10 := rfl
theorem shN_11 : shN 11 = 40 := rfl
theorem shN_13 : shN 13 = 300 := rfl
theorem shN_14 : shN 14 = 300 := rfl
theorem shN_15 : shN 15 = 301 := rfl
theorem shN_16 : shN 16 = 301 := rfl
theorem shN_17 : shN 17 = 301 := rfl
theorem shN_28 : shN 28 = 6 := rfl
theorem shN_32 : shN 32 = 128 := rfl
theorem shN_41 : shN 41 = 60 := rfl
theorem shN_42 : shN 42 = 60 := rfl
theorem shN_43 : shN 43 = 60 := rfl
theorem shN_44 : shN 44 = 60 := rfl
theorem shN_45 : shN 45 = 60 := rfl
theorem shN_46 : shN 46 = 60 := rfl
theorem shN_47 : shN 47 = 60 := rfl
theorem shN_48 : shN 48 = 60 := rfl
theorem shN_49 : shN 49 = 60 := rfl
theorem shN_50 : shN 50 = 60 := rfl
theorem shN_51 : shN 51 = 60 := rfl
theorem shN_52 : shN 52 = 60 := rfl
theorem shN_53 : shN 53 = 60 := rfl
theorem shN_54 : shN 54 = 60 := rfl
theorem shN_55 : shN 55 = 60 := rfl
theorem shN_56 : shN 56 = 60 := rfl
theorem shN_57 : shN 57 = 60 := rfl
theorem shN_58 : shN 58 = 30 := rfl
theorem shN_59 : shN 59 = 30 := rfl
theorem shN_60 : shN 60 = 30 := rfl
theorem shN_61 : shN 61 = 30 := rfl
theorem shN_62 : shN 62 = 12 := rfl
theorem shN_63 : shN 63 = 12 := rfl
theorem shN_64 : shN 64 = 12 := rfl
theorem shN_65 : shN 65 = 120 := rfl
theorem shN_66 : shN 66 = 120 := rfl
theorem shN_67 : shN 67 = 120 := rfl
theorem shN_68 : shN 68 = 120 := rfl
theorem shN_69 : shN 69 = 120 := rfl
theorem shN_70 : shN 70 = 120 := rfl
theorem shN_71 : shN 71 = 120 := rfl
theorem shN_72 : shN 72 = 120 := rfl
theorem shN_73 : shN 73 = 3840 := rfl
theorem shN_74 : shN 74 = 3840 := rfl
theorem shN_75 : shN 75 = 120 := rfl
theorem shN_76 : shN 76 = 300 := rfl
theorem shN_77 : shN 77 = 10 := rfl
theorem shN_78 : shN 78 = 320 := rfl
theorem shN_79 : shN 79 = 12 := rfl
theorem shN_80 : shN 80 = 400 := rfl
theorem shN_81 : shN 81 = 400 := rfl
theorem shN_82 : shN 82 = 400 := rfl
theorem shN_83 : shN 83 = 685920 := rfl
theorem shN_84 : shN 84 = 6 := rfl
theorem shN_85 : shN 85 = 6 := rfl
theorem shN_86 : shN 86 = 6 := rfl
theorem shN_87 : shN 87 = 60 := rfl
theorem shN_88 : shN 88 = 60 := rfl
theorem shN_89 : shN 89 = 100 := rfl
theorem shN_90 : shN 90 = 100 := rfl
theorem shN_91 : shN 91 = 100 := rfl
theorem shN_92 : shN 92 = 100 := rfl
theorem shN_93 : shN 93 = 60 := rfl
theorem shN_94 : shN 94 = 60 := rfl
theorem shN_95 : shN 95 = 60 := rfl
theorem shN_96 : shN 96 = 60 := rfl
theorem shN_97 : shN 97 = 1800 := rfl
theorem shN_98 : shN 98 = 7 := rfl
theorem shN_99 : shN 99 = 7 := rfl
theorem shN_100 : shN 100 = 128 := rfl
def shS (k : Nat) : Bool := if k = 5 then true else if k = 9 then true else if k = 10 then true else if k = 11 then true else if k = 13 then true else if k = 14 then true else if k = 15 then true else if k = 16 then true else if k = 17 then true else if k = 28 then true else if k = 32 then true else if k = 41 then true else if k = 42 then true else if k = 43 then true else if k = 44 then true else if k = 45 then true else if k = 46 then true else if k = 47 then true else if k = 48 then true else if k = 49 then true else if k = 50 then true else if k = 51 then true else if k = 52 then true else if k = 53 then true else if k = 54 then true else if k = 55 then true else if k = 56 then true else if k = 57 then true else if k = 58 then true else if k = 59 then true else if k = 60 then true else if k = 61 then true else if k = 62 then true else if k = 63 then true else if k = 64 then true else if k = 65 then true else if k = 66 then true else if k = 67 then true else if k = 68 then true else if k = 69 then true else if k = 70 then true else if k = 71 then true else if k = 72 then true else if k = 73 then true else if k = 74 then true else if k = 75 then true else if k = 76 then true else if k = 77 then true else if k = 78 then true else if k = 79 then true else if k = 80 then true else if k = 81 then true else if k = 82 then true else if k = 83 then true else if k = 84 then true else if k = 85 then true else if k = 86 then true else if k = 87 then true else if k = 88 then true else if k = 89 then true else if k = 90 then true else if k = 91 then true else if k = 92 then true else if k = 93 then true else if k = 94 then true else if k = 95 then true else if k = 96 then true else if k = 97 then true else if k = 98 then true else if k = 99 then true else if k = 100 then true else false
theorem shS_5 : shS 5 = true := rfl
theorem shS_9 : shS 9 = true := rfl
theorem shS_10 : shS 10 = true := rfl
theorem shS_11 : shS 11 = true := rfl
theorem shS_13 : shS 13 = true := rfl
theorem shS_14 : shS 14 = true := rfl
theorem shS_15 : shS 15 = true := rfl
theorem shS_16 : shS 16 = true := rfl
theorem shS_17 : shS 17 = true := rfl
theorem shS_28 : shS 28 = true := rfl
theorem shS_32 : shS 32 = true := rfl
theorem shS_41 : shS 41 = true := rfl
theorem shS_42 : shS 42 = true := rfl
theorem shS_43 : shS 43 = true := rfl
theorem shS_44 : shS 44 = true := rfl
theorem shS_45 : shS 45 = true := rfl
theorem shS_46 : shS 46 = true := rfl
theorem shS_47 : shS 47 = true := rfl
theorem shS_48 : shS 48 = true := rfl
theorem shS_49 : shS 49 = true := rfl
theorem shS_50 : shS 50 = true := rfl
theorem shS_51 : shS 51 = true := rfl
theorem shS_52 : shS 52 = true := rfl
theorem shS_53 : shS 53 = true := rfl
theorem shS_54 : shS 54 = true := rfl
theorem shS_55 : shS 55 = true := rfl
theorem shS_56 : shS 56 = true := rfl
theorem shS_57 : shS 57 = true := rfl
theorem shS_58 : shS 58 = true := rfl
theorem shS_59 : shS 59 = true := rfl
theorem shS_60 : shS 60 = true := rfl
theorem shS_61 : shS 61 = true := rfl
theorem shS_62 : shS 62 = true := rfl
theorem shS_63 : shS 63 = true := rfl
theorem shS_64 : shS 64 = true := rfl
theorem shS_65 : shS 65 = true := rfl
theorem shS_66 : shS 66 = true := rfl
theorem shS_67 : shS 67 = true := rfl
theorem shS_68 : shS 68 = true := rfl
theorem shS_69 : shS 69 = true := rfl
theorem shS_70 : shS 70 = true := rfl
theorem shS_71 : shS 71 = true := rfl
theorem shS_72 : shS 72 = true := rfl
theorem shS_73 : shS 73 = true := rfl
theorem shS_74 : shS 74 = true := rfl
theorem shS_75 : shS 75 = true := rfl
theorem shS_76 : shS 76 = true := rfl
theorem shS_77 : shS 77 = true := rfl
theorem shS_78 : shS 78 = true := rfl
theorem shS_79 : shS 79 = true := rfl
theorem shS_80 : shS 80 = true := rfl
theorem shS_81 : shS 81 = true := rfl
theorem shS_82 : shS 82 = true := rfl
theorem shS_83 : shS 83 = true := rfl
theorem shS_84 : shS 84 = true := rfl
theorem shS_85 : shS 85 = true := rfl
theorem shS_86 : shS 86 = true := rfl
theorem shS_87 : shS 87 = true := rfl
theorem shS_88 : shS 88 = true := rfl
theorem shS_89 : shS 89 = true := rfl
theorem shS_90 : shS 90 = true := rfl
theorem shS_91 : shS 91 = true := rfl
theorem shS_92 : shS 92 = true := rfl
theorem shS_93 : shS 93 = true := rfl
theorem shS_94 : shS 94 = true := rfl
theorem shS_95 : shS 95 = true := rfl
theorem shS_96 : shS 96 = true := rfl
theorem shS_97 : shS 97 = true := rfl
theorem shS_98 : shS 98 = true := rfl
theorem shS_99 : shS 99 = true := rfl
theorem shS_100 : shS 100 = true := rfl
def shC (k : Nat) : Bool := if k = 3 then true else if k = 4 then true else if k = 5 then true else if k = 7 then true else if k = 8 then true else if k = 9 then true else if k = 10 then true else if k = 11 then true else if k = 13 then true else if k = 14 then true else if k = 15 then true else if k = 16 then true else if k = 17 then true else if k = 21 then true else if k = 22 then true else if k = 23 then true else if k = 24 then true else if k = 25 then true else if k = 26 then true else if k = 27 then true else if k = 28 then true else if k = 29 then true else if k = 30 then true else if k = 31 then true else if k = 32 then true else if k = 41 then true else if k = 42 then true else if k = 43 then true else if k = 44 then true else if k = 45 then true else if k = 46 then true else if k = 47 then true else if k = 48 then true else if k = 49 then true else if k = 50 then true else if k = 51 then true else if k = 52 then true else if k = 53 then true else if k = 54 then true else if k = 55 then true else if k = 56 then true else if k = 57 then true else if k = 58 then true else if k = 59 then true else if k = 60 then true else if k = 61 then true else if k = 62 then true else if k = 63 then true else if k = 64 then true else if k = 65 then true else if k = 66 then true else if k = 67 then true else if k = 68 then true else if k = 69 then true else if k = 70 then true else if k = 71 then true else if k = 72 then true else if k = 73 then true else if k = 74 then true else if k = 75 then true else if k = 76 then true else if k = 77 then true else if k = 78 then true else if k = 79 then true else if k = 80 then true else if k = 81 then true else if k = 82 then true else if k = 83 then true else if k = 84 then true else if k = 85 then true else if k = 86 then true else if k = 87 then true else if k = 88 then true else if k = 89 then true else if k = 90 then true else if k = 91 then true else if k = 92 then true else if k = 93 then true else if k = 94 then true else if k = 95 then true else if k = 96 then true else if k = 97 then true else if k = 98 then true else if k = 99 then true else if k = 100 then true else false
theorem shC_3 : shC 3 = true := rfl
theorem shC_4 : shC 4 = true := rfl
theorem shC_5 : shC 5 = true := rfl
theorem shC_7 : shC 7 = true := rfl
theorem shC_8 : shC 8 = true := rfl
theorem shC_9 : shC 9 = true := rfl
theorem shC_10 : shC 10 = true := rfl
theorem shC_11 : shC 11 = true := rfl
theorem shC_13 : shC 13 = true := rfl
theorem shC_14 : shC 14 = true := rfl
theorem shC_15 : shC 15 = true := rfl
theorem shC_16 : shC 16 = true := rfl
theorem shC_17 : shC 17 = true := rfl
theorem shC_21 : shC 21 = true := rfl
theorem shC_22 : shC 22 = true := rfl
theorem shC_23 : shC 23 = true := rfl
theorem shC_24 : shC 24 = true := rfl
theorem shC_25 : shC 25 = true := rfl
theorem shC_26 : shC 26 = true := rfl
theorem shC_27 : shC 27 = true := rfl
theorem shC_28 : shC 28 = true := rfl
theorem shC_29 : shC 29 = true := rfl
theorem shC_30 : shC 30 = true := rfl
theorem shC_31 : shC 31 = true := rfl
theorem shC_32 : shC 32 = true := rfl
theorem shC_41 : shC 41 = true := rfl
theorem shC_42 : shC 42 = true := rfl
theorem shC_43 : shC 43 = true := rfl
theorem shC_44 : shC 44 = true := rfl
theorem shC_45 : shC 45 = true := rfl
theorem shC_46 : shC 46 = true := rfl
theorem shC_47 : shC 47 = true := rfl
theorem shC_48 : shC 48 = true := rfl
theorem shC_49 : shC 49 = true := rfl
theorem shC_50 : shC 50 = true := rfl
theorem shC_51 : shC 51 = true := rfl
theorem shC_52 : shC 52 = true := rfl
theorem shC_53 : shC 53 = true := rfl
theorem shC_54 : shC 54 = true := rfl
theorem shC_55 : shC 55 = true := rfl
theorem shC_56 : shC 56 = true := rfl
theorem shC_57 : shC 57 = true := rfl
theorem shC_58 : shC 58 = true := rfl
theorem shC_59 : shC 59 = true := rfl
theorem shC_60 : shC 60 = true := rfl
theorem shC_61 : shC 61 = true := rfl
theorem shC_62 : shC 62 = true := rfl
theorem shC_63 : shC 63 = true := rfl
theorem shC_64 : shC 64 = true := rfl
theorem shC_65 : shC 65 = true := rfl
theorem shC_66 : shC 66 = true := rfl
theorem shC_67 : shC 67 = true := rfl
theorem shC_68 : shC 68 = true := rfl
theorem shC_69 : shC 69 = true := rfl
theorem shC_70 : shC 70 = true := rfl
theorem shC_71 : shC 71 = true := rfl
theorem shC_72 : shC 72 = true := rfl
theorem shC_73 : shC 73 = true := rfl
theorem shC_74 : shC 74 = true := rfl
theorem shC_75 : shC 75 = true := rfl
theorem shC_76 : shC 76 = true := rfl
theorem shC_77 : shC 77 = true := rfl
theorem shC_78 : shC 78 = true := rfl
theorem shC_79 : shC 79 = true := rfl
theorem shC_80 : shC 80 = true := rfl
theorem shC_81 : shC 81 = true := rfl
theorem shC_82 : shC 82 = true := rfl
theorem shC_83 : shC 83 = true := rfl
theorem shC_84 : shC 84 = true := rfl
theorem shC_85 : shC 85 = true := rfl
theorem shC_86 : shC 86 = true := rfl
theorem shC_87 : shC 87 = true := rfl
theorem shC_88 : shC 88 = true := rfl
theorem shC_89 : shC 89 = true := rfl
theorem shC_90 : shC 90 = true := rfl
theorem shC_91 : shC 91 = true := rfl
theorem shC_92 : shC 92 = true := rfl
theorem shC_93 : shC 93 = true := rfl
theorem shC_94 : shC 94 = true := rfl
theorem shC_95 : shC 95 = true := rfl
theorem shC_96 : shC 96 = true := rfl
theorem shC_97 : shC 97 = true := rfl
theorem shC_98 : shC 98 = true := rfl
theorem shC_99 : shC 99 = true := rfl
theorem shC_100 : shC 100 = true := rfl
/-- the shape: what the constructors laid -/
def Sh (σ : aM) : Prop := (∀ j, gR σ 3 0 j = shR3 j) ∧ (∀ j, gR σ 4 0 j = shR4 j) ∧ (∀ j, gR σ 29 0 j = shR29 j) ∧ (∀ j, j < 6 → gR σ 30 0 j = shR30 j) ∧ (∀ j, gR σ 28 0 j = some (33, j)) ∧ (∀ K, shC K = true → gC σ K = 1) ∧ (∀ K, shS K = true → gN σ K 0 = shN K) ∧ gC σ 33 = 6
def BP (σ : aM) : Prop := (gC σ 34 = gN σ 21 0) ∧ (gN σ 21 0 ≤ 60) ∧ (gI σ 4 0 2 = nI (gN σ 21 0)) ∧ (∀ j, gR σ 21 0 j = some (34, j)) ∧ (∀ j, j < gN σ 21 0 → gI σ 34 j 0 = nI j) ∧ (∀ j, gI σ 34 j 1 = gI σ 41 0 j) ∧ (∀ j, gI σ 34 j 2 = gI σ 42 0 j) ∧ (∀ j, gI σ 34 j 3 = gI σ 43 0 j) ∧ (∀ j, gI σ 34 j 4 = gI σ 44 0 j) ∧ (∀ j, gI σ 34 j 5 = gI σ 45 0 j) ∧ (∀ j, gI σ 34 j 6 = gI σ 46 0 j) ∧ (∀ j, gI σ 34 j 7 = gI σ 47 0 j) ∧ (∀ j, gI σ 34 j 8 = gI σ 48 0 j) ∧ (∀ j, gI σ 34 j 9 = gI σ 53 0 j) ∧ (∀ j, gI σ 34 j 10 = gI σ 49 0 j) ∧ (∀ j, gI σ 34 j 11 = gI σ 50 0 j) ∧ (∀ j, gI σ 34 j 13 = gI σ 52 0 j) ∧ (∀ j, gI σ 34 j 19 = gI σ 88 0 j) ∧ (∀ j, gR σ 34 j 12 = rf 35 (gI σ 51 0 j)) ∧ (∀ j, gR σ 34 j 17 = rf 35 (gI σ 57 0 j)) ∧ (∀ j, gI σ 49 0 j = 0 → gI σ 34 j 16 = gI σ 54 0 j) ∧ (∀ j, gI σ 49 0 j = 0 → gI σ 54 0 j ≠ -1 → gI σ 34 j 14 = gI σ 55 0 j ∧ gI σ 34 j 15 = gI σ 56 0 j) ∧ (∀ j, gN σ 21 0 ≤ j → gI σ 43 0 j = 0 ∧ gI σ 44 0 j = 0 ∧ gI σ 45 0 j = 0 ∧ gI σ 46 0 j = 0 ∧ gI σ 47 0 j = 0 ∧ gI σ 48 0 j = 0 ∧ gI σ 53 0 j = 0 ∧ gI σ 49 0 j = 0 ∧ gI σ 88 0 j = 0) ∧ (∀ j, j < gN σ 21 0 → ∃ k, 1 ≤ k ∧ k ≤ 12 ∧ gI σ 41 0 j = nI k) ∧ (∀ j, j < gN σ 21 0 → gI σ 51 0 j = -1 ∨ ∃ h, h < gN σ 22 0 ∧ gI σ 51 0 j = nI h) ∧ (∀ j, j < gN σ 21 0 → gI σ 57 0 j = -1 ∨ ∃ h, h < gN σ 22 0 ∧ gI σ 57 0 j = nI h) ∧ (∀ j, j < gN σ 21 0 → ∃ k, k ≤ 200 ∧ gI σ 49 0 j = nI k) ∧ (∀ j, j < gN σ 21 0 → gI σ 54 0 j ≠ -1 → gI σ 49 0 j = 0 ∧ gI σ 56 0 j ≠ -1 ∧ ∃ k, 1 ≤ k ∧ k ≤ 200 ∧ gI σ 55 0 j = nI k) ∧ (∀ j, j < gN σ 21 0 → (gI σ 49 0 j = 0 ↔ gI σ 50 0 j = -1)) ∧ (∀ j, j < gN σ 21 0 → gI σ 52 0 j ≠ -1 → gI σ 51 0 j ≠ -1)
def BM (n : Nat) (σ : aM) : Prop := (∀ j, j < gN σ 21 0 → ∃ a c, gI σ 43 0 j = nI a ∧ gI σ 44 0 j = nI c ∧ a + c ≤ 16800 * gN σ 25 0) ∧ (∀ j, j < gN σ 21 0 → ∃ a, gI σ 45 0 j = nI a ∧ a ≤ 1000000) ∧ (∀ j, j < gN σ 21 0 → ∃ a, gI σ 46 0 j = nI a ∧ a ≤ 9999 * n) ∧ (∀ j, j < gN σ 21 0 → ∃ a, gI σ 47 0 j = nI a ∧ a ≤ 1000000 * gN σ 25 0) ∧ (∀ j, j < gN σ 21 0 → ∃ a, gI σ 48 0 j = nI a ∧ a ≤ 9999) ∧ (∃ a, gI σ 4 0 26 = nI a ∧ a ≤ 1008000 * gN σ 25 0) ∧ (∃ a, gI σ 4 0 25 = nI a ∧ a ≤ 100) ∧ (n ≤ 512)
def BH (σ : aM) : Prop := (gC σ 35 = gN σ 22 0) ∧ (gN σ 22 0 ≤ 30) ∧ (gI σ 4 0 20 = nI (gN σ 22 0)) ∧ (∀ j, gR σ 22 0 j = some (35, j)) ∧ (∀ j, j < gN σ 22 0 → gI σ 35 j 0 = nI j) ∧ (∀ j, gI σ 35 j 1 = gI σ 58 0 j) ∧ (∀ j, gI σ 35 j 2 = gI σ 59 0 j) ∧ (∀ j, gI σ 35 j 3 = gI σ 60 0 j) ∧ (∀ j, gR σ 35 j 4 = rf 34 (gI σ 61 0 j)) ∧ (∀ j, j < gN σ 22 0 → gR σ 35 j 5 = some (6, j)) ∧ (gC σ 6 = gN σ 22 0) ∧ (∀ j, j < gN σ 22 0 → gN σ 6 j = 60) ∧ (∀ h p, h < gN σ 22 0 → p < 60 → gI σ 6 h p = gI σ 97 0 (30 * p + h)) ∧ (∀ h p, gN σ 22 0 ≤ h → h < 30 → p < 60 → gI σ 97 0 (30 * p + h) = 0) ∧ (∀ h p, h < gN σ 22 0 → p < 60 → ∃ a, a ≤ 100000 ∧ gI σ 97 0 (30 * p + h) = nI a) ∧ (∀ h, h < gN σ 22 0 → gI σ 61 0 h = -1 ∨ ∃ p, p < gN σ 21 0 ∧ gI σ 61 0 h = nI p) ∧ (∀ h, h < gN σ 22 0 → gI σ 60 0 h = 0 ∨ gI σ 60 0 h = 1 ∨ gI σ 60 0 h = 2) ∧ (∀ h, h < gN σ 22 0 → ∃ a, 1 ≤ a ∧ a ≤ 9 ∧ gI σ 58 0 h = nI a)
def BQ (σ : aM) : Prop := (gI σ 4 0 68 = nI (gN σ 23 0)) ∧ (∀ i, i < gN σ 23 0 → ∃ p, p < gN σ 21 0 ∧ gI σ 87 0 i = nI p ∧ gR σ 23 0 i = some (34, p) ∧ gI σ 49 0 p ≠ 0) ∧ (∀ i k, i < gN σ 23 0 → k < gN σ 23 0 → gI σ 87 0 i = gI σ 87 0 k → i = k)
def BD (σ : aM) : Prop := (gI σ 3 0 12 = gI σ 4 0 1) ∧ (gI σ 3 0 13 = gI σ 4 0 26) ∧ (gI σ 3 0 14 = gI σ 4 0 25) ∧ (∃ t, t ≤ 9999 ∧ gI σ 4 0 1 = nI t ∧ gN σ 25 0 = t / 7)
def BT (σ : aM) : Prop := (gI σ 29 0 1 = gI σ 4 0 45) ∧ (∃ t, t ≤ 300 ∧ gI σ 4 0 45 = nI t) ∧ (∀ j, gI σ 13 0 j = gI σ 76 0 j &&& 255) ∧ (gI σ 29 0 3 = gI σ 4 0 46)
def BO (σ : aM) : Prop := (gC σ 37 = gN σ 24 0) ∧ (gN σ 24 0 ≤ 400) ∧ (gI σ 4 0 58 = nI (gN σ 24 0)) ∧ (∀ j, gR σ 24 0 j = some (37, j)) ∧ (∀ j, gR σ 37 j 0 = rf 34 (gI σ 80 0 j)) ∧ (∀ j, gI σ 37 j 1 = gI σ 81 0 j) ∧ (∀ j, gI σ 37 j 2 = gI σ 82 0 j) ∧ (∀ j, j < gN σ 24 0 → ∃ p, p < gN σ 21 0 ∧ gI σ 80 0 j = nI p) ∧ (∀ j, j < gN σ 24 0 → ∃ a, a ≤ 84 ∧ gI σ 82 0 j = nI a)
def BW (σ : aM) : Prop := (gC σ 38 = gN σ 25 0) ∧ (gN σ 25 0 ≤ 1428) ∧ (∀ j, gR σ 25 0 j = some (38, j)) ∧ (gC σ 20 = gN σ 25 0) ∧ (∀ w, w < gN σ 25 0 → gR σ 38 w 1 = some (20, w)) ∧ (∀ w, w < gN σ 25 0 → ∃ q, q ≤ gN σ 21 0 ∧ gI σ 38 w 0 = nI q ∧ gN σ 20 w = 7 * q ∧ (∀ p c, p < q → c < 7 → gI σ 20 w (7 * p + c) = gI σ 83 0 (8 * (60 * w + p) + c)) ∧ (∀ p, p < 60 → gI σ 83 0 (8 * (60 * w + p) + 7) = if p < q then 1 else 0) ∧ (∀ p, p < q → gI σ 83 0 (8 * (60 * w + p) + 6) = -1 ∨ ∃ h, h < gN σ 22 0 ∧ gI σ 83 0 (8 * (60 * w + p) + 6) = nI h)) ∧ (∀ w p, gN σ 25 0 ≤ w → w < 1429 → p < 60 → gI σ 83 0 (8 * (60 * w + p) + 7) = 0)
def BG (σ : aM) : Prop := (∀ j, gI σ 33 j 0 = gI σ 84 0 j) ∧ (∀ j, gI σ 33 j 1 = gI σ 85 0 j) ∧ (∀ j, gI σ 33 j 2 = gI σ 86 0 j) ∧ (∀ j, j < 6 → ∃ a b, 1 ≤ a ∧ a ≤ 999 ∧ b ≤ 9999 ∧ gI σ 84 0 j = nI a ∧ gI σ 86 0 j = nI b)
def BS (σ : aM) : Prop := (gC σ 39 = gN σ 26 0) ∧ (gN σ 26 0 ≤ 100) ∧ (gI σ 4 0 71 = nI (gN σ 26 0)) ∧ (∀ j, gR σ 26 0 j = some (39, j)) ∧ (∀ j, gR σ 39 j 0 = rf 34 (gI σ 89 0 j)) ∧ (∀ j, gI σ 39 j 1 = gI σ 90 0 j) ∧ (∀ j, gI σ 39 j 2 = gI σ 91 0 j) ∧ (∀ j, gI σ 39 j 3 = gI σ 92 0 j) ∧ (∀ j, gN σ 26 0 ≤ j → gI σ 92 0 j = 0) ∧ (∀ j, j < gN σ 26 0 → ∃ p, p < gN σ 21 0 ∧ gI σ 89 0 j = nI p) ∧ (∀ j, j < gN σ 26 0 → 0 ≤ gI σ 91 0 j) ∧ (∀ j, gI σ 92 0 j = 0 ∨ gI σ 92 0 j = 1)
def BF (σ : aM) : Prop := (gC σ 40 = gN σ 27 0) ∧ (gN σ 27 0 ≤ 60) ∧ (gI σ 4 0 76 = nI (gN σ 27 0)) ∧ (∀ j, gR σ 27 0 j = some (40, j)) ∧ (∀ j, gI σ 40 j 0 = gI σ 93 0 j) ∧ (∀ j, gI σ 40 j 1 = gI σ 94 0 j) ∧ (∀ j, gI σ 40 j 2 = gI σ 95 0 j) ∧ (∀ j, gI σ 40 j 3 = gI σ 96 0 j) ∧ (∀ j, gN σ 27 0 ≤ j → gI σ 96 0 j = 0) ∧ (∀ j, gI σ 96 0 j = 0 ∨ gI σ 96 0 j = 1)
def BU (n : Nat) (σ : aM) : Prop := ((gB σ).1 ≤ 300 + 100 * n + 5 * gN σ 25 0) ∧ ((gB σ).2 ≤ 720000 + 4000 * n + 2700 * gN σ 25 0)
/-- the same, of the kinds of a set -/
def Ag (f : Nat → Bool) (σ τ : aM) : Prop := ∀ K, f K = true → (∀ i j, gI τ K i j = gI σ K i j) ∧ (∀ i j, gL τ K i j = gL σ K i j) ∧ (∀ i j, gR τ K i j = gR σ K i j) ∧ (∀ i, gN τ K i = gN σ K i) ∧ gC τ K = gC σ K
section AGS
variable {f g h : Nat → Bool} {σ τ : aM} {K i j n s : Nat}
theorem Ag.rf : Ag f σ σ := fun _ _ => ⟨fun _ _ => rfl, fun _ _ => rfl, fun _ _ => rfl, fun _ => rfl, rfl⟩
theorem ag_ne (hK : f K = false) {K' : Nat} (h : f K' = true) : K' ≠ K := fun e => by rw [e, hK] at h; cases h
theorem Ag.of {τ' : aM} (hK : f K = false) (a : Ag f σ τ) (h : ∀ K', K' ≠ K → (∀ i j, gI τ' K' i j = gI τ K' i j) ∧ (∀ i j, gL τ' K' i j = gL τ K' i j) ∧ (∀ i j, gR τ' K' i j = gR τ K' i j) ∧ (∀ i, gN τ' K' i = gN τ K' i) ∧ gC τ' K' = gC τ K') : Ag f σ τ' := fun K' hf => by
  obtain ⟨a1, a2, a3, a4, a5⟩ := a K' hf
  obtain ⟨b1, b2, b3, b4, b5⟩ := h K' (ag_ne hK hf)
  exact ⟨fun i j => (b1 i j).trans (a1 i j), fun i j => (b2 i j).trans (a2 i j), fun i j => (b3 i j).trans (a3 i j), fun i => (b4 i).trans (a4 i), b5.trans a5⟩
theorem Ag.trans {ρ : aM} (a : Ag f σ τ) (b : Ag f τ ρ) : Ag f σ ρ := fun K hf => by
  obtain ⟨a1, a2, a3, a4, a5⟩ := a K hf
  obtain ⟨b1, b2, b3, b4, b5⟩ := b K hf
  exact ⟨fun i j => (b1 i j).trans (a1 i j), fun i j => (b2 i j).trans (a2 i j), fun i j => (b3 i j).trans (a3 i j), fun i => (b4 i).trans (a4 i), b5.trans a5⟩
theorem Ag.sub (a : Ag f σ τ) (h : ∀ K, g K = true → f K = true) : Ag g σ τ := fun K hf => a K (h K hf)
theorem Ag.sI {v : Int32} (hK : f K = false) (a : Ag f σ τ) : Ag f σ (sI τ K i j v) := a.of hK fun K' hne => ⟨fun x y => by rw [gI_sI, if_neg (fun q => hne q.1)], fun _ _ => rfl, fun _ _ => rfl, fun _ => rfl, rfl⟩
theorem Ag.sL {v : Int64} (hK : f K = false) (a : Ag f σ τ) : Ag f σ (sL τ K i j v) := a.of hK fun K' hne => ⟨fun _ _ => rfl, fun x y => by rw [gL_sL, if_neg (fun q => hne q.1)], fun _ _ => rfl, fun _ => rfl, rfl⟩
theorem Ag.sR {v : Option (Nat × Nat)} (hK : f K = false) (a : Ag f σ τ) : Ag f σ (sR τ K i j v) := a.of hK fun K' hne => ⟨fun _ _ => rfl, fun _ _ => rfl, fun x y => by rw [gR_sR, if_neg (fun q => hne q.1)], fun _ => rfl, rfl⟩
theorem Ag.sIr {v : Nat → Int32} (hK : f K = false) (a : Ag f σ τ) : Ag f σ (sIr τ K i v) := a.of hK fun K' hne => ⟨fun x y => by rw [gI_sIr, if_neg (fun q => hne q.1)], fun _ _ => rfl, fun _ _ => rfl, fun _ => rfl, rfl⟩
theorem Ag.sLr {v : Nat → Int64} (hK : f K = false) (a : Ag f σ τ) : Ag f σ (sLr τ K i v) := a.of hK fun K' hne => ⟨fun _ _ => rfl, fun x y => by rw [gL_sLr, if_neg (fun q => hne q.1)], fun _ _ => rfl, fun _ => rfl, rfl⟩
theorem Ag.sRr {v : Nat → Option (Nat × Nat)} (hK : f K = false) (a : Ag f σ τ) : Ag f σ (sRr τ K i v) := a.of hK fun K' hne => ⟨fun _ _ => rfl, fun _ _ => rfl, fun x y => by rw [gR_sRr, if_neg (fun q => hne q.1)], fun _ => rfl, rfl⟩
theorem Ag.sN (hK : f K = false) (a : Ag f σ τ) : Ag f σ (sN τ K i n) := a.of hK fun K' hne => ⟨fun _ _ => rfl, fun _ _ => rfl, fun _ _ => rfl, fun x => by rw [gN_sN, if_neg (fun q => hne q.1)], rfl⟩
theorem Ag.mk (hK : f K = false) (a : Ag f σ τ) : Ag f σ (am_mk τ K n s) := a.of hK fun K' hne => ⟨fun x y => by rw [gI_am_mk, if_neg (fun q => hne q.1)], fun x y => by rw [gL_am_mk, if_neg (fun q => hne q.1)], fun x y => by rw [gR_am_mk, if_neg (fun q => hne q.1)], fun x => by rw [gN_am_mk, if_neg (fun q => hne q.1)], by rw [gC_am_mk, if_neg hne]⟩
theorem Ag.ml (hK : f K = false) (a : Ag f σ τ) : Ag f σ (am_ml τ K) := a.of hK fun K' hne => ⟨fun _ _ => rfl, fun _ _ => rfl, fun _ _ => rfl, fun x => by rw [gN_am_ml, if_neg (fun q => hne q.1)], by rw [gC_am_ml, if_neg hne]⟩
theorem Ag.add {q : Option (Nat × Nat)} (hK : f K = false) (a : Ag f σ τ) : Ag f σ (am_add τ K i q) := a.of hK fun K' hne => ⟨fun _ _ => rfl, fun _ _ => rfl, fun x y => by rw [gR_am_add, if_neg (fun q => hne q.1)], fun x => by rw [gN_am_add, if_neg (fun q => hne q.1)], rfl⟩
theorem Ag.ins {q : Option (Nat × Nat)} (hK : f K = false) (a : Ag f σ τ) : Ag f σ (am_ins τ K i j q) := a.of hK fun K' hne => ⟨fun _ _ => rfl, fun _ _ => rfl, fun x y => by rw [gR_am_ins, if_neg (fun q => hne q.1)], fun x => by rw [gN_am_ins, if_neg (fun q => hne q.1)], rfl⟩
theorem Ag.rem (hK : f K = false) (a : Ag f σ τ) : Ag f σ (am_rem τ K i j) := a.of hK fun K' hne => ⟨fun _ _ => rfl, fun _ _ => rfl, fun x y => by rw [gR_am_rem, if_neg (fun q => hne q.1)], fun x => by rw [gN_am_rem, if_neg (fun q => hne q.1)], rfl⟩
theorem Ag.thr (hK : f 2 = false) (a : Ag f σ τ) : Ag f σ (am_thr τ) := a.of hK fun K' hne => ⟨fun _ _ => rfl, fun _ _ => rfl, fun _ _ => rfl, fun _ => rfl, by rw [gC_am_thr, if_neg hne]⟩
/-- the same, of references, sizes, counts -/
def Ar (f g h : Nat → Bool) (σ τ : aM) : Prop := (∀ K i j, f K = true → gR τ K i j = gR σ K i j) ∧ (∀ K i, g K = true → gN τ K i = gN σ K i) ∧ (∀ K, h K = true → gC τ K = gC σ K)
theorem Ar.rf : Ar f g h σ σ := ⟨fun _ _ _ _ => rfl, fun _ _ _ => rfl, fun _ _ => rfl⟩
theorem Ar.sI {v : Int32} (a : Ar f g h σ τ) : Ar f g h σ (sI τ K i j v) := a
theorem Ar.sL {v : Int64} (a : Ar f g h σ τ) : Ar f g h σ (sL τ K i j v) := a
theorem Ar.sIr {v : Nat → Int32} (a : Ar f g h σ τ) : Ar f g h σ (sIr τ K i v) := a
theorem Ar.sLr {v : Nat → Int64} (a : Ar f g h σ τ) : Ar f g h σ (sLr τ K i v) := a
theorem Ar.sR {v : Option (Nat × Nat)} (hK : f K = false) (a : Ar f g h σ τ) : Ar f g h σ (sR τ K i j v) := ⟨fun K' x y hf => by rw [gR_sR, if_neg (fun q => ag_ne hK hf q.1)]; exact a.1 K' x y hf, a.2.1, a.2.2⟩
theorem Ar.sRr {v : Nat → Option (Nat × Nat)} (hK : f K = false) (a : Ar f g h σ τ) : Ar f g h σ (sRr τ K i v) := ⟨fun K' x y hf => by rw [gR_sRr, if_neg (fun q => ag_ne hK hf q.1)]; exact a.1 K' x y hf, a.2.1, a.2.2⟩
theorem Ar.sN (hK : g K = false) (a : Ar f g h σ τ) : Ar f g h σ (sN τ K i n) := ⟨a.1, fun K' x hf => by rw [gN_sN, if_neg (fun q => ag_ne hK hf q.1)]; exact a.2.1 K' x hf, a.2.2⟩
theorem Ar.mk (h1 : f K = false) (h2 : g K = false) (h3 : h K = false) (a : Ar f g h σ τ) : Ar f g h σ (am_mk τ K n s) := ⟨fun K' x y hf => by rw [gR_am_mk, if_neg (fun q => ag_ne h1 hf q.1)]; exact a.1 K' x y hf, fun K' x hf => by rw [gN_am_mk, if_neg (fun q => ag_ne h2 hf q.1)]; exact a.2.1 K' x hf, fun K' hf => by rw [gC_am_mk, if_neg (ag_ne h3 hf)]; exact a.2.2 K' hf⟩
theorem Ar.ml (h2 : g K = false) (h3 : h K = false) (a : Ar f g h σ τ) : Ar f g h σ (am_ml τ K) := ⟨a.1, fun K' x hf => by rw [gN_am_ml, if_neg (fun q => ag_ne h2 hf q.1)]; exact a.2.1 K' x hf, fun K' hf => by rw [gC_am_ml, if_neg (ag_ne h3 hf)]; exact a.2.2 K' hf⟩
theorem Ar.add {q : Option (Nat × Nat)} (h1 : f K = false) (h2 : g K = false) (a : Ar f g h σ τ) : Ar f g h σ (am_add τ K i q) := ⟨fun K' x y hf => by rw [gR_am_add, if_neg (fun q => ag_ne h1 hf q.1)]; exact a.1 K' x y hf, fun K' x hf => by rw [gN_am_add, if_neg (fun q => ag_ne h2 hf q.1)]; exact a.2.1 K' x hf, a.2.2⟩
theorem Ar.ins {q : Option (Nat × Nat)} (h1 : f K = false) (h2 : g K = false) (a : Ar f g h σ τ) : Ar f g h σ (am_ins τ K i j q) := ⟨fun K' x y hf => by rw [gR_am_ins, if_neg (fun q => ag_ne h1 hf q.1)]; exact a.1 K' x y hf, fun K' x hf => by rw [gN_am_ins, if_neg (fun q => ag_ne h2 hf q.1)]; exact a.2.1 K' x hf, a.2.2⟩
theorem Ar.rem (h1 : f K = false) (h2 : g K = false) (a : Ar f g h σ τ) : Ar f g h σ (am_rem τ K i j) := ⟨fun K' x y hf => by rw [gR_am_rem, if_neg (fun q => ag_ne h1 hf q.1)]; exact a.1 K' x y hf, fun K' x hf => by rw [gN_am_rem, if_neg (fun q => ag_ne h2 hf q.1)]; exact a.2.1 K' x hf, a.2.2⟩
theorem Ar.thr (h3 : h 2 = false) (a : Ar f g h σ τ) : Ar f g h σ (am_thr τ) := ⟨a.1, a.2.1, fun K' hf => by rw [gC_am_thr, if_neg (ag_ne h3 hf)]; exact a.2.2 K' hf⟩
def shF (K : Nat) : Bool := K == 3 || K == 4 || K == 29 || K == 28
theorem Sh_fr (S : Sh σ) (a : Ar shF shS shC σ τ) (e33 : gC τ 33 = gC σ 33) (e30 : ∀ j, j < 6 → gR τ 30 0 j = gR σ 30 0 j) : Sh τ := by
  obtain ⟨s3, s4, s29, s30, s28, sC, sN, s33⟩ := S
  refine ⟨fun j => (a.1 3 0 j rfl).trans (s3 j), fun j => (a.1 4 0 j rfl).trans (s4 j), fun j => (a.1 29 0 j rfl).trans (s29 j), fun j hj => (e30 j hj).trans (s30 j hj), fun j => (a.1 28 0 j rfl).trans (s28 j), fun K hK => (a.2.2 K hK).trans (sC K hK), fun K hK => (a.2.1 K 0 hK).trans (sN K hK), e33.trans s33⟩
end AGS
def fBP (K : Nat) : Bool := K == 34 || K == 21 || K == 41 || K == 42 || K == 43 || K == 44 || K == 45 || K == 46 || K == 47 || K == 48 || K == 53 || K == 49 || K == 50 || K == 52 || K == 88 || K == 51 || K == 57 || K == 54 || K == 55 || K == 56
theorem BP_fr {σ τ : aM} (h : BP σ) (a : Ag fBP σ τ) (e4_0_2 : gI τ 4 0 2 = gI σ 4 0 2) (m22 : gN σ 22 0 ≤ gN τ 22 0) : BP τ := by
  obtain ⟨e34a, e34b, e34c, e34d, e34e⟩ := a 34 rfl
  obtain ⟨e21a, e21b, e21c, e21d, e21e⟩ := a 21 rfl
  obtain ⟨e41a, e41b, e41c, e41d, e41e⟩ := a 41 rfl
  obtain ⟨e42a, e42b, e42c, e42d, e42e⟩ := a 42 rfl
  obtain ⟨e43a, e43b, e43c, e43d, e43e⟩ := a 43 rfl
  obtain ⟨e44a, e44b, e44c, e44d, e44e⟩ := a 44 rfl
  obtain ⟨e45a, e45b, e45c, e45d, e45e⟩ := a 45 rfl
  obtain ⟨e46a, e46b, e46c, e46d, e46e⟩ := a 46 rfl
  obtain ⟨e47a, e47b, e47c, e47d, e47e⟩ := a 47 rfl
  obtain ⟨e48a, e48b, e48c, e48d, e48e⟩ := a 48 rfl
  obtain ⟨e53a, e53b, e53c, e53d, e53e⟩ := a 53 rfl
  obtain ⟨e49a, e49b, e49c, e49d, e49e⟩ := a 49 rfl
  obtain ⟨e50a, e50b, e50c, e50d, e50e⟩ := a 50 rfl
  obtain ⟨e52a, e52b, e52c, e52d, e52e⟩ := a 52 rfl
  obtain ⟨e88a, e88b, e88c, e88d, e88e⟩ := a 88 rfl
  obtain ⟨e51a, e51b, e51c, e51d, e51e⟩ := a 51 rfl
  obtain ⟨e57a, e57b, e57c, e57d, e57e⟩ := a 57 rfl
  obtain ⟨e54a, e54b, e54c, e54d, e54e⟩ := a 54 rfl
  obtain ⟨e55a, e55b, e55c, e55d, e55e⟩ := a 55 rfl
  obtain ⟨e56a, e56b, e56c, e56d, e56e⟩ := a 56 rfl
  obtain ⟨p_c, p_60, p_n, p_r, p_0, p_1, p_2, p_3, p_4, p_5, p_6, p_7, p_8, p_9, p_10, p_11, p_13, p_19, p_12, p_17, p_16, p_14, p_z, p_hd, p_ho, p_lh, p_pay, p_wp, p_sc, p_ml⟩ := h
  exact ⟨by simpa only [e34a, e34b, e34c, e34d, e34e, e21a, e21b, e21c, e21d, e21e, e41a, e41b, e41c, e41d, e41e, e42a, e42b, e42c, e42d, e42e, e43a, e43b, e43c, e43d, e43e, e44a, e44b, e44c, e44d, e44e, e45a, e45b, e45c, e45d, e45e, e46a, e46b, e46c, e46d, e46e, e47a, e47b, e47c, e47d, e47e, e48a, e48b, e48c, e48d, e48e, e53a, e53b, e53c, e53d, e53e, e49a, e49b, e49c, e49d, e49e, e50a, e50b, e50c, e50d, e50e, e52a, e52b, e52c, e52d, e52e, e88a, e88b, e88c, e88d, e88e, e51a, e51b, e51c, e51d, e51e, e57a, e57b, e57c, e57d, e57e, e54a, e54b, e54c, e54d, e54e, e55a, e55b, e55c, e55d, e55e, e56a, e56b, e56c, e56d, e56e, e4_0_2] using p_c,
    by simpa only [e34a, e34b, e34c, e34d, e34e, e21a, e21b, e21c, e21d, e21e, e41a, e41b, e41c, e41d, e41e, e42a, e42b, e42c, e42d, e42e, e43a, e43b, e43c, e43d, e43e, e44a, e44b, e44c, e44d, e44e, e45a, e45b, e45c, e45d, e45e, e46a, e46b, e46c, e46d, e46e, e47a, e47b, e47c, e47d, e47e, e48a, e48b, e48c, e48d, e48e, e53a, e53b, e53c, e53d, e53e, e49a, e49b, e49c, e49d, e49e, e50a, e50b, e50c, e50d, e50e, e52a, e52b, e52c, e52d, e52e, e88a, e88b, e88c, e88d, e88e, e51a, e51b, e51c, e51d, e51e, e57a, e57b, e57c, e57d, e57e, e54a, e54b, e54c, e54d, e54e, e55a, e55b, e55c, e55d, e55e, e56a, e56b, e56c, e56d, e56e, e4_0_2] using p_60,
    by simpa only [e34a, e34b, e34c, e34d, e34e, e21a, e21b, e21c, e21d, e21e, e41a, e41b, e41c, e41d, e41e, e42a, e42b, e42c, e42d, e42e, e43a, e43b, e43c, e43d, e43e, e44a, e44b, e44c, e44d, e44e, e45a, e45b, e45c, e45d, e45e, e46a, e46b, e46c, e46d, e46e, e47a, e47b, e47c, e47d, e47e, e48a, e48b, e48c, e48d, e48e, e53a, e53b, e53c, e53d, e53e, e49a, e49b, e49c, e49d, e49e, e50a, e50b, e50c, e50d, e50e, e52a, e52b, e52c, e52d, e52e, e88a, e88b, e88c, e88d, e88e, e51a, e51b, e51c, e51d, e51e, e57a, e57b, e57c, e57d, e57e, e54a, e54b, e54c, e54d, e54e, e55a, e55b, e55c, e55d, e55e, e56a, e56b, e56c, e56d, e56e, e4_0_2] using p_n,
    by simpa only [e34a, e34b, e34c, e34d, e34e, e21a, e21b, e21c, e21d, e21e, e41a, e41b, e41c, e41d, e41e, e42a, e42b, e42c, e42d, e42e, e43a, e43b, e43c, e43d, e43e, e44a, e44b, e44c, e44d, e44e, e45a, e45b, e45c, e45d, e45e, e46a, e46b, e46c, e46d, e46e, e47a, e47b, e47c, e47d, e47e, e48a, e48b, e48c, e48d, e48e, e53a, e53b, e53c, e53d, e53e, e49a, e49b, e49c, e49d, e49e, e50a, e50b, e50c, e50d, e50e, e52a, e52b, e52c, e52d, e52e, e88a, e88b, e88c, e88d, e88e, e51a, e51b, e51c, e51d, e51e, e57a, e57b, e57c, e57d, e57e, e54a, e54b, e54c, e54d, e54e, e55a, e55b, e55c, e55d, e55e, e56a, e56b, e56c, e56d, e56e, e4_0_2] using p_r,
    by simpa only [e34a, e34b, e34c, e34d, e34e, e21a, e21b, e21c, e21d, e21e, e41a, e41b, e41c, e41d, e41e, e42a, e42b, e42c, e42d, e42e, e43a, e43b, e43c, e43d, e43e, e44a, e44b, e44c, e44d, e44e, e45a, e45b, e45c, e45d, e45e, e46a, e46b, e46c, e46d, e46e, e47a, e47b, e47c, e47d, e47e, e48a, e48b, e48c, e48d, e48e, e53a, e53b, e53c, e53d, e53e, e49a, e49b, e49c, e49d, e49e, e50a, e50b, e50c, e50d, e50e, e52a, e52b, e52c, e52d, e52e, e88a, e88b, e88c, e88d, e88e, e51a, e51b, e51c, e51d, e51e, e57a, e57b, e57c, e57d, e57e, e54a, e54b, e54c, e54d, e54e, e55a, e55b, e55c, e55d, e55e, e56a, e56b, e56c, e56d, e56e, e4_0_2] using p_0,
    by simpa only [e34a, e34b, e34c, e34d, e34e, e21a, e21b, e21c, e21d, e21e, e41a, e41b, e41c, e41d, e41e, e42a, e42b, e42c, e42d, e42e, e43a, e43b, e43c, e43d, e43e, e44a, e44b, e44c, e44d, e44e, e45a, e45b, e45c, e45d, e45e, e46a, e46b, e46c, e46d, e46e, e47a, e47b, e47c, e47d, e47e, e48a, e48b, e48c, e48d, e48e, e53a, e53b, e53c, e53d, e53e, e49a, e49b, e49c, e49d, e49e, e50a, e50b, e50c, e50d, e50e, e52a, e52b, e52c, e52d, e52e, e88a, e88b, e88c, e88d, e88e, e51a, e51b, e51c, e51d, e51e, e57a, e57b, e57c, e57d, e57e, e54a, e54b, e54c, e54d, e54e, e55a, e55b, e55c, e55d, e55e, e56a, e56b, e56c, e56d, e56e, e4_0_2] using p_1,
    by simpa only [e34a, e34b, e34c, e34d, e34e, e21a, e21b, e21c, e21d, e21e, e41a, e41b, e41c, e41d, e41e, e42a, e42b, e42c, e42d, e42e, e43a, e43b, e43c, e43d, e43e, e44a, e44b, e44c, e44d, e44e, e45a, e45b, e45c, e45d, e45e, e46a, e46b, e46c, e46d, e46e, e47a, e47b, e47c, e47d, e47e, e48a, e48b, e48c, e48d, e48e, e53a, e53b, e53c, e53d, e53e, e49a, e49b, e49c, e49d, e49e, e50a, e50b, e50c, e50d, e50e, e52a, e52b, e52c, e52d, e52e, e88a, e88b, e88c, e88d, e88e, e51a, e51b, e51c, e51d, e51e, e57a, e57b, e57c, e57d, e57e, e54a, e54b, e54c, e54d, e54e, e55a, e55b, e55c, e55d, e55e, e56a, e56b, e56c, e56d, e56e, e4_0_2] using p_2,
    by simpa only [e34a, e34b, e34c, e34d, e34e, e21a, e21b, e21c, e21d, e21e, e41a, e41b, e41c, e41d, e41e, e42a, e42b, e42c, e42d, e42e, e43a, e43b, e43c, e43d, e43e, e44a, e44b, e44c, e44d, e44e, e45a, e45b, e45c, e45d, e45e, e46a, e46b, e46c, e46d, e46e, e47a, e47b, e47c, e47d, e47e, e48a, e48b, e48c, e48d, e48e, e53a, e53b, e53c, e53d, e53e, e49a, e49b, e49c, e49d, e49e, e50a, e50b, e50c, e50d, e50e, e52a, e52b, e52c, e52d, e52e, e88a, e88b, e88c, e88d, e88e, e51a, e51b, e51c, e51d, e51e, e57a, e57b, e57c, e57d, e57e, e54a, e54b, e54c, e54d, e54e, e55a, e55b, e55c, e55d, e55e, e56a, e56b, e56c, e56d, e56e, e4_0_2] using p_3,
    by simpa only [e34a, e34b, e34c, e34d, e34e, e21a, e21b, e21c, e21d, e21e, e41a, e41b, e41c, e41d, e41e, e42a, e42b, e42c, e42d, e42e, e43a, e43b, e43c, e43d, e43e, e44a, e44b, e44c, e44d, e44e, e45a, e45b, e45c, e45d, e45e, e46a, e46b, e46c, e46d, e46e, e47a, e47b, e47c, e47d, e47e, e48a, e48b, e48c, e48d, e48e, e53a, e53b, e53c, e53d, e53e, e49a, e49b, e49c, e49d, e49e, e50a, e50b, e50c, e50d, e50e, e52a, e52b, e52c, e52d, e52e, e88a, e88b, e88c, e88d, e88e, e51a, e51b, e51c, e51d, e51e, e57a, e57b, e57c, e57d, e57e, e54a, e54b, e54c, e54d, e54e, e55a, e55b, e55c, e55d, e55e, e56a, e56b, e56c, e56d, e56e, e4_0_2] using p_4,
    by simpa only [e34a, e34b, e34c, e34d, e34e, e21a, e21b, e21c, e21d, e21e, e41a, e41b, e41c, e41d, e41e, e42a, e42b, e42c, e42d, e42e, e43a, e43b, e43c, e43d, e43e, e44a, e44b, e44c, e44d, e44e, e45a, e45b, e45c, e45d, e45e, e46a, e46b, e46c, e46d, e46e, e47a, e47b, e47c, e47d, e47e, e48a, e48b, e48c, e48d, e48e, e53a, e53b, e53c, e53d, e53e, e49a, e49b, e49c, e49d, e49e, e50a, e50b, e50c, e50d, e50e, e52a, e52b, e52c, e52d, e52e, e88a, e88b, e88c, e88d, e88e, e51a, e51b, e51c, e51d, e51e, e57a, e57b, e57c, e57d, e57e, e54a, e54b, e54c, e54d, e54e, e55a, e55b, e55c, e55d, e55e, e56a, e56b, e56c, e56d, e56e, e4_0_2] using p_5,
    by simpa only [e34a, e34b, e34c, e34d, e34e, e21a, e21b, e21c, e21d, e21e, e41a, e41b, e41c, e41d, e41e, e42a, e42b, e42c, e42d, e42e, e43a, e43b, e43c, e43d, e43e, e44a, e44b, e44c, e44d, e44e, e45a, e45b, e45c, e45d, e45e, e46a, e46b, e46c, e46d, e46e, e47a, e47b, e47c, e47d, e47e, e48a, e48b, e48c, e48d, e48e, e53a, e53b, e53c, e53d, e53e, e49a, e49b, e49c, e49d, e49e, e50a, e50b, e50c, e50d, e50e, e52a, e52b, e52c, e52d, e52e, e88a, e88b, e88c, e88d, e88e, e51a, e51b, e51c, e51d, e51e, e57a, e57b, e57c, e57d, e57e, e54a, e54b, e54c, e54d, e54e, e55a, e55b, e55c, e55d, e55e, e56a, e56b, e56c, e56d, e56e, e4_0_2] using p_6,
    by simpa only [e34a, e34b, e34c, e34d, e34e, e21a, e21b, e21c, e21d, e21e, e41a, e41b, e41c, e41d, e41e, e42a, e42b, e42c, e42d, e42e, e43a, e43b, e43c, e43d, e43e, e44a, e44b, e44c, e44d, e44e, e45a, e45b, e45c, e45d, e45e, e46a, e46b, e46c, e46d, e46e, e47a, e47b, e47c, e47d, e47e, e48a, e48b, e48c, e48d, e48e, e53a, e53b, e53c, e53d, e53e, e49a, e49b, e49c, e49d, e49e, e50a, e50b, e50c, e50d, e50e, e52a, e52b, e52c, e52d, e52e, e88a, e88b, e88c, e88d, e88e, e51a, e51b, e51c, e51d, e51e, e57a, e57b, e57c, e57d, e57e, e54a, e54b, e54c, e54d, e54e, e55a, e55b, e55c, e55d, e55e, e56a, e56b, e56c, e56d, e56e, e4_0_2] using p_7,
    by simpa only [e34a, e34b, e34c, e34d, e34e, e21a, e21b, e21c, e21d, e21e, e41a, e41b, e41c, e41d, e41e, e42a, e42b, e42c, e42d, e42e, e43a, e43b, e43c, e43d, e43e, e44a, e44b, e44c, e44d, e44e, e45a, e45b, e45c, e45d, e45e, e46a, e46b, e46c, e46d, e46e, e47a, e47b, e47c, e47d, e47e, e48a, e48b, e48c, e48d, e48e, e53a, e53b, e53c, e53d, e53e, e49a, e49b, e49c, e49d, e49e, e50a, e50b, e50c, e50d, e50e, e52a, e52b, e52c, e52d, e52e, e88a, e88b, e88c, e88d, e88e, e51a, e51b, e51c, e51d, e51e, e57a, e57b, e57c, e57d, e57e, e54a, e54b, e54c, e54d, e54e, e55a, e55b, e55c, e55d, e55e, e56a, e56b, e56c, e56d, e56e, e4_0_2] using p_8,
    by simpa only [e34a, e34b, e34c, e34d, e34e, e21a, e21b, e21c, e21d, e21e, e41a, e41b, e41c, e41d, e41e, e42a, e42b, e42c, e42d, e42e, e43a, e43b, e43c, e43d, e43e, e44a, e44b, e44c, e44d, e44e, e45a, e45b, e45c, e45d, e45e, e46a, e46b, e46c, e46d, e46e, e47a, e47b, e47c, e47d, e47e, e48a, e48b, e48c, e48d, e48e, e53a, e53b, e53c, e53d, e53e, e49a, e49b, e49c, e49d, e49e, e50a, e50b, e50c, e50d, e50e, e52a, e52b, e52c, e52d, e52e, e88a, e88b, e88c, e88d, e88e, e51a, e51b, e51c, e51d, e51e, e57a, e57b, e57c, e57d, e57e, e54a, e54b, e54c, e54d, e54e, e55a, e55b, e55c, e55d, e55e, e56a, e56b, e56c, e56d, e56e, e4_0_2] using p_9,
    by simpa only [e34a, e34b, e34c, e34d, e34e, e21a, e21b, e21c, e21d, e21e, e41a, e41b, e41c, e41d, e41e, e42a, e42b, e42c, e42d, e42e, e43a, e43b, e43c, e43d, e43e, e44a, e44b, e44c, e44d, e44e, e45a, e45b, e45c, e45d, e45e, e46a, e46b, e46c, e46d, e46e, e47a, e47b, e47c, e47d, e47e, e48a, e48b, e48c, e48d, e48e, e53a, e53b, e53c, e53d, e53e, e49a, e49b, e49c, e49d, e49e, e50a, e50b, e50c, e50d, e50e, e52a, e52b, e52c, e52d, e52e, e88a, e88b, e88c, e88d, e88e, e51a, e51b, e51c, e51d, e51e, e57a, e57b, e57c, e57d, e57e, e54a, e54b, e54c, e54d, e54e, e55a, e55b, e55c, e55d, e55e, e56a, e56b, e56c, e56d, e56e, e4_0_2] using p_10,
    by simpa only [e34a, e34b, e34c, e34d, e34e, e21a, e21b, e21c, e21d, e21e, e41a, e41b, e41c, e41d, e41e, e42a, e42b, e42c, e42d, e42e, e43a, e43b, e43c, e43d, e43e, e44a, e44b, e44c, e44d, e44e, e45a, e45b, e45c, e45d, e45e, e46a, e46b, e46c, e46d, e46e, e47a, e47b, e47c, e47d, e47e, e48a, e48b, e48c, e48d, e48e, e53a, e53b, e53c, e53d, e53e, e49a, e49b, e49c, e49d, e49e, e50a, e50b, e50c, e50d, e50e, e52a, e52b, e52c, e52d, e52e, e88a, e88b, e88c, e88d, e88e, e51a, e51b, e51c, e51d, e51e, e57a, e57b, e57c, e57d, e57e, e54a, e54b, e54c, e54d, e54e, e55a, e55b, e55c, e55d, e55e, e56a, e56b, e56c, e56d, e56e, e4_0_2] using p_11,
    by simpa only [e34a, e34b, e34c, e34d, e34e, e21a, e21b, e21c, e21d, e21e, e41a, e41b, e41c, e41d, e41e, e42a, e42b, e42c, e42d, e42e, e43a, e43b, e43c, e43d, e43e, e44a, e44b, e44c, e44d, e44e, e45a, e45b, e45c, e45d, e45e, e46a, e46b, e46c, e46d, e46e, e47a, e47b, e47c, e47d, e47e, e48a, e48b, e48c, e48d, e48e, e53a, e53b, e53c, e53d, e53e, e49a, e49b, e49c, e49d, e49e, e50a, e50b, e50c, e50d, e50e, e52a, e52b, e52c, e52d, e52e, e88a, e88b, e88c, e88d, e88e, e51a, e51b, e51c, e51d, e51e, e57a, e57b, e57c, e57d, e57e, e54a, e54b, e54c, e54d, e54e, e55a, e55b, e55c, e55d, e55e, e56a, e56b, e56c, e56d, e56e, e4_0_2] using p_13,
    by simpa only [e34a, e34b, e34c, e34d, e34e, e21a, e21b, e21c, e21d, e21e, e41a, e41b, e41c, e41d, e41e, e42a, e42b, e42c, e42d, e42e, e43a, e43b, e43c, e43d, e43e, e44a, e44b, e44c, e44d, e44e, e45a, e45b, e45c, e45d, e45e, e46a, e46b, e46c, e46d, e46e, e47a, e47b, e47c, e47d, e47e, e48a, e48b, e48c, e48d, e48e, e53a, e53b, e53c, e53d, e53e, e49a, e49b, e49c, e49d, e49e, e50a, e50b, e50c, e50d, e50e, e52a, e52b, e52c, e52d, e52e, e88a, e88b, e88c, e88d, e88e, e51a, e51b, e51c, e51d, e51e, e57a, e57b, e57c, e57d, e57e, e54a, e54b, e54c, e54d, e54e, e55a, e55b, e55c, e55d, e55e, e56a, e56b, e56c, e56d, e56e, e4_0_2] using p_19,
    by simpa only [e34a, e34b, e34c, e34d, e34e, e21a, e21b, e21c, e21d, e21e, e41a, e41b, e41c, e41d, e41e, e42a, e42b, e42c, e42d, e42e, e43a, e43b, e43c, e43d, e43e, e44a, e44b, e44c, e44d, e44e, e45a, e45b, e45c, e45d, e45e, e46a, e46b, e46c, e46d, e46e, e47a, e47b, e47c, e47d, e47e, e48a, e48b, e48c, e48d, e48e, e53a, e53b, e53c, e53d, e53e, e49a, e49b, e49c, e49d, e49e, e50a, e50b, e50c, e50d, e50e, e52a, e52b, e52c, e52d, e52e, e88a, e88b, e88c, e88d, e88e, e51a, e51b, e51c, e51d, e51e, e57a, e57b, e57c, e57d, e57e, e54a, e54b, e54c, e54d, e54e, e55a, e55b, e55c, e55d, e55e, e56a, e56b, e56c, e56d, e56e, e4_0_2] using p_12,
    by simpa only [e34a, e34b, e34c, e34d, e34e, e21a, e21b, e21c, e21d, e21e, e41a, e41b, e41c, e41d, e41e, e42a, e42b, e42c, e42d, e42e, e43a, e43b, e43c, e43d, e43e, e44a, e44b, e44c, e44d, e44e, e45a, e45b, e45c, e45d, e45e, e46a, e46b, e46c, e46d, e46e, e47a, e47b, e47c, e47d, e47e, e48a, e48b, e48c, e48d, e48e, e53a, e53b, e53c, e53d, e53e, e49a, e49b, e49c, e49d, e49e, e50a, e50b, e50c, e50d, e50e, e52a, e52b, e52c, e52d, e52e, e88a, e88b, e88c, e88d, e88e, e51a, e51b, e51c, e51d, e51e, e57a, e57b, e57c, e57d, e57e, e54a, e54b, e54c, e54d, e54e, e55a, e55b, e55c, e55d, e55e, e56a, e56b, e56c, e56d, e56e, e4_0_2] using p_17,
    by simpa only [e34a, e34b, e34c, e34d, e34e, e21a, e21b, e21c, e21d, e21e, e41a, e41b, e41c, e41d, e41e, e42a, e42b, e42c, e42d, e42e, e43a, e43b, e43c, e43d, e43e, e44a, e44b, e44c, e44d, e44e, e45a, e45b, e45c, e45d, e45e, e46a, e46b, e46c, e46d, e46e, e47a, e47b, e47c, e47d, e47e, e48a, e48b, e48c, e48d, e48e, e53a, e53b, e53c, e53d, e53e, e49a, e49b, e49c, e49d, e49e, e50a, e50b, e50c, e50d, e50e, e52a, e52b, e52c, e52d, e52e, e88a, e88b, e88c, e88d, e88e, e51a, e51b, e51c, e51d, e51e, e57a, e57b, e57c, e57d, e57e, e54a, e54b, e54c, e54d, e54e, e55a, e55b, e55c, e55d, e55e, e56a, e56b, e56c, e56d, e56e, e4_0_2] using p_16,
    by simpa only [e34a, e34b, e34c, e34d, e34e, e21a, e21b, e21c, e21d, e21e, e41a, e41b, e41c, e41d, e41e, e42a, e42b, e42c, e42d, e42e, e43a, e43b, e43c, e43d, e43e, e44a, e44b, e44c, e44d, e44e, e45a, e45b, e45c, e45d, e45e, e46a, e46b, e46c, e46d, e46e, e47a, e47b, e47c, e47d, e47e, e48a, e48b, e48c, e48d, e48e, e53a, e53b, e53c, e53d, e53e, e49a, e49b, e49c, e49d, e49e, e50a, e50b, e50c, e50d, e50e, e52a, e52b, e52c, e52d, e52e, e88a, e88b, e88c, e88d, e88e, e51a, e51b, e51c, e51d, e51e, e57a, e57b, e57c, e57d, e57e, e54a, e54b, e54c, e54d, e54e, e55a, e55b, e55c, e55d, e55e, e56a, e56b, e56c, e56d, e56e, e4_0_2] using p_14,
    by simpa only [e34a, e34b, e34c, e34d, e34e, e21a, e21b, e21c, e21d, e21e, e41a, e41b, e41c, e41d, e41e, e42a, e42b, e42c, e42d, e42e, e43a, e43b, e43c, e43d, e43e, e44a, e44b, e44c, e44d, e44e, e45a, e45b, e45c, e45d, e45e, e46a, e46b, e46c, e46d, e46e, e47a, e47b, e47c, e47d, e47e, e48a, e48b, e48c, e48d, e48e, e53a, e53b, e53c, e53d, e53e, e49a, e49b, e49c, e49d, e49e, e50a, e50b, e50c, e50d, e50e, e52a, e52b, e52c, e52d, e52e, e88a, e88b, e88c, e88d, e88e, e51a, e51b, e51c, e51d, e51e, e57a, e57b, e57c, e57d, e57e, e54a, e54b, e54c, e54d, e54e, e55a, e55b, e55c, e55d, e55e, e56a, e56b, e56c, e56d, e56e, e4_0_2] using p_z,
    by simpa only [e34a, e34b, e34c, e34d, e34e, e21a, e21b, e21c, e21d, e21e, e41a, e41b, e41c, e41d, e41e, e42a, e42b, e42c, e42d, e42e, e43a, e43b, e43c, e43d, e43e, e44a, e44b, e44c, e44d, e44e, e45a, e45b, e45c, e45d, e45e, e46a, e46b, e46c, e46d, e46e, e47a, e47b, e47c, e47d, e47e, e48a, e48b, e48c, e48d, e48e, e53a, e53b, e53c, e53d, e53e, e49a, e49b, e49c, e49d, e49e, e50a, e50b, e50c, e50d, e50e, e52a, e52b, e52c, e52d, e52e, e88a, e88b, e88c, e88d, e88e, e51a, e51b, e51c, e51d, e51e, e57a, e57b, e57c, e57d, e57e, e54a, e54b, e54c, e54d, e54e, e55a, e55b, e55c, e55d, e55e, e56a, e56b, e56c, e56d, e56e, e4_0_2] using p_hd,
    fun j hj => by
      have := p_ho j (by simpa only [e34a, e34b, e34c, e34d, e34e, e21a, e21b, e21c, e21d, e21e, e41a, e41b, e41c, e41d, e41e, e42a, e42b, e42c, e42d, e42e, e43a, e43b, e43c, e43d, e43e, e44a, e44b, e44c, e44d, e44e, e45a, e45b, e45c, e45d, e45e, e46a, e46b, e46c, e46d, e46e, e47a, e47b, e47c, e47d, e47e, e48a, e48b, e48c, e48d, e48e, e53a, e53b, e53c, e53d, e53e, e49a, e49b, e49c, e49d, e49e, e50a, e50b, e50c, e50d, e50e, e52a, e52b, e52c, e52d, e52e, e88a, e88b, e88c, e88d, e88e, e51a, e51b, e51c, e51d, e51e, e57a, e57b, e57c, e57d, e57e, e54a, e54b, e54c, e54d, e54e, e55a, e55b, e55c, e55d, e55e, e56a, e56b, e56c, e56d, e56e, e4_0_2] using hj)
      simp only [e34a, e34b, e34c, e34d, e34e, e21a, e21b, e21c, e21d, e21e, e41a, e41b, e41c, e41d, e41e, e42a, e42b, e42c, e42d, e42e, e43a, e43b, e43c, e43d, e43e, e44a, e44b, e44c, e44d, e44e, e45a, e45b, e45c, e45d, e45e, e46a, e46b, e46c, e46d, e46e, e47a, e47b, e47c, e47d, e47e, e48a, e48b, e48c, e48d, e48e, e53a, e53b, e53c, e53d, e53e, e49a, e49b, e49c, e49d, e49e, e50a, e50b, e50c, e50d, e50e, e52a, e52b, e52c, e52d, e52e, e88a, e88b, e88c, e88d, e88e, e51a, e51b, e51c, e51d, e51e, e57a, e57b, e57c, e57d, e57e, e54a, e54b, e54c, e54d, e54e, e55a, e55b, e55c, e55d, e55e, e56a, e56b, e56c, e56d, e56e, e4_0_2]
      rcases this with e | ⟨h, hh, e⟩
      · exact Or.inl e
      · exact Or.inr ⟨h, Nat.lt_of_lt_of_le hh m22, e⟩,
    fun j hj => by
      have := p_lh j (by simpa only [e34a, e34b, e34c, e34d, e34e, e21a, e21b, e21c, e21d, e21e, e41a, e41b, e41c, e41d, e41e, e42a, e42b, e42c, e42d, e42e, e43a, e43b, e43c, e43d, e43e, e44a, e44b, e44c, e44d, e44e, e45a, e45b, e45c, e45d, e45e, e46a, e46b, e46c, e46d, e46e, e47a, e47b, e47c, e47d, e47e, e48a, e48b, e48c, e48d, e48e, e53a, e53b, e53c, e53d, e53e, e49a, e49b, e49c, e49d, e49e, e50a, e50b, e50c, e50d, e50e, e52a, e52b, e52c, e52d, e52e, e88a, e88b, e88c, e88d, e88e, e51a, e51b, e51c, e51d, e51e, e57a, e57b, e57c, e57d, e57e, e54a, e54b, e54c, e54d, e54e, e55a, e55b, e55c, e55d, e55e, e56a, e56b, e56c, e56d, e56e, e4_0_2] using hj)
      simp only [e34a, e34b, e34c, e34d, e34e, e21a, e21b, e21c, e21d, e21e, e41a, e41b, e41c, e41d, e41e, e42a, e42b, e42c, e42d, e42e, e43a, e43b, e43c, e43d, e43e, e44a, e44b, e44c, e44d, e44e, e45a, e45b, e45c, e45d, e45e, e46a, e46b, e46c, e46d, e46e, e47a, e47b, e47c, e47d, e47e, e48a, e48b, e48c, e48d, e48e, e53a, e53b, e53c, e53d, e53e, e49a, e49b, e49c, e49d, e49e, e50a, e50b, e50c, e50d, e50e, e52a, e52b, e52c, e52d, e52e, e88a, e88b, e88c, e88d, e88e, e51a, e51b, e51c, e51d, e51e, e57a, e57b, e57c, e57d, e57e, e54a, e54b, e54c, e54d, e54e, e55a, e55b, e55c, e55d, e55e, e56a, e56b, e56c, e56d, e56e, e4_0_2]
      rcases this with e | ⟨h, hh, e⟩
      · exact Or.inl e
      · exact Or.inr ⟨h, Nat.lt_of_lt_of_le hh m22, e⟩,
    by simpa only [e34a, e34b, e34c, e34d, e34e, e21a, e21b, e21c, e21d, e21e, e41a, e41b, e41c, e41d, e41e, e42a, e42b, e42c, e42d, e42e, e43a, e43b, e43c, e43d, e43e, e44a, e44b, e44c, e44d, e44e, e45a, e45b, e45c, e45d, e45e, e46a, e46b, e46c, e46d, e46e, e47a, e47b, e47c, e47d, e47e, e48a, e48b, e48c, e48d, e48e, e53a, e53b, e53c, e53d, e53e, e49a, e49b, e49c, e49d, e49e, e50a, e50b, e50c, e50d, e50e, e52a, e52b, e52c, e52d, e52e, e88a, e88b, e88c, e88d, e88e, e51a, e51b, e51c, e51d, e51e, e57a, e57b, e57c, e57d, e57e, e54a, e54b, e54c, e54d, e54e, e55a, e55b, e55c, e55d, e55e, e56a, e56b, e56c, e56d, e56e, e4_0_2] using p_pay,
    by simpa only [e34a, e34b, e34c, e34d, e34e, e21a, e21b, e21c, e21d, e21e, e41a, e41b, e41c, e41d, e41e, e42a, e42b, e42c, e42d, e42e, e43a, e43b, e43c, e43d, e43e, e44a, e44b, e44c, e44d, e44e, e45a, e45b, e45c, e45d, e45e, e46a, e46b, e46c, e46d, e46e, e47a, e47b, e47c, e47d, e47e, e48a, e48b, e48c, e48d, e48e, e53a, e53b, e53c, e53d, e53e, e49a, e49b, e49c, e49d, e49e, e50a, e50b, e50c, e50d, e50e, e52a, e52b, e52c, e52d, e52e, e88a, e88b, e88c, e88d, e88e, e51a, e51b, e51c, e51d, e51e, e57a, e57b, e57c, e57d, e57e, e54a, e54b, e54c, e54d, e54e, e55a, e55b, e55c, e55d, e55e, e56a, e56b, e56c, e56d, e56e, e4_0_2] using p_wp,
    by simpa only [e34a, e34b, e34c, e34d, e34e, e21a, e21b, e21c, e21d, e21e, e41a, e41b, e41c, e41d, e41e, e42a, e42b, e42c, e42d, e42e, e43a, e43b, e43c, e43d, e43e, e44a, e44b, e44c, e44d, e44e, e45a, e45b, e45c, e45d, e45e, e46a, e46b, e46c, e46d, e46e, e47a, e47b, e47c, e47d, e47e, e48a, e48b, e48c, e48d, e48e, e53a, e53b, e53c, e53d, e53e, e49a, e49b, e49c, e49d, e49e, e50a, e50b, e50c, e50d, e50e, e52a, e52b, e52c, e52d, e52e, e88a, e88b, e88c, e88d, e88e, e51a, e51b, e51c, e51d, e51e, e57a, e57b, e57c, e57d, e57e, e54a, e54b, e54c, e54d, e54e, e55a, e55b, e55c, e55d, e55e, e56a, e56b, e56c, e56d, e56e, e4_0_2] using p_sc,
    by simpa only [e34a, e34b, e34c, e34d, e34e, e21a, e21b, e21c, e21d, e21e, e41a, e41b, e41c, e41d, e41e, e42a, e42b, e42c, e42d, e42e, e43a, e43b, e43c, e43d, e43e, e44a, e44b, e44c, e44d, e44e, e45a, e45b, e45c, e45d, e45e, e46a, e46b, e46c, e46d, e46e, e47a, e47b, e47c, e47d, e47e, e48a, e48b, e48c, e48d, e48e, e53a, e53b, e53c, e53d, e53e, e49a, e49b, e49c, e49d, e49e, e50a, e50b, e50c, e50d, e50e, e52a, e52b, e52c, e52d, e52e, e88a, e88b, e88c, e88d, e88e, e51a, e51b, e51c, e51d, e51e, e57a, e57b, e57c, e57d, e57e, e54a, e54b, e54c, e54d, e54e, e55a, e55b, e55c, e55d, e55e, e56a, e56b, e56c, e56d, e56e, e4_0_2] using p_ml⟩
def fBM (K : Nat) : Bool := K == 21 || K == 25 || K == 43 || K == 44 || K == 45 || K == 46 || K == 47 || K == 48
theorem BM_fr {n : Nat} {σ τ : aM} (h : BM n σ) (a : Ag fBM σ τ) (e4_0_26 : gI τ 4 0 26 = gI σ 4 0 26) (e4_0_25 : gI τ 4 0 25 = gI σ 4 0 25) : BM n τ := by
  obtain ⟨e21a, e21b, e21c, e21d, e21e⟩ := a 21 rfl
  obtain ⟨e25a, e25b, e25c, e25d, e25e⟩ := a 25 rfl
  obtain ⟨e43a, e43b, e43c, e43d, e43e⟩ := a 43 rfl
  obtain ⟨e44a, e44b, e44c, e44d, e44e⟩ := a 44 rfl
  obtain ⟨e45a, e45b, e45c, e45d, e45e⟩ := a 45 rfl
  obtain ⟨e46a, e46b, e46c, e46d, e46e⟩ := a 46 rfl
  obtain ⟨e47a, e47b, e47c, e47d, e47e⟩ := a 47 rfl
  obtain ⟨e48a, e48b, e48c, e48d, e48e⟩ := a 48 rfl
  obtain ⟨m_p, m_d, m_f, m_a, m_c, m_b, m_h, m_n⟩ := h
  exact ⟨by simpa only [e21a, e21b, e21c, e21d, e21e, e25a, e25b, e25c, e25d, e25e, e43a, e43b, e43c, e43d, e43e, e44a, e44b, e44c, e44d, e44e, e45a, e45b, e45c, e45d, e45e, e46a, e46b, e46c, e46d, e46e, e47a, e47b, e47c, e47d, e47e, e48a, e48b, e48c, e48d, e48e, e4_0_26, e4_0_25] using m_p,
    by simpa only [e21a, e21b, e21c, e21d, e21e, e25a, e25b, e25c, e25d, e25e, e43a, e43b, e43c, e43d, e43e, e44a, e44b, e44c, e44d, e44e, e45a, e45b, e45c, e45d, e45e, e46a, e46b, e46c, e46d, e46e, e47a, e47b, e47c, e47d, e47e, e48a, e48b, e48c, e48d, e48e, e4_0_26, e4_0_25] using m_d,
    by simpa only [e21a, e21b, e21c, e21d, e21e, e25a, e25b, e25c, e25d, e25e, e43a, e43b, e43c, e43d, e43e, e44a, e44b, e44c, e44d, e44e, e45a, e45b, e45c, e45d, e45e, e46a, e46b, e46c, e46d, e46e, e47a, e47b, e47c, e47d, e47e, e48a, e48b, e48c, e48d, e48e, e4_0_26, e4_0_25] using m_f,
    by simpa only [e21a, e21b, e21c, e21d, e21e, e25a, e25b, e25c, e25d, e25e, e43a, e43b, e43c, e43d, e43e, e44a, e44b, e44c, e44d, e44e, e45a, e45b, e45c, e45d, e45e, e46a, e46b, e46c, e46d, e46e, e47a, e47b, e47c, e47d, e47e, e48a, e48b, e48c, e48d, e48e, e4_0_26, e4_0_25] using m_a,
    by simpa only [e21a, e21b, e21c, e21d, e21e, e25a, e25b, e25c, e25d, e25e, e43a, e43b, e43c, e43d, e43e, e44a, e44b, e44c, e44d, e44e, e45a, e45b, e45c, e45d, e45e, e46a, e46b, e46c, e46d, e46e, e47a, e47b, e47c, e47d, e47e, e48a, e48b, e48c, e48d, e48e, e4_0_26, e4_0_25] using m_c,
    by simpa only [e21a, e21b, e21c, e21d, e21e, e25a, e25b, e25c, e25d, e25e, e43a, e43b, e43c, e43d, e43e, e44a, e44b, e44c, e44d, e44e, e45a, e45b, e45c, e45d, e45e, e46a, e46b, e46c, e46d, e46e, e47a, e47b, e47c, e47d, e47e, e48a, e48b, e48c, e48d, e48e, e4_0_26, e4_0_25] using m_b,
    by simpa only [e21a, e21b, e21c, e21d, e21e, e25a, e25b, e25c, e25d, e25e, e43a, e43b, e43c, e43d, e43e, e44a, e44b, e44c, e44d, e44e, e45a, e45b, e45c, e45d, e45e, e46a, e46b, e46c, e46d, e46e, e47a, e47b, e47c, e47d, e47e, e48a, e48b, e48c, e48d, e48e, e4_0_26, e4_0_25] using m_h,
    by simpa only [e21a, e21b, e21c, e21d, e21e, e25a, e25b, e25c, e25d, e25e, e43a, e43b, e43c, e43d, e43e, e44a, e44b, e44c, e44d, e44e, e45a, e45b, e45c, e45d, e45e, e46a, e46b, e46c, e46d, e46e, e47a, e47b, e47c, e47d, e47e, e48a, e48b, e48c, e48d, e48e, e4_0_26, e4_0_25] using m_n⟩
def fBH (K : Nat) : Bool := K == 35 || K == 22 || K == 6 || K == 58 || K == 59 || K == 60 || K == 61 || K == 97
theorem BH_fr {σ τ : aM} (h : BH σ) (a : Ag fBH σ τ) (e4_0_20 : gI τ 4 0 20 = gI σ 4 0 20) (m21 : gN σ 21 0 ≤ gN τ 21 0) : BH τ := by
  obtain ⟨e35a, e35b, e35c, e35d, e35e⟩ := a 35 rfl
  obtain ⟨e22a, e22b, e22c, e22d, e22e⟩ := a 22 rfl
  obtain ⟨e6a, e6b, e6c, e6d, e6e⟩ := a 6 rfl
  obtain ⟨e58a, e58b, e58c, e58d, e58e⟩ := a 58 rfl
  obtain ⟨e59a, e59b, e59c, e59d, e59e⟩ := a 59 rfl
  obtain ⟨e60a, e60b, e60c, e60d, e60e⟩ := a 60 rfl
  obtain ⟨e61a, e61b, e61c, e61d, e61e⟩ := a 61 rfl
  obtain ⟨e97a, e97b, e97c, e97d, e97e⟩ := a 97 rfl
  obtain ⟨h_c, h_30, h_n, h_r, h_0, h_1, h_2, h_3, h_4, h_5, h_6, h_60, h_b, h_z, h_v, h_ho, h_st, h_rm⟩ := h
  exact ⟨by simpa only [e35a, e35b, e35c, e35d, e35e, e22a, e22b, e22c, e22d, e22e, e6a, e6b, e6c, e6d, e6e, e58a, e58b, e58c, e58d, e58e, e59a, e59b, e59c, e59d, e59e, e60a, e60b, e60c, e60d, e60e, e61a, e61b, e61c, e61d, e61e, e97a, e97b, e97c, e97d, e97e, e4_0_20] using h_c,
    by simpa only [e35a, e35b, e35c, e35d, e35e, e22a, e22b, e22c, e22d, e22e, e6a, e6b, e6c, e6d, e6e, e58a, e58b, e58c, e58d, e58e, e59a, e59b, e59c, e59d, e59e, e60a, e60b, e60c, e60d, e60e, e61a, e61b, e61c, e61d, e61e, e97a, e97b, e97c, e97d, e97e, e4_0_20] using h_30,
    by simpa only [e35a, e35b, e35c, e35d, e35e, e22a, e22b, e22c, e22d, e22e, e6a, e6b, e6c, e6d, e6e, e58a, e58b, e58c, e58d, e58e, e59a, e59b, e59c, e59d, e59e, e60a, e60b, e60c, e60d, e60e, e61a, e61b, e61c, e61d, e61e, e97a, e97b, e97c, e97d, e97e, e4_0_20] using h_n,
    by simpa only [e35a, e35b, e35c, e35d, e35e, e22a, e22b, e22c, e22d, e22e, e6a, e6b, e6c, e6d, e6e, e58a, e58b, e58c, e58d, e58e, e59a, e59b, e59c, e59d, e59e, e60a, e60b, e60c, e60d, e60e, e61a, e61b, e61c, e61d, e61e, e97a, e97b, e97c, e97d, e97e, e4_0_20] using h_r,
    by simpa only [e35a, e35b, e35c, e35d, e35e, e22a, e22b, e22c, e22d, e22e, e6a, e6b, e6c, e6d, e6e, e58a, e58b, e58c, e58d, e58e, e59a, e59b, e59c, e59d, e59e, e60a, e60b, e60c, e60d, e60e, e61a, e61b, e61c, e61d, e61e, e97a, e97b, e97c, e97d, e97e, e4_0_20] using h_0,
    by simpa only [e35a, e35b, e35c, e35d, e35e, e22a, e22b, e22c, e22d, e22e, e6a, e6b, e6c, e6d, e6e, e58a, e58b, e58c, e58d, e58e, e59a, e59b, e59c, e59d, e59e, e60a, e60b, e60c, e60d, e60e, e61a, e61b, e61c, e61d, e61e, e97a, e97b, e97c, e97d, e97e, e4_0_20] using h_1,
    by simpa only [e35a, e35b, e35c, e35d, e35e, e22a, e22b, e22c, e22d, e22e, e6a, e6b, e6c, e6d, e6e, e58a, e58b, e58c, e58d, e58e, e59a, e59b, e59c, e59d, e59e, e60a, e60b, e60c, e60d, e60e, e61a, e61b, e61c, e61d, e61e, e97a, e97b, e97c, e97d, e97e, e4_0_20] using h_2,
    by simpa only [e35a, e35b, e35c, e35d, e35e, e22a, e22b, e22c, e22d, e22e, e6a, e6b, e6c, e6d, e6e, e58a, e58b, e58c, e58d, e58e, e59a, e59b, e59c, e59d, e59e, e60a, e60b, e60c, e60d, e60e, e61a, e61b, e61c, e61d, e61e, e97a, e97b, e97c, e97d, e97e, e4_0_20] using h_3,
    by simpa only [e35a, e35b, e35c, e35d, e35e, e22a, e22b, e22c, e22d, e22e, e6a, e6b, e6c, e6d, e6e, e58a, e58b, e58c, e58d, e58e, e59a, e59b, e59c, e59d, e59e, e60a, e60b, e60c, e60d, e60e, e61a, e61b, e61c, e61d, e61e, e97a, e97b, e97c, e97d, e97e, e4_0_20] using h_4,
    by simpa only [e35a, e35b, e35c, e35d, e35e, e22a, e22b, e22c, e22d, e22e, e6a, e6b, e6c, e6d, e6e, e58a, e58b, e58c, e58d, e58e, e59a, e59b, e59c, e59d, e59e, e60a, e60b, e60c, e60d, e60e, e61a, e61b, e61c, e61d, e61e, e97a, e97b, e97c, e97d, e97e, e4_0_20] using h_5,
    by simpa only [e35a, e35b, e35c, e35d, e35e, e22a, e22b, e22c, e22d, e22e, e6a, e6b, e6c, e6d, e6e, e58a, e58b, e58c, e58d, e58e, e59a, e59b, e59c, e59d, e59e, e60a, e60b, e60c, e60d, e60e, e61a, e61b, e61c, e61d, e61e, e97a, e97b, e97c, e97d, e97e, e4_0_20] using h_6,
    by simpa only [e35a, e35b, e35c, e35d, e35e, e22a, e22b, e22c, e22d, e22e, e6a, e6b, e6c, e6d, e6e, e58a, e58b, e58c, e58d, e58e, e59a, e59b, e59c, e59d, e59e, e60a, e60b, e60c, e60d, e60e, e61a, e61b, e61c, e61d, e61e, e97a, e97b, e97c, e97d, e97e, e4_0_20] using h_60,
    by simpa only [e35a, e35b, e35c, e35d, e35e, e22a, e22b, e22c, e22d, e22e, e6a, e6b, e6c, e6d, e6e, e58a, e58b, e58c, e58d, e58e, e59a, e59b, e59c, e59d, e59e, e60a, e60b, e60c, e60d, e60e, e61a, e61b, e61c, e61d, e61e, e97a, e97b, e97c, e97d, e97e, e4_0_20] using h_b,
    by simpa only [e35a, e35b, e35c, e35d, e35e, e22a, e22b, e22c, e22d, e22e, e6a, e6b, e6c, e6d, e6e, e58a, e58b, e58c, e58d, e58e, e59a, e59b, e59c, e59d, e59e, e60a, e60b, e60c, e60d, e60e, e61a, e61b, e61c, e61d, e61e, e97a, e97b, e97c, e97d, e97e, e4_0_20] using h_z,
    by simpa only [e35a, e35b, e35c, e35d, e35e, e22a, e22b, e22c, e22d, e22e, e6a, e6b, e6c, e6d, e6e, e58a, e58b, e58c, e58d, e58e, e59a, e59b, e59c, e59d, e59e, e60a, e60b, e60c, e60d, e60e, e61a, e61b, e61c, e61d, e61e, e97a, e97b, e97c, e97d, e97e, e4_0_20] using h_v,
    fun j hj => by
      have := h_ho j (by simpa only [e35a, e35b, e35c, e35d, e35e, e22a, e22b, e22c, e22d, e22e, e6a, e6b, e6c, e6d, e6e, e58a, e58b, e58c, e58d, e58e, e59a, e59b, e59c, e59d, e59e, e60a, e60b, e60c, e60d, e60e, e61a, e61b, e61c, e61d, e61e, e97a, e97b, e97c, e97d, e97e, e4_0_20] using hj)
      simp only [e35a, e35b, e35c, e35d, e35e, e22a, e22b, e22c, e22d, e22e, e6a, e6b, e6c, e6d, e6e, e58a, e58b, e58c, e58d, e58e, e59a, e59b, e59c, e59d, e59e, e60a, e60b, e60c, e60d, e60e, e61a, e61b, e61c, e61d, e61e, e97a, e97b, e97c, e97d, e97e, e4_0_20]
      rcases this with e | ⟨h, hh, e⟩
      · exact Or.inl e
      · exact Or.inr ⟨h, Nat.lt_of_lt_of_le hh m21, e⟩,
    by simpa only [e35a, e35b, e35c, e35d, e35e, e22a, e22b, e22c, e22d, e22e, e6a, e6b, e6c, e6d, e6e, e58a, e58b, e58c, e58d, e58e, e59a, e59b, e59c, e59d, e59e, e60a, e60b, e60c, e60d, e60e, e61a, e61b, e61c, e61d, e61e, e97a, e97b, e97c, e97d, e97e, e4_0_20] using h_st,
    by simpa only [e35a, e35b, e35c, e35d, e35e, e22a, e22b, e22c, e22d, e22e, e6a, e6b, e6c, e6d, e6e, e58a, e58b, e58c, e58d, e58e, e59a, e59b, e59c, e59d, e59e, e60a, e60b, e60c, e60d, e60e, e61a, e61b, e61c, e61d, e61e, e97a, e97b, e97c, e97d, e97e, e4_0_20] using h_rm⟩
def fBQ (K : Nat) : Bool := K == 23 || K == 87 || K == 49
theorem BQ_fr {σ τ : aM} (h : BQ σ) (a : Ag fBQ σ τ) (e4_0_68 : gI τ 4 0 68 = gI σ 4 0 68) (m21 : gN σ 21 0 ≤ gN τ 21 0) : BQ τ := by
  obtain ⟨e23a, e23b, e23c, e23d, e23e⟩ := a 23 rfl
  obtain ⟨e87a, e87b, e87c, e87d, e87e⟩ := a 87 rfl
  obtain ⟨e49a, e49b, e49c, e49d, e49e⟩ := a 49 rfl
  obtain ⟨q_n, q_e, q_d⟩ := h
  exact ⟨by simpa only [e23a, e23b, e23c, e23d, e23e, e87a, e87b, e87c, e87d, e87e, e49a, e49b, e49c, e49d, e49e, e4_0_68] using q_n,
    fun i hi => by
      obtain ⟨p, hp, e1, e2, e3⟩ := q_e i (by simpa only [e23a, e23b, e23c, e23d, e23e, e87a, e87b, e87c, e87d, e87e, e49a, e49b, e49c, e49d, e49e, e4_0_68] using hi)
      simp only [e23a, e23b, e23c, e23d, e23e, e87a, e87b, e87c, e87d, e87e, e49a, e49b, e49c, e49d, e49e, e4_0_68]
      exact ⟨p, Nat.lt_of_lt_of_le hp m21, e1, e2, e3⟩,
    by simpa only [e23a, e23b, e23c, e23d, e23e, e87a, e87b, e87c, e87d, e87e, e49a, e49b, e49c, e49d, e49e, e4_0_68] using q_d⟩
def fBD (K : Nat) : Bool := K == 25
theorem BD_fr {σ τ : aM} (h : BD σ) (a : Ag fBD σ τ) (e3_0_12 : gI τ 3 0 12 = gI σ 3 0 12) (e3_0_13 : gI τ 3 0 13 = gI σ 3 0 13) (e3_0_14 : gI τ 3 0 14 = gI σ 3 0 14) (e4_0_1 : gI τ 4 0 1 = gI σ 4 0 1) (e4_0_26 : gI τ 4 0 26 = gI σ 4 0 26) (e4_0_25 : gI τ 4 0 25 = gI σ 4 0 25) : BD τ := by
  obtain ⟨e25a, e25b, e25c, e25d, e25e⟩ := a 25 rfl
  obtain ⟨d_t, d_b, d_h, d_m⟩ := h
  exact ⟨by simpa only [e25a, e25b, e25c, e25d, e25e, e3_0_12, e3_0_13, e3_0_14, e4_0_1, e4_0_26, e4_0_25] using d_t,
    by simpa only [e25a, e25b, e25c, e25d, e25e, e3_0_12, e3_0_13, e3_0_14, e4_0_1, e4_0_26, e4_0_25] using d_b,
    by simpa only [e25a, e25b, e25c, e25d, e25e, e3_0_12, e3_0_13, e3_0_14, e4_0_1, e4_0_26, e4_0_25] using d_h,
    by simpa only [e25a, e25b, e25c, e25d, e25e, e3_0_12, e3_0_13, e3_0_14, e4_0_1, e4_0_26, e4_0_25] using d_m⟩
def fBT (K : Nat) : Bool := K == 13 || K == 76
theorem BT_fr {σ τ : aM} (h : BT σ) (a : Ag fBT σ τ) (e29_0_1 : gI τ 29 0 1 = gI σ 29 0 1) (e29_0_3 : gI τ 29 0 3 = gI σ 29 0 3) (e4_0_45 : gI τ 4 0 45 = gI σ 4 0 45) (e4_0_46 : gI τ 4 0 46 = gI σ 4 0 46) : BT τ := by
  obtain ⟨e13a, e13b, e13c, e13d, e13e⟩ := a 13 rfl
  obtain ⟨e76a, e76b, e76c, e76d, e76e⟩ := a 76 rfl
  obtain ⟨t_n, t_m, t_b, t_f⟩ := h
  exact ⟨by simpa only [e13a, e13b, e13c, e13d, e13e, e76a, e76b, e76c, e76d, e76e, e29_0_1, e29_0_3, e4_0_45, e4_0_46] using t_n,
    by simpa only [e13a, e13b, e13c, e13d, e13e, e76a, e76b, e76c, e76d, e76e, e29_0_1, e29_0_3, e4_0_45, e4_0_46] using t_m,
    by simpa only [e13a, e13b, e13c, e13d, e13e, e76a, e76b, e76c, e76d, e76e, e29_0_1, e29_0_3, e4_0_45, e4_0_46] using t_b,
    by simpa only [e13a, e13b, e13c, e13d, e13e, e76a, e76b, e76c, e76d, e76e, e29_0_1, e29_0_3, e4_0_45, e4_0_46] using t_f⟩
def fBO (K : Nat) : Bool := K == 24 || K == 37 || K == 80 || K == 81 || K == 82
theorem BO_fr {σ τ : aM} (h : BO σ) (a : Ag fBO σ τ) (e4_0_58 : gI τ 4 0 58 = gI σ 4 0 58) (m21 : gN σ 21 0 ≤ gN τ 21 0) : BO τ := by
  obtain ⟨e24a, e24b, e24c, e24d, e24e⟩ := a 24 rfl
  obtain ⟨e37a, e37b, e37c, e37d, e37e⟩ := a 37 rfl
  obtain ⟨e80a, e80b, e80c, e80d, e80e⟩ := a 80 rfl
  obtain ⟨e81a, e81b, e81c, e81d, e81e⟩ := a 81 rfl
  obtain ⟨e82a, e82b, e82c, e82d, e82e⟩ := a 82 rfl
  obtain ⟨o_c, o_400, o_n, o_r, o_0, o_1, o_2, o_p, o_h⟩ := h
  exact ⟨by simpa only [e24a, e24b, e24c, e24d, e24e, e37a, e37b, e37c, e37d, e37e, e80a, e80b, e80c, e80d, e80e, e81a, e81b, e81c, e81d, e81e, e82a, e82b, e82c, e82d, e82e, e4_0_58] using o_c,
    by simpa only [e24a, e24b, e24c, e24d, e24e, e37a, e37b, e37c, e37d, e37e, e80a, e80b, e80c, e80d, e80e, e81a, e81b, e81c, e81d, e81e, e82a, e82b, e82c, e82d, e82e, e4_0_58] using o_400,
    by simpa only [e24a, e24b, e24c, e24d, e24e, e37a, e37b, e37c, e37d, e37e, e80a, e80b, e80c, e80d, e80e, e81a, e81b, e81c, e81d, e81e, e82a, e82b, e82c, e82d, e82e, e4_0_58] using o_n,
    by simpa only [e24a, e24b, e24c, e24d, e24e, e37a, e37b, e37c, e37d, e37e, e80a, e80b, e80c, e80d, e80e, e81a, e81b, e81c, e81d, e81e, e82a, e82b, e82c, e82d, e82e, e4_0_58] using o_r,
    by simpa only [e24a, e24b, e24c, e24d, e24e, e37a, e37b, e37c, e37d, e37e, e80a, e80b, e80c, e80d, e80e, e81a, e81b, e81c, e81d, e81e, e82a, e82b, e82c, e82d, e82e, e4_0_58] using o_0,
    by simpa only [e24a, e24b, e24c, e24d, e24e, e37a, e37b, e37c, e37d, e37e, e80a, e80b, e80c, e80d, e80e, e81a, e81b, e81c, e81d, e81e, e82a, e82b, e82c, e82d, e82e, e4_0_58] using o_1,
    by simpa only [e24a, e24b, e24c, e24d, e24e, e37a, e37b, e37c, e37d, e37e, e80a, e80b, e80c, e80d, e80e, e81a, e81b, e81c, e81d, e81e, e82a, e82b, e82c, e82d, e82e, e4_0_58] using o_2,
    fun i hi => by
      obtain ⟨p, hp, e1⟩ := o_p i (by simpa only [e24a, e24b, e24c, e24d, e24e, e37a, e37b, e37c, e37d, e37e, e80a, e80b, e80c, e80d, e80e, e81a, e81b, e81c, e81d, e81e, e82a, e82b, e82c, e82d, e82e, e4_0_58] using hi)
      simp only [e24a, e24b, e24c, e24d, e24e, e37a, e37b, e37c, e37d, e37e, e80a, e80b, e80c, e80d, e80e, e81a, e81b, e81c, e81d, e81e, e82a, e82b, e82c, e82d, e82e, e4_0_58]
      exact ⟨p, Nat.lt_of_lt_of_le hp m21, e1⟩,
    by simpa only [e24a, e24b, e24c, e24d, e24e, e37a, e37b, e37c, e37d, e37e, e80a, e80b, e80c, e80d, e80e, e81a, e81b, e81c, e81d, e81e, e82a, e82b, e82c, e82d, e82e, e4_0_58] using o_h⟩
def fBW (K : Nat) : Bool := K == 25 || K == 38 || K == 20 || K == 83
theorem BW_fr {σ τ : aM} (h : BW σ) (a : Ag fBW σ τ) (m21 : gN σ 21 0 ≤ gN τ 21 0) (m22 : gN σ 22 0 ≤ gN τ 22 0) : BW τ := by
  obtain ⟨e25a, e25b, e25c, e25d, e25e⟩ := a 25 rfl
  obtain ⟨e38a, e38b, e38c, e38d, e38e⟩ := a 38 rfl
  obtain ⟨e20a, e20b, e20c, e20d, e20e⟩ := a 20 rfl
  obtain ⟨e83a, e83b, e83c, e83d, e83e⟩ := a 83 rfl
  obtain ⟨w_c, w_m, w_r, w_k, w_1, w_0, w_z⟩ := h
  exact ⟨by simpa only [e25a, e25b, e25c, e25d, e25e, e38a, e38b, e38c, e38d, e38e, e20a, e20b, e20c, e20d, e20e, e83a, e83b, e83c, e83d, e83e] using w_c,
    by simpa only [e25a, e25b, e25c, e25d, e25e, e38a, e38b, e38c, e38d, e38e, e20a, e20b, e20c, e20d, e20e, e83a, e83b, e83c, e83d, e83e] using w_m,
    by simpa only [e25a, e25b, e25c, e25d, e25e, e38a, e38b, e38c, e38d, e38e, e20a, e20b, e20c, e20d, e20e, e83a, e83b, e83c, e83d, e83e] using w_r,
    by simpa only [e25a, e25b, e25c, e25d, e25e, e38a, e38b, e38c, e38d, e38e, e20a, e20b, e20c, e20d, e20e, e83a, e83b, e83c, e83d, e83e] using w_k,
    by simpa only [e25a, e25b, e25c, e25d, e25e, e38a, e38b, e38c, e38d, e38e, e20a, e20b, e20c, e20d, e20e, e83a, e83b, e83c, e83d, e83e] using w_1,
    fun i hi => by
      obtain ⟨q, hq, e1, e2, e3, e4, e5⟩ := w_0 i (by simpa only [e25a, e25b, e25c, e25d, e25e, e38a, e38b, e38c, e38d, e38e, e20a, e20b, e20c, e20d, e20e, e83a, e83b, e83c, e83d, e83e] using hi)
      simp only [e25a, e25b, e25c, e25d, e25e, e38a, e38b, e38c, e38d, e38e, e20a, e20b, e20c, e20d, e20e, e83a, e83b, e83c, e83d, e83e]
      refine ⟨q, Nat.le_trans hq m21, e1, e2, e3, e4, fun p hp => ?_⟩
      rcases e5 p hp with e | ⟨h, hh, e⟩
      · exact Or.inl e
      · exact Or.inr ⟨h, Nat.lt_of_lt_of_le hh m22, e⟩,
    by simpa only [e25a, e25b, e25c, e25d, e25e, e38a, e38b, e38c, e38d, e38e, e20a, e20b, e20c, e20d, e20e, e83a, e83b, e83c, e83d, e83e] using w_z⟩
def fBG (K : Nat) : Bool := K == 33 || K == 84 || K == 85 || K == 86
theorem BG_fr {σ τ : aM} (h : BG σ) (a : Ag fBG σ τ) : BG τ := by
  obtain ⟨e33a, e33b, e33c, e33d, e33e⟩ := a 33 rfl
  obtain ⟨e84a, e84b, e84c, e84d, e84e⟩ := a 84 rfl
  obtain ⟨e85a, e85b, e85c, e85d, e85e⟩ := a 85 rfl
  obtain ⟨e86a, e86b, e86c, e86d, e86e⟩ := a 86 rfl
  obtain ⟨g_0, g_1, g_2, g_r⟩ := h
  exact ⟨by simpa only [e33a, e33b, e33c, e33d, e33e, e84a, e84b, e84c, e84d, e84e, e85a, e85b, e85c, e85d, e85e, e86a, e86b, e86c, e86d, e86e] using g_0,
    by simpa only [e33a, e33b, e33c, e33d, e33e, e84a, e84b, e84c, e84d, e84e, e85a, e85b, e85c, e85d, e85e, e86a, e86b, e86c, e86d, e86e] using g_1,
    by simpa only [e33a, e33b, e33c, e33d, e33e, e84a, e84b, e84c, e84d, e84e, e85a, e85b, e85c, e85d, e85e, e86a, e86b, e86c, e86d, e86e] using g_2,
    by simpa only [e33a, e33b, e33c, e33d, e33e, e84a, e84b, e84c, e84d, e84e, e85a, e85b, e85c, e85d, e85e, e86a, e86b, e86c, e86d, e86e] using g_r⟩
def fBS (K : Nat) : Bool := K == 26 || K == 39 || K == 89 || K == 90 || K == 91 || K == 92
theorem BS_fr {σ τ : aM} (h : BS σ) (a : Ag fBS σ τ) (e4_0_71 : gI τ 4 0 71 = gI σ 4 0 71) (m21 : gN σ 21 0 ≤ gN τ 21 0) : BS τ := by
  obtain ⟨e26a, e26b, e26c, e26d, e26e⟩ := a 26 rfl
  obtain ⟨e39a, e39b, e39c, e39d, e39e⟩ := a 39 rfl
  obtain ⟨e89a, e89b, e89c, e89d, e89e⟩ := a 89 rfl
  obtain ⟨e90a, e90b, e90c, e90d, e90e⟩ := a 90 rfl
  obtain ⟨e91a, e91b, e91c, e91d, e91e⟩ := a 91 rfl
  obtain ⟨e92a, e92b, e92c, e92d, e92e⟩ := a 92 rfl
  obtain ⟨s_c, s_m, s_n, s_r, s_0, s_1, s_2, s_3, s_z, s_p, s_d, s_b⟩ := h
  exact ⟨by simpa only [e26a, e26b, e26c, e26d, e26e, e39a, e39b, e39c, e39d, e39e, e89a, e89b, e89c, e89d, e89e, e90a, e90b, e90c, e90d, e90e, e91a, e91b, e91c, e91d, e91e, e92a, e92b, e92c, e92d, e92e, e4_0_71] using s_c,
    by simpa only [e26a, e26b, e26c, e26d, e26e, e39a, e39b, e39c, e39d, e39e, e89a, e89b, e89c, e89d, e89e, e90a, e90b, e90c, e90d, e90e, e91a, e91b, e91c, e91d, e91e, e92a, e92b, e92c, e92d, e92e, e4_0_71] using s_m,
    by simpa only [e26a, e26b, e26c, e26d, e26e, e39a, e39b, e39c, e39d, e39e, e89a, e89b, e89c, e89d, e89e, e90a, e90b, e90c, e90d, e90e, e91a, e91b, e91c, e91d, e91e, e92a, e92b, e92c, e92d, e92e, e4_0_71] using s_n,
    by simpa only [e26a, e26b, e26c, e26d, e26e, e39a, e39b, e39c, e39d, e39e, e89a, e89b, e89c, e89d, e89e, e90a, e90b, e90c, e90d, e90e, e91a, e91b, e91c, e91d, e91e, e92a, e92b, e92c, e92d, e92e, e4_0_71] using s_r,
    by simpa only [e26a, e26b, e26c, e26d, e26e, e39a, e39b, e39c, e39d, e39e, e89a, e89b, e89c, e89d, e89e, e90a, e90b, e90c, e90d, e90e, e91a, e91b, e91c, e91d, e91e, e92a, e92b, e92c, e92d, e92e, e4_0_71] using s_0,
    by simpa only [e26a, e26b, e26c, e26d, e26e, e39a, e39b, e39c, e39d, e39e, e89a, e89b, e89c, e89d, e89e, e90a, e90b, e90c, e90d, e90e, e91a, e91b, e91c, e91d, e91e, e92a, e92b, e92c, e92d, e92e, e4_0_71] using s_1,
    by simpa only [e26a, e26b, e26c, e26d, e26e, e39a, e39b, e39c, e39d, e39e, e89a, e89b, e89c, e89d, e89e, e90a, e90b, e90c, e90d, e90e, e91a, e91b, e91c, e91d, e91e, e92a, e92b, e92c, e92d, e92e, e4_0_71] using s_2,
    by simpa only [e26a, e26b, e26c, e26d, e26e, e39a, e39b, e39c, e39d, e39e, e89a, e89b, e89c, e89d, e89e, e90a, e90b, e90c, e90d, e90e, e91a, e91b, e91c, e91d, e91e, e92a, e92b, e92c, e92d, e92e, e4_0_71] using s_3,
    by simpa only [e26a, e26b, e26c, e26d, e26e, e39a, e39b, e39c, e39d, e39e, e89a, e89b, e89c, e89d, e89e, e90a, e90b, e90c, e90d, e90e, e91a, e91b, e91c, e91d, e91e, e92a, e92b, e92c, e92d, e92e, e4_0_71] using s_z,
    fun i hi => by
      obtain ⟨p, hp, e1⟩ := s_p i (by simpa only [e26a, e26b, e26c, e26d, e26e, e39a, e39b, e39c, e39d, e39e, e89a, e89b, e89c, e89d, e89e, e90a, e90b, e90c, e90d, e90e, e91a, e91b, e91c, e91d, e91e, e92a, e92b, e92c, e92d, e92e, e4_0_71] using hi)
      simp only [e26a, e26b, e26c, e26d, e26e, e39a, e39b, e39c, e39d, e39e, e89a, e89b, e89c, e89d, e89e, e90a, e90b, e90c, e90d, e90e, e91a, e91b, e91c, e91d, e91e, e92a, e92b, e92c, e92d, e92e, e4_0_71]
      exact ⟨p, Nat.lt_of_lt_of_le hp m21, e1⟩,
    by simpa only [e26a, e26b, e26c, e26d, e26e, e39a, e39b, e39c, e39d, e39e, e89a, e89b, e89c, e89d, e89e, e90a, e90b, e90c, e90d, e90e, e91a, e91b, e91c, e91d, e91e, e92a, e92b, e92c, e92d, e92e, e4_0_71] using s_d,
    by simpa only [e26a, e26b, e26c, e26d, e26e, e39a, e39b, e39c, e39d, e39e, e89a, e89b, e89c, e89d, e89e, e90a, e90b, e90c, e90d, e90e, e91a, e91b, e91c, e91d, e91e, e92a, e92b, e92c, e92d, e92e, e4_0_71] using s_b⟩
def fBF (K : Nat) : Bool := K == 27 || K == 40 || K == 93 || K == 94 || K == 95 || K == 96
theorem BF_fr {σ τ : aM} (h : BF σ) (a : Ag fBF σ τ) (e4_0_76 : gI τ 4 0 76 = gI σ 4 0 76) : BF τ := by
  obtain ⟨e27a, e27b, e27c, e27d, e27e⟩ := a 27 rfl
  obtain ⟨e40a, e40b, e40c, e40d, e40e⟩ := a 40 rfl
  obtain ⟨e93a, e93b, e93c, e93d, e93e⟩ := a 93 rfl
  obtain ⟨e94a, e94b, e94c, e94d, e94e⟩ := a 94 rfl
  obtain ⟨e95a, e95b, e95c, e95d, e95e⟩ := a 95 rfl
  obtain ⟨e96a, e96b, e96c, e96d, e96e⟩ := a 96 rfl
  obtain ⟨f_c, f_m, f_n, f_r, f_0, f_1, f_2, f_3, f_z, f_b⟩ := h
  exact ⟨by simpa only [e27a, e27b, e27c, e27d, e27e, e40a, e40b, e40c, e40d, e40e, e93a, e93b, e93c, e93d, e93e, e94a, e94b, e94c, e94d, e94e, e95a, e95b, e95c, e95d, e95e, e96a, e96b, e96c, e96d, e96e, e4_0_76] using f_c,
    by simpa only [e27a, e27b, e27c, e27d, e27e, e40a, e40b, e40c, e40d, e40e, e93a, e93b, e93c, e93d, e93e, e94a, e94b, e94c, e94d, e94e, e95a, e95b, e95c, e95d, e95e, e96a, e96b, e96c, e96d, e96e, e4_0_76] using f_m,
    by simpa only [e27a, e27b, e27c, e27d, e27e, e40a, e40b, e40c, e40d, e40e, e93a, e93b, e93c, e93d, e93e, e94a, e94b, e94c, e94d, e94e, e95a, e95b, e95c, e95d, e95e, e96a, e96b, e96c, e96d, e96e, e4_0_76] using f_n,
    by simpa only [e27a, e27b, e27c, e27d, e27e, e40a, e40b, e40c, e40d, e40e, e93a, e93b, e93c, e93d, e93e, e94a, e94b, e94c, e94d, e94e, e95a, e95b, e95c, e95d, e95e, e96a, e96b, e96c, e96d, e96e, e4_0_76] using f_r,
    by simpa only [e27a, e27b, e27c, e27d, e27e, e40a, e40b, e40c, e40d, e40e, e93a, e93b, e93c, e93d, e93e, e94a, e94b, e94c, e94d, e94e, e95a, e95b, e95c, e95d, e95e, e96a, e96b, e96c, e96d, e96e, e4_0_76] using f_0,
    by simpa only [e27a, e27b, e27c, e27d, e27e, e40a, e40b, e40c, e40d, e40e, e93a, e93b, e93c, e93d, e93e, e94a, e94b, e94c, e94d, e94e, e95a, e95b, e95c, e95d, e95e, e96a, e96b, e96c, e96d, e96e, e4_0_76] using f_1,
    by simpa only [e27a, e27b, e27c, e27d, e27e, e40a, e40b, e40c, e40d, e40e, e93a, e93b, e93c, e93d, e93e, e94a, e94b, e94c, e94d, e94e, e95a, e95b, e95c, e95d, e95e, e96a, e96b, e96c, e96d, e96e, e4_0_76] using f_2,
    by simpa only [e27a, e27b, e27c, e27d, e27e, e40a, e40b, e40c, e40d, e40e, e93a, e93b, e93c, e93d, e93e, e94a, e94b, e94c, e94d, e94e, e95a, e95b, e95c, e95d, e95e, e96a, e96b, e96c, e96d, e96e, e4_0_76] using f_3,
    by simpa only [e27a, e27b, e27c, e27d, e27e, e40a, e40b, e40c, e40d, e40e, e93a, e93b, e93c, e93d, e93e, e94a, e94b, e94c, e94d, e94e, e95a, e95b, e95c, e95d, e95e, e96a, e96b, e96c, e96d, e96e, e4_0_76] using f_z,
    by simpa only [e27a, e27b, e27c, e27d, e27e, e40a, e40b, e40c, e40d, e40e, e93a, e93b, e93c, e93d, e93e, e94a, e94b, e94c, e94d, e94e, e95a, e95b, e95c, e95d, e95e, e96a, e96b, e96c, e96d, e96e, e4_0_76] using f_b⟩
def fBX (K : Nat) : Bool := K == 7 || K == 8 || K == 9 || K == 12 || K == 18 || K == 19 || K == 36 || K == 62 || K == 63 || K == 64 || K == 65 || K == 66 || K == 67 || K == 68 || K == 69 || K == 70 || K == 71 || K == 72 || K == 73 || K == 74 || K == 75
theorem sC_3 {σ : aM} (S : Sh σ) : gC σ 3 = 1 := S.2.2.2.2.2.1 3 rfl
theorem sC_4 {σ : aM} (S : Sh σ) : gC σ 4 = 1 := S.2.2.2.2.2.1 4 rfl
theorem sC_5 {σ : aM} (S : Sh σ) : gC σ 5 = 1 := S.2.2.2.2.2.1 5 rfl
theorem sC_7 {σ : aM} (S : Sh σ) : gC σ 7 = 1 := S.2.2.2.2.2.1 7 rfl
theorem sC_8 {σ : aM} (S : Sh σ) : gC σ 8 = 1 := S.2.2.2.2.2.1 8 rfl
theorem sC_9 {σ : aM} (S : Sh σ) : gC σ 9 = 1 := S.2.2.2.2.2.1 9 rfl
theorem sC_10 {σ : aM} (S : Sh σ) : gC σ 10 = 1 := S.2.2.2.2.2.1 10 rfl
theorem sC_11 {σ : aM} (S : Sh σ) : gC σ 11 = 1 := S.2.2.2.2.2.1 11 rfl
theorem sC_13 {σ : aM} (S : Sh σ) : gC σ 13 = 1 := S.2.2.2.2.2.1 13 rfl
theorem sC_14 {σ : aM} (S : Sh σ) : gC σ 14 = 1 := S.2.2.2.2.2.1 14 rfl
theorem sC_15 {σ : aM} (S : Sh σ) : gC σ 15 = 1 := S.2.2.2.2.2.1 15 rfl
theorem sC_16 {σ : aM} (S : Sh σ) : gC σ 16 = 1 := S.2.2.2.2.2.1 16 rfl
theorem sC_17 {σ : aM} (S : Sh σ) : gC σ 17 = 1 := S.2.2.2.2.2.1 17 rfl
theorem sC_21 {σ : aM} (S : Sh σ) : gC σ 21 = 1 := S.2.2.2.2.2.1 21 rfl
theorem sC_22 {σ : aM} (S : Sh σ) : gC σ 22 = 1 := S.2.2.2.2.2.1 22 rfl
theorem sC_23 {σ : aM} (S : Sh σ) : gC σ 23 = 1 := S.2.2.2.2.2.1 23 rfl
theorem sC_24 {σ : aM} (S : Sh σ) : gC σ 24 = 1 := S.2.2.2.2.2.1 24 rfl
theorem sC_25 {σ : aM} (S : Sh σ) : gC σ 25 = 1 := S.2.2.2.2.2.1 25 rfl
theorem sC_26 {σ : aM} (S : Sh σ) : gC σ 26 = 1 := S.2.2.2.2.2.1 26 rfl
theorem sC_27 {σ : aM} (S : Sh σ) : gC σ 27 = 1 := S.2.2.2.2.2.1 27 rfl
theorem sC_28 {σ : aM} (S : Sh σ) : gC σ 28 = 1 := S.2.2.2.2.2.1 28 rfl
theorem sC_29 {σ : aM} (S : Sh σ) : gC σ 29 = 1 := S.2.2.2.2.2.1 29 rfl
theorem sC_30 {σ : aM} (S : Sh σ) : gC σ 30 = 1 := S.2.2.2.2.2.1 30 rfl
theorem sC_31 {σ : aM} (S : Sh σ) : gC σ 31 = 1 := S.2.2.2.2.2.1 31 rfl
theorem sC_32 {σ : aM} (S : Sh σ) : gC σ 32 = 1 := S.2.2.2.2.2.1 32 rfl
theorem sC_41 {σ : aM} (S : Sh σ) : gC σ 41 = 1 := S.2.2.2.2.2.1 41 rfl
theorem sC_42 {σ : aM} (S : Sh σ) : gC σ 42 = 1 := S.2.2.2.2.2.1 42 rfl
theorem sC_43 {σ : aM} (S : Sh σ) : gC σ 43 = 1 := S.2.2.2.2.2.1 43 rfl
theorem sC_44 {σ : aM} (S : Sh σ) : gC σ 44 = 1 := S.2.2.2.2.2.1 44 rfl
theorem sC_45 {σ : aM} (S : Sh σ) : gC σ 45 = 1 := S.2.2.2.2.2.1 45 rfl
theorem sC_46 {σ : aM} (S : Sh σ) : gC σ 46 = 1 := S.2.2.2.2.2.1 46 rfl
theorem sC_47 {σ : aM} (S : Sh σ) : gC σ 47 = 1 := S.2.2.2.2.2.1 47 rfl
theorem sC_48 {σ : aM} (S : Sh σ) : gC σ 48 = 1 := S.2.2.2.2.2.1 48 rfl
theorem sC_49 {σ : aM} (S : Sh σ) : gC σ 49 = 1 := S.2.2.2.2.2.1 49 rfl
theorem sC_50 {σ : aM} (S : Sh σ) : gC σ 50 = 1 := S.2.2.2.2.2.1 50 rfl
theorem sC_51 {σ : aM} (S : Sh σ) : gC σ 51 = 1 := S.2.2.2.2.2.1 51 rfl
theorem sC_52 {σ : aM} (S : Sh σ) : gC σ 52 = 1 := S.2.2.2.2.2.1 52 rfl
theorem sC_53 {σ : aM} (S : Sh σ) : gC σ 53 = 1 := S.2.2.2.2.2.1 53 rfl
theorem sC_54 {σ : aM} (S : Sh σ) : gC σ 54 = 1 := S.2.2.2.2.2.1 54 rfl
theorem sC_55 {σ : aM} (S : Sh σ) : gC σ 55 = 1 := S.2.2.2.2.2.1 55 rfl
theorem sC_56 {σ : aM} (S : Sh σ) : gC σ 56 = 1 := S.2.2.2.2.2.1 56 rfl
theorem sC_57 {σ : aM} (S : Sh σ) : gC σ 57 = 1 := S.2.2.2.2.2.1 57 rfl
theorem sC_58 {σ : aM} (S : Sh σ) : gC σ 58 = 1 := S.2.2.2.2.2.1 58 rfl
theorem sC_59 {σ : aM} (S : Sh σ) : gC σ 59 = 1 := S.2.2.2.2.2.1 59 rfl
theorem sC_60 {σ : aM} (S : Sh σ) : gC σ 60 = 1 := S.2.2.2.2.2.1 60 rfl
theorem sC_61 {σ : aM} (S : Sh σ) : gC σ 61 = 1 := S.2.2.2.2.2.1 61 rfl
theorem sC_62 {σ : aM} (S : Sh σ) : gC σ 62 = 1 := S.2.2.2.2.2.1 62 rfl
theorem sC_63 {σ : aM} (S : Sh σ) : gC σ 63 = 1 := S.2.2.2.2.2.1 63 rfl
theorem sC_64 {σ : aM} (S : Sh σ) : gC σ 64 = 1 := S.2.2.2.2.2.1 64 rfl
theorem sC_65 {σ : aM} (S : Sh σ) : gC σ 65 = 1 := S.2.2.2.2.2.1 65 rfl
theorem sC_66 {σ : aM} (S : Sh σ) : gC σ 66 = 1 := S.2.2.2.2.2.1 66 rfl
theorem sC_67 {σ : aM} (S : Sh σ) : gC σ 67 = 1 := S.2.2.2.2.2.1 67 rfl
theorem sC_68 {σ : aM} (S : Sh σ) : gC σ 68 = 1 := S.2.2.2.2.2.1 68 rfl
theorem sC_69 {σ : aM} (S : Sh σ) : gC σ 69 = 1 := S.2.2.2.2.2.1 69 rfl
theorem sC_70 {σ : aM} (S : Sh σ) : gC σ 70 = 1 := S.2.2.2.2.2.1 70 rfl
theorem sC_71 {σ : aM} (S : Sh σ) : gC σ 71 = 1 := S.2.2.2.2.2.1 71 rfl
theorem sC_72 {σ : aM} (S : Sh σ) : gC σ 72 = 1 := S.2.2.2.2.2.1 72 rfl
theorem sC_73 {σ : aM} (S : Sh σ) : gC σ 73 = 1 := S.2.2.2.2.2.1 73 rfl
theorem sC_74 {σ : aM} (S : Sh σ) : gC σ 74 = 1 := S.2.2.2.2.2.1 74 rfl
theorem sC_75 {σ : aM} (S : Sh σ) : gC σ 75 = 1 := S.2.2.2.2.2.1 75 rfl
theorem sC_76 {σ : aM} (S : Sh σ) : gC σ 76 = 1 := S.2.2.2.2.2.1 76 rfl
theorem sC_77 {σ : aM} (S : Sh σ) : gC σ 77 = 1 := S.2.2.2.2.2.1 77 rfl
theorem sC_78 {σ : aM} (S : Sh σ) : gC σ 78 = 1 := S.2.2.2.2.2.1 78 rfl
theorem sC_79 {σ : aM} (S : Sh σ) : gC σ 79 = 1 := S.2.2.2.2.2.1 79 rfl
theorem sC_80 {σ : aM} (S : Sh σ) : gC σ 80 = 1 := S.2.2.2.2.2.1 80 rfl
theorem sC_81 {σ : aM} (S : Sh σ) : gC σ 81 = 1 := S.2.2.2.2.2.1 81 rfl
theorem sC_82 {σ : aM} (S : Sh σ) : gC σ 82 = 1 := S.2.2.2.2.2.1 82 rfl
theorem sC_83 {σ : aM} (S : Sh σ) : gC σ 83 = 1 := S.2.2.2.2.2.1 83 rfl
theorem sC_84 {σ : aM} (S : Sh σ) : gC σ 84 = 1 := S.2.2.2.2.2.1 84 rfl
theorem sC_85 {σ : aM} (S : Sh σ) : gC σ 85 = 1 := S.2.2.2.2.2.1 85 rfl
theorem sC_86 {σ : aM} (S : Sh σ) : gC σ 86 = 1 := S.2.2.2.2.2.1 86 rfl
theorem sC_87 {σ : aM} (S : Sh σ) : gC σ 87 = 1 := S.2.2.2.2.2.1 87 rfl
theorem sC_88 {σ : aM} (S : Sh σ) : gC σ 88 = 1 := S.2.2.2.2.2.1 88 rfl
theorem sC_89 {σ : aM} (S : Sh σ) : gC σ 89 = 1 := S.2.2.2.2.2.1 89 rfl
theorem sC_90 {σ : aM} (S : Sh σ) : gC σ 90 = 1 := S.2.2.2.2.2.1 90 rfl
theorem sC_91 {σ : aM} (S : Sh σ) : gC σ 91 = 1 := S.2.2.2.2.2.1 91 rfl
theorem sC_92 {σ : aM} (S : Sh σ) : gC σ 92 = 1 := S.2.2.2.2.2.1 92 rfl
theorem sC_93 {σ : aM} (S : Sh σ) : gC σ 93 = 1 := S.2.2.2.2.2.1 93 rfl
theorem sC_94 {σ : aM} (S : Sh σ) : gC σ 94 = 1 := S.2.2.2.2.2.1 94 rfl
theorem sC_95 {σ : aM} (S : Sh σ) : gC σ 95 = 1 := S.2.2.2.2.2.1 95 rfl
theorem sC_96 {σ : aM} (S : Sh σ) : gC σ 96 = 1 := S.2.2.2.2.2.1 96 rfl
theorem sC_97 {σ : aM} (S : Sh σ) : gC σ 97 = 1 := S.2.2.2.2.2.1 97 rfl
theorem sC_98 {σ : aM} (S : Sh σ) : gC σ 98 = 1 := S.2.2.2.2.2.1 98 rfl
theorem sC_99 {σ : aM} (S : Sh σ) : gC σ 99 = 1 := S.2.2.2.2.2.1 99 rfl
theorem sC_100 {σ : aM} (S : Sh σ) : gC σ 100 = 1 := S.2.2.2.2.2.1 100 rfl
theorem sN_9 {σ : aM} (S : Sh σ) : gN σ 9 0 = 120 := S.2.2.2.2.2.2.1 9 rfl
theorem sN_10 {σ : aM} (S : Sh σ) : gN σ 10 0 = 10 := S.2.2.2.2.2.2.1 10 rfl
theorem sN_11 {σ : aM} (S : Sh σ) : gN σ 11 0 = 40 := S.2.2.2.2.2.2.1 11 rfl
theorem sN_13 {σ : aM} (S : Sh σ) : gN σ 13 0 = 300 := S.2.2.2.2.2.2.1 13 rfl
theorem sN_14 {σ : aM} (S : Sh σ) : gN σ 14 0 = 300 := S.2.2.2.2.2.2.1 14 rfl
theorem sN_15 {σ : aM} (S : Sh σ) : gN σ 15 0 = 301 := S.2.2.2.2.2.2.1 15 rfl
theorem sN_16 {σ : aM} (S : Sh σ) : gN σ 16 0 = 301 := S.2.2.2.2.2.2.1 16 rfl
theorem sN_17 {σ : aM} (S : Sh σ) : gN σ 17 0 = 301 := S.2.2.2.2.2.2.1 17 rfl
theorem sN_28 {σ : aM} (S : Sh σ) : gN σ 28 0 = 6 := S.2.2.2.2.2.2.1 28 rfl
theorem sN_32 {σ : aM} (S : Sh σ) : gN σ 32 0 = 128 := S.2.2.2.2.2.2.1 32 rfl
theorem sN_41 {σ : aM} (S : Sh σ) : gN σ 41 0 = 60 := S.2.2.2.2.2.2.1 41 rfl
theorem sN_42 {σ : aM} (S : Sh σ) : gN σ 42 0 = 60 := S.2.2.2.2.2.2.1 42 rfl
theorem sN_43 {σ : aM} (S : Sh σ) : gN σ 43 0 = 60 := S.2.2.2.2.2.2.1 43 rfl
theorem sN_44 {σ : aM} (S : Sh σ) : gN σ 44 0 = 60 := S.2.2.2.2.2.2.1 44 rfl
theorem sN_45 {σ : aM} (S : Sh σ) : gN σ 45 0 = 60 := S.2.2.2.2.2.2.1 45 rfl
theorem sN_46 {σ : aM} (S : Sh σ) : gN σ 46 0 = 60 := S.2.2.2.2.2.2.1 46 rfl
theorem sN_47 {σ : aM} (S : Sh σ) : gN σ 47 0 = 60 := S.2.2.2.2.2.2.1 47 rfl
theorem sN_48 {σ : aM} (S : Sh σ) : gN σ 48 0 = 60 := S.2.2.2.2.2.2.1 48 rfl
theorem sN_49 {σ : aM} (S : Sh σ) : gN σ 49 0 = 60 := S.2.2.2.2.2.2.1 49 rfl
theorem sN_50 {σ : aM} (S : Sh σ) : gN σ 50 0 = 60 := S.2.2.2.2.2.2.1 50 rfl
theorem sN_51 {σ : aM} (S : Sh σ) : gN σ 51 0 = 60 := S.2.2.2.2.2.2.1 51 rfl
theorem sN_52 {σ : aM} (S : Sh σ) : gN σ 52 0 = 60 := S.2.2.2.2.2.2.1 52 rfl
theorem sN_53 {σ : aM} (S : Sh σ) : gN σ 53 0 = 60 := S.2.2.2.2.2.2.1 53 rfl
theorem sN_54 {σ : aM} (S : Sh σ) : gN σ 54 0 = 60 := S.2.2.2.2.2.2.1 54 rfl
theorem sN_55 {σ : aM} (S : Sh σ) : gN σ 55 0 = 60 := S.2.2.2.2.2.2.1 55 rfl
theorem sN_56 {σ : aM} (S : Sh σ) : gN σ 56 0 = 60 := S.2.2.2.2.2.2.1 56 rfl
theorem sN_57 {σ : aM} (S : Sh σ) : gN σ 57 0 = 60 := S.2.2.2.2.2.2.1 57 rfl
theorem sN_87 {σ : aM} (S : Sh σ) : gN σ 87 0 = 60 := S.2.2.2.2.2.2.1 87 rfl
theorem sN_88 {σ : aM} (S : Sh σ) : gN σ 88 0 = 60 := S.2.2.2.2.2.2.1 88 rfl
theorem sN_93 {σ : aM} (S : Sh σ) : gN σ 93 0 = 60 := S.2.2.2.2.2.2.1 93 rfl
theorem sN_94 {σ : aM} (S : Sh σ) : gN σ 94 0 = 60 := S.2.2.2.2.2.2.1 94 rfl
theorem sN_95 {σ : aM} (S : Sh σ) : gN σ 95 0 = 60 := S.2.2.2.2.2.2.1 95 rfl
theorem sN_96 {σ : aM} (S : Sh σ) : gN σ 96 0 = 60 := S.2.2.2.2.2.2.1 96 rfl
theorem sN_58 {σ : aM} (S : Sh σ) : gN σ 58 0 = 30 := S.2.2.2.2.2.2.1 58 rfl
theorem sN_59 {σ : aM} (S : Sh σ) : gN σ 59 0 = 30 := S.2.2.2.2.2.2.1 59 rfl
theorem sN_60 {σ : aM} (S : Sh σ) : gN σ 60 0 = 30 := S.2.2.2.2.2.2.1 60 rfl
theorem sN_61 {σ : aM} (S : Sh σ) : gN σ 61 0 = 30 := S.2.2.2.2.2.2.1 61 rfl
theorem sN_62 {σ : aM} (S : Sh σ) : gN σ 62 0 = 12 := S.2.2.2.2.2.2.1 62 rfl
theorem sN_63 {σ : aM} (S : Sh σ) : gN σ 63 0 = 12 := S.2.2.2.2.2.2.1 63 rfl
theorem sN_64 {σ : aM} (S : Sh σ) : gN σ 64 0 = 12 := S.2.2.2.2.2.2.1 64 rfl
theorem sN_79 {σ : aM} (S : Sh σ) : gN σ 79 0 = 12 := S.2.2.2.2.2.2.1 79 rfl
theorem sN_65 {σ : aM} (S : Sh σ) : gN σ 65 0 = 120 := S.2.2.2.2.2.2.1 65 rfl
theorem sN_66 {σ : aM} (S : Sh σ) : gN σ 66 0 = 120 := S.2.2.2.2.2.2.1 66 rfl
theorem sN_67 {σ : aM} (S : Sh σ) : gN σ 67 0 = 120 := S.2.2.2.2.2.2.1 67 rfl
theorem sN_68 {σ : aM} (S : Sh σ) : gN σ 68 0 = 120 := S.2.2.2.2.2.2.1 68 rfl
theorem sN_69 {σ : aM} (S : Sh σ) : gN σ 69 0 = 120 := S.2.2.2.2.2.2.1 69 rfl
theorem sN_70 {σ : aM} (S : Sh σ) : gN σ 70 0 = 120 := S.2.2.2.2.2.2.1 70 rfl
theorem sN_71 {σ : aM} (S : Sh σ) : gN σ 71 0 = 120 := S.2.2.2.2.2.2.1 71 rfl
theorem sN_72 {σ : aM} (S : Sh σ) : gN σ 72 0 = 120 := S.2.2.2.2.2.2.1 72 rfl
theorem sN_75 {σ : aM} (S : Sh σ) : gN σ 75 0 = 120 := S.2.2.2.2.2.2.1 75 rfl
theorem sN_73 {σ : aM} (S : Sh σ) : gN σ 73 0 = 3840 := S.2.2.2.2.2.2.1 73 rfl
theorem sN_74 {σ : aM} (S : Sh σ) : gN σ 74 0 = 3840 := S.2.2.2.2.2.2.1 74 rfl
theorem sN_76 {σ : aM} (S : Sh σ) : gN σ 76 0 = 300 := S.2.2.2.2.2.2.1 76 rfl
theorem sN_77 {σ : aM} (S : Sh σ) : gN σ 77 0 = 10 := S.2.2.2.2.2.2.1 77 rfl
theorem sN_78 {σ : aM} (S : Sh σ) : gN σ 78 0 = 320 := S.2.2.2.2.2.2.1 78 rfl
theorem sN_83 {σ : aM} (S : Sh σ) : gN σ 83 0 = 685920 := S.2.2.2.2.2.2.1 83 rfl
theorem sN_97 {σ : aM} (S : Sh σ) : gN σ 97 0 = 1800 := S.2.2.2.2.2.2.1 97 rfl
theorem sN_98 {σ : aM} (S : Sh σ) : gN σ 98 0 = 7 := S.2.2.2.2.2.2.1 98 rfl
theorem sN_99 {σ : aM} (S : Sh σ) : gN σ 99 0 = 7 := S.2.2.2.2.2.2.1 99 rfl
theorem sN_100 {σ : aM} (S : Sh σ) : gN σ 100 0 = 128 := S.2.2.2.2.2.2.1 100 rfl
theorem sN_80 {σ : aM} (S : Sh σ) : gN σ 80 0 = 400 := S.2.2.2.2.2.2.1 80 rfl
theorem sN_81 {σ : aM} (S : Sh σ) : gN σ 81 0 = 400 := S.2.2.2.2.2.2.1 81 rfl
theorem sN_82 {σ : aM} (S : Sh σ) : gN σ 82 0 = 400 := S.2.2.2.2.2.2.1 82 rfl
theorem sN_84 {σ : aM} (S : Sh σ) : gN σ 84 0 = 6 := S.2.2.2.2.2.2.1 84 rfl
theorem sN_85 {σ : aM} (S : Sh σ) : gN σ 85 0 = 6 := S.2.2.2.2.2.2.1 85 rfl
theorem sN_86 {σ : aM} (S : Sh σ) : gN σ 86 0 = 6 := S.2.2.2.2.2.2.1 86 rfl
theorem sN_89 {σ : aM} (S : Sh σ) : gN σ 89 0 = 100 := S.2.2.2.2.2.2.1 89 rfl
theorem sN_90 {σ : aM} (S : Sh σ) : gN σ 90 0 = 100 := S.2.2.2.2.2.2.1 90 rfl
theorem sN_91 {σ : aM} (S : Sh σ) : gN σ 91 0 = 100 := S.2.2.2.2.2.2.1 91 rfl
theorem sN_92 {σ : aM} (S : Sh σ) : gN σ 92 0 = 100 := S.2.2.2.2.2.2.1 92 rfl
theorem sN_5 {σ : aM} (S : Sh σ) : gN σ 5 0 = 1 := S.2.2.2.2.2.2.1 5 rfl
theorem sR_3_0 {σ : aM} (S : Sh σ) : gR σ 3 0 0 = some (21, 0) := S.1 0
theorem sR_3_1 {σ : aM} (S : Sh σ) : gR σ 3 0 1 = some (22, 0) := S.1 1
theorem sR_3_2 {σ : aM} (S : Sh σ) : gR σ 3 0 2 = some (23, 0) := S.1 2
theorem sR_3_3 {σ : aM} (S : Sh σ) : gR σ 3 0 3 = some (24, 0) := S.1 3
theorem sR_3_4 {σ : aM} (S : Sh σ) : gR σ 3 0 4 = some (25, 0) := S.1 4
theorem sR_3_5 {σ : aM} (S : Sh σ) : gR σ 3 0 5 = some (26, 0) := S.1 5
theorem sR_3_6 {σ : aM} (S : Sh σ) : gR σ 3 0 6 = some (27, 0) := S.1 6
theorem sR_3_7 {σ : aM} (S : Sh σ) : gR σ 3 0 7 = some (28, 0) := S.1 7
theorem sR_3_8 {σ : aM} (S : Sh σ) : gR σ 3 0 8 = some (29, 0) := S.1 8
theorem sR_3_9 {σ : aM} (S : Sh σ) : gR σ 3 0 9 = some (30, 0) := S.1 9
theorem sR_3_10 {σ : aM} (S : Sh σ) : gR σ 3 0 10 = some (31, 0) := S.1 10
theorem sR_3_11 {σ : aM} (S : Sh σ) : gR σ 3 0 11 = some (32, 0) := S.1 11
theorem sR_4_3 {σ : aM} (S : Sh σ) : gR σ 4 0 3 = some (41, 0) := S.2.1 3
theorem sR_4_4 {σ : aM} (S : Sh σ) : gR σ 4 0 4 = some (42, 0) := S.2.1 4
theorem sR_4_5 {σ : aM} (S : Sh σ) : gR σ 4 0 5 = some (43, 0) := S.2.1 5
theorem sR_4_6 {σ : aM} (S : Sh σ) : gR σ 4 0 6 = some (44, 0) := S.2.1 6
theorem sR_4_7 {σ : aM} (S : Sh σ) : gR σ 4 0 7 = some (45, 0) := S.2.1 7
theorem sR_4_8 {σ : aM} (S : Sh σ) : gR σ 4 0 8 = some (46, 0) := S.2.1 8
theorem sR_4_9 {σ : aM} (S : Sh σ) : gR σ 4 0 9 = some (47, 0) := S.2.1 9
theorem sR_4_10 {σ : aM} (S : Sh σ) : gR σ 4 0 10 = some (48, 0) := S.2.1 10
theorem sR_4_11 {σ : aM} (S : Sh σ) : gR σ 4 0 11 = some (49, 0) := S.2.1 11
theorem sR_4_12 {σ : aM} (S : Sh σ) : gR σ 4 0 12 = some (50, 0) := S.2.1 12
theorem sR_4_13 {σ : aM} (S : Sh σ) : gR σ 4 0 13 = some (51, 0) := S.2.1 13
theorem sR_4_14 {σ : aM} (S : Sh σ) : gR σ 4 0 14 = some (52, 0) := S.2.1 14
theorem sR_4_15 {σ : aM} (S : Sh σ) : gR σ 4 0 15 = some (53, 0) := S.2.1 15
theorem sR_4_16 {σ : aM} (S : Sh σ) : gR σ 4 0 16 = some (54, 0) := S.2.1 16
theorem sR_4_17 {σ : aM} (S : Sh σ) : gR σ 4 0 17 = some (55, 0) := S.2.1 17
theorem sR_4_18 {σ : aM} (S : Sh σ) : gR σ 4 0 18 = some (56, 0) := S.2.1 18
theorem sR_4_19 {σ : aM} (S : Sh σ) : gR σ 4 0 19 = some (57, 0) := S.2.1 19
theorem sR_4_21 {σ : aM} (S : Sh σ) : gR σ 4 0 21 = some (58, 0) := S.2.1 21
theorem sR_4_22 {σ : aM} (S : Sh σ) : gR σ 4 0 22 = some (59, 0) := S.2.1 22
theorem sR_4_23 {σ : aM} (S : Sh σ) : gR σ 4 0 23 = some (60, 0) := S.2.1 23
theorem sR_4_24 {σ : aM} (S : Sh σ) : gR σ 4 0 24 = some (61, 0) := S.2.1 24
theorem sR_4_28 {σ : aM} (S : Sh σ) : gR σ 4 0 28 = some (62, 0) := S.2.1 28
theorem sR_4_29 {σ : aM} (S : Sh σ) : gR σ 4 0 29 = some (63, 0) := S.2.1 29
theorem sR_4_30 {σ : aM} (S : Sh σ) : gR σ 4 0 30 = some (64, 0) := S.2.1 30
theorem sR_4_31 {σ : aM} (S : Sh σ) : gR σ 4 0 31 = some (65, 0) := S.2.1 31
theorem sR_4_32 {σ : aM} (S : Sh σ) : gR σ 4 0 32 = some (66, 0) := S.2.1 32
theorem sR_4_33 {σ : aM} (S : Sh σ) : gR σ 4 0 33 = some (67, 0) := S.2.1 33
theorem sR_4_34 {σ : aM} (S : Sh σ) : gR σ 4 0 34 = some (68, 0) := S.2.1 34
theorem sR_4_35 {σ : aM} (S : Sh σ) : gR σ 4 0 35 = some (69, 0) := S.2.1 35
theorem sR_4_36 {σ : aM} (S : Sh σ) : gR σ 4 0 36 = some (70, 0) := S.2.1 36
theorem sR_4_37 {σ : aM} (S : Sh σ) : gR σ 4 0 37 = some (71, 0) := S.2.1 37
theorem sR_4_38 {σ : aM} (S : Sh σ) : gR σ 4 0 38 = some (72, 0) := S.2.1 38
theorem sR_4_39 {σ : aM} (S : Sh σ) : gR σ 4 0 39 = some (73, 0) := S.2.1 39
theorem sR_4_40 {σ : aM} (S : Sh σ) : gR σ 4 0 40 = some (74, 0) := S.2.1 40
theorem sR_4_43 {σ : aM} (S : Sh σ) : gR σ 4 0 43 = some (75, 0) := S.2.1 43
theorem sR_4_44 {σ : aM} (S : Sh σ) : gR σ 4 0 44 = some (76, 0) := S.2.1 44
theorem sR_4_54 {σ : aM} (S : Sh σ) : gR σ 4 0 54 = some (77, 0) := S.2.1 54
theorem sR_4_55 {σ : aM} (S : Sh σ) : gR σ 4 0 55 = some (78, 0) := S.2.1 55
theorem sR_4_56 {σ : aM} (S : Sh σ) : gR σ 4 0 56 = some (79, 0) := S.2.1 56
theorem sR_4_59 {σ : aM} (S : Sh σ) : gR σ 4 0 59 = some (80, 0) := S.2.1 59
theorem sR_4_60 {σ : aM} (S : Sh σ) : gR σ 4 0 60 = some (81, 0) := S.2.1 60
theorem sR_4_61 {σ : aM} (S : Sh σ) : gR σ 4 0 61 = some (82, 0) := S.2.1 61
theorem sR_4_62 {σ : aM} (S : Sh σ) : gR σ 4 0 62 = some (83, 0) := S.2.1 62
theorem sR_4_65 {σ : aM} (S : Sh σ) : gR σ 4 0 65 = some (84, 0) := S.2.1 65
theorem sR_4_66 {σ : aM} (S : Sh σ) : gR σ 4 0 66 = some (85, 0) := S.2.1 66
theorem sR_4_67 {σ : aM} (S : Sh σ) : gR σ 4 0 67 = some (86, 0) := S.2.1 67
theorem sR_4_69 {σ : aM} (S : Sh σ) : gR σ 4 0 69 = some (87, 0) := S.2.1 69
theorem sR_4_70 {σ : aM} (S : Sh σ) : gR σ 4 0 70 = some (88, 0) := S.2.1 70
theorem sR_4_72 {σ : aM} (S : Sh σ) : gR σ 4 0 72 = some (89, 0) := S.2.1 72
theorem sR_4_73 {σ : aM} (S : Sh σ) : gR σ 4 0 73 = some (90, 0) := S.2.1 73
theorem sR_4_74 {σ : aM} (S : Sh σ) : gR σ 4 0 74 = some (91, 0) := S.2.1 74
theorem sR_4_75 {σ : aM} (S : Sh σ) : gR σ 4 0 75 = some (92, 0) := S.2.1 75
theorem sR_4_77 {σ : aM} (S : Sh σ) : gR σ 4 0 77 = some (93, 0) := S.2.1 77
theorem sR_4_78 {σ : aM} (S : Sh σ) : gR σ 4 0 78 = some (94, 0) := S.2.1 78
theorem sR_4_79 {σ : aM} (S : Sh σ) : gR σ 4 0 79 = some (95, 0) := S.2.1 79
theorem sR_4_80 {σ : aM} (S : Sh σ) : gR σ 4 0 80 = some (96, 0) := S.2.1 80
theorem sR_4_81 {σ : aM} (S : Sh σ) : gR σ 4 0 81 = some (97, 0) := S.2.1 81
theorem sR_4_82 {σ : aM} (S : Sh σ) : gR σ 4 0 82 = some (98, 0) := S.2.1 82
theorem sR_4_83 {σ : aM} (S : Sh σ) : gR σ 4 0 83 = some (99, 0) := S.2.1 83
theorem sR_4_84 {σ : aM} (S : Sh σ) : gR σ 4 0 84 = some (100, 0) := S.2.1 84
theorem sR_29_0 {σ : aM} (S : Sh σ) : gR σ 29 0 0 = some (13, 0) := S.2.2.1 0
theorem sR_29_4 {σ : aM} (S : Sh σ) : gR σ 29 0 4 = some (14, 0) := S.2.2.1 4
theorem sR_29_6 {σ : aM} (S : Sh σ) : gR σ 29 0 6 = some (15, 0) := S.2.2.1 6
theorem sR_29_7 {σ : aM} (S : Sh σ) : gR σ 29 0 7 = some (16, 0) := S.2.2.1 7
theorem sR_29_8 {σ : aM} (S : Sh σ) : gR σ 29 0 8 = some (17, 0) := S.2.2.1 8
theorem sR_30_0 {σ : aM} (S : Sh σ) : gR σ 30 0 0 = some (7, 0) := S.2.2.2.1 0 (by decide)
theorem sR_30_1 {σ : aM} (S : Sh σ) : gR σ 30 0 1 = some (8, 0) := S.2.2.2.1 1 (by decide)
theorem sR_30_2 {σ : aM} (S : Sh σ) : gR σ 30 0 2 = some (9, 0) := S.2.2.2.1 2 (by decide)
theorem sR_30_4 {σ : aM} (S : Sh σ) : gR σ 30 0 4 = some (10, 0) := S.2.2.2.1 4 (by decide)
theorem sR_30_5 {σ : aM} (S : Sh σ) : gR σ 30 0 5 = some (11, 0) := S.2.2.2.1 5 (by decide)
/-! what a stretch of code comes to: the class's code, the reference's -/
def heldF (v : Int64) : Int64 := if 1000000000 < v then 1000000000 else if v < -1000000000 then -1000000000 else v
def opC (c : Int32) (x y : Int64) : Int64 := if c = -18 then x ||| y else if c = -17 then x &&& y else if c = -16 then (if x = y then 1 else 0) else if c = -15 then (if y < x then 1 else 0) else if c = -14 then (if x < y then 1 else 0) else if c = -12 then heldF (x - y) else if c = -11 then heldF (x + y) else heldF (x * y)
def opR (c : Int32) (x y : Int64) : Int64 := if c = 2 then heldF (x + y) else if c = 3 then heldF (x - y) else if c = 4 then heldF (x * y) else if c = 5 then (if x < y then 1 else 0) else if c = 6 then (if y < x then 1 else 0) else if c = 7 then (if x = y then 1 else 0) else if c = 9 then (if x = 1 ∧ y = 1 then 1 else 0) else (if x = 1 ∨ y = 1 then 1 else 0)
def stC (w : Nat → Int64) (c : Int32) (st : List Int64) : List Int64 := if c < -10 then (if c = -19 then (match st with
  | x :: s => (1 - x) :: s
  | [] => []) else match st with
  | y :: x :: s => opC c x y :: s
  | s => s) else if st.length < 40 then (if c < 0 then w (-1 - c).toNatClampNeg else c.toInt64) :: st else st
def stR (w : Nat → Int64) (c : Int32 × Int32) (st : List Int64) : List Int64 := if c.1 = 0 then c.2.toInt64 :: st else if c.1 = 1 then w c.2.toNatClampNeg :: st else if c.1 = 8 then (match st with
  | x :: s => (1 - x) :: s
  | [] => []) else match st with
  | y :: x :: s => opR c.1 x y :: s
  | s => s
def evC (w : Nat → Int64) : List Int32 → List Int64 → List Int64
  | [], st => st
  | c :: r, st => evC w r (stC w c st)
def evR (w : Nat → Int64) : List (Int32 × Int32) → List Int64 → List Int64
  | [], st => st
  | c :: r, st => evR w r (stR w c st)
def sgF (f : Nat → Int32) : Nat → Nat → List Int32
  | _, 0 => []
  | i, k + 1 => f i :: sgF f (i + 1) k
def sgC (f : Nat → Int32) (a b : Nat) : List Int32 := sgF f a (b - a)
def sgG (f g : Nat → Int32) : Nat → Nat → List (Int32 × Int32)
  | _, 0 => []
  | i, k + 1 => (f i, g i) :: sgG f g (i + 1) k
def sgR (f g : Nat → Int32) (o a b : Nat) : List (Int32 × Int32) := sgG f g (o + a) (b - a)
/-- the reference's stack never runs dry, nor over -/
def sfR : List (Int32 × Int32) → Nat → Prop
  | [], _ => True
  | c :: r, n => if c.1 = 0 ∨ c.1 = 1 then n < 40 ∧ sfR r (n + 1) else if c.1 = 8 then 1 ≤ n ∧ sfR r n else 2 ≤ n ∧ sfR r (n - 1)
/-- both stretches make the same one number of whatever the words are, and never stand higher than h -/
def Good (bl : Bool) (h : Nat) (l : List Int32) (m : List (Int32 × Int32)) : Prop := (∀ c ∈ m, c.1 = 1 → ∃ k, k < 10 ∧ c.2 = nI k) ∧ (∀ n, n + h ≤ 40 → sfR m n) ∧ ∀ (w : Nat → Int64), (∀ k, ∃ x : Int32, w k = x.toInt64) → ∀ (st : List Int64), st.length + h ≤ 40 → ∃ v : Int32, evC w l st = v.toInt64 :: st ∧ evR w m st = v.toInt64 :: st ∧ (bl = true → v = 0 ∨ v = 1)
/-- a number goes in behind all that are not above it -/
def insO (f : Nat → Int32) (t : Nat) : List Nat → List Nat
  | [] => [t]
  | a :: r => if f t < f a then t :: a :: r else a :: insO f t r
def ordL (f : Nat → Int32) : Nat → List Nat
  | 0 => []
  | n + 1 => insO f n (ordL f n)
def StOK (σ : aM) (i t s : Nat) : Prop := ∃ u k a b e, u < gC σ 19 ∧ gR σ 12 t s = some (19, u) ∧ gI σ 19 u 0 = nI s ∧ gI σ 19 u 1 = gI σ 65 0 (10 * i + s) ∧ gI σ 65 0 (10 * i + s) = nI k ∧ k ≤ 7 ∧ gI σ 19 u 3 = gI σ 67 0 (10 * i + s) ∧ (k ≠ 6 → gI σ 67 0 (10 * i + s) = -1) ∧ (k = 6 → 0 ≤ gI σ 67 0 (10 * i + s)) ∧ gI σ 19 u 4 = nI a ∧ gI σ 19 u 5 = nI b ∧ gI σ 19 u 6 = nI e ∧ (k < 7 → a ≤ b ∧ b ≤ e ∧ e ≤ gN σ 18 i ∧ gN σ 18 i ≤ 300 ∧
  ((gI σ 71 0 (10 * i + s) = -1 ∧ b = e) ∨ (∃ p q, gI σ 71 0 (10 * i + s) = nI p ∧ gI σ 72 0 (10 * i + s) = nI q ∧ p ≤ q ∧ q ≤ 320 ∧ ∃ h, h ≤ 40 ∧ Good true h (sgC (gI σ 18 i) b e) (sgR (gI σ 73 0) (gI σ 74 0) (320 * i) p q))) ∧
  ((gI σ 69 0 (10 * i + s) = -1 ∧ (k = 1 ∨ k = 2 ∨ k = 3 ∨ k = 6) ∧ (∃ N, gI σ 66 0 (10 * i + s) = nI N ∧ N ≤ 9999 ∧ (k = 1 → N ≤ 100) ∧ (k = 2 → N ≤ 99) ∧ (k = 6 → 1 ≤ N)) ∧ ((a = b ∧ gI σ 66 0 (10 * i + s) = 1) ∨ (b = a + 1 ∧ gI σ 18 i a = gI σ 66 0 (10 * i + s)))) ∨
    (∃ p q, gI σ 69 0 (10 * i + s) = nI p ∧ gI σ 70 0 (10 * i + s) = nI q ∧ (k = 0 ∨ k = 4 ∨ k = 5) ∧ p ≤ q ∧ q ≤ 320 ∧ ∃ h, h ≤ 40 ∧ Good false h (sgC (gI σ 18 i) a b) (sgR (gI σ 73 0) (gI σ 74 0) (320 * i) p q))))
def TextOK (σ : aM) (i : Nat) : Prop := ∃ t c, t < gC σ 36 ∧ gR σ 7 0 i = some (36, t) ∧ gI σ 36 t 0 = nI i ∧ gI σ 36 t 1 = gI σ 63 0 i ∧ gI σ 36 t 2 = gI σ 62 0 i ∧ gR σ 36 t 3 = some (12, t) ∧ gR σ 36 t 4 = some (18, i) ∧ c ≤ 10 ∧ gI σ 64 0 i = nI c ∧ gN σ 12 t = c ∧ (∀ k, k < 7 → (((gI σ 36 t 5 >>> (nI k &&& 31)) &&& 1 = 1) ↔ ∃ s, s < c ∧ gI σ 65 0 (10 * i + s) = 7 ∧ gI σ 66 0 (10 * i + s) = nI k)) ∧ ∀ s, s < c → StOK σ i t s
def BX (σ : aM) : Prop := gN σ 7 0 ≤ 12 ∧ gI σ 4 0 27 = nI (gN σ 7 0) ∧ gI σ 30 0 3 = gI σ 4 0 42 ∧ (∃ m, m ≤ 10 * gN σ 7 0 ∧ gI σ 4 0 42 = nI m) ∧ (∀ j, gL σ 9 0 j = gL σ 75 0 j) ∧ gN σ 8 0 = gN σ 7 0 ∧ gC σ 12 = gC σ 36 ∧ gC σ 18 = gN σ 7 0 ∧ (∀ j, j < gN σ 7 0 → gR σ 8 0 j = gR σ 7 0 ((ordL (gI σ 63 0) (gN σ 7 0)).getD j 0)) ∧ ∀ i, i < gN σ 7 0 → TextOK σ i
theorem BX_fr {σ τ : aM} (h : BX σ) (a : Ag fBX σ τ) (e30_0_3 : gI τ 30 0 3 = gI σ 30 0 3) (e4_0_27 : gI τ 4 0 27 = gI σ 4 0 27) (e4_0_42 : gI τ 4 0 42 = gI σ 4 0 42) : BX τ := by
  obtain ⟨e7a, e7b, e7c, e7d, e7e⟩ := a 7 rfl
  obtain ⟨e8a, e8b, e8c, e8d, e8e⟩ := a 8 rfl
  obtain ⟨e9a, e9b, e9c, e9d, e9e⟩ := a 9 rfl
  obtain ⟨e12a, e12b, e12c, e12d, e12e⟩ := a 12 rfl
  obtain ⟨e18a, e18b, e18c, e18d, e18e⟩ := a 18 rfl
  obtain ⟨e19a, e19b, e19c, e19d, e19e⟩ := a 19 rfl
  obtain ⟨e36a, e36b, e36c, e36d, e36e⟩ := a 36 rfl
  obtain ⟨e62a, e62b, e62c, e62d, e62e⟩ := a 62 rfl
  obtain ⟨e63a, e63b, e63c, e63d, e63e⟩ := a 63 rfl
  obtain ⟨e64a, e64b, e64c, e64d, e64e⟩ := a 64 rfl
  obtain ⟨e65a, e65b, e65c, e65d, e65e⟩ := a 65 rfl
  obtain ⟨e66a, e66b, e66c, e66d, e66e⟩ := a 66 rfl
  obtain ⟨e67a, e67b, e67c, e67d, e67e⟩ := a 67 rfl
  obtain ⟨e68a, e68b, e68c, e68d, e68e⟩ := a 68 rfl
  obtain ⟨e69a, e69b, e69c, e69d, e69e⟩ := a 69 rfl
  obtain ⟨e70a, e70b, e70c, e70d, e70e⟩ := a 70 rfl
  obtain ⟨e71a, e71b, e71c, e71d, e71e⟩ := a 71 rfl
  obtain ⟨e72a, e72b, e72c, e72d, e72e⟩ := a 72 rfl
  obtain ⟨e73a, e73b, e73c, e73d, e73e⟩ := a 73 rfl
  obtain ⟨e74a, e74b, e74c, e74d, e74e⟩ := a 74 rfl
  obtain ⟨e75a, e75b, e75c, e75d, e75e⟩ := a 75 rfl
  have g63 : gI τ 63 0 = gI σ 63 0 := funext (e63a 0)
  have g73 : gI τ 73 0 = gI σ 73 0 := funext (e73a 0)
  have g74 : gI τ 74 0 = gI σ 74 0 := funext (e74a 0)
  have g18 : ∀ i, gI τ 18 i = gI σ 18 i := fun i => funext (e18a i)
  unfold BX TextOK StOK at h ⊢
  simp only [g63, g73, g74, g18, e7a, e7b, e7c, e7d, e7e, e8a, e8b, e8c, e8d, e8e, e9a, e9b, e9c, e9d, e9e, e12a, e12b, e12c, e12d, e12e, e18a, e18b, e18c, e18d, e18e, e19a, e19b, e19c, e19d, e19e, e36a, e36b, e36c, e36d, e36e, e62a, e62b, e62c, e62d, e62e, e63a, e63b, e63c, e63d, e63e, e64a, e64b, e64c, e64d, e64e, e65a, e65b, e65c, e65d, e65e, e66a, e66b, e66c, e66d, e66e, e67a, e67b, e67c, e67d, e67e, e68a, e68b, e68c, e68d, e68e, e69a, e69b, e69c, e69d, e69e, e70a, e70b, e70c, e70d, e70e, e71a, e71b, e71c, e71d, e71e, e72a, e72b, e72c, e72d, e72e, e73a, e73b, e73c, e73d, e73e, e74a, e74b, e74c, e74d, e74e, e75a, e75b, e75c, e75d, e75e, e30_0_3, e4_0_27, e4_0_42]
  exact h
/-- all of it, after n calls -/
def Inv (n : Nat) (σ : aM) : Prop := Sh σ ∧ BP σ ∧ BM n σ ∧ BH σ ∧ BQ σ ∧ BD σ ∧ BT σ ∧ BX σ ∧ BO σ ∧ BW σ ∧ BG σ ∧ BS σ ∧ BF σ ∧ BU n σ
theorem BM_up {n : Nat} {σ : aM} (h : BM n σ) (hn : n < 512) : BM (n + 1) σ := by
  obtain ⟨m1, m2, m3, m4, m5, m6, m7, m8⟩ := h
  refine ⟨m1, m2, fun j hj => ?_, m4, m5, m6, m7, hn⟩
  obtain ⟨a, e, h⟩ := m3 j hj
  exact ⟨a, e, by omega⟩
theorem BU_fr {n k : Nat} {σ τ : aM} (h : BU n σ) (hk : n ≤ k) (e : gB τ = gB σ) (w : gN τ 25 0 = gN σ 25 0) : BU k τ := by
  obtain ⟨u1, u2⟩ := h
  unfold BU
  rw [e, w]
  omega
theorem BU_mk {n : Nat} {σ τ : aM} (h : BU n σ) (e1 : (gB τ).1 ≤ (gB σ).1 + 100) (e2 : (gB τ).2 ≤ (gB σ).2 + 4000) (w : gN τ 25 0 = gN σ 25 0) : BU (n + 1) τ := by
  obtain ⟨u1, u2⟩ := h
  unfold BU
  rw [w]
  omega
