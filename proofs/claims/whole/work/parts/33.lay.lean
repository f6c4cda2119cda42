/-! THE CELLS BEHIND THE CONSTRUCTORS, by their numbers (wip/gen/sim.py prints them) -/
def CTr : List (Nat × Nat) := [(20, 5), (20, 4), (20, 3), (12, 2), (12, 2), (12, 2), (12, 2), (23, 4), (23, 3), (23, 10), (23, 3), (9, 12), (8, 5), (30, 5), (20, 16), (20, 16), (20, 16), (20, 16), (20, 16), (20, 10), (30, 3), (20, 16), (20, 16), (20, 16), (20, 6), (31, 8), (6, 5), (20, 16), (20, 16), (20, 16), (20, 16), (20, 16), (7, 3), (22, 120), (1, 4), (20, 16), (20, 12), (21, 12), (3, 4), (20, 24), (20, 24), (2, 1), (30, 8), (20, 6), (20, 6), (20, 6), (20, 6), (20, 6), (20, 6), (20, 6), (20, 6), (32, 4), (0, 6), (20, 6), (20, 6), (20, 6), (20, 120), (0, 6), (20, 6), (20, 6), (20, 6), (20, 120), (4, 7), (6, 5), (20, 16), (20, 16), (20, 16), (20, 16), (20, 16), (4, 7), (6, 5), (20, 16), (20, 16), (20, 16), (20, 16), (20, 16), (4, 7), (6, 5), (20, 16), (20, 16), (20, 16), (20, 16), (20, 16), (4, 7), (6, 5), (20, 16), (20, 16), (20, 16), (20, 16), (20, 16), (4, 7), (6, 5), (20, 16), (20, 16), (20, 16), (20, 16), (20, 16), (4, 7), (6, 5), (20, 16), (20, 16), (20, 16), (20, 16), (20, 16), (4, 7), (6, 5), (20, 16), (20, 16), (20, 16), (20, 16), (20, 16), (4, 7), (6, 5), (20, 16), (20, 16), (20, 16), (20, 16), (20, 16), (5, 3), (20, 32), (5, 3), (20, 32), (5, 3), (20, 32), (5, 3), (20, 32), (10, 50), (20, 48), (20, 80), (20, 8), (20, 8), (20, 8), (20, 8), (21, 8), (20, 8), (20, 10), (20, 128), (20, 128), (20, 128), (20, 128), (20, 128), (21, 16), (20, 16), (20, 16), (20, 640), (20, 8), (20, 120), (20, 120), (20, 120), (21, 6), (21, 6), (21, 6), (20, 12), (20, 12), (20, 12), (20, 12), (21, 12), (20, 48), (20, 4), (20, 4), (20, 128), (20, 32)]
def CT (L : Nat) : List (Nat × Nat) := (20, L) :: CTr
def RRl : List (List (Option Nat)) := [[], [], [], [], [some 8], [some 9], [some 10], [some 11], [], [], [], [], [some 13, some 26, some 27, some 33, some 35, some 39, some 42, some 52, some 53, some 58], [some 14, some 20, none, some 21, some 25], [some 15, some 16, some 17, some 18, some 19], [], [], [], [], [], [], [some 22, some 23, some 24], [], [], [], [], [some 63, some 70, some 77, some 84, some 91, some 98, some 105, some 112], [some 28, some 29, some 30, some 31, some 32], [], [], [], [], [], [none, some 34], [], [some 36, some 37, none, some 38], [], [], [], [none, none, some 40, some 41], [], [], [some 43], [some 44, some 45, some 46, some 47, some 48, some 49, some 50, some 51], [], [], [], [], [], [], [], [], [some 119, some 121, some 123, some 125], [some 54, none, some 55, some 56, some 57], [], [], [], [], [some 59, none, some 60, some 61, some 62], [], [], [], [], [some 64], [some 65, some 66, some 67, some 68, some 69], [], [], [], [], [], [some 71], [some 72, some 73, some 74, some 75, some 76], [], [], [], [], [], [some 78], [some 79, some 80, some 81, some 82, some 83], [], [], [], [], [], [some 85], [some 86, some 87, some 88, some 89, some 90], [], [], [], [], [], [some 92], [some 93, some 94, some 95, some 96, some 97], [], [], [], [], [], [some 99], [some 100, some 101, some 102, some 103, some 104], [], [], [], [], [], [some 106], [some 107, some 108, some 109, some 110, some 111], [], [], [], [], [], [some 113], [some 114, some 115, some 116, some 117, some 118], [], [], [], [], [], [some 120], [], [some 122], [], [some 124], [], [some 126], [], [none, some 128, some 129, none, none, some 130, some 131, some 132, some 133, some 134, some 135, some 136, some 137, some 138, some 139, some 140, some 141, some 142, some 143, some 144, some 145, some 146, none, some 147, none, some 148, none, some 149, none, none, none, none, some 150, some 151, some 152, none, none, some 153, none, some 154, none, none, some 155, some 156, some 157, some 158, some 159, some 160, some 161, some 162], [], [], [], [], [], [], [], [], [], [], [], [], [], [], [], [], [], [], [], [], [], [], [], [], [], [], [], [], [], [], [], [], [], [], []]
/-- the references: b: the two guides have changed places -/
def RR (b : Bool) : Nat → Nat → Option Nat := fun k j => if k = 12 ∧ j = 8 then some (if b then 58 else 53) else if k = 12 ∧ j = 9 then some (if b then 53 else 58) else (RRl.getD k []).getD j none
theorem tg_0 {L : Nat} : am_tag (CT L) 0 = 20 := rfl
theorem ln_0 {L : Nat} : am_len (CT L) 0 = L := rfl
theorem tg_1 {L : Nat} : am_tag (CT L) 1 = 20 := rfl
theorem ln_1 {L : Nat} : am_len (CT L) 1 = 5 := rfl
theorem tg_2 {L : Nat} : am_tag (CT L) 2 = 20 := rfl
theorem ln_2 {L : Nat} : am_len (CT L) 2 = 4 := rfl
theorem tg_3 {L : Nat} : am_tag (CT L) 3 = 20 := rfl
theorem ln_3 {L : Nat} : am_len (CT L) 3 = 3 := rfl
theorem tg_4 {L : Nat} : am_tag (CT L) 4 = 12 := rfl
theorem ln_4 {L : Nat} : am_len (CT L) 4 = 2 := rfl
theorem tg_5 {L : Nat} : am_tag (CT L) 5 = 12 := rfl
theorem ln_5 {L : Nat} : am_len (CT L) 5 = 2 := rfl
theorem tg_6 {L : Nat} : am_tag (CT L) 6 = 12 := rfl
theorem ln_6 {L : Nat} : am_len (CT L) 6 = 2 := rfl
theorem tg_7 {L : Nat} : am_tag (CT L) 7 = 12 := rfl
theorem ln_7 {L : Nat} : am_len (CT L) 7 = 2 := rfl
theorem tg_8 {L : Nat} : am_tag (CT L) 8 = 23 := rfl
theorem ln_8 {L : Nat} : am_len (CT L) 8 = 4 := rfl
theorem tg_9 {L : Nat} : am_tag (CT L) 9 = 23 := rfl
theorem ln_9 {L : Nat} : am_len (CT L) 9 = 3 := rfl
theorem tg_10 {L : Nat} : am_tag (CT L) 10 = 23 := rfl
theorem ln_10 {L : Nat} : am_len (CT L) 10 = 10 := rfl
theorem tg_11 {L : Nat} : am_tag (CT L) 11 = 23 := rfl
theorem ln_11 {L : Nat} : am_len (CT L) 11 = 3 := rfl
theorem tg_12 {L : Nat} : am_tag (CT L) 12 = 9 := rfl
theorem ln_12 {L : Nat} : am_len (CT L) 12 = 12 := rfl
theorem tg_13 {L : Nat} : am_tag (CT L) 13 = 8 := rfl
theorem ln_13 {L : Nat} : am_len (CT L) 13 = 5 := rfl
theorem tg_14 {L : Nat} : am_tag (CT L) 14 = 30 := rfl
theorem ln_14 {L : Nat} : am_len (CT L) 14 = 5 := rfl
theorem tg_15 {L : Nat} : am_tag (CT L) 15 = 20 := rfl
theorem ln_15 {L : Nat} : am_len (CT L) 15 = 16 := rfl
theorem tg_16 {L : Nat} : am_tag (CT L) 16 = 20 := rfl
theorem ln_16 {L : Nat} : am_len (CT L) 16 = 16 := rfl
theorem tg_17 {L : Nat} : am_tag (CT L) 17 = 20 := rfl
theorem ln_17 {L : Nat} : am_len (CT L) 17 = 16 := rfl
theorem tg_18 {L : Nat} : am_tag (CT L) 18 = 20 := rfl
theorem ln_18 {L : Nat} : am_len (CT L) 18 = 16 := rfl
theorem tg_19 {L : Nat} : am_tag (CT L) 19 = 20 := rfl
theorem ln_19 {L : Nat} : am_len (CT L) 19 = 16 := rfl
theorem tg_20 {L : Nat} : am_tag (CT L) 20 = 20 := rfl
theorem ln_20 {L : Nat} : am_len (CT L) 20 = 10 := rfl
theorem tg_21 {L : Nat} : am_tag (CT L) 21 = 30 := rfl
theorem ln_21 {L : Nat} : am_len (CT L) 21 = 3 := rfl
theorem tg_22 {L : Nat} : am_tag (CT L) 22 = 20 := rfl
theorem ln_22 {L : Nat} : am_len (CT L) 22 = 16 := rfl
theorem tg_23 {L : Nat} : am_tag (CT L) 23 = 20 := rfl
theorem ln_23 {L : Nat} : am_len (CT L) 23 = 16 := rfl
theorem tg_24 {L : Nat} : am_tag (CT L) 24 = 20 := rfl
theorem ln_24 {L : Nat} : am_len (CT L) 24 = 16 := rfl
theorem tg_25 {L : Nat} : am_tag (CT L) 25 = 20 := rfl
theorem ln_25 {L : Nat} : am_len (CT L) 25 = 6 := rfl
theorem tg_26 {L : Nat} : am_tag (CT L) 26 = 31 := rfl
theorem ln_26 {L : Nat} : am_len (CT L) 26 = 8 := rfl
theorem tg_27 {L : Nat} : am_tag (CT L) 27 = 6 := rfl
theorem ln_27 {L : Nat} : am_len (CT L) 27 = 5 := rfl
theorem tg_28 {L : Nat} : am_tag (CT L) 28 = 20 := rfl
theorem ln_28 {L : Nat} : am_len (CT L) 28 = 16 := rfl
theorem tg_29 {L : Nat} : am_tag (CT L) 29 = 20 := rfl
theorem ln_29 {L : Nat} : am_len (CT L) 29 = 16 := rfl
theorem tg_30 {L : Nat} : am_tag (CT L) 30 = 20 := rfl
theorem ln_30 {L : Nat} : am_len (CT L) 30 = 16 := rfl
theorem tg_31 {L : Nat} : am_tag (CT L) 31 = 20 := rfl
theorem ln_31 {L : Nat} : am_len (CT L) 31 = 16 := rfl
theorem tg_32 {L : Nat} : am_tag (CT L) 32 = 20 := rfl
theorem ln_32 {L : Nat} : am_len (CT L) 32 = 16 := rfl
theorem tg_33 {L : Nat} : am_tag (CT L) 33 = 7 := rfl
theorem ln_33 {L : Nat} : am_len (CT L) 33 = 3 := rfl
theorem tg_34 {L : Nat} : am_tag (CT L) 34 = 22 := rfl
theorem ln_34 {L : Nat} : am_len (CT L) 34 = 120 := rfl
theorem tg_35 {L : Nat} : am_tag (CT L) 35 = 1 := rfl
theorem ln_35 {L : Nat} : am_len (CT L) 35 = 4 := rfl
theorem tg_36 {L : Nat} : am_tag (CT L) 36 = 20 := rfl
theorem ln_36 {L : Nat} : am_len (CT L) 36 = 16 := rfl
theorem tg_37 {L : Nat} : am_tag (CT L) 37 = 20 := rfl
theorem ln_37 {L : Nat} : am_len (CT L) 37 = 12 := rfl
theorem tg_38 {L : Nat} : am_tag (CT L) 38 = 21 := rfl
theorem ln_38 {L : Nat} : am_len (CT L) 38 = 12 := rfl
theorem tg_39 {L : Nat} : am_tag (CT L) 39 = 3 := rfl
theorem ln_39 {L : Nat} : am_len (CT L) 39 = 4 := rfl
theorem tg_40 {L : Nat} : am_tag (CT L) 40 = 20 := rfl
theorem ln_40 {L : Nat} : am_len (CT L) 40 = 24 := rfl
theorem tg_41 {L : Nat} : am_tag (CT L) 41 = 20 := rfl
theorem ln_41 {L : Nat} : am_len (CT L) 41 = 24 := rfl
theorem tg_42 {L : Nat} : am_tag (CT L) 42 = 2 := rfl
theorem ln_42 {L : Nat} : am_len (CT L) 42 = 1 := rfl
theorem tg_43 {L : Nat} : am_tag (CT L) 43 = 30 := rfl
theorem ln_43 {L : Nat} : am_len (CT L) 43 = 8 := rfl
theorem tg_44 {L : Nat} : am_tag (CT L) 44 = 20 := rfl
theorem ln_44 {L : Nat} : am_len (CT L) 44 = 6 := rfl
theorem tg_45 {L : Nat} : am_tag (CT L) 45 = 20 := rfl
theorem ln_45 {L : Nat} : am_len (CT L) 45 = 6 := rfl
theorem tg_46 {L : Nat} : am_tag (CT L) 46 = 20 := rfl
theorem ln_46 {L : Nat} : am_len (CT L) 46 = 6 := rfl
theorem tg_47 {L : Nat} : am_tag (CT L) 47 = 20 := rfl
theorem ln_47 {L : Nat} : am_len (CT L) 47 = 6 := rfl
theorem tg_48 {L : Nat} : am_tag (CT L) 48 = 20 := rfl
theorem ln_48 {L : Nat} : am_len (CT L) 48 = 6 := rfl
theorem tg_49 {L : Nat} : am_tag (CT L) 49 = 20 := rfl
theorem ln_49 {L : Nat} : am_len (CT L) 49 = 6 := rfl
theorem tg_50 {L : Nat} : am_tag (CT L) 50 = 20 := rfl
theorem ln_50 {L : Nat} : am_len (CT L) 50 = 6 := rfl
theorem tg_51 {L : Nat} : am_tag (CT L) 51 = 20 := rfl
theorem ln_51 {L : Nat} : am_len (CT L) 51 = 6 := rfl
theorem tg_52 {L : Nat} : am_tag (CT L) 52 = 32 := rfl
theorem ln_52 {L : Nat} : am_len (CT L) 52 = 4 := rfl
theorem tg_53 {L : Nat} : am_tag (CT L) 53 = 0 := rfl
theorem ln_53 {L : Nat} : am_len (CT L) 53 = 6 := rfl
theorem tg_54 {L : Nat} : am_tag (CT L) 54 = 20 := rfl
theorem ln_54 {L : Nat} : am_len (CT L) 54 = 6 := rfl
theorem tg_55 {L : Nat} : am_tag (CT L) 55 = 20 := rfl
theorem ln_55 {L : Nat} : am_len (CT L) 55 = 6 := rfl
theorem tg_56 {L : Nat} : am_tag (CT L) 56 = 20 := rfl
theorem ln_56 {L : Nat} : am_len (CT L) 56 = 6 := rfl
theorem tg_57 {L : Nat} : am_tag (CT L) 57 = 20 := rfl
theorem ln_57 {L : Nat} : am_len (CT L) 57 = 120 := rfl
theorem tg_58 {L : Nat} : am_tag (CT L) 58 = 0 := rfl
theorem ln_58 {L : Nat} : am_len (CT L) 58 = 6 := rfl
theorem tg_59 {L : Nat} : am_tag (CT L) 59 = 20 := rfl
theorem ln_59 {L : Nat} : am_len (CT L) 59 = 6 := rfl
theorem tg_60 {L : Nat} : am_tag (CT L) 60 = 20 := rfl
theorem ln_60 {L : Nat} : am_len (CT L) 60 = 6 := rfl
theorem tg_61 {L : Nat} : am_tag (CT L) 61 = 20 := rfl
theorem ln_61 {L : Nat} : am_len (CT L) 61 = 6 := rfl
theorem tg_62 {L : Nat} : am_tag (CT L) 62 = 20 := rfl
theorem ln_62 {L : Nat} : am_len (CT L) 62 = 120 := rfl
theorem tg_63 {L : Nat} : am_tag (CT L) 63 = 4 := rfl
theorem ln_63 {L : Nat} : am_len (CT L) 63 = 7 := rfl
theorem tg_64 {L : Nat} : am_tag (CT L) 64 = 6 := rfl
theorem ln_64 {L : Nat} : am_len (CT L) 64 = 5 := rfl
theorem tg_65 {L : Nat} : am_tag (CT L) 65 = 20 := rfl
theorem ln_65 {L : Nat} : am_len (CT L) 65 = 16 := rfl
theorem tg_66 {L : Nat} : am_tag (CT L) 66 = 20 := rfl
theorem ln_66 {L : Nat} : am_len (CT L) 66 = 16 := rfl
theorem tg_67 {L : Nat} : am_tag (CT L) 67 = 20 := rfl
theorem ln_67 {L : Nat} : am_len (CT L) 67 = 16 := rfl
theorem tg_68 {L : Nat} : am_tag (CT L) 68 = 20 := rfl
theorem ln_68 {L : Nat} : am_len (CT L) 68 = 16 := rfl
theorem tg_69 {L : Nat} : am_tag (CT L) 69 = 20 := rfl
theorem ln_69 {L : Nat} : am_len (CT L) 69 = 16 := rfl
theorem tg_70 {L : Nat} : am_tag (CT L) 70 = 4 := rfl
theorem ln_70 {L : Nat} : am_len (CT L) 70 = 7 := rfl
theorem tg_71 {L : Nat} : am_tag (CT L) 71 = 6 := rfl
theorem ln_71 {L : Nat} : am_len (CT L) 71 = 5 := rfl
theorem tg_72 {L : Nat} : am_tag (CT L) 72 = 20 := rfl
theorem ln_72 {L : Nat} : am_len (CT L) 72 = 16 := rfl
theorem tg_73 {L : Nat} : am_tag (CT L) 73 = 20 := rfl
theorem ln_73 {L : Nat} : am_len (CT L) 73 = 16 := rfl
theorem tg_74 {L : Nat} : am_tag (CT L) 74 = 20 := rfl
theorem ln_74 {L : Nat} : am_len (CT L) 74 = 16 := rfl
theorem tg_75 {L : Nat} : am_tag (CT L) 75 = 20 := rfl
theorem ln_75 {L : Nat} : am_len (CT L) 75 = 16 := rfl
theorem tg_76 {L : Nat} : am_tag (CT L) 76 = 20 := rfl
theorem ln_76 {L : Nat} : am_len (CT L) 76 = 16 := rfl
theorem tg_77 {L : Nat} : am_tag (CT L) 77 = 4 := rfl
theorem ln_77 {L : Nat} : am_len (CT L) 77 = 7 := rfl
theorem tg_78 {L : Nat} : am_tag (CT L) 78 = 6 := rfl
theorem ln_78 {L : Nat} : am_len (CT L) 78 = 5 := rfl
theorem tg_79 {L : Nat} : am_tag (CT L) 79 = 20 := rfl
theorem ln_79 {L : Nat} : am_len (CT L) 79 = 16 := rfl
theorem tg_80 {L : Nat} : am_tag (CT L) 80 = 20 := rfl
theorem ln_80 {L : Nat} : am_len (CT L) 80 = 16 := rfl
theorem tg_81 {L : Nat} : am_tag (CT L) 81 = 20 := rfl
theorem ln_81 {L : Nat} : am_len (CT L) 81 = 16 := rfl
theorem tg_82 {L : Nat} : am_tag (CT L) 82 = 20 := rfl
theorem ln_82 {L : Nat} : am_len (CT L) 82 = 16 := rfl
theorem tg_83 {L : Nat} : am_tag (CT L) 83 = 20 := rfl
theorem ln_83 {L : Nat} : am_len (CT L) 83 = 16 := rfl
theorem tg_84 {L : Nat} : am_tag (CT L) 84 = 4 := rfl
theorem ln_84 {L : Nat} : am_len (CT L) 84 = 7 := rfl
theorem tg_85 {L : Nat} : am_tag (CT L) 85 = 6 := rfl
theorem ln_85 {L : Nat} : am_len (CT L) 85 = 5 := rfl
theorem tg_86 {L : Nat} : am_tag (CT L) 86 = 20 := rfl
theorem ln_86 {L : Nat} : am_len (CT L) 86 = 16 := rfl
theorem tg_87 {L : Nat} : am_tag (CT L) 87 = 20 := rfl
theorem ln_87 {L : Nat} : am_len (CT L) 87 = 16 := rfl
theorem tg_88 {L : Nat} : am_tag (CT L) 88 = 20 := rfl
theorem ln_88 {L : Nat} : am_len (CT L) 88 = 16 := rfl
theorem tg_89 {L : Nat} : am_tag (CT L) 89 = 20 := rfl
theorem ln_89 {L : Nat} : am_len (CT L) 89 = 16 := rfl
theorem tg_90 {L : Nat} : am_tag (CT L) 90 = 20 := rfl
theorem ln_90 {L : Nat} : am_len (CT L) 90 = 16 := rfl
theorem tg_91 {L : Nat} : am_tag (CT L) 91 = 4 := rfl
theorem ln_91 {L : Nat} : am_len (CT L) 91 = 7 := rfl
theorem tg_92 {L : Nat} : am_tag (CT L) 92 = 6 := rfl
theorem ln_92 {L : Nat} : am_len (CT L) 92 = 5 := rfl
theorem tg_93 {L : Nat} : am_tag (CT L) 93 = 20 := rfl
theorem ln_93 {L : Nat} : am_len (CT L) 93 = 16 := rfl
theorem tg_94 {L : Nat} : am_tag (CT L) 94 = 20 := rfl
theorem ln_94 {L : Nat} : am_len (CT L) 94 = 16 := rfl
theorem tg_95 {L : Nat} : am_tag (CT L) 95 = 20 := rfl
theorem ln_95 {L : Nat} : am_len (CT L) 95 = 16 := rfl
theorem tg_96 {L : Nat} : am_tag (CT L) 96 = 20 := rfl
theorem ln_96 {L : Nat} : am_len (CT L) 96 = 16 := rfl
theorem tg_97 {L : Nat} : am_tag (CT L) 97 = 20 := rfl
theorem ln_97 {L : Nat} : am_len (CT L) 97 = 16 := rfl
theorem tg_98 {L : Nat} : am_tag (CT L) 98 = 4 := rfl
theorem ln_98 {L : Nat} : am_len (CT L) 98 = 7 := rfl
theorem tg_99 {L : Nat} : am_tag (CT L) 99 = 6 := rfl
theorem ln_99 {L : Nat} : am_len (CT L) 99 = 5 := rfl
theorem tg_100 {L : Nat} : am_tag (CT L) 100 = 20 := rfl
theorem ln_100 {L : Nat} : am_len (CT L) 100 = 16 := rfl
theorem tg_101 {L : Nat} : am_tag (CT L) 101 = 20 := rfl
theorem ln_101 {L : Nat} : am_len (CT L) 101 = 16 := rfl
theorem tg_102 {L : Nat} : am_tag (CT L) 102 = 20 := rfl
theorem ln_102 {L : Nat} : am_len (CT L) 102 = 16 := rfl
theorem tg_103 {L : Nat} : am_tag (CT L) 103 = 20 := rfl
theorem ln_103 {L : Nat} : am_len (CT L) 103 = 16 := rfl
theorem tg_104 {L : Nat} : am_tag (CT L) 104 = 20 := rfl
theorem ln_104 {L : Nat} : am_len (CT L) 104 = 16 := rfl
theorem tg_105 {L : Nat} : am_tag (CT L) 105 = 4 := rfl
theorem ln_105 {L : Nat} : am_len (CT L) 105 = 7 := rfl
theorem tg_106 {L : Nat} : am_tag (CT L) 106 = 6 := rfl
theorem ln_106 {L : Nat} : am_len (CT L) 106 = 5 := rfl
theorem tg_107 {L : Nat} : am_tag (CT L) 107 = 20 := rfl
theorem ln_107 {L : Nat} : am_len (CT L) 107 = 16 := rfl
theorem tg_108 {L : Nat} : am_tag (CT L) 108 = 20 := rfl
theorem ln_108 {L : Nat} : am_len (CT L) 108 = 16 := rfl
theorem tg_109 {L : Nat} : am_tag (CT L) 109 = 20 := rfl
theorem ln_109 {L : Nat} : am_len (CT L) 109 = 16 := rfl
theorem tg_110 {L : Nat} : am_tag (CT L) 110 = 20 := rfl
theorem ln_110 {L : Nat} : am_len (CT L) 110 = 16 := rfl
theorem tg_111 {L : Nat} : am_tag (CT L) 111 = 20 := rfl
theorem ln_111 {L : Nat} : am_len (CT L) 111 = 16 := rfl
theorem tg_112 {L : Nat} : am_tag (CT L) 112 = 4 := rfl
theorem ln_112 {L : Nat} : am_len (CT L) 112 = 7 := rfl
theorem tg_113 {L : Nat} : am_tag (CT L) 113 = 6 := rfl
theorem ln_113 {L : Nat} : am_len (CT L) 113 = 5 := rfl
theorem tg_114 {L : Nat} : am_tag (CT L) 114 = 20 := rfl
theorem ln_114 {L : Nat} : am_len (CT L) 114 = 16 := rfl
theorem tg_115 {L : Nat} : am_tag (CT L) 115 = 20 := rfl
theorem ln_115 {L : Nat} : am_len (CT L) 115 = 16 := rfl
theorem tg_116 {L : Nat} : am_tag (CT L) 116 = 20 := rfl
theorem ln_116 {L : Nat} : am_len (CT L) 116 = 16 := rfl
theorem tg_117 {L : Nat} : am_tag (CT L) 117 = 20 := rfl
theorem ln_117 {L : Nat} : am_len (CT L) 117 = 16 := rfl
theorem tg_118 {L : Nat} : am_tag (CT L) 118 = 20 := rfl
theorem ln_118 {L : Nat} : am_len (CT L) 118 = 16 := rfl
theorem tg_119 {L : Nat} : am_tag (CT L) 119 = 5 := rfl
theorem ln_119 {L : Nat} : am_len (CT L) 119 = 3 := rfl
theorem tg_120 {L : Nat} : am_tag (CT L) 120 = 20 := rfl
theorem ln_120 {L : Nat} : am_len (CT L) 120 = 32 := rfl
theorem tg_121 {L : Nat} : am_tag (CT L) 121 = 5 := rfl
theorem ln_121 {L : Nat} : am_len (CT L) 121 = 3 := rfl
theorem tg_122 {L : Nat} : am_tag (CT L) 122 = 20 := rfl
theorem ln_122 {L : Nat} : am_len (CT L) 122 = 32 := rfl
theorem tg_123 {L : Nat} : am_tag (CT L) 123 = 5 := rfl
theorem ln_123 {L : Nat} : am_len (CT L) 123 = 3 := rfl
theorem tg_124 {L : Nat} : am_tag (CT L) 124 = 20 := rfl
theorem ln_124 {L : Nat} : am_len (CT L) 124 = 32 := rfl
theorem tg_125 {L : Nat} : am_tag (CT L) 125 = 5 := rfl
theorem ln_125 {L : Nat} : am_len (CT L) 125 = 3 := rfl
theorem tg_126 {L : Nat} : am_tag (CT L) 126 = 20 := rfl
theorem ln_126 {L : Nat} : am_len (CT L) 126 = 32 := rfl
theorem tg_127 {L : Nat} : am_tag (CT L) 127 = 10 := rfl
theorem ln_127 {L : Nat} : am_len (CT L) 127 = 50 := rfl
theorem tg_128 {L : Nat} : am_tag (CT L) 128 = 20 := rfl
theorem ln_128 {L : Nat} : am_len (CT L) 128 = 48 := rfl
theorem tg_129 {L : Nat} : am_tag (CT L) 129 = 20 := rfl
theorem ln_129 {L : Nat} : am_len (CT L) 129 = 80 := rfl
theorem tg_130 {L : Nat} : am_tag (CT L) 130 = 20 := rfl
theorem ln_130 {L : Nat} : am_len (CT L) 130 = 8 := rfl
theorem tg_131 {L : Nat} : am_tag (CT L) 131 = 20 := rfl
theorem ln_131 {L : Nat} : am_len (CT L) 131 = 8 := rfl
theorem tg_132 {L : Nat} : am_tag (CT L) 132 = 20 := rfl
theorem ln_132 {L : Nat} : am_len (CT L) 132 = 8 := rfl
theorem tg_133 {L : Nat} : am_tag (CT L) 133 = 20 := rfl
theorem ln_133 {L : Nat} : am_len (CT L) 133 = 8 := rfl
theorem tg_134 {L : Nat} : am_tag (CT L) 134 = 21 := rfl
theorem ln_134 {L : Nat} : am_len (CT L) 134 = 8 := rfl
theorem tg_135 {L : Nat} : am_tag (CT L) 135 = 20 := rfl
theorem ln_135 {L : Nat} : am_len (CT L) 135 = 8 := rfl
theorem tg_136 {L : Nat} : am_tag (CT L) 136 = 20 := rfl
theorem ln_136 {L : Nat} : am_len (CT L) 136 = 10 := rfl
theorem tg_137 {L : Nat} : am_tag (CT L) 137 = 20 := rfl
theorem ln_137 {L : Nat} : am_len (CT L) 137 = 128 := rfl
theorem tg_138 {L : Nat} : am_tag (CT L) 138 = 20 := rfl
theorem ln_138 {L : Nat} : am_len (CT L) 138 = 128 := rfl
theorem tg_139 {L : Nat} : am_tag (CT L) 139 = 20 := rfl
theorem ln_139 {L : Nat} : am_len (CT L) 139 = 128 := rfl
theorem tg_140 {L : Nat} : am_tag (CT L) 140 = 20 := rfl
theorem ln_140 {L : Nat} : am_len (CT L) 140 = 128 := rfl
theorem tg_141 {L : Nat} : am_tag (CT L) 141 = 20 := rfl
theorem ln_141 {L : Nat} : am_len (CT L) 141 = 128 := rfl
theorem tg_142 {L : Nat} : am_tag (CT L) 142 = 21 := rfl
theorem ln_142 {L : Nat} : am_len (CT L) 142 = 16 := rfl
theorem tg_143 {L : Nat} : am_tag (CT L) 143 = 20 := rfl
theorem ln_143 {L : Nat} : am_len (CT L) 143 = 16 := rfl
theorem tg_144 {L : Nat} : am_tag (CT L) 144 = 20 := rfl
theorem ln_144 {L : Nat} : am_len (CT L) 144 = 16 := rfl
theorem tg_145 {L : Nat} : am_tag (CT L) 145 = 20 := rfl
theorem ln_145 {L : Nat} : am_len (CT L) 145 = 640 := rfl
theorem tg_146 {L : Nat} : am_tag (CT L) 146 = 20 := rfl
theorem ln_146 {L : Nat} : am_len (CT L) 146 = 8 := rfl
theorem tg_147 {L : Nat} : am_tag (CT L) 147 = 20 := rfl
theorem ln_147 {L : Nat} : am_len (CT L) 147 = 120 := rfl
theorem tg_148 {L : Nat} : am_tag (CT L) 148 = 20 := rfl
theorem ln_148 {L : Nat} : am_len (CT L) 148 = 120 := rfl
theorem tg_149 {L : Nat} : am_tag (CT L) 149 = 20 := rfl
theorem ln_149 {L : Nat} : am_len (CT L) 149 = 120 := rfl
theorem tg_150 {L : Nat} : am_tag (CT L) 150 = 21 := rfl
theorem ln_150 {L : Nat} : am_len (CT L) 150 = 6 := rfl
theorem tg_151 {L : Nat} : am_tag (CT L) 151 = 21 := rfl
theorem ln_151 {L : Nat} : am_len (CT L) 151 = 6 := rfl
theorem tg_152 {L : Nat} : am_tag (CT L) 152 = 21 := rfl
theorem ln_152 {L : Nat} : am_len (CT L) 152 = 6 := rfl
theorem tg_153 {L : Nat} : am_tag (CT L) 153 = 20 := rfl
theorem ln_153 {L : Nat} : am_len (CT L) 153 = 12 := rfl
theorem tg_154 {L : Nat} : am_tag (CT L) 154 = 20 := rfl
theorem ln_154 {L : Nat} : am_len (CT L) 154 = 12 := rfl
theorem tg_155 {L : Nat} : am_tag (CT L) 155 = 20 := rfl
theorem ln_155 {L : Nat} : am_len (CT L) 155 = 12 := rfl
theorem tg_156 {L : Nat} : am_tag (CT L) 156 = 20 := rfl
theorem ln_156 {L : Nat} : am_len (CT L) 156 = 12 := rfl
theorem tg_157 {L : Nat} : am_tag (CT L) 157 = 21 := rfl
theorem ln_157 {L : Nat} : am_len (CT L) 157 = 12 := rfl
theorem tg_158 {L : Nat} : am_tag (CT L) 158 = 20 := rfl
theorem ln_158 {L : Nat} : am_len (CT L) 158 = 48 := rfl
theorem tg_159 {L : Nat} : am_tag (CT L) 159 = 20 := rfl
theorem ln_159 {L : Nat} : am_len (CT L) 159 = 4 := rfl
theorem tg_160 {L : Nat} : am_tag (CT L) 160 = 20 := rfl
theorem ln_160 {L : Nat} : am_len (CT L) 160 = 4 := rfl
theorem tg_161 {L : Nat} : am_tag (CT L) 161 = 20 := rfl
theorem ln_161 {L : Nat} : am_len (CT L) 161 = 128 := rfl
theorem tg_162 {L : Nat} : am_tag (CT L) 162 = 20 := rfl
theorem ln_162 {L : Nat} : am_len (CT L) 162 = 32 := rfl
theorem ib_1 {L p : Nat} (h : p < 5) : inb (nI p) (am_len (CT L) 1) := (nI_in h (by decide) : inb (nI p) 5)
theorem ib_2 {L p : Nat} (h : p < 4) : inb (nI p) (am_len (CT L) 2) := (nI_in h (by decide) : inb (nI p) 4)
theorem ib_3 {L p : Nat} (h : p < 3) : inb (nI p) (am_len (CT L) 3) := (nI_in h (by decide) : inb (nI p) 3)
theorem ib_8 {L p : Nat} (h : p < 4) : inb (nI p) (am_len (CT L) 8) := (nI_in h (by decide) : inb (nI p) 4)
theorem ib_9 {L p : Nat} (h : p < 3) : inb (nI p) (am_len (CT L) 9) := (nI_in h (by decide) : inb (nI p) 3)
theorem ib_10 {L p : Nat} (h : p < 10) : inb (nI p) (am_len (CT L) 10) := (nI_in h (by decide) : inb (nI p) 10)
theorem ib_11 {L p : Nat} (h : p < 3) : inb (nI p) (am_len (CT L) 11) := (nI_in h (by decide) : inb (nI p) 3)
theorem ib_14 {L p : Nat} (h : p < 5) : inb (nI p) (am_len (CT L) 14) := (nI_in h (by decide) : inb (nI p) 5)
theorem ib_15 {L p : Nat} (h : p < 16) : inb (nI p) (am_len (CT L) 15) := (nI_in h (by decide) : inb (nI p) 16)
theorem ib_16 {L p : Nat} (h : p < 16) : inb (nI p) (am_len (CT L) 16) := (nI_in h (by decide) : inb (nI p) 16)
theorem ib_17 {L p : Nat} (h : p < 16) : inb (nI p) (am_len (CT L) 17) := (nI_in h (by decide) : inb (nI p) 16)
theorem ib_18 {L p : Nat} (h : p < 16) : inb (nI p) (am_len (CT L) 18) := (nI_in h (by decide) : inb (nI p) 16)
theorem ib_19 {L p : Nat} (h : p < 16) : inb (nI p) (am_len (CT L) 19) := (nI_in h (by decide) : inb (nI p) 16)
theorem ib_20 {L p : Nat} (h : p < 10) : inb (nI p) (am_len (CT L) 20) := (nI_in h (by decide) : inb (nI p) 10)
theorem ib_21 {L p : Nat} (h : p < 3) : inb (nI p) (am_len (CT L) 21) := (nI_in h (by decide) : inb (nI p) 3)
theorem ib_22 {L p : Nat} (h : p < 16) : inb (nI p) (am_len (CT L) 22) := (nI_in h (by decide) : inb (nI p) 16)
theorem ib_23 {L p : Nat} (h : p < 16) : inb (nI p) (am_len (CT L) 23) := (nI_in h (by decide) : inb (nI p) 16)
theorem ib_24 {L p : Nat} (h : p < 16) : inb (nI p) (am_len (CT L) 24) := (nI_in h (by decide) : inb (nI p) 16)
theorem ib_25 {L p : Nat} (h : p < 6) : inb (nI p) (am_len (CT L) 25) := (nI_in h (by decide) : inb (nI p) 6)
theorem ib_26 {L p : Nat} (h : p < 8) : inb (nI p) (am_len (CT L) 26) := (nI_in h (by decide) : inb (nI p) 8)
theorem ib_28 {L p : Nat} (h : p < 16) : inb (nI p) (am_len (CT L) 28) := (nI_in h (by decide) : inb (nI p) 16)
theorem ib_29 {L p : Nat} (h : p < 16) : inb (nI p) (am_len (CT L) 29) := (nI_in h (by decide) : inb (nI p) 16)
theorem ib_30 {L p : Nat} (h : p < 16) : inb (nI p) (am_len (CT L) 30) := (nI_in h (by decide) : inb (nI p) 16)
theorem ib_31 {L p : Nat} (h : p < 16) : inb (nI p) (am_len (CT L) 31) := (nI_in h (by decide) : inb (nI p) 16)
theorem ib_32 {L p : Nat} (h : p < 16) : inb (nI p) (am_len (CT L) 32) := (nI_in h (by decide) : inb (nI p) 16)
theorem ib_34 {L p : Nat} (h : p < 120) : inb (nI p) (am_len (CT L) 34) := (nI_in h (by decide) : inb (nI p) 120)
theorem ib_36 {L p : Nat} (h : p < 16) : inb (nI p) (am_len (CT L) 36) := (nI_in h (by decide) : inb (nI p) 16)
theorem ib_37 {L p : Nat} (h : p < 12) : inb (nI p) (am_len (CT L) 37) := (nI_in h (by decide) : inb (nI p) 12)
theorem ib_38 {L p : Nat} (h : p < 12) : inb (nI p) (am_len (CT L) 38) := (nI_in h (by decide) : inb (nI p) 12)
theorem ib_40 {L p : Nat} (h : p < 24) : inb (nI p) (am_len (CT L) 40) := (nI_in h (by decide) : inb (nI p) 24)
theorem ib_41 {L p : Nat} (h : p < 24) : inb (nI p) (am_len (CT L) 41) := (nI_in h (by decide) : inb (nI p) 24)
theorem ib_43 {L p : Nat} (h : p < 8) : inb (nI p) (am_len (CT L) 43) := (nI_in h (by decide) : inb (nI p) 8)
theorem ib_44 {L p : Nat} (h : p < 6) : inb (nI p) (am_len (CT L) 44) := (nI_in h (by decide) : inb (nI p) 6)
theorem ib_45 {L p : Nat} (h : p < 6) : inb (nI p) (am_len (CT L) 45) := (nI_in h (by decide) : inb (nI p) 6)
theorem ib_46 {L p : Nat} (h : p < 6) : inb (nI p) (am_len (CT L) 46) := (nI_in h (by decide) : inb (nI p) 6)
theorem ib_47 {L p : Nat} (h : p < 6) : inb (nI p) (am_len (CT L) 47) := (nI_in h (by decide) : inb (nI p) 6)
theorem ib_48 {L p : Nat} (h : p < 6) : inb (nI p) (am_len (CT L) 48) := (nI_in h (by decide) : inb (nI p) 6)
theorem ib_49 {L p : Nat} (h : p < 6) : inb (nI p) (am_len (CT L) 49) := (nI_in h (by decide) : inb (nI p) 6)
theorem ib_50 {L p : Nat} (h : p < 6) : inb (nI p) (am_len (CT L) 50) := (nI_in h (by decide) : inb (nI p) 6)
theorem ib_51 {L p : Nat} (h : p < 6) : inb (nI p) (am_len (CT L) 51) := (nI_in h (by decide) : inb (nI p) 6)
theorem ib_52 {L p : Nat} (h : p < 4) : inb (nI p) (am_len (CT L) 52) := (nI_in h (by decide) : inb (nI p) 4)
theorem ib_54 {L p : Nat} (h : p < 6) : inb (nI p) (am_len (CT L) 54) := (nI_in h (by decide) : inb (nI p) 6)
theorem ib_55 {L p : Nat} (h : p < 6) : inb (nI p) (am_len (CT L) 55) := (nI_in h (by decide) : inb (nI p) 6)
theorem ib_56 {L p : Nat} (h : p < 6) : inb (nI p) (am_len (CT L) 56) := (nI_in h (by decide) : inb (nI p) 6)
theorem ib_57 {L p : Nat} (h : p < 120) : inb (nI p) (am_len (CT L) 57) := (nI_in h (by decide) : inb (nI p) 120)
theorem ib_59 {L p : Nat} (h : p < 6) : inb (nI p) (am_len (CT L) 59) := (nI_in h (by decide) : inb (nI p) 6)
theorem ib_60 {L p : Nat} (h : p < 6) : inb (nI p) (am_len (CT L) 60) := (nI_in h (by decide) : inb (nI p) 6)
theorem ib_61 {L p : Nat} (h : p < 6) : inb (nI p) (am_len (CT L) 61) := (nI_in h (by decide) : inb (nI p) 6)
theorem ib_62 {L p : Nat} (h : p < 120) : inb (nI p) (am_len (CT L) 62) := (nI_in h (by decide) : inb (nI p) 120)
theorem ib_65 {L p : Nat} (h : p < 16) : inb (nI p) (am_len (CT L) 65) := (nI_in h (by decide) : inb (nI p) 16)
theorem ib_66 {L p : Nat} (h : p < 16) : inb (nI p) (am_len (CT L) 66) := (nI_in h (by decide) : inb (nI p) 16)
theorem ib_67 {L p : Nat} (h : p < 16) : inb (nI p) (am_len (CT L) 67) := (nI_in h (by decide) : inb (nI p) 16)
theorem ib_68 {L p : Nat} (h : p < 16) : inb (nI p) (am_len (CT L) 68) := (nI_in h (by decide) : inb (nI p) 16)
theorem ib_69 {L p : Nat} (h : p < 16) : inb (nI p) (am_len (CT L) 69) := (nI_in h (by decide) : inb (nI p) 16)
theorem ib_72 {L p : Nat} (h : p < 16) : inb (nI p) (am_len (CT L) 72) := (nI_in h (by decide) : inb (nI p) 16)
theorem ib_73 {L p : Nat} (h : p < 16) : inb (nI p) (am_len (CT L) 73) := (nI_in h (by decide) : inb (nI p) 16)
theorem ib_74 {L p : Nat} (h : p < 16) : inb (nI p) (am_len (CT L) 74) := (nI_in h (by decide) : inb (nI p) 16)
theorem ib_75 {L p : Nat} (h : p < 16) : inb (nI p) (am_len (CT L) 75) := (nI_in h (by decide) : inb (nI p) 16)
theorem ib_76 {L p : Nat} (h : p < 16) : inb (nI p) (am_len (CT L) 76) := (nI_in h (by decide) : inb (nI p) 16)
theorem ib_79 {L p : Nat} (h : p < 16) : inb (nI p) (am_len (CT L) 79) := (nI_in h (by decide) : inb (nI p) 16)
theorem ib_80 {L p : Nat} (h : p < 16) : inb (nI p) (am_len (CT L) 80) := (nI_in h (by decide) : inb (nI p) 16)
theorem ib_81 {L p : Nat} (h : p < 16) : inb (nI p) (am_len (CT L) 81) := (nI_in h (by decide) : inb (nI p) 16)
theorem ib_82 {L p : Nat} (h : p < 16) : inb (nI p) (am_len (CT L) 82) := (nI_in h (by decide) : inb (nI p) 16)
theorem ib_83 {L p : Nat} (h : p < 16) : inb (nI p) (am_len (CT L) 83) := (nI_in h (by decide) : inb (nI p) 16)
theorem ib_86 {L p : Nat} (h : p < 16) : inb (nI p) (am_len (CT L) 86) := (nI_in h (by decide) : inb (nI p) 16)
theorem ib_87 {L p : Nat} (h : p < 16) : inb (nI p) (am_len (CT L) 87) := (nI_in h (by decide) : inb (nI p) 16)
theorem ib_88 {L p : Nat} (h : p < 16) : inb (nI p) (am_len (CT L) 88) := (nI_in h (by decide) : inb (nI p) 16)
theorem ib_89 {L p : Nat} (h : p < 16) : inb (nI p) (am_len (CT L) 89) := (nI_in h (by decide) : inb (nI p) 16)
theorem ib_90 {L p : Nat} (h : p < 16) : inb (nI p) (am_len (CT L) 90) := (nI_in h (by decide) : inb (nI p) 16)
theorem ib_93 {L p : Nat} (h : p < 16) : inb (nI p) (am_len (CT L) 93) := (nI_in h (by decide) : inb (nI p) 16)
theorem ib_94 {L p : Nat} (h : p < 16) : inb (nI p) (am_len (CT L) 94) := (nI_in h (by decide) : inb (nI p) 16)
theorem ib_95 {L p : Nat} (h : p < 16) : inb (nI p) (am_len (CT L) 95) := (nI_in h (by decide) : inb (nI p) 16)
theorem ib_96 {L p : Nat} (h : p < 16) : inb (nI p) (am_len (CT L) 96) := (nI_in h (by decide) : inb (nI p) 16)
theorem ib_97 {L p : Nat} (h : p < 16) : inb (nI p) (am_len (CT L) 97) := (nI_in h (by decide) : inb (nI p) 16)
theorem ib_100 {L p : Nat} (h : p < 16) : inb (nI p) (am_len (CT L) 100) := (nI_in h (by decide) : inb (nI p) 16)
theorem ib_101 {L p : Nat} (h : p < 16) : inb (nI p) (am_len (CT L) 101) := (nI_in h (by decide) : inb (nI p) 16)
theorem ib_102 {L p : Nat} (h : p < 16) : inb (nI p) (am_len (CT L) 102) := (nI_in h (by decide) : inb (nI p) 16)
theorem ib_103 {L p : Nat} (h : p < 16) : inb (nI p) (am_len (CT L) 103) := (nI_in h (by decide) : inb (nI p) 16)
theorem ib_104 {L p : Nat} (h : p < 16) : inb (nI p) (am_len (CT L) 104) := (nI_in h (by decide) : inb (nI p) 16)
theorem ib_107 {L p : Nat} (h : p < 16) : inb (nI p) (am_len (CT L) 107) := (nI_in h (by decide) : inb (nI p) 16)
theorem ib_108 {L p : Nat} (h : p < 16) : inb (nI p) (am_len (CT L) 108) := (nI_in h (by decide) : inb (nI p) 16)
theorem ib_109 {L p : Nat} (h : p < 16) : inb (nI p) (am_len (CT L) 109) := (nI_in h (by decide) : inb (nI p) 16)
theorem ib_110 {L p : Nat} (h : p < 16) : inb (nI p) (am_len (CT L) 110) := (nI_in h (by decide) : inb (nI p) 16)
theorem ib_111 {L p : Nat} (h : p < 16) : inb (nI p) (am_len (CT L) 111) := (nI_in h (by decide) : inb (nI p) 16)
theorem ib_114 {L p : Nat} (h : p < 16) : inb (nI p) (am_len (CT L) 114) := (nI_in h (by decide) : inb (nI p) 16)
theorem ib_115 {L p : Nat} (h : p < 16) : inb (nI p) (am_len (CT L) 115) := (nI_in h (by decide) : inb (nI p) 16)
theorem ib_116 {L p : Nat} (h : p < 16) : inb (nI p) (am_len (CT L) 116) := (nI_in h (by decide) : inb (nI p) 16)
theorem ib_117 {L p : Nat} (h : p < 16) : inb (nI p) (am_len (CT L) 117) := (nI_in h (by decide) : inb (nI p) 16)
theorem ib_118 {L p : Nat} (h : p < 16) : inb (nI p) (am_len (CT L) 118) := (nI_in h (by decide) : inb (nI p) 16)
theorem ib_120 {L p : Nat} (h : p < 32) : inb (nI p) (am_len (CT L) 120) := (nI_in h (by decide) : inb (nI p) 32)
theorem ib_122 {L p : Nat} (h : p < 32) : inb (nI p) (am_len (CT L) 122) := (nI_in h (by decide) : inb (nI p) 32)
theorem ib_124 {L p : Nat} (h : p < 32) : inb (nI p) (am_len (CT L) 124) := (nI_in h (by decide) : inb (nI p) 32)
theorem ib_126 {L p : Nat} (h : p < 32) : inb (nI p) (am_len (CT L) 126) := (nI_in h (by decide) : inb (nI p) 32)
theorem ib_128 {L p : Nat} (h : p < 48) : inb (nI p) (am_len (CT L) 128) := (nI_in h (by decide) : inb (nI p) 48)
theorem ib_129 {L p : Nat} (h : p < 80) : inb (nI p) (am_len (CT L) 129) := (nI_in h (by decide) : inb (nI p) 80)
theorem ib_130 {L p : Nat} (h : p < 8) : inb (nI p) (am_len (CT L) 130) := (nI_in h (by decide) : inb (nI p) 8)
theorem ib_131 {L p : Nat} (h : p < 8) : inb (nI p) (am_len (CT L) 131) := (nI_in h (by decide) : inb (nI p) 8)
theorem ib_132 {L p : Nat} (h : p < 8) : inb (nI p) (am_len (CT L) 132) := (nI_in h (by decide) : inb (nI p) 8)
theorem ib_133 {L p : Nat} (h : p < 8) : inb (nI p) (am_len (CT L) 133) := (nI_in h (by decide) : inb (nI p) 8)
theorem ib_134 {L p : Nat} (h : p < 8) : inb (nI p) (am_len (CT L) 134) := (nI_in h (by decide) : inb (nI p) 8)
theorem ib_135 {L p : Nat} (h : p < 8) : inb (nI p) (am_len (CT L) 135) := (nI_in h (by decide) : inb (nI p) 8)
theorem ib_136 {L p : Nat} (h : p < 10) : inb (nI p) (am_len (CT L) 136) := (nI_in h (by decide) : inb (nI p) 10)
theorem ib_137 {L p : Nat} (h : p < 128) : inb (nI p) (am_len (CT L) 137) := (nI_in h (by decide) : inb (nI p) 128)
theorem ib_138 {L p : Nat} (h : p < 128) : inb (nI p) (am_len (CT L) 138) := (nI_in h (by decide) : inb (nI p) 128)
theorem ib_139 {L p : Nat} (h : p < 128) : inb (nI p) (am_len (CT L) 139) := (nI_in h (by decide) : inb (nI p) 128)
theorem ib_140 {L p : Nat} (h : p < 128) : inb (nI p) (am_len (CT L) 140) := (nI_in h (by decide) : inb (nI p) 128)
theorem ib_141 {L p : Nat} (h : p < 128) : inb (nI p) (am_len (CT L) 141) := (nI_in h (by decide) : inb (nI p) 128)
theorem ib_142 {L p : Nat} (h : p < 16) : inb (nI p) (am_len (CT L) 142) := (nI_in h (by decide) : inb (nI p) 16)
theorem ib_143 {L p : Nat} (h : p < 16) : inb (nI p) (am_len (CT L) 143) := (nI_in h (by decide) : inb (nI p) 16)
theorem ib_144 {L p : Nat} (h : p < 16) : inb (nI p) (am_len (CT L) 144) := (nI_in h (by decide) : inb (nI p) 16)
theorem ib_145 {L p : Nat} (h : p < 640) : inb (nI p) (am_len (CT L) 145) := (nI_in h (by decide) : inb (nI p) 640)
theorem ib_146 {L p : Nat} (h : p < 8) : inb (nI p) (am_len (CT L) 146) := (nI_in h (by decide) : inb (nI p) 8)
theorem ib_147 {L p : Nat} (h : p < 120) : inb (nI p) (am_len (CT L) 147) := (nI_in h (by decide) : inb (nI p) 120)
theorem ib_148 {L p : Nat} (h : p < 120) : inb (nI p) (am_len (CT L) 148) := (nI_in h (by decide) : inb (nI p) 120)
theorem ib_149 {L p : Nat} (h : p < 120) : inb (nI p) (am_len (CT L) 149) := (nI_in h (by decide) : inb (nI p) 120)
theorem ib_150 {L p : Nat} (h : p < 6) : inb (nI p) (am_len (CT L) 150) := (nI_in h (by decide) : inb (nI p) 6)
theorem ib_151 {L p : Nat} (h : p < 6) : inb (nI p) (am_len (CT L) 151) := (nI_in h (by decide) : inb (nI p) 6)
theorem ib_152 {L p : Nat} (h : p < 6) : inb (nI p) (am_len (CT L) 152) := (nI_in h (by decide) : inb (nI p) 6)
theorem ib_153 {L p : Nat} (h : p < 12) : inb (nI p) (am_len (CT L) 153) := (nI_in h (by decide) : inb (nI p) 12)
theorem ib_154 {L p : Nat} (h : p < 12) : inb (nI p) (am_len (CT L) 154) := (nI_in h (by decide) : inb (nI p) 12)
theorem ib_155 {L p : Nat} (h : p < 12) : inb (nI p) (am_len (CT L) 155) := (nI_in h (by decide) : inb (nI p) 12)
theorem ib_156 {L p : Nat} (h : p < 12) : inb (nI p) (am_len (CT L) 156) := (nI_in h (by decide) : inb (nI p) 12)
theorem ib_157 {L p : Nat} (h : p < 12) : inb (nI p) (am_len (CT L) 157) := (nI_in h (by decide) : inb (nI p) 12)
theorem ib_158 {L p : Nat} (h : p < 48) : inb (nI p) (am_len (CT L) 158) := (nI_in h (by decide) : inb (nI p) 48)
theorem ib_159 {L p : Nat} (h : p < 4) : inb (nI p) (am_len (CT L) 159) := (nI_in h (by decide) : inb (nI p) 4)
theorem ib_160 {L p : Nat} (h : p < 4) : inb (nI p) (am_len (CT L) 160) := (nI_in h (by decide) : inb (nI p) 4)
theorem ib_161 {L p : Nat} (h : p < 128) : inb (nI p) (am_len (CT L) 161) := (nI_in h (by decide) : inb (nI p) 128)
theorem ib_162 {L p : Nat} (h : p < 32) : inb (nI p) (am_len (CT L) 162) := (nI_in h (by decide) : inb (nI p) 32)
theorem rr_4_0 {b : Bool} : RR b 4 0 = some 8 := rfl
theorem rr_5_0 {b : Bool} : RR b 5 0 = some 9 := rfl
theorem rr_6_0 {b : Bool} : RR b 6 0 = some 10 := rfl
theorem rr_7_0 {b : Bool} : RR b 7 0 = some 11 := rfl
theorem rr_12_0 {b : Bool} : RR b 12 0 = some 13 := rfl
theorem rr_12_1 {b : Bool} : RR b 12 1 = some 26 := rfl
theorem rr_12_2 {b : Bool} : RR b 12 2 = some 27 := rfl
theorem rr_12_3 {b : Bool} : RR b 12 3 = some 33 := rfl
theorem rr_12_4 {b : Bool} : RR b 12 4 = some 35 := rfl
theorem rr_12_5 {b : Bool} : RR b 12 5 = some 39 := rfl
theorem rr_12_6 {b : Bool} : RR b 12 6 = some 42 := rfl
theorem rr_12_7 {b : Bool} : RR b 12 7 = some 52 := rfl
theorem rr_12_8 {b : Bool} : RR b 12 8 = some (if b then 58 else 53) := rfl
theorem rr_12_9 {b : Bool} : RR b 12 9 = some (if b then 53 else 58) := rfl
theorem rr_13_0 {b : Bool} : RR b 13 0 = some 14 := rfl
theorem rr_13_1 {b : Bool} : RR b 13 1 = some 20 := rfl
theorem rr_13_3 {b : Bool} : RR b 13 3 = some 21 := rfl
theorem rr_13_4 {b : Bool} : RR b 13 4 = some 25 := rfl
theorem rr_14_0 {b : Bool} : RR b 14 0 = some 15 := rfl
theorem rr_14_1 {b : Bool} : RR b 14 1 = some 16 := rfl
theorem rr_14_2 {b : Bool} : RR b 14 2 = some 17 := rfl
theorem rr_14_3 {b : Bool} : RR b 14 3 = some 18 := rfl
theorem rr_14_4 {b : Bool} : RR b 14 4 = some 19 := rfl
theorem rr_21_0 {b : Bool} : RR b 21 0 = some 22 := rfl
theorem rr_21_1 {b : Bool} : RR b 21 1 = some 23 := rfl
theorem rr_21_2 {b : Bool} : RR b 21 2 = some 24 := rfl
theorem rr_26_0 {b : Bool} : RR b 26 0 = some 63 := rfl
theorem rr_26_1 {b : Bool} : RR b 26 1 = some 70 := rfl
theorem rr_26_2 {b : Bool} : RR b 26 2 = some 77 := rfl
theorem rr_26_3 {b : Bool} : RR b 26 3 = some 84 := rfl
theorem rr_26_4 {b : Bool} : RR b 26 4 = some 91 := rfl
theorem rr_26_5 {b : Bool} : RR b 26 5 = some 98 := rfl
theorem rr_26_6 {b : Bool} : RR b 26 6 = some 105 := rfl
theorem rr_26_7 {b : Bool} : RR b 26 7 = some 112 := rfl
theorem rr_27_0 {b : Bool} : RR b 27 0 = some 28 := rfl
theorem rr_27_1 {b : Bool} : RR b 27 1 = some 29 := rfl
theorem rr_27_2 {b : Bool} : RR b 27 2 = some 30 := rfl
theorem rr_27_3 {b : Bool} : RR b 27 3 = some 31 := rfl
theorem rr_27_4 {b : Bool} : RR b 27 4 = some 32 := rfl
theorem rr_33_1 {b : Bool} : RR b 33 1 = some 34 := rfl
theorem rr_35_0 {b : Bool} : RR b 35 0 = some 36 := rfl
theorem rr_35_1 {b : Bool} : RR b 35 1 = some 37 := rfl
theorem rr_35_3 {b : Bool} : RR b 35 3 = some 38 := rfl
theorem rr_39_2 {b : Bool} : RR b 39 2 = some 40 := rfl
theorem rr_39_3 {b : Bool} : RR b 39 3 = some 41 := rfl
theorem rr_42_0 {b : Bool} : RR b 42 0 = some 43 := rfl
theorem rr_43_0 {b : Bool} : RR b 43 0 = some 44 := rfl
theorem rr_43_1 {b : Bool} : RR b 43 1 = some 45 := rfl
theorem rr_43_2 {b : Bool} : RR b 43 2 = some 46 := rfl
theorem rr_43_3 {b : Bool} : RR b 43 3 = some 47 := rfl
theorem rr_43_4 {b : Bool} : RR b 43 4 = some 48 := rfl
theorem rr_43_5 {b : Bool} : RR b 43 5 = some 49 := rfl
theorem rr_43_6 {b : Bool} : RR b 43 6 = some 50 := rfl
theorem rr_43_7 {b : Bool} : RR b 43 7 = some 51 := rfl
theorem rr_52_0 {b : Bool} : RR b 52 0 = some 119 := rfl
theorem rr_52_1 {b : Bool} : RR b 52 1 = some 121 := rfl
theorem rr_52_2 {b : Bool} : RR b 52 2 = some 123 := rfl
theorem rr_52_3 {b : Bool} : RR b 52 3 = some 125 := rfl
theorem rr_53_0 {b : Bool} : RR b 53 0 = some 54 := rfl
theorem rr_53_2 {b : Bool} : RR b 53 2 = some 55 := rfl
theorem rr_53_3 {b : Bool} : RR b 53 3 = some 56 := rfl
theorem rr_53_4 {b : Bool} : RR b 53 4 = some 57 := rfl
theorem rr_58_0 {b : Bool} : RR b 58 0 = some 59 := rfl
theorem rr_58_2 {b : Bool} : RR b 58 2 = some 60 := rfl
theorem rr_58_3 {b : Bool} : RR b 58 3 = some 61 := rfl
theorem rr_58_4 {b : Bool} : RR b 58 4 = some 62 := rfl
theorem rr_63_0 {b : Bool} : RR b 63 0 = some 64 := rfl
theorem rr_64_0 {b : Bool} : RR b 64 0 = some 65 := rfl
theorem rr_64_1 {b : Bool} : RR b 64 1 = some 66 := rfl
theorem rr_64_2 {b : Bool} : RR b 64 2 = some 67 := rfl
theorem rr_64_3 {b : Bool} : RR b 64 3 = some 68 := rfl
theorem rr_64_4 {b : Bool} : RR b 64 4 = some 69 := rfl
theorem rr_70_0 {b : Bool} : RR b 70 0 = some 71 := rfl
theorem rr_71_0 {b : Bool} : RR b 71 0 = some 72 := rfl
theorem rr_71_1 {b : Bool} : RR b 71 1 = some 73 := rfl
theorem rr_71_2 {b : Bool} : RR b 71 2 = some 74 := rfl
theorem rr_71_3 {b : Bool} : RR b 71 3 = some 75 := rfl
theorem rr_71_4 {b : Bool} : RR b 71 4 = some 76 := rfl
theorem rr_77_0 {b : Bool} : RR b 77 0 = some 78 := rfl
theorem rr_78_0 {b : Bool} : RR b 78 0 = some 79 := rfl
theorem rr_78_1 {b : Bool} : RR b 78 1 = some 80 := rfl
theorem rr_78_2 {b : Bool} : RR b 78 2 = some 81 := rfl
theorem rr_78_3 {b : Bool} : RR b 78 3 = some 82 := rfl
theorem rr_78_4 {b : Bool} : RR b 78 4 = some 83 := rfl
theorem rr_84_0 {b : Bool} : RR b 84 0 = some 85 := rfl
theorem rr_85_0 {b : Bool} : RR b 85 0 = some 86 := rfl
theorem rr_85_1 {b : Bool} : RR b 85 1 = some 87 := rfl
theorem rr_85_2 {b : Bool} : RR b 85 2 = some 88 := rfl
theorem rr_85_3 {b : Bool} : RR b 85 3 = some 89 := rfl
theorem rr_85_4 {b : Bool} : RR b 85 4 = some 90 := rfl
theorem rr_91_0 {b : Bool} : RR b 91 0 = some 92 := rfl
theorem rr_92_0 {b : Bool} : RR b 92 0 = some 93 := rfl
theorem rr_92_1 {b : Bool} : RR b 92 1 = some 94 := rfl
theorem rr_92_2 {b : Bool} : RR b 92 2 = some 95 := rfl
theorem rr_92_3 {b : Bool} : RR b 92 3 = some 96 := rfl
theorem rr_92_4 {b : Bool} : RR b 92 4 = some 97 := rfl
theorem rr_98_0 {b : Bool} : RR b 98 0 = some 99 := rfl
theorem rr_99_0 {b : Bool} : RR b 99 0 = some 100 := rfl
theorem rr_99_1 {b : Bool} : RR b 99 1 = some 101 := rfl
theorem rr_99_2 {b : Bool} : RR b 99 2 = some 102 := rfl
theorem rr_99_3 {b : Bool} : RR b 99 3 = some 103 := rfl
theorem rr_99_4 {b : Bool} : RR b 99 4 = some 104 := rfl
theorem rr_105_0 {b : Bool} : RR b 105 0 = some 106 := rfl
theorem rr_106_0 {b : Bool} : RR b 106 0 = some 107 := rfl
theorem rr_106_1 {b : Bool} : RR b 106 1 = some 108 := rfl
theorem rr_106_2 {b : Bool} : RR b 106 2 = some 109 := rfl
theorem rr_106_3 {b : Bool} : RR b 106 3 = some 110 := rfl
theorem rr_106_4 {b : Bool} : RR b 106 4 = some 111 := rfl
theorem rr_112_0 {b : Bool} : RR b 112 0 = some 113 := rfl
theorem rr_113_0 {b : Bool} : RR b 113 0 = some 114 := rfl
theorem rr_113_1 {b : Bool} : RR b 113 1 = some 115 := rfl
theorem rr_113_2 {b : Bool} : RR b 113 2 = some 116 := rfl
theorem rr_113_3 {b : Bool} : RR b 113 3 = some 117 := rfl
theorem rr_113_4 {b : Bool} : RR b 113 4 = some 118 := rfl
theorem rr_119_0 {b : Bool} : RR b 119 0 = some 120 := rfl
theorem rr_121_0 {b : Bool} : RR b 121 0 = some 122 := rfl
theorem rr_123_0 {b : Bool} : RR b 123 0 = some 124 := rfl
theorem rr_125_0 {b : Bool} : RR b 125 0 = some 126 := rfl
theorem rr_127_1 {b : Bool} : RR b 127 1 = some 128 := rfl
theorem rr_127_2 {b : Bool} : RR b 127 2 = some 129 := rfl
theorem rr_127_5 {b : Bool} : RR b 127 5 = some 130 := rfl
theorem rr_127_6 {b : Bool} : RR b 127 6 = some 131 := rfl
theorem rr_127_7 {b : Bool} : RR b 127 7 = some 132 := rfl
theorem rr_127_8 {b : Bool} : RR b 127 8 = some 133 := rfl
theorem rr_127_9 {b : Bool} : RR b 127 9 = some 134 := rfl
theorem rr_127_10 {b : Bool} : RR b 127 10 = some 135 := rfl
theorem rr_127_11 {b : Bool} : RR b 127 11 = some 136 := rfl
theorem rr_127_12 {b : Bool} : RR b 127 12 = some 137 := rfl
theorem rr_127_13 {b : Bool} : RR b 127 13 = some 138 := rfl
theorem rr_127_14 {b : Bool} : RR b 127 14 = some 139 := rfl
theorem rr_127_15 {b : Bool} : RR b 127 15 = some 140 := rfl
theorem rr_127_16 {b : Bool} : RR b 127 16 = some 141 := rfl
theorem rr_127_17 {b : Bool} : RR b 127 17 = some 142 := rfl
theorem rr_127_18 {b : Bool} : RR b 127 18 = some 143 := rfl
theorem rr_127_19 {b : Bool} : RR b 127 19 = some 144 := rfl
theorem rr_127_20 {b : Bool} : RR b 127 20 = some 145 := rfl
theorem rr_127_21 {b : Bool} : RR b 127 21 = some 146 := rfl
theorem rr_127_23 {b : Bool} : RR b 127 23 = some 147 := rfl
theorem rr_127_25 {b : Bool} : RR b 127 25 = some 148 := rfl
theorem rr_127_27 {b : Bool} : RR b 127 27 = some 149 := rfl
theorem rr_127_32 {b : Bool} : RR b 127 32 = some 150 := rfl
theorem rr_127_33 {b : Bool} : RR b 127 33 = some 151 := rfl
theorem rr_127_34 {b : Bool} : RR b 127 34 = some 152 := rfl
theorem rr_127_37 {b : Bool} : RR b 127 37 = some 153 := rfl
theorem rr_127_39 {b : Bool} : RR b 127 39 = some 154 := rfl
theorem rr_127_42 {b : Bool} : RR b 127 42 = some 155 := rfl
theorem rr_127_43 {b : Bool} : RR b 127 43 = some 156 := rfl
theorem rr_127_44 {b : Bool} : RR b 127 44 = some 157 := rfl
theorem rr_127_45 {b : Bool} : RR b 127 45 = some 158 := rfl
theorem rr_127_46 {b : Bool} : RR b 127 46 = some 159 := rfl
theorem rr_127_47 {b : Bool} : RR b 127 47 = some 160 := rfl
theorem rr_127_48 {b : Bool} : RR b 127 48 = some 161 := rfl
theorem rr_127_49 {b : Bool} : RR b 127 49 = some 162 := rfl
