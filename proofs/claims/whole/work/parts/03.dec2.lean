theorem dX10_first_43 : decode cX10_first 43 = .ok (.iconst 1, 1) := by decide +kernel
theorem dX10_first_44 : decode cX10_first 44 = .ok (.iload_n 3, 1) := by decide +kernel
theorem dX10_first_45 : decode cX10_first 45 = .ok (.ishl, 1) := by decide +kernel
theorem dX10_first_46 : decode cX10_first 46 = .ok (.ior, 1) := by decide +kernel
theorem dX10_first_47 : decode cX10_first 47 = .ok (.istore_n 2, 1) := by decide +kernel
theorem dX10_first_48 : decode cX10_first 48 = .ok (.iinc 3 1, 3) := by decide +kernel
theorem dX10_first_51 : decode cX10_first 51 = .ok (.goto (-37), 3) := by decide +kernel
theorem dX10_first_54 : decode cX10_first 54 = .ok (.iload_n 2, 1) := by decide +kernel
theorem dX10_first_55 : decode cX10_first 55 = .ok (.ireturn, 1) := by decide +kernel
theorem dX10_posts_0 : decode cX10_posts 0 = .ok (.iload_n 1, 1) := by decide +kernel
theorem dX10_posts_1 : decode cX10_posts 1 = .ok (.iconst 1, 1) := by decide +kernel
theorem dX10_posts_2 : decode cX10_posts 2 = .ok (.if_icmp .lt 16, 3) := by decide +kernel
theorem dX10_posts_5 : decode cX10_posts 5 = .ok (.iload_n 1, 1) := by decide +kernel
theorem dX10_posts_6 : decode cX10_posts 6 = .ok (.iconst 3, 1) := by decide +kernel
theorem dX10_posts_7 : decode cX10_posts 7 = .ok (.if_icmp .gt 11, 3) := by decide +kernel
theorem dX10_posts_10 : decode cX10_posts 10 = .ok (.iload_n 2, 1) := by decide +kernel
theorem dX10_posts_11 : decode cX10_posts 11 = .ok (.iconst 1, 1) := by decide +kernel
theorem dX10_posts_12 : decode cX10_posts 12 = .ok (.invokestatic 75, 3) := by decide +kernel
theorem dX10_posts_15 : decode cX10_posts 15 = .ok (.ifCond .ne 5, 3) := by decide +kernel
theorem dX10_posts_18 : decode cX10_posts 18 = .ok (.iconst (-1), 1) := by decide +kernel
theorem dX10_posts_19 : decode cX10_posts 19 = .ok (.ireturn, 1) := by decide +kernel
theorem dX10_posts_20 : decode cX10_posts 20 = .ok (.iconst 0, 1) := by decide +kernel
theorem dX10_posts_21 : decode cX10_posts 21 = .ok (.istore_n 3, 1) := by decide +kernel
theorem dX10_posts_22 : decode cX10_posts 22 = .ok (.iload_n 3, 1) := by decide +kernel
theorem dX10_posts_23 : decode cX10_posts 23 = .ok (.aload_n 0, 1) := by decide +kernel
theorem dX10_posts_24 : decode cX10_posts 24 = .ok (.getfield 174, 3) := by decide +kernel
theorem dX10_posts_27 : decode cX10_posts 27 = .ok (.if_icmp .ge 77, 3) := by decide +kernel
theorem dX10_posts_30 : decode cX10_posts 30 = .ok (.aload_n 0, 1) := by decide +kernel
theorem dX10_posts_31 : decode cX10_posts 31 = .ok (.getfield 25, 3) := by decide +kernel
theorem dX10_posts_34 : decode cX10_posts 34 = .ok (.aload_n 0, 1) := by decide +kernel
theorem dX10_posts_35 : decode cX10_posts 35 = .ok (.getfield 18, 3) := by decide +kernel
theorem dX10_posts_38 : decode cX10_posts 38 = .ok (.iload_n 3, 1) := by decide +kernel
theorem dX10_posts_39 : decode cX10_posts 39 = .ok (.aaload, 1) := by decide +kernel
theorem dX10_posts_40 : decode cX10_posts 40 = .ok (.getfield 152, 3) := by decide +kernel
theorem dX10_posts_43 : decode cX10_posts 43 = .ok (.invokevirtual 263, 3) := by decide +kernel
theorem dX10_posts_46 : decode cX10_posts 46 = .ok (.aload_n 0, 1) := by decide +kernel
theorem dX10_posts_47 : decode cX10_posts 47 = .ok (.getfield 53, 3) := by decide +kernel
theorem dX10_posts_50 : decode cX10_posts 50 = .ok (.iload_n 3, 1) := by decide +kernel
theorem dX10_posts_51 : decode cX10_posts 51 = .ok (.invokevirtual 267, 3) := by decide +kernel
theorem dX10_posts_54 : decode cX10_posts 54 = .ok (.iconst 0, 1) := by decide +kernel
theorem dX10_posts_55 : decode cX10_posts 55 = .ok (.istore 4, 2) := by decide +kernel
theorem dX10_posts_57 : decode cX10_posts 57 = .ok (.iload 4, 2) := by decide +kernel
theorem dX10_posts_59 : decode cX10_posts 59 = .ok (.bipush 24, 2) := by decide +kernel
theorem dX10_posts_61 : decode cX10_posts 61 = .ok (.if_icmp .ge 37, 3) := by decide +kernel
theorem dX10_posts_64 : decode cX10_posts 64 = .ok (.aload_n 0, 1) := by decide +kernel
theorem dX10_posts_65 : decode cX10_posts 65 = .ok (.getfield 53, 3) := by decide +kernel
theorem dX10_posts_68 : decode cX10_posts 68 = .ok (.iload_n 3, 1) := by decide +kernel
theorem dX10_posts_69 : decode cX10_posts 69 = .ok (.aload_n 0, 1) := by decide +kernel
theorem dX10_posts_70 : decode cX10_posts 70 = .ok (.getfield 10, 3) := by decide +kernel
theorem dX10_posts_73 : decode cX10_posts 73 = .ok (.aload_n 0, 1) := by decide +kernel
theorem dX10_posts_74 : decode cX10_posts 74 = .ok (.getfield 25, 3) := by decide +kernel
theorem dX10_posts_77 : decode cX10_posts 77 = .ok (.aload_n 0, 1) := by decide +kernel
theorem dX10_posts_78 : decode cX10_posts 78 = .ok (.getfield 149, 3) := by decide +kernel
theorem dX10_posts_81 : decode cX10_posts 81 = .ok (.iload 4, 2) := by decide +kernel
theorem dX10_posts_83 : decode cX10_posts 83 = .ok (.iadd, 1) := by decide +kernel
theorem dX10_posts_84 : decode cX10_posts 84 = .ok (.invokevirtual 270, 3) := by decide +kernel
theorem dX10_posts_87 : decode cX10_posts 87 = .ok (.iload 4, 2) := by decide +kernel
theorem dX10_posts_89 : decode cX10_posts 89 = .ok (.invokevirtual 274, 3) := by decide +kernel
theorem dX10_posts_92 : decode cX10_posts 92 = .ok (.iinc 4 1, 3) := by decide +kernel
theorem dX10_posts_95 : decode cX10_posts 95 = .ok (.goto (-38), 3) := by decide +kernel
theorem dX10_posts_98 : decode cX10_posts 98 = .ok (.iinc 3 1, 3) := by decide +kernel
theorem dX10_posts_101 : decode cX10_posts 101 = .ok (.goto (-79), 3) := by decide +kernel
theorem dX10_posts_104 : decode cX10_posts 104 = .ok (.aload_n 0, 1) := by decide +kernel
theorem dX10_posts_105 : decode cX10_posts 105 = .ok (.getfield 53, 3) := by decide +kernel
theorem dX10_posts_108 : decode cX10_posts 108 = .ok (.iload_n 1, 1) := by decide +kernel
theorem dX10_posts_109 : decode cX10_posts 109 = .ok (.aload_n 0, 1) := by decide +kernel
theorem dX10_posts_110 : decode cX10_posts 110 = .ok (.getfield 174, 3) := by decide +kernel
theorem dX10_posts_113 : decode cX10_posts 113 = .ok (.invokevirtual 277, 3) := by decide +kernel
theorem dX10_posts_116 : decode cX10_posts 116 = .ok (.istore_n 3, 1) := by decide +kernel
theorem dX10_posts_117 : decode cX10_posts 117 = .ok (.iload_n 2, 1) := by decide +kernel
theorem dX10_posts_118 : decode cX10_posts 118 = .ok (.ifCond .ne 7, 3) := by decide +kernel
theorem dX10_posts_121 : decode cX10_posts 121 = .ok (.iload_n 3, 1) := by decide +kernel
theorem dX10_posts_122 : decode cX10_posts 122 = .ok (.goto 15, 3) := by decide +kernel
theorem dX10_posts_125 : decode cX10_posts 125 = .ok (.aload_n 0, 1) := by decide +kernel
theorem dX10_posts_126 : decode cX10_posts 126 = .ok (.getfield 53, 3) := by decide +kernel
theorem dX10_posts_129 : decode cX10_posts 129 = .ok (.iload_n 3, 1) := by decide +kernel
theorem dX10_posts_130 : decode cX10_posts 130 = .ok (.aload_n 0, 1) := by decide +kernel
theorem dX10_posts_131 : decode cX10_posts 131 = .ok (.getfield 174, 3) := by decide +kernel
theorem dX10_posts_134 : decode cX10_posts 134 = .ok (.invokevirtual 280, 3) := by decide +kernel
theorem dX10_posts_137 : decode cX10_posts 137 = .ok (.ireturn, 1) := by decide +kernel
theorem dX10_check_0 : decode cX10_check 0 = .ok (.aload_n 0, 1) := by decide +kernel
theorem dX10_check_1 : decode cX10_check 1 = .ok (.iload_n 1, 1) := by decide +kernel
theorem dX10_check_2 : decode cX10_check 2 = .ok (.invokevirtual 116, 3) := by decide +kernel
theorem dX10_check_5 : decode cX10_check 5 = .ok (.ifCond .eq 31, 3) := by decide +kernel
theorem dX10_check_8 : decode cX10_check 8 = .ok (.iload_n 2, 1) := by decide +kernel
theorem dX10_check_9 : decode cX10_check 9 = .ok (.bipush 48, 2) := by decide +kernel
theorem dX10_check_11 : decode cX10_check 11 = .ok (.invokestatic 75, 3) := by decide +kernel
theorem dX10_check_14 : decode cX10_check 14 = .ok (.ifCond .eq 22, 3) := by decide +kernel
theorem dX10_check_17 : decode cX10_check 17 = .ok (.iload_n 3, 1) := by decide +kernel
theorem dX10_check_18 : decode cX10_check 18 = .ok (.invokestatic 283, 3) := by decide +kernel
theorem dX10_check_21 : decode cX10_check 21 = .ok (.ifCond .eq 15, 3) := by decide +kernel
theorem dX10_check_24 : decode cX10_check 24 = .ok (.iload 4, 2) := by decide +kernel
theorem dX10_check_26 : decode cX10_check 26 = .ok (.iconst 1, 1) := by decide +kernel
theorem dX10_check_27 : decode cX10_check 27 = .ok (.if_icmp .eq 11, 3) := by decide +kernel
theorem dX10_check_30 : decode cX10_check 30 = .ok (.iload 4, 2) := by decide +kernel
theorem dX10_check_32 : decode cX10_check 32 = .ok (.iconst 2, 1) := by decide +kernel
theorem dX10_check_33 : decode cX10_check 33 = .ok (.if_icmp .eq 5, 3) := by decide +kernel
theorem dX10_check_36 : decode cX10_check 36 = .ok (.iconst (-1), 1) := by decide +kernel
theorem dX10_check_37 : decode cX10_check 37 = .ok (.ireturn, 1) := by decide +kernel
theorem dX10_check_38 : decode cX10_check 38 = .ok (.aload_n 0, 1) := by decide +kernel
theorem dX10_check_39 : decode cX10_check 39 = .ok (.getfield 59, 3) := by decide +kernel
theorem dX10_check_42 : decode cX10_check 42 = .ok (.iload_n 3, 1) := by decide +kernel
theorem dX10_check_43 : decode cX10_check 43 = .ok (.aaload, 1) := by decide +kernel
theorem dX10_check_44 : decode cX10_check 44 = .ok (.astore 6, 2) := by decide +kernel
theorem dX10_check_46 : decode cX10_check 46 = .ok (.aload 6, 2) := by decide +kernel
theorem dX10_check_48 : decode cX10_check 48 = .ok (.iload 4, 2) := by decide +kernel
theorem dX10_check_50 : decode cX10_check 50 = .ok (.iload 5, 2) := by decide +kernel
theorem dX10_check_52 : decode cX10_check 52 = .ok (.aload_n 0, 1) := by decide +kernel
theorem dX10_check_53 : decode cX10_check 53 = .ok (.getfield 10, 3) := by decide +kernel
theorem dX10_check_56 : decode cX10_check 56 = .ok (.getfield 82, 3) := by decide +kernel
theorem dX10_check_59 : decode cX10_check 59 = .ok (.invokevirtual 286, 3) := by decide +kernel
theorem dX10_check_62 : decode cX10_check 62 = .ok (.istore 7, 2) := by decide +kernel
theorem dX10_check_64 : decode cX10_check 64 = .ok (.iload 7, 2) := by decide +kernel
theorem dX10_check_66 : decode cX10_check 66 = .ok (.ifCond .eq 6, 3) := by decide +kernel
theorem dX10_check_69 : decode cX10_check 69 = .ok (.iload 7, 2) := by decide +kernel
theorem dX10_check_71 : decode cX10_check 71 = .ok (.ireturn, 1) := by decide +kernel
theorem dX10_check_72 : decode cX10_check 72 = .ok (.aload_n 0, 1) := by decide +kernel
theorem dX10_check_73 : decode cX10_check 73 = .ok (.getfield 25, 3) := by decide +kernel
theorem dX10_check_76 : decode cX10_check 76 = .ok (.aload_n 0, 1) := by decide +kernel
theorem dX10_check_77 : decode cX10_check 77 = .ok (.getfield 18, 3) := by decide +kernel
theorem dX10_check_80 : decode cX10_check 80 = .ok (.iload_n 1, 1) := by decide +kernel
theorem dX10_check_81 : decode cX10_check 81 = .ok (.aaload, 1) := by decide +kernel
theorem dX10_check_82 : decode cX10_check 82 = .ok (.getfield 152, 3) := by decide +kernel
theorem dX10_check_85 : decode cX10_check 85 = .ok (.invokevirtual 263, 3) := by decide +kernel
theorem dX10_check_88 : decode cX10_check 88 = .ok (.aload_n 0, 1) := by decide +kernel
theorem dX10_check_89 : decode cX10_check 89 = .ok (.getfield 10, 3) := by decide +kernel
theorem dX10_check_92 : decode cX10_check 92 = .ok (.aload_n 0, 1) := by decide +kernel
theorem dX10_check_93 : decode cX10_check 93 = .ok (.getfield 25, 3) := by decide +kernel
theorem dX10_check_96 : decode cX10_check 96 = .ok (.aload_n 0, 1) := by decide +kernel
theorem dX10_check_97 : decode cX10_check 97 = .ok (.getfield 149, 3) := by decide +kernel
theorem dX10_check_100 : decode cX10_check 100 = .ok (.iload_n 2, 1) := by decide +kernel
theorem dX10_check_101 : decode cX10_check 101 = .ok (.invokevirtual 181, 3) := by decide +kernel
theorem dX10_check_104 : decode cX10_check 104 = .ok (.iconst 0, 1) := by decide +kernel
theorem dX10_check_105 : decode cX10_check 105 = .ok (.istore 8, 2) := by decide +kernel
theorem dX10_check_107 : decode cX10_check 107 = .ok (.iload 8, 2) := by decide +kernel
theorem dX10_check_109 : decode cX10_check 109 = .ok (.aload_n 0, 1) := by decide +kernel
theorem dX10_check_110 : decode cX10_check 110 = .ok (.getfield 10, 3) := by decide +kernel
theorem dX10_check_113 : decode cX10_check 113 = .ok (.getfield 82, 3) := by decide +kernel
theorem dX10_check_116 : decode cX10_check 116 = .ok (.if_icmp .ge 36, 3) := by decide +kernel
theorem dX10_check_119 : decode cX10_check 119 = .ok (.aload 6, 2) := by decide +kernel
theorem dX10_check_121 : decode cX10_check 121 = .ok (.getfield 289, 3) := by decide +kernel
theorem dX10_check_124 : decode cX10_check 124 = .ok (.iload 5, 2) := by decide +kernel
theorem dX10_check_126 : decode cX10_check 126 = .ok (.iload 8, 2) := by decide +kernel
theorem dX10_check_128 : decode cX10_check 128 = .ok (.iadd, 1) := by decide +kernel
theorem dX10_check_129 : decode cX10_check 129 = .ok (.iaload, 1) := by decide +kernel
theorem dX10_check_130 : decode cX10_check 130 = .ok (.aload_n 0, 1) := by decide +kernel
theorem dX10_check_131 : decode cX10_check 131 = .ok (.getfield 25, 3) := by decide +kernel
theorem dX10_check_134 : decode cX10_check 134 = .ok (.getfield 155, 3) := by decide +kernel
theorem dX10_check_137 : decode cX10_check 137 = .ok (.iload 8, 2) := by decide +kernel
theorem dX10_check_139 : decode cX10_check 139 = .ok (.iaload, 1) := by decide +kernel
theorem dX10_check_140 : decode cX10_check 140 = .ok (.if_icmp .eq 6, 3) := by decide +kernel
theorem dX10_check_143 : decode cX10_check 143 = .ok (.iload 8, 2) := by decide +kernel
theorem dX10_check_145 : decode cX10_check 145 = .ok (.ireturn, 1) := by decide +kernel
theorem dX10_check_146 : decode cX10_check 146 = .ok (.iinc 8 1, 3) := by decide +kernel
theorem dX10_check_149 : decode cX10_check 149 = .ok (.goto (-42), 3) := by decide +kernel
theorem dX10_check_152 : decode cX10_check 152 = .ok (.bipush (-4), 2) := by decide +kernel
theorem dX10_check_154 : decode cX10_check 154 = .ok (.ireturn, 1) := by decide +kernel
theorem dX10_sheet_0 : decode cX10_sheet 0 = .ok (.iload_n 1, 1) := by decide +kernel
theorem dX10_sheet_1 : decode cX10_sheet 1 = .ok (.invokestatic 283, 3) := by decide +kernel
theorem dX10_sheet_4 : decode cX10_sheet 4 = .ok (.ifCond .eq 17, 3) := by decide +kernel
theorem dX10_sheet_7 : decode cX10_sheet 7 = .ok (.iload_n 2, 1) := by decide +kernel
theorem dX10_sheet_8 : decode cX10_sheet 8 = .ok (.iconst 2, 1) := by decide +kernel
theorem dX10_sheet_9 : decode cX10_sheet 9 = .ok (.invokestatic 75, 3) := by decide +kernel
theorem dX10_sheet_12 : decode cX10_sheet 12 = .ok (.ifCond .eq 9, 3) := by decide +kernel
theorem dX10_sheet_15 : decode cX10_sheet 15 = .ok (.iload_n 3, 1) := by decide +kernel
theorem dX10_sheet_16 : decode cX10_sheet 16 = .ok (.bipush 32, 2) := by decide +kernel
theorem dX10_sheet_18 : decode cX10_sheet 18 = .ok (.if_icmp .le 5, 3) := by decide +kernel
theorem dX10_sheet_21 : decode cX10_sheet 21 = .ok (.iconst (-1), 1) := by decide +kernel
theorem dX10_sheet_22 : decode cX10_sheet 22 = .ok (.ireturn, 1) := by decide +kernel
theorem dX10_sheet_23 : decode cX10_sheet 23 = .ok (.iload_n 3, 1) := by decide +kernel
theorem dX10_sheet_24 : decode cX10_sheet 24 = .ok (.ifCond .ge 6, 3) := by decide +kernel
theorem dX10_sheet_27 : decode cX10_sheet 27 = .ok (.bipush (-14), 2) := by decide +kernel
theorem dX10_sheet_29 : decode cX10_sheet 29 = .ok (.ireturn, 1) := by decide +kernel
theorem dX10_sheet_30 : decode cX10_sheet 30 = .ok (.aload_n 0, 1) := by decide +kernel
theorem dX10_sheet_31 : decode cX10_sheet 31 = .ok (.getfield 59, 3) := by decide +kernel
theorem dX10_sheet_34 : decode cX10_sheet 34 = .ok (.iload_n 1, 1) := by decide +kernel
theorem dX10_sheet_35 : decode cX10_sheet 35 = .ok (.aaload, 1) := by decide +kernel
theorem dX10_sheet_36 : decode cX10_sheet 36 = .ok (.iload_n 2, 1) := by decide +kernel
theorem dX10_sheet_37 : decode cX10_sheet 37 = .ok (.iload_n 3, 1) := by decide +kernel
theorem dX10_sheet_38 : decode cX10_sheet 38 = .ok (.invokevirtual 292, 3) := by decide +kernel
theorem dX10_sheet_41 : decode cX10_sheet 41 = .ok (.iload_n 3, 1) := by decide +kernel
theorem dX10_sheet_42 : decode cX10_sheet 42 = .ok (.ireturn, 1) := by decide +kernel
theorem dX10_drop_0 : decode cX10_drop 0 = .ok (.iload_n 1, 1) := by decide +kernel
theorem dX10_drop_1 : decode cX10_drop 1 = .ok (.invokestatic 283, 3) := by decide +kernel
theorem dX10_drop_4 : decode cX10_drop 4 = .ok (.ifCond .ne 5, 3) := by decide +kernel
theorem dX10_drop_7 : decode cX10_drop 7 = .ok (.iconst (-1), 1) := by decide +kernel
theorem dX10_drop_8 : decode cX10_drop 8 = .ok (.ireturn, 1) := by decide +kernel
theorem dX10_drop_9 : decode cX10_drop 9 = .ok (.aload_n 0, 1) := by decide +kernel
theorem dX10_drop_10 : decode cX10_drop 10 = .ok (.getfield 59, 3) := by decide +kernel
theorem dX10_drop_13 : decode cX10_drop 13 = .ok (.iload_n 1, 1) := by decide +kernel
theorem dX10_drop_14 : decode cX10_drop 14 = .ok (.aaload, 1) := by decide +kernel
theorem dX10_drop_15 : decode cX10_drop 15 = .ok (.astore_n 2, 1) := by decide +kernel
theorem dX10_drop_16 : decode cX10_drop 16 = .ok (.aload_n 2, 1) := by decide +kernel
theorem dX10_drop_17 : decode cX10_drop 17 = .ok (.invokevirtual 296, 3) := by decide +kernel
theorem dX10_drop_20 : decode cX10_drop 20 = .ok (.ifCond .eq 6, 3) := by decide +kernel
theorem dX10_drop_23 : decode cX10_drop 23 = .ok (.bipush (-11), 2) := by decide +kernel
theorem dX10_drop_25 : decode cX10_drop 25 = .ok (.ireturn, 1) := by decide +kernel
theorem dX10_drop_26 : decode cX10_drop 26 = .ok (.aload_n 2, 1) := by decide +kernel
theorem dX10_drop_27 : decode cX10_drop 27 = .ok (.iconst (-1), 1) := by decide +kernel
theorem dX10_drop_28 : decode cX10_drop 28 = .ok (.putfield 299, 3) := by decide +kernel
theorem dX10_drop_31 : decode cX10_drop 31 = .ok (.aload_n 2, 1) := by decide +kernel
theorem dX10_drop_32 : decode cX10_drop 32 = .ok (.getfield 302, 3) := by decide +kernel
theorem dX10_drop_35 : decode cX10_drop 35 = .ok (.ireturn, 1) := by decide +kernel
theorem dX10_item_0 : decode cX10_item 0 = .ok (.iload_n 1, 1) := by decide +kernel
theorem dX10_item_1 : decode cX10_item 1 = .ok (.invokestatic 283, 3) := by decide +kernel
theorem dX10_item_4 : decode cX10_item 4 = .ok (.ifCond .eq 11, 3) := by decide +kernel
theorem dX10_item_7 : decode cX10_item 7 = .ok (.iload_n 2, 1) := by decide +kernel
theorem dX10_item_8 : decode cX10_item 8 = .ok (.iconst 2, 1) := by decide +kernel
theorem dX10_item_9 : decode cX10_item 9 = .ok (.invokestatic 75, 3) := by decide +kernel
theorem dX10_item_12 : decode cX10_item 12 = .ok (.ifCond .ne 5, 3) := by decide +kernel
theorem dX10_item_15 : decode cX10_item 15 = .ok (.iconst (-1), 1) := by decide +kernel
theorem dX10_item_16 : decode cX10_item 16 = .ok (.ireturn, 1) := by decide +kernel
theorem dX10_item_17 : decode cX10_item 17 = .ok (.aload_n 0, 1) := by decide +kernel
theorem dX10_item_18 : decode cX10_item 18 = .ok (.getfield 59, 3) := by decide +kernel
theorem dX10_item_21 : decode cX10_item 21 = .ok (.iload_n 1, 1) := by decide +kernel
theorem dX10_item_22 : decode cX10_item 22 = .ok (.aaload, 1) := by decide +kernel
theorem dX10_item_23 : decode cX10_item 23 = .ok (.astore 5, 2) := by decide +kernel
theorem dX10_item_25 : decode cX10_item 25 = .ok (.aload 5, 2) := by decide +kernel
theorem dX10_item_27 : decode cX10_item 27 = .ok (.iload_n 2, 1) := by decide +kernel
theorem dX10_item_28 : decode cX10_item 28 = .ok (.iload_n 3, 1) := by decide +kernel
theorem dX10_item_29 : decode cX10_item 29 = .ok (.iconst 1, 1) := by decide +kernel
theorem dX10_item_30 : decode cX10_item 30 = .ok (.invokevirtual 286, 3) := by decide +kernel
theorem dX10_item_33 : decode cX10_item 33 = .ok (.istore 6, 2) := by decide +kernel
theorem dX10_item_35 : decode cX10_item 35 = .ok (.iload 6, 2) := by decide +kernel
theorem dX10_item_37 : decode cX10_item 37 = .ok (.ifCond .eq 6, 3) := by decide +kernel
theorem dX10_item_40 : decode cX10_item 40 = .ok (.iload 6, 2) := by decide +kernel
theorem dX10_item_42 : decode cX10_item 42 = .ok (.ireturn, 1) := by decide +kernel
theorem dX10_item_43 : decode cX10_item 43 = .ok (.aload 5, 2) := by decide +kernel
theorem dX10_item_45 : decode cX10_item 45 = .ok (.getfield 289, 3) := by decide +kernel
theorem dX10_item_48 : decode cX10_item 48 = .ok (.iload_n 3, 1) := by decide +kernel
theorem dX10_item_49 : decode cX10_item 49 = .ok (.iload_n 2, 1) := by decide +kernel
theorem dX10_item_50 : decode cX10_item 50 = .ok (.iload 4, 2) := by decide +kernel
theorem dX10_item_52 : decode cX10_item 52 = .ok (.invokestatic 303, 3) := by decide +kernel
theorem dX10_item_55 : decode cX10_item 55 = .ok (.iastore, 1) := by decide +kernel
theorem dX10_item_56 : decode cX10_item 56 = .ok (.iconst 1, 1) := by decide +kernel
theorem dX10_item_57 : decode cX10_item 57 = .ok (.ireturn, 1) := by decide +kernel
theorem dX10_copy_0 : decode cX10_copy 0 = .ok (.iload_n 1, 1) := by decide +kernel
theorem dX10_copy_1 : decode cX10_copy 1 = .ok (.invokestatic 283, 3) := by decide +kernel
theorem dX10_copy_4 : decode cX10_copy 4 = .ok (.ifCond .eq 10, 3) := by decide +kernel
theorem dX10_copy_7 : decode cX10_copy 7 = .ok (.iload_n 3, 1) := by decide +kernel
theorem dX10_copy_8 : decode cX10_copy 8 = .ok (.invokestatic 283, 3) := by decide +kernel
theorem dX10_copy_11 : decode cX10_copy 11 = .ok (.ifCond .ne 5, 3) := by decide +kernel
theorem dX10_copy_14 : decode cX10_copy 14 = .ok (.iconst (-1), 1) := by decide +kernel
theorem dX10_copy_15 : decode cX10_copy 15 = .ok (.ireturn, 1) := by decide +kernel
theorem dX10_copy_16 : decode cX10_copy 16 = .ok (.aload_n 0, 1) := by decide +kernel
theorem dX10_copy_17 : decode cX10_copy 17 = .ok (.getfield 59, 3) := by decide +kernel
theorem dX10_copy_20 : decode cX10_copy 20 = .ok (.iload_n 1, 1) := by decide +kernel
theorem dX10_copy_21 : decode cX10_copy 21 = .ok (.aaload, 1) := by decide +kernel
theorem dX10_copy_22 : decode cX10_copy 22 = .ok (.astore 6, 2) := by decide +kernel
theorem dX10_copy_24 : decode cX10_copy 24 = .ok (.aload_n 0, 1) := by decide +kernel
theorem dX10_copy_25 : decode cX10_copy 25 = .ok (.getfield 59, 3) := by decide +kernel
theorem dX10_copy_28 : decode cX10_copy 28 = .ok (.iload_n 3, 1) := by decide +kernel
theorem dX10_copy_29 : decode cX10_copy 29 = .ok (.aaload, 1) := by decide +kernel
theorem dX10_copy_30 : decode cX10_copy 30 = .ok (.astore 7, 2) := by decide +kernel
theorem dX10_copy_32 : decode cX10_copy 32 = .ok (.aload 6, 2) := by decide +kernel
theorem dX10_copy_34 : decode cX10_copy 34 = .ok (.invokevirtual 296, 3) := by decide +kernel
theorem dX10_copy_37 : decode cX10_copy 37 = .ok (.ifCond .ne 11, 3) := by decide +kernel
theorem dX10_copy_40 : decode cX10_copy 40 = .ok (.aload 7, 2) := by decide +kernel
theorem dX10_copy_42 : decode cX10_copy 42 = .ok (.invokevirtual 296, 3) := by decide +kernel
theorem dX10_copy_45 : decode cX10_copy 45 = .ok (.ifCond .eq 6, 3) := by decide +kernel
theorem dX10_copy_48 : decode cX10_copy 48 = .ok (.bipush (-11), 2) := by decide +kernel
theorem dX10_copy_50 : decode cX10_copy 50 = .ok (.ireturn, 1) := by decide +kernel
theorem dX10_copy_51 : decode cX10_copy 51 = .ok (.aload 6, 2) := by decide +kernel
theorem dX10_copy_53 : decode cX10_copy 53 = .ok (.getfield 299, 3) := by decide +kernel
theorem dX10_copy_56 : decode cX10_copy 56 = .ok (.aload 7, 2) := by decide +kernel
theorem dX10_copy_58 : decode cX10_copy 58 = .ok (.getfield 299, 3) := by decide +kernel
theorem dX10_copy_61 : decode cX10_copy 61 = .ok (.if_icmp .eq 6, 3) := by decide +kernel
theorem dX10_copy_64 : decode cX10_copy 64 = .ok (.bipush (-12), 2) := by decide +kernel
theorem dX10_copy_66 : decode cX10_copy 66 = .ok (.ireturn, 1) := by decide +kernel
theorem dX10_copy_67 : decode cX10_copy 67 = .ok (.iload 5, 2) := by decide +kernel
theorem dX10_copy_69 : decode cX10_copy 69 = .ok (.ifCond .lt 26, 3) := by decide +kernel
theorem dX10_copy_72 : decode cX10_copy 72 = .ok (.aload 6, 2) := by decide +kernel
theorem dX10_copy_74 : decode cX10_copy 74 = .ok (.iload_n 2, 1) := by decide +kernel
theorem dX10_copy_75 : decode cX10_copy 75 = .ok (.iload 5, 2) := by decide +kernel
theorem dX10_copy_77 : decode cX10_copy 77 = .ok (.invokevirtual 306, 3) := by decide +kernel
theorem dX10_copy_80 : decode cX10_copy 80 = .ok (.ifCond .eq 15, 3) := by decide +kernel
theorem dX10_copy_83 : decode cX10_copy 83 = .ok (.aload 7, 2) := by decide +kernel
theorem dX10_copy_85 : decode cX10_copy 85 = .ok (.iload 4, 2) := by decide +kernel
theorem dX10_copy_87 : decode cX10_copy 87 = .ok (.iload 5, 2) := by decide +kernel
theorem dX10_copy_89 : decode cX10_copy 89 = .ok (.invokevirtual 306, 3) := by decide +kernel
theorem dX10_copy_92 : decode cX10_copy 92 = .ok (.ifCond .ne 6, 3) := by decide +kernel
theorem dX10_copy_95 : decode cX10_copy 95 = .ok (.bipush (-13), 2) := by decide +kernel
theorem dX10_copy_97 : decode cX10_copy 97 = .ok (.ireturn, 1) := by decide +kernel
theorem dX10_copy_98 : decode cX10_copy 98 = .ok (.aload 6, 2) := by decide +kernel
theorem dX10_copy_100 : decode cX10_copy 100 = .ok (.getfield 289, 3) := by decide +kernel
theorem dX10_copy_103 : decode cX10_copy 103 = .ok (.iload_n 2, 1) := by decide +kernel
theorem dX10_copy_104 : decode cX10_copy 104 = .ok (.aload 7, 2) := by decide +kernel
theorem dX10_copy_106 : decode cX10_copy 106 = .ok (.getfield 289, 3) := by decide +kernel
theorem dX10_copy_109 : decode cX10_copy 109 = .ok (.iload 4, 2) := by decide +kernel
theorem dX10_copy_111 : decode cX10_copy 111 = .ok (.iload 5, 2) := by decide +kernel
theorem dX10_copy_113 : decode cX10_copy 113 = .ok (.invokestatic 309, 3) := by decide +kernel
theorem dX10_copy_116 : decode cX10_copy 116 = .ok (.iload 5, 2) := by decide +kernel
theorem dX10_copy_118 : decode cX10_copy 118 = .ok (.ireturn, 1) := by decide +kernel
theorem dX10_reads_0 : decode cX10_reads 0 = .ok (.iload_n 1, 1) := by decide +kernel
theorem dX10_reads_1 : decode cX10_reads 1 = .ok (.invokestatic 283, 3) := by decide +kernel
theorem dX10_reads_4 : decode cX10_reads 4 = .ok (.ifCond .ne 5, 3) := by decide +kernel
theorem dX10_reads_7 : decode cX10_reads 7 = .ok (.iconst (-1), 1) := by decide +kernel
theorem dX10_reads_8 : decode cX10_reads 8 = .ok (.ireturn, 1) := by decide +kernel
theorem dX10_reads_9 : decode cX10_reads 9 = .ok (.aload_n 0, 1) := by decide +kernel
theorem dX10_reads_10 : decode cX10_reads 10 = .ok (.getfield 59, 3) := by decide +kernel
theorem dX10_reads_13 : decode cX10_reads 13 = .ok (.iload_n 1, 1) := by decide +kernel
theorem dX10_reads_14 : decode cX10_reads 14 = .ok (.aaload, 1) := by decide +kernel
theorem dX10_reads_15 : decode cX10_reads 15 = .ok (.astore_n 3, 1) := by decide +kernel
theorem dX10_reads_16 : decode cX10_reads 16 = .ok (.aload_n 3, 1) := by decide +kernel
theorem dX10_reads_17 : decode cX10_reads 17 = .ok (.iconst 0, 1) := by decide +kernel
theorem dX10_reads_18 : decode cX10_reads 18 = .ok (.iload_n 2, 1) := by decide +kernel
theorem dX10_reads_19 : decode cX10_reads 19 = .ok (.aload_n 0, 1) := by decide +kernel
theorem dX10_reads_20 : decode cX10_reads 20 = .ok (.getfield 10, 3) := by decide +kernel
theorem dX10_reads_23 : decode cX10_reads 23 = .ok (.getfield 82, 3) := by decide +kernel
theorem dX10_reads_26 : decode cX10_reads 26 = .ok (.invokevirtual 286, 3) := by decide +kernel
theorem dX10_reads_29 : decode cX10_reads 29 = .ok (.istore 4, 2) := by decide +kernel
theorem dX10_reads_31 : decode cX10_reads 31 = .ok (.iload 4, 2) := by decide +kernel
theorem dX10_reads_33 : decode cX10_reads 33 = .ok (.ifCond .eq 6, 3) := by decide +kernel
theorem dX10_reads_36 : decode cX10_reads 36 = .ok (.iload 4, 2) := by decide +kernel
theorem dX10_reads_38 : decode cX10_reads 38 = .ok (.ireturn, 1) := by decide +kernel
theorem dX10_reads_39 : decode cX10_reads 39 = .ok (.iconst 0, 1) := by decide +kernel
theorem dX10_reads_40 : decode cX10_reads 40 = .ok (.istore 5, 2) := by decide +kernel
theorem dX10_reads_42 : decode cX10_reads 42 = .ok (.iconst 0, 1) := by decide +kernel
theorem dX10_reads_43 : decode cX10_reads 43 = .ok (.istore 6, 2) := by decide +kernel
theorem dX10_reads_45 : decode cX10_reads 45 = .ok (.iload 6, 2) := by decide +kernel
theorem dX10_reads_47 : decode cX10_reads 47 = .ok (.aload_n 0, 1) := by decide +kernel
theorem dX10_reads_48 : decode cX10_reads 48 = .ok (.getfield 10, 3) := by decide +kernel
theorem dX10_reads_51 : decode cX10_reads 51 = .ok (.getfield 82, 3) := by decide +kernel
theorem dX10_reads_54 : decode cX10_reads 54 = .ok (.if_icmp .ge 44, 3) := by decide +kernel
theorem dX10_reads_57 : decode cX10_reads 57 = .ok (.aload_n 0, 1) := by decide +kernel
theorem dX10_reads_58 : decode cX10_reads 58 = .ok (.getfield 10, 3) := by decide +kernel
theorem dX10_reads_61 : decode cX10_reads 61 = .ok (.getfield 94, 3) := by decide +kernel
theorem dX10_reads_64 : decode cX10_reads 64 = .ok (.iconst 2, 1) := by decide +kernel
theorem dX10_reads_65 : decode cX10_reads 65 = .ok (.aaload, 1) := by decide +kernel
theorem dX10_reads_66 : decode cX10_reads 66 = .ok (.iload 6, 2) := by decide +kernel
theorem dX10_reads_68 : decode cX10_reads 68 = .ok (.aload_n 3, 1) := by decide +kernel
theorem dX10_reads_69 : decode cX10_reads 69 = .ok (.getfield 289, 3) := by decide +kernel
theorem dX10_reads_72 : decode cX10_reads 72 = .ok (.iload_n 2, 1) := by decide +kernel
theorem dX10_reads_73 : decode cX10_reads 73 = .ok (.iload 6, 2) := by decide +kernel
theorem dX10_reads_75 : decode cX10_reads 75 = .ok (.iadd, 1) := by decide +kernel
theorem dX10_reads_76 : decode cX10_reads 76 = .ok (.iaload, 1) := by decide +kernel
theorem dX10_reads_77 : decode cX10_reads 77 = .ok (.iastore, 1) := by decide +kernel
theorem dX10_reads_78 : decode cX10_reads 78 = .ok (.iload 5, 2) := by decide +kernel
theorem dX10_reads_80 : decode cX10_reads 80 = .ok (.aload_n 3, 1) := by decide +kernel
theorem dX10_reads_81 : decode cX10_reads 81 = .ok (.getfield 289, 3) := by decide +kernel
theorem dX10_reads_84 : decode cX10_reads 84 = .ok (.iload_n 2, 1) := by decide +kernel
theorem dX10_reads_85 : decode cX10_reads 85 = .ok (.iload 6, 2) := by decide +kernel
theorem dX10_reads_87 : decode cX10_reads 87 = .ok (.iadd, 1) := by decide +kernel
theorem dX10_reads_88 : decode cX10_reads 88 = .ok (.iaload, 1) := by decide +kernel
theorem dX10_reads_89 : decode cX10_reads 89 = .ok (.iadd, 1) := by decide +kernel
theorem dX10_reads_90 : decode cX10_reads 90 = .ok (.istore 5, 2) := by decide +kernel
theorem dX10_reads_92 : decode cX10_reads 92 = .ok (.iinc 6 1, 3) := by decide +kernel
theorem dX10_reads_95 : decode cX10_reads 95 = .ok (.goto (-50), 3) := by decide +kernel
theorem dX10_reads_98 : decode cX10_reads 98 = .ok (.iload 5, 2) := by decide +kernel
theorem dX10_reads_100 : decode cX10_reads 100 = .ok (.ireturn, 1) := by decide +kernel
theorem dX10_within_0 : decode cX10_within 0 = .ok (.iload_n 0, 1) := by decide +kernel
theorem dX10_within_1 : decode cX10_within 1 = .ok (.ifCond .lt 12, 3) := by decide +kernel
theorem dX10_within_4 : decode cX10_within 4 = .ok (.iload_n 0, 1) := by decide +kernel
theorem dX10_within_5 : decode cX10_within 5 = .ok (.iload_n 1, 1) := by decide +kernel
theorem dX10_within_6 : decode cX10_within 6 = .ok (.if_icmp .gt 7, 3) := by decide +kernel
theorem dX10_within_9 : decode cX10_within 9 = .ok (.iconst 1, 1) := by decide +kernel
theorem dX10_within_10 : decode cX10_within 10 = .ok (.goto 4, 3) := by decide +kernel
theorem dX10_within_13 : decode cX10_within 13 = .ok (.iconst 0, 1) := by decide +kernel
theorem dX10_within_14 : decode cX10_within 14 = .ok (.ireturn, 1) := by decide +kernel
theorem dX10_has_0 : decode cX10_has 0 = .ok (.iload_n 0, 1) := by decide +kernel
theorem dX10_has_1 : decode cX10_has 1 = .ok (.iload_n 1, 1) := by decide +kernel
theorem dX10_has_2 : decode cX10_has 2 = .ok (.ishr, 1) := by decide +kernel
theorem dX10_has_3 : decode cX10_has 3 = .ok (.iconst 1, 1) := by decide +kernel
theorem dX10_has_4 : decode cX10_has 4 = .ok (.iand, 1) := by decide +kernel
theorem dX10_has_5 : decode cX10_has 5 = .ok (.iconst 1, 1) := by decide +kernel
theorem dX10_has_6 : decode cX10_has 6 = .ok (.if_icmp .ne 7, 3) := by decide +kernel
theorem dX10_has_9 : decode cX10_has 9 = .ok (.iconst 1, 1) := by decide +kernel
theorem dX10_has_10 : decode cX10_has 10 = .ok (.goto 4, 3) := by decide +kernel
theorem dX10_has_13 : decode cX10_has 13 = .ok (.iconst 0, 1) := by decide +kernel
theorem dX10_has_14 : decode cX10_has 14 = .ok (.ireturn, 1) := by decide +kernel
theorem dX10_byteOf_0 : decode cX10_byteOf 0 = .ok (.lload_n 0, 1) := by decide +kernel
theorem dX10_byteOf_1 : decode cX10_byteOf 1 = .ok (.bipush 8, 2) := by decide +kernel
theorem dX10_byteOf_3 : decode cX10_byteOf 3 = .ok (.iload_n 2, 1) := by decide +kernel
theorem dX10_byteOf_4 : decode cX10_byteOf 4 = .ok (.imul, 1) := by decide +kernel
theorem dX10_byteOf_5 : decode cX10_byteOf 5 = .ok (.lushr, 1) := by decide +kernel
theorem dX10_byteOf_6 : decode cX10_byteOf 6 = .ok (.l2i, 1) := by decide +kernel
theorem dX10_byteOf_7 : decode cX10_byteOf 7 = .ok (.sipush 255, 3) := by decide +kernel
theorem dX10_byteOf_10 : decode cX10_byteOf 10 = .ok (.iand, 1) := by decide +kernel
theorem dX10_byteOf_11 : decode cX10_byteOf 11 = .ok (.ireturn, 1) := by decide +kernel
theorem dX10_areParts_0 : decode cX10_areParts 0 = .ok (.iload_n 0, 1) := by decide +kernel
theorem dX10_areParts_1 : decode cX10_areParts 1 = .ok (.bipush 9, 2) := by decide +kernel
theorem dX10_areParts_3 : decode cX10_areParts 3 = .ok (.invokestatic 75, 3) := by decide +kernel
theorem dX10_areParts_6 : decode cX10_areParts 6 = .ok (.ifCond .eq 34, 3) := by decide +kernel
theorem dX10_areParts_9 : decode cX10_areParts 9 = .ok (.iload_n 1, 1) := by decide +kernel
theorem dX10_areParts_10 : decode cX10_areParts 10 = .ok (.bipush 9, 2) := by decide +kernel
theorem dX10_areParts_12 : decode cX10_areParts 12 = .ok (.invokestatic 75, 3) := by decide +kernel
theorem dX10_areParts_15 : decode cX10_areParts 15 = .ok (.ifCond .eq 25, 3) := by decide +kernel
theorem dX10_areParts_18 : decode cX10_areParts 18 = .ok (.iload_n 2, 1) := by decide +kernel
theorem dX10_areParts_19 : decode cX10_areParts 19 = .ok (.bipush 9, 2) := by decide +kernel
theorem dX10_areParts_21 : decode cX10_areParts 21 = .ok (.invokestatic 75, 3) := by decide +kernel
theorem dX10_areParts_24 : decode cX10_areParts 24 = .ok (.ifCond .eq 16, 3) := by decide +kernel
theorem dX10_areParts_27 : decode cX10_areParts 27 = .ok (.iload_n 3, 1) := by decide +kernel
theorem dX10_areParts_28 : decode cX10_areParts 28 = .ok (.bipush 9, 2) := by decide +kernel
theorem dX10_areParts_30 : decode cX10_areParts 30 = .ok (.invokestatic 75, 3) := by decide +kernel
theorem dX10_areParts_33 : decode cX10_areParts 33 = .ok (.ifCond .eq 7, 3) := by decide +kernel
theorem dX10_areParts_36 : decode cX10_areParts 36 = .ok (.iconst 1, 1) := by decide +kernel
theorem dX10_areParts_37 : decode cX10_areParts 37 = .ok (.goto 4, 3) := by decide +kernel
theorem dX10_areParts_40 : decode cX10_areParts 40 = .ok (.iconst 0, 1) := by decide +kernel
theorem dX10_areParts_41 : decode cX10_areParts 41 = .ok (.ireturn, 1) := by decide +kernel
theorem dX10_isSheet_0 : decode cX10_isSheet 0 = .ok (.iload_n 0, 1) := by decide +kernel
theorem dX10_isSheet_1 : decode cX10_isSheet 1 = .ok (.iconst 3, 1) := by decide +kernel
theorem dX10_isSheet_2 : decode cX10_isSheet 2 = .ok (.invokestatic 75, 3) := by decide +kernel
theorem dX10_isSheet_5 : decode cX10_isSheet 5 = .ok (.ireturn, 1) := by decide +kernel
theorem dX10_isPerson_0 : decode cX10_isPerson 0 = .ok (.iload_n 1, 1) := by decide +kernel
theorem dX10_isPerson_1 : decode cX10_isPerson 1 = .ok (.aload_n 0, 1) := by decide +kernel
theorem dX10_isPerson_2 : decode cX10_isPerson 2 = .ok (.getfield 10, 3) := by decide +kernel
theorem dX10_isPerson_5 : decode cX10_isPerson 5 = .ok (.getfield 82, 3) := by decide +kernel
theorem dX10_isPerson_8 : decode cX10_isPerson 8 = .ok (.iconst 1, 1) := by decide +kernel
theorem dX10_isPerson_9 : decode cX10_isPerson 9 = .ok (.isub, 1) := by decide +kernel
theorem dX10_isPerson_10 : decode cX10_isPerson 10 = .ok (.invokestatic 75, 3) := by decide +kernel
theorem dX10_isPerson_13 : decode cX10_isPerson 13 = .ok (.ireturn, 1) := by decide +kernel
theorem dX10_isSaying_0 : decode cX10_isSaying 0 = .ok (.iload_n 1, 1) := by decide +kernel
theorem dX10_isSaying_1 : decode cX10_isSaying 1 = .ok (.aload_n 0, 1) := by decide +kernel
theorem dX10_isSaying_2 : decode cX10_isSaying 2 = .ok (.getfield 174, 3) := by decide +kernel
theorem dX10_isSaying_5 : decode cX10_isSaying 5 = .ok (.iconst 1, 1) := by decide +kernel
theorem dX10_isSaying_6 : decode cX10_isSaying 6 = .ok (.isub, 1) := by decide +kernel
theorem dX10_isSaying_7 : decode cX10_isSaying 7 = .ok (.invokestatic 75, 3) := by decide +kernel
theorem dX10_isSaying_10 : decode cX10_isSaying 10 = .ok (.ireturn, 1) := by decide +kernel
theorem dX10_comeUp_0 : decode cX10_comeUp 0 = .ok (.aload_n 0, 1) := by decide +kernel
theorem dX10_comeUp_1 : decode cX10_comeUp 1 = .ok (.getfield 174, 3) := by decide +kernel
theorem dX10_comeUp_4 : decode cX10_comeUp 4 = .ok (.bipush 8, 2) := by decide +kernel
theorem dX10_comeUp_6 : decode cX10_comeUp 6 = .ok (.if_icmp .lt 6, 3) := by decide +kernel
theorem dX10_comeUp_9 : decode cX10_comeUp 9 = .ok (.bipush (-3), 2) := by decide +kernel
theorem dX10_comeUp_11 : decode cX10_comeUp 11 = .ok (.ireturn, 1) := by decide +kernel
theorem dX10_comeUp_12 : decode cX10_comeUp 12 = .ok (.aload_n 0, 1) := by decide +kernel
theorem dX10_comeUp_13 : decode cX10_comeUp 13 = .ok (.getfield 18, 3) := by decide +kernel
theorem dX10_comeUp_16 : decode cX10_comeUp 16 = .ok (.aload_n 0, 1) := by decide +kernel
theorem dX10_comeUp_17 : decode cX10_comeUp 17 = .ok (.getfield 174, 3) := by decide +kernel
theorem dX10_comeUp_20 : decode cX10_comeUp 20 = .ok (.aaload, 1) := by decide +kernel
theorem dX10_comeUp_21 : decode cX10_comeUp 21 = .ok (.astore_n 3, 1) := by decide +kernel
theorem dX10_comeUp_22 : decode cX10_comeUp 22 = .ok (.aload_n 3, 1) := by decide +kernel
theorem dX10_comeUp_23 : decode cX10_comeUp 23 = .ok (.iload_n 1, 1) := by decide +kernel
theorem dX10_comeUp_24 : decode cX10_comeUp 24 = .ok (.putfield 139, 3) := by decide +kernel
theorem dX10_comeUp_27 : decode cX10_comeUp 27 = .ok (.aload_n 3, 1) := by decide +kernel
theorem dX10_comeUp_28 : decode cX10_comeUp 28 = .ok (.iload_n 2, 1) := by decide +kernel
theorem dX10_comeUp_29 : decode cX10_comeUp 29 = .ok (.putfield 119, 3) := by decide +kernel
theorem dX10_comeUp_32 : decode cX10_comeUp 32 = .ok (.aload_n 0, 1) := by decide +kernel
theorem dX10_comeUp_33 : decode cX10_comeUp 33 = .ok (.dup, 1) := by decide +kernel
theorem dX10_comeUp_34 : decode cX10_comeUp 34 = .ok (.getfield 174, 3) := by decide +kernel
theorem dX10_comeUp_37 : decode cX10_comeUp 37 = .ok (.iconst 1, 1) := by decide +kernel
theorem dX10_comeUp_38 : decode cX10_comeUp 38 = .ok (.iadd, 1) := by decide +kernel
theorem dX10_comeUp_39 : decode cX10_comeUp 39 = .ok (.putfield 174, 3) := by decide +kernel
theorem dX10_comeUp_42 : decode cX10_comeUp 42 = .ok (.aload_n 0, 1) := by decide +kernel
theorem dX10_comeUp_43 : decode cX10_comeUp 43 = .ok (.getfield 174, 3) := by decide +kernel
theorem dX10_comeUp_46 : decode cX10_comeUp 46 = .ok (.iconst 1, 1) := by decide +kernel
theorem dX10_comeUp_47 : decode cX10_comeUp 47 = .ok (.isub, 1) := by decide +kernel
theorem dX10_comeUp_48 : decode cX10_comeUp 48 = .ok (.ireturn, 1) := by decide +kernel
theorem dX10_harmAhead_0 : decode cX10_harmAhead 0 = .ok (.aload_n 0, 1) := by decide +kernel
theorem dX10_harmAhead_1 : decode cX10_harmAhead 1 = .ok (.getfield 18, 3) := by decide +kernel
theorem dX10_harmAhead_4 : decode cX10_harmAhead 4 = .ok (.iload_n 1, 1) := by decide +kernel
theorem dX10_harmAhead_5 : decode cX10_harmAhead 5 = .ok (.aaload, 1) := by decide +kernel
theorem dX10_harmAhead_6 : decode cX10_harmAhead 6 = .ok (.astore 4, 2) := by decide +kernel
theorem dX10_harmAhead_8 : decode cX10_harmAhead 8 = .ok (.aload 4, 2) := by decide +kernel
theorem dX10_harmAhead_10 : decode cX10_harmAhead 10 = .ok (.getfield 139, 3) := by decide +kernel
theorem dX10_harmAhead_13 : decode cX10_harmAhead 13 = .ok (.iconst 3, 1) := by decide +kernel
theorem dX10_harmAhead_14 : decode cX10_harmAhead 14 = .ok (.if_icmp .ne 5, 3) := by decide +kernel
theorem dX10_harmAhead_17 : decode cX10_harmAhead 17 = .ok (.iconst 0, 1) := by decide +kernel
theorem dX10_harmAhead_18 : decode cX10_harmAhead 18 = .ok (.ireturn, 1) := by decide +kernel
theorem dX10_harmAhead_19 : decode cX10_harmAhead 19 = .ok (.aload_n 0, 1) := by decide +kernel
theorem dX10_harmAhead_20 : decode cX10_harmAhead 20 = .ok (.getfield 25, 3) := by decide +kernel
theorem dX10_harmAhead_23 : decode cX10_harmAhead 23 = .ok (.aload 4, 2) := by decide +kernel
theorem dX10_harmAhead_25 : decode cX10_harmAhead 25 = .ok (.getfield 152, 3) := by decide +kernel
theorem dX10_harmAhead_28 : decode cX10_harmAhead 28 = .ok (.invokevirtual 263, 3) := by decide +kernel
theorem dX10_harmAhead_31 : decode cX10_harmAhead 31 = .ok (.iload_n 2, 1) := by decide +kernel
theorem dX10_harmAhead_32 : decode cX10_harmAhead 32 = .ok (.iconst 3, 1) := by decide +kernel
theorem dX10_harmAhead_33 : decode cX10_harmAhead 33 = .ok (.if_icmp .eq 25, 3) := by decide +kernel
theorem dX10_harmAhead_36 : decode cX10_harmAhead 36 = .ok (.aload_n 0, 1) := by decide +kernel
theorem dX10_harmAhead_37 : decode cX10_harmAhead 37 = .ok (.getfield 10, 3) := by decide +kernel
theorem dX10_harmAhead_40 : decode cX10_harmAhead 40 = .ok (.aload_n 0, 1) := by decide +kernel
theorem dX10_harmAhead_41 : decode cX10_harmAhead 41 = .ok (.getfield 25, 3) := by decide +kernel
theorem dX10_harmAhead_44 : decode cX10_harmAhead 44 = .ok (.aload 4, 2) := by decide +kernel
theorem dX10_harmAhead_46 : decode cX10_harmAhead 46 = .ok (.getfield 119, 3) := by decide +kernel
theorem dX10_harmAhead_49 : decode cX10_harmAhead 49 = .ok (.iload_n 2, 1) := by decide +kernel
theorem dX10_harmAhead_50 : decode cX10_harmAhead 50 = .ok (.aload_n 0, 1) := by decide +kernel
theorem dX10_harmAhead_51 : decode cX10_harmAhead 51 = .ok (.getfield 149, 3) := by decide +kernel
theorem dX10_harmAhead_54 : decode cX10_harmAhead 54 = .ok (.invokevirtual 193, 3) := by decide +kernel
theorem dX10_harmAhead_57 : decode cX10_harmAhead 57 = .ok (.pop, 1) := by decide +kernel
theorem dX10_harmAhead_58 : decode cX10_harmAhead 58 = .ok (.aload_n 0, 1) := by decide +kernel
theorem dX10_harmAhead_59 : decode cX10_harmAhead 59 = .ok (.getfield 10, 3) := by decide +kernel
theorem dX10_harmAhead_62 : decode cX10_harmAhead 62 = .ok (.aload_n 0, 1) := by decide +kernel
theorem dX10_harmAhead_63 : decode cX10_harmAhead 63 = .ok (.getfield 25, 3) := by decide +kernel
theorem dX10_harmAhead_66 : decode cX10_harmAhead 66 = .ok (.aload_n 0, 1) := by decide +kernel
theorem dX10_harmAhead_67 : decode cX10_harmAhead 67 = .ok (.getfield 149, 3) := by decide +kernel
theorem dX10_harmAhead_70 : decode cX10_harmAhead 70 = .ok (.iload_n 3, 1) := by decide +kernel
theorem dX10_harmAhead_71 : decode cX10_harmAhead 71 = .ok (.invokevirtual 181, 3) := by decide +kernel
theorem dX10_harmAhead_74 : decode cX10_harmAhead 74 = .ok (.aload_n 0, 1) := by decide +kernel
theorem dX10_harmAhead_75 : decode cX10_harmAhead 75 = .ok (.getfield 10, 3) := by decide +kernel
theorem dX10_harmAhead_78 : decode cX10_harmAhead 78 = .ok (.aload_n 0, 1) := by decide +kernel
theorem dX10_harmAhead_79 : decode cX10_harmAhead 79 = .ok (.getfield 25, 3) := by decide +kernel
theorem dX10_harmAhead_82 : decode cX10_harmAhead 82 = .ok (.invokevirtual 185, 3) := by decide +kernel
theorem dX10_harmAhead_85 : decode cX10_harmAhead 85 = .ok (.ireturn, 1) := by decide +kernel
theorem dX10_agreesAtSomeHour_0 : decode cX10_agreesAtSomeHour 0 = .ok (.iconst 0, 1) := by decide +kernel
theorem dX10_agreesAtSomeHour_1 : decode cX10_agreesAtSomeHour 1 = .ok (.istore_n 3, 1) := by decide +kernel
theorem dX10_agreesAtSomeHour_2 : decode cX10_agreesAtSomeHour 2 = .ok (.iload_n 3, 1) := by decide +kernel
theorem dX10_agreesAtSomeHour_3 : decode cX10_agreesAtSomeHour 3 = .ok (.bipush 24, 2) := by decide +kernel
theorem dX10_agreesAtSomeHour_5 : decode cX10_agreesAtSomeHour 5 = .ok (.if_icmp .ge 21, 3) := by decide +kernel
theorem dX10_agreesAtSomeHour_8 : decode cX10_agreesAtSomeHour 8 = .ok (.aload_n 0, 1) := by decide +kernel
theorem dX10_agreesAtSomeHour_9 : decode cX10_agreesAtSomeHour 9 = .ok (.iload_n 1, 1) := by decide +kernel
theorem dX10_agreesAtSomeHour_10 : decode cX10_agreesAtSomeHour 10 = .ok (.iload_n 2, 1) := by decide +kernel
theorem dX10_agreesAtSomeHour_11 : decode cX10_agreesAtSomeHour 11 = .ok (.iload_n 3, 1) := by decide +kernel
theorem dX10_agreesAtSomeHour_12 : decode cX10_agreesAtSomeHour 12 = .ok (.invokevirtual 256, 3) := by decide +kernel
theorem dX10_agreesAtSomeHour_15 : decode cX10_agreesAtSomeHour 15 = .ok (.ifCond .eq 5, 3) := by decide +kernel
theorem dX10_agreesAtSomeHour_18 : decode cX10_agreesAtSomeHour 18 = .ok (.iconst 1, 1) := by decide +kernel
theorem dX10_agreesAtSomeHour_19 : decode cX10_agreesAtSomeHour 19 = .ok (.ireturn, 1) := by decide +kernel
theorem dX10_agreesAtSomeHour_20 : decode cX10_agreesAtSomeHour 20 = .ok (.iinc 3 1, 3) := by decide +kernel
theorem dX10_agreesAtSomeHour_23 : decode cX10_agreesAtSomeHour 23 = .ok (.goto (-21), 3) := by decide +kernel
theorem dX10_agreesAtSomeHour_26 : decode cX10_agreesAtSomeHour 26 = .ok (.iconst 0, 1) := by decide +kernel
theorem dX10_agreesAtSomeHour_27 : decode cX10_agreesAtSomeHour 27 = .ok (.ireturn, 1) := by decide +kernel
theorem dX10_agrees_0 : decode cX10_agrees 0 = .ok (.iconst 0, 1) := by decide +kernel
theorem dX10_agrees_1 : decode cX10_agrees 1 = .ok (.istore 4, 2) := by decide +kernel
theorem dX10_agrees_3 : decode cX10_agrees 3 = .ok (.iload 4, 2) := by decide +kernel
theorem dX10_agrees_5 : decode cX10_agrees 5 = .ok (.iload_n 3, 1) := by decide +kernel
theorem dX10_agrees_6 : decode cX10_agrees 6 = .ok (.if_icmp .ge 24, 3) := by decide +kernel
theorem dX10_agrees_9 : decode cX10_agrees 9 = .ok (.aload_n 0, 1) := by decide +kernel
theorem dX10_agrees_10 : decode cX10_agrees 10 = .ok (.getfield 46, 3) := by decide +kernel
theorem dX10_agrees_13 : decode cX10_agrees 13 = .ok (.iload 4, 2) := by decide +kernel
theorem dX10_agrees_15 : decode cX10_agrees 15 = .ok (.iconst 0, 1) := by decide +kernel
theorem dX10_agrees_16 : decode cX10_agrees 16 = .ok (.invokevirtual 315, 3) := by decide +kernel
theorem dX10_agrees_19 : decode cX10_agrees 19 = .ok (.ifCond .ne 5, 3) := by decide +kernel
theorem dX10_agrees_22 : decode cX10_agrees 22 = .ok (.iconst 0, 1) := by decide +kernel
theorem dX10_agrees_23 : decode cX10_agrees 23 = .ok (.ireturn, 1) := by decide +kernel
theorem dX10_agrees_24 : decode cX10_agrees 24 = .ok (.iinc 4 1, 3) := by decide +kernel
theorem dX10_agrees_27 : decode cX10_agrees 27 = .ok (.goto (-24), 3) := by decide +kernel
theorem dX10_agrees_30 : decode cX10_agrees 30 = .ok (.aload_n 0, 1) := by decide +kernel
theorem dX10_agrees_31 : decode cX10_agrees 31 = .ok (.getfield 25, 3) := by decide +kernel
theorem dX10_agrees_34 : decode cX10_agrees 34 = .ok (.invokevirtual 318, 3) := by decide +kernel
theorem dX10_agrees_37 : decode cX10_agrees 37 = .ok (.aload_n 0, 1) := by decide +kernel
theorem dX10_agrees_38 : decode cX10_agrees 38 = .ok (.getfield 25, 3) := by decide +kernel
theorem dX10_agrees_41 : decode cX10_agrees 41 = .ok (.iload_n 2, 1) := by decide +kernel
theorem dX10_agrees_42 : decode cX10_agrees 42 = .ok (.iload_n 1, 1) := by decide +kernel
theorem dX10_agrees_43 : decode cX10_agrees 43 = .ok (.iload_n 3, 1) := by decide +kernel
theorem dX10_agrees_44 : decode cX10_agrees 44 = .ok (.invokevirtual 158, 3) := by decide +kernel
theorem dX10_agrees_47 : decode cX10_agrees 47 = .ok (.iload_n 3, 1) := by decide +kernel
theorem dX10_agrees_48 : decode cX10_agrees 48 = .ok (.istore 4, 2) := by decide +kernel
theorem dX10_agrees_50 : decode cX10_agrees 50 = .ok (.iload 4, 2) := by decide +kernel
theorem dX10_agrees_52 : decode cX10_agrees 52 = .ok (.aload_n 0, 1) := by decide +kernel
theorem dX10_agrees_53 : decode cX10_agrees 53 = .ok (.getfield 46, 3) := by decide +kernel
theorem dX10_agrees_56 : decode cX10_agrees 56 = .ok (.getfield 321, 3) := by decide +kernel
theorem dX10_agrees_59 : decode cX10_agrees 59 = .ok (.if_icmp .gt 36, 3) := by decide +kernel
theorem dX10_agrees_62 : decode cX10_agrees 62 = .ok (.aload_n 0, 1) := by decide +kernel
theorem dX10_agrees_63 : decode cX10_agrees 63 = .ok (.getfield 46, 3) := by decide +kernel
theorem dX10_agrees_66 : decode cX10_agrees 66 = .ok (.iload 4, 2) := by decide +kernel
theorem dX10_agrees_68 : decode cX10_agrees 68 = .ok (.aload_n 0, 1) := by decide +kernel
theorem dX10_agrees_69 : decode cX10_agrees 69 = .ok (.getfield 10, 3) := by decide +kernel
theorem dX10_agrees_72 : decode cX10_agrees 72 = .ok (.aload_n 0, 1) := by decide +kernel
theorem dX10_agrees_73 : decode cX10_agrees 73 = .ok (.getfield 25, 3) := by decide +kernel
theorem dX10_agrees_76 : decode cX10_agrees 76 = .ok (.iload 4, 2) := by decide +kernel
theorem dX10_agrees_78 : decode cX10_agrees 78 = .ok (.invokevirtual 270, 3) := by decide +kernel
theorem dX10_agrees_81 : decode cX10_agrees 81 = .ok (.invokevirtual 315, 3) := by decide +kernel
theorem dX10_agrees_84 : decode cX10_agrees 84 = .ok (.ifCond .ne 5, 3) := by decide +kernel
theorem dX10_agrees_87 : decode cX10_agrees 87 = .ok (.iconst 0, 1) := by decide +kernel
theorem dX10_agrees_88 : decode cX10_agrees 88 = .ok (.ireturn, 1) := by decide +kernel
theorem dX10_agrees_89 : decode cX10_agrees 89 = .ok (.iinc 4 1, 3) := by decide +kernel
theorem dX10_agrees_92 : decode cX10_agrees 92 = .ok (.goto (-42), 3) := by decide +kernel
theorem dX10_agrees_95 : decode cX10_agrees 95 = .ok (.iconst 1, 1) := by decide +kernel
theorem dX10_agrees_96 : decode cX10_agrees 96 = .ok (.ireturn, 1) := by decide +kernel
theorem dX11_in_0 : decode cX11_in 0 = .ok (.lload_n 0, 1) := by decide +kernel
theorem dX11_in_1 : decode cX11_in 1 = .ok (.lload_n 2, 1) := by decide +kernel
theorem dX11_in_2 : decode cX11_in 2 = .ok (.lcmp, 1) := by decide +kernel
theorem dX11_in_3 : decode cX11_in 3 = .ok (.ifCond .lt 14, 3) := by decide +kernel
theorem dX11_in_6 : decode cX11_in 6 = .ok (.lload_n 0, 1) := by decide +kernel
theorem dX11_in_7 : decode cX11_in 7 = .ok (.lload 4, 2) := by decide +kernel
theorem dX11_in_9 : decode cX11_in 9 = .ok (.lcmp, 1) := by decide +kernel
theorem dX11_in_10 : decode cX11_in 10 = .ok (.ifCond .gt 7, 3) := by decide +kernel
theorem dX11_in_13 : decode cX11_in 13 = .ok (.iconst 1, 1) := by decide +kernel
theorem dX11_in_14 : decode cX11_in 14 = .ok (.goto 4, 3) := by decide +kernel
theorem dX11_in_17 : decode cX11_in 17 = .ok (.iconst 0, 1) := by decide +kernel
theorem dX11_in_18 : decode cX11_in 18 = .ok (.ireturn, 1) := by decide +kernel
theorem dX11_init_0 : decode cX11_init 0 = .ok (.aload_n 0, 1) := by decide +kernel
theorem dX11_init_1 : decode cX11_init 1 = .ok (.invokespecial 1, 3) := by decide +kernel
theorem dX11_init_4 : decode cX11_init 4 = .ok (.aload_n 0, 1) := by decide +kernel
theorem dX11_init_5 : decode cX11_init 5 = .ok (.bipush 48, 2) := by decide +kernel
theorem dX11_init_7 : decode cX11_init 7 = .ok (.newarray .int, 2) := by decide +kernel
theorem dX11_init_9 : decode cX11_init 9 = .ok (.putfield 7, 3) := by decide +kernel
theorem dX11_init_12 : decode cX11_init 12 = .ok (.aload_n 0, 1) := by decide +kernel
theorem dX11_init_13 : decode cX11_init 13 = .ok (.bipush 80, 2) := by decide +kernel
theorem dX11_init_15 : decode cX11_init 15 = .ok (.newarray .int, 2) := by decide +kernel
theorem dX11_init_17 : decode cX11_init 17 = .ok (.putfield 13, 3) := by decide +kernel
theorem dX11_init_20 : decode cX11_init 20 = .ok (.aload_n 0, 1) := by decide +kernel
theorem dX11_init_21 : decode cX11_init 21 = .ok (.bipush 8, 2) := by decide +kernel
theorem dX11_init_23 : decode cX11_init 23 = .ok (.newarray .int, 2) := by decide +kernel
theorem dX11_init_25 : decode cX11_init 25 = .ok (.putfield 16, 3) := by decide +kernel
theorem dX11_init_28 : decode cX11_init 28 = .ok (.aload_n 0, 1) := by decide +kernel
theorem dX11_init_29 : decode cX11_init 29 = .ok (.bipush 8, 2) := by decide +kernel
theorem dX11_init_31 : decode cX11_init 31 = .ok (.newarray .int, 2) := by decide +kernel
theorem dX11_init_33 : decode cX11_init 33 = .ok (.putfield 19, 3) := by decide +kernel
theorem dX11_init_36 : decode cX11_init 36 = .ok (.aload_n 0, 1) := by decide +kernel
theorem dX11_init_37 : decode cX11_init 37 = .ok (.bipush 8, 2) := by decide +kernel
theorem dX11_init_39 : decode cX11_init 39 = .ok (.newarray .int, 2) := by decide +kernel
theorem dX11_init_41 : decode cX11_init 41 = .ok (.putfield 22, 3) := by decide +kernel
theorem dX11_init_44 : decode cX11_init 44 = .ok (.aload_n 0, 1) := by decide +kernel
theorem dX11_init_45 : decode cX11_init 45 = .ok (.bipush 8, 2) := by decide +kernel
theorem dX11_init_47 : decode cX11_init 47 = .ok (.newarray .int, 2) := by decide +kernel
theorem dX11_init_49 : decode cX11_init 49 = .ok (.putfield 25, 3) := by decide +kernel
theorem dX11_init_52 : decode cX11_init 52 = .ok (.aload_n 0, 1) := by decide +kernel
theorem dX11_init_53 : decode cX11_init 53 = .ok (.bipush 8, 2) := by decide +kernel
theorem dX11_init_55 : decode cX11_init 55 = .ok (.newarray .boolean, 2) := by decide +kernel
theorem dX11_init_57 : decode cX11_init 57 = .ok (.putfield 28, 3) := by decide +kernel
theorem dX11_init_60 : decode cX11_init 60 = .ok (.aload_n 0, 1) := by decide +kernel
theorem dX11_init_61 : decode cX11_init 61 = .ok (.bipush 8, 2) := by decide +kernel
theorem dX11_init_63 : decode cX11_init 63 = .ok (.newarray .int, 2) := by decide +kernel
theorem dX11_init_65 : decode cX11_init 65 = .ok (.putfield 32, 3) := by decide +kernel
theorem dX11_init_68 : decode cX11_init 68 = .ok (.aload_n 0, 1) := by decide +kernel
theorem dX11_init_69 : decode cX11_init 69 = .ok (.bipush 10, 2) := by decide +kernel
theorem dX11_init_71 : decode cX11_init 71 = .ok (.newarray .int, 2) := by decide +kernel
theorem dX11_init_73 : decode cX11_init 73 = .ok (.putfield 35, 3) := by decide +kernel
theorem dX11_init_76 : decode cX11_init 76 = .ok (.aload_n 0, 1) := by decide +kernel
theorem dX11_init_77 : decode cX11_init 77 = .ok (.sipush 128, 3) := by decide +kernel
theorem dX11_init_80 : decode cX11_init 80 = .ok (.newarray .int, 2) := by decide +kernel
theorem dX11_init_82 : decode cX11_init 82 = .ok (.putfield 38, 3) := by decide +kernel
theorem dX11_init_85 : decode cX11_init 85 = .ok (.aload_n 0, 1) := by decide +kernel
theorem dX11_init_86 : decode cX11_init 86 = .ok (.sipush 128, 3) := by decide +kernel
theorem dX11_init_89 : decode cX11_init 89 = .ok (.newarray .int, 2) := by decide +kernel
theorem dX11_init_91 : decode cX11_init 91 = .ok (.putfield 41, 3) := by decide +kernel
theorem dX11_init_94 : decode cX11_init 94 = .ok (.aload_n 0, 1) := by decide +kernel
theorem dX11_init_95 : decode cX11_init 95 = .ok (.sipush 128, 3) := by decide +kernel
theorem dX11_init_98 : decode cX11_init 98 = .ok (.newarray .int, 2) := by decide +kernel
theorem dX11_init_100 : decode cX11_init 100 = .ok (.putfield 44, 3) := by decide +kernel
theorem dX11_init_103 : decode cX11_init 103 = .ok (.aload_n 0, 1) := by decide +kernel
theorem dX11_init_104 : decode cX11_init 104 = .ok (.sipush 128, 3) := by decide +kernel
theorem dX11_init_107 : decode cX11_init 107 = .ok (.newarray .int, 2) := by decide +kernel
theorem dX11_init_109 : decode cX11_init 109 = .ok (.putfield 47, 3) := by decide +kernel
theorem dX11_init_112 : decode cX11_init 112 = .ok (.aload_n 0, 1) := by decide +kernel
theorem dX11_init_113 : decode cX11_init 113 = .ok (.sipush 128, 3) := by decide +kernel
theorem dX11_init_116 : decode cX11_init 116 = .ok (.newarray .int, 2) := by decide +kernel
theorem dX11_init_118 : decode cX11_init 118 = .ok (.putfield 50, 3) := by decide +kernel
theorem dX11_init_121 : decode cX11_init 121 = .ok (.aload_n 0, 1) := by decide +kernel
theorem dX11_init_122 : decode cX11_init 122 = .ok (.bipush 16, 2) := by decide +kernel
theorem dX11_init_124 : decode cX11_init 124 = .ok (.newarray .boolean, 2) := by decide +kernel
theorem dX11_init_126 : decode cX11_init 126 = .ok (.putfield 53, 3) := by decide +kernel
theorem dX11_init_129 : decode cX11_init 129 = .ok (.aload_n 0, 1) := by decide +kernel
theorem dX11_init_130 : decode cX11_init 130 = .ok (.bipush 16, 2) := by decide +kernel
theorem dX11_init_132 : decode cX11_init 132 = .ok (.newarray .int, 2) := by decide +kernel
theorem dX11_init_134 : decode cX11_init 134 = .ok (.putfield 56, 3) := by decide +kernel
theorem dX11_init_137 : decode cX11_init 137 = .ok (.aload_n 0, 1) := by decide +kernel
theorem dX11_init_138 : decode cX11_init 138 = .ok (.bipush 16, 2) := by decide +kernel
theorem dX11_init_140 : decode cX11_init 140 = .ok (.newarray .int, 2) := by decide +kernel
theorem dX11_init_142 : decode cX11_init 142 = .ok (.putfield 59, 3) := by decide +kernel
theorem dX11_init_145 : decode cX11_init 145 = .ok (.aload_n 0, 1) := by decide +kernel
theorem dX11_init_146 : decode cX11_init 146 = .ok (.sipush 640, 3) := by decide +kernel
theorem dX11_init_149 : decode cX11_init 149 = .ok (.newarray .int, 2) := by decide +kernel
theorem dX11_init_151 : decode cX11_init 151 = .ok (.putfield 62, 3) := by decide +kernel
theorem dX11_init_154 : decode cX11_init 154 = .ok (.aload_n 0, 1) := by decide +kernel
theorem dX11_init_155 : decode cX11_init 155 = .ok (.bipush 8, 2) := by decide +kernel
theorem dX11_init_157 : decode cX11_init 157 = .ok (.newarray .int, 2) := by decide +kernel
theorem dX11_init_159 : decode cX11_init 159 = .ok (.putfield 65, 3) := by decide +kernel
theorem dX11_init_162 : decode cX11_init 162 = .ok (.aload_n 0, 1) := by decide +kernel
theorem dX11_init_163 : decode cX11_init 163 = .ok (.bipush 120, 2) := by decide +kernel
theorem dX11_init_165 : decode cX11_init 165 = .ok (.newarray .int, 2) := by decide +kernel
theorem dX11_init_167 : decode cX11_init 167 = .ok (.putfield 68, 3) := by decide +kernel
theorem dX11_init_170 : decode cX11_init 170 = .ok (.aload_n 0, 1) := by decide +kernel
theorem dX11_init_171 : decode cX11_init 171 = .ok (.bipush 120, 2) := by decide +kernel
theorem dX11_init_173 : decode cX11_init 173 = .ok (.newarray .int, 2) := by decide +kernel
theorem dX11_init_175 : decode cX11_init 175 = .ok (.putfield 71, 3) := by decide +kernel
theorem dX11_init_178 : decode cX11_init 178 = .ok (.aload_n 0, 1) := by decide +kernel
theorem dX11_init_179 : decode cX11_init 179 = .ok (.bipush 120, 2) := by decide +kernel
theorem dX11_init_181 : decode cX11_init 181 = .ok (.newarray .int, 2) := by decide +kernel
theorem dX11_init_183 : decode cX11_init 183 = .ok (.putfield 74, 3) := by decide +kernel
theorem dX11_init_186 : decode cX11_init 186 = .ok (.aload_n 0, 1) := by decide +kernel
theorem dX11_init_187 : decode cX11_init 187 = .ok (.bipush 6, 2) := by decide +kernel
theorem dX11_init_189 : decode cX11_init 189 = .ok (.newarray .boolean, 2) := by decide +kernel
theorem dX11_init_191 : decode cX11_init 191 = .ok (.putfield 77, 3) := by decide +kernel
theorem dX11_init_194 : decode cX11_init 194 = .ok (.aload_n 0, 1) := by decide +kernel
theorem dX11_init_195 : decode cX11_init 195 = .ok (.bipush 6, 2) := by decide +kernel
theorem dX11_init_197 : decode cX11_init 197 = .ok (.newarray .boolean, 2) := by decide +kernel
theorem dX11_init_199 : decode cX11_init 199 = .ok (.putfield 80, 3) := by decide +kernel
theorem dX11_init_202 : decode cX11_init 202 = .ok (.aload_n 0, 1) := by decide +kernel
theorem dX11_init_203 : decode cX11_init 203 = .ok (.bipush 6, 2) := by decide +kernel
theorem dX11_init_205 : decode cX11_init 205 = .ok (.newarray .boolean, 2) := by decide +kernel
theorem dX11_init_207 : decode cX11_init 207 = .ok (.putfield 83, 3) := by decide +kernel
theorem dX11_init_210 : decode cX11_init 210 = .ok (.aload_n 0, 1) := by decide +kernel
theorem dX11_init_211 : decode cX11_init 211 = .ok (.bipush 12, 2) := by decide +kernel
theorem dX11_init_213 : decode cX11_init 213 = .ok (.newarray .int, 2) := by decide +kernel
theorem dX11_init_215 : decode cX11_init 215 = .ok (.putfield 86, 3) := by decide +kernel
theorem dX11_init_218 : decode cX11_init 218 = .ok (.aload_n 0, 1) := by decide +kernel
theorem dX11_init_219 : decode cX11_init 219 = .ok (.bipush 12, 2) := by decide +kernel
theorem dX11_init_221 : decode cX11_init 221 = .ok (.newarray .int, 2) := by decide +kernel
theorem dX11_init_223 : decode cX11_init 223 = .ok (.putfield 89, 3) := by decide +kernel
theorem dX11_init_226 : decode cX11_init 226 = .ok (.aload_n 0, 1) := by decide +kernel
theorem dX11_init_227 : decode cX11_init 227 = .ok (.bipush 12, 2) := by decide +kernel
theorem dX11_init_229 : decode cX11_init 229 = .ok (.newarray .int, 2) := by decide +kernel
theorem dX11_init_231 : decode cX11_init 231 = .ok (.putfield 92, 3) := by decide +kernel
theorem dX11_init_234 : decode cX11_init 234 = .ok (.aload_n 0, 1) := by decide +kernel
theorem dX11_init_235 : decode cX11_init 235 = .ok (.bipush 12, 2) := by decide +kernel
theorem dX11_init_237 : decode cX11_init 237 = .ok (.newarray .int, 2) := by decide +kernel
theorem dX11_init_239 : decode cX11_init 239 = .ok (.putfield 95, 3) := by decide +kernel
theorem dX11_init_242 : decode cX11_init 242 = .ok (.aload_n 0, 1) := by decide +kernel
theorem dX11_init_243 : decode cX11_init 243 = .ok (.bipush 12, 2) := by decide +kernel
theorem dX11_init_245 : decode cX11_init 245 = .ok (.newarray .boolean, 2) := by decide +kernel
theorem dX11_init_247 : decode cX11_init 247 = .ok (.putfield 98, 3) := by decide +kernel
theorem dX11_init_250 : decode cX11_init 250 = .ok (.aload_n 0, 1) := by decide +kernel
theorem dX11_init_251 : decode cX11_init 251 = .ok (.bipush 48, 2) := by decide +kernel
theorem dX11_init_253 : decode cX11_init 253 = .ok (.newarray .int, 2) := by decide +kernel
theorem dX11_init_255 : decode cX11_init 255 = .ok (.putfield 101, 3) := by decide +kernel
theorem dX11_init_258 : decode cX11_init 258 = .ok (.aload_n 0, 1) := by decide +kernel
theorem dX11_init_259 : decode cX11_init 259 = .ok (.iconst 4, 1) := by decide +kernel
theorem dX11_init_260 : decode cX11_init 260 = .ok (.newarray .int, 2) := by decide +kernel
theorem dX11_init_262 : decode cX11_init 262 = .ok (.putfield 104, 3) := by decide +kernel
theorem dX11_init_265 : decode cX11_init 265 = .ok (.aload_n 0, 1) := by decide +kernel
theorem dX11_init_266 : decode cX11_init 266 = .ok (.iconst 4, 1) := by decide +kernel
theorem dX11_init_267 : decode cX11_init 267 = .ok (.newarray .int, 2) := by decide +kernel
theorem dX11_init_269 : decode cX11_init 269 = .ok (.putfield 107, 3) := by decide +kernel
theorem dX11_init_272 : decode cX11_init 272 = .ok (.aload_n 0, 1) := by decide +kernel
theorem dX11_init_273 : decode cX11_init 273 = .ok (.sipush 128, 3) := by decide +kernel
theorem dX11_init_276 : decode cX11_init 276 = .ok (.newarray .int, 2) := by decide +kernel
theorem dX11_init_278 : decode cX11_init 278 = .ok (.putfield 110, 3) := by decide +kernel
theorem dX11_init_281 : decode cX11_init 281 = .ok (.aload_n 0, 1) := by decide +kernel
theorem dX11_init_282 : decode cX11_init 282 = .ok (.bipush 32, 2) := by decide +kernel
theorem dX11_init_284 : decode cX11_init 284 = .ok (.newarray .int, 2) := by decide +kernel
theorem dX11_init_286 : decode cX11_init 286 = .ok (.putfield 113, 3) := by decide +kernel
theorem dX11_init_289 : decode cX11_init 289 = .ok (.iconst 0, 1) := by decide +kernel
theorem dX11_init_290 : decode cX11_init 290 = .ok (.istore_n 1, 1) := by decide +kernel
theorem dX11_init_291 : decode cX11_init 291 = .ok (.iload_n 1, 1) := by decide +kernel
theorem dX11_init_292 : decode cX11_init 292 = .ok (.iconst 4, 1) := by decide +kernel
theorem dX11_init_293 : decode cX11_init 293 = .ok (.if_icmp .ge 16, 3) := by decide +kernel
theorem dX11_init_296 : decode cX11_init 296 = .ok (.aload_n 0, 1) := by decide +kernel
theorem dX11_init_297 : decode cX11_init 297 = .ok (.getfield 104, 3) := by decide +kernel
theorem dX11_init_300 : decode cX11_init 300 = .ok (.iload_n 1, 1) := by decide +kernel
theorem dX11_init_301 : decode cX11_init 301 = .ok (.iconst (-1), 1) := by decide +kernel
theorem dX11_init_302 : decode cX11_init 302 = .ok (.iastore, 1) := by decide +kernel
theorem dX11_init_303 : decode cX11_init 303 = .ok (.iinc 1 1, 3) := by decide +kernel
theorem dX11_init_306 : decode cX11_init 306 = .ok (.goto (-15), 3) := by decide +kernel
theorem dX11_init_309 : decode cX11_init 309 = .ok (.iconst 0, 1) := by decide +kernel
theorem dX11_init_310 : decode cX11_init 310 = .ok (.istore_n 1, 1) := by decide +kernel
theorem dX11_init_311 : decode cX11_init 311 = .ok (.iload_n 1, 1) := by decide +kernel
theorem dX11_init_312 : decode cX11_init 312 = .ok (.bipush 10, 2) := by decide +kernel
theorem dX11_init_314 : decode cX11_init 314 = .ok (.if_icmp .ge 16, 3) := by decide +kernel
theorem dX11_init_317 : decode cX11_init 317 = .ok (.aload_n 0, 1) := by decide +kernel
theorem dX11_init_318 : decode cX11_init 318 = .ok (.getfield 35, 3) := by decide +kernel
theorem dX11_init_321 : decode cX11_init 321 = .ok (.iload_n 1, 1) := by decide +kernel
theorem dX11_init_322 : decode cX11_init 322 = .ok (.iconst 5, 1) := by decide +kernel
theorem dX11_init_323 : decode cX11_init 323 = .ok (.iastore, 1) := by decide +kernel
theorem dX11_init_324 : decode cX11_init 324 = .ok (.iinc 1 1, 3) := by decide +kernel
theorem dX11_init_327 : decode cX11_init 327 = .ok (.goto (-16), 3) := by decide +kernel
theorem dX11_init_330 : decode cX11_init 330 = .ok (.return_, 1) := by decide +kernel
theorem dX11_isPerson_0 : decode cX11_isPerson 0 = .ok (.iload_n 1, 1) := by decide +kernel
theorem dX11_isPerson_1 : decode cX11_isPerson 1 = .ok (.i2l, 1) := by decide +kernel
theorem dX11_isPerson_2 : decode cX11_isPerson 2 = .ok (.lconst 0, 1) := by decide +kernel
theorem dX11_isPerson_3 : decode cX11_isPerson 3 = .ok (.aload_n 0, 1) := by decide +kernel
theorem dX11_isPerson_4 : decode cX11_isPerson 4 = .ok (.getfield 116, 3) := by decide +kernel
theorem dX11_isPerson_7 : decode cX11_isPerson 7 = .ok (.iconst 1, 1) := by decide +kernel
theorem dX11_isPerson_8 : decode cX11_isPerson 8 = .ok (.isub, 1) := by decide +kernel
theorem dX11_isPerson_9 : decode cX11_isPerson 9 = .ok (.i2l, 1) := by decide +kernel
theorem dX11_isPerson_10 : decode cX11_isPerson 10 = .ok (.invokestatic 120, 3) := by decide +kernel
theorem dX11_isPerson_13 : decode cX11_isPerson 13 = .ok (.ireturn, 1) := by decide +kernel
theorem dX11_isPlace_0 : decode cX11_isPlace 0 = .ok (.iload_n 0, 1) := by decide +kernel
theorem dX11_isPlace_1 : decode cX11_isPlace 1 = .ok (.i2l, 1) := by decide +kernel
theorem dX11_isPlace_2 : decode cX11_isPlace 2 = .ok (.lconst 0, 1) := by decide +kernel
theorem dX11_isPlace_3 : decode cX11_isPlace 3 = .ok (.ldc2_w 124, 3) := by decide +kernel
theorem dX11_isPlace_6 : decode cX11_isPlace 6 = .ok (.invokestatic 120, 3) := by decide +kernel
theorem dX11_isPlace_9 : decode cX11_isPlace 9 = .ok (.ireturn, 1) := by decide +kernel
theorem dX11_most_0 : decode cX11_most 0 = .ok (.iload_n 0, 1) := by decide +kernel
theorem dX11_most_1 : decode cX11_most 1 = .ok (.ifCond .ne 8, 3) := by decide +kernel
theorem dX11_most_4 : decode cX11_most 4 = .ok (.bipush 99, 2) := by decide +kernel
theorem dX11_most_6 : decode cX11_most 6 = .ok (.goto 33, 3) := by decide +kernel
theorem dX11_most_9 : decode cX11_most 9 = .ok (.iload_n 0, 1) := by decide +kernel
theorem dX11_most_10 : decode cX11_most 10 = .ok (.iconst 1, 1) := by decide +kernel
theorem dX11_most_11 : decode cX11_most 11 = .ok (.if_icmp .ne 7, 3) := by decide +kernel
theorem dX11_most_14 : decode cX11_most 14 = .ok (.iconst 4, 1) := by decide +kernel
theorem dX11_most_15 : decode cX11_most 15 = .ok (.goto 24, 3) := by decide +kernel
theorem dX11_most_18 : decode cX11_most 18 = .ok (.iload_n 0, 1) := by decide +kernel
theorem dX11_most_19 : decode cX11_most 19 = .ok (.iconst 2, 1) := by decide +kernel
theorem dX11_most_20 : decode cX11_most 20 = .ok (.if_icmp .ne 7, 3) := by decide +kernel
theorem dX11_most_23 : decode cX11_most 23 = .ok (.iconst 1, 1) := by decide +kernel
theorem dX11_most_24 : decode cX11_most 24 = .ok (.goto 15, 3) := by decide +kernel
theorem dX11_most_27 : decode cX11_most 27 = .ok (.iload_n 0, 1) := by decide +kernel
theorem dX11_most_28 : decode cX11_most 28 = .ok (.iconst 3, 1) := by decide +kernel
theorem dX11_most_29 : decode cX11_most 29 = .ok (.if_icmp .ne 8, 3) := by decide +kernel
theorem dX11_most_32 : decode cX11_most 32 = .ok (.bipush 9, 2) := by decide +kernel
theorem dX11_most_34 : decode cX11_most 34 = .ok (.goto 5, 3) := by decide +kernel
theorem dX11_most_37 : decode cX11_most 37 = .ok (.bipush 19, 2) := by decide +kernel
theorem dX11_most_39 : decode cX11_most 39 = .ok (.ireturn, 1) := by decide +kernel
theorem dX11_person_0 : decode cX11_person 0 = .ok (.iload_n 1, 1) := by decide +kernel
theorem dX11_person_1 : decode cX11_person 1 = .ok (.invokestatic 126, 3) := by decide +kernel
theorem dX11_person_4 : decode cX11_person 4 = .ok (.ifCond .eq 43, 3) := by decide +kernel
theorem dX11_person_7 : decode cX11_person 7 = .ok (.iload_n 2, 1) := by decide +kernel
theorem dX11_person_8 : decode cX11_person 8 = .ok (.invokestatic 126, 3) := by decide +kernel
theorem dX11_person_11 : decode cX11_person 11 = .ok (.ifCond .eq 36, 3) := by decide +kernel
theorem dX11_person_14 : decode cX11_person 14 = .ok (.iload_n 3, 1) := by decide +kernel
theorem dX11_person_15 : decode cX11_person 15 = .ok (.invokestatic 126, 3) := by decide +kernel
theorem dX11_person_18 : decode cX11_person 18 = .ok (.ifCond .eq 29, 3) := by decide +kernel
theorem dX11_person_21 : decode cX11_person 21 = .ok (.iload 4, 2) := by decide +kernel
theorem dX11_person_23 : decode cX11_person 23 = .ok (.i2l, 1) := by decide +kernel
theorem dX11_person_24 : decode cX11_person 24 = .ok (.lconst 0, 1) := by decide +kernel
theorem dX11_person_25 : decode cX11_person 25 = .ok (.ldc2_w 130, 3) := by decide +kernel
theorem dX11_person_28 : decode cX11_person 28 = .ok (.invokestatic 120, 3) := by decide +kernel
theorem dX11_person_31 : decode cX11_person 31 = .ok (.ifCond .eq 16, 3) := by decide +kernel
theorem dX11_person_34 : decode cX11_person 34 = .ok (.iload 5, 2) := by decide +kernel
theorem dX11_person_36 : decode cX11_person 36 = .ok (.i2l, 1) := by decide +kernel
theorem dX11_person_37 : decode cX11_person 37 = .ok (.lconst 0, 1) := by decide +kernel
theorem dX11_person_38 : decode cX11_person 38 = .ok (.ldc2_w 132, 3) := by decide +kernel
theorem dX11_person_41 : decode cX11_person 41 = .ok (.invokestatic 120, 3) := by decide +kernel
theorem dX11_person_44 : decode cX11_person 44 = .ok (.ifCond .ne 5, 3) := by decide +kernel
theorem dX11_person_47 : decode cX11_person 47 = .ok (.iconst (-1), 1) := by decide +kernel
theorem dX11_person_48 : decode cX11_person 48 = .ok (.ireturn, 1) := by decide +kernel
theorem dX11_person_49 : decode cX11_person 49 = .ok (.aload_n 0, 1) := by decide +kernel
theorem dX11_person_50 : decode cX11_person 50 = .ok (.getfield 116, 3) := by decide +kernel
theorem dX11_person_53 : decode cX11_person 53 = .ok (.bipush 16, 2) := by decide +kernel
theorem dX11_person_55 : decode cX11_person 55 = .ok (.if_icmp .ne 6, 3) := by decide +kernel
theorem dX11_person_58 : decode cX11_person 58 = .ok (.bipush (-3), 2) := by decide +kernel
theorem dX11_person_60 : decode cX11_person 60 = .ok (.ireturn, 1) := by decide +kernel
theorem dX11_person_61 : decode cX11_person 61 = .ok (.aload_n 0, 1) := by decide +kernel
theorem dX11_person_62 : decode cX11_person 62 = .ok (.getfield 7, 3) := by decide +kernel
theorem dX11_person_65 : decode cX11_person 65 = .ok (.iconst 3, 1) := by decide +kernel
theorem dX11_person_66 : decode cX11_person 66 = .ok (.aload_n 0, 1) := by decide +kernel
theorem dX11_person_67 : decode cX11_person 67 = .ok (.getfield 116, 3) := by decide +kernel
theorem dX11_person_70 : decode cX11_person 70 = .ok (.imul, 1) := by decide +kernel
theorem dX11_person_71 : decode cX11_person 71 = .ok (.iload_n 1, 1) := by decide +kernel
theorem dX11_person_72 : decode cX11_person 72 = .ok (.iastore, 1) := by decide +kernel
theorem dX11_person_73 : decode cX11_person 73 = .ok (.aload_n 0, 1) := by decide +kernel
theorem dX11_person_74 : decode cX11_person 74 = .ok (.getfield 7, 3) := by decide +kernel
theorem dX11_person_77 : decode cX11_person 77 = .ok (.iconst 3, 1) := by decide +kernel
theorem dX11_person_78 : decode cX11_person 78 = .ok (.aload_n 0, 1) := by decide +kernel
theorem dX11_person_79 : decode cX11_person 79 = .ok (.getfield 116, 3) := by decide +kernel
theorem dX11_person_82 : decode cX11_person 82 = .ok (.imul, 1) := by decide +kernel
theorem dX11_person_83 : decode cX11_person 83 = .ok (.iconst 1, 1) := by decide +kernel
theorem dX11_person_84 : decode cX11_person 84 = .ok (.iadd, 1) := by decide +kernel
theorem dX11_person_85 : decode cX11_person 85 = .ok (.iload_n 2, 1) := by decide +kernel
theorem dX11_person_86 : decode cX11_person 86 = .ok (.iastore, 1) := by decide +kernel
theorem dX11_person_87 : decode cX11_person 87 = .ok (.aload_n 0, 1) := by decide +kernel
theorem dX11_person_88 : decode cX11_person 88 = .ok (.getfield 7, 3) := by decide +kernel
theorem dX11_person_91 : decode cX11_person 91 = .ok (.iconst 3, 1) := by decide +kernel
theorem dX11_person_92 : decode cX11_person 92 = .ok (.aload_n 0, 1) := by decide +kernel
theorem dX11_person_93 : decode cX11_person 93 = .ok (.getfield 116, 3) := by decide +kernel
theorem dX11_person_96 : decode cX11_person 96 = .ok (.imul, 1) := by decide +kernel
theorem dX11_person_97 : decode cX11_person 97 = .ok (.iconst 2, 1) := by decide +kernel
theorem dX11_person_98 : decode cX11_person 98 = .ok (.iadd, 1) := by decide +kernel
theorem dX11_person_99 : decode cX11_person 99 = .ok (.iload_n 3, 1) := by decide +kernel
theorem dX11_person_100 : decode cX11_person 100 = .ok (.iastore, 1) := by decide +kernel
theorem dX11_person_101 : decode cX11_person 101 = .ok (.aload_n 0, 1) := by decide +kernel
theorem dX11_person_102 : decode cX11_person 102 = .ok (.getfield 13, 3) := by decide +kernel
theorem dX11_person_105 : decode cX11_person 105 = .ok (.iconst 5, 1) := by decide +kernel
theorem dX11_person_106 : decode cX11_person 106 = .ok (.aload_n 0, 1) := by decide +kernel
theorem dX11_person_107 : decode cX11_person 107 = .ok (.getfield 116, 3) := by decide +kernel
theorem dX11_person_110 : decode cX11_person 110 = .ok (.imul, 1) := by decide +kernel
theorem dX11_person_111 : decode cX11_person 111 = .ok (.bipush 50, 2) := by decide +kernel
theorem dX11_person_113 : decode cX11_person 113 = .ok (.iastore, 1) := by decide +kernel
theorem dX11_person_114 : decode cX11_person 114 = .ok (.aload_n 0, 1) := by decide +kernel
theorem dX11_person_115 : decode cX11_person 115 = .ok (.getfield 13, 3) := by decide +kernel
theorem dX11_person_118 : decode cX11_person 118 = .ok (.iconst 5, 1) := by decide +kernel
theorem dX11_person_119 : decode cX11_person 119 = .ok (.aload_n 0, 1) := by decide +kernel
theorem dX11_person_120 : decode cX11_person 120 = .ok (.getfield 116, 3) := by decide +kernel
theorem dX11_person_123 : decode cX11_person 123 = .ok (.imul, 1) := by decide +kernel
theorem dX11_person_124 : decode cX11_person 124 = .ok (.iconst 1, 1) := by decide +kernel
theorem dX11_person_125 : decode cX11_person 125 = .ok (.iadd, 1) := by decide +kernel
theorem dX11_person_126 : decode cX11_person 126 = .ok (.iconst 0, 1) := by decide +kernel
theorem dX11_person_127 : decode cX11_person 127 = .ok (.iastore, 1) := by decide +kernel
theorem dX11_person_128 : decode cX11_person 128 = .ok (.aload_n 0, 1) := by decide +kernel
theorem dX11_person_129 : decode cX11_person 129 = .ok (.getfield 13, 3) := by decide +kernel
theorem dX11_person_132 : decode cX11_person 132 = .ok (.iconst 5, 1) := by decide +kernel
theorem dX11_person_133 : decode cX11_person 133 = .ok (.aload_n 0, 1) := by decide +kernel
theorem dX11_person_134 : decode cX11_person 134 = .ok (.getfield 116, 3) := by decide +kernel
theorem dX11_person_137 : decode cX11_person 137 = .ok (.imul, 1) := by decide +kernel
theorem dX11_person_138 : decode cX11_person 138 = .ok (.iconst 2, 1) := by decide +kernel
theorem dX11_person_139 : decode cX11_person 139 = .ok (.iadd, 1) := by decide +kernel
theorem dX11_person_140 : decode cX11_person 140 = .ok (.iconst 0, 1) := by decide +kernel
theorem dX11_person_141 : decode cX11_person 141 = .ok (.iastore, 1) := by decide +kernel
theorem dX11_person_142 : decode cX11_person 142 = .ok (.aload_n 0, 1) := by decide +kernel
theorem dX11_person_143 : decode cX11_person 143 = .ok (.getfield 13, 3) := by decide +kernel
theorem dX11_person_146 : decode cX11_person 146 = .ok (.iconst 5, 1) := by decide +kernel
theorem dX11_person_147 : decode cX11_person 147 = .ok (.aload_n 0, 1) := by decide +kernel
theorem dX11_person_148 : decode cX11_person 148 = .ok (.getfield 116, 3) := by decide +kernel
theorem dX11_person_151 : decode cX11_person 151 = .ok (.imul, 1) := by decide +kernel
theorem dX11_person_152 : decode cX11_person 152 = .ok (.iconst 3, 1) := by decide +kernel
theorem dX11_person_153 : decode cX11_person 153 = .ok (.iadd, 1) := by decide +kernel
theorem dX11_person_154 : decode cX11_person 154 = .ok (.iload 4, 2) := by decide +kernel
theorem dX11_person_156 : decode cX11_person 156 = .ok (.iastore, 1) := by decide +kernel
theorem dX11_person_157 : decode cX11_person 157 = .ok (.aload_n 0, 1) := by decide +kernel
theorem dX11_person_158 : decode cX11_person 158 = .ok (.getfield 13, 3) := by decide +kernel
theorem dX11_person_161 : decode cX11_person 161 = .ok (.iconst 5, 1) := by decide +kernel
theorem dX11_person_162 : decode cX11_person 162 = .ok (.aload_n 0, 1) := by decide +kernel
theorem dX11_person_163 : decode cX11_person 163 = .ok (.getfield 116, 3) := by decide +kernel
theorem dX11_person_166 : decode cX11_person 166 = .ok (.imul, 1) := by decide +kernel
theorem dX11_person_167 : decode cX11_person 167 = .ok (.iconst 4, 1) := by decide +kernel
theorem dX11_person_168 : decode cX11_person 168 = .ok (.iadd, 1) := by decide +kernel
theorem dX11_person_169 : decode cX11_person 169 = .ok (.iload 5, 2) := by decide +kernel
theorem dX11_person_171 : decode cX11_person 171 = .ok (.iastore, 1) := by decide +kernel
theorem dX11_person_172 : decode cX11_person 172 = .ok (.aload_n 0, 1) := by decide +kernel
theorem dX11_person_173 : decode cX11_person 173 = .ok (.dup, 1) := by decide +kernel
theorem dX11_person_174 : decode cX11_person 174 = .ok (.getfield 116, 3) := by decide +kernel
theorem dX11_person_177 : decode cX11_person 177 = .ok (.iconst 1, 1) := by decide +kernel
theorem dX11_person_178 : decode cX11_person 178 = .ok (.iadd, 1) := by decide +kernel
theorem dX11_person_179 : decode cX11_person 179 = .ok (.putfield 116, 3) := by decide +kernel
theorem dX11_person_182 : decode cX11_person 182 = .ok (.aload_n 0, 1) := by decide +kernel
theorem dX11_person_183 : decode cX11_person 183 = .ok (.getfield 116, 3) := by decide +kernel
theorem dX11_person_186 : decode cX11_person 186 = .ok (.iconst 1, 1) := by decide +kernel
theorem dX11_person_187 : decode cX11_person 187 = .ok (.isub, 1) := by decide +kernel
theorem dX11_person_188 : decode cX11_person 188 = .ok (.ireturn, 1) := by decide +kernel
theorem dX11_set_0 : decode cX11_set 0 = .ok (.aload_n 0, 1) := by decide +kernel
theorem dX11_set_1 : decode cX11_set 1 = .ok (.iload_n 1, 1) := by decide +kernel
theorem dX11_set_2 : decode cX11_set 2 = .ok (.invokevirtual 134, 3) := by decide +kernel
theorem dX11_set_5 : decode cX11_set 5 = .ok (.ifCond .eq 29, 3) := by decide +kernel
theorem dX11_set_8 : decode cX11_set 8 = .ok (.iload_n 2, 1) := by decide +kernel
theorem dX11_set_9 : decode cX11_set 9 = .ok (.i2l, 1) := by decide +kernel
theorem dX11_set_10 : decode cX11_set 10 = .ok (.lconst 0, 1) := by decide +kernel
theorem dX11_set_11 : decode cX11_set 11 = .ok (.ldc2_w 137, 3) := by decide +kernel
theorem dX11_set_14 : decode cX11_set 14 = .ok (.invokestatic 120, 3) := by decide +kernel
theorem dX11_set_17 : decode cX11_set 17 = .ok (.ifCond .eq 17, 3) := by decide +kernel
theorem dX11_set_20 : decode cX11_set 20 = .ok (.iload_n 3, 1) := by decide +kernel
theorem dX11_set_21 : decode cX11_set 21 = .ok (.i2l, 1) := by decide +kernel
theorem dX11_set_22 : decode cX11_set 22 = .ok (.lconst 0, 1) := by decide +kernel
theorem dX11_set_23 : decode cX11_set 23 = .ok (.iload_n 2, 1) := by decide +kernel
theorem dX11_set_24 : decode cX11_set 24 = .ok (.invokestatic 139, 3) := by decide +kernel
theorem dX11_set_27 : decode cX11_set 27 = .ok (.i2l, 1) := by decide +kernel
theorem dX11_set_28 : decode cX11_set 28 = .ok (.invokestatic 120, 3) := by decide +kernel
theorem dX11_set_31 : decode cX11_set 31 = .ok (.ifCond .ne 5, 3) := by decide +kernel
theorem dX11_set_34 : decode cX11_set 34 = .ok (.iconst (-1), 1) := by decide +kernel
theorem dX11_set_35 : decode cX11_set 35 = .ok (.ireturn, 1) := by decide +kernel
theorem dX11_set_36 : decode cX11_set 36 = .ok (.aload_n 0, 1) := by decide +kernel
theorem dX11_set_37 : decode cX11_set 37 = .ok (.getfield 13, 3) := by decide +kernel
theorem dX11_set_40 : decode cX11_set 40 = .ok (.iconst 5, 1) := by decide +kernel
theorem dX11_set_41 : decode cX11_set 41 = .ok (.iload_n 1, 1) := by decide +kernel
theorem dX11_set_42 : decode cX11_set 42 = .ok (.imul, 1) := by decide +kernel
theorem dX11_set_43 : decode cX11_set 43 = .ok (.iload_n 2, 1) := by decide +kernel
theorem dX11_set_44 : decode cX11_set 44 = .ok (.iadd, 1) := by decide +kernel
theorem dX11_set_45 : decode cX11_set 45 = .ok (.iaload, 1) := by decide +kernel
theorem dX11_set_46 : decode cX11_set 46 = .ok (.istore 4, 2) := by decide +kernel
theorem dX11_set_48 : decode cX11_set 48 = .ok (.aload_n 0, 1) := by decide +kernel
theorem dX11_set_49 : decode cX11_set 49 = .ok (.getfield 13, 3) := by decide +kernel
theorem dX11_set_52 : decode cX11_set 52 = .ok (.iconst 5, 1) := by decide +kernel
theorem dX11_set_53 : decode cX11_set 53 = .ok (.iload_n 1, 1) := by decide +kernel
theorem dX11_set_54 : decode cX11_set 54 = .ok (.imul, 1) := by decide +kernel
theorem dX11_set_55 : decode cX11_set 55 = .ok (.iload_n 2, 1) := by decide +kernel
theorem dX11_set_56 : decode cX11_set 56 = .ok (.iadd, 1) := by decide +kernel
theorem dX11_set_57 : decode cX11_set 57 = .ok (.iload_n 3, 1) := by decide +kernel
theorem dX11_set_58 : decode cX11_set 58 = .ok (.iastore, 1) := by decide +kernel
theorem dX11_set_59 : decode cX11_set 59 = .ok (.iload 4, 2) := by decide +kernel
theorem dX11_set_61 : decode cX11_set 61 = .ok (.ireturn, 1) := by decide +kernel
theorem dX11_placeOf_0 : decode cX11_placeOf 0 = .ok (.iload_n 2, 1) := by decide +kernel
theorem dX11_placeOf_1 : decode cX11_placeOf 1 = .ok (.bipush 24, 2) := by decide +kernel
theorem dX11_placeOf_3 : decode cX11_placeOf 3 = .ok (.irem, 1) := by decide +kernel
theorem dX11_placeOf_4 : decode cX11_placeOf 4 = .ok (.istore_n 3, 1) := by decide +kernel
theorem dX11_placeOf_5 : decode cX11_placeOf 5 = .ok (.aload_n 0, 1) := by decide +kernel
theorem dX11_placeOf_6 : decode cX11_placeOf 6 = .ok (.getfield 7, 3) := by decide +kernel
theorem dX11_placeOf_9 : decode cX11_placeOf 9 = .ok (.iconst 3, 1) := by decide +kernel
theorem dX11_placeOf_10 : decode cX11_placeOf 10 = .ok (.iload_n 1, 1) := by decide +kernel
theorem dX11_placeOf_11 : decode cX11_placeOf 11 = .ok (.imul, 1) := by decide +kernel
theorem dX11_placeOf_12 : decode cX11_placeOf 12 = .ok (.iload_n 3, 1) := by decide +kernel
theorem dX11_placeOf_13 : decode cX11_placeOf 13 = .ok (.i2l, 1) := by decide +kernel
theorem dX11_placeOf_14 : decode cX11_placeOf 14 = .ok (.ldc2_w 143, 3) := by decide +kernel
theorem dX11_placeOf_17 : decode cX11_placeOf 17 = .ok (.ldc2_w 145, 3) := by decide +kernel
theorem dX11_placeOf_20 : decode cX11_placeOf 20 = .ok (.invokestatic 120, 3) := by decide +kernel
theorem dX11_placeOf_23 : decode cX11_placeOf 23 = .ok (.ifCond .eq 7, 3) := by decide +kernel
theorem dX11_placeOf_26 : decode cX11_placeOf 26 = .ok (.iconst 1, 1) := by decide +kernel
theorem dX11_placeOf_27 : decode cX11_placeOf 27 = .ok (.goto 22, 3) := by decide +kernel
theorem dX11_placeOf_30 : decode cX11_placeOf 30 = .ok (.iload_n 3, 1) := by decide +kernel
theorem dX11_placeOf_31 : decode cX11_placeOf 31 = .ok (.i2l, 1) := by decide +kernel
theorem dX11_placeOf_32 : decode cX11_placeOf 32 = .ok (.ldc2_w 147, 3) := by decide +kernel
theorem dX11_placeOf_35 : decode cX11_placeOf 35 = .ok (.ldc2_w 149, 3) := by decide +kernel
theorem dX11_placeOf_38 : decode cX11_placeOf 38 = .ok (.invokestatic 120, 3) := by decide +kernel
theorem dX11_placeOf_41 : decode cX11_placeOf 41 = .ok (.ifCond .eq 7, 3) := by decide +kernel
theorem dX11_placeOf_44 : decode cX11_placeOf 44 = .ok (.iconst 2, 1) := by decide +kernel
theorem dX11_placeOf_45 : decode cX11_placeOf 45 = .ok (.goto 4, 3) := by decide +kernel
theorem dX11_placeOf_48 : decode cX11_placeOf 48 = .ok (.iconst 0, 1) := by decide +kernel
theorem dX11_placeOf_49 : decode cX11_placeOf 49 = .ok (.iadd, 1) := by decide +kernel
theorem dX11_placeOf_50 : decode cX11_placeOf 50 = .ok (.iaload, 1) := by decide +kernel
theorem dX11_placeOf_51 : decode cX11_placeOf 51 = .ok (.ireturn, 1) := by decide +kernel
theorem dX11_where_0 : decode cX11_where 0 = .ok (.aload_n 0, 1) := by decide +kernel
theorem dX11_where_1 : decode cX11_where 1 = .ok (.iload_n 1, 1) := by decide +kernel
theorem dX11_where_2 : decode cX11_where 2 = .ok (.invokevirtual 134, 3) := by decide +kernel
theorem dX11_where_5 : decode cX11_where 5 = .ok (.ifCond .eq 24, 3) := by decide +kernel
theorem dX11_where_8 : decode cX11_where 8 = .ok (.iload_n 2, 1) := by decide +kernel
theorem dX11_where_9 : decode cX11_where 9 = .ok (.i2l, 1) := by decide +kernel
theorem dX11_where_10 : decode cX11_where 10 = .ok (.lconst 0, 1) := by decide +kernel
theorem dX11_where_11 : decode cX11_where 11 = .ok (.ldc2_w 151, 3) := by decide +kernel
theorem dX11_where_14 : decode cX11_where 14 = .ok (.invokestatic 120, 3) := by decide +kernel
theorem dX11_where_17 : decode cX11_where 17 = .ok (.ifCond .eq 12, 3) := by decide +kernel
theorem dX11_where_20 : decode cX11_where 20 = .ok (.aload_n 0, 1) := by decide +kernel
theorem dX11_where_21 : decode cX11_where 21 = .ok (.iload_n 1, 1) := by decide +kernel
theorem dX11_where_22 : decode cX11_where 22 = .ok (.iload_n 2, 1) := by decide +kernel
theorem dX11_where_23 : decode cX11_where 23 = .ok (.invokevirtual 153, 3) := by decide +kernel
theorem dX11_where_26 : decode cX11_where 26 = .ok (.goto 4, 3) := by decide +kernel
theorem dX11_where_29 : decode cX11_where 29 = .ok (.iconst (-1), 1) := by decide +kernel
theorem dX11_where_30 : decode cX11_where 30 = .ok (.ireturn, 1) := by decide +kernel
theorem dX11_trust_0 : decode cX11_trust 0 = .ok (.aload_n 0, 1) := by decide +kernel
theorem dX11_trust_1 : decode cX11_trust 1 = .ok (.getfield 13, 3) := by decide +kernel
theorem dX11_trust_4 : decode cX11_trust 4 = .ok (.iconst 5, 1) := by decide +kernel
theorem dX11_trust_5 : decode cX11_trust 5 = .ok (.iload_n 1, 1) := by decide +kernel
theorem dX11_trust_6 : decode cX11_trust 6 = .ok (.imul, 1) := by decide +kernel
theorem dX11_trust_7 : decode cX11_trust 7 = .ok (.iaload, 1) := by decide +kernel
theorem dX11_trust_8 : decode cX11_trust 8 = .ok (.ireturn, 1) := by decide +kernel
theorem dX11_isReader_0 : decode cX11_isReader 0 = .ok (.aload_n 0, 1) := by decide +kernel
theorem dX11_isReader_1 : decode cX11_isReader 1 = .ok (.getfield 13, 3) := by decide +kernel
theorem dX11_isReader_4 : decode cX11_isReader 4 = .ok (.iconst 5, 1) := by decide +kernel
theorem dX11_isReader_5 : decode cX11_isReader 5 = .ok (.iload_n 1, 1) := by decide +kernel
theorem dX11_isReader_6 : decode cX11_isReader 6 = .ok (.imul, 1) := by decide +kernel
theorem dX11_isReader_7 : decode cX11_isReader 7 = .ok (.iconst 2, 1) := by decide +kernel
theorem dX11_isReader_8 : decode cX11_isReader 8 = .ok (.iadd, 1) := by decide +kernel
theorem dX11_isReader_9 : decode cX11_isReader 9 = .ok (.iaload, 1) := by decide +kernel
theorem dX11_isReader_10 : decode cX11_isReader 10 = .ok (.iconst 1, 1) := by decide +kernel
theorem dX11_isReader_11 : decode cX11_isReader 11 = .ok (.if_icmp .ne 7, 3) := by decide +kernel
theorem dX11_isReader_14 : decode cX11_isReader 14 = .ok (.iconst 1, 1) := by decide +kernel
theorem dX11_isReader_15 : decode cX11_isReader 15 = .ok (.goto 4, 3) := by decide +kernel
theorem dX11_isReader_18 : decode cX11_isReader 18 = .ok (.iconst 0, 1) := by decide +kernel
theorem dX11_isReader_19 : decode cX11_isReader 19 = .ok (.ireturn, 1) := by decide +kernel
theorem dX11_fear_0 : decode cX11_fear 0 = .ok (.aload_n 0, 1) := by decide +kernel
theorem dX11_fear_1 : decode cX11_fear 1 = .ok (.getfield 13, 3) := by decide +kernel
theorem dX11_fear_4 : decode cX11_fear 4 = .ok (.iconst 5, 1) := by decide +kernel
theorem dX11_fear_5 : decode cX11_fear 5 = .ok (.iload_n 1, 1) := by decide +kernel
theorem dX11_fear_6 : decode cX11_fear 6 = .ok (.imul, 1) := by decide +kernel
theorem dX11_fear_7 : decode cX11_fear 7 = .ok (.iconst 3, 1) := by decide +kernel
theorem dX11_fear_8 : decode cX11_fear 8 = .ok (.iadd, 1) := by decide +kernel
theorem dX11_fear_9 : decode cX11_fear 9 = .ok (.iaload, 1) := by decide +kernel
theorem dX11_fear_10 : decode cX11_fear 10 = .ok (.ireturn, 1) := by decide +kernel
theorem dX11_isSaying_0 : decode cX11_isSaying 0 = .ok (.iload_n 1, 1) := by decide +kernel
theorem dX11_isSaying_1 : decode cX11_isSaying 1 = .ok (.i2l, 1) := by decide +kernel
theorem dX11_isSaying_2 : decode cX11_isSaying 2 = .ok (.lconst 0, 1) := by decide +kernel
theorem dX11_isSaying_3 : decode cX11_isSaying 3 = .ok (.aload_n 0, 1) := by decide +kernel
theorem dX11_isSaying_4 : decode cX11_isSaying 4 = .ok (.getfield 157, 3) := by decide +kernel
theorem dX11_isSaying_7 : decode cX11_isSaying 7 = .ok (.iconst 1, 1) := by decide +kernel
theorem dX11_isSaying_8 : decode cX11_isSaying 8 = .ok (.isub, 1) := by decide +kernel
theorem dX11_isSaying_9 : decode cX11_isSaying 9 = .ok (.i2l, 1) := by decide +kernel
theorem dX11_isSaying_10 : decode cX11_isSaying 10 = .ok (.invokestatic 120, 3) := by decide +kernel
theorem dX11_isSaying_13 : decode cX11_isSaying 13 = .ok (.ireturn, 1) := by decide +kernel
theorem dX11_isDigit_0 : decode cX11_isDigit 0 = .ok (.iload_n 0, 1) := by decide +kernel
theorem dX11_isDigit_1 : decode cX11_isDigit 1 = .ok (.i2l, 1) := by decide +kernel
theorem dX11_isDigit_2 : decode cX11_isDigit 2 = .ok (.lconst 0, 1) := by decide +kernel
theorem dX11_isDigit_3 : decode cX11_isDigit 3 = .ok (.ldc2_w 130, 3) := by decide +kernel
theorem dX11_isDigit_6 : decode cX11_isDigit 6 = .ok (.invokestatic 120, 3) := by decide +kernel
theorem dX11_isDigit_9 : decode cX11_isDigit 9 = .ok (.ireturn, 1) := by decide +kernel
theorem dX11_unit_0 : decode cX11_unit 0 = .ok (.iload_n 0, 1) := by decide +kernel
theorem dX11_unit_1 : decode cX11_unit 1 = .ok (.iconst 1, 1) := by decide +kernel
theorem dX11_unit_2 : decode cX11_unit 2 = .ok (.if_icmp .ne 9, 3) := by decide +kernel
theorem dX11_unit_5 : decode cX11_unit 5 = .ok (.sipush 1000, 3) := by decide +kernel
theorem dX11_unit_8 : decode cX11_unit 8 = .ok (.goto 24, 3) := by decide +kernel
theorem dX11_unit_11 : decode cX11_unit 11 = .ok (.iload_n 0, 1) := by decide +kernel
theorem dX11_unit_12 : decode cX11_unit 12 = .ok (.iconst 2, 1) := by decide +kernel
theorem dX11_unit_13 : decode cX11_unit 13 = .ok (.if_icmp .ne 8, 3) := by decide +kernel
theorem dX11_unit_16 : decode cX11_unit 16 = .ok (.bipush 100, 2) := by decide +kernel
theorem dX11_unit_18 : decode cX11_unit 18 = .ok (.goto 14, 3) := by decide +kernel
theorem dX11_unit_21 : decode cX11_unit 21 = .ok (.iload_n 0, 1) := by decide +kernel
theorem dX11_unit_22 : decode cX11_unit 22 = .ok (.iconst 3, 1) := by decide +kernel
theorem dX11_unit_23 : decode cX11_unit 23 = .ok (.if_icmp .ne 8, 3) := by decide +kernel
theorem dX11_unit_26 : decode cX11_unit 26 = .ok (.bipush 10, 2) := by decide +kernel
theorem dX11_unit_28 : decode cX11_unit 28 = .ok (.goto 4, 3) := by decide +kernel
theorem dX11_unit_31 : decode cX11_unit 31 = .ok (.iconst 1, 1) := by decide +kernel
theorem dX11_unit_32 : decode cX11_unit 32 = .ok (.ireturn, 1) := by decide +kernel
theorem dX11_partOf_0 : decode cX11_partOf 0 = .ok (.iload_n 0, 1) := by decide +kernel
theorem dX11_partOf_1 : decode cX11_partOf 1 = .ok (.iload_n 1, 1) := by decide +kernel
theorem dX11_partOf_2 : decode cX11_partOf 2 = .ok (.invokestatic 160, 3) := by decide +kernel
theorem dX11_partOf_5 : decode cX11_partOf 5 = .ok (.idiv, 1) := by decide +kernel
theorem dX11_partOf_6 : decode cX11_partOf 6 = .ok (.bipush 10, 2) := by decide +kernel
theorem dX11_partOf_8 : decode cX11_partOf 8 = .ok (.irem, 1) := by decide +kernel
theorem dX11_partOf_9 : decode cX11_partOf 9 = .ok (.ireturn, 1) := by decide +kernel
theorem dX11_comes_0 : decode cX11_comes 0 = .ok (.aload_n 0, 1) := by decide +kernel
theorem dX11_comes_1 : decode cX11_comes 1 = .ok (.getfield 157, 3) := by decide +kernel
theorem dX11_comes_4 : decode cX11_comes 4 = .ok (.bipush 8, 2) := by decide +kernel
theorem dX11_comes_6 : decode cX11_comes 6 = .ok (.if_icmp .ne 6, 3) := by decide +kernel
theorem dX11_comes_9 : decode cX11_comes 9 = .ok (.bipush (-3), 2) := by decide +kernel
theorem dX11_comes_11 : decode cX11_comes 11 = .ok (.ireturn, 1) := by decide +kernel
theorem dX11_comes_12 : decode cX11_comes 12 = .ok (.aload_n 0, 1) := by decide +kernel
theorem dX11_comes_13 : decode cX11_comes 13 = .ok (.getfield 16, 3) := by decide +kernel
theorem dX11_comes_16 : decode cX11_comes 16 = .ok (.aload_n 0, 1) := by decide +kernel
theorem dX11_comes_17 : decode cX11_comes 17 = .ok (.getfield 157, 3) := by decide +kernel
theorem dX11_comes_20 : decode cX11_comes 20 = .ok (.iload_n 1, 1) := by decide +kernel
theorem dX11_comes_21 : decode cX11_comes 21 = .ok (.iastore, 1) := by decide +kernel
theorem dX11_comes_22 : decode cX11_comes 22 = .ok (.aload_n 0, 1) := by decide +kernel
theorem dX11_comes_23 : decode cX11_comes 23 = .ok (.getfield 19, 3) := by decide +kernel
theorem dX11_comes_26 : decode cX11_comes 26 = .ok (.aload_n 0, 1) := by decide +kernel
theorem dX11_comes_27 : decode cX11_comes 27 = .ok (.getfield 157, 3) := by decide +kernel
theorem dX11_comes_30 : decode cX11_comes 30 = .ok (.iload_n 2, 1) := by decide +kernel
theorem dX11_comes_31 : decode cX11_comes 31 = .ok (.iastore, 1) := by decide +kernel
theorem dX11_comes_32 : decode cX11_comes 32 = .ok (.aload_n 0, 1) := by decide +kernel
theorem dX11_comes_33 : decode cX11_comes 33 = .ok (.getfield 22, 3) := by decide +kernel
theorem dX11_comes_36 : decode cX11_comes 36 = .ok (.aload_n 0, 1) := by decide +kernel
theorem dX11_comes_37 : decode cX11_comes 37 = .ok (.getfield 157, 3) := by decide +kernel
theorem dX11_comes_40 : decode cX11_comes 40 = .ok (.iload_n 3, 1) := by decide +kernel
theorem dX11_comes_41 : decode cX11_comes 41 = .ok (.iastore, 1) := by decide +kernel
theorem dX11_comes_42 : decode cX11_comes 42 = .ok (.aload_n 0, 1) := by decide +kernel
theorem dX11_comes_43 : decode cX11_comes 43 = .ok (.getfield 25, 3) := by decide +kernel
theorem dX11_comes_46 : decode cX11_comes 46 = .ok (.aload_n 0, 1) := by decide +kernel
theorem dX11_comes_47 : decode cX11_comes 47 = .ok (.getfield 157, 3) := by decide +kernel
theorem dX11_comes_50 : decode cX11_comes 50 = .ok (.iload 4, 2) := by decide +kernel
theorem dX11_comes_52 : decode cX11_comes 52 = .ok (.iastore, 1) := by decide +kernel
theorem dX11_comes_53 : decode cX11_comes 53 = .ok (.aload_n 0, 1) := by decide +kernel
theorem dX11_comes_54 : decode cX11_comes 54 = .ok (.getfield 28, 3) := by decide +kernel
theorem dX11_comes_57 : decode cX11_comes 57 = .ok (.aload_n 0, 1) := by decide +kernel
theorem dX11_comes_58 : decode cX11_comes 58 = .ok (.getfield 157, 3) := by decide +kernel
theorem dX11_comes_61 : decode cX11_comes 61 = .ok (.iload 5, 2) := by decide +kernel
theorem dX11_comes_63 : decode cX11_comes 63 = .ok (.bastore, 1) := by decide +kernel
theorem dX11_comes_64 : decode cX11_comes 64 = .ok (.aload_n 0, 1) := by decide +kernel
theorem dX11_comes_65 : decode cX11_comes 65 = .ok (.getfield 32, 3) := by decide +kernel
theorem dX11_comes_68 : decode cX11_comes 68 = .ok (.aload_n 0, 1) := by decide +kernel
theorem dX11_comes_69 : decode cX11_comes 69 = .ok (.getfield 157, 3) := by decide +kernel
theorem dX11_comes_72 : decode cX11_comes 72 = .ok (.iconst 0, 1) := by decide +kernel
theorem dX11_comes_73 : decode cX11_comes 73 = .ok (.iastore, 1) := by decide +kernel
theorem dX11_comes_74 : decode cX11_comes 74 = .ok (.aload_n 0, 1) := by decide +kernel
theorem dX11_comes_75 : decode cX11_comes 75 = .ok (.dup, 1) := by decide +kernel
theorem dX11_comes_76 : decode cX11_comes 76 = .ok (.getfield 157, 3) := by decide +kernel
theorem dX11_comes_79 : decode cX11_comes 79 = .ok (.iconst 1, 1) := by decide +kernel
theorem dX11_comes_80 : decode cX11_comes 80 = .ok (.iadd, 1) := by decide +kernel
theorem dX11_comes_81 : decode cX11_comes 81 = .ok (.putfield 157, 3) := by decide +kernel
theorem dX11_comes_84 : decode cX11_comes 84 = .ok (.aload_n 0, 1) := by decide +kernel
theorem dX11_comes_85 : decode cX11_comes 85 = .ok (.getfield 157, 3) := by decide +kernel
theorem dX11_comes_88 : decode cX11_comes 88 = .ok (.iconst 1, 1) := by decide +kernel
theorem dX11_comes_89 : decode cX11_comes 89 = .ok (.isub, 1) := by decide +kernel
theorem dX11_comes_90 : decode cX11_comes 90 = .ok (.ireturn, 1) := by decide +kernel
theorem dX11_areParts_0 : decode cX11_areParts 0 = .ok (.iload_n 0, 1) := by decide +kernel
theorem dX11_areParts_1 : decode cX11_areParts 1 = .ok (.invokestatic 163, 3) := by decide +kernel
theorem dX11_areParts_4 : decode cX11_areParts 4 = .ok (.ifCond .eq 28, 3) := by decide +kernel
theorem dX11_areParts_7 : decode cX11_areParts 7 = .ok (.iload_n 1, 1) := by decide +kernel
theorem dX11_areParts_8 : decode cX11_areParts 8 = .ok (.invokestatic 163, 3) := by decide +kernel
theorem dX11_areParts_11 : decode cX11_areParts 11 = .ok (.ifCond .eq 21, 3) := by decide +kernel
theorem dX11_areParts_14 : decode cX11_areParts 14 = .ok (.iload_n 2, 1) := by decide +kernel
theorem dX11_areParts_15 : decode cX11_areParts 15 = .ok (.invokestatic 163, 3) := by decide +kernel
theorem dX11_areParts_18 : decode cX11_areParts 18 = .ok (.ifCond .eq 14, 3) := by decide +kernel
theorem dX11_areParts_21 : decode cX11_areParts 21 = .ok (.iload_n 3, 1) := by decide +kernel
theorem dX11_areParts_22 : decode cX11_areParts 22 = .ok (.invokestatic 163, 3) := by decide +kernel
theorem dX11_areParts_25 : decode cX11_areParts 25 = .ok (.ifCond .eq 7, 3) := by decide +kernel
theorem dX11_areParts_28 : decode cX11_areParts 28 = .ok (.iconst 1, 1) := by decide +kernel
theorem dX11_areParts_29 : decode cX11_areParts 29 = .ok (.goto 4, 3) := by decide +kernel
theorem dX11_areParts_32 : decode cX11_areParts 32 = .ok (.iconst 0, 1) := by decide +kernel
theorem dX11_areParts_33 : decode cX11_areParts 33 = .ok (.ireturn, 1) := by decide +kernel
theorem dX11_plain_0 : decode cX11_plain 0 = .ok (.iload_n 1, 1) := by decide +kernel
theorem dX11_plain_1 : decode cX11_plain 1 = .ok (.iload_n 2, 1) := by decide +kernel
theorem dX11_plain_2 : decode cX11_plain 2 = .ok (.iload_n 3, 1) := by decide +kernel
theorem dX11_plain_3 : decode cX11_plain 3 = .ok (.iload 4, 2) := by decide +kernel
theorem dX11_plain_5 : decode cX11_plain 5 = .ok (.invokestatic 166, 3) := by decide +kernel
theorem dX11_plain_8 : decode cX11_plain 8 = .ok (.ifCond .eq 32, 3) := by decide +kernel
theorem dX11_plain_11 : decode cX11_plain 11 = .ok (.aload_n 0, 1) := by decide +kernel
theorem dX11_plain_12 : decode cX11_plain 12 = .ok (.iconst 0, 1) := by decide +kernel
theorem dX11_plain_13 : decode cX11_plain 13 = .ok (.sipush 1000, 3) := by decide +kernel
theorem dX11_plain_16 : decode cX11_plain 16 = .ok (.iload_n 1, 1) := by decide +kernel
theorem dX11_plain_17 : decode cX11_plain 17 = .ok (.imul, 1) := by decide +kernel
theorem dX11_plain_18 : decode cX11_plain 18 = .ok (.bipush 100, 2) := by decide +kernel
theorem dX11_plain_20 : decode cX11_plain 20 = .ok (.iload_n 2, 1) := by decide +kernel
theorem dX11_plain_21 : decode cX11_plain 21 = .ok (.imul, 1) := by decide +kernel
theorem dX11_plain_22 : decode cX11_plain 22 = .ok (.iadd, 1) := by decide +kernel
theorem dX11_plain_23 : decode cX11_plain 23 = .ok (.bipush 10, 2) := by decide +kernel
theorem dX11_plain_25 : decode cX11_plain 25 = .ok (.iload_n 3, 1) := by decide +kernel
theorem dX11_plain_26 : decode cX11_plain 26 = .ok (.imul, 1) := by decide +kernel
theorem dX11_plain_27 : decode cX11_plain 27 = .ok (.iadd, 1) := by decide +kernel
theorem dX11_plain_28 : decode cX11_plain 28 = .ok (.iload 4, 2) := by decide +kernel
theorem dX11_plain_30 : decode cX11_plain 30 = .ok (.iadd, 1) := by decide +kernel
theorem dX11_plain_31 : decode cX11_plain 31 = .ok (.iconst 0, 1) := by decide +kernel
theorem dX11_plain_32 : decode cX11_plain 32 = .ok (.iconst 0, 1) := by decide +kernel
theorem dX11_plain_33 : decode cX11_plain 33 = .ok (.iconst 1, 1) := by decide +kernel
theorem dX11_plain_34 : decode cX11_plain 34 = .ok (.invokevirtual 170, 3) := by decide +kernel
theorem dX11_plain_37 : decode cX11_plain 37 = .ok (.goto 4, 3) := by decide +kernel
theorem dX11_plain_40 : decode cX11_plain 40 = .ok (.iconst (-1), 1) := by decide +kernel
theorem dX11_plain_41 : decode cX11_plain 41 = .ok (.ireturn, 1) := by decide +kernel
theorem dX11_changed_0 : decode cX11_changed 0 = .ok (.aload_n 0, 1) := by decide +kernel
theorem dX11_changed_1 : decode cX11_changed 1 = .ok (.iload_n 1, 1) := by decide +kernel
theorem dX11_changed_2 : decode cX11_changed 2 = .ok (.invokevirtual 174, 3) := by decide +kernel
theorem dX11_changed_5 : decode cX11_changed 5 = .ok (.ifCond .eq 22, 3) := by decide +kernel
theorem dX11_changed_8 : decode cX11_changed 8 = .ok (.iload_n 2, 1) := by decide +kernel
theorem dX11_changed_9 : decode cX11_changed 9 = .ok (.i2l, 1) := by decide +kernel
theorem dX11_changed_10 : decode cX11_changed 10 = .ok (.lconst 1, 1) := by decide +kernel
theorem dX11_changed_11 : decode cX11_changed 11 = .ok (.ldc2_w 137, 3) := by decide +kernel
theorem dX11_changed_14 : decode cX11_changed 14 = .ok (.invokestatic 120, 3) := by decide +kernel
theorem dX11_changed_17 : decode cX11_changed 17 = .ok (.ifCond .eq 10, 3) := by decide +kernel
theorem dX11_changed_20 : decode cX11_changed 20 = .ok (.iload_n 3, 1) := by decide +kernel
theorem dX11_changed_21 : decode cX11_changed 21 = .ok (.invokestatic 163, 3) := by decide +kernel
theorem dX11_changed_24 : decode cX11_changed 24 = .ok (.ifCond .ne 5, 3) := by decide +kernel
theorem dX11_changed_27 : decode cX11_changed 27 = .ok (.iconst (-1), 1) := by decide +kernel
theorem dX11_changed_28 : decode cX11_changed 28 = .ok (.ireturn, 1) := by decide +kernel
theorem dX11_changed_29 : decode cX11_changed 29 = .ok (.aload_n 0, 1) := by decide +kernel
theorem dX11_changed_30 : decode cX11_changed 30 = .ok (.getfield 19, 3) := by decide +kernel
theorem dX11_changed_33 : decode cX11_changed 33 = .ok (.iload_n 1, 1) := by decide +kernel
theorem dX11_changed_34 : decode cX11_changed 34 = .ok (.iaload, 1) := by decide +kernel
theorem dX11_changed_35 : decode cX11_changed 35 = .ok (.iload_n 2, 1) := by decide +kernel
theorem dX11_changed_36 : decode cX11_changed 36 = .ok (.invokestatic 177, 3) := by decide +kernel
theorem dX11_changed_39 : decode cX11_changed 39 = .ok (.istore 4, 2) := by decide +kernel
theorem dX11_changed_41 : decode cX11_changed 41 = .ok (.iload 4, 2) := by decide +kernel
theorem dX11_changed_43 : decode cX11_changed 43 = .ok (.iload_n 3, 1) := by decide +kernel
theorem dX11_changed_44 : decode cX11_changed 44 = .ok (.if_icmp .ne 8, 3) := by decide +kernel
theorem dX11_changed_47 : decode cX11_changed 47 = .ok (.bipush (-2), 2) := by decide +kernel
theorem dX11_changed_49 : decode cX11_changed 49 = .ok (.goto 27, 3) := by decide +kernel
theorem dX11_changed_52 : decode cX11_changed 52 = .ok (.aload_n 0, 1) := by decide +kernel
theorem dX11_changed_53 : decode cX11_changed 53 = .ok (.iconst 1, 1) := by decide +kernel
theorem dX11_changed_54 : decode cX11_changed 54 = .ok (.aload_n 0, 1) := by decide +kernel
theorem dX11_changed_55 : decode cX11_changed 55 = .ok (.getfield 19, 3) := by decide +kernel
theorem dX11_changed_58 : decode cX11_changed 58 = .ok (.iload_n 1, 1) := by decide +kernel
theorem dX11_changed_59 : decode cX11_changed 59 = .ok (.iaload, 1) := by decide +kernel
theorem dX11_changed_60 : decode cX11_changed 60 = .ok (.iload_n 3, 1) := by decide +kernel
theorem dX11_changed_61 : decode cX11_changed 61 = .ok (.iload 4, 2) := by decide +kernel
theorem dX11_changed_63 : decode cX11_changed 63 = .ok (.isub, 1) := by decide +kernel
theorem dX11_changed_64 : decode cX11_changed 64 = .ok (.iload_n 2, 1) := by decide +kernel
theorem dX11_changed_65 : decode cX11_changed 65 = .ok (.invokestatic 160, 3) := by decide +kernel
theorem dX11_changed_68 : decode cX11_changed 68 = .ok (.imul, 1) := by decide +kernel
theorem dX11_changed_69 : decode cX11_changed 69 = .ok (.iadd, 1) := by decide +kernel
theorem dX11_changed_70 : decode cX11_changed 70 = .ok (.iload_n 1, 1) := by decide +kernel
theorem dX11_changed_71 : decode cX11_changed 71 = .ok (.iconst 0, 1) := by decide +kernel
theorem dX11_changed_72 : decode cX11_changed 72 = .ok (.iconst 1, 1) := by decide +kernel
theorem dX11_changed_73 : decode cX11_changed 73 = .ok (.invokevirtual 170, 3) := by decide +kernel
theorem dX11_changed_76 : decode cX11_changed 76 = .ok (.ireturn, 1) := by decide +kernel
theorem dX11_planted_0 : decode cX11_planted 0 = .ok (.aload_n 0, 1) := by decide +kernel
theorem dX11_planted_1 : decode cX11_planted 1 = .ok (.iload_n 1, 1) := by decide +kernel
theorem dX11_planted_2 : decode cX11_planted 2 = .ok (.invokevirtual 174, 3) := by decide +kernel
theorem dX11_planted_5 : decode cX11_planted 5 = .ok (.ifCond .eq 32, 3) := by decide +kernel
theorem dX11_planted_8 : decode cX11_planted 8 = .ok (.iload_n 2, 1) := by decide +kernel
theorem dX11_planted_9 : decode cX11_planted 9 = .ok (.i2l, 1) := by decide +kernel
theorem dX11_planted_10 : decode cX11_planted 10 = .ok (.lconst 0, 1) := by decide +kernel
theorem dX11_planted_11 : decode cX11_planted 11 = .ok (.ldc2_w 151, 3) := by decide +kernel
theorem dX11_planted_14 : decode cX11_planted 14 = .ok (.invokestatic 120, 3) := by decide +kernel
theorem dX11_planted_17 : decode cX11_planted 17 = .ok (.ifCond .eq 20, 3) := by decide +kernel
theorem dX11_planted_20 : decode cX11_planted 20 = .ok (.aload_n 0, 1) := by decide +kernel
theorem dX11_planted_21 : decode cX11_planted 21 = .ok (.iconst 2, 1) := by decide +kernel
theorem dX11_planted_22 : decode cX11_planted 22 = .ok (.aload_n 0, 1) := by decide +kernel
theorem dX11_planted_23 : decode cX11_planted 23 = .ok (.getfield 19, 3) := by decide +kernel
theorem dX11_planted_26 : decode cX11_planted 26 = .ok (.iload_n 1, 1) := by decide +kernel
theorem dX11_planted_27 : decode cX11_planted 27 = .ok (.iaload, 1) := by decide +kernel
theorem dX11_planted_28 : decode cX11_planted 28 = .ok (.iload_n 1, 1) := by decide +kernel
theorem dX11_planted_29 : decode cX11_planted 29 = .ok (.iload_n 2, 1) := by decide +kernel
theorem dX11_planted_30 : decode cX11_planted 30 = .ok (.iconst 1, 1) := by decide +kernel
theorem dX11_planted_31 : decode cX11_planted 31 = .ok (.invokevirtual 170, 3) := by decide +kernel
theorem dX11_planted_34 : decode cX11_planted 34 = .ok (.goto 4, 3) := by decide +kernel
theorem dX11_planted_37 : decode cX11_planted 37 = .ok (.iconst (-1), 1) := by decide +kernel
theorem dX11_planted_38 : decode cX11_planted 38 = .ok (.ireturn, 1) := by decide +kernel
theorem dX11_real_0 : decode cX11_real 0 = .ok (.iload_n 1, 1) := by decide +kernel
theorem dX11_real_1 : decode cX11_real 1 = .ok (.iload_n 2, 1) := by decide +kernel
theorem dX11_real_2 : decode cX11_real 2 = .ok (.iload_n 3, 1) := by decide +kernel
theorem dX11_real_3 : decode cX11_real 3 = .ok (.iload 4, 2) := by decide +kernel
theorem dX11_real_5 : decode cX11_real 5 = .ok (.invokestatic 166, 3) := by decide +kernel
theorem dX11_real_8 : decode cX11_real 8 = .ok (.ifCond .eq 33, 3) := by decide +kernel
theorem dX11_real_11 : decode cX11_real 11 = .ok (.aload_n 0, 1) := by decide +kernel
theorem dX11_real_12 : decode cX11_real 12 = .ok (.iconst 3, 1) := by decide +kernel
theorem dX11_real_13 : decode cX11_real 13 = .ok (.sipush 1000, 3) := by decide +kernel
theorem dX11_real_16 : decode cX11_real 16 = .ok (.iload_n 1, 1) := by decide +kernel
theorem dX11_real_17 : decode cX11_real 17 = .ok (.imul, 1) := by decide +kernel
theorem dX11_real_18 : decode cX11_real 18 = .ok (.bipush 100, 2) := by decide +kernel
theorem dX11_real_20 : decode cX11_real 20 = .ok (.iload_n 2, 1) := by decide +kernel
theorem dX11_real_21 : decode cX11_real 21 = .ok (.imul, 1) := by decide +kernel
theorem dX11_real_22 : decode cX11_real 22 = .ok (.iadd, 1) := by decide +kernel
theorem dX11_real_23 : decode cX11_real 23 = .ok (.bipush 10, 2) := by decide +kernel
theorem dX11_real_25 : decode cX11_real 25 = .ok (.iload_n 3, 1) := by decide +kernel
theorem dX11_real_26 : decode cX11_real 26 = .ok (.imul, 1) := by decide +kernel
theorem dX11_real_27 : decode cX11_real 27 = .ok (.iadd, 1) := by decide +kernel
theorem dX11_real_28 : decode cX11_real 28 = .ok (.iload 4, 2) := by decide +kernel
theorem dX11_real_30 : decode cX11_real 30 = .ok (.iadd, 1) := by decide +kernel
theorem dX11_real_31 : decode cX11_real 31 = .ok (.iconst 0, 1) := by decide +kernel
theorem dX11_real_32 : decode cX11_real 32 = .ok (.iconst 0, 1) := by decide +kernel
theorem dX11_real_33 : decode cX11_real 33 = .ok (.iload 5, 2) := by decide +kernel
theorem dX11_real_35 : decode cX11_real 35 = .ok (.invokevirtual 170, 3) := by decide +kernel
theorem dX11_real_38 : decode cX11_real 38 = .ok (.goto 4, 3) := by decide +kernel
theorem dX11_real_41 : decode cX11_real 41 = .ok (.iconst (-1), 1) := by decide +kernel
theorem dX11_real_42 : decode cX11_real 42 = .ok (.ireturn, 1) := by decide +kernel
theorem dX11_told_0 : decode cX11_told 0 = .ok (.aload_n 0, 1) := by decide +kernel
theorem dX11_told_1 : decode cX11_told 1 = .ok (.iload_n 1, 1) := by decide +kernel
theorem dX11_told_2 : decode cX11_told 2 = .ok (.invokevirtual 174, 3) := by decide +kernel
theorem dX11_told_5 : decode cX11_told 5 = .ok (.ifCond .eq 15, 3) := by decide +kernel
theorem dX11_told_8 : decode cX11_told 8 = .ok (.iload_n 2, 1) := by decide +kernel
theorem dX11_told_9 : decode cX11_told 9 = .ok (.i2l, 1) := by decide +kernel
theorem dX11_told_10 : decode cX11_told 10 = .ok (.lconst 0, 1) := by decide +kernel
theorem dX11_told_11 : decode cX11_told 11 = .ok (.ldc2_w 143, 3) := by decide +kernel
theorem dX11_told_14 : decode cX11_told 14 = .ok (.invokestatic 120, 3) := by decide +kernel
theorem dX11_told_17 : decode cX11_told 17 = .ok (.ifCond .ne 5, 3) := by decide +kernel
theorem dX11_told_20 : decode cX11_told 20 = .ok (.iconst (-1), 1) := by decide +kernel
theorem dX11_told_21 : decode cX11_told 21 = .ok (.ireturn, 1) := by decide +kernel
theorem dX11_told_22 : decode cX11_told 22 = .ok (.aload_n 0, 1) := by decide +kernel
theorem dX11_told_23 : decode cX11_told 23 = .ok (.getfield 16, 3) := by decide +kernel
theorem dX11_told_26 : decode cX11_told 26 = .ok (.iload_n 1, 1) := by decide +kernel
theorem dX11_told_27 : decode cX11_told 27 = .ok (.iaload, 1) := by decide +kernel
theorem dX11_told_28 : decode cX11_told 28 = .ok (.istore_n 3, 1) := by decide +kernel
theorem dX11_told_29 : decode cX11_told 29 = .ok (.iload_n 2, 1) := by decide +kernel
theorem dX11_told_30 : decode cX11_told 30 = .ok (.tableswitch 123 0 8 #[50, 123, 123, 123, 123, 52, 74, 91, 116], 50) := by decide +kernel
theorem dX11_told_80 : decode cX11_told 80 = .ok (.iload_n 3, 1) := by decide +kernel
theorem dX11_told_81 : decode cX11_told 81 = .ok (.ireturn, 1) := by decide +kernel
theorem dX11_told_82 : decode cX11_told 82 = .ok (.iload_n 3, 1) := by decide +kernel
theorem dX11_told_83 : decode cX11_told 83 = .ok (.iconst 1, 1) := by decide +kernel
theorem dX11_told_84 : decode cX11_told 84 = .ok (.if_icmp .eq 8, 3) := by decide +kernel
theorem dX11_told_87 : decode cX11_told 87 = .ok (.iload_n 3, 1) := by decide +kernel
theorem dX11_told_88 : decode cX11_told 88 = .ok (.iconst 2, 1) := by decide +kernel
theorem dX11_told_89 : decode cX11_told 89 = .ok (.if_icmp .ne 12, 3) := by decide +kernel
theorem dX11_told_92 : decode cX11_told 92 = .ok (.aload_n 0, 1) := by decide +kernel
theorem dX11_told_93 : decode cX11_told 93 = .ok (.getfield 22, 3) := by decide +kernel
theorem dX11_told_96 : decode cX11_told 96 = .ok (.iload_n 1, 1) := by decide +kernel
theorem dX11_told_97 : decode cX11_told 97 = .ok (.iaload, 1) := by decide +kernel
theorem dX11_told_98 : decode cX11_told 98 = .ok (.goto 5, 3) := by decide +kernel
theorem dX11_told_101 : decode cX11_told 101 = .ok (.bipush (-12), 2) := by decide +kernel
theorem dX11_told_103 : decode cX11_told 103 = .ok (.ireturn, 1) := by decide +kernel
theorem dX11_told_104 : decode cX11_told 104 = .ok (.iload_n 3, 1) := by decide +kernel
theorem dX11_told_105 : decode cX11_told 105 = .ok (.iconst 2, 1) := by decide +kernel
theorem dX11_told_106 : decode cX11_told 106 = .ok (.if_icmp .ne 12, 3) := by decide +kernel
theorem dX11_told_109 : decode cX11_told 109 = .ok (.aload_n 0, 1) := by decide +kernel
theorem dX11_told_110 : decode cX11_told 110 = .ok (.getfield 25, 3) := by decide +kernel
theorem dX11_told_113 : decode cX11_told 113 = .ok (.iload_n 1, 1) := by decide +kernel
theorem dX11_told_114 : decode cX11_told 114 = .ok (.iaload, 1) := by decide +kernel
theorem dX11_told_115 : decode cX11_told 115 = .ok (.goto 5, 3) := by decide +kernel
theorem dX11_told_118 : decode cX11_told 118 = .ok (.bipush (-12), 2) := by decide +kernel
theorem dX11_told_120 : decode cX11_told 120 = .ok (.ireturn, 1) := by decide +kernel
theorem dX11_told_121 : decode cX11_told 121 = .ok (.iload_n 3, 1) := by decide +kernel
theorem dX11_told_122 : decode cX11_told 122 = .ok (.iconst 3, 1) := by decide +kernel
theorem dX11_told_123 : decode cX11_told 123 = .ok (.if_icmp .eq 8, 3) := by decide +kernel
theorem dX11_told_126 : decode cX11_told 126 = .ok (.bipush (-12), 2) := by decide +kernel
theorem dX11_told_128 : decode cX11_told 128 = .ok (.goto 17, 3) := by decide +kernel
theorem dX11_told_131 : decode cX11_told 131 = .ok (.aload_n 0, 1) := by decide +kernel
theorem dX11_told_132 : decode cX11_told 132 = .ok (.getfield 28, 3) := by decide +kernel
theorem dX11_told_135 : decode cX11_told 135 = .ok (.iload_n 1, 1) := by decide +kernel
theorem dX11_told_136 : decode cX11_told 136 = .ok (.baload, 1) := by decide +kernel
theorem dX11_told_137 : decode cX11_told 137 = .ok (.ifCond .eq 7, 3) := by decide +kernel
theorem dX11_told_140 : decode cX11_told 140 = .ok (.iconst 1, 1) := by decide +kernel
theorem dX11_told_141 : decode cX11_told 141 = .ok (.goto 4, 3) := by decide +kernel
theorem dX11_told_144 : decode cX11_told 144 = .ok (.iconst 0, 1) := by decide +kernel
theorem dX11_told_145 : decode cX11_told 145 = .ok (.ireturn, 1) := by decide +kernel
theorem dX11_told_146 : decode cX11_told 146 = .ok (.aload_n 0, 1) := by decide +kernel
theorem dX11_told_147 : decode cX11_told 147 = .ok (.getfield 32, 3) := by decide +kernel
theorem dX11_told_150 : decode cX11_told 150 = .ok (.iload_n 1, 1) := by decide +kernel
theorem dX11_told_151 : decode cX11_told 151 = .ok (.iaload, 1) := by decide +kernel
theorem dX11_told_152 : decode cX11_told 152 = .ok (.ireturn, 1) := by decide +kernel
theorem dX11_told_153 : decode cX11_told 153 = .ok (.aload_n 0, 1) := by decide +kernel
theorem dX11_told_154 : decode cX11_told 154 = .ok (.getfield 19, 3) := by decide +kernel
theorem dX11_told_157 : decode cX11_told 157 = .ok (.iload_n 1, 1) := by decide +kernel
theorem dX11_told_158 : decode cX11_told 158 = .ok (.iaload, 1) := by decide +kernel
theorem dX11_told_159 : decode cX11_told 159 = .ok (.iload_n 2, 1) := by decide +kernel
theorem dX11_told_160 : decode cX11_told 160 = .ok (.invokestatic 177, 3) := by decide +kernel
theorem dX11_told_163 : decode cX11_told 163 = .ok (.ireturn, 1) := by decide +kernel
theorem dX11_weight_0 : decode cX11_weight 0 = .ok (.iload_n 1, 1) := by decide +kernel
theorem dX11_weight_1 : decode cX11_weight 1 = .ok (.invokestatic 163, 3) := by decide +kernel
theorem dX11_weight_4 : decode cX11_weight 4 = .ok (.ifCond .eq 10, 3) := by decide +kernel
theorem dX11_weight_7 : decode cX11_weight 7 = .ok (.iload_n 2, 1) := by decide +kernel
theorem dX11_weight_8 : decode cX11_weight 8 = .ok (.invokestatic 163, 3) := by decide +kernel
theorem dX11_weight_11 : decode cX11_weight 11 = .ok (.ifCond .ne 5, 3) := by decide +kernel
theorem dX11_weight_14 : decode cX11_weight 14 = .ok (.iconst (-1), 1) := by decide +kernel
theorem dX11_weight_15 : decode cX11_weight 15 = .ok (.ireturn, 1) := by decide +kernel
theorem dX11_weight_16 : decode cX11_weight 16 = .ok (.aload_n 0, 1) := by decide +kernel
theorem dX11_weight_17 : decode cX11_weight 17 = .ok (.getfield 35, 3) := by decide +kernel
theorem dX11_weight_20 : decode cX11_weight 20 = .ok (.iload_n 1, 1) := by decide +kernel
theorem dX11_weight_21 : decode cX11_weight 21 = .ok (.iaload, 1) := by decide +kernel
theorem dX11_weight_22 : decode cX11_weight 22 = .ok (.istore_n 3, 1) := by decide +kernel
theorem dX11_weight_23 : decode cX11_weight 23 = .ok (.aload_n 0, 1) := by decide +kernel
theorem dX11_weight_24 : decode cX11_weight 24 = .ok (.getfield 35, 3) := by decide +kernel
theorem dX11_weight_27 : decode cX11_weight 27 = .ok (.iload_n 1, 1) := by decide +kernel
theorem dX11_weight_28 : decode cX11_weight 28 = .ok (.iload_n 2, 1) := by decide +kernel
theorem dX11_weight_29 : decode cX11_weight 29 = .ok (.iastore, 1) := by decide +kernel
theorem dX11_weight_30 : decode cX11_weight 30 = .ok (.iload_n 3, 1) := by decide +kernel
theorem dX11_weight_31 : decode cX11_weight 31 = .ok (.ireturn, 1) := by decide +kernel
theorem dX11_takes_0 : decode cX11_takes 0 = .ok (.aload_n 0, 1) := by decide +kernel
theorem dX11_takes_1 : decode cX11_takes 1 = .ok (.getfield 38, 3) := by decide +kernel
theorem dX11_takes_4 : decode cX11_takes 4 = .ok (.iload_n 1, 1) := by decide +kernel
theorem dX11_takes_5 : decode cX11_takes 5 = .ok (.iload_n 2, 1) := by decide +kernel
theorem dX11_takes_6 : decode cX11_takes 6 = .ok (.iastore, 1) := by decide +kernel
theorem dX11_takes_7 : decode cX11_takes 7 = .ok (.aload_n 0, 1) := by decide +kernel
theorem dX11_takes_8 : decode cX11_takes 8 = .ok (.getfield 41, 3) := by decide +kernel
theorem dX11_takes_11 : decode cX11_takes 11 = .ok (.iload_n 1, 1) := by decide +kernel
theorem dX11_takes_12 : decode cX11_takes 12 = .ok (.aload_n 0, 1) := by decide +kernel
theorem dX11_takes_13 : decode cX11_takes 13 = .ok (.getfield 180, 3) := by decide +kernel
theorem dX11_takes_16 : decode cX11_takes 16 = .ok (.iastore, 1) := by decide +kernel
theorem dX11_takes_17 : decode cX11_takes 17 = .ok (.aload_n 0, 1) := by decide +kernel
theorem dX11_takes_18 : decode cX11_takes 18 = .ok (.getfield 44, 3) := by decide +kernel
theorem dX11_takes_21 : decode cX11_takes 21 = .ok (.iload_n 1, 1) := by decide +kernel
theorem dX11_takes_22 : decode cX11_takes 22 = .ok (.iload_n 3, 1) := by decide +kernel
theorem dX11_takes_23 : decode cX11_takes 23 = .ok (.iastore, 1) := by decide +kernel
theorem dX11_takes_24 : decode cX11_takes 24 = .ok (.aload_n 0, 1) := by decide +kernel
theorem dX11_takes_25 : decode cX11_takes 25 = .ok (.getfield 47, 3) := by decide +kernel
theorem dX11_takes_28 : decode cX11_takes 28 = .ok (.iload_n 1, 1) := by decide +kernel
theorem dX11_takes_29 : decode cX11_takes 29 = .ok (.iload 4, 2) := by decide +kernel
theorem dX11_takes_31 : decode cX11_takes 31 = .ok (.iastore, 1) := by decide +kernel
theorem dX11_takes_32 : decode cX11_takes 32 = .ok (.aload_n 0, 1) := by decide +kernel
theorem dX11_takes_33 : decode cX11_takes 33 = .ok (.getfield 50, 3) := by decide +kernel
theorem dX11_takes_36 : decode cX11_takes 36 = .ok (.iload_n 1, 1) := by decide +kernel
theorem dX11_takes_37 : decode cX11_takes 37 = .ok (.aload_n 0, 1) := by decide +kernel
theorem dX11_takes_38 : decode cX11_takes 38 = .ok (.getfield 180, 3) := by decide +kernel
theorem dX11_takes_41 : decode cX11_takes 41 = .ok (.iastore, 1) := by decide +kernel
theorem dX11_takes_42 : decode cX11_takes 42 = .ok (.return_, 1) := by decide +kernel
theorem dX11_becomes_0 : decode cX11_becomes 0 = .ok (.aload_n 0, 1) := by decide +kernel
theorem dX11_becomes_1 : decode cX11_becomes 1 = .ok (.getfield 41, 3) := by decide +kernel
theorem dX11_becomes_4 : decode cX11_becomes 4 = .ok (.iload_n 1, 1) := by decide +kernel
theorem dX11_becomes_5 : decode cX11_becomes 5 = .ok (.aload_n 0, 1) := by decide +kernel
theorem dX11_becomes_6 : decode cX11_becomes 6 = .ok (.getfield 38, 3) := by decide +kernel
theorem dX11_becomes_9 : decode cX11_becomes 9 = .ok (.iload_n 1, 1) := by decide +kernel
theorem dX11_becomes_10 : decode cX11_becomes 10 = .ok (.iaload, 1) := by decide +kernel
theorem dX11_becomes_11 : decode cX11_becomes 11 = .ok (.iload_n 2, 1) := by decide +kernel
theorem dX11_becomes_12 : decode cX11_becomes 12 = .ok (.if_icmp .ne 12, 3) := by decide +kernel
theorem dX11_becomes_15 : decode cX11_becomes 15 = .ok (.aload_n 0, 1) := by decide +kernel
theorem dX11_becomes_16 : decode cX11_becomes 16 = .ok (.getfield 41, 3) := by decide +kernel
theorem dX11_becomes_19 : decode cX11_becomes 19 = .ok (.iload_n 1, 1) := by decide +kernel
theorem dX11_becomes_20 : decode cX11_becomes 20 = .ok (.iaload, 1) := by decide +kernel
theorem dX11_becomes_21 : decode cX11_becomes 21 = .ok (.goto 7, 3) := by decide +kernel
theorem dX11_becomes_24 : decode cX11_becomes 24 = .ok (.aload_n 0, 1) := by decide +kernel
theorem dX11_becomes_25 : decode cX11_becomes 25 = .ok (.getfield 180, 3) := by decide +kernel
theorem dX11_becomes_28 : decode cX11_becomes 28 = .ok (.iastore, 1) := by decide +kernel
theorem dX11_becomes_29 : decode cX11_becomes 29 = .ok (.aload_n 0, 1) := by decide +kernel
theorem dX11_becomes_30 : decode cX11_becomes 30 = .ok (.getfield 38, 3) := by decide +kernel
theorem dX11_becomes_33 : decode cX11_becomes 33 = .ok (.iload_n 1, 1) := by decide +kernel
theorem dX11_becomes_34 : decode cX11_becomes 34 = .ok (.iload_n 2, 1) := by decide +kernel
theorem dX11_becomes_35 : decode cX11_becomes 35 = .ok (.iastore, 1) := by decide +kernel
theorem dX11_becomes_36 : decode cX11_becomes 36 = .ok (.return_, 1) := by decide +kernel
theorem dX11_begin_0 : decode cX11_begin 0 = .ok (.aload_n 0, 1) := by decide +kernel
theorem dX11_begin_1 : decode cX11_begin 1 = .ok (.iload_n 1, 1) := by decide +kernel
theorem dX11_begin_2 : decode cX11_begin 2 = .ok (.invokevirtual 134, 3) := by decide +kernel
theorem dX11_begin_5 : decode cX11_begin 5 = .ok (.ifCond .eq 11, 3) := by decide +kernel
theorem dX11_begin_8 : decode cX11_begin 8 = .ok (.aload_n 0, 1) := by decide +kernel
theorem dX11_begin_9 : decode cX11_begin 9 = .ok (.iload_n 2, 1) := by decide +kernel
theorem dX11_begin_10 : decode cX11_begin 10 = .ok (.invokevirtual 174, 3) := by decide +kernel
theorem dX11_begin_13 : decode cX11_begin 13 = .ok (.ifCond .ne 5, 3) := by decide +kernel
theorem dX11_begin_16 : decode cX11_begin 16 = .ok (.iconst (-1), 1) := by decide +kernel
theorem dX11_begin_17 : decode cX11_begin 17 = .ok (.ireturn, 1) := by decide +kernel
theorem dX11_begin_18 : decode cX11_begin 18 = .ok (.aload_n 0, 1) := by decide +kernel
theorem dX11_begin_19 : decode cX11_begin 19 = .ok (.getfield 16, 3) := by decide +kernel
theorem dX11_begin_22 : decode cX11_begin 22 = .ok (.iload_n 2, 1) := by decide +kernel
theorem dX11_begin_23 : decode cX11_begin 23 = .ok (.iaload, 1) := by decide +kernel
theorem dX11_begin_24 : decode cX11_begin 24 = .ok (.iconst 2, 1) := by decide +kernel
theorem dX11_begin_25 : decode cX11_begin 25 = .ok (.if_icmp .ne 19, 3) := by decide +kernel
theorem dX11_begin_28 : decode cX11_begin 28 = .ok (.aload_n 0, 1) := by decide +kernel
theorem dX11_begin_29 : decode cX11_begin 29 = .ok (.getfield 180, 3) := by decide +kernel
theorem dX11_begin_32 : decode cX11_begin 32 = .ok (.aload_n 0, 1) := by decide +kernel
theorem dX11_begin_33 : decode cX11_begin 33 = .ok (.getfield 25, 3) := by decide +kernel
theorem dX11_begin_36 : decode cX11_begin 36 = .ok (.iload_n 2, 1) := by decide +kernel
theorem dX11_begin_37 : decode cX11_begin 37 = .ok (.iaload, 1) := by decide +kernel
theorem dX11_begin_38 : decode cX11_begin 38 = .ok (.if_icmp .ge 6, 3) := by decide +kernel
theorem dX11_begin_41 : decode cX11_begin 41 = .ok (.bipush (-2), 2) := by decide +kernel
theorem dX11_begin_43 : decode cX11_begin 43 = .ok (.ireturn, 1) := by decide +kernel
theorem dX11_begin_44 : decode cX11_begin 44 = .ok (.bipush 8, 2) := by decide +kernel
theorem dX11_begin_46 : decode cX11_begin 46 = .ok (.iload_n 1, 1) := by decide +kernel
theorem dX11_begin_47 : decode cX11_begin 47 = .ok (.imul, 1) := by decide +kernel
theorem dX11_begin_48 : decode cX11_begin 48 = .ok (.iload_n 2, 1) := by decide +kernel
theorem dX11_begin_49 : decode cX11_begin 49 = .ok (.iadd, 1) := by decide +kernel
theorem dX11_begin_50 : decode cX11_begin 50 = .ok (.istore_n 3, 1) := by decide +kernel
theorem dX11_begin_51 : decode cX11_begin 51 = .ok (.aload_n 0, 1) := by decide +kernel
theorem dX11_begin_52 : decode cX11_begin 52 = .ok (.getfield 38, 3) := by decide +kernel
theorem dX11_begin_55 : decode cX11_begin 55 = .ok (.iload_n 3, 1) := by decide +kernel
theorem dX11_begin_56 : decode cX11_begin 56 = .ok (.iaload, 1) := by decide +kernel
theorem dX11_begin_57 : decode cX11_begin 57 = .ok (.istore 4, 2) := by decide +kernel
theorem dX11_begin_59 : decode cX11_begin 59 = .ok (.aload_n 0, 1) := by decide +kernel
theorem dX11_begin_60 : decode cX11_begin 60 = .ok (.iload_n 3, 1) := by decide +kernel
theorem dX11_begin_61 : decode cX11_begin 61 = .ok (.iconst 1, 1) := by decide +kernel
theorem dX11_begin_62 : decode cX11_begin 62 = .ok (.aload_n 0, 1) := by decide +kernel
theorem dX11_begin_63 : decode cX11_begin 63 = .ok (.getfield 19, 3) := by decide +kernel
theorem dX11_begin_66 : decode cX11_begin 66 = .ok (.iload_n 2, 1) := by decide +kernel
theorem dX11_begin_67 : decode cX11_begin 67 = .ok (.iaload, 1) := by decide +kernel
theorem dX11_begin_68 : decode cX11_begin 68 = .ok (.bipush 17, 2) := by decide +kernel
theorem dX11_begin_70 : decode cX11_begin 70 = .ok (.invokevirtual 183, 3) := by decide +kernel
theorem dX11_begin_73 : decode cX11_begin 73 = .ok (.iload 4, 2) := by decide +kernel
theorem dX11_begin_75 : decode cX11_begin 75 = .ok (.ireturn, 1) := by decide +kernel
theorem dX11_knows_0 : decode cX11_knows 0 = .ok (.aload_n 0, 1) := by decide +kernel
theorem dX11_knows_1 : decode cX11_knows 1 = .ok (.iload_n 1, 1) := by decide +kernel
theorem dX11_knows_2 : decode cX11_knows 2 = .ok (.invokevirtual 134, 3) := by decide +kernel
theorem dX11_knows_5 : decode cX11_knows 5 = .ok (.ifCond .eq 23, 3) := by decide +kernel
theorem dX11_knows_8 : decode cX11_knows 8 = .ok (.aload_n 0, 1) := by decide +kernel
theorem dX11_knows_9 : decode cX11_knows 9 = .ok (.iload_n 2, 1) := by decide +kernel
theorem dX11_knows_10 : decode cX11_knows 10 = .ok (.invokevirtual 174, 3) := by decide +kernel
theorem dX11_knows_13 : decode cX11_knows 13 = .ok (.ifCond .eq 15, 3) := by decide +kernel
theorem dX11_knows_16 : decode cX11_knows 16 = .ok (.iload_n 3, 1) := by decide +kernel
theorem dX11_knows_17 : decode cX11_knows 17 = .ok (.i2l, 1) := by decide +kernel
theorem dX11_knows_18 : decode cX11_knows 18 = .ok (.lconst 0, 1) := by decide +kernel
theorem dX11_knows_19 : decode cX11_knows 19 = .ok (.ldc2_w 137, 3) := by decide +kernel
theorem dX11_knows_22 : decode cX11_knows 22 = .ok (.invokestatic 120, 3) := by decide +kernel
theorem dX11_knows_25 : decode cX11_knows 25 = .ok (.ifCond .ne 5, 3) := by decide +kernel
theorem dX11_knows_28 : decode cX11_knows 28 = .ok (.iconst (-1), 1) := by decide +kernel
theorem dX11_knows_29 : decode cX11_knows 29 = .ok (.ireturn, 1) := by decide +kernel
theorem dX11_knows_30 : decode cX11_knows 30 = .ok (.bipush 8, 2) := by decide +kernel
theorem dX11_knows_32 : decode cX11_knows 32 = .ok (.iload_n 1, 1) := by decide +kernel
theorem dX11_knows_33 : decode cX11_knows 33 = .ok (.imul, 1) := by decide +kernel
theorem dX11_knows_34 : decode cX11_knows 34 = .ok (.iload_n 2, 1) := by decide +kernel
theorem dX11_knows_35 : decode cX11_knows 35 = .ok (.iadd, 1) := by decide +kernel
theorem dX11_knows_36 : decode cX11_knows 36 = .ok (.istore 4, 2) := by decide +kernel
theorem dX11_knows_38 : decode cX11_knows 38 = .ok (.iload_n 3, 1) := by decide +kernel
theorem dX11_knows_39 : decode cX11_knows 39 = .ok (.ifCond .le 16, 3) := by decide +kernel
theorem dX11_knows_42 : decode cX11_knows 42 = .ok (.aload_n 0, 1) := by decide +kernel
theorem dX11_knows_43 : decode cX11_knows 43 = .ok (.getfield 38, 3) := by decide +kernel
theorem dX11_knows_46 : decode cX11_knows 46 = .ok (.iload 4, 2) := by decide +kernel
theorem dX11_knows_48 : decode cX11_knows 48 = .ok (.iaload, 1) := by decide +kernel
theorem dX11_knows_49 : decode cX11_knows 49 = .ok (.ifCond .ne 6, 3) := by decide +kernel
theorem dX11_knows_52 : decode cX11_knows 52 = .ok (.bipush (-4), 2) := by decide +kernel
theorem dX11_knows_54 : decode cX11_knows 54 = .ok (.ireturn, 1) := by decide +kernel
theorem dX11_knows_55 : decode cX11_knows 55 = .ok (.iload_n 3, 1) := by decide +kernel
theorem dX11_knows_56 : decode cX11_knows 56 = .ok (.ifCond .ne 13, 3) := by decide +kernel
theorem dX11_knows_59 : decode cX11_knows 59 = .ok (.aload_n 0, 1) := by decide +kernel
theorem dX11_knows_60 : decode cX11_knows 60 = .ok (.getfield 38, 3) := by decide +kernel
theorem dX11_knows_63 : decode cX11_knows 63 = .ok (.iload 4, 2) := by decide +kernel
theorem dX11_knows_65 : decode cX11_knows 65 = .ok (.iaload, 1) := by decide +kernel
theorem dX11_knows_66 : decode cX11_knows 66 = .ok (.goto 55, 3) := by decide +kernel
theorem dX11_knows_69 : decode cX11_knows 69 = .ok (.iload_n 3, 1) := by decide +kernel
theorem dX11_knows_70 : decode cX11_knows 70 = .ok (.iconst 1, 1) := by decide +kernel
theorem dX11_knows_71 : decode cX11_knows 71 = .ok (.if_icmp .ne 13, 3) := by decide +kernel
theorem dX11_knows_74 : decode cX11_knows 74 = .ok (.aload_n 0, 1) := by decide +kernel
theorem dX11_knows_75 : decode cX11_knows 75 = .ok (.getfield 41, 3) := by decide +kernel
theorem dX11_knows_78 : decode cX11_knows 78 = .ok (.iload 4, 2) := by decide +kernel
theorem dX11_knows_80 : decode cX11_knows 80 = .ok (.iaload, 1) := by decide +kernel
theorem dX11_knows_81 : decode cX11_knows 81 = .ok (.goto 40, 3) := by decide +kernel
theorem dX11_knows_84 : decode cX11_knows 84 = .ok (.iload_n 3, 1) := by decide +kernel
theorem dX11_knows_85 : decode cX11_knows 85 = .ok (.iconst 2, 1) := by decide +kernel
theorem dX11_knows_86 : decode cX11_knows 86 = .ok (.if_icmp .ne 13, 3) := by decide +kernel
theorem dX11_knows_89 : decode cX11_knows 89 = .ok (.aload_n 0, 1) := by decide +kernel
theorem dX11_knows_90 : decode cX11_knows 90 = .ok (.getfield 44, 3) := by decide +kernel
theorem dX11_knows_93 : decode cX11_knows 93 = .ok (.iload 4, 2) := by decide +kernel
theorem dX11_knows_95 : decode cX11_knows 95 = .ok (.iaload, 1) := by decide +kernel
theorem dX11_knows_96 : decode cX11_knows 96 = .ok (.goto 25, 3) := by decide +kernel
theorem dX11_knows_99 : decode cX11_knows 99 = .ok (.iload_n 3, 1) := by decide +kernel
theorem dX11_knows_100 : decode cX11_knows 100 = .ok (.iconst 3, 1) := by decide +kernel
theorem dX11_knows_101 : decode cX11_knows 101 = .ok (.if_icmp .ne 13, 3) := by decide +kernel
theorem dX11_knows_104 : decode cX11_knows 104 = .ok (.aload_n 0, 1) := by decide +kernel
theorem dX11_knows_105 : decode cX11_knows 105 = .ok (.getfield 47, 3) := by decide +kernel
theorem dX11_knows_108 : decode cX11_knows 108 = .ok (.iload 4, 2) := by decide +kernel
theorem dX11_knows_110 : decode cX11_knows 110 = .ok (.iaload, 1) := by decide +kernel
theorem dX11_knows_111 : decode cX11_knows 111 = .ok (.goto 10, 3) := by decide +kernel
theorem dX11_knows_114 : decode cX11_knows 114 = .ok (.aload_n 0, 1) := by decide +kernel
theorem dX11_knows_115 : decode cX11_knows 115 = .ok (.getfield 50, 3) := by decide +kernel
theorem dX11_knows_118 : decode cX11_knows 118 = .ok (.iload 4, 2) := by decide +kernel
theorem dX11_knows_120 : decode cX11_knows 120 = .ok (.iaload, 1) := by decide +kernel
theorem dX11_knows_121 : decode cX11_knows 121 = .ok (.ireturn, 1) := by decide +kernel
theorem dX11_count_0 : decode cX11_count 0 = .ok (.iload_n 1, 1) := by decide +kernel
theorem dX11_count_1 : decode cX11_count 1 = .ok (.tableswitch 60 0 4 #[35, 40, 45, 50, 55], 35) := by decide +kernel
theorem dX11_count_36 : decode cX11_count 36 = .ok (.aload_n 0, 1) := by decide +kernel
theorem dX11_count_37 : decode cX11_count 37 = .ok (.getfield 116, 3) := by decide +kernel
theorem dX11_count_40 : decode cX11_count 40 = .ok (.ireturn, 1) := by decide +kernel
theorem dX11_count_41 : decode cX11_count 41 = .ok (.aload_n 0, 1) := by decide +kernel
theorem dX11_count_42 : decode cX11_count 42 = .ok (.getfield 157, 3) := by decide +kernel
theorem dX11_count_45 : decode cX11_count 45 = .ok (.ireturn, 1) := by decide +kernel
