theorem dX11_test_291 : decode cX11_test 291 = .ok (.iconst 1, 1) := by decide +kernel
theorem dX11_test_292 : decode cX11_test 292 = .ok (.goto 4, 3) := by decide +kernel
theorem dX11_test_295 : decode cX11_test 295 = .ok (.iconst 0, 1) := by decide +kernel
theorem dX11_test_296 : decode cX11_test 296 = .ok (.bastore, 1) := by decide +kernel
theorem dX11_test_297 : decode cX11_test 297 = .ok (.goto (-279), 3) := by decide +kernel
theorem dX11_test_300 : decode cX11_test 300 = .ok (.iconst 0, 1) := by decide +kernel
theorem dX11_test_301 : decode cX11_test 301 = .ok (.ireturn, 1) := by decide +kernel
theorem dX11_number_0 : decode cX11_number 0 = .ok (.aload_n 0, 1) := by decide +kernel
theorem dX11_number_1 : decode cX11_number 1 = .ok (.getfield 271, 3) := by decide +kernel
theorem dX11_number_4 : decode cX11_number 4 = .ok (.ifCond .ne 20, 3) := by decide +kernel
theorem dX11_number_7 : decode cX11_number 7 = .ok (.aload_n 0, 1) := by decide +kernel
theorem dX11_number_8 : decode cX11_number 8 = .ok (.invokevirtual 275, 3) := by decide +kernel
theorem dX11_number_11 : decode cX11_number 11 = .ok (.i2l, 1) := by decide +kernel
theorem dX11_number_12 : decode cX11_number 12 = .ok (.ldc2_w 254, 3) := by decide +kernel
theorem dX11_number_15 : decode cX11_number 15 = .ok (.ldc2_w 289, 3) := by decide +kernel
theorem dX11_number_18 : decode cX11_number 18 = .ok (.invokestatic 120, 3) := by decide +kernel
theorem dX11_number_21 : decode cX11_number 21 = .ok (.ifCond .ne 10, 3) := by decide +kernel
theorem dX11_number_24 : decode cX11_number 24 = .ok (.aload_n 0, 1) := by decide +kernel
theorem dX11_number_25 : decode cX11_number 25 = .ok (.iconst 1, 1) := by decide +kernel
theorem dX11_number_26 : decode cX11_number 26 = .ok (.putfield 271, 3) := by decide +kernel
theorem dX11_number_29 : decode cX11_number 29 = .ok (.iconst 0, 1) := by decide +kernel
theorem dX11_number_30 : decode cX11_number 30 = .ok (.ireturn, 1) := by decide +kernel
theorem dX11_number_31 : decode cX11_number 31 = .ok (.aload_n 0, 1) := by decide +kernel
theorem dX11_number_32 : decode cX11_number 32 = .ok (.getfield 265, 3) := by decide +kernel
theorem dX11_number_35 : decode cX11_number 35 = .ok (.istore_n 2, 1) := by decide +kernel
theorem dX11_number_36 : decode cX11_number 36 = .ok (.iconst 0, 1) := by decide +kernel
theorem dX11_number_37 : decode cX11_number 37 = .ok (.istore_n 3, 1) := by decide +kernel
theorem dX11_number_38 : decode cX11_number 38 = .ok (.aload_n 0, 1) := by decide +kernel
theorem dX11_number_39 : decode cX11_number 39 = .ok (.getfield 265, 3) := by decide +kernel
theorem dX11_number_42 : decode cX11_number 42 = .ok (.aload_n 0, 1) := by decide +kernel
theorem dX11_number_43 : decode cX11_number 43 = .ok (.getfield 268, 3) := by decide +kernel
theorem dX11_number_46 : decode cX11_number 46 = .ok (.if_icmp .ge 67, 3) := by decide +kernel
theorem dX11_number_49 : decode cX11_number 49 = .ok (.aload_n 0, 1) := by decide +kernel
theorem dX11_number_50 : decode cX11_number 50 = .ok (.getfield 71, 3) := by decide +kernel
theorem dX11_number_53 : decode cX11_number 53 = .ok (.aload_n 0, 1) := by decide +kernel
theorem dX11_number_54 : decode cX11_number 54 = .ok (.getfield 265, 3) := by decide +kernel
theorem dX11_number_57 : decode cX11_number 57 = .ok (.iaload, 1) := by decide +kernel
theorem dX11_number_58 : decode cX11_number 58 = .ok (.i2l, 1) := by decide +kernel
theorem dX11_number_59 : decode cX11_number 59 = .ok (.ldc2_w 254, 3) := by decide +kernel
theorem dX11_number_62 : decode cX11_number 62 = .ok (.ldc2_w 289, 3) := by decide +kernel
theorem dX11_number_65 : decode cX11_number 65 = .ok (.invokestatic 120, 3) := by decide +kernel
theorem dX11_number_68 : decode cX11_number 68 = .ok (.ifCond .eq 45, 3) := by decide +kernel
theorem dX11_number_71 : decode cX11_number 71 = .ok (.iload_n 3, 1) := by decide +kernel
theorem dX11_number_72 : decode cX11_number 72 = .ok (.sipush 9999, 3) := by decide +kernel
theorem dX11_number_75 : decode cX11_number 75 = .ok (.if_icmp .le 7, 3) := by decide +kernel
theorem dX11_number_78 : decode cX11_number 78 = .ok (.iload_n 3, 1) := by decide +kernel
theorem dX11_number_79 : decode cX11_number 79 = .ok (.goto 20, 3) := by decide +kernel
theorem dX11_number_82 : decode cX11_number 82 = .ok (.bipush 10, 2) := by decide +kernel
theorem dX11_number_84 : decode cX11_number 84 = .ok (.iload_n 3, 1) := by decide +kernel
theorem dX11_number_85 : decode cX11_number 85 = .ok (.imul, 1) := by decide +kernel
theorem dX11_number_86 : decode cX11_number 86 = .ok (.aload_n 0, 1) := by decide +kernel
theorem dX11_number_87 : decode cX11_number 87 = .ok (.getfield 71, 3) := by decide +kernel
theorem dX11_number_90 : decode cX11_number 90 = .ok (.aload_n 0, 1) := by decide +kernel
theorem dX11_number_91 : decode cX11_number 91 = .ok (.getfield 265, 3) := by decide +kernel
theorem dX11_number_94 : decode cX11_number 94 = .ok (.iaload, 1) := by decide +kernel
theorem dX11_number_95 : decode cX11_number 95 = .ok (.iadd, 1) := by decide +kernel
theorem dX11_number_96 : decode cX11_number 96 = .ok (.bipush 48, 2) := by decide +kernel
theorem dX11_number_98 : decode cX11_number 98 = .ok (.isub, 1) := by decide +kernel
theorem dX11_number_99 : decode cX11_number 99 = .ok (.istore_n 3, 1) := by decide +kernel
theorem dX11_number_100 : decode cX11_number 100 = .ok (.aload_n 0, 1) := by decide +kernel
theorem dX11_number_101 : decode cX11_number 101 = .ok (.dup, 1) := by decide +kernel
theorem dX11_number_102 : decode cX11_number 102 = .ok (.getfield 265, 3) := by decide +kernel
theorem dX11_number_105 : decode cX11_number 105 = .ok (.iconst 1, 1) := by decide +kernel
theorem dX11_number_106 : decode cX11_number 106 = .ok (.iadd, 1) := by decide +kernel
theorem dX11_number_107 : decode cX11_number 107 = .ok (.putfield 265, 3) := by decide +kernel
theorem dX11_number_110 : decode cX11_number 110 = .ok (.goto (-72), 3) := by decide +kernel
theorem dX11_number_113 : decode cX11_number 113 = .ok (.aload_n 0, 1) := by decide +kernel
theorem dX11_number_114 : decode cX11_number 114 = .ok (.iload_n 3, 1) := by decide +kernel
theorem dX11_number_115 : decode cX11_number 115 = .ok (.iload_n 1, 1) := by decide +kernel
theorem dX11_number_116 : decode cX11_number 116 = .ok (.if_icmp .le 7, 3) := by decide +kernel
theorem dX11_number_119 : decode cX11_number 119 = .ok (.iconst 1, 1) := by decide +kernel
theorem dX11_number_120 : decode cX11_number 120 = .ok (.goto 4, 3) := by decide +kernel
theorem dX11_number_123 : decode cX11_number 123 = .ok (.iconst 0, 1) := by decide +kernel
theorem dX11_number_124 : decode cX11_number 124 = .ok (.putfield 271, 3) := by decide +kernel
theorem dX11_number_127 : decode cX11_number 127 = .ok (.aload_n 0, 1) := by decide +kernel
theorem dX11_number_128 : decode cX11_number 128 = .ok (.aload_n 0, 1) := by decide +kernel
theorem dX11_number_129 : decode cX11_number 129 = .ok (.getfield 271, 3) := by decide +kernel
theorem dX11_number_132 : decode cX11_number 132 = .ok (.ifCond .eq 7, 3) := by decide +kernel
theorem dX11_number_135 : decode cX11_number 135 = .ok (.iload_n 2, 1) := by decide +kernel
theorem dX11_number_136 : decode cX11_number 136 = .ok (.goto 7, 3) := by decide +kernel
theorem dX11_number_139 : decode cX11_number 139 = .ok (.aload_n 0, 1) := by decide +kernel
theorem dX11_number_140 : decode cX11_number 140 = .ok (.getfield 265, 3) := by decide +kernel
theorem dX11_number_143 : decode cX11_number 143 = .ok (.putfield 265, 3) := by decide +kernel
theorem dX11_number_146 : decode cX11_number 146 = .ok (.iload_n 3, 1) := by decide +kernel
theorem dX11_number_147 : decode cX11_number 147 = .ok (.ireturn, 1) := by decide +kernel
theorem dX11_clause_0 : decode cX11_clause 0 = .ok (.aload_n 0, 1) := by decide +kernel
theorem dX11_clause_1 : decode cX11_clause 1 = .ok (.iload_n 1, 1) := by decide +kernel
theorem dX11_clause_2 : decode cX11_clause 2 = .ok (.invokevirtual 291, 3) := by decide +kernel
theorem dX11_clause_5 : decode cX11_clause 5 = .ok (.istore_n 2, 1) := by decide +kernel
theorem dX11_clause_6 : decode cX11_clause 6 = .ok (.aload_n 0, 1) := by decide +kernel
theorem dX11_clause_7 : decode cX11_clause 7 = .ok (.aload_n 0, 1) := by decide +kernel
theorem dX11_clause_8 : decode cX11_clause 8 = .ok (.getfield 271, 3) := by decide +kernel
theorem dX11_clause_11 : decode cX11_clause 11 = .ok (.ifCond .ne 12, 3) := by decide +kernel
theorem dX11_clause_14 : decode cX11_clause 14 = .ok (.aload_n 0, 1) := by decide +kernel
theorem dX11_clause_15 : decode cX11_clause 15 = .ok (.bipush 58, 2) := by decide +kernel
theorem dX11_clause_17 : decode cX11_clause 17 = .ok (.invokevirtual 283, 3) := by decide +kernel
theorem dX11_clause_20 : decode cX11_clause 20 = .ok (.ifCond .ne 7, 3) := by decide +kernel
theorem dX11_clause_23 : decode cX11_clause 23 = .ok (.iconst 1, 1) := by decide +kernel
theorem dX11_clause_24 : decode cX11_clause 24 = .ok (.goto 4, 3) := by decide +kernel
theorem dX11_clause_27 : decode cX11_clause 27 = .ok (.iconst 0, 1) := by decide +kernel
theorem dX11_clause_28 : decode cX11_clause 28 = .ok (.putfield 271, 3) := by decide +kernel
theorem dX11_clause_31 : decode cX11_clause 31 = .ok (.aload_n 0, 1) := by decide +kernel
theorem dX11_clause_32 : decode cX11_clause 32 = .ok (.getfield 271, 3) := by decide +kernel
theorem dX11_clause_35 : decode cX11_clause 35 = .ok (.ifCond .eq 7, 3) := by decide +kernel
theorem dX11_clause_38 : decode cX11_clause 38 = .ok (.iconst 0, 1) := by decide +kernel
theorem dX11_clause_39 : decode cX11_clause 39 = .ok (.goto 7, 3) := by decide +kernel
theorem dX11_clause_42 : decode cX11_clause 42 = .ok (.aload_n 0, 1) := by decide +kernel
theorem dX11_clause_43 : decode cX11_clause 43 = .ok (.invokevirtual 275, 3) := by decide +kernel
theorem dX11_clause_46 : decode cX11_clause 46 = .ok (.istore_n 3, 1) := by decide +kernel
theorem dX11_clause_47 : decode cX11_clause 47 = .ok (.aload_n 0, 1) := by decide +kernel
theorem dX11_clause_48 : decode cX11_clause 48 = .ok (.iload_n 3, 1) := by decide +kernel
theorem dX11_clause_49 : decode cX11_clause 49 = .ok (.bipush 100, 2) := by decide +kernel
theorem dX11_clause_51 : decode cX11_clause 51 = .ok (.if_icmp .ne 7, 3) := by decide +kernel
theorem dX11_clause_54 : decode cX11_clause 54 = .ok (.iconst 0, 1) := by decide +kernel
theorem dX11_clause_55 : decode cX11_clause 55 = .ok (.goto 14, 3) := by decide +kernel
theorem dX11_clause_58 : decode cX11_clause 58 = .ok (.iload_n 3, 1) := by decide +kernel
theorem dX11_clause_59 : decode cX11_clause 59 = .ok (.bipush 104, 2) := by decide +kernel
theorem dX11_clause_61 : decode cX11_clause 61 = .ok (.if_icmp .ne 7, 3) := by decide +kernel
theorem dX11_clause_64 : decode cX11_clause 64 = .ok (.iconst 1, 1) := by decide +kernel
theorem dX11_clause_65 : decode cX11_clause 65 = .ok (.goto 4, 3) := by decide +kernel
theorem dX11_clause_68 : decode cX11_clause 68 = .ok (.iconst 2, 1) := by decide +kernel
theorem dX11_clause_69 : decode cX11_clause 69 = .ok (.putfield 294, 3) := by decide +kernel
theorem dX11_clause_72 : decode cX11_clause 72 = .ok (.aload_n 0, 1) := by decide +kernel
theorem dX11_clause_73 : decode cX11_clause 73 = .ok (.aload_n 0, 1) := by decide +kernel
theorem dX11_clause_74 : decode cX11_clause 74 = .ok (.getfield 271, 3) := by decide +kernel
theorem dX11_clause_77 : decode cX11_clause 77 = .ok (.ifCond .ne 21, 3) := by decide +kernel
theorem dX11_clause_80 : decode cX11_clause 80 = .ok (.iload_n 3, 1) := by decide +kernel
theorem dX11_clause_81 : decode cX11_clause 81 = .ok (.bipush 100, 2) := by decide +kernel
theorem dX11_clause_83 : decode cX11_clause 83 = .ok (.if_icmp .eq 19, 3) := by decide +kernel
theorem dX11_clause_86 : decode cX11_clause 86 = .ok (.iload_n 3, 1) := by decide +kernel
theorem dX11_clause_87 : decode cX11_clause 87 = .ok (.bipush 104, 2) := by decide +kernel
theorem dX11_clause_89 : decode cX11_clause 89 = .ok (.if_icmp .eq 13, 3) := by decide +kernel
theorem dX11_clause_92 : decode cX11_clause 92 = .ok (.iload_n 3, 1) := by decide +kernel
theorem dX11_clause_93 : decode cX11_clause 93 = .ok (.bipush 115, 2) := by decide +kernel
theorem dX11_clause_95 : decode cX11_clause 95 = .ok (.if_icmp .eq 7, 3) := by decide +kernel
theorem dX11_clause_98 : decode cX11_clause 98 = .ok (.iconst 1, 1) := by decide +kernel
theorem dX11_clause_99 : decode cX11_clause 99 = .ok (.goto 4, 3) := by decide +kernel
theorem dX11_clause_102 : decode cX11_clause 102 = .ok (.iconst 0, 1) := by decide +kernel
theorem dX11_clause_103 : decode cX11_clause 103 = .ok (.putfield 271, 3) := by decide +kernel
theorem dX11_clause_106 : decode cX11_clause 106 = .ok (.aload_n 0, 1) := by decide +kernel
theorem dX11_clause_107 : decode cX11_clause 107 = .ok (.dup, 1) := by decide +kernel
theorem dX11_clause_108 : decode cX11_clause 108 = .ok (.getfield 265, 3) := by decide +kernel
theorem dX11_clause_111 : decode cX11_clause 111 = .ok (.aload_n 0, 1) := by decide +kernel
theorem dX11_clause_112 : decode cX11_clause 112 = .ok (.getfield 271, 3) := by decide +kernel
theorem dX11_clause_115 : decode cX11_clause 115 = .ok (.ifCond .eq 7, 3) := by decide +kernel
theorem dX11_clause_118 : decode cX11_clause 118 = .ok (.iconst 0, 1) := by decide +kernel
theorem dX11_clause_119 : decode cX11_clause 119 = .ok (.goto 4, 3) := by decide +kernel
theorem dX11_clause_122 : decode cX11_clause 122 = .ok (.iconst 1, 1) := by decide +kernel
theorem dX11_clause_123 : decode cX11_clause 123 = .ok (.iadd, 1) := by decide +kernel
theorem dX11_clause_124 : decode cX11_clause 124 = .ok (.putfield 265, 3) := by decide +kernel
theorem dX11_clause_127 : decode cX11_clause 127 = .ok (.aload_n 0, 1) := by decide +kernel
theorem dX11_clause_128 : decode cX11_clause 128 = .ok (.aload_n 0, 1) := by decide +kernel
theorem dX11_clause_129 : decode cX11_clause 129 = .ok (.bipush 64, 2) := by decide +kernel
theorem dX11_clause_131 : decode cX11_clause 131 = .ok (.invokevirtual 283, 3) := by decide +kernel
theorem dX11_clause_134 : decode cX11_clause 134 = .ok (.ifCond .eq 13, 3) := by decide +kernel
theorem dX11_clause_137 : decode cX11_clause 137 = .ok (.aload_n 0, 1) := by decide +kernel
theorem dX11_clause_138 : decode cX11_clause 138 = .ok (.sipush 416, 3) := by decide +kernel
theorem dX11_clause_141 : decode cX11_clause 141 = .ok (.invokevirtual 297, 3) := by decide +kernel
theorem dX11_clause_144 : decode cX11_clause 144 = .ok (.goto 4, 3) := by decide +kernel
theorem dX11_clause_147 : decode cX11_clause 147 = .ok (.iconst 0, 1) := by decide +kernel
theorem dX11_clause_148 : decode cX11_clause 148 = .ok (.putfield 300, 3) := by decide +kernel
theorem dX11_clause_151 : decode cX11_clause 151 = .ok (.iload_n 2, 1) := by decide +kernel
theorem dX11_clause_152 : decode cX11_clause 152 = .ok (.ireturn, 1) := by decide +kernel
theorem dX11_guide_0 : decode cX11_guide 0 = .ok (.iconst 0, 1) := by decide +kernel
theorem dX11_guide_1 : decode cX11_guide 1 = .ok (.istore_n 1, 1) := by decide +kernel
theorem dX11_guide_2 : decode cX11_guide 2 = .ok (.iload_n 1, 1) := by decide +kernel
theorem dX11_guide_3 : decode cX11_guide 3 = .ok (.aload_n 0, 1) := by decide +kernel
theorem dX11_guide_4 : decode cX11_guide 4 = .ok (.getfield 262, 3) := by decide +kernel
theorem dX11_guide_7 : decode cX11_guide 7 = .ok (.if_icmp .ge 21, 3) := by decide +kernel
theorem dX11_guide_10 : decode cX11_guide 10 = .ok (.aload_n 0, 1) := by decide +kernel
theorem dX11_guide_11 : decode cX11_guide 11 = .ok (.getfield 71, 3) := by decide +kernel
theorem dX11_guide_14 : decode cX11_guide 14 = .ok (.iload_n 1, 1) := by decide +kernel
theorem dX11_guide_15 : decode cX11_guide 15 = .ok (.aload_n 0, 1) := by decide +kernel
theorem dX11_guide_16 : decode cX11_guide 16 = .ok (.getfield 68, 3) := by decide +kernel
theorem dX11_guide_19 : decode cX11_guide 19 = .ok (.iload_n 1, 1) := by decide +kernel
theorem dX11_guide_20 : decode cX11_guide 20 = .ok (.iaload, 1) := by decide +kernel
theorem dX11_guide_21 : decode cX11_guide 21 = .ok (.iastore, 1) := by decide +kernel
theorem dX11_guide_22 : decode cX11_guide 22 = .ok (.iinc 1 1, 3) := by decide +kernel
theorem dX11_guide_25 : decode cX11_guide 25 = .ok (.goto (-23), 3) := by decide +kernel
theorem dX11_guide_28 : decode cX11_guide 28 = .ok (.aload_n 0, 1) := by decide +kernel
theorem dX11_guide_29 : decode cX11_guide 29 = .ok (.aload_n 0, 1) := by decide +kernel
theorem dX11_guide_30 : decode cX11_guide 30 = .ok (.getfield 262, 3) := by decide +kernel
theorem dX11_guide_33 : decode cX11_guide 33 = .ok (.putfield 268, 3) := by decide +kernel
theorem dX11_guide_36 : decode cX11_guide 36 = .ok (.aload_n 0, 1) := by decide +kernel
theorem dX11_guide_37 : decode cX11_guide 37 = .ok (.iconst 0, 1) := by decide +kernel
theorem dX11_guide_38 : decode cX11_guide 38 = .ok (.putfield 262, 3) := by decide +kernel
theorem dX11_guide_41 : decode cX11_guide 41 = .ok (.aload_n 0, 1) := by decide +kernel
theorem dX11_guide_42 : decode cX11_guide 42 = .ok (.iconst 0, 1) := by decide +kernel
theorem dX11_guide_43 : decode cX11_guide 43 = .ok (.putfield 265, 3) := by decide +kernel
theorem dX11_guide_46 : decode cX11_guide 46 = .ok (.aload_n 0, 1) := by decide +kernel
theorem dX11_guide_47 : decode cX11_guide 47 = .ok (.iconst 0, 1) := by decide +kernel
theorem dX11_guide_48 : decode cX11_guide 48 = .ok (.putfield 271, 3) := by decide +kernel
theorem dX11_guide_51 : decode cX11_guide 51 = .ok (.iconst 0, 1) := by decide +kernel
theorem dX11_guide_52 : decode cX11_guide 52 = .ok (.istore_n 1, 1) := by decide +kernel
theorem dX11_guide_53 : decode cX11_guide 53 = .ok (.aload_n 0, 1) := by decide +kernel
theorem dX11_guide_54 : decode cX11_guide 54 = .ok (.invokevirtual 275, 3) := by decide +kernel
theorem dX11_guide_57 : decode cX11_guide 57 = .ok (.ifCond .eq 7, 3) := by decide +kernel
theorem dX11_guide_60 : decode cX11_guide 60 = .ok (.iconst 1, 1) := by decide +kernel
theorem dX11_guide_61 : decode cX11_guide 61 = .ok (.goto 4, 3) := by decide +kernel
theorem dX11_guide_64 : decode cX11_guide 64 = .ok (.iconst 0, 1) := by decide +kernel
theorem dX11_guide_65 : decode cX11_guide 65 = .ok (.istore_n 2, 1) := by decide +kernel
theorem dX11_guide_66 : decode cX11_guide 66 = .ok (.iload_n 2, 1) := by decide +kernel
theorem dX11_guide_67 : decode cX11_guide 67 = .ok (.ifCond .eq 45, 3) := by decide +kernel
theorem dX11_guide_70 : decode cX11_guide 70 = .ok (.aload_n 0, 1) := by decide +kernel
theorem dX11_guide_71 : decode cX11_guide 71 = .ok (.iconst 0, 1) := by decide +kernel
theorem dX11_guide_72 : decode cX11_guide 72 = .ok (.invokevirtual 303, 3) := by decide +kernel
theorem dX11_guide_75 : decode cX11_guide 75 = .ok (.istore_n 3, 1) := by decide +kernel
theorem dX11_guide_76 : decode cX11_guide 76 = .ok (.iload_n 1, 1) := by decide +kernel
theorem dX11_guide_77 : decode cX11_guide 77 = .ok (.iload_n 3, 1) := by decide +kernel
theorem dX11_guide_78 : decode cX11_guide 78 = .ok (.ifCond .eq 7, 3) := by decide +kernel
theorem dX11_guide_81 : decode cX11_guide 81 = .ok (.iconst 1, 1) := by decide +kernel
theorem dX11_guide_82 : decode cX11_guide 82 = .ok (.goto 4, 3) := by decide +kernel
theorem dX11_guide_85 : decode cX11_guide 85 = .ok (.iconst 1, 1) := by decide +kernel
theorem dX11_guide_86 : decode cX11_guide 86 = .ok (.iadd, 1) := by decide +kernel
theorem dX11_guide_87 : decode cX11_guide 87 = .ok (.istore_n 1, 1) := by decide +kernel
theorem dX11_guide_88 : decode cX11_guide 88 = .ok (.iload_n 1, 1) := by decide +kernel
theorem dX11_guide_89 : decode cX11_guide 89 = .ok (.bipush 6, 2) := by decide +kernel
theorem dX11_guide_91 : decode cX11_guide 91 = .ok (.if_icmp .ge 16, 3) := by decide +kernel
theorem dX11_guide_94 : decode cX11_guide 94 = .ok (.aload_n 0, 1) := by decide +kernel
theorem dX11_guide_95 : decode cX11_guide 95 = .ok (.bipush 59, 2) := by decide +kernel
theorem dX11_guide_97 : decode cX11_guide 97 = .ok (.invokevirtual 283, 3) := by decide +kernel
theorem dX11_guide_100 : decode cX11_guide 100 = .ok (.ifCond .eq 7, 3) := by decide +kernel
theorem dX11_guide_103 : decode cX11_guide 103 = .ok (.iconst 1, 1) := by decide +kernel
theorem dX11_guide_104 : decode cX11_guide 104 = .ok (.goto 4, 3) := by decide +kernel
theorem dX11_guide_107 : decode cX11_guide 107 = .ok (.iconst 0, 1) := by decide +kernel
theorem dX11_guide_108 : decode cX11_guide 108 = .ok (.istore_n 2, 1) := by decide +kernel
theorem dX11_guide_109 : decode cX11_guide 109 = .ok (.goto (-43), 3) := by decide +kernel
theorem dX11_guide_112 : decode cX11_guide 112 = .ok (.aload_n 0, 1) := by decide +kernel
theorem dX11_guide_113 : decode cX11_guide 113 = .ok (.aload_n 0, 1) := by decide +kernel
theorem dX11_guide_114 : decode cX11_guide 114 = .ok (.getfield 271, 3) := by decide +kernel
theorem dX11_guide_117 : decode cX11_guide 117 = .ok (.ifCond .ne 10, 3) := by decide +kernel
theorem dX11_guide_120 : decode cX11_guide 120 = .ok (.aload_n 0, 1) := by decide +kernel
theorem dX11_guide_121 : decode cX11_guide 121 = .ok (.invokevirtual 275, 3) := by decide +kernel
theorem dX11_guide_124 : decode cX11_guide 124 = .ok (.ifCond .eq 7, 3) := by decide +kernel
theorem dX11_guide_127 : decode cX11_guide 127 = .ok (.iconst 1, 1) := by decide +kernel
theorem dX11_guide_128 : decode cX11_guide 128 = .ok (.goto 4, 3) := by decide +kernel
theorem dX11_guide_131 : decode cX11_guide 131 = .ok (.iconst 0, 1) := by decide +kernel
theorem dX11_guide_132 : decode cX11_guide 132 = .ok (.putfield 271, 3) := by decide +kernel
theorem dX11_guide_135 : decode cX11_guide 135 = .ok (.aload_n 0, 1) := by decide +kernel
theorem dX11_guide_136 : decode cX11_guide 136 = .ok (.getfield 271, 3) := by decide +kernel
theorem dX11_guide_139 : decode cX11_guide 139 = .ok (.ifCond .eq 11, 3) := by decide +kernel
theorem dX11_guide_142 : decode cX11_guide 142 = .ok (.bipush (-20), 2) := by decide +kernel
theorem dX11_guide_144 : decode cX11_guide 144 = .ok (.aload_n 0, 1) := by decide +kernel
theorem dX11_guide_145 : decode cX11_guide 145 = .ok (.getfield 265, 3) := by decide +kernel
theorem dX11_guide_148 : decode cX11_guide 148 = .ok (.isub, 1) := by decide +kernel
theorem dX11_guide_149 : decode cX11_guide 149 = .ok (.ireturn, 1) := by decide +kernel
theorem dX11_guide_150 : decode cX11_guide 150 = .ok (.iconst 0, 1) := by decide +kernel
theorem dX11_guide_151 : decode cX11_guide 151 = .ok (.istore_n 3, 1) := by decide +kernel
theorem dX11_guide_152 : decode cX11_guide 152 = .ok (.iload_n 3, 1) := by decide +kernel
theorem dX11_guide_153 : decode cX11_guide 153 = .ok (.aload_n 0, 1) := by decide +kernel
theorem dX11_guide_154 : decode cX11_guide 154 = .ok (.getfield 268, 3) := by decide +kernel
theorem dX11_guide_157 : decode cX11_guide 157 = .ok (.if_icmp .ge 21, 3) := by decide +kernel
theorem dX11_guide_160 : decode cX11_guide 160 = .ok (.aload_n 0, 1) := by decide +kernel
theorem dX11_guide_161 : decode cX11_guide 161 = .ok (.getfield 74, 3) := by decide +kernel
theorem dX11_guide_164 : decode cX11_guide 164 = .ok (.iload_n 3, 1) := by decide +kernel
theorem dX11_guide_165 : decode cX11_guide 165 = .ok (.aload_n 0, 1) := by decide +kernel
theorem dX11_guide_166 : decode cX11_guide 166 = .ok (.getfield 71, 3) := by decide +kernel
theorem dX11_guide_169 : decode cX11_guide 169 = .ok (.iload_n 3, 1) := by decide +kernel
theorem dX11_guide_170 : decode cX11_guide 170 = .ok (.iaload, 1) := by decide +kernel
theorem dX11_guide_171 : decode cX11_guide 171 = .ok (.iastore, 1) := by decide +kernel
theorem dX11_guide_172 : decode cX11_guide 172 = .ok (.iinc 3 1, 3) := by decide +kernel
theorem dX11_guide_175 : decode cX11_guide 175 = .ok (.goto (-23), 3) := by decide +kernel
theorem dX11_guide_178 : decode cX11_guide 178 = .ok (.aload_n 0, 1) := by decide +kernel
theorem dX11_guide_179 : decode cX11_guide 179 = .ok (.aload_n 0, 1) := by decide +kernel
theorem dX11_guide_180 : decode cX11_guide 180 = .ok (.getfield 268, 3) := by decide +kernel
theorem dX11_guide_183 : decode cX11_guide 183 = .ok (.putfield 306, 3) := by decide +kernel
theorem dX11_guide_186 : decode cX11_guide 186 = .ok (.aload_n 0, 1) := by decide +kernel
theorem dX11_guide_187 : decode cX11_guide 187 = .ok (.iload_n 1, 1) := by decide +kernel
theorem dX11_guide_188 : decode cX11_guide 188 = .ok (.putfield 187, 3) := by decide +kernel
theorem dX11_guide_191 : decode cX11_guide 191 = .ok (.iload_n 1, 1) := by decide +kernel
theorem dX11_guide_192 : decode cX11_guide 192 = .ok (.ireturn, 1) := by decide +kernel
theorem dX11_why_0 : decode cX11_why 0 = .ok (.aload_n 0, 1) := by decide +kernel
theorem dX11_why_1 : decode cX11_why 1 = .ok (.iload_n 1, 1) := by decide +kernel
theorem dX11_why_2 : decode cX11_why 2 = .ok (.invokevirtual 174, 3) := by decide +kernel
theorem dX11_why_5 : decode cX11_why 5 = .ok (.ifCond .eq 13, 3) := by decide +kernel
theorem dX11_why_8 : decode cX11_why 8 = .ok (.iload_n 2, 1) := by decide +kernel
theorem dX11_why_9 : decode cX11_why 9 = .ok (.i2l, 1) := by decide +kernel
theorem dX11_why_10 : decode cX11_why 10 = .ok (.lconst 0, 1) := by decide +kernel
theorem dX11_why_11 : decode cX11_why 11 = .ok (.lconst 1, 1) := by decide +kernel
theorem dX11_why_12 : decode cX11_why 12 = .ok (.invokestatic 120, 3) := by decide +kernel
theorem dX11_why_15 : decode cX11_why 15 = .ok (.ifCond .ne 5, 3) := by decide +kernel
theorem dX11_why_18 : decode cX11_why 18 = .ok (.iconst (-1), 1) := by decide +kernel
theorem dX11_why_19 : decode cX11_why 19 = .ok (.ireturn, 1) := by decide +kernel
theorem dX11_why_20 : decode cX11_why 20 = .ok (.iconst 0, 1) := by decide +kernel
theorem dX11_why_21 : decode cX11_why 21 = .ok (.istore_n 3, 1) := by decide +kernel
theorem dX11_why_22 : decode cX11_why 22 = .ok (.iload_n 3, 1) := by decide +kernel
theorem dX11_why_23 : decode cX11_why 23 = .ok (.aload_n 0, 1) := by decide +kernel
theorem dX11_why_24 : decode cX11_why 24 = .ok (.getfield 306, 3) := by decide +kernel
theorem dX11_why_27 : decode cX11_why 27 = .ok (.if_icmp .ge 21, 3) := by decide +kernel
theorem dX11_why_30 : decode cX11_why 30 = .ok (.aload_n 0, 1) := by decide +kernel
theorem dX11_why_31 : decode cX11_why 31 = .ok (.getfield 71, 3) := by decide +kernel
theorem dX11_why_34 : decode cX11_why 34 = .ok (.iload_n 3, 1) := by decide +kernel
theorem dX11_why_35 : decode cX11_why 35 = .ok (.aload_n 0, 1) := by decide +kernel
theorem dX11_why_36 : decode cX11_why 36 = .ok (.getfield 74, 3) := by decide +kernel
theorem dX11_why_39 : decode cX11_why 39 = .ok (.iload_n 3, 1) := by decide +kernel
theorem dX11_why_40 : decode cX11_why 40 = .ok (.iaload, 1) := by decide +kernel
theorem dX11_why_41 : decode cX11_why 41 = .ok (.iastore, 1) := by decide +kernel
theorem dX11_why_42 : decode cX11_why 42 = .ok (.iinc 3 1, 3) := by decide +kernel
theorem dX11_why_45 : decode cX11_why 45 = .ok (.goto (-23), 3) := by decide +kernel
theorem dX11_why_48 : decode cX11_why 48 = .ok (.aload_n 0, 1) := by decide +kernel
theorem dX11_why_49 : decode cX11_why 49 = .ok (.aload_n 0, 1) := by decide +kernel
theorem dX11_why_50 : decode cX11_why 50 = .ok (.getfield 306, 3) := by decide +kernel
theorem dX11_why_53 : decode cX11_why 53 = .ok (.putfield 268, 3) := by decide +kernel
theorem dX11_why_56 : decode cX11_why 56 = .ok (.aload_n 0, 1) := by decide +kernel
theorem dX11_why_57 : decode cX11_why 57 = .ok (.iconst 0, 1) := by decide +kernel
theorem dX11_why_58 : decode cX11_why 58 = .ok (.putfield 265, 3) := by decide +kernel
theorem dX11_why_61 : decode cX11_why 61 = .ok (.aload_n 0, 1) := by decide +kernel
theorem dX11_why_62 : decode cX11_why 62 = .ok (.iconst 0, 1) := by decide +kernel
theorem dX11_why_63 : decode cX11_why 63 = .ok (.putfield 271, 3) := by decide +kernel
theorem dX11_why_66 : decode cX11_why 66 = .ok (.bipush (-4), 2) := by decide +kernel
theorem dX11_why_68 : decode cX11_why 68 = .ok (.istore_n 3, 1) := by decide +kernel
theorem dX11_why_69 : decode cX11_why 69 = .ok (.iconst 0, 1) := by decide +kernel
theorem dX11_why_70 : decode cX11_why 70 = .ok (.istore 4, 2) := by decide +kernel
theorem dX11_why_72 : decode cX11_why 72 = .ok (.iload 4, 2) := by decide +kernel
theorem dX11_why_74 : decode cX11_why 74 = .ok (.aload_n 0, 1) := by decide +kernel
theorem dX11_why_75 : decode cX11_why 75 = .ok (.getfield 187, 3) := by decide +kernel
theorem dX11_why_78 : decode cX11_why 78 = .ok (.if_icmp .ge 99, 3) := by decide +kernel
theorem dX11_why_81 : decode cX11_why 81 = .ok (.aload_n 0, 1) := by decide +kernel
theorem dX11_why_82 : decode cX11_why 82 = .ok (.aload_n 0, 1) := by decide +kernel
theorem dX11_why_83 : decode cX11_why 83 = .ok (.getfield 19, 3) := by decide +kernel
theorem dX11_why_86 : decode cX11_why 86 = .ok (.iload_n 1, 1) := by decide +kernel
theorem dX11_why_87 : decode cX11_why 87 = .ok (.iaload, 1) := by decide +kernel
theorem dX11_why_88 : decode cX11_why 88 = .ok (.invokevirtual 303, 3) := by decide +kernel
theorem dX11_why_91 : decode cX11_why 91 = .ok (.istore 5, 2) := by decide +kernel
theorem dX11_why_93 : decode cX11_why 93 = .ok (.iload 5, 2) := by decide +kernel
theorem dX11_why_95 : decode cX11_why 95 = .ok (.ifCond .eq 21, 3) := by decide +kernel
theorem dX11_why_98 : decode cX11_why 98 = .ok (.aload_n 0, 1) := by decide +kernel
theorem dX11_why_99 : decode cX11_why 99 = .ok (.getfield 300, 3) := by decide +kernel
theorem dX11_why_102 : decode cX11_why 102 = .ok (.aload_n 0, 1) := by decide +kernel
theorem dX11_why_103 : decode cX11_why 103 = .ok (.getfield 180, 3) := by decide +kernel
theorem dX11_why_106 : decode cX11_why 106 = .ok (.bipush 24, 2) := by decide +kernel
theorem dX11_why_108 : decode cX11_why 108 = .ok (.idiv, 1) := by decide +kernel
theorem dX11_why_109 : decode cX11_why 109 = .ok (.if_icmp .gt 7, 3) := by decide +kernel
theorem dX11_why_112 : decode cX11_why 112 = .ok (.iconst 1, 1) := by decide +kernel
theorem dX11_why_113 : decode cX11_why 113 = .ok (.goto 4, 3) := by decide +kernel
theorem dX11_why_116 : decode cX11_why 116 = .ok (.iconst 0, 1) := by decide +kernel
theorem dX11_why_117 : decode cX11_why 117 = .ok (.istore 6, 2) := by decide +kernel
theorem dX11_why_119 : decode cX11_why 119 = .ok (.iload 6, 2) := by decide +kernel
theorem dX11_why_121 : decode cX11_why 121 = .ok (.ifCond .eq 19, 3) := by decide +kernel
theorem dX11_why_124 : decode cX11_why 124 = .ok (.iload_n 2, 1) := by decide +kernel
theorem dX11_why_125 : decode cX11_why 125 = .ok (.ifCond .ne 8, 3) := by decide +kernel
theorem dX11_why_128 : decode cX11_why 128 = .ok (.iload 4, 2) := by decide +kernel
theorem dX11_why_130 : decode cX11_why 130 = .ok (.goto 11, 3) := by decide +kernel
theorem dX11_why_133 : decode cX11_why 133 = .ok (.aload_n 0, 1) := by decide +kernel
theorem dX11_why_134 : decode cX11_why 134 = .ok (.getfield 294, 3) := by decide +kernel
theorem dX11_why_137 : decode cX11_why 137 = .ok (.goto 4, 3) := by decide +kernel
theorem dX11_why_140 : decode cX11_why 140 = .ok (.iload_n 3, 1) := by decide +kernel
theorem dX11_why_141 : decode cX11_why 141 = .ok (.istore_n 3, 1) := by decide +kernel
theorem dX11_why_142 : decode cX11_why 142 = .ok (.aload_n 0, 1) := by decide +kernel
theorem dX11_why_143 : decode cX11_why 143 = .ok (.bipush 59, 2) := by decide +kernel
theorem dX11_why_145 : decode cX11_why 145 = .ok (.invokevirtual 283, 3) := by decide +kernel
theorem dX11_why_148 : decode cX11_why 148 = .ok (.istore 7, 2) := by decide +kernel
theorem dX11_why_150 : decode cX11_why 150 = .ok (.aload_n 0, 1) := by decide +kernel
theorem dX11_why_151 : decode cX11_why 151 = .ok (.aload_n 0, 1) := by decide +kernel
theorem dX11_why_152 : decode cX11_why 152 = .ok (.getfield 271, 3) := by decide +kernel
theorem dX11_why_155 : decode cX11_why 155 = .ok (.ifCond .eq 12, 3) := by decide +kernel
theorem dX11_why_158 : decode cX11_why 158 = .ok (.iload 7, 2) := by decide +kernel
theorem dX11_why_160 : decode cX11_why 160 = .ok (.ifCond .eq 7, 3) := by decide +kernel
theorem dX11_why_163 : decode cX11_why 163 = .ok (.iconst 1, 1) := by decide +kernel
theorem dX11_why_164 : decode cX11_why 164 = .ok (.goto 4, 3) := by decide +kernel
theorem dX11_why_167 : decode cX11_why 167 = .ok (.iconst 0, 1) := by decide +kernel
theorem dX11_why_168 : decode cX11_why 168 = .ok (.putfield 271, 3) := by decide +kernel
theorem dX11_why_171 : decode cX11_why 171 = .ok (.iinc 4 1, 3) := by decide +kernel
theorem dX11_why_174 : decode cX11_why 174 = .ok (.goto (-102), 3) := by decide +kernel
theorem dX11_why_177 : decode cX11_why 177 = .ok (.iload_n 3, 1) := by decide +kernel
theorem dX11_why_178 : decode cX11_why 178 = .ok (.ireturn, 1) := by decide +kernel
theorem dX11_looks_0 : decode cX11_looks 0 = .ok (.aload_n 0, 1) := by decide +kernel
theorem dX11_looks_1 : decode cX11_looks 1 = .ok (.iconst 0, 1) := by decide +kernel
theorem dX11_looks_2 : decode cX11_looks 2 = .ok (.putfield 309, 3) := by decide +kernel
theorem dX11_looks_5 : decode cX11_looks 5 = .ok (.iconst (-1), 1) := by decide +kernel
theorem dX11_looks_6 : decode cX11_looks 6 = .ok (.istore_n 2, 1) := by decide +kernel
theorem dX11_looks_7 : decode cX11_looks 7 = .ok (.iconst 1, 1) := by decide +kernel
theorem dX11_looks_8 : decode cX11_looks 8 = .ok (.istore_n 3, 1) := by decide +kernel
theorem dX11_looks_9 : decode cX11_looks 9 = .ok (.iload_n 3, 1) := by decide +kernel
theorem dX11_looks_10 : decode cX11_looks 10 = .ok (.ifCond .eq 136, 3) := by decide +kernel
theorem dX11_looks_13 : decode cX11_looks 13 = .ok (.aload_n 0, 1) := by decide +kernel
theorem dX11_looks_14 : decode cX11_looks 14 = .ok (.getfield 309, 3) := by decide +kernel
theorem dX11_looks_17 : decode cX11_looks 17 = .ok (.bipush 12, 2) := by decide +kernel
theorem dX11_looks_19 : decode cX11_looks 19 = .ok (.if_icmp .ge 127, 3) := by decide +kernel
theorem dX11_looks_22 : decode cX11_looks 22 = .ok (.sipush 10000, 3) := by decide +kernel
theorem dX11_looks_25 : decode cX11_looks 25 = .ok (.istore 4, 2) := by decide +kernel
theorem dX11_looks_27 : decode cX11_looks 27 = .ok (.iconst 0, 1) := by decide +kernel
theorem dX11_looks_28 : decode cX11_looks 28 = .ok (.istore 5, 2) := by decide +kernel
theorem dX11_looks_30 : decode cX11_looks 30 = .ok (.iload 5, 2) := by decide +kernel
theorem dX11_looks_32 : decode cX11_looks 32 = .ok (.aload_n 0, 1) := by decide +kernel
theorem dX11_looks_33 : decode cX11_looks 33 = .ok (.getfield 116, 3) := by decide +kernel
theorem dX11_looks_36 : decode cX11_looks 36 = .ok (.if_icmp .ge 65, 3) := by decide +kernel
theorem dX11_looks_39 : decode cX11_looks 39 = .ok (.bipush 8, 2) := by decide +kernel
theorem dX11_looks_41 : decode cX11_looks 41 = .ok (.iload 5, 2) := by decide +kernel
theorem dX11_looks_43 : decode cX11_looks 43 = .ok (.imul, 1) := by decide +kernel
theorem dX11_looks_44 : decode cX11_looks 44 = .ok (.iload_n 1, 1) := by decide +kernel
theorem dX11_looks_45 : decode cX11_looks 45 = .ok (.iadd, 1) := by decide +kernel
theorem dX11_looks_46 : decode cX11_looks 46 = .ok (.istore 6, 2) := by decide +kernel
theorem dX11_looks_48 : decode cX11_looks 48 = .ok (.aload_n 0, 1) := by decide +kernel
theorem dX11_looks_49 : decode cX11_looks 49 = .ok (.getfield 38, 3) := by decide +kernel
theorem dX11_looks_52 : decode cX11_looks 52 = .ok (.iload 6, 2) := by decide +kernel
theorem dX11_looks_54 : decode cX11_looks 54 = .ok (.iaload, 1) := by decide +kernel
theorem dX11_looks_55 : decode cX11_looks 55 = .ok (.ifCond .eq 36, 3) := by decide +kernel
theorem dX11_looks_58 : decode cX11_looks 58 = .ok (.aload_n 0, 1) := by decide +kernel
theorem dX11_looks_59 : decode cX11_looks 59 = .ok (.getfield 44, 3) := by decide +kernel
theorem dX11_looks_62 : decode cX11_looks 62 = .ok (.iload 6, 2) := by decide +kernel
theorem dX11_looks_64 : decode cX11_looks 64 = .ok (.iaload, 1) := by decide +kernel
theorem dX11_looks_65 : decode cX11_looks 65 = .ok (.iload_n 2, 1) := by decide +kernel
theorem dX11_looks_66 : decode cX11_looks 66 = .ok (.if_icmp .le 25, 3) := by decide +kernel
theorem dX11_looks_69 : decode cX11_looks 69 = .ok (.aload_n 0, 1) := by decide +kernel
theorem dX11_looks_70 : decode cX11_looks 70 = .ok (.getfield 44, 3) := by decide +kernel
theorem dX11_looks_73 : decode cX11_looks 73 = .ok (.iload 6, 2) := by decide +kernel
theorem dX11_looks_75 : decode cX11_looks 75 = .ok (.iaload, 1) := by decide +kernel
theorem dX11_looks_76 : decode cX11_looks 76 = .ok (.iload 4, 2) := by decide +kernel
theorem dX11_looks_78 : decode cX11_looks 78 = .ok (.if_icmp .ge 13, 3) := by decide +kernel
theorem dX11_looks_81 : decode cX11_looks 81 = .ok (.aload_n 0, 1) := by decide +kernel
theorem dX11_looks_82 : decode cX11_looks 82 = .ok (.getfield 44, 3) := by decide +kernel
theorem dX11_looks_85 : decode cX11_looks 85 = .ok (.iload 6, 2) := by decide +kernel
theorem dX11_looks_87 : decode cX11_looks 87 = .ok (.iaload, 1) := by decide +kernel
theorem dX11_looks_88 : decode cX11_looks 88 = .ok (.goto 5, 3) := by decide +kernel
theorem dX11_looks_91 : decode cX11_looks 91 = .ok (.iload 4, 2) := by decide +kernel
theorem dX11_looks_93 : decode cX11_looks 93 = .ok (.istore 4, 2) := by decide +kernel
theorem dX11_looks_95 : decode cX11_looks 95 = .ok (.iinc 5 1, 3) := by decide +kernel
theorem dX11_looks_98 : decode cX11_looks 98 = .ok (.goto (-68), 3) := by decide +kernel
theorem dX11_looks_101 : decode cX11_looks 101 = .ok (.iload 4, 2) := by decide +kernel
theorem dX11_looks_103 : decode cX11_looks 103 = .ok (.sipush 10000, 3) := by decide +kernel
theorem dX11_looks_106 : decode cX11_looks 106 = .ok (.if_icmp .ge 7, 3) := by decide +kernel
theorem dX11_looks_109 : decode cX11_looks 109 = .ok (.iconst 1, 1) := by decide +kernel
theorem dX11_looks_110 : decode cX11_looks 110 = .ok (.goto 4, 3) := by decide +kernel
theorem dX11_looks_113 : decode cX11_looks 113 = .ok (.iconst 0, 1) := by decide +kernel
theorem dX11_looks_114 : decode cX11_looks 114 = .ok (.istore_n 3, 1) := by decide +kernel
theorem dX11_looks_115 : decode cX11_looks 115 = .ok (.iload_n 3, 1) := by decide +kernel
theorem dX11_looks_116 : decode cX11_looks 116 = .ok (.ifCond .eq 27, 3) := by decide +kernel
theorem dX11_looks_119 : decode cX11_looks 119 = .ok (.aload_n 0, 1) := by decide +kernel
theorem dX11_looks_120 : decode cX11_looks 120 = .ok (.getfield 86, 3) := by decide +kernel
theorem dX11_looks_123 : decode cX11_looks 123 = .ok (.aload_n 0, 1) := by decide +kernel
theorem dX11_looks_124 : decode cX11_looks 124 = .ok (.getfield 309, 3) := by decide +kernel
theorem dX11_looks_127 : decode cX11_looks 127 = .ok (.iload 4, 2) := by decide +kernel
theorem dX11_looks_129 : decode cX11_looks 129 = .ok (.iastore, 1) := by decide +kernel
theorem dX11_looks_130 : decode cX11_looks 130 = .ok (.aload_n 0, 1) := by decide +kernel
theorem dX11_looks_131 : decode cX11_looks 131 = .ok (.dup, 1) := by decide +kernel
theorem dX11_looks_132 : decode cX11_looks 132 = .ok (.getfield 309, 3) := by decide +kernel
theorem dX11_looks_135 : decode cX11_looks 135 = .ok (.iconst 1, 1) := by decide +kernel
theorem dX11_looks_136 : decode cX11_looks 136 = .ok (.iadd, 1) := by decide +kernel
theorem dX11_looks_137 : decode cX11_looks 137 = .ok (.putfield 309, 3) := by decide +kernel
theorem dX11_looks_140 : decode cX11_looks 140 = .ok (.iload 4, 2) := by decide +kernel
theorem dX11_looks_142 : decode cX11_looks 142 = .ok (.istore_n 2, 1) := by decide +kernel
theorem dX11_looks_143 : decode cX11_looks 143 = .ok (.goto (-134), 3) := by decide +kernel
theorem dX11_looks_146 : decode cX11_looks 146 = .ok (.return_, 1) := by decide +kernel
theorem dX11_far_0 : decode cX11_far 0 = .ok (.iconst 0, 1) := by decide +kernel
theorem dX11_far_1 : decode cX11_far 1 = .ok (.istore_n 2, 1) := by decide +kernel
theorem dX11_far_2 : decode cX11_far 2 = .ok (.iconst 1, 1) := by decide +kernel
theorem dX11_far_3 : decode cX11_far 3 = .ok (.istore_n 3, 1) := by decide +kernel
theorem dX11_far_4 : decode cX11_far 4 = .ok (.iload_n 3, 1) := by decide +kernel
theorem dX11_far_5 : decode cX11_far 5 = .ok (.iconst 4, 1) := by decide +kernel
theorem dX11_far_6 : decode cX11_far 6 = .ok (.if_icmp .gt 30, 3) := by decide +kernel
theorem dX11_far_9 : decode cX11_far 9 = .ok (.iload_n 2, 1) := by decide +kernel
theorem dX11_far_10 : decode cX11_far 10 = .ok (.iload_n 0, 1) := by decide +kernel
theorem dX11_far_11 : decode cX11_far 11 = .ok (.iload_n 3, 1) := by decide +kernel
theorem dX11_far_12 : decode cX11_far 12 = .ok (.invokestatic 177, 3) := by decide +kernel
theorem dX11_far_15 : decode cX11_far 15 = .ok (.iload_n 1, 1) := by decide +kernel
theorem dX11_far_16 : decode cX11_far 16 = .ok (.iload_n 3, 1) := by decide +kernel
theorem dX11_far_17 : decode cX11_far 17 = .ok (.invokestatic 177, 3) := by decide +kernel
theorem dX11_far_20 : decode cX11_far 20 = .ok (.if_icmp .ne 7, 3) := by decide +kernel
theorem dX11_far_23 : decode cX11_far 23 = .ok (.iconst 0, 1) := by decide +kernel
theorem dX11_far_24 : decode cX11_far 24 = .ok (.goto 4, 3) := by decide +kernel
theorem dX11_far_27 : decode cX11_far 27 = .ok (.iconst 1, 1) := by decide +kernel
theorem dX11_far_28 : decode cX11_far 28 = .ok (.iadd, 1) := by decide +kernel
theorem dX11_far_29 : decode cX11_far 29 = .ok (.istore_n 2, 1) := by decide +kernel
theorem dX11_far_30 : decode cX11_far 30 = .ok (.iinc 3 1, 3) := by decide +kernel
theorem dX11_far_33 : decode cX11_far 33 = .ok (.goto (-29), 3) := by decide +kernel
theorem dX11_far_36 : decode cX11_far 36 = .ok (.iload_n 2, 1) := by decide +kernel
theorem dX11_far_37 : decode cX11_far 37 = .ok (.ireturn, 1) := by decide +kernel
theorem dX11_joins_0 : decode cX11_joins 0 = .ok (.aload_n 0, 1) := by decide +kernel
theorem dX11_joins_1 : decode cX11_joins 1 = .ok (.iload_n 1, 1) := by decide +kernel
theorem dX11_joins_2 : decode cX11_joins 2 = .ok (.invokevirtual 312, 3) := by decide +kernel
theorem dX11_joins_5 : decode cX11_joins 5 = .ok (.aload_n 0, 1) := by decide +kernel
theorem dX11_joins_6 : decode cX11_joins 6 = .ok (.iconst 0, 1) := by decide +kernel
theorem dX11_joins_7 : decode cX11_joins 7 = .ok (.putfield 315, 3) := by decide +kernel
theorem dX11_joins_10 : decode cX11_joins 10 = .ok (.iconst 1, 1) := by decide +kernel
theorem dX11_joins_11 : decode cX11_joins 11 = .ok (.istore_n 2, 1) := by decide +kernel
theorem dX11_joins_12 : decode cX11_joins 12 = .ok (.aload_n 0, 1) := by decide +kernel
theorem dX11_joins_13 : decode cX11_joins 13 = .ok (.getfield 89, 3) := by decide +kernel
theorem dX11_joins_16 : decode cX11_joins 16 = .ok (.iconst 0, 1) := by decide +kernel
theorem dX11_joins_17 : decode cX11_joins 17 = .ok (.bipush (-4), 2) := by decide +kernel
theorem dX11_joins_19 : decode cX11_joins 19 = .ok (.iastore, 1) := by decide +kernel
theorem dX11_joins_20 : decode cX11_joins 20 = .ok (.iconst 1, 1) := by decide +kernel
theorem dX11_joins_21 : decode cX11_joins 21 = .ok (.istore_n 3, 1) := by decide +kernel
theorem dX11_joins_22 : decode cX11_joins 22 = .ok (.iload_n 3, 1) := by decide +kernel
theorem dX11_joins_23 : decode cX11_joins 23 = .ok (.aload_n 0, 1) := by decide +kernel
theorem dX11_joins_24 : decode cX11_joins 24 = .ok (.getfield 309, 3) := by decide +kernel
theorem dX11_joins_27 : decode cX11_joins 27 = .ok (.if_icmp .ge 164, 3) := by decide +kernel
theorem dX11_joins_30 : decode cX11_joins 30 = .ok (.bipush (-4), 2) := by decide +kernel
theorem dX11_joins_32 : decode cX11_joins 32 = .ok (.istore 4, 2) := by decide +kernel
theorem dX11_joins_34 : decode cX11_joins 34 = .ok (.bipush (-4), 2) := by decide +kernel
theorem dX11_joins_36 : decode cX11_joins 36 = .ok (.istore 5, 2) := by decide +kernel
theorem dX11_joins_38 : decode cX11_joins 38 = .ok (.bipush 100, 2) := by decide +kernel
theorem dX11_joins_40 : decode cX11_joins 40 = .ok (.istore 6, 2) := by decide +kernel
theorem dX11_joins_42 : decode cX11_joins 42 = .ok (.iconst 0, 1) := by decide +kernel
theorem dX11_joins_43 : decode cX11_joins 43 = .ok (.istore 7, 2) := by decide +kernel
theorem dX11_joins_45 : decode cX11_joins 45 = .ok (.iload 7, 2) := by decide +kernel
theorem dX11_joins_47 : decode cX11_joins 47 = .ok (.aload_n 0, 1) := by decide +kernel
theorem dX11_joins_48 : decode cX11_joins 48 = .ok (.getfield 309, 3) := by decide +kernel
theorem dX11_joins_51 : decode cX11_joins 51 = .ok (.if_icmp .ge 107, 3) := by decide +kernel
theorem dX11_joins_54 : decode cX11_joins 54 = .ok (.iconst 0, 1) := by decide +kernel
theorem dX11_joins_55 : decode cX11_joins 55 = .ok (.istore 8, 2) := by decide +kernel
theorem dX11_joins_57 : decode cX11_joins 57 = .ok (.iload 8, 2) := by decide +kernel
theorem dX11_joins_59 : decode cX11_joins 59 = .ok (.aload_n 0, 1) := by decide +kernel
theorem dX11_joins_60 : decode cX11_joins 60 = .ok (.getfield 309, 3) := by decide +kernel
theorem dX11_joins_63 : decode cX11_joins 63 = .ok (.if_icmp .ge 89, 3) := by decide +kernel
theorem dX11_joins_66 : decode cX11_joins 66 = .ok (.iload_n 2, 1) := by decide +kernel
theorem dX11_joins_67 : decode cX11_joins 67 = .ok (.iload 7, 2) := by decide +kernel
theorem dX11_joins_69 : decode cX11_joins 69 = .ok (.ishr, 1) := by decide +kernel
theorem dX11_joins_70 : decode cX11_joins 70 = .ok (.iconst 1, 1) := by decide +kernel
theorem dX11_joins_71 : decode cX11_joins 71 = .ok (.iand, 1) := by decide +kernel
theorem dX11_joins_72 : decode cX11_joins 72 = .ok (.ifCond .ne 17, 3) := by decide +kernel
theorem dX11_joins_75 : decode cX11_joins 75 = .ok (.iload_n 2, 1) := by decide +kernel
theorem dX11_joins_76 : decode cX11_joins 76 = .ok (.iload 8, 2) := by decide +kernel
theorem dX11_joins_78 : decode cX11_joins 78 = .ok (.ishr, 1) := by decide +kernel
theorem dX11_joins_79 : decode cX11_joins 79 = .ok (.iconst 1, 1) := by decide +kernel
theorem dX11_joins_80 : decode cX11_joins 80 = .ok (.iand, 1) := by decide +kernel
theorem dX11_joins_81 : decode cX11_joins 81 = .ok (.iconst 1, 1) := by decide +kernel
theorem dX11_joins_82 : decode cX11_joins 82 = .ok (.if_icmp .ne 7, 3) := by decide +kernel
theorem dX11_joins_85 : decode cX11_joins 85 = .ok (.iconst 1, 1) := by decide +kernel
theorem dX11_joins_86 : decode cX11_joins 86 = .ok (.goto 4, 3) := by decide +kernel
theorem dX11_joins_89 : decode cX11_joins 89 = .ok (.iconst 0, 1) := by decide +kernel
theorem dX11_joins_90 : decode cX11_joins 90 = .ok (.istore 9, 2) := by decide +kernel
theorem dX11_joins_92 : decode cX11_joins 92 = .ok (.iload 9, 2) := by decide +kernel
theorem dX11_joins_94 : decode cX11_joins 94 = .ok (.ifCond .eq 52, 3) := by decide +kernel
theorem dX11_joins_97 : decode cX11_joins 97 = .ok (.aload_n 0, 1) := by decide +kernel
theorem dX11_joins_98 : decode cX11_joins 98 = .ok (.getfield 86, 3) := by decide +kernel
theorem dX11_joins_101 : decode cX11_joins 101 = .ok (.iload 7, 2) := by decide +kernel
theorem dX11_joins_103 : decode cX11_joins 103 = .ok (.iaload, 1) := by decide +kernel
theorem dX11_joins_104 : decode cX11_joins 104 = .ok (.aload_n 0, 1) := by decide +kernel
theorem dX11_joins_105 : decode cX11_joins 105 = .ok (.getfield 86, 3) := by decide +kernel
theorem dX11_joins_108 : decode cX11_joins 108 = .ok (.iload 8, 2) := by decide +kernel
theorem dX11_joins_110 : decode cX11_joins 110 = .ok (.iaload, 1) := by decide +kernel
theorem dX11_joins_111 : decode cX11_joins 111 = .ok (.invokestatic 318, 3) := by decide +kernel
theorem dX11_joins_114 : decode cX11_joins 114 = .ok (.iload 6, 2) := by decide +kernel
theorem dX11_joins_116 : decode cX11_joins 116 = .ok (.if_icmp .ge 30, 3) := by decide +kernel
theorem dX11_joins_119 : decode cX11_joins 119 = .ok (.aload_n 0, 1) := by decide +kernel
theorem dX11_joins_120 : decode cX11_joins 120 = .ok (.getfield 86, 3) := by decide +kernel
theorem dX11_joins_123 : decode cX11_joins 123 = .ok (.iload 7, 2) := by decide +kernel
theorem dX11_joins_125 : decode cX11_joins 125 = .ok (.iaload, 1) := by decide +kernel
theorem dX11_joins_126 : decode cX11_joins 126 = .ok (.aload_n 0, 1) := by decide +kernel
theorem dX11_joins_127 : decode cX11_joins 127 = .ok (.getfield 86, 3) := by decide +kernel
theorem dX11_joins_130 : decode cX11_joins 130 = .ok (.iload 8, 2) := by decide +kernel
theorem dX11_joins_132 : decode cX11_joins 132 = .ok (.iaload, 1) := by decide +kernel
theorem dX11_joins_133 : decode cX11_joins 133 = .ok (.invokestatic 318, 3) := by decide +kernel
theorem dX11_joins_136 : decode cX11_joins 136 = .ok (.istore 6, 2) := by decide +kernel
theorem dX11_joins_138 : decode cX11_joins 138 = .ok (.iload 7, 2) := by decide +kernel
theorem dX11_joins_140 : decode cX11_joins 140 = .ok (.istore 4, 2) := by decide +kernel
theorem dX11_joins_142 : decode cX11_joins 142 = .ok (.iload 8, 2) := by decide +kernel
theorem dX11_joins_144 : decode cX11_joins 144 = .ok (.istore 5, 2) := by decide +kernel
theorem dX11_joins_146 : decode cX11_joins 146 = .ok (.iinc 8 1, 3) := by decide +kernel
theorem dX11_joins_149 : decode cX11_joins 149 = .ok (.goto (-92), 3) := by decide +kernel
theorem dX11_joins_152 : decode cX11_joins 152 = .ok (.iinc 7 1, 3) := by decide +kernel
theorem dX11_joins_155 : decode cX11_joins 155 = .ok (.goto (-110), 3) := by decide +kernel
theorem dX11_joins_158 : decode cX11_joins 158 = .ok (.iload_n 2, 1) := by decide +kernel
theorem dX11_joins_159 : decode cX11_joins 159 = .ok (.iconst 1, 1) := by decide +kernel
theorem dX11_joins_160 : decode cX11_joins 160 = .ok (.iload 4, 2) := by decide +kernel
theorem dX11_joins_162 : decode cX11_joins 162 = .ok (.ishl, 1) := by decide +kernel
theorem dX11_joins_163 : decode cX11_joins 163 = .ok (.ior, 1) := by decide +kernel
theorem dX11_joins_164 : decode cX11_joins 164 = .ok (.istore_n 2, 1) := by decide +kernel
theorem dX11_joins_165 : decode cX11_joins 165 = .ok (.aload_n 0, 1) := by decide +kernel
theorem dX11_joins_166 : decode cX11_joins 166 = .ok (.getfield 89, 3) := by decide +kernel
theorem dX11_joins_169 : decode cX11_joins 169 = .ok (.iload 4, 2) := by decide +kernel
theorem dX11_joins_171 : decode cX11_joins 171 = .ok (.iload 5, 2) := by decide +kernel
theorem dX11_joins_173 : decode cX11_joins 173 = .ok (.iastore, 1) := by decide +kernel
theorem dX11_joins_174 : decode cX11_joins 174 = .ok (.aload_n 0, 1) := by decide +kernel
theorem dX11_joins_175 : decode cX11_joins 175 = .ok (.dup, 1) := by decide +kernel
theorem dX11_joins_176 : decode cX11_joins 176 = .ok (.getfield 315, 3) := by decide +kernel
theorem dX11_joins_179 : decode cX11_joins 179 = .ok (.iload 6, 2) := by decide +kernel
theorem dX11_joins_181 : decode cX11_joins 181 = .ok (.iadd, 1) := by decide +kernel
theorem dX11_joins_182 : decode cX11_joins 182 = .ok (.putfield 315, 3) := by decide +kernel
theorem dX11_joins_185 : decode cX11_joins 185 = .ok (.iinc 3 1, 3) := by decide +kernel
theorem dX11_joins_188 : decode cX11_joins 188 = .ok (.goto (-166), 3) := by decide +kernel
theorem dX11_joins_191 : decode cX11_joins 191 = .ok (.return_, 1) := by decide +kernel
theorem dX11_versions_0 : decode cX11_versions 0 = .ok (.aload_n 0, 1) := by decide +kernel
theorem dX11_versions_1 : decode cX11_versions 1 = .ok (.iload_n 1, 1) := by decide +kernel
theorem dX11_versions_2 : decode cX11_versions 2 = .ok (.invokevirtual 174, 3) := by decide +kernel
theorem dX11_versions_5 : decode cX11_versions 5 = .ok (.ifCond .ne 5, 3) := by decide +kernel
theorem dX11_versions_8 : decode cX11_versions 8 = .ok (.iconst (-1), 1) := by decide +kernel
theorem dX11_versions_9 : decode cX11_versions 9 = .ok (.ireturn, 1) := by decide +kernel
theorem dX11_versions_10 : decode cX11_versions 10 = .ok (.aload_n 0, 1) := by decide +kernel
theorem dX11_versions_11 : decode cX11_versions 11 = .ok (.iload_n 1, 1) := by decide +kernel
theorem dX11_versions_12 : decode cX11_versions 12 = .ok (.invokevirtual 312, 3) := by decide +kernel
theorem dX11_versions_15 : decode cX11_versions 15 = .ok (.aload_n 0, 1) := by decide +kernel
theorem dX11_versions_16 : decode cX11_versions 16 = .ok (.getfield 309, 3) := by decide +kernel
theorem dX11_versions_19 : decode cX11_versions 19 = .ok (.ireturn, 1) := by decide +kernel
theorem dX11_version_0 : decode cX11_version 0 = .ok (.aload_n 0, 1) := by decide +kernel
theorem dX11_version_1 : decode cX11_version 1 = .ok (.iload_n 1, 1) := by decide +kernel
theorem dX11_version_2 : decode cX11_version 2 = .ok (.invokevirtual 174, 3) := by decide +kernel
theorem dX11_version_5 : decode cX11_version 5 = .ok (.ifCond .eq 13, 3) := by decide +kernel
theorem dX11_version_8 : decode cX11_version 8 = .ok (.iload_n 3, 1) := by decide +kernel
theorem dX11_version_9 : decode cX11_version 9 = .ok (.i2l, 1) := by decide +kernel
theorem dX11_version_10 : decode cX11_version 10 = .ok (.lconst 0, 1) := by decide +kernel
theorem dX11_version_11 : decode cX11_version 11 = .ok (.lconst 1, 1) := by decide +kernel
theorem dX11_version_12 : decode cX11_version 12 = .ok (.invokestatic 120, 3) := by decide +kernel
theorem dX11_version_15 : decode cX11_version 15 = .ok (.ifCond .ne 5, 3) := by decide +kernel
theorem dX11_version_18 : decode cX11_version 18 = .ok (.iconst (-1), 1) := by decide +kernel
theorem dX11_version_19 : decode cX11_version 19 = .ok (.ireturn, 1) := by decide +kernel
theorem dX11_version_20 : decode cX11_version 20 = .ok (.aload_n 0, 1) := by decide +kernel
theorem dX11_version_21 : decode cX11_version 21 = .ok (.iload_n 1, 1) := by decide +kernel
theorem dX11_version_22 : decode cX11_version 22 = .ok (.invokevirtual 321, 3) := by decide +kernel
theorem dX11_version_25 : decode cX11_version 25 = .ok (.iload_n 2, 1) := by decide +kernel
theorem dX11_version_26 : decode cX11_version 26 = .ok (.i2l, 1) := by decide +kernel
theorem dX11_version_27 : decode cX11_version 27 = .ok (.lconst 0, 1) := by decide +kernel
theorem dX11_version_28 : decode cX11_version 28 = .ok (.aload_n 0, 1) := by decide +kernel
theorem dX11_version_29 : decode cX11_version 29 = .ok (.getfield 309, 3) := by decide +kernel
theorem dX11_version_32 : decode cX11_version 32 = .ok (.iconst 1, 1) := by decide +kernel
theorem dX11_version_33 : decode cX11_version 33 = .ok (.isub, 1) := by decide +kernel
theorem dX11_version_34 : decode cX11_version 34 = .ok (.i2l, 1) := by decide +kernel
theorem dX11_version_35 : decode cX11_version 35 = .ok (.invokestatic 120, 3) := by decide +kernel
theorem dX11_version_38 : decode cX11_version 38 = .ok (.ifCond .ne 5, 3) := by decide +kernel
theorem dX11_version_41 : decode cX11_version 41 = .ok (.iconst (-1), 1) := by decide +kernel
theorem dX11_version_42 : decode cX11_version 42 = .ok (.ireturn, 1) := by decide +kernel
theorem dX11_version_43 : decode cX11_version 43 = .ok (.iload_n 3, 1) := by decide +kernel
theorem dX11_version_44 : decode cX11_version 44 = .ok (.ifCond .ne 12, 3) := by decide +kernel
theorem dX11_version_47 : decode cX11_version 47 = .ok (.aload_n 0, 1) := by decide +kernel
theorem dX11_version_48 : decode cX11_version 48 = .ok (.getfield 86, 3) := by decide +kernel
theorem dX11_version_51 : decode cX11_version 51 = .ok (.iload_n 2, 1) := by decide +kernel
theorem dX11_version_52 : decode cX11_version 52 = .ok (.iaload, 1) := by decide +kernel
theorem dX11_version_53 : decode cX11_version 53 = .ok (.goto 9, 3) := by decide +kernel
theorem dX11_version_56 : decode cX11_version 56 = .ok (.aload_n 0, 1) := by decide +kernel
theorem dX11_version_57 : decode cX11_version 57 = .ok (.getfield 89, 3) := by decide +kernel
theorem dX11_version_60 : decode cX11_version 60 = .ok (.iload_n 2, 1) := by decide +kernel
theorem dX11_version_61 : decode cX11_version 61 = .ok (.iaload, 1) := by decide +kernel
theorem dX11_version_62 : decode cX11_version 62 = .ok (.ireturn, 1) := by decide +kernel
theorem dX11_kin_0 : decode cX11_kin 0 = .ok (.aload_n 0, 1) := by decide +kernel
theorem dX11_kin_1 : decode cX11_kin 1 = .ok (.iload_n 1, 1) := by decide +kernel
theorem dX11_kin_2 : decode cX11_kin 2 = .ok (.invokevirtual 174, 3) := by decide +kernel
theorem dX11_kin_5 : decode cX11_kin 5 = .ok (.ifCond .ne 5, 3) := by decide +kernel
theorem dX11_kin_8 : decode cX11_kin 8 = .ok (.iconst (-1), 1) := by decide +kernel
theorem dX11_kin_9 : decode cX11_kin 9 = .ok (.ireturn, 1) := by decide +kernel
theorem dX11_kin_10 : decode cX11_kin 10 = .ok (.aload_n 0, 1) := by decide +kernel
theorem dX11_kin_11 : decode cX11_kin 11 = .ok (.iload_n 1, 1) := by decide +kernel
theorem dX11_kin_12 : decode cX11_kin 12 = .ok (.invokevirtual 321, 3) := by decide +kernel
theorem dX11_kin_15 : decode cX11_kin 15 = .ok (.aload_n 0, 1) := by decide +kernel
theorem dX11_kin_16 : decode cX11_kin 16 = .ok (.getfield 315, 3) := by decide +kernel
theorem dX11_kin_19 : decode cX11_kin 19 = .ok (.ireturn, 1) := by decide +kernel
theorem dX11_report_0 : decode cX11_report 0 = .ok (.iload_n 1, 1) := by decide +kernel
theorem dX11_report_1 : decode cX11_report 1 = .ok (.invokestatic 126, 3) := by decide +kernel
theorem dX11_report_4 : decode cX11_report 4 = .ok (.ifCond .eq 15, 3) := by decide +kernel
theorem dX11_report_7 : decode cX11_report 7 = .ok (.iload_n 2, 1) := by decide +kernel
theorem dX11_report_8 : decode cX11_report 8 = .ok (.i2l, 1) := by decide +kernel
theorem dX11_report_9 : decode cX11_report 9 = .ok (.lconst 0, 1) := by decide +kernel
theorem dX11_report_10 : decode cX11_report 10 = .ok (.ldc2_w 324, 3) := by decide +kernel
theorem dX11_report_13 : decode cX11_report 13 = .ok (.invokestatic 120, 3) := by decide +kernel
theorem dX11_report_16 : decode cX11_report 16 = .ok (.ifCond .ne 5, 3) := by decide +kernel
theorem dX11_report_19 : decode cX11_report 19 = .ok (.iconst (-1), 1) := by decide +kernel
theorem dX11_report_20 : decode cX11_report 20 = .ok (.ireturn, 1) := by decide +kernel
theorem dX11_report_21 : decode cX11_report 21 = .ok (.aload_n 0, 1) := by decide +kernel
theorem dX11_report_22 : decode cX11_report 22 = .ok (.getfield 190, 3) := by decide +kernel
theorem dX11_report_25 : decode cX11_report 25 = .ok (.bipush 12, 2) := by decide +kernel
theorem dX11_report_27 : decode cX11_report 27 = .ok (.if_icmp .ne 6, 3) := by decide +kernel
theorem dX11_report_30 : decode cX11_report 30 = .ok (.bipush (-3), 2) := by decide +kernel
theorem dX11_report_32 : decode cX11_report 32 = .ok (.ireturn, 1) := by decide +kernel
theorem dX11_report_33 : decode cX11_report 33 = .ok (.aload_n 0, 1) := by decide +kernel
theorem dX11_report_34 : decode cX11_report 34 = .ok (.getfield 92, 3) := by decide +kernel
theorem dX11_report_37 : decode cX11_report 37 = .ok (.aload_n 0, 1) := by decide +kernel
theorem dX11_report_38 : decode cX11_report 38 = .ok (.getfield 190, 3) := by decide +kernel
theorem dX11_report_41 : decode cX11_report 41 = .ok (.iload_n 1, 1) := by decide +kernel
theorem dX11_report_42 : decode cX11_report 42 = .ok (.iastore, 1) := by decide +kernel
theorem dX11_report_43 : decode cX11_report 43 = .ok (.aload_n 0, 1) := by decide +kernel
theorem dX11_report_44 : decode cX11_report 44 = .ok (.getfield 95, 3) := by decide +kernel
theorem dX11_report_47 : decode cX11_report 47 = .ok (.aload_n 0, 1) := by decide +kernel
theorem dX11_report_48 : decode cX11_report 48 = .ok (.getfield 190, 3) := by decide +kernel
theorem dX11_report_51 : decode cX11_report 51 = .ok (.iload_n 2, 1) := by decide +kernel
theorem dX11_report_52 : decode cX11_report 52 = .ok (.iastore, 1) := by decide +kernel
theorem dX11_report_53 : decode cX11_report 53 = .ok (.aload_n 0, 1) := by decide +kernel
theorem dX11_report_54 : decode cX11_report 54 = .ok (.getfield 98, 3) := by decide +kernel
theorem dX11_report_57 : decode cX11_report 57 = .ok (.aload_n 0, 1) := by decide +kernel
theorem dX11_report_58 : decode cX11_report 58 = .ok (.getfield 190, 3) := by decide +kernel
theorem dX11_report_61 : decode cX11_report 61 = .ok (.iload_n 3, 1) := by decide +kernel
theorem dX11_report_62 : decode cX11_report 62 = .ok (.bastore, 1) := by decide +kernel
theorem dX11_report_63 : decode cX11_report 63 = .ok (.aload_n 0, 1) := by decide +kernel
theorem dX11_report_64 : decode cX11_report 64 = .ok (.dup, 1) := by decide +kernel
theorem dX11_report_65 : decode cX11_report 65 = .ok (.getfield 190, 3) := by decide +kernel
theorem dX11_report_68 : decode cX11_report 68 = .ok (.iconst 1, 1) := by decide +kernel
theorem dX11_report_69 : decode cX11_report 69 = .ok (.iadd, 1) := by decide +kernel
theorem dX11_report_70 : decode cX11_report 70 = .ok (.putfield 190, 3) := by decide +kernel
theorem dX11_report_73 : decode cX11_report 73 = .ok (.aload_n 0, 1) := by decide +kernel
theorem dX11_report_74 : decode cX11_report 74 = .ok (.getfield 190, 3) := by decide +kernel
theorem dX11_report_77 : decode cX11_report 77 = .ok (.iconst 1, 1) := by decide +kernel
theorem dX11_report_78 : decode cX11_report 78 = .ok (.isub, 1) := by decide +kernel
theorem dX11_report_79 : decode cX11_report 79 = .ok (.ireturn, 1) := by decide +kernel
theorem dX11_clear_0 : decode cX11_clear 0 = .ok (.aload_n 0, 1) := by decide +kernel
theorem dX11_clear_1 : decode cX11_clear 1 = .ok (.getfield 190, 3) := by decide +kernel
theorem dX11_clear_4 : decode cX11_clear 4 = .ok (.istore_n 1, 1) := by decide +kernel
theorem dX11_clear_5 : decode cX11_clear 5 = .ok (.aload_n 0, 1) := by decide +kernel
theorem dX11_clear_6 : decode cX11_clear 6 = .ok (.iconst 0, 1) := by decide +kernel
theorem dX11_clear_7 : decode cX11_clear 7 = .ok (.putfield 190, 3) := by decide +kernel
theorem dX11_clear_10 : decode cX11_clear 10 = .ok (.iload_n 1, 1) := by decide +kernel
theorem dX11_clear_11 : decode cX11_clear 11 = .ok (.ireturn, 1) := by decide +kernel
theorem dX11_isHeard_0 : decode cX11_isHeard 0 = .ok (.iconst 0, 1) := by decide +kernel
theorem dX11_isHeard_1 : decode cX11_isHeard 1 = .ok (.istore_n 3, 1) := by decide +kernel
theorem dX11_isHeard_2 : decode cX11_isHeard 2 = .ok (.iconst 0, 1) := by decide +kernel
theorem dX11_isHeard_3 : decode cX11_isHeard 3 = .ok (.istore 4, 2) := by decide +kernel
theorem dX11_isHeard_5 : decode cX11_isHeard 5 = .ok (.iload 4, 2) := by decide +kernel
theorem dX11_isHeard_7 : decode cX11_isHeard 7 = .ok (.aload_n 0, 1) := by decide +kernel
theorem dX11_isHeard_8 : decode cX11_isHeard 8 = .ok (.getfield 116, 3) := by decide +kernel
theorem dX11_isHeard_11 : decode cX11_isHeard 11 = .ok (.if_icmp .ge 43, 3) := by decide +kernel
theorem dX11_isHeard_14 : decode cX11_isHeard 14 = .ok (.iload_n 3, 1) := by decide +kernel
theorem dX11_isHeard_15 : decode cX11_isHeard 15 = .ok (.ifCond .ne 27, 3) := by decide +kernel
theorem dX11_isHeard_18 : decode cX11_isHeard 18 = .ok (.aload_n 0, 1) := by decide +kernel
theorem dX11_isHeard_19 : decode cX11_isHeard 19 = .ok (.iload 4, 2) := by decide +kernel
theorem dX11_isHeard_21 : decode cX11_isHeard 21 = .ok (.iload_n 1, 1) := by decide +kernel
theorem dX11_isHeard_22 : decode cX11_isHeard 22 = .ok (.invokevirtual 200, 3) := by decide +kernel
theorem dX11_isHeard_25 : decode cX11_isHeard 25 = .ok (.ifCond .eq 21, 3) := by decide +kernel
theorem dX11_isHeard_28 : decode cX11_isHeard 28 = .ok (.aload_n 0, 1) := by decide +kernel
theorem dX11_isHeard_29 : decode cX11_isHeard 29 = .ok (.iload 4, 2) := by decide +kernel
theorem dX11_isHeard_31 : decode cX11_isHeard 31 = .ok (.aload_n 0, 1) := by decide +kernel
theorem dX11_isHeard_32 : decode cX11_isHeard 32 = .ok (.getfield 180, 3) := by decide +kernel
theorem dX11_isHeard_35 : decode cX11_isHeard 35 = .ok (.invokevirtual 153, 3) := by decide +kernel
theorem dX11_isHeard_38 : decode cX11_isHeard 38 = .ok (.iload_n 2, 1) := by decide +kernel
theorem dX11_isHeard_39 : decode cX11_isHeard 39 = .ok (.if_icmp .ne 7, 3) := by decide +kernel
theorem dX11_isHeard_42 : decode cX11_isHeard 42 = .ok (.iconst 1, 1) := by decide +kernel
theorem dX11_isHeard_43 : decode cX11_isHeard 43 = .ok (.goto 4, 3) := by decide +kernel
theorem dX11_isHeard_46 : decode cX11_isHeard 46 = .ok (.iconst 0, 1) := by decide +kernel
theorem dX11_isHeard_47 : decode cX11_isHeard 47 = .ok (.istore_n 3, 1) := by decide +kernel
theorem dX11_isHeard_48 : decode cX11_isHeard 48 = .ok (.iinc 4 1, 3) := by decide +kernel
theorem dX11_isHeard_51 : decode cX11_isHeard 51 = .ok (.goto (-46), 3) := by decide +kernel
theorem dX11_isHeard_54 : decode cX11_isHeard 54 = .ok (.iload_n 3, 1) := by decide +kernel
theorem dX11_isHeard_55 : decode cX11_isHeard 55 = .ok (.ireturn, 1) := by decide +kernel
theorem dX11_agrees_0 : decode cX11_agrees 0 = .ok (.iconst 1, 1) := by decide +kernel
theorem dX11_agrees_1 : decode cX11_agrees 1 = .ok (.istore 4, 2) := by decide +kernel
theorem dX11_agrees_3 : decode cX11_agrees 3 = .ok (.iconst 0, 1) := by decide +kernel
theorem dX11_agrees_4 : decode cX11_agrees 4 = .ok (.istore 5, 2) := by decide +kernel
theorem dX11_agrees_6 : decode cX11_agrees 6 = .ok (.iload 5, 2) := by decide +kernel
theorem dX11_agrees_8 : decode cX11_agrees 8 = .ok (.aload_n 0, 1) := by decide +kernel
theorem dX11_agrees_9 : decode cX11_agrees 9 = .ok (.getfield 190, 3) := by decide +kernel
theorem dX11_agrees_12 : decode cX11_agrees 12 = .ok (.if_icmp .ge 71, 3) := by decide +kernel
theorem dX11_agrees_15 : decode cX11_agrees 15 = .ok (.iload_n 2, 1) := by decide +kernel
theorem dX11_agrees_16 : decode cX11_agrees 16 = .ok (.iload_n 3, 1) := by decide +kernel
theorem dX11_agrees_17 : decode cX11_agrees 17 = .ok (.if_icmp .lt 22, 3) := by decide +kernel
theorem dX11_agrees_20 : decode cX11_agrees 20 = .ok (.aload_n 0, 1) := by decide +kernel
theorem dX11_agrees_21 : decode cX11_agrees 21 = .ok (.iload_n 1, 1) := by decide +kernel
theorem dX11_agrees_22 : decode cX11_agrees 22 = .ok (.aload_n 0, 1) := by decide +kernel
theorem dX11_agrees_23 : decode cX11_agrees 23 = .ok (.getfield 92, 3) := by decide +kernel
theorem dX11_agrees_26 : decode cX11_agrees 26 = .ok (.iload 5, 2) := by decide +kernel
theorem dX11_agrees_28 : decode cX11_agrees 28 = .ok (.iaload, 1) := by decide +kernel
theorem dX11_agrees_29 : decode cX11_agrees 29 = .ok (.invokevirtual 326, 3) := by decide +kernel
theorem dX11_agrees_32 : decode cX11_agrees 32 = .ok (.ifCond .eq 7, 3) := by decide +kernel
theorem dX11_agrees_35 : decode cX11_agrees 35 = .ok (.iconst 1, 1) := by decide +kernel
theorem dX11_agrees_36 : decode cX11_agrees 36 = .ok (.goto 4, 3) := by decide +kernel
theorem dX11_agrees_39 : decode cX11_agrees 39 = .ok (.iconst 0, 1) := by decide +kernel
theorem dX11_agrees_40 : decode cX11_agrees 40 = .ok (.istore 6, 2) := by decide +kernel
theorem dX11_agrees_42 : decode cX11_agrees 42 = .ok (.iload 4, 2) := by decide +kernel
theorem dX11_agrees_44 : decode cX11_agrees 44 = .ok (.ifCond .eq 30, 3) := by decide +kernel
theorem dX11_agrees_47 : decode cX11_agrees 47 = .ok (.aload_n 0, 1) := by decide +kernel
theorem dX11_agrees_48 : decode cX11_agrees 48 = .ok (.getfield 95, 3) := by decide +kernel
theorem dX11_agrees_51 : decode cX11_agrees 51 = .ok (.iload 5, 2) := by decide +kernel
theorem dX11_agrees_53 : decode cX11_agrees 53 = .ok (.iaload, 1) := by decide +kernel
theorem dX11_agrees_54 : decode cX11_agrees 54 = .ok (.iload_n 2, 1) := by decide +kernel
theorem dX11_agrees_55 : decode cX11_agrees 55 = .ok (.if_icmp .ne 15, 3) := by decide +kernel
theorem dX11_agrees_58 : decode cX11_agrees 58 = .ok (.iload 6, 2) := by decide +kernel
theorem dX11_agrees_60 : decode cX11_agrees 60 = .ok (.aload_n 0, 1) := by decide +kernel
theorem dX11_agrees_61 : decode cX11_agrees 61 = .ok (.getfield 98, 3) := by decide +kernel
theorem dX11_agrees_64 : decode cX11_agrees 64 = .ok (.iload 5, 2) := by decide +kernel
theorem dX11_agrees_66 : decode cX11_agrees 66 = .ok (.baload, 1) := by decide +kernel
theorem dX11_agrees_67 : decode cX11_agrees 67 = .ok (.if_icmp .ne 7, 3) := by decide +kernel
theorem dX11_agrees_70 : decode cX11_agrees 70 = .ok (.iconst 1, 1) := by decide +kernel
theorem dX11_agrees_71 : decode cX11_agrees 71 = .ok (.goto 4, 3) := by decide +kernel
theorem dX11_agrees_74 : decode cX11_agrees 74 = .ok (.iconst 0, 1) := by decide +kernel
theorem dX11_agrees_75 : decode cX11_agrees 75 = .ok (.istore 4, 2) := by decide +kernel
theorem dX11_agrees_77 : decode cX11_agrees 77 = .ok (.iinc 5 1, 3) := by decide +kernel
theorem dX11_agrees_80 : decode cX11_agrees 80 = .ok (.goto (-74), 3) := by decide +kernel
theorem dX11_agrees_83 : decode cX11_agrees 83 = .ok (.iload 4, 2) := by decide +kernel
theorem dX11_agrees_85 : decode cX11_agrees 85 = .ok (.ireturn, 1) := by decide +kernel
theorem dX11_couldBe_0 : decode cX11_couldBe 0 = .ok (.aload_n 0, 1) := by decide +kernel
theorem dX11_couldBe_1 : decode cX11_couldBe 1 = .ok (.invokevirtual 241, 3) := by decide +kernel
theorem dX11_couldBe_4 : decode cX11_couldBe 4 = .ok (.iconst 0, 1) := by decide +kernel
theorem dX11_couldBe_5 : decode cX11_couldBe 5 = .ok (.istore 4, 2) := by decide +kernel
theorem dX11_couldBe_7 : decode cX11_couldBe 7 = .ok (.iload 4, 2) := by decide +kernel
theorem dX11_couldBe_9 : decode cX11_couldBe 9 = .ok (.aload_n 0, 1) := by decide +kernel
theorem dX11_couldBe_10 : decode cX11_couldBe 10 = .ok (.getfield 116, 3) := by decide +kernel
theorem dX11_couldBe_13 : decode cX11_couldBe 13 = .ok (.if_icmp .ge 22, 3) := by decide +kernel
theorem dX11_couldBe_16 : decode cX11_couldBe 16 = .ok (.aload_n 0, 1) := by decide +kernel
theorem dX11_couldBe_17 : decode cX11_couldBe 17 = .ok (.getfield 38, 3) := by decide +kernel
theorem dX11_couldBe_20 : decode cX11_couldBe 20 = .ok (.bipush 8, 2) := by decide +kernel
theorem dX11_couldBe_22 : decode cX11_couldBe 22 = .ok (.iload 4, 2) := by decide +kernel
theorem dX11_couldBe_24 : decode cX11_couldBe 24 = .ok (.imul, 1) := by decide +kernel
theorem dX11_couldBe_25 : decode cX11_couldBe 25 = .ok (.iload_n 1, 1) := by decide +kernel
theorem dX11_couldBe_26 : decode cX11_couldBe 26 = .ok (.iadd, 1) := by decide +kernel
theorem dX11_couldBe_27 : decode cX11_couldBe 27 = .ok (.iconst 0, 1) := by decide +kernel
theorem dX11_couldBe_28 : decode cX11_couldBe 28 = .ok (.iastore, 1) := by decide +kernel
theorem dX11_couldBe_29 : decode cX11_couldBe 29 = .ok (.iinc 4 1, 3) := by decide +kernel
theorem dX11_couldBe_32 : decode cX11_couldBe 32 = .ok (.goto (-25), 3) := by decide +kernel
theorem dX11_couldBe_35 : decode cX11_couldBe 35 = .ok (.aload_n 0, 1) := by decide +kernel
theorem dX11_couldBe_36 : decode cX11_couldBe 36 = .ok (.iload_n 3, 1) := by decide +kernel
theorem dX11_couldBe_37 : decode cX11_couldBe 37 = .ok (.putfield 180, 3) := by decide +kernel
theorem dX11_couldBe_40 : decode cX11_couldBe 40 = .ok (.aload_n 0, 1) := by decide +kernel
theorem dX11_couldBe_41 : decode cX11_couldBe 41 = .ok (.bipush 8, 2) := by decide +kernel
theorem dX11_couldBe_43 : decode cX11_couldBe 43 = .ok (.iload_n 2, 1) := by decide +kernel
theorem dX11_couldBe_44 : decode cX11_couldBe 44 = .ok (.imul, 1) := by decide +kernel
theorem dX11_couldBe_45 : decode cX11_couldBe 45 = .ok (.iload_n 1, 1) := by decide +kernel
theorem dX11_couldBe_46 : decode cX11_couldBe 46 = .ok (.iadd, 1) := by decide +kernel
theorem dX11_couldBe_47 : decode cX11_couldBe 47 = .ok (.iconst 1, 1) := by decide +kernel
theorem dX11_couldBe_48 : decode cX11_couldBe 48 = .ok (.aload_n 0, 1) := by decide +kernel
theorem dX11_couldBe_49 : decode cX11_couldBe 49 = .ok (.getfield 19, 3) := by decide +kernel
theorem dX11_couldBe_52 : decode cX11_couldBe 52 = .ok (.iload_n 1, 1) := by decide +kernel
theorem dX11_couldBe_53 : decode cX11_couldBe 53 = .ok (.iaload, 1) := by decide +kernel
theorem dX11_couldBe_54 : decode cX11_couldBe 54 = .ok (.bipush 17, 2) := by decide +kernel
theorem dX11_couldBe_56 : decode cX11_couldBe 56 = .ok (.invokevirtual 183, 3) := by decide +kernel
theorem dX11_couldBe_59 : decode cX11_couldBe 59 = .ok (.iconst 1, 1) := by decide +kernel
theorem dX11_couldBe_60 : decode cX11_couldBe 60 = .ok (.istore 4, 2) := by decide +kernel
theorem dX11_couldBe_62 : decode cX11_couldBe 62 = .ok (.iconst 0, 1) := by decide +kernel
theorem dX11_couldBe_63 : decode cX11_couldBe 63 = .ok (.istore 5, 2) := by decide +kernel
theorem dX11_couldBe_65 : decode cX11_couldBe 65 = .ok (.iload 5, 2) := by decide +kernel
theorem dX11_couldBe_67 : decode cX11_couldBe 67 = .ok (.bipush 24, 2) := by decide +kernel
theorem dX11_couldBe_69 : decode cX11_couldBe 69 = .ok (.if_icmp .ge 45, 3) := by decide +kernel
theorem dX11_couldBe_72 : decode cX11_couldBe 72 = .ok (.iload 4, 2) := by decide +kernel
theorem dX11_couldBe_74 : decode cX11_couldBe 74 = .ok (.ifCond .eq 40, 3) := by decide +kernel
theorem dX11_couldBe_77 : decode cX11_couldBe 77 = .ok (.aload_n 0, 1) := by decide +kernel
theorem dX11_couldBe_78 : decode cX11_couldBe 78 = .ok (.iload_n 1, 1) := by decide +kernel
theorem dX11_couldBe_79 : decode cX11_couldBe 79 = .ok (.iload 5, 2) := by decide +kernel
theorem dX11_couldBe_81 : decode cX11_couldBe 81 = .ok (.iload_n 3, 1) := by decide +kernel
theorem dX11_couldBe_82 : decode cX11_couldBe 82 = .ok (.invokevirtual 329, 3) := by decide +kernel
theorem dX11_couldBe_85 : decode cX11_couldBe 85 = .ok (.istore 4, 2) := by decide +kernel
theorem dX11_couldBe_87 : decode cX11_couldBe 87 = .ok (.iload 5, 2) := by decide +kernel
theorem dX11_couldBe_89 : decode cX11_couldBe 89 = .ok (.iload_n 3, 1) := by decide +kernel
theorem dX11_couldBe_90 : decode cX11_couldBe 90 = .ok (.if_icmp .lt 18, 3) := by decide +kernel
theorem dX11_couldBe_93 : decode cX11_couldBe 93 = .ok (.aload_n 0, 1) := by decide +kernel
theorem dX11_couldBe_94 : decode cX11_couldBe 94 = .ok (.iload_n 1, 1) := by decide +kernel
theorem dX11_couldBe_95 : decode cX11_couldBe 95 = .ok (.invokevirtual 207, 3) := by decide +kernel
theorem dX11_couldBe_98 : decode cX11_couldBe 98 = .ok (.aload_n 0, 1) := by decide +kernel
theorem dX11_couldBe_99 : decode cX11_couldBe 99 = .ok (.dup, 1) := by decide +kernel
theorem dX11_couldBe_100 : decode cX11_couldBe 100 = .ok (.getfield 180, 3) := by decide +kernel
theorem dX11_couldBe_103 : decode cX11_couldBe 103 = .ok (.iconst 1, 1) := by decide +kernel
theorem dX11_couldBe_104 : decode cX11_couldBe 104 = .ok (.iadd, 1) := by decide +kernel
theorem dX11_couldBe_105 : decode cX11_couldBe 105 = .ok (.putfield 180, 3) := by decide +kernel
theorem dX11_couldBe_108 : decode cX11_couldBe 108 = .ok (.iinc 5 1, 3) := by decide +kernel
theorem dX11_couldBe_111 : decode cX11_couldBe 111 = .ok (.goto (-46), 3) := by decide +kernel
theorem dX11_couldBe_114 : decode cX11_couldBe 114 = .ok (.aload_n 0, 1) := by decide +kernel
theorem dX11_couldBe_115 : decode cX11_couldBe 115 = .ok (.invokevirtual 244, 3) := by decide +kernel
theorem dX11_couldBe_118 : decode cX11_couldBe 118 = .ok (.iload 4, 2) := by decide +kernel
theorem dX11_couldBe_120 : decode cX11_couldBe 120 = .ok (.ireturn, 1) := by decide +kernel
theorem dX11_could_0 : decode cX11_could 0 = .ok (.aload_n 0, 1) := by decide +kernel
theorem dX11_could_1 : decode cX11_could 1 = .ok (.iload_n 1, 1) := by decide +kernel
theorem dX11_could_2 : decode cX11_could 2 = .ok (.invokevirtual 174, 3) := by decide +kernel
theorem dX11_could_5 : decode cX11_could 5 = .ok (.ifCond .eq 23, 3) := by decide +kernel
theorem dX11_could_8 : decode cX11_could 8 = .ok (.aload_n 0, 1) := by decide +kernel
theorem dX11_could_9 : decode cX11_could 9 = .ok (.iload_n 2, 1) := by decide +kernel
theorem dX11_could_10 : decode cX11_could 10 = .ok (.invokevirtual 134, 3) := by decide +kernel
theorem dX11_could_13 : decode cX11_could 13 = .ok (.ifCond .eq 15, 3) := by decide +kernel
theorem dX11_could_16 : decode cX11_could 16 = .ok (.iload_n 3, 1) := by decide +kernel
theorem dX11_could_17 : decode cX11_could 17 = .ok (.i2l, 1) := by decide +kernel
theorem dX11_could_18 : decode cX11_could 18 = .ok (.lconst 0, 1) := by decide +kernel
theorem dX11_could_19 : decode cX11_could 19 = .ok (.ldc2_w 324, 3) := by decide +kernel
theorem dX11_could_22 : decode cX11_could 22 = .ok (.invokestatic 120, 3) := by decide +kernel
theorem dX11_could_25 : decode cX11_could 25 = .ok (.ifCond .ne 5, 3) := by decide +kernel
theorem dX11_could_28 : decode cX11_could 28 = .ok (.iconst (-1), 1) := by decide +kernel
theorem dX11_could_29 : decode cX11_could 29 = .ok (.ireturn, 1) := by decide +kernel
theorem dX11_could_30 : decode cX11_could 30 = .ok (.aload_n 0, 1) := by decide +kernel
theorem dX11_could_31 : decode cX11_could 31 = .ok (.iload_n 1, 1) := by decide +kernel
theorem dX11_could_32 : decode cX11_could 32 = .ok (.iload_n 2, 1) := by decide +kernel
theorem dX11_could_33 : decode cX11_could 33 = .ok (.iload_n 3, 1) := by decide +kernel
theorem dX11_could_34 : decode cX11_could 34 = .ok (.invokevirtual 333, 3) := by decide +kernel
theorem dX11_could_37 : decode cX11_could 37 = .ok (.ifCond .eq 7, 3) := by decide +kernel
theorem dX11_could_40 : decode cX11_could 40 = .ok (.iconst 1, 1) := by decide +kernel
theorem dX11_could_41 : decode cX11_could 41 = .ok (.goto 4, 3) := by decide +kernel
theorem dX11_could_44 : decode cX11_could 44 = .ok (.iconst 0, 1) := by decide +kernel
theorem dX11_could_45 : decode cX11_could 45 = .ok (.ireturn, 1) := by decide +kernel
theorem dX11_first_0 : decode cX11_first 0 = .ok (.aload_n 0, 1) := by decide +kernel
theorem dX11_first_1 : decode cX11_first 1 = .ok (.iload_n 1, 1) := by decide +kernel
theorem dX11_first_2 : decode cX11_first 2 = .ok (.invokevirtual 174, 3) := by decide +kernel
theorem dX11_first_5 : decode cX11_first 5 = .ok (.ifCond .ne 5, 3) := by decide +kernel
theorem dX11_first_8 : decode cX11_first 8 = .ok (.iconst (-1), 1) := by decide +kernel
theorem dX11_first_9 : decode cX11_first 9 = .ok (.ireturn, 1) := by decide +kernel
theorem dX11_first_10 : decode cX11_first 10 = .ok (.iconst 0, 1) := by decide +kernel
theorem dX11_first_11 : decode cX11_first 11 = .ok (.istore_n 2, 1) := by decide +kernel
theorem dX11_first_12 : decode cX11_first 12 = .ok (.iconst 0, 1) := by decide +kernel
theorem dX11_first_13 : decode cX11_first 13 = .ok (.istore_n 3, 1) := by decide +kernel
theorem dX11_first_14 : decode cX11_first 14 = .ok (.iload_n 3, 1) := by decide +kernel
theorem dX11_first_15 : decode cX11_first 15 = .ok (.aload_n 0, 1) := by decide +kernel
theorem dX11_first_16 : decode cX11_first 16 = .ok (.getfield 116, 3) := by decide +kernel
theorem dX11_first_19 : decode cX11_first 19 = .ok (.if_icmp .ge 54, 3) := by decide +kernel
theorem dX11_first_22 : decode cX11_first 22 = .ok (.iconst 0, 1) := by decide +kernel
theorem dX11_first_23 : decode cX11_first 23 = .ok (.istore 4, 2) := by decide +kernel
theorem dX11_first_25 : decode cX11_first 25 = .ok (.iload 4, 2) := by decide +kernel
theorem dX11_first_27 : decode cX11_first 27 = .ok (.bipush 24, 2) := by decide +kernel
theorem dX11_first_29 : decode cX11_first 29 = .ok (.if_icmp .ge 38, 3) := by decide +kernel
theorem dX11_first_32 : decode cX11_first 32 = .ok (.iload_n 2, 1) := by decide +kernel
theorem dX11_first_33 : decode cX11_first 33 = .ok (.iload_n 2, 1) := by decide +kernel
theorem dX11_first_34 : decode cX11_first 34 = .ok (.iload_n 3, 1) := by decide +kernel
theorem dX11_first_35 : decode cX11_first 35 = .ok (.ishr, 1) := by decide +kernel
theorem dX11_first_36 : decode cX11_first 36 = .ok (.iconst 1, 1) := by decide +kernel
theorem dX11_first_37 : decode cX11_first 37 = .ok (.iand, 1) := by decide +kernel
theorem dX11_first_38 : decode cX11_first 38 = .ok (.ifCond .ne 20, 3) := by decide +kernel
theorem dX11_first_41 : decode cX11_first 41 = .ok (.aload_n 0, 1) := by decide +kernel
theorem dX11_first_42 : decode cX11_first 42 = .ok (.iload_n 1, 1) := by decide +kernel
theorem dX11_first_43 : decode cX11_first 43 = .ok (.iload_n 3, 1) := by decide +kernel
theorem dX11_first_44 : decode cX11_first 44 = .ok (.iload 4, 2) := by decide +kernel
theorem dX11_first_46 : decode cX11_first 46 = .ok (.invokevirtual 333, 3) := by decide +kernel
theorem dX11_first_49 : decode cX11_first 49 = .ok (.ifCond .eq 9, 3) := by decide +kernel
theorem dX11_first_52 : decode cX11_first 52 = .ok (.iconst 1, 1) := by decide +kernel
theorem dX11_first_53 : decode cX11_first 53 = .ok (.iload_n 3, 1) := by decide +kernel
theorem dX11_first_54 : decode cX11_first 54 = .ok (.ishl, 1) := by decide +kernel
theorem dX11_first_55 : decode cX11_first 55 = .ok (.goto 4, 3) := by decide +kernel
theorem dX11_first_58 : decode cX11_first 58 = .ok (.iconst 0, 1) := by decide +kernel
theorem dX11_first_59 : decode cX11_first 59 = .ok (.ior, 1) := by decide +kernel
theorem dX11_first_60 : decode cX11_first 60 = .ok (.istore_n 2, 1) := by decide +kernel
theorem dX11_first_61 : decode cX11_first 61 = .ok (.iinc 4 1, 3) := by decide +kernel
theorem dX11_first_64 : decode cX11_first 64 = .ok (.goto (-39), 3) := by decide +kernel
theorem dX11_first_67 : decode cX11_first 67 = .ok (.iinc 3 1, 3) := by decide +kernel
theorem dX11_first_70 : decode cX11_first 70 = .ok (.goto (-56), 3) := by decide +kernel
theorem dX11_first_73 : decode cX11_first 73 = .ok (.iload_n 2, 1) := by decide +kernel
theorem dX11_first_74 : decode cX11_first 74 = .ok (.ireturn, 1) := by decide +kernel
theorem dX11_sumAt_0 : decode cX11_sumAt 0 = .ok (.iconst 0, 1) := by decide +kernel
theorem dX11_sumAt_1 : decode cX11_sumAt 1 = .ok (.istore_n 2, 1) := by decide +kernel
theorem dX11_sumAt_2 : decode cX11_sumAt 2 = .ok (.iconst 0, 1) := by decide +kernel
theorem dX11_sumAt_3 : decode cX11_sumAt 3 = .ok (.istore_n 3, 1) := by decide +kernel
theorem dX11_sumAt_4 : decode cX11_sumAt 4 = .ok (.iload_n 3, 1) := by decide +kernel
theorem dX11_sumAt_5 : decode cX11_sumAt 5 = .ok (.aload_n 0, 1) := by decide +kernel
theorem dX11_sumAt_6 : decode cX11_sumAt 6 = .ok (.getfield 157, 3) := by decide +kernel
theorem dX11_sumAt_9 : decode cX11_sumAt 9 = .ok (.if_icmp .ge 80, 3) := by decide +kernel
theorem dX11_sumAt_12 : decode cX11_sumAt 12 = .ok (.bipush 24, 2) := by decide +kernel
theorem dX11_sumAt_14 : decode cX11_sumAt 14 = .ok (.istore 4, 2) := by decide +kernel
theorem dX11_sumAt_16 : decode cX11_sumAt 16 = .ok (.iconst 0, 1) := by decide +kernel
theorem dX11_sumAt_17 : decode cX11_sumAt 17 = .ok (.istore 5, 2) := by decide +kernel
theorem dX11_sumAt_19 : decode cX11_sumAt 19 = .ok (.iload 5, 2) := by decide +kernel
theorem dX11_sumAt_21 : decode cX11_sumAt 21 = .ok (.bipush 6, 2) := by decide +kernel
theorem dX11_sumAt_23 : decode cX11_sumAt 23 = .ok (.if_icmp .ge 55, 3) := by decide +kernel
theorem dX11_sumAt_26 : decode cX11_sumAt 26 = .ok (.iload_n 1, 1) := by decide +kernel
theorem dX11_sumAt_27 : decode cX11_sumAt 27 = .ok (.iload 5, 2) := by decide +kernel
theorem dX11_sumAt_29 : decode cX11_sumAt 29 = .ok (.ishr, 1) := by decide +kernel
theorem dX11_sumAt_30 : decode cX11_sumAt 30 = .ok (.iconst 1, 1) := by decide +kernel
theorem dX11_sumAt_31 : decode cX11_sumAt 31 = .ok (.iand, 1) := by decide +kernel
theorem dX11_sumAt_32 : decode cX11_sumAt 32 = .ok (.iconst 1, 1) := by decide +kernel
theorem dX11_sumAt_33 : decode cX11_sumAt 33 = .ok (.if_icmp .ne 35, 3) := by decide +kernel
theorem dX11_sumAt_36 : decode cX11_sumAt 36 = .ok (.aload_n 0, 1) := by decide +kernel
theorem dX11_sumAt_37 : decode cX11_sumAt 37 = .ok (.getfield 101, 3) := by decide +kernel
theorem dX11_sumAt_40 : decode cX11_sumAt 40 = .ok (.bipush 6, 2) := by decide +kernel
theorem dX11_sumAt_42 : decode cX11_sumAt 42 = .ok (.iload_n 3, 1) := by decide +kernel
theorem dX11_sumAt_43 : decode cX11_sumAt 43 = .ok (.imul, 1) := by decide +kernel
theorem dX11_sumAt_44 : decode cX11_sumAt 44 = .ok (.iload 5, 2) := by decide +kernel
theorem dX11_sumAt_46 : decode cX11_sumAt 46 = .ok (.iadd, 1) := by decide +kernel
theorem dX11_sumAt_47 : decode cX11_sumAt 47 = .ok (.iaload, 1) := by decide +kernel
theorem dX11_sumAt_48 : decode cX11_sumAt 48 = .ok (.iload 4, 2) := by decide +kernel
theorem dX11_sumAt_50 : decode cX11_sumAt 50 = .ok (.if_icmp .ge 18, 3) := by decide +kernel
theorem dX11_sumAt_53 : decode cX11_sumAt 53 = .ok (.aload_n 0, 1) := by decide +kernel
theorem dX11_sumAt_54 : decode cX11_sumAt 54 = .ok (.getfield 101, 3) := by decide +kernel
theorem dX11_sumAt_57 : decode cX11_sumAt 57 = .ok (.bipush 6, 2) := by decide +kernel
theorem dX11_sumAt_59 : decode cX11_sumAt 59 = .ok (.iload_n 3, 1) := by decide +kernel
theorem dX11_sumAt_60 : decode cX11_sumAt 60 = .ok (.imul, 1) := by decide +kernel
theorem dX11_sumAt_61 : decode cX11_sumAt 61 = .ok (.iload 5, 2) := by decide +kernel
theorem dX11_sumAt_63 : decode cX11_sumAt 63 = .ok (.iadd, 1) := by decide +kernel
theorem dX11_sumAt_64 : decode cX11_sumAt 64 = .ok (.iaload, 1) := by decide +kernel
theorem dX11_sumAt_65 : decode cX11_sumAt 65 = .ok (.goto 5, 3) := by decide +kernel
theorem dX11_sumAt_68 : decode cX11_sumAt 68 = .ok (.iload 4, 2) := by decide +kernel
theorem dX11_sumAt_70 : decode cX11_sumAt 70 = .ok (.istore 4, 2) := by decide +kernel
theorem dX11_sumAt_72 : decode cX11_sumAt 72 = .ok (.iinc 5 1, 3) := by decide +kernel
theorem dX11_sumAt_75 : decode cX11_sumAt 75 = .ok (.goto (-56), 3) := by decide +kernel
theorem dX11_sumAt_78 : decode cX11_sumAt 78 = .ok (.iload_n 2, 1) := by decide +kernel
theorem dX11_sumAt_79 : decode cX11_sumAt 79 = .ok (.iload 4, 2) := by decide +kernel
theorem dX11_sumAt_81 : decode cX11_sumAt 81 = .ok (.iadd, 1) := by decide +kernel
theorem dX11_sumAt_82 : decode cX11_sumAt 82 = .ok (.istore_n 2, 1) := by decide +kernel
theorem dX11_sumAt_83 : decode cX11_sumAt 83 = .ok (.iinc 3 1, 3) := by decide +kernel
theorem dX11_sumAt_86 : decode cX11_sumAt 86 = .ok (.goto (-82), 3) := by decide +kernel
theorem dX11_sumAt_89 : decode cX11_sumAt 89 = .ok (.iload_n 2, 1) := by decide +kernel
theorem dX11_sumAt_90 : decode cX11_sumAt 90 = .ok (.ireturn, 1) := by decide +kernel
theorem dX11_posts_0 : decode cX11_posts 0 = .ok (.iload_n 1, 1) := by decide +kernel
theorem dX11_posts_1 : decode cX11_posts 1 = .ok (.i2l, 1) := by decide +kernel
theorem dX11_posts_2 : decode cX11_posts 2 = .ok (.lconst 1, 1) := by decide +kernel
theorem dX11_posts_3 : decode cX11_posts 3 = .ok (.ldc2_w 216, 3) := by decide +kernel
theorem dX11_posts_6 : decode cX11_posts 6 = .ok (.invokestatic 120, 3) := by decide +kernel
theorem dX11_posts_9 : decode cX11_posts 9 = .ok (.ifCond .eq 13, 3) := by decide +kernel
theorem dX11_posts_12 : decode cX11_posts 12 = .ok (.iload_n 2, 1) := by decide +kernel
theorem dX11_posts_13 : decode cX11_posts 13 = .ok (.i2l, 1) := by decide +kernel
theorem dX11_posts_14 : decode cX11_posts 14 = .ok (.lconst 0, 1) := by decide +kernel
theorem dX11_posts_15 : decode cX11_posts 15 = .ok (.lconst 1, 1) := by decide +kernel
theorem dX11_posts_16 : decode cX11_posts 16 = .ok (.invokestatic 120, 3) := by decide +kernel
theorem dX11_posts_19 : decode cX11_posts 19 = .ok (.ifCond .ne 5, 3) := by decide +kernel
theorem dX11_posts_22 : decode cX11_posts 22 = .ok (.iconst (-1), 1) := by decide +kernel
theorem dX11_posts_23 : decode cX11_posts 23 = .ok (.ireturn, 1) := by decide +kernel
theorem dX11_posts_24 : decode cX11_posts 24 = .ok (.aload_n 0, 1) := by decide +kernel
theorem dX11_posts_25 : decode cX11_posts 25 = .ok (.invokevirtual 241, 3) := by decide +kernel
theorem dX11_posts_28 : decode cX11_posts 28 = .ok (.iconst 0, 1) := by decide +kernel
theorem dX11_posts_29 : decode cX11_posts 29 = .ok (.istore_n 3, 1) := by decide +kernel
theorem dX11_posts_30 : decode cX11_posts 30 = .ok (.iload_n 3, 1) := by decide +kernel
theorem dX11_posts_31 : decode cX11_posts 31 = .ok (.bipush 48, 2) := by decide +kernel
theorem dX11_posts_33 : decode cX11_posts 33 = .ok (.if_icmp .ge 17, 3) := by decide +kernel
theorem dX11_posts_36 : decode cX11_posts 36 = .ok (.aload_n 0, 1) := by decide +kernel
theorem dX11_posts_37 : decode cX11_posts 37 = .ok (.getfield 101, 3) := by decide +kernel
theorem dX11_posts_40 : decode cX11_posts 40 = .ok (.iload_n 3, 1) := by decide +kernel
theorem dX11_posts_41 : decode cX11_posts 41 = .ok (.bipush 24, 2) := by decide +kernel
theorem dX11_posts_43 : decode cX11_posts 43 = .ok (.iastore, 1) := by decide +kernel
theorem dX11_posts_44 : decode cX11_posts 44 = .ok (.iinc 3 1, 3) := by decide +kernel
theorem dX11_posts_47 : decode cX11_posts 47 = .ok (.goto (-17), 3) := by decide +kernel
theorem dX11_posts_50 : decode cX11_posts 50 = .ok (.iconst 0, 1) := by decide +kernel
theorem dX11_posts_51 : decode cX11_posts 51 = .ok (.istore_n 3, 1) := by decide +kernel
theorem dX11_posts_52 : decode cX11_posts 52 = .ok (.iload_n 3, 1) := by decide +kernel
theorem dX11_posts_53 : decode cX11_posts 53 = .ok (.bipush 24, 2) := by decide +kernel
theorem dX11_posts_55 : decode cX11_posts 55 = .ok (.if_icmp .ge 106, 3) := by decide +kernel
theorem dX11_posts_58 : decode cX11_posts 58 = .ok (.iconst 0, 1) := by decide +kernel
theorem dX11_posts_59 : decode cX11_posts 59 = .ok (.istore 4, 2) := by decide +kernel
theorem dX11_posts_61 : decode cX11_posts 61 = .ok (.iload 4, 2) := by decide +kernel
theorem dX11_posts_63 : decode cX11_posts 63 = .ok (.aload_n 0, 1) := by decide +kernel
theorem dX11_posts_64 : decode cX11_posts 64 = .ok (.getfield 157, 3) := by decide +kernel
theorem dX11_posts_67 : decode cX11_posts 67 = .ok (.if_icmp .ge 84, 3) := by decide +kernel
theorem dX11_posts_70 : decode cX11_posts 70 = .ok (.iconst 0, 1) := by decide +kernel
theorem dX11_posts_71 : decode cX11_posts 71 = .ok (.istore 5, 2) := by decide +kernel
theorem dX11_posts_73 : decode cX11_posts 73 = .ok (.iload 5, 2) := by decide +kernel
theorem dX11_posts_75 : decode cX11_posts 75 = .ok (.bipush 6, 2) := by decide +kernel
theorem dX11_posts_77 : decode cX11_posts 77 = .ok (.if_icmp .ge 68, 3) := by decide +kernel
theorem dX11_posts_80 : decode cX11_posts 80 = .ok (.aload_n 0, 1) := by decide +kernel
theorem dX11_posts_81 : decode cX11_posts 81 = .ok (.getfield 101, 3) := by decide +kernel
theorem dX11_posts_84 : decode cX11_posts 84 = .ok (.bipush 6, 2) := by decide +kernel
theorem dX11_posts_86 : decode cX11_posts 86 = .ok (.iload 4, 2) := by decide +kernel
theorem dX11_posts_88 : decode cX11_posts 88 = .ok (.imul, 1) := by decide +kernel
theorem dX11_posts_89 : decode cX11_posts 89 = .ok (.iload 5, 2) := by decide +kernel
theorem dX11_posts_91 : decode cX11_posts 91 = .ok (.iadd, 1) := by decide +kernel
theorem dX11_posts_92 : decode cX11_posts 92 = .ok (.aload_n 0, 1) := by decide +kernel
theorem dX11_posts_93 : decode cX11_posts 93 = .ok (.getfield 101, 3) := by decide +kernel
theorem dX11_posts_96 : decode cX11_posts 96 = .ok (.bipush 6, 2) := by decide +kernel
theorem dX11_posts_98 : decode cX11_posts 98 = .ok (.iload 4, 2) := by decide +kernel
theorem dX11_posts_100 : decode cX11_posts 100 = .ok (.imul, 1) := by decide +kernel
theorem dX11_posts_101 : decode cX11_posts 101 = .ok (.iload 5, 2) := by decide +kernel
theorem dX11_posts_103 : decode cX11_posts 103 = .ok (.iadd, 1) := by decide +kernel
theorem dX11_posts_104 : decode cX11_posts 104 = .ok (.iaload, 1) := by decide +kernel
theorem dX11_posts_105 : decode cX11_posts 105 = .ok (.bipush 24, 2) := by decide +kernel
theorem dX11_posts_107 : decode cX11_posts 107 = .ok (.if_icmp .ne 18, 3) := by decide +kernel
theorem dX11_posts_110 : decode cX11_posts 110 = .ok (.aload_n 0, 1) := by decide +kernel
theorem dX11_posts_111 : decode cX11_posts 111 = .ok (.iload 4, 2) := by decide +kernel
theorem dX11_posts_113 : decode cX11_posts 113 = .ok (.iload 5, 2) := by decide +kernel
theorem dX11_posts_115 : decode cX11_posts 115 = .ok (.invokevirtual 326, 3) := by decide +kernel
theorem dX11_posts_118 : decode cX11_posts 118 = .ok (.ifCond .eq 7, 3) := by decide +kernel
theorem dX11_posts_121 : decode cX11_posts 121 = .ok (.iload_n 3, 1) := by decide +kernel
theorem dX11_posts_122 : decode cX11_posts 122 = .ok (.goto 16, 3) := by decide +kernel
theorem dX11_posts_125 : decode cX11_posts 125 = .ok (.aload_n 0, 1) := by decide +kernel
theorem dX11_posts_126 : decode cX11_posts 126 = .ok (.getfield 101, 3) := by decide +kernel
theorem dX11_posts_129 : decode cX11_posts 129 = .ok (.bipush 6, 2) := by decide +kernel
theorem dX11_posts_131 : decode cX11_posts 131 = .ok (.iload 4, 2) := by decide +kernel
theorem dX11_posts_133 : decode cX11_posts 133 = .ok (.imul, 1) := by decide +kernel
theorem dX11_posts_134 : decode cX11_posts 134 = .ok (.iload 5, 2) := by decide +kernel
theorem dX11_posts_136 : decode cX11_posts 136 = .ok (.iadd, 1) := by decide +kernel
theorem dX11_posts_137 : decode cX11_posts 137 = .ok (.iaload, 1) := by decide +kernel
theorem dX11_posts_138 : decode cX11_posts 138 = .ok (.iastore, 1) := by decide +kernel
theorem dX11_posts_139 : decode cX11_posts 139 = .ok (.iinc 5 1, 3) := by decide +kernel
theorem dX11_posts_142 : decode cX11_posts 142 = .ok (.goto (-69), 3) := by decide +kernel
theorem dX11_posts_145 : decode cX11_posts 145 = .ok (.iinc 4 1, 3) := by decide +kernel
theorem dX11_posts_148 : decode cX11_posts 148 = .ok (.goto (-87), 3) := by decide +kernel
theorem dX11_posts_151 : decode cX11_posts 151 = .ok (.aload_n 0, 1) := by decide +kernel
theorem dX11_posts_152 : decode cX11_posts 152 = .ok (.invokevirtual 213, 3) := by decide +kernel
theorem dX11_posts_155 : decode cX11_posts 155 = .ok (.iinc 3 1, 3) := by decide +kernel
theorem dX11_posts_158 : decode cX11_posts 158 = .ok (.goto (-106), 3) := by decide +kernel
theorem dX11_posts_161 : decode cX11_posts 161 = .ok (.aload_n 0, 1) := by decide +kernel
theorem dX11_posts_162 : decode cX11_posts 162 = .ok (.invokevirtual 244, 3) := by decide +kernel
theorem dX11_posts_165 : decode cX11_posts 165 = .ok (.bipush (-4), 2) := by decide +kernel
theorem dX11_posts_167 : decode cX11_posts 167 = .ok (.istore_n 3, 1) := by decide +kernel
theorem dX11_posts_168 : decode cX11_posts 168 = .ok (.iconst 0, 1) := by decide +kernel
theorem dX11_posts_169 : decode cX11_posts 169 = .ok (.istore 4, 2) := by decide +kernel
theorem dX11_posts_171 : decode cX11_posts 171 = .ok (.iconst 0, 1) := by decide +kernel
theorem dX11_posts_172 : decode cX11_posts 172 = .ok (.istore 5, 2) := by decide +kernel
theorem dX11_posts_174 : decode cX11_posts 174 = .ok (.iload 5, 2) := by decide +kernel
theorem dX11_posts_176 : decode cX11_posts 176 = .ok (.bipush 64, 2) := by decide +kernel
theorem dX11_posts_178 : decode cX11_posts 178 = .ok (.if_icmp .ge 44, 3) := by decide +kernel
theorem dX11_posts_181 : decode cX11_posts 181 = .ok (.iload 5, 2) := by decide +kernel
theorem dX11_posts_183 : decode cX11_posts 183 = .ok (.invokestatic 251, 3) := by decide +kernel
theorem dX11_posts_186 : decode cX11_posts 186 = .ok (.iload_n 1, 1) := by decide +kernel
theorem dX11_posts_187 : decode cX11_posts 187 = .ok (.if_icmp .ne 29, 3) := by decide +kernel
theorem dX11_posts_190 : decode cX11_posts 190 = .ok (.iload_n 3, 1) := by decide +kernel
theorem dX11_posts_191 : decode cX11_posts 191 = .ok (.ifCond .lt 14, 3) := by decide +kernel
theorem dX11_posts_194 : decode cX11_posts 194 = .ok (.aload_n 0, 1) := by decide +kernel
theorem dX11_posts_195 : decode cX11_posts 195 = .ok (.iload 5, 2) := by decide +kernel
theorem dX11_posts_197 : decode cX11_posts 197 = .ok (.invokevirtual 336, 3) := by decide +kernel
theorem dX11_posts_200 : decode cX11_posts 200 = .ok (.iload 4, 2) := by decide +kernel
theorem dX11_posts_202 : decode cX11_posts 202 = .ok (.if_icmp .ge 14, 3) := by decide +kernel
theorem dX11_posts_205 : decode cX11_posts 205 = .ok (.iload 5, 2) := by decide +kernel
theorem dX11_posts_207 : decode cX11_posts 207 = .ok (.istore_n 3, 1) := by decide +kernel
theorem dX11_posts_208 : decode cX11_posts 208 = .ok (.aload_n 0, 1) := by decide +kernel
theorem dX11_posts_209 : decode cX11_posts 209 = .ok (.iload 5, 2) := by decide +kernel
theorem dX11_posts_211 : decode cX11_posts 211 = .ok (.invokevirtual 336, 3) := by decide +kernel
theorem dX11_posts_214 : decode cX11_posts 214 = .ok (.istore 4, 2) := by decide +kernel
theorem dX11_posts_216 : decode cX11_posts 216 = .ok (.iinc 5 1, 3) := by decide +kernel
theorem dX11_posts_219 : decode cX11_posts 219 = .ok (.goto (-45), 3) := by decide +kernel
theorem dX11_posts_222 : decode cX11_posts 222 = .ok (.iload_n 2, 1) := by decide +kernel
theorem dX11_posts_223 : decode cX11_posts 223 = .ok (.ifCond .ne 7, 3) := by decide +kernel
theorem dX11_posts_226 : decode cX11_posts 226 = .ok (.iload_n 3, 1) := by decide +kernel
theorem dX11_posts_227 : decode cX11_posts 227 = .ok (.goto 5, 3) := by decide +kernel
theorem dX11_posts_230 : decode cX11_posts 230 = .ok (.iload 4, 2) := by decide +kernel
theorem dX11_posts_232 : decode cX11_posts 232 = .ok (.ireturn, 1) := by decide +kernel
theorem dX11_check_0 : decode cX11_check 0 = .ok (.aload_n 0, 1) := by decide +kernel
theorem dX11_check_1 : decode cX11_check 1 = .ok (.iload_n 1, 1) := by decide +kernel
theorem dX11_check_2 : decode cX11_check 2 = .ok (.invokevirtual 174, 3) := by decide +kernel
theorem dX11_check_5 : decode cX11_check 5 = .ok (.ifCond .eq 35, 3) := by decide +kernel
theorem dX11_check_8 : decode cX11_check 8 = .ok (.iload_n 2, 1) := by decide +kernel
theorem dX11_check_9 : decode cX11_check 9 = .ok (.i2l, 1) := by decide +kernel
theorem dX11_check_10 : decode cX11_check 10 = .ok (.lconst 0, 1) := by decide +kernel
theorem dX11_check_11 : decode cX11_check 11 = .ok (.ldc2_w 254, 3) := by decide +kernel
theorem dX11_check_14 : decode cX11_check 14 = .ok (.invokestatic 120, 3) := by decide +kernel
theorem dX11_check_17 : decode cX11_check 17 = .ok (.ifCond .eq 23, 3) := by decide +kernel
theorem dX11_check_20 : decode cX11_check 20 = .ok (.iload_n 3, 1) := by decide +kernel
theorem dX11_check_21 : decode cX11_check 21 = .ok (.invokestatic 339, 3) := by decide +kernel
theorem dX11_check_24 : decode cX11_check 24 = .ok (.ifCond .eq 16, 3) := by decide +kernel
theorem dX11_check_27 : decode cX11_check 27 = .ok (.iload 4, 2) := by decide +kernel
theorem dX11_check_29 : decode cX11_check 29 = .ok (.i2l, 1) := by decide +kernel
theorem dX11_check_30 : decode cX11_check 30 = .ok (.lconst 1, 1) := by decide +kernel
theorem dX11_check_31 : decode cX11_check 31 = .ok (.ldc2_w 230, 3) := by decide +kernel
theorem dX11_check_34 : decode cX11_check 34 = .ok (.invokestatic 120, 3) := by decide +kernel
theorem dX11_check_37 : decode cX11_check 37 = .ok (.ifCond .ne 5, 3) := by decide +kernel
theorem dX11_check_40 : decode cX11_check 40 = .ok (.iconst (-1), 1) := by decide +kernel
theorem dX11_check_41 : decode cX11_check 41 = .ok (.ireturn, 1) := by decide +kernel
theorem dX11_check_42 : decode cX11_check 42 = .ok (.aload_n 0, 1) := by decide +kernel
theorem dX11_check_43 : decode cX11_check 43 = .ok (.iload_n 3, 1) := by decide +kernel
theorem dX11_check_44 : decode cX11_check 44 = .ok (.iload 4, 2) := by decide +kernel
theorem dX11_check_46 : decode cX11_check 46 = .ok (.iload 5, 2) := by decide +kernel
theorem dX11_check_48 : decode cX11_check 48 = .ok (.aload_n 0, 1) := by decide +kernel
theorem dX11_check_49 : decode cX11_check 49 = .ok (.getfield 116, 3) := by decide +kernel
theorem dX11_check_52 : decode cX11_check 52 = .ok (.invokevirtual 342, 3) := by decide +kernel
theorem dX11_check_55 : decode cX11_check 55 = .ok (.istore 6, 2) := by decide +kernel
theorem dX11_check_57 : decode cX11_check 57 = .ok (.iload 6, 2) := by decide +kernel
theorem dX11_check_59 : decode cX11_check 59 = .ok (.ifCond .ge 6, 3) := by decide +kernel
theorem dX11_check_62 : decode cX11_check 62 = .ok (.iload 6, 2) := by decide +kernel
theorem dX11_check_64 : decode cX11_check 64 = .ok (.ireturn, 1) := by decide +kernel
theorem dX11_check_65 : decode cX11_check 65 = .ok (.aload_n 0, 1) := by decide +kernel
theorem dX11_check_66 : decode cX11_check 66 = .ok (.invokevirtual 241, 3) := by decide +kernel
theorem dX11_check_69 : decode cX11_check 69 = .ok (.iconst 0, 1) := by decide +kernel
theorem dX11_check_70 : decode cX11_check 70 = .ok (.istore 7, 2) := by decide +kernel
theorem dX11_check_72 : decode cX11_check 72 = .ok (.iload 7, 2) := by decide +kernel
theorem dX11_check_74 : decode cX11_check 74 = .ok (.iload_n 2, 1) := by decide +kernel
theorem dX11_check_75 : decode cX11_check 75 = .ok (.if_icmp .ge 13, 3) := by decide +kernel
theorem dX11_check_78 : decode cX11_check 78 = .ok (.aload_n 0, 1) := by decide +kernel
theorem dX11_check_79 : decode cX11_check 79 = .ok (.invokevirtual 213, 3) := by decide +kernel
theorem dX11_check_82 : decode cX11_check 82 = .ok (.iinc 7 1, 3) := by decide +kernel
theorem dX11_check_85 : decode cX11_check 85 = .ok (.goto (-13), 3) := by decide +kernel
theorem dX11_check_88 : decode cX11_check 88 = .ok (.bipush (-4), 2) := by decide +kernel
theorem dX11_check_90 : decode cX11_check 90 = .ok (.istore 7, 2) := by decide +kernel
theorem dX11_check_92 : decode cX11_check 92 = .ok (.aload_n 0, 1) := by decide +kernel
theorem dX11_check_93 : decode cX11_check 93 = .ok (.getfield 116, 3) := by decide +kernel
theorem dX11_check_96 : decode cX11_check 96 = .ok (.iconst 1, 1) := by decide +kernel
theorem dX11_check_97 : decode cX11_check 97 = .ok (.isub, 1) := by decide +kernel
theorem dX11_check_98 : decode cX11_check 98 = .ok (.istore 8, 2) := by decide +kernel
theorem dX11_check_100 : decode cX11_check 100 = .ok (.iload 8, 2) := by decide +kernel
theorem dX11_check_102 : decode cX11_check 102 = .ok (.ifCond .lt 48, 3) := by decide +kernel
theorem dX11_check_105 : decode cX11_check 105 = .ok (.aload_n 0, 1) := by decide +kernel
theorem dX11_check_106 : decode cX11_check 106 = .ok (.getfield 38, 3) := by decide +kernel
theorem dX11_check_109 : decode cX11_check 109 = .ok (.bipush 8, 2) := by decide +kernel
theorem dX11_check_111 : decode cX11_check 111 = .ok (.iload 8, 2) := by decide +kernel
theorem dX11_check_113 : decode cX11_check 113 = .ok (.imul, 1) := by decide +kernel
theorem dX11_check_114 : decode cX11_check 114 = .ok (.iload_n 1, 1) := by decide +kernel
theorem dX11_check_115 : decode cX11_check 115 = .ok (.iadd, 1) := by decide +kernel
theorem dX11_check_116 : decode cX11_check 116 = .ok (.iaload, 1) := by decide +kernel
theorem dX11_check_117 : decode cX11_check 117 = .ok (.aload_n 0, 1) := by decide +kernel
theorem dX11_check_118 : decode cX11_check 118 = .ok (.getfield 110, 3) := by decide +kernel
theorem dX11_check_121 : decode cX11_check 121 = .ok (.bipush 32, 2) := by decide +kernel
theorem dX11_check_123 : decode cX11_check 123 = .ok (.iload_n 3, 1) := by decide +kernel
theorem dX11_check_124 : decode cX11_check 124 = .ok (.imul, 1) := by decide +kernel
theorem dX11_check_125 : decode cX11_check 125 = .ok (.iload 5, 2) := by decide +kernel
theorem dX11_check_127 : decode cX11_check 127 = .ok (.iadd, 1) := by decide +kernel
theorem dX11_check_128 : decode cX11_check 128 = .ok (.iload 8, 2) := by decide +kernel
theorem dX11_check_130 : decode cX11_check 130 = .ok (.iadd, 1) := by decide +kernel
theorem dX11_check_131 : decode cX11_check 131 = .ok (.iaload, 1) := by decide +kernel
theorem dX11_check_132 : decode cX11_check 132 = .ok (.if_icmp .ne 8, 3) := by decide +kernel
theorem dX11_check_135 : decode cX11_check 135 = .ok (.iload 7, 2) := by decide +kernel
theorem dX11_check_137 : decode cX11_check 137 = .ok (.goto 5, 3) := by decide +kernel
theorem dX11_check_140 : decode cX11_check 140 = .ok (.iload 8, 2) := by decide +kernel
theorem dX11_check_142 : decode cX11_check 142 = .ok (.istore 7, 2) := by decide +kernel
theorem dX11_check_144 : decode cX11_check 144 = .ok (.iinc 8 (-1), 3) := by decide +kernel
theorem dX11_check_147 : decode cX11_check 147 = .ok (.goto (-47), 3) := by decide +kernel
theorem dX11_check_150 : decode cX11_check 150 = .ok (.aload_n 0, 1) := by decide +kernel
theorem dX11_check_151 : decode cX11_check 151 = .ok (.invokevirtual 244, 3) := by decide +kernel
theorem dX11_check_154 : decode cX11_check 154 = .ok (.iload 7, 2) := by decide +kernel
theorem dX11_check_156 : decode cX11_check 156 = .ok (.ireturn, 1) := by decide +kernel
theorem dX11_isSheet_0 : decode cX11_isSheet 0 = .ok (.iload_n 0, 1) := by decide +kernel
theorem dX11_isSheet_1 : decode cX11_isSheet 1 = .ok (.i2l, 1) := by decide +kernel
theorem dX11_isSheet_2 : decode cX11_isSheet 2 = .ok (.lconst 0, 1) := by decide +kernel
theorem dX11_isSheet_3 : decode cX11_isSheet 3 = .ok (.ldc2_w 216, 3) := by decide +kernel
theorem dX11_isSheet_6 : decode cX11_isSheet 6 = .ok (.invokestatic 120, 3) := by decide +kernel
theorem dX11_isSheet_9 : decode cX11_isSheet 9 = .ok (.ireturn, 1) := by decide +kernel
theorem dX11_isLane_0 : decode cX11_isLane 0 = .ok (.iload_n 0, 1) := by decide +kernel
theorem dX11_isLane_1 : decode cX11_isLane 1 = .ok (.i2l, 1) := by decide +kernel
theorem dX11_isLane_2 : decode cX11_isLane 2 = .ok (.lconst 0, 1) := by decide +kernel
theorem dX11_isLane_3 : decode cX11_isLane 3 = .ok (.ldc2_w 230, 3) := by decide +kernel
theorem dX11_isLane_6 : decode cX11_isLane 6 = .ok (.invokestatic 120, 3) := by decide +kernel
theorem dX11_isLane_9 : decode cX11_isLane 9 = .ok (.ireturn, 1) := by decide +kernel
theorem dX11_finds_0 : decode cX11_finds 0 = .ok (.aload_n 0, 1) := by decide +kernel
theorem dX11_finds_1 : decode cX11_finds 1 = .ok (.getfield 104, 3) := by decide +kernel
theorem dX11_finds_4 : decode cX11_finds 4 = .ok (.iload_n 1, 1) := by decide +kernel
theorem dX11_finds_5 : decode cX11_finds 5 = .ok (.iaload, 1) := by decide +kernel
theorem dX11_finds_6 : decode cX11_finds 6 = .ok (.ifCond .ge 6, 3) := by decide +kernel
theorem dX11_finds_9 : decode cX11_finds 9 = .ok (.bipush (-11), 2) := by decide +kernel
theorem dX11_finds_11 : decode cX11_finds 11 = .ok (.ireturn, 1) := by decide +kernel
theorem dX11_finds_12 : decode cX11_finds 12 = .ok (.aload_n 0, 1) := by decide +kernel
theorem dX11_finds_13 : decode cX11_finds 13 = .ok (.getfield 104, 3) := by decide +kernel
theorem dX11_finds_16 : decode cX11_finds 16 = .ok (.iload_n 1, 1) := by decide +kernel
theorem dX11_finds_17 : decode cX11_finds 17 = .ok (.iaload, 1) := by decide +kernel
theorem dX11_finds_18 : decode cX11_finds 18 = .ok (.iload_n 2, 1) := by decide +kernel
theorem dX11_finds_19 : decode cX11_finds 19 = .ok (.if_icmp .eq 6, 3) := by decide +kernel
theorem dX11_finds_22 : decode cX11_finds 22 = .ok (.bipush (-12), 2) := by decide +kernel
theorem dX11_finds_24 : decode cX11_finds 24 = .ok (.ireturn, 1) := by decide +kernel
theorem dX11_finds_25 : decode cX11_finds 25 = .ok (.iload_n 3, 1) := by decide +kernel
theorem dX11_finds_26 : decode cX11_finds 26 = .ok (.ifCond .lt 20, 3) := by decide +kernel
theorem dX11_finds_29 : decode cX11_finds 29 = .ok (.iload_n 3, 1) := by decide +kernel
theorem dX11_finds_30 : decode cX11_finds 30 = .ok (.i2l, 1) := by decide +kernel
theorem dX11_finds_31 : decode cX11_finds 31 = .ok (.iload 4, 2) := by decide +kernel
theorem dX11_finds_33 : decode cX11_finds 33 = .ok (.i2l, 1) := by decide +kernel
theorem dX11_finds_34 : decode cX11_finds 34 = .ok (.ladd, 1) := by decide +kernel
theorem dX11_finds_35 : decode cX11_finds 35 = .ok (.aload_n 0, 1) := by decide +kernel
theorem dX11_finds_36 : decode cX11_finds 36 = .ok (.getfield 107, 3) := by decide +kernel
theorem dX11_finds_39 : decode cX11_finds 39 = .ok (.iload_n 1, 1) := by decide +kernel
theorem dX11_finds_40 : decode cX11_finds 40 = .ok (.iaload, 1) := by decide +kernel
theorem dX11_finds_41 : decode cX11_finds 41 = .ok (.i2l, 1) := by decide +kernel
theorem dX11_finds_42 : decode cX11_finds 42 = .ok (.lcmp, 1) := by decide +kernel
theorem dX11_finds_43 : decode cX11_finds 43 = .ok (.ifCond .le 8, 3) := by decide +kernel
theorem dX11_finds_46 : decode cX11_finds 46 = .ok (.bipush (-13), 2) := by decide +kernel
theorem dX11_finds_48 : decode cX11_finds 48 = .ok (.goto 4, 3) := by decide +kernel
theorem dX11_finds_51 : decode cX11_finds 51 = .ok (.iconst 0, 1) := by decide +kernel
theorem dX11_finds_52 : decode cX11_finds 52 = .ok (.ireturn, 1) := by decide +kernel
theorem dX11_sheet_0 : decode cX11_sheet 0 = .ok (.iload_n 1, 1) := by decide +kernel
theorem dX11_sheet_1 : decode cX11_sheet 1 = .ok (.invokestatic 339, 3) := by decide +kernel
theorem dX11_sheet_4 : decode cX11_sheet 4 = .ok (.ifCond .eq 16, 3) := by decide +kernel
theorem dX11_sheet_7 : decode cX11_sheet 7 = .ok (.iload_n 2, 1) := by decide +kernel
theorem dX11_sheet_8 : decode cX11_sheet 8 = .ok (.invokestatic 346, 3) := by decide +kernel
theorem dX11_sheet_11 : decode cX11_sheet 11 = .ok (.ifCond .eq 9, 3) := by decide +kernel
theorem dX11_sheet_14 : decode cX11_sheet 14 = .ok (.iload_n 3, 1) := by decide +kernel
theorem dX11_sheet_15 : decode cX11_sheet 15 = .ok (.bipush 32, 2) := by decide +kernel
theorem dX11_sheet_17 : decode cX11_sheet 17 = .ok (.if_icmp .le 5, 3) := by decide +kernel
theorem dX11_sheet_20 : decode cX11_sheet 20 = .ok (.iconst (-1), 1) := by decide +kernel
theorem dX11_sheet_21 : decode cX11_sheet 21 = .ok (.ireturn, 1) := by decide +kernel
theorem dX11_sheet_22 : decode cX11_sheet 22 = .ok (.iload_n 3, 1) := by decide +kernel
theorem dX11_sheet_23 : decode cX11_sheet 23 = .ok (.ifCond .ge 6, 3) := by decide +kernel
theorem dX11_sheet_26 : decode cX11_sheet 26 = .ok (.bipush (-14), 2) := by decide +kernel
theorem dX11_sheet_28 : decode cX11_sheet 28 = .ok (.ireturn, 1) := by decide +kernel
theorem dX11_sheet_29 : decode cX11_sheet 29 = .ok (.aload_n 0, 1) := by decide +kernel
theorem dX11_sheet_30 : decode cX11_sheet 30 = .ok (.getfield 104, 3) := by decide +kernel
theorem dX11_sheet_33 : decode cX11_sheet 33 = .ok (.iload_n 1, 1) := by decide +kernel
theorem dX11_sheet_34 : decode cX11_sheet 34 = .ok (.iload_n 2, 1) := by decide +kernel
theorem dX11_sheet_35 : decode cX11_sheet 35 = .ok (.iastore, 1) := by decide +kernel
theorem dX11_sheet_36 : decode cX11_sheet 36 = .ok (.aload_n 0, 1) := by decide +kernel
theorem dX11_sheet_37 : decode cX11_sheet 37 = .ok (.getfield 107, 3) := by decide +kernel
theorem dX11_sheet_40 : decode cX11_sheet 40 = .ok (.iload_n 1, 1) := by decide +kernel
theorem dX11_sheet_41 : decode cX11_sheet 41 = .ok (.iload_n 3, 1) := by decide +kernel
theorem dX11_sheet_42 : decode cX11_sheet 42 = .ok (.iastore, 1) := by decide +kernel
theorem dX11_sheet_43 : decode cX11_sheet 43 = .ok (.iconst 0, 1) := by decide +kernel
theorem dX11_sheet_44 : decode cX11_sheet 44 = .ok (.istore 4, 2) := by decide +kernel
theorem dX11_sheet_46 : decode cX11_sheet 46 = .ok (.iload 4, 2) := by decide +kernel
theorem dX11_sheet_48 : decode cX11_sheet 48 = .ok (.bipush 32, 2) := by decide +kernel
theorem dX11_sheet_50 : decode cX11_sheet 50 = .ok (.if_icmp .ge 22, 3) := by decide +kernel
theorem dX11_sheet_53 : decode cX11_sheet 53 = .ok (.aload_n 0, 1) := by decide +kernel
theorem dX11_sheet_54 : decode cX11_sheet 54 = .ok (.getfield 110, 3) := by decide +kernel
theorem dX11_sheet_57 : decode cX11_sheet 57 = .ok (.bipush 32, 2) := by decide +kernel
theorem dX11_sheet_59 : decode cX11_sheet 59 = .ok (.iload_n 1, 1) := by decide +kernel
theorem dX11_sheet_60 : decode cX11_sheet 60 = .ok (.imul, 1) := by decide +kernel
theorem dX11_sheet_61 : decode cX11_sheet 61 = .ok (.iload 4, 2) := by decide +kernel
theorem dX11_sheet_63 : decode cX11_sheet 63 = .ok (.iadd, 1) := by decide +kernel
theorem dX11_sheet_64 : decode cX11_sheet 64 = .ok (.iconst 0, 1) := by decide +kernel
theorem dX11_sheet_65 : decode cX11_sheet 65 = .ok (.iastore, 1) := by decide +kernel
theorem dX11_sheet_66 : decode cX11_sheet 66 = .ok (.iinc 4 1, 3) := by decide +kernel
theorem dX11_sheet_69 : decode cX11_sheet 69 = .ok (.goto (-23), 3) := by decide +kernel
theorem dX11_sheet_72 : decode cX11_sheet 72 = .ok (.iload_n 3, 1) := by decide +kernel
theorem dX11_sheet_73 : decode cX11_sheet 73 = .ok (.ireturn, 1) := by decide +kernel
theorem dX11_drop_0 : decode cX11_drop 0 = .ok (.iload_n 1, 1) := by decide +kernel
theorem dX11_drop_1 : decode cX11_drop 1 = .ok (.invokestatic 339, 3) := by decide +kernel
theorem dX11_drop_4 : decode cX11_drop 4 = .ok (.ifCond .ne 5, 3) := by decide +kernel
theorem dX11_drop_7 : decode cX11_drop 7 = .ok (.iconst (-1), 1) := by decide +kernel
theorem dX11_drop_8 : decode cX11_drop 8 = .ok (.ireturn, 1) := by decide +kernel
theorem dX11_drop_9 : decode cX11_drop 9 = .ok (.aload_n 0, 1) := by decide +kernel
theorem dX11_drop_10 : decode cX11_drop 10 = .ok (.getfield 104, 3) := by decide +kernel
theorem dX11_drop_13 : decode cX11_drop 13 = .ok (.iload_n 1, 1) := by decide +kernel
theorem dX11_drop_14 : decode cX11_drop 14 = .ok (.iaload, 1) := by decide +kernel
theorem dX11_drop_15 : decode cX11_drop 15 = .ok (.ifCond .ge 6, 3) := by decide +kernel
theorem dX11_drop_18 : decode cX11_drop 18 = .ok (.bipush (-11), 2) := by decide +kernel
theorem dX11_drop_20 : decode cX11_drop 20 = .ok (.ireturn, 1) := by decide +kernel
theorem dX11_drop_21 : decode cX11_drop 21 = .ok (.aload_n 0, 1) := by decide +kernel
theorem dX11_drop_22 : decode cX11_drop 22 = .ok (.getfield 104, 3) := by decide +kernel
theorem dX11_drop_25 : decode cX11_drop 25 = .ok (.iload_n 1, 1) := by decide +kernel
theorem dX11_drop_26 : decode cX11_drop 26 = .ok (.iconst (-1), 1) := by decide +kernel
theorem dX11_drop_27 : decode cX11_drop 27 = .ok (.iastore, 1) := by decide +kernel
theorem dX11_drop_28 : decode cX11_drop 28 = .ok (.aload_n 0, 1) := by decide +kernel
theorem dX11_drop_29 : decode cX11_drop 29 = .ok (.getfield 107, 3) := by decide +kernel
theorem dX11_drop_32 : decode cX11_drop 32 = .ok (.iload_n 1, 1) := by decide +kernel
theorem dX11_drop_33 : decode cX11_drop 33 = .ok (.iaload, 1) := by decide +kernel
theorem dX11_drop_34 : decode cX11_drop 34 = .ok (.ireturn, 1) := by decide +kernel
theorem dX11_item_0 : decode cX11_item 0 = .ok (.iload_n 1, 1) := by decide +kernel
theorem dX11_item_1 : decode cX11_item 1 = .ok (.invokestatic 339, 3) := by decide +kernel
theorem dX11_item_4 : decode cX11_item 4 = .ok (.ifCond .eq 10, 3) := by decide +kernel
theorem dX11_item_7 : decode cX11_item 7 = .ok (.iload_n 2, 1) := by decide +kernel
theorem dX11_item_8 : decode cX11_item 8 = .ok (.invokestatic 346, 3) := by decide +kernel
theorem dX11_item_11 : decode cX11_item 11 = .ok (.ifCond .ne 5, 3) := by decide +kernel
theorem dX11_item_14 : decode cX11_item 14 = .ok (.iconst (-1), 1) := by decide +kernel
theorem dX11_item_15 : decode cX11_item 15 = .ok (.ireturn, 1) := by decide +kernel
theorem dX11_item_16 : decode cX11_item 16 = .ok (.aload_n 0, 1) := by decide +kernel
theorem dX11_item_17 : decode cX11_item 17 = .ok (.iload_n 1, 1) := by decide +kernel
theorem dX11_item_18 : decode cX11_item 18 = .ok (.iload_n 2, 1) := by decide +kernel
theorem dX11_item_19 : decode cX11_item 19 = .ok (.iload_n 3, 1) := by decide +kernel
theorem dX11_item_20 : decode cX11_item 20 = .ok (.iconst 1, 1) := by decide +kernel
theorem dX11_item_21 : decode cX11_item 21 = .ok (.invokevirtual 342, 3) := by decide +kernel
theorem dX11_item_24 : decode cX11_item 24 = .ok (.istore 5, 2) := by decide +kernel
theorem dX11_item_26 : decode cX11_item 26 = .ok (.iload 5, 2) := by decide +kernel
theorem dX11_item_28 : decode cX11_item 28 = .ok (.ifCond .ge 6, 3) := by decide +kernel
theorem dX11_item_31 : decode cX11_item 31 = .ok (.iload 5, 2) := by decide +kernel
theorem dX11_item_33 : decode cX11_item 33 = .ok (.ireturn, 1) := by decide +kernel
theorem dX11_item_34 : decode cX11_item 34 = .ok (.aload_n 0, 1) := by decide +kernel
theorem dX11_item_35 : decode cX11_item 35 = .ok (.getfield 110, 3) := by decide +kernel
theorem dX11_item_38 : decode cX11_item 38 = .ok (.bipush 32, 2) := by decide +kernel
theorem dX11_item_40 : decode cX11_item 40 = .ok (.iload_n 1, 1) := by decide +kernel
theorem dX11_item_41 : decode cX11_item 41 = .ok (.imul, 1) := by decide +kernel
theorem dX11_item_42 : decode cX11_item 42 = .ok (.iload_n 3, 1) := by decide +kernel
theorem dX11_item_43 : decode cX11_item 43 = .ok (.iadd, 1) := by decide +kernel
theorem dX11_item_44 : decode cX11_item 44 = .ok (.iload_n 2, 1) := by decide +kernel
theorem dX11_item_45 : decode cX11_item 45 = .ok (.ifCond .ne 16, 3) := by decide +kernel
theorem dX11_item_48 : decode cX11_item 48 = .ok (.iload 4, 2) := by decide +kernel
theorem dX11_item_50 : decode cX11_item 50 = .ok (.ifCond .eq 7, 3) := by decide +kernel
theorem dX11_item_53 : decode cX11_item 53 = .ok (.iconst 1, 1) := by decide +kernel
theorem dX11_item_54 : decode cX11_item 54 = .ok (.goto 20, 3) := by decide +kernel
theorem dX11_item_57 : decode cX11_item 57 = .ok (.iconst 0, 1) := by decide +kernel
theorem dX11_item_58 : decode cX11_item 58 = .ok (.goto 16, 3) := by decide +kernel
theorem dX11_item_61 : decode cX11_item 61 = .ok (.iload_n 2, 1) := by decide +kernel
theorem dX11_item_62 : decode cX11_item 62 = .ok (.iconst 1, 1) := by decide +kernel
theorem dX11_item_63 : decode cX11_item 63 = .ok (.if_icmp .ne 9, 3) := by decide +kernel
theorem dX11_item_66 : decode cX11_item 66 = .ok (.iload 4, 2) := by decide +kernel
theorem dX11_item_68 : decode cX11_item 68 = .ok (.i2b, 1) := by decide +kernel
theorem dX11_item_69 : decode cX11_item 69 = .ok (.goto 5, 3) := by decide +kernel
theorem dX11_item_72 : decode cX11_item 72 = .ok (.iload 4, 2) := by decide +kernel
theorem dX11_item_74 : decode cX11_item 74 = .ok (.iastore, 1) := by decide +kernel
theorem dX11_item_75 : decode cX11_item 75 = .ok (.iconst 1, 1) := by decide +kernel
theorem dX11_item_76 : decode cX11_item 76 = .ok (.ireturn, 1) := by decide +kernel
theorem dX11_copy_0 : decode cX11_copy 0 = .ok (.iload_n 1, 1) := by decide +kernel
theorem dX11_copy_1 : decode cX11_copy 1 = .ok (.invokestatic 339, 3) := by decide +kernel
theorem dX11_copy_4 : decode cX11_copy 4 = .ok (.ifCond .eq 10, 3) := by decide +kernel
theorem dX11_copy_7 : decode cX11_copy 7 = .ok (.iload_n 3, 1) := by decide +kernel
theorem dX11_copy_8 : decode cX11_copy 8 = .ok (.invokestatic 339, 3) := by decide +kernel
theorem dX11_copy_11 : decode cX11_copy 11 = .ok (.ifCond .ne 5, 3) := by decide +kernel
theorem dX11_copy_14 : decode cX11_copy 14 = .ok (.iconst (-1), 1) := by decide +kernel
theorem dX11_copy_15 : decode cX11_copy 15 = .ok (.ireturn, 1) := by decide +kernel
theorem dX11_copy_16 : decode cX11_copy 16 = .ok (.aload_n 0, 1) := by decide +kernel
theorem dX11_copy_17 : decode cX11_copy 17 = .ok (.getfield 104, 3) := by decide +kernel
theorem dX11_copy_20 : decode cX11_copy 20 = .ok (.iload_n 1, 1) := by decide +kernel
theorem dX11_copy_21 : decode cX11_copy 21 = .ok (.iaload, 1) := by decide +kernel
theorem dX11_copy_22 : decode cX11_copy 22 = .ok (.ifCond .lt 12, 3) := by decide +kernel
theorem dX11_copy_25 : decode cX11_copy 25 = .ok (.aload_n 0, 1) := by decide +kernel
theorem dX11_copy_26 : decode cX11_copy 26 = .ok (.getfield 104, 3) := by decide +kernel
theorem dX11_copy_29 : decode cX11_copy 29 = .ok (.iload_n 3, 1) := by decide +kernel
theorem dX11_copy_30 : decode cX11_copy 30 = .ok (.iaload, 1) := by decide +kernel
theorem dX11_copy_31 : decode cX11_copy 31 = .ok (.ifCond .ge 6, 3) := by decide +kernel
theorem dX11_copy_34 : decode cX11_copy 34 = .ok (.bipush (-11), 2) := by decide +kernel
theorem dX11_copy_36 : decode cX11_copy 36 = .ok (.ireturn, 1) := by decide +kernel
theorem dX11_copy_37 : decode cX11_copy 37 = .ok (.aload_n 0, 1) := by decide +kernel
theorem dX11_copy_38 : decode cX11_copy 38 = .ok (.getfield 104, 3) := by decide +kernel
theorem dX11_copy_41 : decode cX11_copy 41 = .ok (.iload_n 1, 1) := by decide +kernel
theorem dX11_copy_42 : decode cX11_copy 42 = .ok (.iaload, 1) := by decide +kernel
theorem dX11_copy_43 : decode cX11_copy 43 = .ok (.aload_n 0, 1) := by decide +kernel
theorem dX11_copy_44 : decode cX11_copy 44 = .ok (.getfield 104, 3) := by decide +kernel
theorem dX11_copy_47 : decode cX11_copy 47 = .ok (.iload_n 3, 1) := by decide +kernel
theorem dX11_copy_48 : decode cX11_copy 48 = .ok (.iaload, 1) := by decide +kernel
theorem dX11_copy_49 : decode cX11_copy 49 = .ok (.if_icmp .eq 6, 3) := by decide +kernel
theorem dX11_copy_52 : decode cX11_copy 52 = .ok (.bipush (-12), 2) := by decide +kernel
theorem dX11_copy_54 : decode cX11_copy 54 = .ok (.ireturn, 1) := by decide +kernel
theorem dX11_copy_55 : decode cX11_copy 55 = .ok (.iload 5, 2) := by decide +kernel
theorem dX11_copy_57 : decode cX11_copy 57 = .ok (.ifCond .lt 38, 3) := by decide +kernel
theorem dX11_copy_60 : decode cX11_copy 60 = .ok (.aload_n 0, 1) := by decide +kernel
theorem dX11_copy_61 : decode cX11_copy 61 = .ok (.iload_n 1, 1) := by decide +kernel
theorem dX11_copy_62 : decode cX11_copy 62 = .ok (.aload_n 0, 1) := by decide +kernel
theorem dX11_copy_63 : decode cX11_copy 63 = .ok (.getfield 104, 3) := by decide +kernel
theorem dX11_copy_66 : decode cX11_copy 66 = .ok (.iload_n 1, 1) := by decide +kernel
theorem dX11_copy_67 : decode cX11_copy 67 = .ok (.iaload, 1) := by decide +kernel
theorem dX11_copy_68 : decode cX11_copy 68 = .ok (.iload_n 2, 1) := by decide +kernel
theorem dX11_copy_69 : decode cX11_copy 69 = .ok (.iload 5, 2) := by decide +kernel
theorem dX11_copy_71 : decode cX11_copy 71 = .ok (.invokevirtual 342, 3) := by decide +kernel
theorem dX11_copy_74 : decode cX11_copy 74 = .ok (.ifCond .lt 21, 3) := by decide +kernel
theorem dX11_copy_77 : decode cX11_copy 77 = .ok (.aload_n 0, 1) := by decide +kernel
theorem dX11_copy_78 : decode cX11_copy 78 = .ok (.iload_n 3, 1) := by decide +kernel
theorem dX11_copy_79 : decode cX11_copy 79 = .ok (.aload_n 0, 1) := by decide +kernel
theorem dX11_copy_80 : decode cX11_copy 80 = .ok (.getfield 104, 3) := by decide +kernel
theorem dX11_copy_83 : decode cX11_copy 83 = .ok (.iload_n 3, 1) := by decide +kernel
theorem dX11_copy_84 : decode cX11_copy 84 = .ok (.iaload, 1) := by decide +kernel
theorem dX11_copy_85 : decode cX11_copy 85 = .ok (.iload 4, 2) := by decide +kernel
theorem dX11_copy_87 : decode cX11_copy 87 = .ok (.iload 5, 2) := by decide +kernel
theorem dX11_copy_89 : decode cX11_copy 89 = .ok (.invokevirtual 342, 3) := by decide +kernel
theorem dX11_copy_92 : decode cX11_copy 92 = .ok (.ifCond .ge 6, 3) := by decide +kernel
theorem dX11_copy_95 : decode cX11_copy 95 = .ok (.bipush (-13), 2) := by decide +kernel
theorem dX11_copy_97 : decode cX11_copy 97 = .ok (.ireturn, 1) := by decide +kernel
theorem dX11_copy_98 : decode cX11_copy 98 = .ok (.iconst 0, 1) := by decide +kernel
theorem dX11_copy_99 : decode cX11_copy 99 = .ok (.istore 6, 2) := by decide +kernel
theorem dX11_copy_101 : decode cX11_copy 101 = .ok (.iload 6, 2) := by decide +kernel
theorem dX11_copy_103 : decode cX11_copy 103 = .ok (.iload 5, 2) := by decide +kernel
theorem dX11_copy_105 : decode cX11_copy 105 = .ok (.if_icmp .ge 30, 3) := by decide +kernel
theorem dX11_copy_108 : decode cX11_copy 108 = .ok (.aload_n 0, 1) := by decide +kernel
theorem dX11_copy_109 : decode cX11_copy 109 = .ok (.getfield 113, 3) := by decide +kernel
theorem dX11_copy_112 : decode cX11_copy 112 = .ok (.iload 6, 2) := by decide +kernel
theorem dX11_copy_114 : decode cX11_copy 114 = .ok (.aload_n 0, 1) := by decide +kernel
theorem dX11_copy_115 : decode cX11_copy 115 = .ok (.getfield 110, 3) := by decide +kernel
theorem dX11_copy_118 : decode cX11_copy 118 = .ok (.bipush 32, 2) := by decide +kernel
theorem dX11_copy_120 : decode cX11_copy 120 = .ok (.iload_n 1, 1) := by decide +kernel
theorem dX11_copy_121 : decode cX11_copy 121 = .ok (.imul, 1) := by decide +kernel
theorem dX11_copy_122 : decode cX11_copy 122 = .ok (.iload_n 2, 1) := by decide +kernel
theorem dX11_copy_123 : decode cX11_copy 123 = .ok (.iadd, 1) := by decide +kernel
theorem dX11_copy_124 : decode cX11_copy 124 = .ok (.iload 6, 2) := by decide +kernel
theorem dX11_copy_126 : decode cX11_copy 126 = .ok (.iadd, 1) := by decide +kernel
theorem dX11_copy_127 : decode cX11_copy 127 = .ok (.iaload, 1) := by decide +kernel
theorem dX11_copy_128 : decode cX11_copy 128 = .ok (.iastore, 1) := by decide +kernel
theorem dX11_copy_129 : decode cX11_copy 129 = .ok (.iinc 6 1, 3) := by decide +kernel
theorem dX11_copy_132 : decode cX11_copy 132 = .ok (.goto (-31), 3) := by decide +kernel
theorem dX11_copy_135 : decode cX11_copy 135 = .ok (.iconst 0, 1) := by decide +kernel
theorem dX11_copy_136 : decode cX11_copy 136 = .ok (.istore 6, 2) := by decide +kernel
theorem dX11_copy_138 : decode cX11_copy 138 = .ok (.iload 6, 2) := by decide +kernel
theorem dX11_copy_140 : decode cX11_copy 140 = .ok (.iload 5, 2) := by decide +kernel
theorem dX11_copy_142 : decode cX11_copy 142 = .ok (.if_icmp .ge 31, 3) := by decide +kernel
theorem dX11_copy_145 : decode cX11_copy 145 = .ok (.aload_n 0, 1) := by decide +kernel
theorem dX11_copy_146 : decode cX11_copy 146 = .ok (.getfield 110, 3) := by decide +kernel
theorem dX11_copy_149 : decode cX11_copy 149 = .ok (.bipush 32, 2) := by decide +kernel
theorem dX11_copy_151 : decode cX11_copy 151 = .ok (.iload_n 3, 1) := by decide +kernel
theorem dX11_copy_152 : decode cX11_copy 152 = .ok (.imul, 1) := by decide +kernel
theorem dX11_copy_153 : decode cX11_copy 153 = .ok (.iload 4, 2) := by decide +kernel
theorem dX11_copy_155 : decode cX11_copy 155 = .ok (.iadd, 1) := by decide +kernel
theorem dX11_copy_156 : decode cX11_copy 156 = .ok (.iload 6, 2) := by decide +kernel
theorem dX11_copy_158 : decode cX11_copy 158 = .ok (.iadd, 1) := by decide +kernel
theorem dX11_copy_159 : decode cX11_copy 159 = .ok (.aload_n 0, 1) := by decide +kernel
theorem dX11_copy_160 : decode cX11_copy 160 = .ok (.getfield 113, 3) := by decide +kernel
theorem dX11_copy_163 : decode cX11_copy 163 = .ok (.iload 6, 2) := by decide +kernel
theorem dX11_copy_165 : decode cX11_copy 165 = .ok (.iaload, 1) := by decide +kernel
theorem dX11_copy_166 : decode cX11_copy 166 = .ok (.iastore, 1) := by decide +kernel
theorem dX11_copy_167 : decode cX11_copy 167 = .ok (.iinc 6 1, 3) := by decide +kernel
theorem dX11_copy_170 : decode cX11_copy 170 = .ok (.goto (-32), 3) := by decide +kernel
theorem dX11_copy_173 : decode cX11_copy 173 = .ok (.iload 5, 2) := by decide +kernel
theorem dX11_copy_175 : decode cX11_copy 175 = .ok (.ireturn, 1) := by decide +kernel
theorem dX11_reads_0 : decode cX11_reads 0 = .ok (.iload_n 1, 1) := by decide +kernel
theorem dX11_reads_1 : decode cX11_reads 1 = .ok (.invokestatic 339, 3) := by decide +kernel
theorem dX11_reads_4 : decode cX11_reads 4 = .ok (.ifCond .ne 5, 3) := by decide +kernel
theorem dX11_reads_7 : decode cX11_reads 7 = .ok (.iconst (-1), 1) := by decide +kernel
theorem dX11_reads_8 : decode cX11_reads 8 = .ok (.ireturn, 1) := by decide +kernel
theorem dX11_reads_9 : decode cX11_reads 9 = .ok (.aload_n 0, 1) := by decide +kernel
theorem dX11_reads_10 : decode cX11_reads 10 = .ok (.iload_n 1, 1) := by decide +kernel
theorem dX11_reads_11 : decode cX11_reads 11 = .ok (.iconst 0, 1) := by decide +kernel
theorem dX11_reads_12 : decode cX11_reads 12 = .ok (.iload_n 2, 1) := by decide +kernel
theorem dX11_reads_13 : decode cX11_reads 13 = .ok (.aload_n 0, 1) := by decide +kernel
theorem dX11_reads_14 : decode cX11_reads 14 = .ok (.getfield 116, 3) := by decide +kernel
theorem dX11_reads_17 : decode cX11_reads 17 = .ok (.invokevirtual 342, 3) := by decide +kernel
theorem dX11_reads_20 : decode cX11_reads 20 = .ok (.istore_n 3, 1) := by decide +kernel
theorem dX11_reads_21 : decode cX11_reads 21 = .ok (.iload_n 3, 1) := by decide +kernel
theorem dX11_reads_22 : decode cX11_reads 22 = .ok (.ifCond .ge 5, 3) := by decide +kernel
theorem dX11_reads_25 : decode cX11_reads 25 = .ok (.iload_n 3, 1) := by decide +kernel
theorem dX11_reads_26 : decode cX11_reads 26 = .ok (.ireturn, 1) := by decide +kernel
theorem dX11_reads_27 : decode cX11_reads 27 = .ok (.iconst 0, 1) := by decide +kernel
theorem dX11_reads_28 : decode cX11_reads 28 = .ok (.istore 4, 2) := by decide +kernel
theorem dX11_reads_30 : decode cX11_reads 30 = .ok (.iconst 0, 1) := by decide +kernel
theorem dX11_reads_31 : decode cX11_reads 31 = .ok (.istore 5, 2) := by decide +kernel
theorem dX11_reads_33 : decode cX11_reads 33 = .ok (.iload 5, 2) := by decide +kernel
theorem dX11_reads_35 : decode cX11_reads 35 = .ok (.aload_n 0, 1) := by decide +kernel
theorem dX11_reads_36 : decode cX11_reads 36 = .ok (.getfield 116, 3) := by decide +kernel
theorem dX11_reads_39 : decode cX11_reads 39 = .ok (.if_icmp .ge 53, 3) := by decide +kernel
theorem dX11_reads_42 : decode cX11_reads 42 = .ok (.aload_n 0, 1) := by decide +kernel
theorem dX11_reads_43 : decode cX11_reads 43 = .ok (.getfield 13, 3) := by decide +kernel
theorem dX11_reads_46 : decode cX11_reads 46 = .ok (.iconst 5, 1) := by decide +kernel
theorem dX11_reads_47 : decode cX11_reads 47 = .ok (.iload 5, 2) := by decide +kernel
theorem dX11_reads_49 : decode cX11_reads 49 = .ok (.imul, 1) := by decide +kernel
theorem dX11_reads_50 : decode cX11_reads 50 = .ok (.iconst 2, 1) := by decide +kernel
theorem dX11_reads_51 : decode cX11_reads 51 = .ok (.iadd, 1) := by decide +kernel
theorem dX11_reads_52 : decode cX11_reads 52 = .ok (.aload_n 0, 1) := by decide +kernel
theorem dX11_reads_53 : decode cX11_reads 53 = .ok (.getfield 110, 3) := by decide +kernel
theorem dX11_reads_56 : decode cX11_reads 56 = .ok (.bipush 32, 2) := by decide +kernel
theorem dX11_reads_58 : decode cX11_reads 58 = .ok (.iload_n 1, 1) := by decide +kernel
theorem dX11_reads_59 : decode cX11_reads 59 = .ok (.imul, 1) := by decide +kernel
theorem dX11_reads_60 : decode cX11_reads 60 = .ok (.iload_n 2, 1) := by decide +kernel
theorem dX11_reads_61 : decode cX11_reads 61 = .ok (.iadd, 1) := by decide +kernel
theorem dX11_reads_62 : decode cX11_reads 62 = .ok (.iload 5, 2) := by decide +kernel
theorem dX11_reads_64 : decode cX11_reads 64 = .ok (.iadd, 1) := by decide +kernel
theorem dX11_reads_65 : decode cX11_reads 65 = .ok (.iaload, 1) := by decide +kernel
theorem dX11_reads_66 : decode cX11_reads 66 = .ok (.iastore, 1) := by decide +kernel
theorem dX11_reads_67 : decode cX11_reads 67 = .ok (.iload 4, 2) := by decide +kernel
theorem dX11_reads_69 : decode cX11_reads 69 = .ok (.aload_n 0, 1) := by decide +kernel
theorem dX11_reads_70 : decode cX11_reads 70 = .ok (.getfield 110, 3) := by decide +kernel
theorem dX11_reads_73 : decode cX11_reads 73 = .ok (.bipush 32, 2) := by decide +kernel
theorem dX11_reads_75 : decode cX11_reads 75 = .ok (.iload_n 1, 1) := by decide +kernel
theorem dX11_reads_76 : decode cX11_reads 76 = .ok (.imul, 1) := by decide +kernel
theorem dX11_reads_77 : decode cX11_reads 77 = .ok (.iload_n 2, 1) := by decide +kernel
theorem dX11_reads_78 : decode cX11_reads 78 = .ok (.iadd, 1) := by decide +kernel
theorem dX11_reads_79 : decode cX11_reads 79 = .ok (.iload 5, 2) := by decide +kernel
theorem dX11_reads_81 : decode cX11_reads 81 = .ok (.iadd, 1) := by decide +kernel
theorem dX11_reads_82 : decode cX11_reads 82 = .ok (.iaload, 1) := by decide +kernel
theorem dX11_reads_83 : decode cX11_reads 83 = .ok (.iadd, 1) := by decide +kernel
theorem dX11_reads_84 : decode cX11_reads 84 = .ok (.istore 4, 2) := by decide +kernel
theorem dX11_reads_86 : decode cX11_reads 86 = .ok (.iinc 5 1, 3) := by decide +kernel
theorem dX11_reads_89 : decode cX11_reads 89 = .ok (.goto (-56), 3) := by decide +kernel
theorem dX11_reads_92 : decode cX11_reads 92 = .ok (.iload 4, 2) := by decide +kernel
theorem dX11_reads_94 : decode cX11_reads 94 = .ok (.ireturn, 1) := by decide +kernel
theorem dJ11_isValidCodePoint_9a6ad_0 : decode cJ11_isValidCodePoint_9a6ad 0 = .ok (.iload_n 0, 1) := by decide +kernel
theorem dJ11_isValidCodePoint_9a6ad_1 : decode cJ11_isValidCodePoint_9a6ad 1 = .ok (.bipush 16, 2) := by decide +kernel
theorem dJ11_isValidCodePoint_9a6ad_3 : decode cJ11_isValidCodePoint_9a6ad 3 = .ok (.iushr, 1) := by decide +kernel
theorem dJ11_isValidCodePoint_9a6ad_4 : decode cJ11_isValidCodePoint_9a6ad 4 = .ok (.istore_n 1, 1) := by decide +kernel
theorem dJ11_isValidCodePoint_9a6ad_5 : decode cJ11_isValidCodePoint_9a6ad 5 = .ok (.iload_n 1, 1) := by decide +kernel
theorem dJ11_isValidCodePoint_9a6ad_6 : decode cJ11_isValidCodePoint_9a6ad 6 = .ok (.bipush 17, 2) := by decide +kernel
theorem dJ11_isValidCodePoint_9a6ad_8 : decode cJ11_isValidCodePoint_9a6ad 8 = .ok (.if_icmp .ge 7, 3) := by decide +kernel
theorem dJ11_isValidCodePoint_9a6ad_11 : decode cJ11_isValidCodePoint_9a6ad 11 = .ok (.iconst 1, 1) := by decide +kernel
theorem dJ11_isValidCodePoint_9a6ad_12 : decode cJ11_isValidCodePoint_9a6ad 12 = .ok (.goto 4, 3) := by decide +kernel
theorem dJ11_isValidCodePoint_9a6ad_15 : decode cJ11_isValidCodePoint_9a6ad 15 = .ok (.iconst 0, 1) := by decide +kernel
theorem dJ11_isValidCodePoint_9a6ad_16 : decode cJ11_isValidCodePoint_9a6ad 16 = .ok (.ireturn, 1) := by decide +kernel
theorem dJ11_highSurrogate_5068e_0 : decode cJ11_highSurrogate_5068e 0 = .ok (.iload_n 0, 1) := by decide +kernel
theorem dJ11_highSurrogate_5068e_1 : decode cJ11_highSurrogate_5068e 1 = .ok (.bipush 10, 2) := by decide +kernel
theorem dJ11_highSurrogate_5068e_3 : decode cJ11_highSurrogate_5068e 3 = .ok (.iushr, 1) := by decide +kernel
theorem dJ11_highSurrogate_5068e_4 : decode cJ11_highSurrogate_5068e 4 = .ok (.ldc 110, 2) := by decide +kernel
theorem dJ11_highSurrogate_5068e_6 : decode cJ11_highSurrogate_5068e 6 = .ok (.iadd, 1) := by decide +kernel
theorem dJ11_highSurrogate_5068e_7 : decode cJ11_highSurrogate_5068e 7 = .ok (.i2c, 1) := by decide +kernel
theorem dJ11_highSurrogate_5068e_8 : decode cJ11_highSurrogate_5068e 8 = .ok (.ireturn, 1) := by decide +kernel
theorem dJ11_lowSurrogate_5068e_0 : decode cJ11_lowSurrogate_5068e 0 = .ok (.iload_n 0, 1) := by decide +kernel
theorem dJ11_lowSurrogate_5068e_1 : decode cJ11_lowSurrogate_5068e 1 = .ok (.sipush 1023, 3) := by decide +kernel
theorem dJ11_lowSurrogate_5068e_4 : decode cJ11_lowSurrogate_5068e 4 = .ok (.iand, 1) := by decide +kernel
theorem dJ11_lowSurrogate_5068e_5 : decode cJ11_lowSurrogate_5068e 5 = .ok (.ldc 76, 2) := by decide +kernel
theorem dJ11_lowSurrogate_5068e_7 : decode cJ11_lowSurrogate_5068e 7 = .ok (.iadd, 1) := by decide +kernel
theorem dJ11_lowSurrogate_5068e_8 : decode cJ11_lowSurrogate_5068e 8 = .ok (.i2c, 1) := by decide +kernel
theorem dJ11_lowSurrogate_5068e_9 : decode cJ11_lowSurrogate_5068e 9 = .ok (.ireturn, 1) := by decide +kernel
theorem dJ6_bitCount_0f7a4_0 : decode cJ6_bitCount_0f7a4 0 = .ok (.iload_n 0, 1) := by decide +kernel
theorem dJ6_bitCount_0f7a4_1 : decode cJ6_bitCount_0f7a4 1 = .ok (.iload_n 0, 1) := by decide +kernel
