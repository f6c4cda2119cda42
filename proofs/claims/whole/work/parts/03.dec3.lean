theorem dX11_count_46 : decode cX11_count 46 = .ok (.aload_n 0, 1) := by decide +kernel
theorem dX11_count_47 : decode cX11_count 47 = .ok (.getfield 187, 3) := by decide +kernel
theorem dX11_count_50 : decode cX11_count 50 = .ok (.ireturn, 1) := by decide +kernel
theorem dX11_count_51 : decode cX11_count 51 = .ok (.aload_n 0, 1) := by decide +kernel
theorem dX11_count_52 : decode cX11_count 52 = .ok (.getfield 190, 3) := by decide +kernel
theorem dX11_count_55 : decode cX11_count 55 = .ok (.ireturn, 1) := by decide +kernel
theorem dX11_count_56 : decode cX11_count 56 = .ok (.aload_n 0, 1) := by decide +kernel
theorem dX11_count_57 : decode cX11_count 57 = .ok (.getfield 180, 3) := by decide +kernel
theorem dX11_count_60 : decode cX11_count 60 = .ok (.ireturn, 1) := by decide +kernel
theorem dX11_count_61 : decode cX11_count 61 = .ok (.iconst (-1), 1) := by decide +kernel
theorem dX11_count_62 : decode cX11_count 62 = .ok (.ireturn, 1) := by decide +kernel
theorem dX11_isLoud_0 : decode cX11_isLoud 0 = .ok (.bipush 8, 2) := by decide +kernel
theorem dX11_isLoud_2 : decode cX11_isLoud 2 = .ok (.iload_n 1, 1) := by decide +kernel
theorem dX11_isLoud_3 : decode cX11_isLoud 3 = .ok (.imul, 1) := by decide +kernel
theorem dX11_isLoud_4 : decode cX11_isLoud 4 = .ok (.iload_n 2, 1) := by decide +kernel
theorem dX11_isLoud_5 : decode cX11_isLoud 5 = .ok (.iadd, 1) := by decide +kernel
theorem dX11_isLoud_6 : decode cX11_isLoud 6 = .ok (.istore_n 3, 1) := by decide +kernel
theorem dX11_isLoud_7 : decode cX11_isLoud 7 = .ok (.aload_n 0, 1) := by decide +kernel
theorem dX11_isLoud_8 : decode cX11_isLoud 8 = .ok (.getfield 38, 3) := by decide +kernel
theorem dX11_isLoud_11 : decode cX11_isLoud 11 = .ok (.iload_n 3, 1) := by decide +kernel
theorem dX11_isLoud_12 : decode cX11_isLoud 12 = .ok (.iaload, 1) := by decide +kernel
theorem dX11_isLoud_13 : decode cX11_isLoud 13 = .ok (.iconst 1, 1) := by decide +kernel
theorem dX11_isLoud_14 : decode cX11_isLoud 14 = .ok (.if_icmp .ne 33, 3) := by decide +kernel
theorem dX11_isLoud_17 : decode cX11_isLoud 17 = .ok (.aload_n 0, 1) := by decide +kernel
theorem dX11_isLoud_18 : decode cX11_isLoud 18 = .ok (.iload_n 1, 1) := by decide +kernel
theorem dX11_isLoud_19 : decode cX11_isLoud 19 = .ok (.invokevirtual 193, 3) := by decide +kernel
theorem dX11_isLoud_22 : decode cX11_isLoud 22 = .ok (.aload_n 0, 1) := by decide +kernel
theorem dX11_isLoud_23 : decode cX11_isLoud 23 = .ok (.getfield 35, 3) := by decide +kernel
theorem dX11_isLoud_26 : decode cX11_isLoud 26 = .ok (.aload_n 0, 1) := by decide +kernel
theorem dX11_isLoud_27 : decode cX11_isLoud 27 = .ok (.getfield 44, 3) := by decide +kernel
theorem dX11_isLoud_30 : decode cX11_isLoud 30 = .ok (.iload_n 3, 1) := by decide +kernel
theorem dX11_isLoud_31 : decode cX11_isLoud 31 = .ok (.iaload, 1) := by decide +kernel
theorem dX11_isLoud_32 : decode cX11_isLoud 32 = .ok (.iconst 2, 1) := by decide +kernel
theorem dX11_isLoud_33 : decode cX11_isLoud 33 = .ok (.invokestatic 177, 3) := by decide +kernel
theorem dX11_isLoud_36 : decode cX11_isLoud 36 = .ok (.iaload, 1) := by decide +kernel
theorem dX11_isLoud_37 : decode cX11_isLoud 37 = .ok (.imul, 1) := by decide +kernel
theorem dX11_isLoud_38 : decode cX11_isLoud 38 = .ok (.bipush 10, 2) := by decide +kernel
theorem dX11_isLoud_40 : decode cX11_isLoud 40 = .ok (.if_icmp .lt 7, 3) := by decide +kernel
theorem dX11_isLoud_43 : decode cX11_isLoud 43 = .ok (.iconst 1, 1) := by decide +kernel
theorem dX11_isLoud_44 : decode cX11_isLoud 44 = .ok (.goto 4, 3) := by decide +kernel
theorem dX11_isLoud_47 : decode cX11_isLoud 47 = .ok (.iconst 0, 1) := by decide +kernel
theorem dX11_isLoud_48 : decode cX11_isLoud 48 = .ok (.ireturn, 1) := by decide +kernel
theorem dX11_hears_0 : decode cX11_hears 0 = .ok (.bipush 8, 2) := by decide +kernel
theorem dX11_hears_2 : decode cX11_hears 2 = .ok (.iload_n 1, 1) := by decide +kernel
theorem dX11_hears_3 : decode cX11_hears 3 = .ok (.imul, 1) := by decide +kernel
theorem dX11_hears_4 : decode cX11_hears 4 = .ok (.iload_n 2, 1) := by decide +kernel
theorem dX11_hears_5 : decode cX11_hears 5 = .ok (.iadd, 1) := by decide +kernel
theorem dX11_hears_6 : decode cX11_hears 6 = .ok (.istore 5, 2) := by decide +kernel
theorem dX11_hears_8 : decode cX11_hears 8 = .ok (.aload_n 0, 1) := by decide +kernel
theorem dX11_hears_9 : decode cX11_hears 9 = .ok (.iload_n 1, 1) := by decide +kernel
theorem dX11_hears_10 : decode cX11_hears 10 = .ok (.invokevirtual 193, 3) := by decide +kernel
theorem dX11_hears_13 : decode cX11_hears 13 = .ok (.iconst 2, 1) := by decide +kernel
theorem dX11_hears_14 : decode cX11_hears 14 = .ok (.iload_n 3, 1) := by decide +kernel
theorem dX11_hears_15 : decode cX11_hears 15 = .ok (.imul, 1) := by decide +kernel
theorem dX11_hears_16 : decode cX11_hears 16 = .ok (.iadd, 1) := by decide +kernel
theorem dX11_hears_17 : decode cX11_hears 17 = .ok (.aload_n 0, 1) := by decide +kernel
theorem dX11_hears_18 : decode cX11_hears 18 = .ok (.getfield 13, 3) := by decide +kernel
theorem dX11_hears_21 : decode cX11_hears 21 = .ok (.iconst 5, 1) := by decide +kernel
theorem dX11_hears_22 : decode cX11_hears 22 = .ok (.iload_n 1, 1) := by decide +kernel
theorem dX11_hears_23 : decode cX11_hears 23 = .ok (.imul, 1) := by decide +kernel
theorem dX11_hears_24 : decode cX11_hears 24 = .ok (.iconst 4, 1) := by decide +kernel
theorem dX11_hears_25 : decode cX11_hears 25 = .ok (.iadd, 1) := by decide +kernel
theorem dX11_hears_26 : decode cX11_hears 26 = .ok (.iaload, 1) := by decide +kernel
theorem dX11_hears_27 : decode cX11_hears 27 = .ok (.if_icmp .le 7, 3) := by decide +kernel
theorem dX11_hears_30 : decode cX11_hears 30 = .ok (.iconst 1, 1) := by decide +kernel
theorem dX11_hears_31 : decode cX11_hears 31 = .ok (.goto 4, 3) := by decide +kernel
theorem dX11_hears_34 : decode cX11_hears 34 = .ok (.iconst 0, 1) := by decide +kernel
theorem dX11_hears_35 : decode cX11_hears 35 = .ok (.istore 6, 2) := by decide +kernel
theorem dX11_hears_37 : decode cX11_hears 37 = .ok (.aload_n 0, 1) := by decide +kernel
theorem dX11_hears_38 : decode cX11_hears 38 = .ok (.getfield 38, 3) := by decide +kernel
theorem dX11_hears_41 : decode cX11_hears 41 = .ok (.iload 5, 2) := by decide +kernel
theorem dX11_hears_43 : decode cX11_hears 43 = .ok (.iaload, 1) := by decide +kernel
theorem dX11_hears_44 : decode cX11_hears 44 = .ok (.ifCond .eq 14, 3) := by decide +kernel
theorem dX11_hears_47 : decode cX11_hears 47 = .ok (.aload_n 0, 1) := by decide +kernel
theorem dX11_hears_48 : decode cX11_hears 48 = .ok (.getfield 38, 3) := by decide +kernel
theorem dX11_hears_51 : decode cX11_hears 51 = .ok (.iload 5, 2) := by decide +kernel
theorem dX11_hears_53 : decode cX11_hears 53 = .ok (.iaload, 1) := by decide +kernel
theorem dX11_hears_54 : decode cX11_hears 54 = .ok (.iconst 3, 1) := by decide +kernel
theorem dX11_hears_55 : decode cX11_hears 55 = .ok (.if_icmp .ne 31, 3) := by decide +kernel
theorem dX11_hears_58 : decode cX11_hears 58 = .ok (.aload_n 0, 1) := by decide +kernel
theorem dX11_hears_59 : decode cX11_hears 59 = .ok (.iload 5, 2) := by decide +kernel
theorem dX11_hears_61 : decode cX11_hears 61 = .ok (.iload 6, 2) := by decide +kernel
theorem dX11_hears_63 : decode cX11_hears 63 = .ok (.ifCond .eq 7, 3) := by decide +kernel
theorem dX11_hears_66 : decode cX11_hears 66 = .ok (.iconst 1, 1) := by decide +kernel
theorem dX11_hears_67 : decode cX11_hears 67 = .ok (.goto 4, 3) := by decide +kernel
theorem dX11_hears_70 : decode cX11_hears 70 = .ok (.iconst 2, 1) := by decide +kernel
theorem dX11_hears_71 : decode cX11_hears 71 = .ok (.aload_n 0, 1) := by decide +kernel
theorem dX11_hears_72 : decode cX11_hears 72 = .ok (.getfield 56, 3) := by decide +kernel
theorem dX11_hears_75 : decode cX11_hears 75 = .ok (.iload 4, 2) := by decide +kernel
theorem dX11_hears_77 : decode cX11_hears 77 = .ok (.iaload, 1) := by decide +kernel
theorem dX11_hears_78 : decode cX11_hears 78 = .ok (.iload 4, 2) := by decide +kernel
theorem dX11_hears_80 : decode cX11_hears 80 = .ok (.invokevirtual 183, 3) := by decide +kernel
theorem dX11_hears_83 : decode cX11_hears 83 = .ok (.goto 26, 3) := by decide +kernel
theorem dX11_hears_86 : decode cX11_hears 86 = .ok (.aload_n 0, 1) := by decide +kernel
theorem dX11_hears_87 : decode cX11_hears 87 = .ok (.getfield 38, 3) := by decide +kernel
theorem dX11_hears_90 : decode cX11_hears 90 = .ok (.iload 5, 2) := by decide +kernel
theorem dX11_hears_92 : decode cX11_hears 92 = .ok (.iaload, 1) := by decide +kernel
theorem dX11_hears_93 : decode cX11_hears 93 = .ok (.iconst 2, 1) := by decide +kernel
theorem dX11_hears_94 : decode cX11_hears 94 = .ok (.if_icmp .ne 15, 3) := by decide +kernel
theorem dX11_hears_97 : decode cX11_hears 97 = .ok (.iload 6, 2) := by decide +kernel
theorem dX11_hears_99 : decode cX11_hears 99 = .ok (.ifCond .eq 10, 3) := by decide +kernel
theorem dX11_hears_102 : decode cX11_hears 102 = .ok (.aload_n 0, 1) := by decide +kernel
theorem dX11_hears_103 : decode cX11_hears 103 = .ok (.iload 5, 2) := by decide +kernel
theorem dX11_hears_105 : decode cX11_hears 105 = .ok (.iconst 1, 1) := by decide +kernel
theorem dX11_hears_106 : decode cX11_hears 106 = .ok (.invokevirtual 196, 3) := by decide +kernel
theorem dX11_hears_109 : decode cX11_hears 109 = .ok (.aload_n 0, 1) := by decide +kernel
theorem dX11_hears_110 : decode cX11_hears 110 = .ok (.getfield 50, 3) := by decide +kernel
theorem dX11_hears_113 : decode cX11_hears 113 = .ok (.iload 5, 2) := by decide +kernel
theorem dX11_hears_115 : decode cX11_hears 115 = .ok (.aload_n 0, 1) := by decide +kernel
theorem dX11_hears_116 : decode cX11_hears 116 = .ok (.getfield 180, 3) := by decide +kernel
theorem dX11_hears_119 : decode cX11_hears 119 = .ok (.iastore, 1) := by decide +kernel
theorem dX11_hears_120 : decode cX11_hears 120 = .ok (.return_, 1) := by decide +kernel
theorem dX11_hourOf_0 : decode cX11_hourOf 0 = .ok (.iconst 0, 1) := by decide +kernel
theorem dX11_hourOf_1 : decode cX11_hourOf 1 = .ok (.istore_n 2, 1) := by decide +kernel
theorem dX11_hourOf_2 : decode cX11_hourOf 2 = .ok (.iload_n 2, 1) := by decide +kernel
theorem dX11_hourOf_3 : decode cX11_hourOf 3 = .ok (.aload_n 0, 1) := by decide +kernel
theorem dX11_hourOf_4 : decode cX11_hourOf 4 = .ok (.getfield 116, 3) := by decide +kernel
theorem dX11_hourOf_7 : decode cX11_hourOf 7 = .ok (.if_icmp .ge 119, 3) := by decide +kernel
theorem dX11_hourOf_10 : decode cX11_hourOf 10 = .ok (.aload_n 0, 1) := by decide +kernel
theorem dX11_hourOf_11 : decode cX11_hourOf 11 = .ok (.getfield 53, 3) := by decide +kernel
theorem dX11_hourOf_14 : decode cX11_hourOf 14 = .ok (.iload_n 2, 1) := by decide +kernel
theorem dX11_hourOf_15 : decode cX11_hourOf 15 = .ok (.aload_n 0, 1) := by decide +kernel
theorem dX11_hourOf_16 : decode cX11_hourOf 16 = .ok (.iload_n 2, 1) := by decide +kernel
theorem dX11_hourOf_17 : decode cX11_hourOf 17 = .ok (.iload_n 1, 1) := by decide +kernel
theorem dX11_hourOf_18 : decode cX11_hourOf 18 = .ok (.invokevirtual 200, 3) := by decide +kernel
theorem dX11_hourOf_21 : decode cX11_hourOf 21 = .ok (.bastore, 1) := by decide +kernel
theorem dX11_hourOf_22 : decode cX11_hourOf 22 = .ok (.aload_n 0, 1) := by decide +kernel
theorem dX11_hourOf_23 : decode cX11_hourOf 23 = .ok (.getfield 59, 3) := by decide +kernel
theorem dX11_hourOf_26 : decode cX11_hourOf 26 = .ok (.iload_n 2, 1) := by decide +kernel
theorem dX11_hourOf_27 : decode cX11_hourOf 27 = .ok (.aload_n 0, 1) := by decide +kernel
theorem dX11_hourOf_28 : decode cX11_hourOf 28 = .ok (.iload_n 2, 1) := by decide +kernel
theorem dX11_hourOf_29 : decode cX11_hourOf 29 = .ok (.aload_n 0, 1) := by decide +kernel
theorem dX11_hourOf_30 : decode cX11_hourOf 30 = .ok (.getfield 180, 3) := by decide +kernel
theorem dX11_hourOf_33 : decode cX11_hourOf 33 = .ok (.invokevirtual 153, 3) := by decide +kernel
theorem dX11_hourOf_36 : decode cX11_hourOf 36 = .ok (.iastore, 1) := by decide +kernel
theorem dX11_hourOf_37 : decode cX11_hourOf 37 = .ok (.aload_n 0, 1) := by decide +kernel
theorem dX11_hourOf_38 : decode cX11_hourOf 38 = .ok (.getfield 44, 3) := by decide +kernel
theorem dX11_hourOf_41 : decode cX11_hourOf 41 = .ok (.bipush 8, 2) := by decide +kernel
theorem dX11_hourOf_43 : decode cX11_hourOf 43 = .ok (.iload_n 2, 1) := by decide +kernel
theorem dX11_hourOf_44 : decode cX11_hourOf 44 = .ok (.imul, 1) := by decide +kernel
theorem dX11_hourOf_45 : decode cX11_hourOf 45 = .ok (.iload_n 1, 1) := by decide +kernel
theorem dX11_hourOf_46 : decode cX11_hourOf 46 = .ok (.iadd, 1) := by decide +kernel
theorem dX11_hourOf_47 : decode cX11_hourOf 47 = .ok (.iaload, 1) := by decide +kernel
theorem dX11_hourOf_48 : decode cX11_hourOf 48 = .ok (.istore_n 3, 1) := by decide +kernel
theorem dX11_hourOf_49 : decode cX11_hourOf 49 = .ok (.aload_n 0, 1) := by decide +kernel
theorem dX11_hourOf_50 : decode cX11_hourOf 50 = .ok (.getfield 13, 3) := by decide +kernel
theorem dX11_hourOf_53 : decode cX11_hourOf 53 = .ok (.iconst 5, 1) := by decide +kernel
theorem dX11_hourOf_54 : decode cX11_hourOf 54 = .ok (.iload_n 2, 1) := by decide +kernel
theorem dX11_hourOf_55 : decode cX11_hourOf 55 = .ok (.imul, 1) := by decide +kernel
theorem dX11_hourOf_56 : decode cX11_hourOf 56 = .ok (.iconst 1, 1) := by decide +kernel
theorem dX11_hourOf_57 : decode cX11_hourOf 57 = .ok (.iadd, 1) := by decide +kernel
theorem dX11_hourOf_58 : decode cX11_hourOf 58 = .ok (.iaload, 1) := by decide +kernel
theorem dX11_hourOf_59 : decode cX11_hourOf 59 = .ok (.istore 4, 2) := by decide +kernel
theorem dX11_hourOf_61 : decode cX11_hourOf 61 = .ok (.iload 4, 2) := by decide +kernel
theorem dX11_hourOf_63 : decode cX11_hourOf 63 = .ok (.ifCond .ne 7, 3) := by decide +kernel
theorem dX11_hourOf_66 : decode cX11_hourOf 66 = .ok (.iconst 0, 1) := by decide +kernel
theorem dX11_hourOf_67 : decode cX11_hourOf 67 = .ok (.goto 9, 3) := by decide +kernel
theorem dX11_hourOf_70 : decode cX11_hourOf 70 = .ok (.iload_n 3, 1) := by decide +kernel
theorem dX11_hourOf_71 : decode cX11_hourOf 71 = .ok (.iload 4, 2) := by decide +kernel
theorem dX11_hourOf_73 : decode cX11_hourOf 73 = .ok (.invokestatic 177, 3) := by decide +kernel
theorem dX11_hourOf_76 : decode cX11_hourOf 76 = .ok (.istore 5, 2) := by decide +kernel
theorem dX11_hourOf_78 : decode cX11_hourOf 78 = .ok (.aload_n 0, 1) := by decide +kernel
theorem dX11_hourOf_79 : decode cX11_hourOf 79 = .ok (.getfield 56, 3) := by decide +kernel
theorem dX11_hourOf_82 : decode cX11_hourOf 82 = .ok (.iload_n 2, 1) := by decide +kernel
theorem dX11_hourOf_83 : decode cX11_hourOf 83 = .ok (.iload 4, 2) := by decide +kernel
theorem dX11_hourOf_85 : decode cX11_hourOf 85 = .ok (.ifCond .ne 7, 3) := by decide +kernel
theorem dX11_hourOf_88 : decode cX11_hourOf 88 = .ok (.iload_n 3, 1) := by decide +kernel
theorem dX11_hourOf_89 : decode cX11_hourOf 89 = .ok (.goto 30, 3) := by decide +kernel
theorem dX11_hourOf_92 : decode cX11_hourOf 92 = .ok (.iload 5, 2) := by decide +kernel
theorem dX11_hourOf_94 : decode cX11_hourOf 94 = .ok (.bipush 9, 2) := by decide +kernel
theorem dX11_hourOf_96 : decode cX11_hourOf 96 = .ok (.if_icmp .ne 16, 3) := by decide +kernel
theorem dX11_hourOf_99 : decode cX11_hourOf 99 = .ok (.iload_n 3, 1) := by decide +kernel
theorem dX11_hourOf_100 : decode cX11_hourOf 100 = .ok (.bipush 9, 2) := by decide +kernel
theorem dX11_hourOf_102 : decode cX11_hourOf 102 = .ok (.iload 4, 2) := by decide +kernel
theorem dX11_hourOf_104 : decode cX11_hourOf 104 = .ok (.invokestatic 160, 3) := by decide +kernel
theorem dX11_hourOf_107 : decode cX11_hourOf 107 = .ok (.imul, 1) := by decide +kernel
theorem dX11_hourOf_108 : decode cX11_hourOf 108 = .ok (.isub, 1) := by decide +kernel
theorem dX11_hourOf_109 : decode cX11_hourOf 109 = .ok (.goto 10, 3) := by decide +kernel
theorem dX11_hourOf_112 : decode cX11_hourOf 112 = .ok (.iload_n 3, 1) := by decide +kernel
theorem dX11_hourOf_113 : decode cX11_hourOf 113 = .ok (.iload 4, 2) := by decide +kernel
theorem dX11_hourOf_115 : decode cX11_hourOf 115 = .ok (.invokestatic 160, 3) := by decide +kernel
theorem dX11_hourOf_118 : decode cX11_hourOf 118 = .ok (.iadd, 1) := by decide +kernel
theorem dX11_hourOf_119 : decode cX11_hourOf 119 = .ok (.iastore, 1) := by decide +kernel
theorem dX11_hourOf_120 : decode cX11_hourOf 120 = .ok (.iinc 2 1, 3) := by decide +kernel
theorem dX11_hourOf_123 : decode cX11_hourOf 123 = .ok (.goto (-121), 3) := by decide +kernel
theorem dX11_hourOf_126 : decode cX11_hourOf 126 = .ok (.iconst 0, 1) := by decide +kernel
theorem dX11_hourOf_127 : decode cX11_hourOf 127 = .ok (.istore_n 2, 1) := by decide +kernel
theorem dX11_hourOf_128 : decode cX11_hourOf 128 = .ok (.iload_n 2, 1) := by decide +kernel
theorem dX11_hourOf_129 : decode cX11_hourOf 129 = .ok (.aload_n 0, 1) := by decide +kernel
theorem dX11_hourOf_130 : decode cX11_hourOf 130 = .ok (.getfield 116, 3) := by decide +kernel
theorem dX11_hourOf_133 : decode cX11_hourOf 133 = .ok (.if_icmp .ge 170, 3) := by decide +kernel
theorem dX11_hourOf_136 : decode cX11_hourOf 136 = .ok (.iconst 0, 1) := by decide +kernel
theorem dX11_hourOf_137 : decode cX11_hourOf 137 = .ok (.istore_n 3, 1) := by decide +kernel
theorem dX11_hourOf_138 : decode cX11_hourOf 138 = .ok (.bipush (-4), 2) := by decide +kernel
theorem dX11_hourOf_140 : decode cX11_hourOf 140 = .ok (.istore 4, 2) := by decide +kernel
theorem dX11_hourOf_142 : decode cX11_hourOf 142 = .ok (.aload_n 0, 1) := by decide +kernel
theorem dX11_hourOf_143 : decode cX11_hourOf 143 = .ok (.getfield 116, 3) := by decide +kernel
theorem dX11_hourOf_146 : decode cX11_hourOf 146 = .ok (.iconst 1, 1) := by decide +kernel
theorem dX11_hourOf_147 : decode cX11_hourOf 147 = .ok (.isub, 1) := by decide +kernel
theorem dX11_hourOf_148 : decode cX11_hourOf 148 = .ok (.istore 5, 2) := by decide +kernel
theorem dX11_hourOf_150 : decode cX11_hourOf 150 = .ok (.iload 5, 2) := by decide +kernel
theorem dX11_hourOf_152 : decode cX11_hourOf 152 = .ok (.ifCond .lt 75, 3) := by decide +kernel
theorem dX11_hourOf_155 : decode cX11_hourOf 155 = .ok (.iload 5, 2) := by decide +kernel
theorem dX11_hourOf_157 : decode cX11_hourOf 157 = .ok (.iload_n 2, 1) := by decide +kernel
theorem dX11_hourOf_158 : decode cX11_hourOf 158 = .ok (.if_icmp .eq 33, 3) := by decide +kernel
theorem dX11_hourOf_161 : decode cX11_hourOf 161 = .ok (.aload_n 0, 1) := by decide +kernel
theorem dX11_hourOf_162 : decode cX11_hourOf 162 = .ok (.getfield 53, 3) := by decide +kernel
theorem dX11_hourOf_165 : decode cX11_hourOf 165 = .ok (.iload 5, 2) := by decide +kernel
theorem dX11_hourOf_167 : decode cX11_hourOf 167 = .ok (.baload, 1) := by decide +kernel
theorem dX11_hourOf_168 : decode cX11_hourOf 168 = .ok (.ifCond .eq 23, 3) := by decide +kernel
theorem dX11_hourOf_171 : decode cX11_hourOf 171 = .ok (.aload_n 0, 1) := by decide +kernel
theorem dX11_hourOf_172 : decode cX11_hourOf 172 = .ok (.getfield 59, 3) := by decide +kernel
theorem dX11_hourOf_175 : decode cX11_hourOf 175 = .ok (.iload 5, 2) := by decide +kernel
theorem dX11_hourOf_177 : decode cX11_hourOf 177 = .ok (.iaload, 1) := by decide +kernel
theorem dX11_hourOf_178 : decode cX11_hourOf 178 = .ok (.aload_n 0, 1) := by decide +kernel
theorem dX11_hourOf_179 : decode cX11_hourOf 179 = .ok (.getfield 59, 3) := by decide +kernel
theorem dX11_hourOf_182 : decode cX11_hourOf 182 = .ok (.iload_n 2, 1) := by decide +kernel
theorem dX11_hourOf_183 : decode cX11_hourOf 183 = .ok (.iaload, 1) := by decide +kernel
theorem dX11_hourOf_184 : decode cX11_hourOf 184 = .ok (.if_icmp .ne 7, 3) := by decide +kernel
theorem dX11_hourOf_187 : decode cX11_hourOf 187 = .ok (.iconst 1, 1) := by decide +kernel
theorem dX11_hourOf_188 : decode cX11_hourOf 188 = .ok (.goto 4, 3) := by decide +kernel
theorem dX11_hourOf_191 : decode cX11_hourOf 191 = .ok (.iconst 0, 1) := by decide +kernel
theorem dX11_hourOf_192 : decode cX11_hourOf 192 = .ok (.istore 6, 2) := by decide +kernel
theorem dX11_hourOf_194 : decode cX11_hourOf 194 = .ok (.iload_n 3, 1) := by decide +kernel
theorem dX11_hourOf_195 : decode cX11_hourOf 195 = .ok (.iload 6, 2) := by decide +kernel
theorem dX11_hourOf_197 : decode cX11_hourOf 197 = .ok (.ifCond .eq 7, 3) := by decide +kernel
theorem dX11_hourOf_200 : decode cX11_hourOf 200 = .ok (.iconst 1, 1) := by decide +kernel
theorem dX11_hourOf_201 : decode cX11_hourOf 201 = .ok (.goto 4, 3) := by decide +kernel
theorem dX11_hourOf_204 : decode cX11_hourOf 204 = .ok (.iconst 0, 1) := by decide +kernel
theorem dX11_hourOf_205 : decode cX11_hourOf 205 = .ok (.iadd, 1) := by decide +kernel
theorem dX11_hourOf_206 : decode cX11_hourOf 206 = .ok (.istore_n 3, 1) := by decide +kernel
theorem dX11_hourOf_207 : decode cX11_hourOf 207 = .ok (.iload 6, 2) := by decide +kernel
theorem dX11_hourOf_209 : decode cX11_hourOf 209 = .ok (.ifCond .eq 8, 3) := by decide +kernel
theorem dX11_hourOf_212 : decode cX11_hourOf 212 = .ok (.iload 5, 2) := by decide +kernel
theorem dX11_hourOf_214 : decode cX11_hourOf 214 = .ok (.goto 5, 3) := by decide +kernel
theorem dX11_hourOf_217 : decode cX11_hourOf 217 = .ok (.iload 4, 2) := by decide +kernel
theorem dX11_hourOf_219 : decode cX11_hourOf 219 = .ok (.istore 4, 2) := by decide +kernel
theorem dX11_hourOf_221 : decode cX11_hourOf 221 = .ok (.iinc 5 (-1), 3) := by decide +kernel
theorem dX11_hourOf_224 : decode cX11_hourOf 224 = .ok (.goto (-74), 3) := by decide +kernel
theorem dX11_hourOf_227 : decode cX11_hourOf 227 = .ok (.bipush 8, 2) := by decide +kernel
theorem dX11_hourOf_229 : decode cX11_hourOf 229 = .ok (.iload_n 2, 1) := by decide +kernel
theorem dX11_hourOf_230 : decode cX11_hourOf 230 = .ok (.imul, 1) := by decide +kernel
theorem dX11_hourOf_231 : decode cX11_hourOf 231 = .ok (.iload_n 1, 1) := by decide +kernel
theorem dX11_hourOf_232 : decode cX11_hourOf 232 = .ok (.iadd, 1) := by decide +kernel
theorem dX11_hourOf_233 : decode cX11_hourOf 233 = .ok (.istore 5, 2) := by decide +kernel
theorem dX11_hourOf_235 : decode cX11_hourOf 235 = .ok (.iload_n 3, 1) := by decide +kernel
theorem dX11_hourOf_236 : decode cX11_hourOf 236 = .ok (.ifCond .le 15, 3) := by decide +kernel
theorem dX11_hourOf_239 : decode cX11_hourOf 239 = .ok (.aload_n 0, 1) := by decide +kernel
theorem dX11_hourOf_240 : decode cX11_hourOf 240 = .ok (.iload_n 2, 1) := by decide +kernel
theorem dX11_hourOf_241 : decode cX11_hourOf 241 = .ok (.iload_n 1, 1) := by decide +kernel
theorem dX11_hourOf_242 : decode cX11_hourOf 242 = .ok (.iload_n 3, 1) := by decide +kernel
theorem dX11_hourOf_243 : decode cX11_hourOf 243 = .ok (.iload 4, 2) := by decide +kernel
theorem dX11_hourOf_245 : decode cX11_hourOf 245 = .ok (.invokevirtual 204, 3) := by decide +kernel
theorem dX11_hourOf_248 : decode cX11_hourOf 248 = .ok (.goto 49, 3) := by decide +kernel
theorem dX11_hourOf_251 : decode cX11_hourOf 251 = .ok (.aload_n 0, 1) := by decide +kernel
theorem dX11_hourOf_252 : decode cX11_hourOf 252 = .ok (.getfield 38, 3) := by decide +kernel
theorem dX11_hourOf_255 : decode cX11_hourOf 255 = .ok (.iload 5, 2) := by decide +kernel
theorem dX11_hourOf_257 : decode cX11_hourOf 257 = .ok (.iaload, 1) := by decide +kernel
theorem dX11_hourOf_258 : decode cX11_hourOf 258 = .ok (.iconst 1, 1) := by decide +kernel
theorem dX11_hourOf_259 : decode cX11_hourOf 259 = .ok (.if_icmp .eq 14, 3) := by decide +kernel
theorem dX11_hourOf_262 : decode cX11_hourOf 262 = .ok (.aload_n 0, 1) := by decide +kernel
theorem dX11_hourOf_263 : decode cX11_hourOf 263 = .ok (.getfield 38, 3) := by decide +kernel
theorem dX11_hourOf_266 : decode cX11_hourOf 266 = .ok (.iload 5, 2) := by decide +kernel
theorem dX11_hourOf_268 : decode cX11_hourOf 268 = .ok (.iaload, 1) := by decide +kernel
theorem dX11_hourOf_269 : decode cX11_hourOf 269 = .ok (.iconst 2, 1) := by decide +kernel
theorem dX11_hourOf_270 : decode cX11_hourOf 270 = .ok (.if_icmp .ne 27, 3) := by decide +kernel
theorem dX11_hourOf_273 : decode cX11_hourOf 273 = .ok (.aload_n 0, 1) := by decide +kernel
theorem dX11_hourOf_274 : decode cX11_hourOf 274 = .ok (.getfield 180, 3) := by decide +kernel
theorem dX11_hourOf_277 : decode cX11_hourOf 277 = .ok (.aload_n 0, 1) := by decide +kernel
theorem dX11_hourOf_278 : decode cX11_hourOf 278 = .ok (.getfield 50, 3) := by decide +kernel
theorem dX11_hourOf_281 : decode cX11_hourOf 281 = .ok (.iload 5, 2) := by decide +kernel
theorem dX11_hourOf_283 : decode cX11_hourOf 283 = .ok (.iaload, 1) := by decide +kernel
theorem dX11_hourOf_284 : decode cX11_hourOf 284 = .ok (.isub, 1) := by decide +kernel
theorem dX11_hourOf_285 : decode cX11_hourOf 285 = .ok (.bipush 48, 2) := by decide +kernel
theorem dX11_hourOf_287 : decode cX11_hourOf 287 = .ok (.if_icmp .lt 10, 3) := by decide +kernel
theorem dX11_hourOf_290 : decode cX11_hourOf 290 = .ok (.aload_n 0, 1) := by decide +kernel
theorem dX11_hourOf_291 : decode cX11_hourOf 291 = .ok (.iload 5, 2) := by decide +kernel
theorem dX11_hourOf_293 : decode cX11_hourOf 293 = .ok (.iconst 3, 1) := by decide +kernel
theorem dX11_hourOf_294 : decode cX11_hourOf 294 = .ok (.invokevirtual 196, 3) := by decide +kernel
theorem dX11_hourOf_297 : decode cX11_hourOf 297 = .ok (.iinc 2 1, 3) := by decide +kernel
theorem dX11_hourOf_300 : decode cX11_hourOf 300 = .ok (.goto (-172), 3) := by decide +kernel
theorem dX11_hourOf_303 : decode cX11_hourOf 303 = .ok (.return_, 1) := by decide +kernel
theorem dX11_hour_0 : decode cX11_hour 0 = .ok (.iconst 0, 1) := by decide +kernel
theorem dX11_hour_1 : decode cX11_hour 1 = .ok (.istore_n 1, 1) := by decide +kernel
theorem dX11_hour_2 : decode cX11_hour 2 = .ok (.iload_n 1, 1) := by decide +kernel
theorem dX11_hour_3 : decode cX11_hour 3 = .ok (.aload_n 0, 1) := by decide +kernel
theorem dX11_hour_4 : decode cX11_hour 4 = .ok (.getfield 157, 3) := by decide +kernel
theorem dX11_hour_7 : decode cX11_hour 7 = .ok (.if_icmp .ge 14, 3) := by decide +kernel
theorem dX11_hour_10 : decode cX11_hour 10 = .ok (.aload_n 0, 1) := by decide +kernel
theorem dX11_hour_11 : decode cX11_hour 11 = .ok (.iload_n 1, 1) := by decide +kernel
theorem dX11_hour_12 : decode cX11_hour 12 = .ok (.invokevirtual 207, 3) := by decide +kernel
theorem dX11_hour_15 : decode cX11_hour 15 = .ok (.iinc 1 1, 3) := by decide +kernel
theorem dX11_hour_18 : decode cX11_hour 18 = .ok (.goto (-16), 3) := by decide +kernel
theorem dX11_hour_21 : decode cX11_hour 21 = .ok (.aload_n 0, 1) := by decide +kernel
theorem dX11_hour_22 : decode cX11_hour 22 = .ok (.dup, 1) := by decide +kernel
theorem dX11_hour_23 : decode cX11_hour 23 = .ok (.getfield 180, 3) := by decide +kernel
theorem dX11_hour_26 : decode cX11_hour 26 = .ok (.iconst 1, 1) := by decide +kernel
theorem dX11_hour_27 : decode cX11_hour 27 = .ok (.iadd, 1) := by decide +kernel
theorem dX11_hour_28 : decode cX11_hour 28 = .ok (.putfield 180, 3) := by decide +kernel
theorem dX11_hour_31 : decode cX11_hour 31 = .ok (.return_, 1) := by decide +kernel
theorem dX11_hours_0 : decode cX11_hours 0 = .ok (.iload_n 1, 1) := by decide +kernel
theorem dX11_hours_1 : decode cX11_hours 1 = .ok (.i2l, 1) := by decide +kernel
theorem dX11_hours_2 : decode cX11_hours 2 = .ok (.lconst 1, 1) := by decide +kernel
theorem dX11_hours_3 : decode cX11_hours 3 = .ok (.ldc2_w 211, 3) := by decide +kernel
theorem dX11_hours_6 : decode cX11_hours 6 = .ok (.invokestatic 120, 3) := by decide +kernel
theorem dX11_hours_9 : decode cX11_hours 9 = .ok (.ifCond .ne 5, 3) := by decide +kernel
theorem dX11_hours_12 : decode cX11_hours 12 = .ok (.iconst (-1), 1) := by decide +kernel
theorem dX11_hours_13 : decode cX11_hours 13 = .ok (.ireturn, 1) := by decide +kernel
theorem dX11_hours_14 : decode cX11_hours 14 = .ok (.aload_n 0, 1) := by decide +kernel
theorem dX11_hours_15 : decode cX11_hours 15 = .ok (.getfield 180, 3) := by decide +kernel
theorem dX11_hours_18 : decode cX11_hours 18 = .ok (.iload_n 1, 1) := by decide +kernel
theorem dX11_hours_19 : decode cX11_hours 19 = .ok (.iadd, 1) := by decide +kernel
theorem dX11_hours_20 : decode cX11_hours 20 = .ok (.sipush 9999, 3) := by decide +kernel
theorem dX11_hours_23 : decode cX11_hours 23 = .ok (.if_icmp .le 6, 3) := by decide +kernel
theorem dX11_hours_26 : decode cX11_hours 26 = .ok (.bipush (-2), 2) := by decide +kernel
theorem dX11_hours_28 : decode cX11_hours 28 = .ok (.ireturn, 1) := by decide +kernel
theorem dX11_hours_29 : decode cX11_hours 29 = .ok (.iconst 0, 1) := by decide +kernel
theorem dX11_hours_30 : decode cX11_hours 30 = .ok (.istore_n 2, 1) := by decide +kernel
theorem dX11_hours_31 : decode cX11_hours 31 = .ok (.iload_n 2, 1) := by decide +kernel
theorem dX11_hours_32 : decode cX11_hours 32 = .ok (.iload_n 1, 1) := by decide +kernel
theorem dX11_hours_33 : decode cX11_hours 33 = .ok (.if_icmp .ge 13, 3) := by decide +kernel
theorem dX11_hours_36 : decode cX11_hours 36 = .ok (.aload_n 0, 1) := by decide +kernel
theorem dX11_hours_37 : decode cX11_hours 37 = .ok (.invokevirtual 213, 3) := by decide +kernel
theorem dX11_hours_40 : decode cX11_hours 40 = .ok (.iinc 2 1, 3) := by decide +kernel
theorem dX11_hours_43 : decode cX11_hours 43 = .ok (.goto (-12), 3) := by decide +kernel
theorem dX11_hours_46 : decode cX11_hours 46 = .ok (.aload_n 0, 1) := by decide +kernel
theorem dX11_hours_47 : decode cX11_hours 47 = .ok (.getfield 180, 3) := by decide +kernel
theorem dX11_hours_50 : decode cX11_hours 50 = .ok (.ireturn, 1) := by decide +kernel
theorem dX11_stateMany_0 : decode cX11_stateMany 0 = .ok (.iconst 0, 1) := by decide +kernel
theorem dX11_stateMany_1 : decode cX11_stateMany 1 = .ok (.istore_n 3, 1) := by decide +kernel
theorem dX11_stateMany_2 : decode cX11_stateMany 2 = .ok (.iconst 0, 1) := by decide +kernel
theorem dX11_stateMany_3 : decode cX11_stateMany 3 = .ok (.istore 4, 2) := by decide +kernel
theorem dX11_stateMany_5 : decode cX11_stateMany 5 = .ok (.iload 4, 2) := by decide +kernel
theorem dX11_stateMany_7 : decode cX11_stateMany 7 = .ok (.aload_n 0, 1) := by decide +kernel
theorem dX11_stateMany_8 : decode cX11_stateMany 8 = .ok (.getfield 116, 3) := by decide +kernel
theorem dX11_stateMany_11 : decode cX11_stateMany 11 = .ok (.if_icmp .ge 33, 3) := by decide +kernel
theorem dX11_stateMany_14 : decode cX11_stateMany 14 = .ok (.iload_n 3, 1) := by decide +kernel
theorem dX11_stateMany_15 : decode cX11_stateMany 15 = .ok (.aload_n 0, 1) := by decide +kernel
theorem dX11_stateMany_16 : decode cX11_stateMany 16 = .ok (.getfield 38, 3) := by decide +kernel
theorem dX11_stateMany_19 : decode cX11_stateMany 19 = .ok (.bipush 8, 2) := by decide +kernel
theorem dX11_stateMany_21 : decode cX11_stateMany 21 = .ok (.iload 4, 2) := by decide +kernel
theorem dX11_stateMany_23 : decode cX11_stateMany 23 = .ok (.imul, 1) := by decide +kernel
theorem dX11_stateMany_24 : decode cX11_stateMany 24 = .ok (.iload_n 1, 1) := by decide +kernel
theorem dX11_stateMany_25 : decode cX11_stateMany 25 = .ok (.iadd, 1) := by decide +kernel
theorem dX11_stateMany_26 : decode cX11_stateMany 26 = .ok (.iaload, 1) := by decide +kernel
theorem dX11_stateMany_27 : decode cX11_stateMany 27 = .ok (.iload_n 2, 1) := by decide +kernel
theorem dX11_stateMany_28 : decode cX11_stateMany 28 = .ok (.if_icmp .ne 7, 3) := by decide +kernel
theorem dX11_stateMany_31 : decode cX11_stateMany 31 = .ok (.iconst 1, 1) := by decide +kernel
theorem dX11_stateMany_32 : decode cX11_stateMany 32 = .ok (.goto 4, 3) := by decide +kernel
theorem dX11_stateMany_35 : decode cX11_stateMany 35 = .ok (.iconst 0, 1) := by decide +kernel
theorem dX11_stateMany_36 : decode cX11_stateMany 36 = .ok (.iadd, 1) := by decide +kernel
theorem dX11_stateMany_37 : decode cX11_stateMany 37 = .ok (.istore_n 3, 1) := by decide +kernel
theorem dX11_stateMany_38 : decode cX11_stateMany 38 = .ok (.iinc 4 1, 3) := by decide +kernel
theorem dX11_stateMany_41 : decode cX11_stateMany 41 = .ok (.goto (-36), 3) := by decide +kernel
theorem dX11_stateMany_44 : decode cX11_stateMany 44 = .ok (.iload_n 3, 1) := by decide +kernel
theorem dX11_stateMany_45 : decode cX11_stateMany 45 = .ok (.ireturn, 1) := by decide +kernel
theorem dX11_reach_0 : decode cX11_reach 0 = .ok (.aload_n 0, 1) := by decide +kernel
theorem dX11_reach_1 : decode cX11_reach 1 = .ok (.iload_n 1, 1) := by decide +kernel
theorem dX11_reach_2 : decode cX11_reach 2 = .ok (.invokevirtual 174, 3) := by decide +kernel
theorem dX11_reach_5 : decode cX11_reach 5 = .ok (.ifCond .eq 24, 3) := by decide +kernel
theorem dX11_reach_8 : decode cX11_reach 8 = .ok (.iload_n 2, 1) := by decide +kernel
theorem dX11_reach_9 : decode cX11_reach 9 = .ok (.i2l, 1) := by decide +kernel
theorem dX11_reach_10 : decode cX11_reach 10 = .ok (.lconst 0, 1) := by decide +kernel
theorem dX11_reach_11 : decode cX11_reach 11 = .ok (.ldc2_w 216, 3) := by decide +kernel
theorem dX11_reach_14 : decode cX11_reach 14 = .ok (.invokestatic 120, 3) := by decide +kernel
theorem dX11_reach_17 : decode cX11_reach 17 = .ok (.ifCond .eq 12, 3) := by decide +kernel
theorem dX11_reach_20 : decode cX11_reach 20 = .ok (.aload_n 0, 1) := by decide +kernel
theorem dX11_reach_21 : decode cX11_reach 21 = .ok (.iload_n 1, 1) := by decide +kernel
theorem dX11_reach_22 : decode cX11_reach 22 = .ok (.iload_n 2, 1) := by decide +kernel
theorem dX11_reach_23 : decode cX11_reach 23 = .ok (.invokevirtual 218, 3) := by decide +kernel
theorem dX11_reach_26 : decode cX11_reach 26 = .ok (.goto 4, 3) := by decide +kernel
theorem dX11_reach_29 : decode cX11_reach 29 = .ok (.iconst (-1), 1) := by decide +kernel
theorem dX11_reach_30 : decode cX11_reach 30 = .ok (.ireturn, 1) := by decide +kernel
theorem dX11_harmOf_0 : decode cX11_harmOf 0 = .ok (.iconst 0, 1) := by decide +kernel
theorem dX11_harmOf_1 : decode cX11_harmOf 1 = .ok (.istore_n 2, 1) := by decide +kernel
theorem dX11_harmOf_2 : decode cX11_harmOf 2 = .ok (.iconst 0, 1) := by decide +kernel
theorem dX11_harmOf_3 : decode cX11_harmOf 3 = .ok (.istore_n 3, 1) := by decide +kernel
theorem dX11_harmOf_4 : decode cX11_harmOf 4 = .ok (.iload_n 3, 1) := by decide +kernel
theorem dX11_harmOf_5 : decode cX11_harmOf 5 = .ok (.aload_n 0, 1) := by decide +kernel
theorem dX11_harmOf_6 : decode cX11_harmOf 6 = .ok (.getfield 116, 3) := by decide +kernel
theorem dX11_harmOf_9 : decode cX11_harmOf 9 = .ok (.if_icmp .ge 61, 3) := by decide +kernel
theorem dX11_harmOf_12 : decode cX11_harmOf 12 = .ok (.aload_n 0, 1) := by decide +kernel
theorem dX11_harmOf_13 : decode cX11_harmOf 13 = .ok (.getfield 16, 3) := by decide +kernel
theorem dX11_harmOf_16 : decode cX11_harmOf 16 = .ok (.iload_n 1, 1) := by decide +kernel
theorem dX11_harmOf_17 : decode cX11_harmOf 17 = .ok (.iaload, 1) := by decide +kernel
theorem dX11_harmOf_18 : decode cX11_harmOf 18 = .ok (.iconst 3, 1) := by decide +kernel
theorem dX11_harmOf_19 : decode cX11_harmOf 19 = .ok (.if_icmp .eq 51, 3) := by decide +kernel
theorem dX11_harmOf_22 : decode cX11_harmOf 22 = .ok (.iload_n 2, 1) := by decide +kernel
theorem dX11_harmOf_23 : decode cX11_harmOf 23 = .ok (.aload_n 0, 1) := by decide +kernel
theorem dX11_harmOf_24 : decode cX11_harmOf 24 = .ok (.getfield 38, 3) := by decide +kernel
theorem dX11_harmOf_27 : decode cX11_harmOf 27 = .ok (.bipush 8, 2) := by decide +kernel
theorem dX11_harmOf_29 : decode cX11_harmOf 29 = .ok (.iload_n 3, 1) := by decide +kernel
theorem dX11_harmOf_30 : decode cX11_harmOf 30 = .ok (.imul, 1) := by decide +kernel
theorem dX11_harmOf_31 : decode cX11_harmOf 31 = .ok (.iload_n 1, 1) := by decide +kernel
theorem dX11_harmOf_32 : decode cX11_harmOf 32 = .ok (.iadd, 1) := by decide +kernel
theorem dX11_harmOf_33 : decode cX11_harmOf 33 = .ok (.iaload, 1) := by decide +kernel
theorem dX11_harmOf_34 : decode cX11_harmOf 34 = .ok (.iconst 1, 1) := by decide +kernel
theorem dX11_harmOf_35 : decode cX11_harmOf 35 = .ok (.if_icmp .ne 26, 3) := by decide +kernel
theorem dX11_harmOf_38 : decode cX11_harmOf 38 = .ok (.aload_n 0, 1) := by decide +kernel
theorem dX11_harmOf_39 : decode cX11_harmOf 39 = .ok (.getfield 35, 3) := by decide +kernel
theorem dX11_harmOf_42 : decode cX11_harmOf 42 = .ok (.aload_n 0, 1) := by decide +kernel
theorem dX11_harmOf_43 : decode cX11_harmOf 43 = .ok (.getfield 44, 3) := by decide +kernel
theorem dX11_harmOf_46 : decode cX11_harmOf 46 = .ok (.bipush 8, 2) := by decide +kernel
theorem dX11_harmOf_48 : decode cX11_harmOf 48 = .ok (.iload_n 3, 1) := by decide +kernel
theorem dX11_harmOf_49 : decode cX11_harmOf 49 = .ok (.imul, 1) := by decide +kernel
theorem dX11_harmOf_50 : decode cX11_harmOf 50 = .ok (.iload_n 1, 1) := by decide +kernel
theorem dX11_harmOf_51 : decode cX11_harmOf 51 = .ok (.iadd, 1) := by decide +kernel
theorem dX11_harmOf_52 : decode cX11_harmOf 52 = .ok (.iaload, 1) := by decide +kernel
theorem dX11_harmOf_53 : decode cX11_harmOf 53 = .ok (.iconst 2, 1) := by decide +kernel
theorem dX11_harmOf_54 : decode cX11_harmOf 54 = .ok (.invokestatic 177, 3) := by decide +kernel
theorem dX11_harmOf_57 : decode cX11_harmOf 57 = .ok (.iaload, 1) := by decide +kernel
theorem dX11_harmOf_58 : decode cX11_harmOf 58 = .ok (.goto 4, 3) := by decide +kernel
theorem dX11_harmOf_61 : decode cX11_harmOf 61 = .ok (.iconst 0, 1) := by decide +kernel
theorem dX11_harmOf_62 : decode cX11_harmOf 62 = .ok (.iadd, 1) := by decide +kernel
theorem dX11_harmOf_63 : decode cX11_harmOf 63 = .ok (.istore_n 2, 1) := by decide +kernel
theorem dX11_harmOf_64 : decode cX11_harmOf 64 = .ok (.iinc 3 1, 3) := by decide +kernel
theorem dX11_harmOf_67 : decode cX11_harmOf 67 = .ok (.goto (-63), 3) := by decide +kernel
theorem dX11_harmOf_70 : decode cX11_harmOf 70 = .ok (.iload_n 2, 1) := by decide +kernel
theorem dX11_harmOf_71 : decode cX11_harmOf 71 = .ok (.ireturn, 1) := by decide +kernel
theorem dX11_harm_0 : decode cX11_harm 0 = .ok (.aload_n 0, 1) := by decide +kernel
theorem dX11_harm_1 : decode cX11_harm 1 = .ok (.iload_n 1, 1) := by decide +kernel
theorem dX11_harm_2 : decode cX11_harm 2 = .ok (.invokevirtual 174, 3) := by decide +kernel
theorem dX11_harm_5 : decode cX11_harm 5 = .ok (.ifCond .eq 11, 3) := by decide +kernel
theorem dX11_harm_8 : decode cX11_harm 8 = .ok (.aload_n 0, 1) := by decide +kernel
theorem dX11_harm_9 : decode cX11_harm 9 = .ok (.iload_n 1, 1) := by decide +kernel
theorem dX11_harm_10 : decode cX11_harm 10 = .ok (.invokevirtual 221, 3) := by decide +kernel
theorem dX11_harm_13 : decode cX11_harm 13 = .ok (.goto 4, 3) := by decide +kernel
theorem dX11_harm_16 : decode cX11_harm 16 = .ok (.iconst (-1), 1) := by decide +kernel
theorem dX11_harm_17 : decode cX11_harm 17 = .ok (.ireturn, 1) := by decide +kernel
theorem dX11_denies_0 : decode cX11_denies 0 = .ok (.iload_n 2, 1) := by decide +kernel
theorem dX11_denies_1 : decode cX11_denies 1 = .ok (.ifCond .ne 7, 3) := by decide +kernel
theorem dX11_denies_4 : decode cX11_denies 4 = .ok (.iconst 3, 1) := by decide +kernel
theorem dX11_denies_5 : decode cX11_denies 5 = .ok (.goto 13, 3) := by decide +kernel
theorem dX11_denies_8 : decode cX11_denies 8 = .ok (.iload_n 2, 1) := by decide +kernel
theorem dX11_denies_9 : decode cX11_denies 9 = .ok (.iconst 1, 1) := by decide +kernel
theorem dX11_denies_10 : decode cX11_denies 10 = .ok (.if_icmp .ne 7, 3) := by decide +kernel
theorem dX11_denies_13 : decode cX11_denies 13 = .ok (.iconst 5, 1) := by decide +kernel
theorem dX11_denies_14 : decode cX11_denies 14 = .ok (.goto 4, 3) := by decide +kernel
theorem dX11_denies_17 : decode cX11_denies 17 = .ok (.iconst 1, 1) := by decide +kernel
theorem dX11_denies_18 : decode cX11_denies 18 = .ok (.istore_n 3, 1) := by decide +kernel
theorem dX11_denies_19 : decode cX11_denies 19 = .ok (.iconst 0, 1) := by decide +kernel
theorem dX11_denies_20 : decode cX11_denies 20 = .ok (.istore 4, 2) := by decide +kernel
theorem dX11_denies_22 : decode cX11_denies 22 = .ok (.iconst 0, 1) := by decide +kernel
theorem dX11_denies_23 : decode cX11_denies 23 = .ok (.istore 5, 2) := by decide +kernel
theorem dX11_denies_25 : decode cX11_denies 25 = .ok (.iload 5, 2) := by decide +kernel
theorem dX11_denies_27 : decode cX11_denies 27 = .ok (.aload_n 0, 1) := by decide +kernel
theorem dX11_denies_28 : decode cX11_denies 28 = .ok (.getfield 116, 3) := by decide +kernel
theorem dX11_denies_31 : decode cX11_denies 31 = .ok (.if_icmp .ge 175, 3) := by decide +kernel
theorem dX11_denies_34 : decode cX11_denies 34 = .ok (.bipush 8, 2) := by decide +kernel
theorem dX11_denies_36 : decode cX11_denies 36 = .ok (.iload 5, 2) := by decide +kernel
theorem dX11_denies_38 : decode cX11_denies 38 = .ok (.imul, 1) := by decide +kernel
theorem dX11_denies_39 : decode cX11_denies 39 = .ok (.iload_n 1, 1) := by decide +kernel
theorem dX11_denies_40 : decode cX11_denies 40 = .ok (.iadd, 1) := by decide +kernel
theorem dX11_denies_41 : decode cX11_denies 41 = .ok (.istore 6, 2) := by decide +kernel
theorem dX11_denies_43 : decode cX11_denies 43 = .ok (.aload_n 0, 1) := by decide +kernel
theorem dX11_denies_44 : decode cX11_denies 44 = .ok (.getfield 38, 3) := by decide +kernel
theorem dX11_denies_47 : decode cX11_denies 47 = .ok (.iload 6, 2) := by decide +kernel
theorem dX11_denies_49 : decode cX11_denies 49 = .ok (.iaload, 1) := by decide +kernel
theorem dX11_denies_50 : decode cX11_denies 50 = .ok (.istore 7, 2) := by decide +kernel
theorem dX11_denies_52 : decode cX11_denies 52 = .ok (.iload 7, 2) := by decide +kernel
theorem dX11_denies_54 : decode cX11_denies 54 = .ok (.ifCond .eq 9, 3) := by decide +kernel
theorem dX11_denies_57 : decode cX11_denies 57 = .ok (.iload 7, 2) := by decide +kernel
theorem dX11_denies_59 : decode cX11_denies 59 = .ok (.iconst 3, 1) := by decide +kernel
theorem dX11_denies_60 : decode cX11_denies 60 = .ok (.if_icmp .ne 7, 3) := by decide +kernel
theorem dX11_denies_63 : decode cX11_denies 63 = .ok (.iconst 1, 1) := by decide +kernel
theorem dX11_denies_64 : decode cX11_denies 64 = .ok (.goto 4, 3) := by decide +kernel
theorem dX11_denies_67 : decode cX11_denies 67 = .ok (.iconst 0, 1) := by decide +kernel
theorem dX11_denies_68 : decode cX11_denies 68 = .ok (.istore 8, 2) := by decide +kernel
theorem dX11_denies_70 : decode cX11_denies 70 = .ok (.aload_n 0, 1) := by decide +kernel
theorem dX11_denies_71 : decode cX11_denies 71 = .ok (.iload 5, 2) := by decide +kernel
theorem dX11_denies_73 : decode cX11_denies 73 = .ok (.invokevirtual 224, 3) := by decide +kernel
theorem dX11_denies_76 : decode cX11_denies 76 = .ok (.ifCond .eq 102, 3) := by decide +kernel
theorem dX11_denies_79 : decode cX11_denies 79 = .ok (.iload 8, 2) := by decide +kernel
theorem dX11_denies_81 : decode cX11_denies 81 = .ok (.ifCond .eq 8, 3) := by decide +kernel
theorem dX11_denies_84 : decode cX11_denies 84 = .ok (.iload_n 2, 1) := by decide +kernel
theorem dX11_denies_85 : decode cX11_denies 85 = .ok (.iconst 2, 1) := by decide +kernel
theorem dX11_denies_86 : decode cX11_denies 86 = .ok (.if_icmp .eq 92, 3) := by decide +kernel
theorem dX11_denies_89 : decode cX11_denies 89 = .ok (.iload 8, 2) := by decide +kernel
theorem dX11_denies_91 : decode cX11_denies 91 = .ok (.ifCond .eq 43, 3) := by decide +kernel
theorem dX11_denies_94 : decode cX11_denies 94 = .ok (.aload_n 0, 1) := by decide +kernel
theorem dX11_denies_95 : decode cX11_denies 95 = .ok (.iload 6, 2) := by decide +kernel
theorem dX11_denies_97 : decode cX11_denies 97 = .ok (.bipush 10, 2) := by decide +kernel
theorem dX11_denies_99 : decode cX11_denies 99 = .ok (.aload_n 0, 1) := by decide +kernel
theorem dX11_denies_100 : decode cX11_denies 100 = .ok (.iload 5, 2) := by decide +kernel
theorem dX11_denies_102 : decode cX11_denies 102 = .ok (.invokevirtual 193, 3) := by decide +kernel
theorem dX11_denies_105 : decode cX11_denies 105 = .ok (.imul, 1) := by decide +kernel
theorem dX11_denies_106 : decode cX11_denies 106 = .ok (.aload_n 0, 1) := by decide +kernel
theorem dX11_denies_107 : decode cX11_denies 107 = .ok (.iload 5, 2) := by decide +kernel
theorem dX11_denies_109 : decode cX11_denies 109 = .ok (.invokevirtual 227, 3) := by decide +kernel
theorem dX11_denies_112 : decode cX11_denies 112 = .ok (.if_icmp .le 7, 3) := by decide +kernel
theorem dX11_denies_115 : decode cX11_denies 115 = .ok (.iconst 1, 1) := by decide +kernel
theorem dX11_denies_116 : decode cX11_denies 116 = .ok (.goto 4, 3) := by decide +kernel
theorem dX11_denies_119 : decode cX11_denies 119 = .ok (.iconst 2, 1) := by decide +kernel
theorem dX11_denies_120 : decode cX11_denies 120 = .ok (.aload_n 0, 1) := by decide +kernel
theorem dX11_denies_121 : decode cX11_denies 121 = .ok (.getfield 19, 3) := by decide +kernel
theorem dX11_denies_124 : decode cX11_denies 124 = .ok (.iload_n 1, 1) := by decide +kernel
theorem dX11_denies_125 : decode cX11_denies 125 = .ok (.iaload, 1) := by decide +kernel
theorem dX11_denies_126 : decode cX11_denies 126 = .ok (.bipush 16, 2) := by decide +kernel
theorem dX11_denies_128 : decode cX11_denies 128 = .ok (.invokevirtual 183, 3) := by decide +kernel
theorem dX11_denies_131 : decode cX11_denies 131 = .ok (.goto 36, 3) := by decide +kernel
theorem dX11_denies_134 : decode cX11_denies 134 = .ok (.iload 7, 2) := by decide +kernel
theorem dX11_denies_136 : decode cX11_denies 136 = .ok (.iconst 1, 1) := by decide +kernel
theorem dX11_denies_137 : decode cX11_denies 137 = .ok (.if_icmp .ne 30, 3) := by decide +kernel
theorem dX11_denies_140 : decode cX11_denies 140 = .ok (.aload_n 0, 1) := by decide +kernel
theorem dX11_denies_141 : decode cX11_denies 141 = .ok (.iload 5, 2) := by decide +kernel
theorem dX11_denies_143 : decode cX11_denies 143 = .ok (.invokevirtual 227, 3) := by decide +kernel
theorem dX11_denies_146 : decode cX11_denies 146 = .ok (.iload_n 3, 1) := by decide +kernel
theorem dX11_denies_147 : decode cX11_denies 147 = .ok (.imul, 1) := by decide +kernel
theorem dX11_denies_148 : decode cX11_denies 148 = .ok (.bipush 20, 2) := by decide +kernel
theorem dX11_denies_150 : decode cX11_denies 150 = .ok (.aload_n 0, 1) := by decide +kernel
theorem dX11_denies_151 : decode cX11_denies 151 = .ok (.iload 5, 2) := by decide +kernel
theorem dX11_denies_153 : decode cX11_denies 153 = .ok (.invokevirtual 193, 3) := by decide +kernel
theorem dX11_denies_156 : decode cX11_denies 156 = .ok (.imul, 1) := by decide +kernel
theorem dX11_denies_157 : decode cX11_denies 157 = .ok (.if_icmp .le 10, 3) := by decide +kernel
theorem dX11_denies_160 : decode cX11_denies 160 = .ok (.aload_n 0, 1) := by decide +kernel
theorem dX11_denies_161 : decode cX11_denies 161 = .ok (.iload 6, 2) := by decide +kernel
theorem dX11_denies_163 : decode cX11_denies 163 = .ok (.iconst 2, 1) := by decide +kernel
theorem dX11_denies_164 : decode cX11_denies 164 = .ok (.invokevirtual 196, 3) := by decide +kernel
theorem dX11_denies_167 : decode cX11_denies 167 = .ok (.aload_n 0, 1) := by decide +kernel
theorem dX11_denies_168 : decode cX11_denies 168 = .ok (.getfield 50, 3) := by decide +kernel
theorem dX11_denies_171 : decode cX11_denies 171 = .ok (.iload 6, 2) := by decide +kernel
theorem dX11_denies_173 : decode cX11_denies 173 = .ok (.aload_n 0, 1) := by decide +kernel
theorem dX11_denies_174 : decode cX11_denies 174 = .ok (.getfield 180, 3) := by decide +kernel
theorem dX11_denies_177 : decode cX11_denies 177 = .ok (.iastore, 1) := by decide +kernel
theorem dX11_denies_178 : decode cX11_denies 178 = .ok (.iload 4, 2) := by decide +kernel
theorem dX11_denies_180 : decode cX11_denies 180 = .ok (.aload_n 0, 1) := by decide +kernel
theorem dX11_denies_181 : decode cX11_denies 181 = .ok (.getfield 38, 3) := by decide +kernel
theorem dX11_denies_184 : decode cX11_denies 184 = .ok (.iload 6, 2) := by decide +kernel
theorem dX11_denies_186 : decode cX11_denies 186 = .ok (.iaload, 1) := by decide +kernel
theorem dX11_denies_187 : decode cX11_denies 187 = .ok (.iload 7, 2) := by decide +kernel
theorem dX11_denies_189 : decode cX11_denies 189 = .ok (.if_icmp .ne 7, 3) := by decide +kernel
theorem dX11_denies_192 : decode cX11_denies 192 = .ok (.iconst 0, 1) := by decide +kernel
theorem dX11_denies_193 : decode cX11_denies 193 = .ok (.goto 4, 3) := by decide +kernel
theorem dX11_denies_196 : decode cX11_denies 196 = .ok (.iconst 1, 1) := by decide +kernel
theorem dX11_denies_197 : decode cX11_denies 197 = .ok (.iadd, 1) := by decide +kernel
theorem dX11_denies_198 : decode cX11_denies 198 = .ok (.istore 4, 2) := by decide +kernel
theorem dX11_denies_200 : decode cX11_denies 200 = .ok (.iinc 5 1, 3) := by decide +kernel
theorem dX11_denies_203 : decode cX11_denies 203 = .ok (.goto (-178), 3) := by decide +kernel
theorem dX11_denies_206 : decode cX11_denies 206 = .ok (.aload_n 0, 1) := by decide +kernel
theorem dX11_denies_207 : decode cX11_denies 207 = .ok (.getfield 32, 3) := by decide +kernel
theorem dX11_denies_210 : decode cX11_denies 210 = .ok (.iload_n 1, 1) := by decide +kernel
theorem dX11_denies_211 : decode cX11_denies 211 = .ok (.dup2, 1) := by decide +kernel
theorem dX11_denies_212 : decode cX11_denies 212 = .ok (.iaload, 1) := by decide +kernel
theorem dX11_denies_213 : decode cX11_denies 213 = .ok (.iconst 1, 1) := by decide +kernel
theorem dX11_denies_214 : decode cX11_denies 214 = .ok (.iadd, 1) := by decide +kernel
theorem dX11_denies_215 : decode cX11_denies 215 = .ok (.iastore, 1) := by decide +kernel
theorem dX11_denies_216 : decode cX11_denies 216 = .ok (.iload 4, 2) := by decide +kernel
theorem dX11_denies_218 : decode cX11_denies 218 = .ok (.ireturn, 1) := by decide +kernel
theorem dX11_mayBeDenied_0 : decode cX11_mayBeDenied 0 = .ok (.aload_n 0, 1) := by decide +kernel
theorem dX11_mayBeDenied_1 : decode cX11_mayBeDenied 1 = .ok (.getfield 16, 3) := by decide +kernel
theorem dX11_mayBeDenied_4 : decode cX11_mayBeDenied 4 = .ok (.iload_n 1, 1) := by decide +kernel
theorem dX11_mayBeDenied_5 : decode cX11_mayBeDenied 5 = .ok (.iaload, 1) := by decide +kernel
theorem dX11_mayBeDenied_6 : decode cX11_mayBeDenied 6 = .ok (.iconst 3, 1) := by decide +kernel
theorem dX11_mayBeDenied_7 : decode cX11_mayBeDenied 7 = .ok (.if_icmp .ne 12, 3) := by decide +kernel
theorem dX11_mayBeDenied_10 : decode cX11_mayBeDenied 10 = .ok (.aload_n 0, 1) := by decide +kernel
theorem dX11_mayBeDenied_11 : decode cX11_mayBeDenied 11 = .ok (.getfield 28, 3) := by decide +kernel
theorem dX11_mayBeDenied_14 : decode cX11_mayBeDenied 14 = .ok (.iload_n 1, 1) := by decide +kernel
theorem dX11_mayBeDenied_15 : decode cX11_mayBeDenied 15 = .ok (.baload, 1) := by decide +kernel
theorem dX11_mayBeDenied_16 : decode cX11_mayBeDenied 16 = .ok (.ifCond .eq 7, 3) := by decide +kernel
theorem dX11_mayBeDenied_19 : decode cX11_mayBeDenied 19 = .ok (.iconst 1, 1) := by decide +kernel
theorem dX11_mayBeDenied_20 : decode cX11_mayBeDenied 20 = .ok (.goto 4, 3) := by decide +kernel
theorem dX11_mayBeDenied_23 : decode cX11_mayBeDenied 23 = .ok (.iconst 0, 1) := by decide +kernel
theorem dX11_mayBeDenied_24 : decode cX11_mayBeDenied 24 = .ok (.ireturn, 1) := by decide +kernel
theorem dX11_deny_0 : decode cX11_deny 0 = .ok (.aload_n 0, 1) := by decide +kernel
theorem dX11_deny_1 : decode cX11_deny 1 = .ok (.iload_n 1, 1) := by decide +kernel
theorem dX11_deny_2 : decode cX11_deny 2 = .ok (.invokevirtual 174, 3) := by decide +kernel
theorem dX11_deny_5 : decode cX11_deny 5 = .ok (.ifCond .eq 15, 3) := by decide +kernel
theorem dX11_deny_8 : decode cX11_deny 8 = .ok (.iload_n 2, 1) := by decide +kernel
theorem dX11_deny_9 : decode cX11_deny 9 = .ok (.i2l, 1) := by decide +kernel
theorem dX11_deny_10 : decode cX11_deny 10 = .ok (.lconst 0, 1) := by decide +kernel
theorem dX11_deny_11 : decode cX11_deny 11 = .ok (.ldc2_w 230, 3) := by decide +kernel
theorem dX11_deny_14 : decode cX11_deny 14 = .ok (.invokestatic 120, 3) := by decide +kernel
theorem dX11_deny_17 : decode cX11_deny 17 = .ok (.ifCond .ne 5, 3) := by decide +kernel
theorem dX11_deny_20 : decode cX11_deny 20 = .ok (.iconst (-1), 1) := by decide +kernel
theorem dX11_deny_21 : decode cX11_deny 21 = .ok (.ireturn, 1) := by decide +kernel
theorem dX11_deny_22 : decode cX11_deny 22 = .ok (.aload_n 0, 1) := by decide +kernel
theorem dX11_deny_23 : decode cX11_deny 23 = .ok (.iload_n 1, 1) := by decide +kernel
theorem dX11_deny_24 : decode cX11_deny 24 = .ok (.invokevirtual 232, 3) := by decide +kernel
theorem dX11_deny_27 : decode cX11_deny 27 = .ok (.ifCond .eq 12, 3) := by decide +kernel
theorem dX11_deny_30 : decode cX11_deny 30 = .ok (.aload_n 0, 1) := by decide +kernel
theorem dX11_deny_31 : decode cX11_deny 31 = .ok (.iload_n 1, 1) := by decide +kernel
theorem dX11_deny_32 : decode cX11_deny 32 = .ok (.iload_n 2, 1) := by decide +kernel
theorem dX11_deny_33 : decode cX11_deny 33 = .ok (.invokevirtual 235, 3) := by decide +kernel
theorem dX11_deny_36 : decode cX11_deny 36 = .ok (.goto 5, 3) := by decide +kernel
theorem dX11_deny_39 : decode cX11_deny 39 = .ok (.bipush (-2), 2) := by decide +kernel
theorem dX11_deny_41 : decode cX11_deny 41 = .ok (.ireturn, 1) := by decide +kernel
theorem dX11_found_0 : decode cX11_found 0 = .ok (.aload_n 0, 1) := by decide +kernel
theorem dX11_found_1 : decode cX11_found 1 = .ok (.iload_n 1, 1) := by decide +kernel
theorem dX11_found_2 : decode cX11_found 2 = .ok (.invokevirtual 174, 3) := by decide +kernel
theorem dX11_found_5 : decode cX11_found 5 = .ok (.ifCond .ne 5, 3) := by decide +kernel
theorem dX11_found_8 : decode cX11_found 8 = .ok (.iconst (-1), 1) := by decide +kernel
theorem dX11_found_9 : decode cX11_found 9 = .ok (.ireturn, 1) := by decide +kernel
theorem dX11_found_10 : decode cX11_found 10 = .ok (.aload_n 0, 1) := by decide +kernel
theorem dX11_found_11 : decode cX11_found 11 = .ok (.getfield 16, 3) := by decide +kernel
theorem dX11_found_14 : decode cX11_found 14 = .ok (.iload_n 1, 1) := by decide +kernel
theorem dX11_found_15 : decode cX11_found 15 = .ok (.iaload, 1) := by decide +kernel
theorem dX11_found_16 : decode cX11_found 16 = .ok (.iconst 3, 1) := by decide +kernel
theorem dX11_found_17 : decode cX11_found 17 = .ok (.if_icmp .eq 6, 3) := by decide +kernel
theorem dX11_found_20 : decode cX11_found 20 = .ok (.bipush (-12), 2) := by decide +kernel
theorem dX11_found_22 : decode cX11_found 22 = .ok (.ireturn, 1) := by decide +kernel
theorem dX11_found_23 : decode cX11_found 23 = .ok (.aload_n 0, 1) := by decide +kernel
theorem dX11_found_24 : decode cX11_found 24 = .ok (.getfield 32, 3) := by decide +kernel
theorem dX11_found_27 : decode cX11_found 27 = .ok (.iload_n 1, 1) := by decide +kernel
theorem dX11_found_28 : decode cX11_found 28 = .ok (.iaload, 1) := by decide +kernel
theorem dX11_found_29 : decode cX11_found 29 = .ok (.istore_n 2, 1) := by decide +kernel
theorem dX11_found_30 : decode cX11_found 30 = .ok (.aload_n 0, 1) := by decide +kernel
theorem dX11_found_31 : decode cX11_found 31 = .ok (.getfield 32, 3) := by decide +kernel
theorem dX11_found_34 : decode cX11_found 34 = .ok (.iload_n 1, 1) := by decide +kernel
theorem dX11_found_35 : decode cX11_found 35 = .ok (.iconst 0, 1) := by decide +kernel
theorem dX11_found_36 : decode cX11_found 36 = .ok (.iastore, 1) := by decide +kernel
theorem dX11_found_37 : decode cX11_found 37 = .ok (.iconst 0, 1) := by decide +kernel
theorem dX11_found_38 : decode cX11_found 38 = .ok (.istore_n 3, 1) := by decide +kernel
theorem dX11_found_39 : decode cX11_found 39 = .ok (.iload_n 3, 1) := by decide +kernel
theorem dX11_found_40 : decode cX11_found 40 = .ok (.aload_n 0, 1) := by decide +kernel
theorem dX11_found_41 : decode cX11_found 41 = .ok (.getfield 116, 3) := by decide +kernel
theorem dX11_found_44 : decode cX11_found 44 = .ok (.if_icmp .ge 56, 3) := by decide +kernel
theorem dX11_found_47 : decode cX11_found 47 = .ok (.aload_n 0, 1) := by decide +kernel
theorem dX11_found_48 : decode cX11_found 48 = .ok (.iload_n 3, 1) := by decide +kernel
theorem dX11_found_49 : decode cX11_found 49 = .ok (.invokevirtual 227, 3) := by decide +kernel
theorem dX11_found_52 : decode cX11_found 52 = .ok (.bipush 15, 2) := by decide +kernel
theorem dX11_found_54 : decode cX11_found 54 = .ok (.iload_n 2, 1) := by decide +kernel
theorem dX11_found_55 : decode cX11_found 55 = .ok (.imul, 1) := by decide +kernel
theorem dX11_found_56 : decode cX11_found 56 = .ok (.isub, 1) := by decide +kernel
theorem dX11_found_57 : decode cX11_found 57 = .ok (.istore 4, 2) := by decide +kernel
theorem dX11_found_59 : decode cX11_found 59 = .ok (.aload_n 0, 1) := by decide +kernel
theorem dX11_found_60 : decode cX11_found 60 = .ok (.getfield 13, 3) := by decide +kernel
theorem dX11_found_63 : decode cX11_found 63 = .ok (.iconst 5, 1) := by decide +kernel
theorem dX11_found_64 : decode cX11_found 64 = .ok (.iload_n 3, 1) := by decide +kernel
theorem dX11_found_65 : decode cX11_found 65 = .ok (.imul, 1) := by decide +kernel
theorem dX11_found_66 : decode cX11_found 66 = .ok (.aload_n 0, 1) := by decide +kernel
theorem dX11_found_67 : decode cX11_found 67 = .ok (.iload_n 3, 1) := by decide +kernel
theorem dX11_found_68 : decode cX11_found 68 = .ok (.invokevirtual 224, 3) := by decide +kernel
theorem dX11_found_71 : decode cX11_found 71 = .ok (.ifCond .ne 11, 3) := by decide +kernel
theorem dX11_found_74 : decode cX11_found 74 = .ok (.aload_n 0, 1) := by decide +kernel
theorem dX11_found_75 : decode cX11_found 75 = .ok (.iload_n 3, 1) := by decide +kernel
theorem dX11_found_76 : decode cX11_found 76 = .ok (.invokevirtual 227, 3) := by decide +kernel
theorem dX11_found_79 : decode cX11_found 79 = .ok (.goto 14, 3) := by decide +kernel
theorem dX11_found_82 : decode cX11_found 82 = .ok (.iload 4, 2) := by decide +kernel
theorem dX11_found_84 : decode cX11_found 84 = .ok (.ifCond .ge 7, 3) := by decide +kernel
theorem dX11_found_87 : decode cX11_found 87 = .ok (.iconst 0, 1) := by decide +kernel
theorem dX11_found_88 : decode cX11_found 88 = .ok (.goto 5, 3) := by decide +kernel
theorem dX11_found_91 : decode cX11_found 91 = .ok (.iload 4, 2) := by decide +kernel
theorem dX11_found_93 : decode cX11_found 93 = .ok (.iastore, 1) := by decide +kernel
theorem dX11_found_94 : decode cX11_found 94 = .ok (.iinc 3 1, 3) := by decide +kernel
theorem dX11_found_97 : decode cX11_found 97 = .ok (.goto (-58), 3) := by decide +kernel
theorem dX11_found_100 : decode cX11_found 100 = .ok (.iload_n 2, 1) := by decide +kernel
theorem dX11_found_101 : decode cX11_found 101 = .ok (.ireturn, 1) := by decide +kernel
theorem dX11_keeps_0 : decode cX11_keeps 0 = .ok (.iconst 0, 1) := by decide +kernel
theorem dX11_keeps_1 : decode cX11_keeps 1 = .ok (.istore_n 1, 1) := by decide +kernel
theorem dX11_keeps_2 : decode cX11_keeps 2 = .ok (.iload_n 1, 1) := by decide +kernel
theorem dX11_keeps_3 : decode cX11_keeps 3 = .ok (.sipush 128, 3) := by decide +kernel
theorem dX11_keeps_6 : decode cX11_keeps 6 = .ok (.if_icmp .ge 87, 3) := by decide +kernel
theorem dX11_keeps_9 : decode cX11_keeps 9 = .ok (.aload_n 0, 1) := by decide +kernel
theorem dX11_keeps_10 : decode cX11_keeps 10 = .ok (.getfield 62, 3) := by decide +kernel
theorem dX11_keeps_13 : decode cX11_keeps 13 = .ok (.iconst 5, 1) := by decide +kernel
theorem dX11_keeps_14 : decode cX11_keeps 14 = .ok (.iload_n 1, 1) := by decide +kernel
theorem dX11_keeps_15 : decode cX11_keeps 15 = .ok (.imul, 1) := by decide +kernel
theorem dX11_keeps_16 : decode cX11_keeps 16 = .ok (.aload_n 0, 1) := by decide +kernel
theorem dX11_keeps_17 : decode cX11_keeps 17 = .ok (.getfield 38, 3) := by decide +kernel
theorem dX11_keeps_20 : decode cX11_keeps 20 = .ok (.iload_n 1, 1) := by decide +kernel
theorem dX11_keeps_21 : decode cX11_keeps 21 = .ok (.iaload, 1) := by decide +kernel
theorem dX11_keeps_22 : decode cX11_keeps 22 = .ok (.iastore, 1) := by decide +kernel
theorem dX11_keeps_23 : decode cX11_keeps 23 = .ok (.aload_n 0, 1) := by decide +kernel
theorem dX11_keeps_24 : decode cX11_keeps 24 = .ok (.getfield 62, 3) := by decide +kernel
theorem dX11_keeps_27 : decode cX11_keeps 27 = .ok (.iconst 5, 1) := by decide +kernel
theorem dX11_keeps_28 : decode cX11_keeps 28 = .ok (.iload_n 1, 1) := by decide +kernel
theorem dX11_keeps_29 : decode cX11_keeps 29 = .ok (.imul, 1) := by decide +kernel
theorem dX11_keeps_30 : decode cX11_keeps 30 = .ok (.iconst 1, 1) := by decide +kernel
theorem dX11_keeps_31 : decode cX11_keeps 31 = .ok (.iadd, 1) := by decide +kernel
theorem dX11_keeps_32 : decode cX11_keeps 32 = .ok (.aload_n 0, 1) := by decide +kernel
theorem dX11_keeps_33 : decode cX11_keeps 33 = .ok (.getfield 41, 3) := by decide +kernel
theorem dX11_keeps_36 : decode cX11_keeps 36 = .ok (.iload_n 1, 1) := by decide +kernel
theorem dX11_keeps_37 : decode cX11_keeps 37 = .ok (.iaload, 1) := by decide +kernel
theorem dX11_keeps_38 : decode cX11_keeps 38 = .ok (.iastore, 1) := by decide +kernel
theorem dX11_keeps_39 : decode cX11_keeps 39 = .ok (.aload_n 0, 1) := by decide +kernel
theorem dX11_keeps_40 : decode cX11_keeps 40 = .ok (.getfield 62, 3) := by decide +kernel
theorem dX11_keeps_43 : decode cX11_keeps 43 = .ok (.iconst 5, 1) := by decide +kernel
theorem dX11_keeps_44 : decode cX11_keeps 44 = .ok (.iload_n 1, 1) := by decide +kernel
theorem dX11_keeps_45 : decode cX11_keeps 45 = .ok (.imul, 1) := by decide +kernel
theorem dX11_keeps_46 : decode cX11_keeps 46 = .ok (.iconst 2, 1) := by decide +kernel
theorem dX11_keeps_47 : decode cX11_keeps 47 = .ok (.iadd, 1) := by decide +kernel
theorem dX11_keeps_48 : decode cX11_keeps 48 = .ok (.aload_n 0, 1) := by decide +kernel
theorem dX11_keeps_49 : decode cX11_keeps 49 = .ok (.getfield 44, 3) := by decide +kernel
theorem dX11_keeps_52 : decode cX11_keeps 52 = .ok (.iload_n 1, 1) := by decide +kernel
theorem dX11_keeps_53 : decode cX11_keeps 53 = .ok (.iaload, 1) := by decide +kernel
theorem dX11_keeps_54 : decode cX11_keeps 54 = .ok (.iastore, 1) := by decide +kernel
theorem dX11_keeps_55 : decode cX11_keeps 55 = .ok (.aload_n 0, 1) := by decide +kernel
theorem dX11_keeps_56 : decode cX11_keeps 56 = .ok (.getfield 62, 3) := by decide +kernel
theorem dX11_keeps_59 : decode cX11_keeps 59 = .ok (.iconst 5, 1) := by decide +kernel
theorem dX11_keeps_60 : decode cX11_keeps 60 = .ok (.iload_n 1, 1) := by decide +kernel
theorem dX11_keeps_61 : decode cX11_keeps 61 = .ok (.imul, 1) := by decide +kernel
theorem dX11_keeps_62 : decode cX11_keeps 62 = .ok (.iconst 3, 1) := by decide +kernel
theorem dX11_keeps_63 : decode cX11_keeps 63 = .ok (.iadd, 1) := by decide +kernel
theorem dX11_keeps_64 : decode cX11_keeps 64 = .ok (.aload_n 0, 1) := by decide +kernel
theorem dX11_keeps_65 : decode cX11_keeps 65 = .ok (.getfield 47, 3) := by decide +kernel
theorem dX11_keeps_68 : decode cX11_keeps 68 = .ok (.iload_n 1, 1) := by decide +kernel
theorem dX11_keeps_69 : decode cX11_keeps 69 = .ok (.iaload, 1) := by decide +kernel
theorem dX11_keeps_70 : decode cX11_keeps 70 = .ok (.iastore, 1) := by decide +kernel
theorem dX11_keeps_71 : decode cX11_keeps 71 = .ok (.aload_n 0, 1) := by decide +kernel
theorem dX11_keeps_72 : decode cX11_keeps 72 = .ok (.getfield 62, 3) := by decide +kernel
theorem dX11_keeps_75 : decode cX11_keeps 75 = .ok (.iconst 5, 1) := by decide +kernel
theorem dX11_keeps_76 : decode cX11_keeps 76 = .ok (.iload_n 1, 1) := by decide +kernel
theorem dX11_keeps_77 : decode cX11_keeps 77 = .ok (.imul, 1) := by decide +kernel
theorem dX11_keeps_78 : decode cX11_keeps 78 = .ok (.iconst 4, 1) := by decide +kernel
theorem dX11_keeps_79 : decode cX11_keeps 79 = .ok (.iadd, 1) := by decide +kernel
theorem dX11_keeps_80 : decode cX11_keeps 80 = .ok (.aload_n 0, 1) := by decide +kernel
theorem dX11_keeps_81 : decode cX11_keeps 81 = .ok (.getfield 50, 3) := by decide +kernel
theorem dX11_keeps_84 : decode cX11_keeps 84 = .ok (.iload_n 1, 1) := by decide +kernel
theorem dX11_keeps_85 : decode cX11_keeps 85 = .ok (.iaload, 1) := by decide +kernel
theorem dX11_keeps_86 : decode cX11_keeps 86 = .ok (.iastore, 1) := by decide +kernel
theorem dX11_keeps_87 : decode cX11_keeps 87 = .ok (.iinc 1 1, 3) := by decide +kernel
theorem dX11_keeps_90 : decode cX11_keeps 90 = .ok (.goto (-88), 3) := by decide +kernel
theorem dX11_keeps_93 : decode cX11_keeps 93 = .ok (.iconst 0, 1) := by decide +kernel
theorem dX11_keeps_94 : decode cX11_keeps 94 = .ok (.istore_n 1, 1) := by decide +kernel
theorem dX11_keeps_95 : decode cX11_keeps 95 = .ok (.iload_n 1, 1) := by decide +kernel
theorem dX11_keeps_96 : decode cX11_keeps 96 = .ok (.bipush 8, 2) := by decide +kernel
theorem dX11_keeps_98 : decode cX11_keeps 98 = .ok (.if_icmp .ge 21, 3) := by decide +kernel
theorem dX11_keeps_101 : decode cX11_keeps 101 = .ok (.aload_n 0, 1) := by decide +kernel
theorem dX11_keeps_102 : decode cX11_keeps 102 = .ok (.getfield 65, 3) := by decide +kernel
theorem dX11_keeps_105 : decode cX11_keeps 105 = .ok (.iload_n 1, 1) := by decide +kernel
theorem dX11_keeps_106 : decode cX11_keeps 106 = .ok (.aload_n 0, 1) := by decide +kernel
theorem dX11_keeps_107 : decode cX11_keeps 107 = .ok (.getfield 32, 3) := by decide +kernel
theorem dX11_keeps_110 : decode cX11_keeps 110 = .ok (.iload_n 1, 1) := by decide +kernel
theorem dX11_keeps_111 : decode cX11_keeps 111 = .ok (.iaload, 1) := by decide +kernel
theorem dX11_keeps_112 : decode cX11_keeps 112 = .ok (.iastore, 1) := by decide +kernel
theorem dX11_keeps_113 : decode cX11_keeps 113 = .ok (.iinc 1 1, 3) := by decide +kernel
theorem dX11_keeps_116 : decode cX11_keeps 116 = .ok (.goto (-21), 3) := by decide +kernel
theorem dX11_keeps_119 : decode cX11_keeps 119 = .ok (.aload_n 0, 1) := by decide +kernel
theorem dX11_keeps_120 : decode cX11_keeps 120 = .ok (.aload_n 0, 1) := by decide +kernel
theorem dX11_keeps_121 : decode cX11_keeps 121 = .ok (.getfield 180, 3) := by decide +kernel
theorem dX11_keeps_124 : decode cX11_keeps 124 = .ok (.putfield 238, 3) := by decide +kernel
theorem dX11_keeps_127 : decode cX11_keeps 127 = .ok (.return_, 1) := by decide +kernel
theorem dX11_returns_0 : decode cX11_returns 0 = .ok (.iconst 0, 1) := by decide +kernel
theorem dX11_returns_1 : decode cX11_returns 1 = .ok (.istore_n 1, 1) := by decide +kernel
theorem dX11_returns_2 : decode cX11_returns 2 = .ok (.iload_n 1, 1) := by decide +kernel
theorem dX11_returns_3 : decode cX11_returns 3 = .ok (.sipush 128, 3) := by decide +kernel
theorem dX11_returns_6 : decode cX11_returns 6 = .ok (.if_icmp .ge 87, 3) := by decide +kernel
theorem dX11_returns_9 : decode cX11_returns 9 = .ok (.aload_n 0, 1) := by decide +kernel
theorem dX11_returns_10 : decode cX11_returns 10 = .ok (.getfield 38, 3) := by decide +kernel
theorem dX11_returns_13 : decode cX11_returns 13 = .ok (.iload_n 1, 1) := by decide +kernel
theorem dX11_returns_14 : decode cX11_returns 14 = .ok (.aload_n 0, 1) := by decide +kernel
theorem dX11_returns_15 : decode cX11_returns 15 = .ok (.getfield 62, 3) := by decide +kernel
theorem dX11_returns_18 : decode cX11_returns 18 = .ok (.iconst 5, 1) := by decide +kernel
theorem dX11_returns_19 : decode cX11_returns 19 = .ok (.iload_n 1, 1) := by decide +kernel
theorem dX11_returns_20 : decode cX11_returns 20 = .ok (.imul, 1) := by decide +kernel
theorem dX11_returns_21 : decode cX11_returns 21 = .ok (.iaload, 1) := by decide +kernel
theorem dX11_returns_22 : decode cX11_returns 22 = .ok (.iastore, 1) := by decide +kernel
theorem dX11_returns_23 : decode cX11_returns 23 = .ok (.aload_n 0, 1) := by decide +kernel
theorem dX11_returns_24 : decode cX11_returns 24 = .ok (.getfield 41, 3) := by decide +kernel
theorem dX11_returns_27 : decode cX11_returns 27 = .ok (.iload_n 1, 1) := by decide +kernel
theorem dX11_returns_28 : decode cX11_returns 28 = .ok (.aload_n 0, 1) := by decide +kernel
theorem dX11_returns_29 : decode cX11_returns 29 = .ok (.getfield 62, 3) := by decide +kernel
theorem dX11_returns_32 : decode cX11_returns 32 = .ok (.iconst 5, 1) := by decide +kernel
theorem dX11_returns_33 : decode cX11_returns 33 = .ok (.iload_n 1, 1) := by decide +kernel
theorem dX11_returns_34 : decode cX11_returns 34 = .ok (.imul, 1) := by decide +kernel
theorem dX11_returns_35 : decode cX11_returns 35 = .ok (.iconst 1, 1) := by decide +kernel
theorem dX11_returns_36 : decode cX11_returns 36 = .ok (.iadd, 1) := by decide +kernel
theorem dX11_returns_37 : decode cX11_returns 37 = .ok (.iaload, 1) := by decide +kernel
theorem dX11_returns_38 : decode cX11_returns 38 = .ok (.iastore, 1) := by decide +kernel
theorem dX11_returns_39 : decode cX11_returns 39 = .ok (.aload_n 0, 1) := by decide +kernel
theorem dX11_returns_40 : decode cX11_returns 40 = .ok (.getfield 44, 3) := by decide +kernel
theorem dX11_returns_43 : decode cX11_returns 43 = .ok (.iload_n 1, 1) := by decide +kernel
theorem dX11_returns_44 : decode cX11_returns 44 = .ok (.aload_n 0, 1) := by decide +kernel
theorem dX11_returns_45 : decode cX11_returns 45 = .ok (.getfield 62, 3) := by decide +kernel
theorem dX11_returns_48 : decode cX11_returns 48 = .ok (.iconst 5, 1) := by decide +kernel
theorem dX11_returns_49 : decode cX11_returns 49 = .ok (.iload_n 1, 1) := by decide +kernel
theorem dX11_returns_50 : decode cX11_returns 50 = .ok (.imul, 1) := by decide +kernel
theorem dX11_returns_51 : decode cX11_returns 51 = .ok (.iconst 2, 1) := by decide +kernel
theorem dX11_returns_52 : decode cX11_returns 52 = .ok (.iadd, 1) := by decide +kernel
theorem dX11_returns_53 : decode cX11_returns 53 = .ok (.iaload, 1) := by decide +kernel
theorem dX11_returns_54 : decode cX11_returns 54 = .ok (.iastore, 1) := by decide +kernel
theorem dX11_returns_55 : decode cX11_returns 55 = .ok (.aload_n 0, 1) := by decide +kernel
theorem dX11_returns_56 : decode cX11_returns 56 = .ok (.getfield 47, 3) := by decide +kernel
theorem dX11_returns_59 : decode cX11_returns 59 = .ok (.iload_n 1, 1) := by decide +kernel
theorem dX11_returns_60 : decode cX11_returns 60 = .ok (.aload_n 0, 1) := by decide +kernel
theorem dX11_returns_61 : decode cX11_returns 61 = .ok (.getfield 62, 3) := by decide +kernel
theorem dX11_returns_64 : decode cX11_returns 64 = .ok (.iconst 5, 1) := by decide +kernel
theorem dX11_returns_65 : decode cX11_returns 65 = .ok (.iload_n 1, 1) := by decide +kernel
theorem dX11_returns_66 : decode cX11_returns 66 = .ok (.imul, 1) := by decide +kernel
theorem dX11_returns_67 : decode cX11_returns 67 = .ok (.iconst 3, 1) := by decide +kernel
theorem dX11_returns_68 : decode cX11_returns 68 = .ok (.iadd, 1) := by decide +kernel
theorem dX11_returns_69 : decode cX11_returns 69 = .ok (.iaload, 1) := by decide +kernel
theorem dX11_returns_70 : decode cX11_returns 70 = .ok (.iastore, 1) := by decide +kernel
theorem dX11_returns_71 : decode cX11_returns 71 = .ok (.aload_n 0, 1) := by decide +kernel
theorem dX11_returns_72 : decode cX11_returns 72 = .ok (.getfield 50, 3) := by decide +kernel
theorem dX11_returns_75 : decode cX11_returns 75 = .ok (.iload_n 1, 1) := by decide +kernel
theorem dX11_returns_76 : decode cX11_returns 76 = .ok (.aload_n 0, 1) := by decide +kernel
theorem dX11_returns_77 : decode cX11_returns 77 = .ok (.getfield 62, 3) := by decide +kernel
theorem dX11_returns_80 : decode cX11_returns 80 = .ok (.iconst 5, 1) := by decide +kernel
theorem dX11_returns_81 : decode cX11_returns 81 = .ok (.iload_n 1, 1) := by decide +kernel
theorem dX11_returns_82 : decode cX11_returns 82 = .ok (.imul, 1) := by decide +kernel
theorem dX11_returns_83 : decode cX11_returns 83 = .ok (.iconst 4, 1) := by decide +kernel
theorem dX11_returns_84 : decode cX11_returns 84 = .ok (.iadd, 1) := by decide +kernel
theorem dX11_returns_85 : decode cX11_returns 85 = .ok (.iaload, 1) := by decide +kernel
theorem dX11_returns_86 : decode cX11_returns 86 = .ok (.iastore, 1) := by decide +kernel
theorem dX11_returns_87 : decode cX11_returns 87 = .ok (.iinc 1 1, 3) := by decide +kernel
theorem dX11_returns_90 : decode cX11_returns 90 = .ok (.goto (-88), 3) := by decide +kernel
theorem dX11_returns_93 : decode cX11_returns 93 = .ok (.iconst 0, 1) := by decide +kernel
theorem dX11_returns_94 : decode cX11_returns 94 = .ok (.istore_n 1, 1) := by decide +kernel
theorem dX11_returns_95 : decode cX11_returns 95 = .ok (.iload_n 1, 1) := by decide +kernel
theorem dX11_returns_96 : decode cX11_returns 96 = .ok (.bipush 8, 2) := by decide +kernel
theorem dX11_returns_98 : decode cX11_returns 98 = .ok (.if_icmp .ge 21, 3) := by decide +kernel
theorem dX11_returns_101 : decode cX11_returns 101 = .ok (.aload_n 0, 1) := by decide +kernel
theorem dX11_returns_102 : decode cX11_returns 102 = .ok (.getfield 32, 3) := by decide +kernel
theorem dX11_returns_105 : decode cX11_returns 105 = .ok (.iload_n 1, 1) := by decide +kernel
theorem dX11_returns_106 : decode cX11_returns 106 = .ok (.aload_n 0, 1) := by decide +kernel
theorem dX11_returns_107 : decode cX11_returns 107 = .ok (.getfield 65, 3) := by decide +kernel
theorem dX11_returns_110 : decode cX11_returns 110 = .ok (.iload_n 1, 1) := by decide +kernel
theorem dX11_returns_111 : decode cX11_returns 111 = .ok (.iaload, 1) := by decide +kernel
theorem dX11_returns_112 : decode cX11_returns 112 = .ok (.iastore, 1) := by decide +kernel
theorem dX11_returns_113 : decode cX11_returns 113 = .ok (.iinc 1 1, 3) := by decide +kernel
theorem dX11_returns_116 : decode cX11_returns 116 = .ok (.goto (-21), 3) := by decide +kernel
theorem dX11_returns_119 : decode cX11_returns 119 = .ok (.aload_n 0, 1) := by decide +kernel
theorem dX11_returns_120 : decode cX11_returns 120 = .ok (.aload_n 0, 1) := by decide +kernel
theorem dX11_returns_121 : decode cX11_returns 121 = .ok (.getfield 238, 3) := by decide +kernel
theorem dX11_returns_124 : decode cX11_returns 124 = .ok (.putfield 180, 3) := by decide +kernel
theorem dX11_returns_127 : decode cX11_returns 127 = .ok (.return_, 1) := by decide +kernel
theorem dX11_harmBy_0 : decode cX11_harmBy 0 = .ok (.aload_n 0, 1) := by decide +kernel
theorem dX11_harmBy_1 : decode cX11_harmBy 1 = .ok (.invokevirtual 241, 3) := by decide +kernel
theorem dX11_harmBy_4 : decode cX11_harmBy 4 = .ok (.iconst 0, 1) := by decide +kernel
theorem dX11_harmBy_5 : decode cX11_harmBy 5 = .ok (.istore 4, 2) := by decide +kernel
theorem dX11_harmBy_7 : decode cX11_harmBy 7 = .ok (.iload 4, 2) := by decide +kernel
theorem dX11_harmBy_9 : decode cX11_harmBy 9 = .ok (.bipush 8, 2) := by decide +kernel
theorem dX11_harmBy_11 : decode cX11_harmBy 11 = .ok (.if_icmp .ge 51, 3) := by decide +kernel
theorem dX11_harmBy_14 : decode cX11_harmBy 14 = .ok (.iload_n 1, 1) := by decide +kernel
theorem dX11_harmBy_15 : decode cX11_harmBy 15 = .ok (.iload 4, 2) := by decide +kernel
theorem dX11_harmBy_17 : decode cX11_harmBy 17 = .ok (.ishr, 1) := by decide +kernel
theorem dX11_harmBy_18 : decode cX11_harmBy 18 = .ok (.iconst 1, 1) := by decide +kernel
theorem dX11_harmBy_19 : decode cX11_harmBy 19 = .ok (.iand, 1) := by decide +kernel
theorem dX11_harmBy_20 : decode cX11_harmBy 20 = .ok (.iconst 1, 1) := by decide +kernel
theorem dX11_harmBy_21 : decode cX11_harmBy 21 = .ok (.if_icmp .ne 13, 3) := by decide +kernel
theorem dX11_harmBy_24 : decode cX11_harmBy 24 = .ok (.aload_n 0, 1) := by decide +kernel
theorem dX11_harmBy_25 : decode cX11_harmBy 25 = .ok (.iload 4, 2) := by decide +kernel
theorem dX11_harmBy_27 : decode cX11_harmBy 27 = .ok (.iload_n 2, 1) := by decide +kernel
theorem dX11_harmBy_28 : decode cX11_harmBy 28 = .ok (.invokevirtual 235, 3) := by decide +kernel
theorem dX11_harmBy_31 : decode cX11_harmBy 31 = .ok (.goto 4, 3) := by decide +kernel
theorem dX11_harmBy_34 : decode cX11_harmBy 34 = .ok (.iconst 0, 1) := by decide +kernel
theorem dX11_harmBy_35 : decode cX11_harmBy 35 = .ok (.istore 5, 2) := by decide +kernel
theorem dX11_harmBy_37 : decode cX11_harmBy 37 = .ok (.aload_n 0, 1) := by decide +kernel
theorem dX11_harmBy_38 : decode cX11_harmBy 38 = .ok (.dup, 1) := by decide +kernel
theorem dX11_harmBy_39 : decode cX11_harmBy 39 = .ok (.getfield 180, 3) := by decide +kernel
theorem dX11_harmBy_42 : decode cX11_harmBy 42 = .ok (.iload 5, 2) := by decide +kernel
theorem dX11_harmBy_44 : decode cX11_harmBy 44 = .ok (.ifCond .ge 7, 3) := by decide +kernel
theorem dX11_harmBy_47 : decode cX11_harmBy 47 = .ok (.iconst 1, 1) := by decide +kernel
theorem dX11_harmBy_48 : decode cX11_harmBy 48 = .ok (.goto 4, 3) := by decide +kernel
theorem dX11_harmBy_51 : decode cX11_harmBy 51 = .ok (.iconst 0, 1) := by decide +kernel
theorem dX11_harmBy_52 : decode cX11_harmBy 52 = .ok (.iadd, 1) := by decide +kernel
theorem dX11_harmBy_53 : decode cX11_harmBy 53 = .ok (.putfield 180, 3) := by decide +kernel
theorem dX11_harmBy_56 : decode cX11_harmBy 56 = .ok (.iinc 4 1, 3) := by decide +kernel
theorem dX11_harmBy_59 : decode cX11_harmBy 59 = .ok (.goto (-52), 3) := by decide +kernel
theorem dX11_harmBy_62 : decode cX11_harmBy 62 = .ok (.iconst 0, 1) := by decide +kernel
theorem dX11_harmBy_63 : decode cX11_harmBy 63 = .ok (.istore 4, 2) := by decide +kernel
theorem dX11_harmBy_65 : decode cX11_harmBy 65 = .ok (.iload 4, 2) := by decide +kernel
theorem dX11_harmBy_67 : decode cX11_harmBy 67 = .ok (.iload_n 3, 1) := by decide +kernel
theorem dX11_harmBy_68 : decode cX11_harmBy 68 = .ok (.if_icmp .ge 13, 3) := by decide +kernel
theorem dX11_harmBy_71 : decode cX11_harmBy 71 = .ok (.aload_n 0, 1) := by decide +kernel
theorem dX11_harmBy_72 : decode cX11_harmBy 72 = .ok (.invokevirtual 213, 3) := by decide +kernel
theorem dX11_harmBy_75 : decode cX11_harmBy 75 = .ok (.iinc 4 1, 3) := by decide +kernel
theorem dX11_harmBy_78 : decode cX11_harmBy 78 = .ok (.goto (-13), 3) := by decide +kernel
theorem dX11_harmBy_81 : decode cX11_harmBy 81 = .ok (.iconst 0, 1) := by decide +kernel
theorem dX11_harmBy_82 : decode cX11_harmBy 82 = .ok (.istore 4, 2) := by decide +kernel
theorem dX11_harmBy_84 : decode cX11_harmBy 84 = .ok (.iconst 0, 1) := by decide +kernel
theorem dX11_harmBy_85 : decode cX11_harmBy 85 = .ok (.istore 5, 2) := by decide +kernel
theorem dX11_harmBy_87 : decode cX11_harmBy 87 = .ok (.iload 5, 2) := by decide +kernel
theorem dX11_harmBy_89 : decode cX11_harmBy 89 = .ok (.aload_n 0, 1) := by decide +kernel
theorem dX11_harmBy_90 : decode cX11_harmBy 90 = .ok (.getfield 157, 3) := by decide +kernel
theorem dX11_harmBy_93 : decode cX11_harmBy 93 = .ok (.if_icmp .ge 20, 3) := by decide +kernel
theorem dX11_harmBy_96 : decode cX11_harmBy 96 = .ok (.iload 4, 2) := by decide +kernel
theorem dX11_harmBy_98 : decode cX11_harmBy 98 = .ok (.aload_n 0, 1) := by decide +kernel
theorem dX11_harmBy_99 : decode cX11_harmBy 99 = .ok (.iload 5, 2) := by decide +kernel
theorem dX11_harmBy_101 : decode cX11_harmBy 101 = .ok (.invokevirtual 221, 3) := by decide +kernel
theorem dX11_harmBy_104 : decode cX11_harmBy 104 = .ok (.iadd, 1) := by decide +kernel
theorem dX11_harmBy_105 : decode cX11_harmBy 105 = .ok (.istore 4, 2) := by decide +kernel
theorem dX11_harmBy_107 : decode cX11_harmBy 107 = .ok (.iinc 5 1, 3) := by decide +kernel
theorem dX11_harmBy_110 : decode cX11_harmBy 110 = .ok (.goto (-23), 3) := by decide +kernel
theorem dX11_harmBy_113 : decode cX11_harmBy 113 = .ok (.aload_n 0, 1) := by decide +kernel
theorem dX11_harmBy_114 : decode cX11_harmBy 114 = .ok (.invokevirtual 244, 3) := by decide +kernel
theorem dX11_harmBy_117 : decode cX11_harmBy 117 = .ok (.iload 4, 2) := by decide +kernel
theorem dX11_harmBy_119 : decode cX11_harmBy 119 = .ok (.ireturn, 1) := by decide +kernel
theorem dX11_foretold_0 : decode cX11_foretold 0 = .ok (.iload_n 1, 1) := by decide +kernel
theorem dX11_foretold_1 : decode cX11_foretold 1 = .ok (.i2l, 1) := by decide +kernel
theorem dX11_foretold_2 : decode cX11_foretold 2 = .ok (.lconst 0, 1) := by decide +kernel
theorem dX11_foretold_3 : decode cX11_foretold 3 = .ok (.ldc2_w 211, 3) := by decide +kernel
theorem dX11_foretold_6 : decode cX11_foretold 6 = .ok (.invokestatic 120, 3) := by decide +kernel
theorem dX11_foretold_9 : decode cX11_foretold 9 = .ok (.ifCond .eq 13, 3) := by decide +kernel
theorem dX11_foretold_12 : decode cX11_foretold 12 = .ok (.aload_n 0, 1) := by decide +kernel
theorem dX11_foretold_13 : decode cX11_foretold 13 = .ok (.iconst 0, 1) := by decide +kernel
theorem dX11_foretold_14 : decode cX11_foretold 14 = .ok (.iconst 0, 1) := by decide +kernel
theorem dX11_foretold_15 : decode cX11_foretold 15 = .ok (.iload_n 1, 1) := by decide +kernel
theorem dX11_foretold_16 : decode cX11_foretold 16 = .ok (.invokevirtual 247, 3) := by decide +kernel
theorem dX11_foretold_19 : decode cX11_foretold 19 = .ok (.goto 4, 3) := by decide +kernel
theorem dX11_foretold_22 : decode cX11_foretold 22 = .ok (.iconst (-1), 1) := by decide +kernel
theorem dX11_foretold_23 : decode cX11_foretold 23 = .ok (.ireturn, 1) := by decide +kernel
theorem dX11_wording_0 : decode cX11_wording 0 = .ok (.aload_n 0, 1) := by decide +kernel
theorem dX11_wording_1 : decode cX11_wording 1 = .ok (.iload_n 1, 1) := by decide +kernel
theorem dX11_wording_2 : decode cX11_wording 2 = .ok (.invokevirtual 174, 3) := by decide +kernel
theorem dX11_wording_5 : decode cX11_wording 5 = .ok (.ifCond .eq 15, 3) := by decide +kernel
theorem dX11_wording_8 : decode cX11_wording 8 = .ok (.iload_n 2, 1) := by decide +kernel
theorem dX11_wording_9 : decode cX11_wording 9 = .ok (.i2l, 1) := by decide +kernel
theorem dX11_wording_10 : decode cX11_wording 10 = .ok (.lconst 0, 1) := by decide +kernel
theorem dX11_wording_11 : decode cX11_wording 11 = .ok (.ldc2_w 211, 3) := by decide +kernel
theorem dX11_wording_14 : decode cX11_wording 14 = .ok (.invokestatic 120, 3) := by decide +kernel
theorem dX11_wording_17 : decode cX11_wording 17 = .ok (.ifCond .ne 5, 3) := by decide +kernel
theorem dX11_wording_20 : decode cX11_wording 20 = .ok (.iconst (-1), 1) := by decide +kernel
theorem dX11_wording_21 : decode cX11_wording 21 = .ok (.ireturn, 1) := by decide +kernel
theorem dX11_wording_22 : decode cX11_wording 22 = .ok (.aload_n 0, 1) := by decide +kernel
theorem dX11_wording_23 : decode cX11_wording 23 = .ok (.iload_n 1, 1) := by decide +kernel
theorem dX11_wording_24 : decode cX11_wording 24 = .ok (.invokevirtual 232, 3) := by decide +kernel
theorem dX11_wording_27 : decode cX11_wording 27 = .ok (.ifCond .ne 6, 3) := by decide +kernel
theorem dX11_wording_30 : decode cX11_wording 30 = .ok (.bipush (-2), 2) := by decide +kernel
theorem dX11_wording_32 : decode cX11_wording 32 = .ok (.ireturn, 1) := by decide +kernel
theorem dX11_wording_33 : decode cX11_wording 33 = .ok (.iconst 3, 1) := by decide +kernel
theorem dX11_wording_34 : decode cX11_wording 34 = .ok (.istore_n 3, 1) := by decide +kernel
theorem dX11_wording_35 : decode cX11_wording 35 = .ok (.aload_n 0, 1) := by decide +kernel
theorem dX11_wording_36 : decode cX11_wording 36 = .ok (.iconst 0, 1) := by decide +kernel
theorem dX11_wording_37 : decode cX11_wording 37 = .ok (.iconst 0, 1) := by decide +kernel
theorem dX11_wording_38 : decode cX11_wording 38 = .ok (.iload_n 2, 1) := by decide +kernel
theorem dX11_wording_39 : decode cX11_wording 39 = .ok (.invokevirtual 247, 3) := by decide +kernel
theorem dX11_wording_42 : decode cX11_wording 42 = .ok (.istore 4, 2) := by decide +kernel
theorem dX11_wording_44 : decode cX11_wording 44 = .ok (.iconst 0, 1) := by decide +kernel
theorem dX11_wording_45 : decode cX11_wording 45 = .ok (.istore 5, 2) := by decide +kernel
theorem dX11_wording_47 : decode cX11_wording 47 = .ok (.iload 5, 2) := by decide +kernel
theorem dX11_wording_49 : decode cX11_wording 49 = .ok (.iconst 3, 1) := by decide +kernel
theorem dX11_wording_50 : decode cX11_wording 50 = .ok (.if_icmp .ge 51, 3) := by decide +kernel
theorem dX11_wording_53 : decode cX11_wording 53 = .ok (.aload_n 0, 1) := by decide +kernel
theorem dX11_wording_54 : decode cX11_wording 54 = .ok (.iconst 1, 1) := by decide +kernel
theorem dX11_wording_55 : decode cX11_wording 55 = .ok (.iload_n 1, 1) := by decide +kernel
theorem dX11_wording_56 : decode cX11_wording 56 = .ok (.ishl, 1) := by decide +kernel
theorem dX11_wording_57 : decode cX11_wording 57 = .ok (.iload 5, 2) := by decide +kernel
theorem dX11_wording_59 : decode cX11_wording 59 = .ok (.iload_n 2, 1) := by decide +kernel
theorem dX11_wording_60 : decode cX11_wording 60 = .ok (.invokevirtual 247, 3) := by decide +kernel
theorem dX11_wording_63 : decode cX11_wording 63 = .ok (.istore 6, 2) := by decide +kernel
theorem dX11_wording_65 : decode cX11_wording 65 = .ok (.iload 6, 2) := by decide +kernel
theorem dX11_wording_67 : decode cX11_wording 67 = .ok (.iload 4, 2) := by decide +kernel
theorem dX11_wording_69 : decode cX11_wording 69 = .ok (.if_icmp .ge 8, 3) := by decide +kernel
theorem dX11_wording_72 : decode cX11_wording 72 = .ok (.iload 5, 2) := by decide +kernel
theorem dX11_wording_74 : decode cX11_wording 74 = .ok (.goto 4, 3) := by decide +kernel
theorem dX11_wording_77 : decode cX11_wording 77 = .ok (.iload_n 3, 1) := by decide +kernel
theorem dX11_wording_78 : decode cX11_wording 78 = .ok (.istore_n 3, 1) := by decide +kernel
theorem dX11_wording_79 : decode cX11_wording 79 = .ok (.iload 6, 2) := by decide +kernel
theorem dX11_wording_81 : decode cX11_wording 81 = .ok (.iload 4, 2) := by decide +kernel
theorem dX11_wording_83 : decode cX11_wording 83 = .ok (.if_icmp .ge 8, 3) := by decide +kernel
theorem dX11_wording_86 : decode cX11_wording 86 = .ok (.iload 6, 2) := by decide +kernel
theorem dX11_wording_88 : decode cX11_wording 88 = .ok (.goto 5, 3) := by decide +kernel
theorem dX11_wording_91 : decode cX11_wording 91 = .ok (.iload 4, 2) := by decide +kernel
theorem dX11_wording_93 : decode cX11_wording 93 = .ok (.istore 4, 2) := by decide +kernel
theorem dX11_wording_95 : decode cX11_wording 95 = .ok (.iinc 5 1, 3) := by decide +kernel
theorem dX11_wording_98 : decode cX11_wording 98 = .ok (.goto (-51), 3) := by decide +kernel
theorem dX11_wording_101 : decode cX11_wording 101 = .ok (.iload_n 3, 1) := by decide +kernel
theorem dX11_wording_102 : decode cX11_wording 102 = .ok (.ireturn, 1) := by decide +kernel
theorem dX11_size_0 : decode cX11_size 0 = .ok (.iconst 0, 1) := by decide +kernel
theorem dX11_size_1 : decode cX11_size 1 = .ok (.istore_n 1, 1) := by decide +kernel
theorem dX11_size_2 : decode cX11_size 2 = .ok (.iconst 0, 1) := by decide +kernel
theorem dX11_size_3 : decode cX11_size 3 = .ok (.istore_n 2, 1) := by decide +kernel
theorem dX11_size_4 : decode cX11_size 4 = .ok (.iload_n 2, 1) := by decide +kernel
theorem dX11_size_5 : decode cX11_size 5 = .ok (.bipush 8, 2) := by decide +kernel
theorem dX11_size_7 : decode cX11_size 7 = .ok (.if_icmp .ge 17, 3) := by decide +kernel
theorem dX11_size_10 : decode cX11_size 10 = .ok (.iload_n 1, 1) := by decide +kernel
theorem dX11_size_11 : decode cX11_size 11 = .ok (.iload_n 0, 1) := by decide +kernel
theorem dX11_size_12 : decode cX11_size 12 = .ok (.iload_n 2, 1) := by decide +kernel
theorem dX11_size_13 : decode cX11_size 13 = .ok (.ishr, 1) := by decide +kernel
theorem dX11_size_14 : decode cX11_size 14 = .ok (.iconst 1, 1) := by decide +kernel
theorem dX11_size_15 : decode cX11_size 15 = .ok (.iand, 1) := by decide +kernel
theorem dX11_size_16 : decode cX11_size 16 = .ok (.iadd, 1) := by decide +kernel
theorem dX11_size_17 : decode cX11_size 17 = .ok (.istore_n 1, 1) := by decide +kernel
theorem dX11_size_18 : decode cX11_size 18 = .ok (.iinc 2 1, 3) := by decide +kernel
theorem dX11_size_21 : decode cX11_size 21 = .ok (.goto (-17), 3) := by decide +kernel
theorem dX11_size_24 : decode cX11_size 24 = .ok (.iload_n 1, 1) := by decide +kernel
theorem dX11_size_25 : decode cX11_size 25 = .ok (.ireturn, 1) := by decide +kernel
theorem dX11_plan_0 : decode cX11_plan 0 = .ok (.iload_n 1, 1) := by decide +kernel
theorem dX11_plan_1 : decode cX11_plan 1 = .ok (.i2l, 1) := by decide +kernel
theorem dX11_plan_2 : decode cX11_plan 2 = .ok (.lconst 0, 1) := by decide +kernel
theorem dX11_plan_3 : decode cX11_plan 3 = .ok (.iconst 1, 1) := by decide +kernel
theorem dX11_plan_4 : decode cX11_plan 4 = .ok (.aload_n 0, 1) := by decide +kernel
theorem dX11_plan_5 : decode cX11_plan 5 = .ok (.getfield 157, 3) := by decide +kernel
theorem dX11_plan_8 : decode cX11_plan 8 = .ok (.ishl, 1) := by decide +kernel
theorem dX11_plan_9 : decode cX11_plan 9 = .ok (.iconst 1, 1) := by decide +kernel
theorem dX11_plan_10 : decode cX11_plan 10 = .ok (.isub, 1) := by decide +kernel
theorem dX11_plan_11 : decode cX11_plan 11 = .ok (.i2l, 1) := by decide +kernel
theorem dX11_plan_12 : decode cX11_plan 12 = .ok (.invokestatic 120, 3) := by decide +kernel
theorem dX11_plan_15 : decode cX11_plan 15 = .ok (.ifCond .eq 23, 3) := by decide +kernel
theorem dX11_plan_18 : decode cX11_plan 18 = .ok (.iload_n 1, 1) := by decide +kernel
theorem dX11_plan_19 : decode cX11_plan 19 = .ok (.invokestatic 251, 3) := by decide +kernel
theorem dX11_plan_22 : decode cX11_plan 22 = .ok (.iconst 4, 1) := by decide +kernel
theorem dX11_plan_23 : decode cX11_plan 23 = .ok (.if_icmp .gt 15, 3) := by decide +kernel
theorem dX11_plan_26 : decode cX11_plan 26 = .ok (.iload_n 2, 1) := by decide +kernel
theorem dX11_plan_27 : decode cX11_plan 27 = .ok (.i2l, 1) := by decide +kernel
theorem dX11_plan_28 : decode cX11_plan 28 = .ok (.lconst 0, 1) := by decide +kernel
theorem dX11_plan_29 : decode cX11_plan 29 = .ok (.ldc2_w 254, 3) := by decide +kernel
theorem dX11_plan_32 : decode cX11_plan 32 = .ok (.invokestatic 120, 3) := by decide +kernel
theorem dX11_plan_35 : decode cX11_plan 35 = .ok (.ifCond .ne 5, 3) := by decide +kernel
theorem dX11_plan_38 : decode cX11_plan 38 = .ok (.iconst (-1), 1) := by decide +kernel
theorem dX11_plan_39 : decode cX11_plan 39 = .ok (.ireturn, 1) := by decide +kernel
theorem dX11_plan_40 : decode cX11_plan 40 = .ok (.iconst 0, 1) := by decide +kernel
theorem dX11_plan_41 : decode cX11_plan 41 = .ok (.istore_n 3, 1) := by decide +kernel
theorem dX11_plan_42 : decode cX11_plan 42 = .ok (.iload_n 3, 1) := by decide +kernel
theorem dX11_plan_43 : decode cX11_plan 43 = .ok (.aload_n 0, 1) := by decide +kernel
theorem dX11_plan_44 : decode cX11_plan 44 = .ok (.getfield 157, 3) := by decide +kernel
theorem dX11_plan_47 : decode cX11_plan 47 = .ok (.if_icmp .ge 29, 3) := by decide +kernel
theorem dX11_plan_50 : decode cX11_plan 50 = .ok (.iload_n 1, 1) := by decide +kernel
theorem dX11_plan_51 : decode cX11_plan 51 = .ok (.iload_n 3, 1) := by decide +kernel
theorem dX11_plan_52 : decode cX11_plan 52 = .ok (.ishr, 1) := by decide +kernel
theorem dX11_plan_53 : decode cX11_plan 53 = .ok (.iconst 1, 1) := by decide +kernel
theorem dX11_plan_54 : decode cX11_plan 54 = .ok (.iand, 1) := by decide +kernel
theorem dX11_plan_55 : decode cX11_plan 55 = .ok (.iconst 1, 1) := by decide +kernel
theorem dX11_plan_56 : decode cX11_plan 56 = .ok (.if_icmp .ne 14, 3) := by decide +kernel
theorem dX11_plan_59 : decode cX11_plan 59 = .ok (.aload_n 0, 1) := by decide +kernel
theorem dX11_plan_60 : decode cX11_plan 60 = .ok (.iload_n 3, 1) := by decide +kernel
theorem dX11_plan_61 : decode cX11_plan 61 = .ok (.invokevirtual 232, 3) := by decide +kernel
theorem dX11_plan_64 : decode cX11_plan 64 = .ok (.ifCond .ne 6, 3) := by decide +kernel
theorem dX11_plan_67 : decode cX11_plan 67 = .ok (.bipush (-2), 2) := by decide +kernel
theorem dX11_plan_69 : decode cX11_plan 69 = .ok (.ireturn, 1) := by decide +kernel
theorem dX11_plan_70 : decode cX11_plan 70 = .ok (.iinc 3 1, 3) := by decide +kernel
theorem dX11_plan_73 : decode cX11_plan 73 = .ok (.goto (-31), 3) := by decide +kernel
theorem dX11_plan_76 : decode cX11_plan 76 = .ok (.iconst 0, 1) := by decide +kernel
theorem dX11_plan_77 : decode cX11_plan 77 = .ok (.istore_n 3, 1) := by decide +kernel
theorem dX11_plan_78 : decode cX11_plan 78 = .ok (.aload_n 0, 1) := by decide +kernel
theorem dX11_plan_79 : decode cX11_plan 79 = .ok (.iconst 0, 1) := by decide +kernel
theorem dX11_plan_80 : decode cX11_plan 80 = .ok (.iconst 0, 1) := by decide +kernel
theorem dX11_plan_81 : decode cX11_plan 81 = .ok (.iload_n 2, 1) := by decide +kernel
theorem dX11_plan_82 : decode cX11_plan 82 = .ok (.invokevirtual 247, 3) := by decide +kernel
theorem dX11_plan_85 : decode cX11_plan 85 = .ok (.istore 4, 2) := by decide +kernel
theorem dX11_plan_87 : decode cX11_plan 87 = .ok (.iconst 1, 1) := by decide +kernel
theorem dX11_plan_88 : decode cX11_plan 88 = .ok (.istore 5, 2) := by decide +kernel
theorem dX11_plan_90 : decode cX11_plan 90 = .ok (.iload 5, 2) := by decide +kernel
theorem dX11_plan_92 : decode cX11_plan 92 = .ok (.iload_n 1, 1) := by decide +kernel
theorem dX11_plan_93 : decode cX11_plan 93 = .ok (.if_icmp .gt 87, 3) := by decide +kernel
theorem dX11_plan_96 : decode cX11_plan 96 = .ok (.iload 5, 2) := by decide +kernel
theorem dX11_plan_98 : decode cX11_plan 98 = .ok (.iload_n 1, 1) := by decide +kernel
theorem dX11_plan_99 : decode cX11_plan 99 = .ok (.iconst (-1), 1) := by decide +kernel
theorem dX11_plan_100 : decode cX11_plan 100 = .ok (.ixor, 1) := by decide +kernel
theorem dX11_plan_101 : decode cX11_plan 101 = .ok (.iand, 1) := by decide +kernel
theorem dX11_plan_102 : decode cX11_plan 102 = .ok (.ifCond .ne 72, 3) := by decide +kernel
theorem dX11_plan_105 : decode cX11_plan 105 = .ok (.aload_n 0, 1) := by decide +kernel
theorem dX11_plan_106 : decode cX11_plan 106 = .ok (.iload 5, 2) := by decide +kernel
theorem dX11_plan_108 : decode cX11_plan 108 = .ok (.iconst 0, 1) := by decide +kernel
theorem dX11_plan_109 : decode cX11_plan 109 = .ok (.iload_n 2, 1) := by decide +kernel
theorem dX11_plan_110 : decode cX11_plan 110 = .ok (.invokevirtual 247, 3) := by decide +kernel
theorem dX11_plan_113 : decode cX11_plan 113 = .ok (.istore 6, 2) := by decide +kernel
theorem dX11_plan_115 : decode cX11_plan 115 = .ok (.iload 6, 2) := by decide +kernel
theorem dX11_plan_117 : decode cX11_plan 117 = .ok (.iload 4, 2) := by decide +kernel
theorem dX11_plan_119 : decode cX11_plan 119 = .ok (.if_icmp .lt 22, 3) := by decide +kernel
theorem dX11_plan_122 : decode cX11_plan 122 = .ok (.iload 6, 2) := by decide +kernel
theorem dX11_plan_124 : decode cX11_plan 124 = .ok (.iload 4, 2) := by decide +kernel
theorem dX11_plan_126 : decode cX11_plan 126 = .ok (.if_icmp .ne 19, 3) := by decide +kernel
theorem dX11_plan_129 : decode cX11_plan 129 = .ok (.iload 5, 2) := by decide +kernel
theorem dX11_plan_131 : decode cX11_plan 131 = .ok (.invokestatic 251, 3) := by decide +kernel
theorem dX11_plan_134 : decode cX11_plan 134 = .ok (.iload_n 3, 1) := by decide +kernel
theorem dX11_plan_135 : decode cX11_plan 135 = .ok (.invokestatic 251, 3) := by decide +kernel
theorem dX11_plan_138 : decode cX11_plan 138 = .ok (.if_icmp .ge 7, 3) := by decide +kernel
theorem dX11_plan_141 : decode cX11_plan 141 = .ok (.iconst 1, 1) := by decide +kernel
theorem dX11_plan_142 : decode cX11_plan 142 = .ok (.goto 4, 3) := by decide +kernel
theorem dX11_plan_145 : decode cX11_plan 145 = .ok (.iconst 0, 1) := by decide +kernel
theorem dX11_plan_146 : decode cX11_plan 146 = .ok (.istore 7, 2) := by decide +kernel
theorem dX11_plan_148 : decode cX11_plan 148 = .ok (.iload 7, 2) := by decide +kernel
theorem dX11_plan_150 : decode cX11_plan 150 = .ok (.ifCond .eq 8, 3) := by decide +kernel
theorem dX11_plan_153 : decode cX11_plan 153 = .ok (.iload 5, 2) := by decide +kernel
theorem dX11_plan_155 : decode cX11_plan 155 = .ok (.goto 4, 3) := by decide +kernel
theorem dX11_plan_158 : decode cX11_plan 158 = .ok (.iload_n 3, 1) := by decide +kernel
theorem dX11_plan_159 : decode cX11_plan 159 = .ok (.istore_n 3, 1) := by decide +kernel
theorem dX11_plan_160 : decode cX11_plan 160 = .ok (.iload 7, 2) := by decide +kernel
theorem dX11_plan_162 : decode cX11_plan 162 = .ok (.ifCond .eq 8, 3) := by decide +kernel
theorem dX11_plan_165 : decode cX11_plan 165 = .ok (.iload 6, 2) := by decide +kernel
theorem dX11_plan_167 : decode cX11_plan 167 = .ok (.goto 5, 3) := by decide +kernel
theorem dX11_plan_170 : decode cX11_plan 170 = .ok (.iload 4, 2) := by decide +kernel
theorem dX11_plan_172 : decode cX11_plan 172 = .ok (.istore 4, 2) := by decide +kernel
theorem dX11_plan_174 : decode cX11_plan 174 = .ok (.iinc 5 1, 3) := by decide +kernel
theorem dX11_plan_177 : decode cX11_plan 177 = .ok (.goto (-87), 3) := by decide +kernel
theorem dX11_plan_180 : decode cX11_plan 180 = .ok (.iload_n 3, 1) := by decide +kernel
theorem dX11_plan_181 : decode cX11_plan 181 = .ok (.ireturn, 1) := by decide +kernel
theorem dX11_type_0 : decode cX11_type 0 = .ok (.iload_n 3, 1) := by decide +kernel
theorem dX11_type_1 : decode cX11_type 1 = .ok (.i2l, 1) := by decide +kernel
theorem dX11_type_2 : decode cX11_type 2 = .ok (.lconst 1, 1) := by decide +kernel
theorem dX11_type_3 : decode cX11_type 3 = .ok (.ldc2_w 143, 3) := by decide +kernel
theorem dX11_type_6 : decode cX11_type 6 = .ok (.invokestatic 120, 3) := by decide +kernel
theorem dX11_type_9 : decode cX11_type 9 = .ok (.ifCond .ne 5, 3) := by decide +kernel
theorem dX11_type_12 : decode cX11_type 12 = .ok (.iconst (-1), 1) := by decide +kernel
theorem dX11_type_13 : decode cX11_type 13 = .ok (.ireturn, 1) := by decide +kernel
theorem dX11_type_14 : decode cX11_type 14 = .ok (.iconst 0, 1) := by decide +kernel
theorem dX11_type_15 : decode cX11_type 15 = .ok (.istore 4, 2) := by decide +kernel
theorem dX11_type_17 : decode cX11_type 17 = .ok (.iload 4, 2) := by decide +kernel
theorem dX11_type_19 : decode cX11_type 19 = .ok (.iload_n 3, 1) := by decide +kernel
theorem dX11_type_20 : decode cX11_type 20 = .ok (.if_icmp .ge 34, 3) := by decide +kernel
theorem dX11_type_23 : decode cX11_type 23 = .ok (.lload_n 1, 1) := by decide +kernel
theorem dX11_type_24 : decode cX11_type 24 = .ok (.bipush 8, 2) := by decide +kernel
theorem dX11_type_26 : decode cX11_type 26 = .ok (.iload 4, 2) := by decide +kernel
theorem dX11_type_28 : decode cX11_type 28 = .ok (.imul, 1) := by decide +kernel
theorem dX11_type_29 : decode cX11_type 29 = .ok (.lshr, 1) := by decide +kernel
theorem dX11_type_30 : decode cX11_type 30 = .ok (.ldc2_w 256, 3) := by decide +kernel
theorem dX11_type_33 : decode cX11_type 33 = .ok (.land, 1) := by decide +kernel
theorem dX11_type_34 : decode cX11_type 34 = .ok (.ldc2_w 258, 3) := by decide +kernel
theorem dX11_type_37 : decode cX11_type 37 = .ok (.ldc2_w 260, 3) := by decide +kernel
theorem dX11_type_40 : decode cX11_type 40 = .ok (.invokestatic 120, 3) := by decide +kernel
theorem dX11_type_43 : decode cX11_type 43 = .ok (.ifCond .ne 5, 3) := by decide +kernel
theorem dX11_type_46 : decode cX11_type 46 = .ok (.iconst (-1), 1) := by decide +kernel
theorem dX11_type_47 : decode cX11_type 47 = .ok (.ireturn, 1) := by decide +kernel
theorem dX11_type_48 : decode cX11_type 48 = .ok (.iinc 4 1, 3) := by decide +kernel
theorem dX11_type_51 : decode cX11_type 51 = .ok (.goto (-34), 3) := by decide +kernel
theorem dX11_type_54 : decode cX11_type 54 = .ok (.aload_n 0, 1) := by decide +kernel
theorem dX11_type_55 : decode cX11_type 55 = .ok (.getfield 262, 3) := by decide +kernel
theorem dX11_type_58 : decode cX11_type 58 = .ok (.iload_n 3, 1) := by decide +kernel
theorem dX11_type_59 : decode cX11_type 59 = .ok (.iadd, 1) := by decide +kernel
theorem dX11_type_60 : decode cX11_type 60 = .ok (.bipush 120, 2) := by decide +kernel
theorem dX11_type_62 : decode cX11_type 62 = .ok (.if_icmp .le 6, 3) := by decide +kernel
theorem dX11_type_65 : decode cX11_type 65 = .ok (.bipush (-3), 2) := by decide +kernel
theorem dX11_type_67 : decode cX11_type 67 = .ok (.ireturn, 1) := by decide +kernel
theorem dX11_type_68 : decode cX11_type 68 = .ok (.iload_n 3, 1) := by decide +kernel
theorem dX11_type_69 : decode cX11_type 69 = .ok (.iconst 1, 1) := by decide +kernel
theorem dX11_type_70 : decode cX11_type 70 = .ok (.isub, 1) := by decide +kernel
theorem dX11_type_71 : decode cX11_type 71 = .ok (.istore 4, 2) := by decide +kernel
theorem dX11_type_73 : decode cX11_type 73 = .ok (.iload 4, 2) := by decide +kernel
theorem dX11_type_75 : decode cX11_type 75 = .ok (.ifCond .lt 40, 3) := by decide +kernel
theorem dX11_type_78 : decode cX11_type 78 = .ok (.aload_n 0, 1) := by decide +kernel
theorem dX11_type_79 : decode cX11_type 79 = .ok (.getfield 68, 3) := by decide +kernel
theorem dX11_type_82 : decode cX11_type 82 = .ok (.aload_n 0, 1) := by decide +kernel
theorem dX11_type_83 : decode cX11_type 83 = .ok (.getfield 262, 3) := by decide +kernel
theorem dX11_type_86 : decode cX11_type 86 = .ok (.lload_n 1, 1) := by decide +kernel
theorem dX11_type_87 : decode cX11_type 87 = .ok (.bipush 8, 2) := by decide +kernel
theorem dX11_type_89 : decode cX11_type 89 = .ok (.iload 4, 2) := by decide +kernel
theorem dX11_type_91 : decode cX11_type 91 = .ok (.imul, 1) := by decide +kernel
theorem dX11_type_92 : decode cX11_type 92 = .ok (.lshr, 1) := by decide +kernel
theorem dX11_type_93 : decode cX11_type 93 = .ok (.ldc2_w 256, 3) := by decide +kernel
theorem dX11_type_96 : decode cX11_type 96 = .ok (.land, 1) := by decide +kernel
theorem dX11_type_97 : decode cX11_type 97 = .ok (.l2i, 1) := by decide +kernel
theorem dX11_type_98 : decode cX11_type 98 = .ok (.iastore, 1) := by decide +kernel
theorem dX11_type_99 : decode cX11_type 99 = .ok (.aload_n 0, 1) := by decide +kernel
theorem dX11_type_100 : decode cX11_type 100 = .ok (.dup, 1) := by decide +kernel
theorem dX11_type_101 : decode cX11_type 101 = .ok (.getfield 262, 3) := by decide +kernel
theorem dX11_type_104 : decode cX11_type 104 = .ok (.iconst 1, 1) := by decide +kernel
theorem dX11_type_105 : decode cX11_type 105 = .ok (.iadd, 1) := by decide +kernel
theorem dX11_type_106 : decode cX11_type 106 = .ok (.putfield 262, 3) := by decide +kernel
theorem dX11_type_109 : decode cX11_type 109 = .ok (.iinc 4 (-1), 3) := by decide +kernel
theorem dX11_type_112 : decode cX11_type 112 = .ok (.goto (-39), 3) := by decide +kernel
theorem dX11_type_115 : decode cX11_type 115 = .ok (.aload_n 0, 1) := by decide +kernel
theorem dX11_type_116 : decode cX11_type 116 = .ok (.getfield 262, 3) := by decide +kernel
theorem dX11_type_119 : decode cX11_type 119 = .ok (.ireturn, 1) := by decide +kernel
theorem dX11_next_0 : decode cX11_next 0 = .ok (.aload_n 0, 1) := by decide +kernel
theorem dX11_next_1 : decode cX11_next 1 = .ok (.getfield 265, 3) := by decide +kernel
theorem dX11_next_4 : decode cX11_next 4 = .ok (.aload_n 0, 1) := by decide +kernel
theorem dX11_next_5 : decode cX11_next 5 = .ok (.getfield 268, 3) := by decide +kernel
theorem dX11_next_8 : decode cX11_next 8 = .ok (.if_icmp .ge 30, 3) := by decide +kernel
theorem dX11_next_11 : decode cX11_next 11 = .ok (.aload_n 0, 1) := by decide +kernel
theorem dX11_next_12 : decode cX11_next 12 = .ok (.getfield 71, 3) := by decide +kernel
theorem dX11_next_15 : decode cX11_next 15 = .ok (.aload_n 0, 1) := by decide +kernel
theorem dX11_next_16 : decode cX11_next 16 = .ok (.getfield 265, 3) := by decide +kernel
theorem dX11_next_19 : decode cX11_next 19 = .ok (.iaload, 1) := by decide +kernel
theorem dX11_next_20 : decode cX11_next 20 = .ok (.bipush 32, 2) := by decide +kernel
theorem dX11_next_22 : decode cX11_next 22 = .ok (.if_icmp .ne 16, 3) := by decide +kernel
theorem dX11_next_25 : decode cX11_next 25 = .ok (.aload_n 0, 1) := by decide +kernel
theorem dX11_next_26 : decode cX11_next 26 = .ok (.dup, 1) := by decide +kernel
theorem dX11_next_27 : decode cX11_next 27 = .ok (.getfield 265, 3) := by decide +kernel
theorem dX11_next_30 : decode cX11_next 30 = .ok (.iconst 1, 1) := by decide +kernel
theorem dX11_next_31 : decode cX11_next 31 = .ok (.iadd, 1) := by decide +kernel
theorem dX11_next_32 : decode cX11_next 32 = .ok (.putfield 265, 3) := by decide +kernel
theorem dX11_next_35 : decode cX11_next 35 = .ok (.goto (-35), 3) := by decide +kernel
theorem dX11_next_38 : decode cX11_next 38 = .ok (.aload_n 0, 1) := by decide +kernel
theorem dX11_next_39 : decode cX11_next 39 = .ok (.getfield 265, 3) := by decide +kernel
theorem dX11_next_42 : decode cX11_next 42 = .ok (.aload_n 0, 1) := by decide +kernel
theorem dX11_next_43 : decode cX11_next 43 = .ok (.getfield 268, 3) := by decide +kernel
theorem dX11_next_46 : decode cX11_next 46 = .ok (.if_icmp .ge 15, 3) := by decide +kernel
theorem dX11_next_49 : decode cX11_next 49 = .ok (.aload_n 0, 1) := by decide +kernel
theorem dX11_next_50 : decode cX11_next 50 = .ok (.getfield 71, 3) := by decide +kernel
theorem dX11_next_53 : decode cX11_next 53 = .ok (.aload_n 0, 1) := by decide +kernel
theorem dX11_next_54 : decode cX11_next 54 = .ok (.getfield 265, 3) := by decide +kernel
theorem dX11_next_57 : decode cX11_next 57 = .ok (.iaload, 1) := by decide +kernel
theorem dX11_next_58 : decode cX11_next 58 = .ok (.goto 4, 3) := by decide +kernel
theorem dX11_next_61 : decode cX11_next 61 = .ok (.iconst 0, 1) := by decide +kernel
theorem dX11_next_62 : decode cX11_next 62 = .ok (.ireturn, 1) := by decide +kernel
theorem dX11_passes_0 : decode cX11_passes 0 = .ok (.aload_n 0, 1) := by decide +kernel
theorem dX11_passes_1 : decode cX11_passes 1 = .ok (.getfield 271, 3) := by decide +kernel
theorem dX11_passes_4 : decode cX11_passes 4 = .ok (.ifCond .ne 15, 3) := by decide +kernel
theorem dX11_passes_7 : decode cX11_passes 7 = .ok (.aload_n 0, 1) := by decide +kernel
theorem dX11_passes_8 : decode cX11_passes 8 = .ok (.invokevirtual 275, 3) := by decide +kernel
theorem dX11_passes_11 : decode cX11_passes 11 = .ok (.iload_n 1, 1) := by decide +kernel
theorem dX11_passes_12 : decode cX11_passes 12 = .ok (.if_icmp .ne 7, 3) := by decide +kernel
theorem dX11_passes_15 : decode cX11_passes 15 = .ok (.iconst 1, 1) := by decide +kernel
theorem dX11_passes_16 : decode cX11_passes 16 = .ok (.goto 4, 3) := by decide +kernel
theorem dX11_passes_19 : decode cX11_passes 19 = .ok (.iconst 0, 1) := by decide +kernel
theorem dX11_passes_20 : decode cX11_passes 20 = .ok (.istore_n 2, 1) := by decide +kernel
theorem dX11_passes_21 : decode cX11_passes 21 = .ok (.aload_n 0, 1) := by decide +kernel
theorem dX11_passes_22 : decode cX11_passes 22 = .ok (.dup, 1) := by decide +kernel
theorem dX11_passes_23 : decode cX11_passes 23 = .ok (.getfield 265, 3) := by decide +kernel
theorem dX11_passes_26 : decode cX11_passes 26 = .ok (.iload_n 2, 1) := by decide +kernel
theorem dX11_passes_27 : decode cX11_passes 27 = .ok (.ifCond .eq 7, 3) := by decide +kernel
theorem dX11_passes_30 : decode cX11_passes 30 = .ok (.iconst 1, 1) := by decide +kernel
theorem dX11_passes_31 : decode cX11_passes 31 = .ok (.goto 4, 3) := by decide +kernel
theorem dX11_passes_34 : decode cX11_passes 34 = .ok (.iconst 0, 1) := by decide +kernel
theorem dX11_passes_35 : decode cX11_passes 35 = .ok (.iadd, 1) := by decide +kernel
theorem dX11_passes_36 : decode cX11_passes 36 = .ok (.putfield 265, 3) := by decide +kernel
theorem dX11_passes_39 : decode cX11_passes 39 = .ok (.iload_n 2, 1) := by decide +kernel
theorem dX11_passes_40 : decode cX11_passes 40 = .ok (.ireturn, 1) := by decide +kernel
theorem dX11_claim_0 : decode cX11_claim 0 = .ok (.aload_n 0, 1) := by decide +kernel
theorem dX11_claim_1 : decode cX11_claim 1 = .ok (.invokevirtual 275, 3) := by decide +kernel
theorem dX11_claim_4 : decode cX11_claim 4 = .ok (.istore_n 2, 1) := by decide +kernel
theorem dX11_claim_5 : decode cX11_claim 5 = .ok (.iload_n 2, 1) := by decide +kernel
theorem dX11_claim_6 : decode cX11_claim 6 = .ok (.bipush 119, 2) := by decide +kernel
theorem dX11_claim_8 : decode cX11_claim 8 = .ok (.if_icmp .ne 7, 3) := by decide +kernel
theorem dX11_claim_11 : decode cX11_claim 11 = .ok (.iconst 1, 1) := by decide +kernel
theorem dX11_claim_12 : decode cX11_claim 12 = .ok (.goto 34, 3) := by decide +kernel
theorem dX11_claim_15 : decode cX11_claim 15 = .ok (.iload_n 2, 1) := by decide +kernel
theorem dX11_claim_16 : decode cX11_claim 16 = .ok (.bipush 116, 2) := by decide +kernel
theorem dX11_claim_18 : decode cX11_claim 18 = .ok (.if_icmp .ne 7, 3) := by decide +kernel
theorem dX11_claim_21 : decode cX11_claim 21 = .ok (.iconst 2, 1) := by decide +kernel
theorem dX11_claim_22 : decode cX11_claim 22 = .ok (.goto 24, 3) := by decide +kernel
theorem dX11_claim_25 : decode cX11_claim 25 = .ok (.iload_n 2, 1) := by decide +kernel
theorem dX11_claim_26 : decode cX11_claim 26 = .ok (.bipush 110, 2) := by decide +kernel
theorem dX11_claim_28 : decode cX11_claim 28 = .ok (.if_icmp .ne 7, 3) := by decide +kernel
theorem dX11_claim_31 : decode cX11_claim 31 = .ok (.iconst 3, 1) := by decide +kernel
theorem dX11_claim_32 : decode cX11_claim 32 = .ok (.goto 14, 3) := by decide +kernel
theorem dX11_claim_35 : decode cX11_claim 35 = .ok (.iload_n 2, 1) := by decide +kernel
theorem dX11_claim_36 : decode cX11_claim 36 = .ok (.bipush 112, 2) := by decide +kernel
theorem dX11_claim_38 : decode cX11_claim 38 = .ok (.if_icmp .ne 7, 3) := by decide +kernel
theorem dX11_claim_41 : decode cX11_claim 41 = .ok (.iconst 4, 1) := by decide +kernel
theorem dX11_claim_42 : decode cX11_claim 42 = .ok (.goto 4, 3) := by decide +kernel
theorem dX11_claim_45 : decode cX11_claim 45 = .ok (.iconst 0, 1) := by decide +kernel
theorem dX11_claim_46 : decode cX11_claim 46 = .ok (.istore_n 3, 1) := by decide +kernel
theorem dX11_claim_47 : decode cX11_claim 47 = .ok (.aload_n 0, 1) := by decide +kernel
theorem dX11_claim_48 : decode cX11_claim 48 = .ok (.iload_n 3, 1) := by decide +kernel
theorem dX11_claim_49 : decode cX11_claim 49 = .ok (.ifCond .ne 7, 3) := by decide +kernel
theorem dX11_claim_52 : decode cX11_claim 52 = .ok (.iconst 1, 1) := by decide +kernel
theorem dX11_claim_53 : decode cX11_claim 53 = .ok (.goto 4, 3) := by decide +kernel
theorem dX11_claim_56 : decode cX11_claim 56 = .ok (.iconst 0, 1) := by decide +kernel
theorem dX11_claim_57 : decode cX11_claim 57 = .ok (.putfield 271, 3) := by decide +kernel
theorem dX11_claim_60 : decode cX11_claim 60 = .ok (.aload_n 0, 1) := by decide +kernel
theorem dX11_claim_61 : decode cX11_claim 61 = .ok (.dup, 1) := by decide +kernel
theorem dX11_claim_62 : decode cX11_claim 62 = .ok (.getfield 265, 3) := by decide +kernel
theorem dX11_claim_65 : decode cX11_claim 65 = .ok (.aload_n 0, 1) := by decide +kernel
theorem dX11_claim_66 : decode cX11_claim 66 = .ok (.getfield 271, 3) := by decide +kernel
theorem dX11_claim_69 : decode cX11_claim 69 = .ok (.ifCond .eq 7, 3) := by decide +kernel
theorem dX11_claim_72 : decode cX11_claim 72 = .ok (.iconst 0, 1) := by decide +kernel
theorem dX11_claim_73 : decode cX11_claim 73 = .ok (.goto 4, 3) := by decide +kernel
theorem dX11_claim_76 : decode cX11_claim 76 = .ok (.iconst 1, 1) := by decide +kernel
theorem dX11_claim_77 : decode cX11_claim 77 = .ok (.iadd, 1) := by decide +kernel
theorem dX11_claim_78 : decode cX11_claim 78 = .ok (.putfield 265, 3) := by decide +kernel
theorem dX11_claim_81 : decode cX11_claim 81 = .ok (.aload_n 0, 1) := by decide +kernel
theorem dX11_claim_82 : decode cX11_claim 82 = .ok (.getfield 271, 3) := by decide +kernel
theorem dX11_claim_85 : decode cX11_claim 85 = .ok (.ifCond .eq 7, 3) := by decide +kernel
theorem dX11_claim_88 : decode cX11_claim 88 = .ok (.iconst 0, 1) := by decide +kernel
theorem dX11_claim_89 : decode cX11_claim 89 = .ok (.goto 7, 3) := by decide +kernel
theorem dX11_claim_92 : decode cX11_claim 92 = .ok (.aload_n 0, 1) := by decide +kernel
theorem dX11_claim_93 : decode cX11_claim 93 = .ok (.invokevirtual 275, 3) := by decide +kernel
theorem dX11_claim_96 : decode cX11_claim 96 = .ok (.istore 4, 2) := by decide +kernel
theorem dX11_claim_98 : decode cX11_claim 98 = .ok (.aload_n 0, 1) := by decide +kernel
theorem dX11_claim_99 : decode cX11_claim 99 = .ok (.aload_n 0, 1) := by decide +kernel
theorem dX11_claim_100 : decode cX11_claim 100 = .ok (.getfield 271, 3) := by decide +kernel
theorem dX11_claim_103 : decode cX11_claim 103 = .ok (.ifCond .ne 18, 3) := by decide +kernel
theorem dX11_claim_106 : decode cX11_claim 106 = .ok (.iload 4, 2) := by decide +kernel
theorem dX11_claim_108 : decode cX11_claim 108 = .ok (.i2l, 1) := by decide +kernel
theorem dX11_claim_109 : decode cX11_claim 109 = .ok (.ldc2_w 279, 3) := by decide +kernel
theorem dX11_claim_112 : decode cX11_claim 112 = .ok (.ldc2_w 281, 3) := by decide +kernel
theorem dX11_claim_115 : decode cX11_claim 115 = .ok (.invokestatic 120, 3) := by decide +kernel
theorem dX11_claim_118 : decode cX11_claim 118 = .ok (.ifCond .ne 7, 3) := by decide +kernel
theorem dX11_claim_121 : decode cX11_claim 121 = .ok (.iconst 1, 1) := by decide +kernel
theorem dX11_claim_122 : decode cX11_claim 122 = .ok (.goto 4, 3) := by decide +kernel
theorem dX11_claim_125 : decode cX11_claim 125 = .ok (.iconst 0, 1) := by decide +kernel
theorem dX11_claim_126 : decode cX11_claim 126 = .ok (.putfield 271, 3) := by decide +kernel
theorem dX11_claim_129 : decode cX11_claim 129 = .ok (.aload_n 0, 1) := by decide +kernel
theorem dX11_claim_130 : decode cX11_claim 130 = .ok (.dup, 1) := by decide +kernel
theorem dX11_claim_131 : decode cX11_claim 131 = .ok (.getfield 265, 3) := by decide +kernel
theorem dX11_claim_134 : decode cX11_claim 134 = .ok (.aload_n 0, 1) := by decide +kernel
theorem dX11_claim_135 : decode cX11_claim 135 = .ok (.getfield 271, 3) := by decide +kernel
theorem dX11_claim_138 : decode cX11_claim 138 = .ok (.ifCond .eq 7, 3) := by decide +kernel
theorem dX11_claim_141 : decode cX11_claim 141 = .ok (.iconst 0, 1) := by decide +kernel
theorem dX11_claim_142 : decode cX11_claim 142 = .ok (.goto 4, 3) := by decide +kernel
theorem dX11_claim_145 : decode cX11_claim 145 = .ok (.iconst 1, 1) := by decide +kernel
theorem dX11_claim_146 : decode cX11_claim 146 = .ok (.iadd, 1) := by decide +kernel
theorem dX11_claim_147 : decode cX11_claim 147 = .ok (.putfield 265, 3) := by decide +kernel
theorem dX11_claim_150 : decode cX11_claim 150 = .ok (.aload_n 0, 1) := by decide +kernel
theorem dX11_claim_151 : decode cX11_claim 151 = .ok (.getfield 271, 3) := by decide +kernel
theorem dX11_claim_154 : decode cX11_claim 154 = .ok (.ifCond .eq 7, 3) := by decide +kernel
theorem dX11_claim_157 : decode cX11_claim 157 = .ok (.iconst 0, 1) := by decide +kernel
theorem dX11_claim_158 : decode cX11_claim 158 = .ok (.goto 10, 3) := by decide +kernel
theorem dX11_claim_161 : decode cX11_claim 161 = .ok (.aload_n 0, 1) := by decide +kernel
theorem dX11_claim_162 : decode cX11_claim 162 = .ok (.invokevirtual 275, 3) := by decide +kernel
theorem dX11_claim_165 : decode cX11_claim 165 = .ok (.bipush 48, 2) := by decide +kernel
theorem dX11_claim_167 : decode cX11_claim 167 = .ok (.isub, 1) := by decide +kernel
theorem dX11_claim_168 : decode cX11_claim 168 = .ok (.istore 5, 2) := by decide +kernel
theorem dX11_claim_170 : decode cX11_claim 170 = .ok (.aload_n 0, 1) := by decide +kernel
theorem dX11_claim_171 : decode cX11_claim 171 = .ok (.aload_n 0, 1) := by decide +kernel
theorem dX11_claim_172 : decode cX11_claim 172 = .ok (.getfield 271, 3) := by decide +kernel
theorem dX11_claim_175 : decode cX11_claim 175 = .ok (.ifCond .ne 11, 3) := by decide +kernel
theorem dX11_claim_178 : decode cX11_claim 178 = .ok (.iload 5, 2) := by decide +kernel
theorem dX11_claim_180 : decode cX11_claim 180 = .ok (.invokestatic 163, 3) := by decide +kernel
theorem dX11_claim_183 : decode cX11_claim 183 = .ok (.ifCond .ne 7, 3) := by decide +kernel
theorem dX11_claim_186 : decode cX11_claim 186 = .ok (.iconst 1, 1) := by decide +kernel
theorem dX11_claim_187 : decode cX11_claim 187 = .ok (.goto 4, 3) := by decide +kernel
theorem dX11_claim_190 : decode cX11_claim 190 = .ok (.iconst 0, 1) := by decide +kernel
theorem dX11_claim_191 : decode cX11_claim 191 = .ok (.putfield 271, 3) := by decide +kernel
theorem dX11_claim_194 : decode cX11_claim 194 = .ok (.aload_n 0, 1) := by decide +kernel
theorem dX11_claim_195 : decode cX11_claim 195 = .ok (.dup, 1) := by decide +kernel
theorem dX11_claim_196 : decode cX11_claim 196 = .ok (.getfield 265, 3) := by decide +kernel
theorem dX11_claim_199 : decode cX11_claim 199 = .ok (.aload_n 0, 1) := by decide +kernel
theorem dX11_claim_200 : decode cX11_claim 200 = .ok (.getfield 271, 3) := by decide +kernel
theorem dX11_claim_203 : decode cX11_claim 203 = .ok (.ifCond .eq 7, 3) := by decide +kernel
theorem dX11_claim_206 : decode cX11_claim 206 = .ok (.iconst 0, 1) := by decide +kernel
theorem dX11_claim_207 : decode cX11_claim 207 = .ok (.goto 4, 3) := by decide +kernel
theorem dX11_claim_210 : decode cX11_claim 210 = .ok (.iconst 1, 1) := by decide +kernel
theorem dX11_claim_211 : decode cX11_claim 211 = .ok (.iadd, 1) := by decide +kernel
theorem dX11_claim_212 : decode cX11_claim 212 = .ok (.putfield 265, 3) := by decide +kernel
theorem dX11_claim_215 : decode cX11_claim 215 = .ok (.aload_n 0, 1) := by decide +kernel
theorem dX11_claim_216 : decode cX11_claim 216 = .ok (.getfield 271, 3) := by decide +kernel
theorem dX11_claim_219 : decode cX11_claim 219 = .ok (.ifCond .eq 7, 3) := by decide +kernel
theorem dX11_claim_222 : decode cX11_claim 222 = .ok (.iconst 0, 1) := by decide +kernel
theorem dX11_claim_223 : decode cX11_claim 223 = .ok (.goto 8, 3) := by decide +kernel
theorem dX11_claim_226 : decode cX11_claim 226 = .ok (.iload_n 1, 1) := by decide +kernel
theorem dX11_claim_227 : decode cX11_claim 227 = .ok (.iload_n 3, 1) := by decide +kernel
theorem dX11_claim_228 : decode cX11_claim 228 = .ok (.invokestatic 177, 3) := by decide +kernel
theorem dX11_claim_231 : decode cX11_claim 231 = .ok (.istore 6, 2) := by decide +kernel
theorem dX11_claim_233 : decode cX11_claim 233 = .ok (.iload 4, 2) := by decide +kernel
theorem dX11_claim_235 : decode cX11_claim 235 = .ok (.bipush 61, 2) := by decide +kernel
theorem dX11_claim_237 : decode cX11_claim 237 = .ok (.if_icmp .ne 18, 3) := by decide +kernel
theorem dX11_claim_240 : decode cX11_claim 240 = .ok (.iload 6, 2) := by decide +kernel
theorem dX11_claim_242 : decode cX11_claim 242 = .ok (.iload 5, 2) := by decide +kernel
theorem dX11_claim_244 : decode cX11_claim 244 = .ok (.if_icmp .ne 7, 3) := by decide +kernel
theorem dX11_claim_247 : decode cX11_claim 247 = .ok (.iconst 1, 1) := by decide +kernel
theorem dX11_claim_248 : decode cX11_claim 248 = .ok (.goto 41, 3) := by decide +kernel
theorem dX11_claim_251 : decode cX11_claim 251 = .ok (.iconst 0, 1) := by decide +kernel
theorem dX11_claim_252 : decode cX11_claim 252 = .ok (.goto 37, 3) := by decide +kernel
theorem dX11_claim_255 : decode cX11_claim 255 = .ok (.iload 4, 2) := by decide +kernel
theorem dX11_claim_257 : decode cX11_claim 257 = .ok (.bipush 60, 2) := by decide +kernel
theorem dX11_claim_259 : decode cX11_claim 259 = .ok (.if_icmp .ne 18, 3) := by decide +kernel
theorem dX11_claim_262 : decode cX11_claim 262 = .ok (.iload 6, 2) := by decide +kernel
theorem dX11_claim_264 : decode cX11_claim 264 = .ok (.iload 5, 2) := by decide +kernel
theorem dX11_claim_266 : decode cX11_claim 266 = .ok (.if_icmp .ge 7, 3) := by decide +kernel
theorem dX11_claim_269 : decode cX11_claim 269 = .ok (.iconst 1, 1) := by decide +kernel
theorem dX11_claim_270 : decode cX11_claim 270 = .ok (.goto 19, 3) := by decide +kernel
theorem dX11_claim_273 : decode cX11_claim 273 = .ok (.iconst 0, 1) := by decide +kernel
theorem dX11_claim_274 : decode cX11_claim 274 = .ok (.goto 15, 3) := by decide +kernel
theorem dX11_claim_277 : decode cX11_claim 277 = .ok (.iload 6, 2) := by decide +kernel
theorem dX11_claim_279 : decode cX11_claim 279 = .ok (.iload 5, 2) := by decide +kernel
theorem dX11_claim_281 : decode cX11_claim 281 = .ok (.if_icmp .le 7, 3) := by decide +kernel
theorem dX11_claim_284 : decode cX11_claim 284 = .ok (.iconst 1, 1) := by decide +kernel
theorem dX11_claim_285 : decode cX11_claim 285 = .ok (.goto 4, 3) := by decide +kernel
theorem dX11_claim_288 : decode cX11_claim 288 = .ok (.iconst 0, 1) := by decide +kernel
theorem dX11_claim_289 : decode cX11_claim 289 = .ok (.ireturn, 1) := by decide +kernel
theorem dX11_test_0 : decode cX11_test 0 = .ok (.iconst 0, 1) := by decide +kernel
theorem dX11_test_1 : decode cX11_test 1 = .ok (.istore_n 2, 1) := by decide +kernel
theorem dX11_test_2 : decode cX11_test 2 = .ok (.aload_n 0, 1) := by decide +kernel
theorem dX11_test_3 : decode cX11_test 3 = .ok (.getfield 77, 3) := by decide +kernel
theorem dX11_test_6 : decode cX11_test 6 = .ok (.iconst 0, 1) := by decide +kernel
theorem dX11_test_7 : decode cX11_test 7 = .ok (.iconst 0, 1) := by decide +kernel
theorem dX11_test_8 : decode cX11_test 8 = .ok (.bastore, 1) := by decide +kernel
theorem dX11_test_9 : decode cX11_test 9 = .ok (.aload_n 0, 1) := by decide +kernel
theorem dX11_test_10 : decode cX11_test 10 = .ok (.getfield 80, 3) := by decide +kernel
theorem dX11_test_13 : decode cX11_test 13 = .ok (.iconst 0, 1) := by decide +kernel
theorem dX11_test_14 : decode cX11_test 14 = .ok (.iconst 1, 1) := by decide +kernel
theorem dX11_test_15 : decode cX11_test 15 = .ok (.bastore, 1) := by decide +kernel
theorem dX11_test_16 : decode cX11_test 16 = .ok (.iconst 1, 1) := by decide +kernel
theorem dX11_test_17 : decode cX11_test 17 = .ok (.istore_n 3, 1) := by decide +kernel
theorem dX11_test_18 : decode cX11_test 18 = .ok (.aload_n 0, 1) := by decide +kernel
theorem dX11_test_19 : decode cX11_test 19 = .ok (.getfield 271, 3) := by decide +kernel
theorem dX11_test_22 : decode cX11_test 22 = .ok (.ifCond .ne 278, 3) := by decide +kernel
theorem dX11_test_25 : decode cX11_test 25 = .ok (.iload_n 3, 1) := by decide +kernel
theorem dX11_test_26 : decode cX11_test 26 = .ok (.ifCond .eq 102, 3) := by decide +kernel
theorem dX11_test_29 : decode cX11_test 29 = .ok (.aload_n 0, 1) := by decide +kernel
theorem dX11_test_30 : decode cX11_test 30 = .ok (.bipush 33, 2) := by decide +kernel
theorem dX11_test_32 : decode cX11_test 32 = .ok (.invokevirtual 283, 3) := by decide +kernel
theorem dX11_test_35 : decode cX11_test 35 = .ok (.istore 4, 2) := by decide +kernel
theorem dX11_test_37 : decode cX11_test 37 = .ok (.aload_n 0, 1) := by decide +kernel
theorem dX11_test_38 : decode cX11_test 38 = .ok (.invokevirtual 275, 3) := by decide +kernel
theorem dX11_test_41 : decode cX11_test 41 = .ok (.bipush 40, 2) := by decide +kernel
theorem dX11_test_43 : decode cX11_test 43 = .ok (.if_icmp .ne 46, 3) := by decide +kernel
theorem dX11_test_46 : decode cX11_test 46 = .ok (.iload_n 2, 1) := by decide +kernel
theorem dX11_test_47 : decode cX11_test 47 = .ok (.iconst 5, 1) := by decide +kernel
theorem dX11_test_48 : decode cX11_test 48 = .ok (.if_icmp .ge 41, 3) := by decide +kernel
theorem dX11_test_51 : decode cX11_test 51 = .ok (.aload_n 0, 1) := by decide +kernel
theorem dX11_test_52 : decode cX11_test 52 = .ok (.dup, 1) := by decide +kernel
theorem dX11_test_53 : decode cX11_test 53 = .ok (.getfield 265, 3) := by decide +kernel
theorem dX11_test_56 : decode cX11_test 56 = .ok (.iconst 1, 1) := by decide +kernel
theorem dX11_test_57 : decode cX11_test 57 = .ok (.iadd, 1) := by decide +kernel
theorem dX11_test_58 : decode cX11_test 58 = .ok (.putfield 265, 3) := by decide +kernel
theorem dX11_test_61 : decode cX11_test 61 = .ok (.aload_n 0, 1) := by decide +kernel
theorem dX11_test_62 : decode cX11_test 62 = .ok (.getfield 83, 3) := by decide +kernel
theorem dX11_test_65 : decode cX11_test 65 = .ok (.iload_n 2, 1) := by decide +kernel
theorem dX11_test_66 : decode cX11_test 66 = .ok (.iload 4, 2) := by decide +kernel
theorem dX11_test_68 : decode cX11_test 68 = .ok (.bastore, 1) := by decide +kernel
theorem dX11_test_69 : decode cX11_test 69 = .ok (.iinc 2 1, 3) := by decide +kernel
theorem dX11_test_72 : decode cX11_test 72 = .ok (.aload_n 0, 1) := by decide +kernel
theorem dX11_test_73 : decode cX11_test 73 = .ok (.getfield 77, 3) := by decide +kernel
theorem dX11_test_76 : decode cX11_test 76 = .ok (.iload_n 2, 1) := by decide +kernel
theorem dX11_test_77 : decode cX11_test 77 = .ok (.iconst 0, 1) := by decide +kernel
theorem dX11_test_78 : decode cX11_test 78 = .ok (.bastore, 1) := by decide +kernel
theorem dX11_test_79 : decode cX11_test 79 = .ok (.aload_n 0, 1) := by decide +kernel
theorem dX11_test_80 : decode cX11_test 80 = .ok (.getfield 80, 3) := by decide +kernel
theorem dX11_test_83 : decode cX11_test 83 = .ok (.iload_n 2, 1) := by decide +kernel
theorem dX11_test_84 : decode cX11_test 84 = .ok (.iconst 1, 1) := by decide +kernel
theorem dX11_test_85 : decode cX11_test 85 = .ok (.bastore, 1) := by decide +kernel
theorem dX11_test_86 : decode cX11_test 86 = .ok (.goto 39, 3) := by decide +kernel
theorem dX11_test_89 : decode cX11_test 89 = .ok (.aload_n 0, 1) := by decide +kernel
theorem dX11_test_90 : decode cX11_test 90 = .ok (.iload_n 1, 1) := by decide +kernel
theorem dX11_test_91 : decode cX11_test 91 = .ok (.invokevirtual 286, 3) := by decide +kernel
theorem dX11_test_94 : decode cX11_test 94 = .ok (.istore 5, 2) := by decide +kernel
theorem dX11_test_96 : decode cX11_test 96 = .ok (.aload_n 0, 1) := by decide +kernel
theorem dX11_test_97 : decode cX11_test 97 = .ok (.getfield 80, 3) := by decide +kernel
theorem dX11_test_100 : decode cX11_test 100 = .ok (.iload_n 2, 1) := by decide +kernel
theorem dX11_test_101 : decode cX11_test 101 = .ok (.aload_n 0, 1) := by decide +kernel
theorem dX11_test_102 : decode cX11_test 102 = .ok (.getfield 80, 3) := by decide +kernel
theorem dX11_test_105 : decode cX11_test 105 = .ok (.iload_n 2, 1) := by decide +kernel
theorem dX11_test_106 : decode cX11_test 106 = .ok (.baload, 1) := by decide +kernel
theorem dX11_test_107 : decode cX11_test 107 = .ok (.ifCond .eq 14, 3) := by decide +kernel
theorem dX11_test_110 : decode cX11_test 110 = .ok (.iload 5, 2) := by decide +kernel
theorem dX11_test_112 : decode cX11_test 112 = .ok (.iload 4, 2) := by decide +kernel
theorem dX11_test_114 : decode cX11_test 114 = .ok (.if_icmp .eq 7, 3) := by decide +kernel
theorem dX11_test_117 : decode cX11_test 117 = .ok (.iconst 1, 1) := by decide +kernel
theorem dX11_test_118 : decode cX11_test 118 = .ok (.goto 4, 3) := by decide +kernel
theorem dX11_test_121 : decode cX11_test 121 = .ok (.iconst 0, 1) := by decide +kernel
theorem dX11_test_122 : decode cX11_test 122 = .ok (.bastore, 1) := by decide +kernel
theorem dX11_test_123 : decode cX11_test 123 = .ok (.iconst 0, 1) := by decide +kernel
theorem dX11_test_124 : decode cX11_test 124 = .ok (.istore_n 3, 1) := by decide +kernel
theorem dX11_test_125 : decode cX11_test 125 = .ok (.goto (-107), 3) := by decide +kernel
theorem dX11_test_128 : decode cX11_test 128 = .ok (.aload_n 0, 1) := by decide +kernel
theorem dX11_test_129 : decode cX11_test 129 = .ok (.bipush 38, 2) := by decide +kernel
theorem dX11_test_131 : decode cX11_test 131 = .ok (.invokevirtual 283, 3) := by decide +kernel
theorem dX11_test_134 : decode cX11_test 134 = .ok (.ifCond .eq 8, 3) := by decide +kernel
theorem dX11_test_137 : decode cX11_test 137 = .ok (.iconst 1, 1) := by decide +kernel
theorem dX11_test_138 : decode cX11_test 138 = .ok (.istore_n 3, 1) := by decide +kernel
theorem dX11_test_139 : decode cX11_test 139 = .ok (.goto (-121), 3) := by decide +kernel
theorem dX11_test_142 : decode cX11_test 142 = .ok (.aload_n 0, 1) := by decide +kernel
theorem dX11_test_143 : decode cX11_test 143 = .ok (.bipush 124, 2) := by decide +kernel
theorem dX11_test_145 : decode cX11_test 145 = .ok (.invokevirtual 283, 3) := by decide +kernel
theorem dX11_test_148 : decode cX11_test 148 = .ok (.ifCond .eq 44, 3) := by decide +kernel
theorem dX11_test_151 : decode cX11_test 151 = .ok (.aload_n 0, 1) := by decide +kernel
theorem dX11_test_152 : decode cX11_test 152 = .ok (.getfield 77, 3) := by decide +kernel
theorem dX11_test_155 : decode cX11_test 155 = .ok (.iload_n 2, 1) := by decide +kernel
theorem dX11_test_156 : decode cX11_test 156 = .ok (.aload_n 0, 1) := by decide +kernel
theorem dX11_test_157 : decode cX11_test 157 = .ok (.getfield 77, 3) := by decide +kernel
theorem dX11_test_160 : decode cX11_test 160 = .ok (.iload_n 2, 1) := by decide +kernel
theorem dX11_test_161 : decode cX11_test 161 = .ok (.baload, 1) := by decide +kernel
theorem dX11_test_162 : decode cX11_test 162 = .ok (.ifCond .ne 12, 3) := by decide +kernel
theorem dX11_test_165 : decode cX11_test 165 = .ok (.aload_n 0, 1) := by decide +kernel
theorem dX11_test_166 : decode cX11_test 166 = .ok (.getfield 80, 3) := by decide +kernel
theorem dX11_test_169 : decode cX11_test 169 = .ok (.iload_n 2, 1) := by decide +kernel
theorem dX11_test_170 : decode cX11_test 170 = .ok (.baload, 1) := by decide +kernel
theorem dX11_test_171 : decode cX11_test 171 = .ok (.ifCond .eq 7, 3) := by decide +kernel
theorem dX11_test_174 : decode cX11_test 174 = .ok (.iconst 1, 1) := by decide +kernel
theorem dX11_test_175 : decode cX11_test 175 = .ok (.goto 4, 3) := by decide +kernel
theorem dX11_test_178 : decode cX11_test 178 = .ok (.iconst 0, 1) := by decide +kernel
theorem dX11_test_179 : decode cX11_test 179 = .ok (.bastore, 1) := by decide +kernel
theorem dX11_test_180 : decode cX11_test 180 = .ok (.aload_n 0, 1) := by decide +kernel
theorem dX11_test_181 : decode cX11_test 181 = .ok (.getfield 80, 3) := by decide +kernel
theorem dX11_test_184 : decode cX11_test 184 = .ok (.iload_n 2, 1) := by decide +kernel
theorem dX11_test_185 : decode cX11_test 185 = .ok (.iconst 1, 1) := by decide +kernel
theorem dX11_test_186 : decode cX11_test 186 = .ok (.bastore, 1) := by decide +kernel
theorem dX11_test_187 : decode cX11_test 187 = .ok (.iconst 1, 1) := by decide +kernel
theorem dX11_test_188 : decode cX11_test 188 = .ok (.istore_n 3, 1) := by decide +kernel
theorem dX11_test_189 : decode cX11_test 189 = .ok (.goto (-171), 3) := by decide +kernel
theorem dX11_test_192 : decode cX11_test 192 = .ok (.iload_n 2, 1) := by decide +kernel
theorem dX11_test_193 : decode cX11_test 193 = .ok (.ifCond .ne 27, 3) := by decide +kernel
theorem dX11_test_196 : decode cX11_test 196 = .ok (.aload_n 0, 1) := by decide +kernel
theorem dX11_test_197 : decode cX11_test 197 = .ok (.getfield 77, 3) := by decide +kernel
theorem dX11_test_200 : decode cX11_test 200 = .ok (.iconst 0, 1) := by decide +kernel
theorem dX11_test_201 : decode cX11_test 201 = .ok (.baload, 1) := by decide +kernel
theorem dX11_test_202 : decode cX11_test 202 = .ok (.ifCond .ne 12, 3) := by decide +kernel
theorem dX11_test_205 : decode cX11_test 205 = .ok (.aload_n 0, 1) := by decide +kernel
theorem dX11_test_206 : decode cX11_test 206 = .ok (.getfield 80, 3) := by decide +kernel
theorem dX11_test_209 : decode cX11_test 209 = .ok (.iconst 0, 1) := by decide +kernel
theorem dX11_test_210 : decode cX11_test 210 = .ok (.baload, 1) := by decide +kernel
theorem dX11_test_211 : decode cX11_test 211 = .ok (.ifCond .eq 7, 3) := by decide +kernel
theorem dX11_test_214 : decode cX11_test 214 = .ok (.iconst 1, 1) := by decide +kernel
theorem dX11_test_215 : decode cX11_test 215 = .ok (.goto 4, 3) := by decide +kernel
theorem dX11_test_218 : decode cX11_test 218 = .ok (.iconst 0, 1) := by decide +kernel
theorem dX11_test_219 : decode cX11_test 219 = .ok (.ireturn, 1) := by decide +kernel
theorem dX11_test_220 : decode cX11_test 220 = .ok (.aload_n 0, 1) := by decide +kernel
theorem dX11_test_221 : decode cX11_test 221 = .ok (.aload_n 0, 1) := by decide +kernel
theorem dX11_test_222 : decode cX11_test 222 = .ok (.bipush 41, 2) := by decide +kernel
theorem dX11_test_224 : decode cX11_test 224 = .ok (.invokevirtual 283, 3) := by decide +kernel
theorem dX11_test_227 : decode cX11_test 227 = .ok (.ifCond .ne 7, 3) := by decide +kernel
theorem dX11_test_230 : decode cX11_test 230 = .ok (.iconst 1, 1) := by decide +kernel
theorem dX11_test_231 : decode cX11_test 231 = .ok (.goto 4, 3) := by decide +kernel
theorem dX11_test_234 : decode cX11_test 234 = .ok (.iconst 0, 1) := by decide +kernel
theorem dX11_test_235 : decode cX11_test 235 = .ok (.putfield 271, 3) := by decide +kernel
theorem dX11_test_238 : decode cX11_test 238 = .ok (.aload_n 0, 1) := by decide +kernel
theorem dX11_test_239 : decode cX11_test 239 = .ok (.getfield 77, 3) := by decide +kernel
theorem dX11_test_242 : decode cX11_test 242 = .ok (.iload_n 2, 1) := by decide +kernel
theorem dX11_test_243 : decode cX11_test 243 = .ok (.baload, 1) := by decide +kernel
theorem dX11_test_244 : decode cX11_test 244 = .ok (.ifCond .ne 12, 3) := by decide +kernel
theorem dX11_test_247 : decode cX11_test 247 = .ok (.aload_n 0, 1) := by decide +kernel
theorem dX11_test_248 : decode cX11_test 248 = .ok (.getfield 80, 3) := by decide +kernel
theorem dX11_test_251 : decode cX11_test 251 = .ok (.iload_n 2, 1) := by decide +kernel
theorem dX11_test_252 : decode cX11_test 252 = .ok (.baload, 1) := by decide +kernel
theorem dX11_test_253 : decode cX11_test 253 = .ok (.ifCond .eq 7, 3) := by decide +kernel
theorem dX11_test_256 : decode cX11_test 256 = .ok (.iconst 1, 1) := by decide +kernel
theorem dX11_test_257 : decode cX11_test 257 = .ok (.goto 4, 3) := by decide +kernel
theorem dX11_test_260 : decode cX11_test 260 = .ok (.iconst 0, 1) := by decide +kernel
theorem dX11_test_261 : decode cX11_test 261 = .ok (.istore 4, 2) := by decide +kernel
theorem dX11_test_263 : decode cX11_test 263 = .ok (.iinc 2 (-1), 3) := by decide +kernel
theorem dX11_test_266 : decode cX11_test 266 = .ok (.aload_n 0, 1) := by decide +kernel
theorem dX11_test_267 : decode cX11_test 267 = .ok (.getfield 80, 3) := by decide +kernel
theorem dX11_test_270 : decode cX11_test 270 = .ok (.iload_n 2, 1) := by decide +kernel
theorem dX11_test_271 : decode cX11_test 271 = .ok (.aload_n 0, 1) := by decide +kernel
theorem dX11_test_272 : decode cX11_test 272 = .ok (.getfield 80, 3) := by decide +kernel
theorem dX11_test_275 : decode cX11_test 275 = .ok (.iload_n 2, 1) := by decide +kernel
theorem dX11_test_276 : decode cX11_test 276 = .ok (.baload, 1) := by decide +kernel
theorem dX11_test_277 : decode cX11_test 277 = .ok (.ifCond .eq 18, 3) := by decide +kernel
theorem dX11_test_280 : decode cX11_test 280 = .ok (.iload 4, 2) := by decide +kernel
theorem dX11_test_282 : decode cX11_test 282 = .ok (.aload_n 0, 1) := by decide +kernel
theorem dX11_test_283 : decode cX11_test 283 = .ok (.getfield 83, 3) := by decide +kernel
theorem dX11_test_286 : decode cX11_test 286 = .ok (.iload_n 2, 1) := by decide +kernel
theorem dX11_test_287 : decode cX11_test 287 = .ok (.baload, 1) := by decide +kernel
theorem dX11_test_288 : decode cX11_test 288 = .ok (.if_icmp .eq 7, 3) := by decide +kernel
