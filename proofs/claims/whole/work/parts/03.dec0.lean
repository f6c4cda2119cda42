theorem dX0_init_0 : decode cX0_init 0 = .ok (.aload_n 0, 1) := by decide +kernel
theorem dX0_init_1 : decode cX0_init 1 = .ok (.invokespecial 3, 3) := by decide +kernel
theorem dX0_init_4 : decode cX0_init 4 = .ok (.aload_n 0, 1) := by decide +kernel
theorem dX0_init_5 : decode cX0_init 5 = .ok (.bipush 6, 2) := by decide +kernel
theorem dX0_init_7 : decode cX0_init 7 = .ok (.newarray .int, 2) := by decide +kernel
theorem dX0_init_9 : decode cX0_init 9 = .ok (.putfield 11, 3) := by decide +kernel
theorem dX0_init_12 : decode cX0_init 12 = .ok (.aload_n 0, 1) := by decide +kernel
theorem dX0_init_13 : decode cX0_init 13 = .ok (.bipush 6, 2) := by decide +kernel
theorem dX0_init_15 : decode cX0_init 15 = .ok (.newarray .int, 2) := by decide +kernel
theorem dX0_init_17 : decode cX0_init 17 = .ok (.putfield 15, 3) := by decide +kernel
theorem dX0_init_20 : decode cX0_init 20 = .ok (.aload_n 0, 1) := by decide +kernel
theorem dX0_init_21 : decode cX0_init 21 = .ok (.bipush 6, 2) := by decide +kernel
theorem dX0_init_23 : decode cX0_init 23 = .ok (.newarray .int, 2) := by decide +kernel
theorem dX0_init_25 : decode cX0_init 25 = .ok (.putfield 18, 3) := by decide +kernel
theorem dX0_init_28 : decode cX0_init 28 = .ok (.aload_n 0, 1) := by decide +kernel
theorem dX0_init_29 : decode cX0_init 29 = .ok (.bipush 120, 2) := by decide +kernel
theorem dX0_init_31 : decode cX0_init 31 = .ok (.newarray .int, 2) := by decide +kernel
theorem dX0_init_33 : decode cX0_init 33 = .ok (.putfield 23, 3) := by decide +kernel
theorem dX0_init_36 : decode cX0_init 36 = .ok (.return_, 1) := by decide +kernel
theorem dX0_comparison_0 : decode cX0_comparison 0 = .ok (.bipush 100, 2) := by decide +kernel
theorem dX0_comparison_2 : decode cX0_comparison 2 = .ok (.iload_n 0, 1) := by decide +kernel
theorem dX0_comparison_3 : decode cX0_comparison 3 = .ok (.imul, 1) := by decide +kernel
theorem dX0_comparison_4 : decode cX0_comparison 4 = .ok (.bipush 10, 2) := by decide +kernel
theorem dX0_comparison_6 : decode cX0_comparison 6 = .ok (.iload_n 1, 1) := by decide +kernel
theorem dX0_comparison_7 : decode cX0_comparison 7 = .ok (.imul, 1) := by decide +kernel
theorem dX0_comparison_8 : decode cX0_comparison 8 = .ok (.iadd, 1) := by decide +kernel
theorem dX0_comparison_9 : decode cX0_comparison 9 = .ok (.iload_n 2, 1) := by decide +kernel
theorem dX0_comparison_10 : decode cX0_comparison 10 = .ok (.iadd, 1) := by decide +kernel
theorem dX0_comparison_11 : decode cX0_comparison 11 = .ok (.ireturn, 1) := by decide +kernel
theorem dX0_empty_0 : decode cX0_empty 0 = .ok (.aload_n 0, 1) := by decide +kernel
theorem dX0_empty_1 : decode cX0_empty 1 = .ok (.iconst 0, 1) := by decide +kernel
theorem dX0_empty_2 : decode cX0_empty 2 = .ok (.putfield 26, 3) := by decide +kernel
theorem dX0_empty_5 : decode cX0_empty 5 = .ok (.aload_n 0, 1) := by decide +kernel
theorem dX0_empty_6 : decode cX0_empty 6 = .ok (.iconst 0, 1) := by decide +kernel
theorem dX0_empty_7 : decode cX0_empty 7 = .ok (.putfield 30, 3) := by decide +kernel
theorem dX0_empty_10 : decode cX0_empty 10 = .ok (.return_, 1) := by decide +kernel
theorem dX0_add_0 : decode cX0_add 0 = .ok (.aload_n 0, 1) := by decide +kernel
theorem dX0_add_1 : decode cX0_add 1 = .ok (.getfield 30, 3) := by decide +kernel
theorem dX0_add_4 : decode cX0_add 4 = .ok (.bipush 120, 2) := by decide +kernel
theorem dX0_add_6 : decode cX0_add 6 = .ok (.if_icmp .ge 23, 3) := by decide +kernel
theorem dX0_add_9 : decode cX0_add 9 = .ok (.aload_n 0, 1) := by decide +kernel
theorem dX0_add_10 : decode cX0_add 10 = .ok (.getfield 23, 3) := by decide +kernel
theorem dX0_add_13 : decode cX0_add 13 = .ok (.aload_n 0, 1) := by decide +kernel
theorem dX0_add_14 : decode cX0_add 14 = .ok (.getfield 30, 3) := by decide +kernel
theorem dX0_add_17 : decode cX0_add 17 = .ok (.iload_n 1, 1) := by decide +kernel
theorem dX0_add_18 : decode cX0_add 18 = .ok (.iastore, 1) := by decide +kernel
theorem dX0_add_19 : decode cX0_add 19 = .ok (.aload_n 0, 1) := by decide +kernel
theorem dX0_add_20 : decode cX0_add 20 = .ok (.dup, 1) := by decide +kernel
theorem dX0_add_21 : decode cX0_add 21 = .ok (.getfield 30, 3) := by decide +kernel
theorem dX0_add_24 : decode cX0_add 24 = .ok (.iconst 1, 1) := by decide +kernel
theorem dX0_add_25 : decode cX0_add 25 = .ok (.iadd, 1) := by decide +kernel
theorem dX0_add_26 : decode cX0_add 26 = .ok (.putfield 30, 3) := by decide +kernel
theorem dX0_add_29 : decode cX0_add 29 = .ok (.return_, 1) := by decide +kernel
theorem dX0_endClause_0 : decode cX0_endClause 0 = .ok (.aload_n 0, 1) := by decide +kernel
theorem dX0_endClause_1 : decode cX0_endClause 1 = .ok (.getfield 26, 3) := by decide +kernel
theorem dX0_endClause_4 : decode cX0_endClause 4 = .ok (.bipush 6, 2) := by decide +kernel
theorem dX0_endClause_6 : decode cX0_endClause 6 = .ok (.if_icmp .ge 46, 3) := by decide +kernel
theorem dX0_endClause_9 : decode cX0_endClause 9 = .ok (.aload_n 0, 1) := by decide +kernel
theorem dX0_endClause_10 : decode cX0_endClause 10 = .ok (.getfield 11, 3) := by decide +kernel
theorem dX0_endClause_13 : decode cX0_endClause 13 = .ok (.aload_n 0, 1) := by decide +kernel
theorem dX0_endClause_14 : decode cX0_endClause 14 = .ok (.getfield 26, 3) := by decide +kernel
theorem dX0_endClause_17 : decode cX0_endClause 17 = .ok (.iload_n 1, 1) := by decide +kernel
theorem dX0_endClause_18 : decode cX0_endClause 18 = .ok (.iastore, 1) := by decide +kernel
theorem dX0_endClause_19 : decode cX0_endClause 19 = .ok (.aload_n 0, 1) := by decide +kernel
theorem dX0_endClause_20 : decode cX0_endClause 20 = .ok (.getfield 15, 3) := by decide +kernel
theorem dX0_endClause_23 : decode cX0_endClause 23 = .ok (.aload_n 0, 1) := by decide +kernel
theorem dX0_endClause_24 : decode cX0_endClause 24 = .ok (.getfield 26, 3) := by decide +kernel
theorem dX0_endClause_27 : decode cX0_endClause 27 = .ok (.iload_n 2, 1) := by decide +kernel
theorem dX0_endClause_28 : decode cX0_endClause 28 = .ok (.iastore, 1) := by decide +kernel
theorem dX0_endClause_29 : decode cX0_endClause 29 = .ok (.aload_n 0, 1) := by decide +kernel
theorem dX0_endClause_30 : decode cX0_endClause 30 = .ok (.getfield 18, 3) := by decide +kernel
theorem dX0_endClause_33 : decode cX0_endClause 33 = .ok (.aload_n 0, 1) := by decide +kernel
theorem dX0_endClause_34 : decode cX0_endClause 34 = .ok (.getfield 26, 3) := by decide +kernel
theorem dX0_endClause_37 : decode cX0_endClause 37 = .ok (.aload_n 0, 1) := by decide +kernel
theorem dX0_endClause_38 : decode cX0_endClause 38 = .ok (.getfield 30, 3) := by decide +kernel
theorem dX0_endClause_41 : decode cX0_endClause 41 = .ok (.iastore, 1) := by decide +kernel
theorem dX0_endClause_42 : decode cX0_endClause 42 = .ok (.aload_n 0, 1) := by decide +kernel
theorem dX0_endClause_43 : decode cX0_endClause 43 = .ok (.dup, 1) := by decide +kernel
theorem dX0_endClause_44 : decode cX0_endClause 44 = .ok (.getfield 26, 3) := by decide +kernel
theorem dX0_endClause_47 : decode cX0_endClause 47 = .ok (.iconst 1, 1) := by decide +kernel
theorem dX0_endClause_48 : decode cX0_endClause 48 = .ok (.iadd, 1) := by decide +kernel
theorem dX0_endClause_49 : decode cX0_endClause 49 = .ok (.putfield 26, 3) := by decide +kernel
theorem dX0_endClause_52 : decode cX0_endClause 52 = .ok (.return_, 1) := by decide +kernel
theorem dX0_lastThatHolds_0 : decode cX0_lastThatHolds 0 = .ok (.aload_n 0, 1) := by decide +kernel
theorem dX0_lastThatHolds_1 : decode cX0_lastThatHolds 1 = .ok (.getfield 26, 3) := by decide +kernel
theorem dX0_lastThatHolds_4 : decode cX0_lastThatHolds 4 = .ok (.iconst 1, 1) := by decide +kernel
theorem dX0_lastThatHolds_5 : decode cX0_lastThatHolds 5 = .ok (.isub, 1) := by decide +kernel
theorem dX0_lastThatHolds_6 : decode cX0_lastThatHolds 6 = .ok (.istore_n 3, 1) := by decide +kernel
theorem dX0_lastThatHolds_7 : decode cX0_lastThatHolds 7 = .ok (.iload_n 3, 1) := by decide +kernel
theorem dX0_lastThatHolds_8 : decode cX0_lastThatHolds 8 = .ok (.ifCond .lt 30, 3) := by decide +kernel
theorem dX0_lastThatHolds_11 : decode cX0_lastThatHolds 11 = .ok (.aload_n 0, 1) := by decide +kernel
theorem dX0_lastThatHolds_12 : decode cX0_lastThatHolds 12 = .ok (.getfield 15, 3) := by decide +kernel
theorem dX0_lastThatHolds_15 : decode cX0_lastThatHolds 15 = .ok (.iload_n 3, 1) := by decide +kernel
theorem dX0_lastThatHolds_16 : decode cX0_lastThatHolds 16 = .ok (.iaload, 1) := by decide +kernel
theorem dX0_lastThatHolds_17 : decode cX0_lastThatHolds 17 = .ok (.iload_n 2, 1) := by decide +kernel
theorem dX0_lastThatHolds_18 : decode cX0_lastThatHolds 18 = .ok (.if_icmp .gt 14, 3) := by decide +kernel
theorem dX0_lastThatHolds_21 : decode cX0_lastThatHolds 21 = .ok (.aload_n 0, 1) := by decide +kernel
theorem dX0_lastThatHolds_22 : decode cX0_lastThatHolds 22 = .ok (.iload_n 3, 1) := by decide +kernel
theorem dX0_lastThatHolds_23 : decode cX0_lastThatHolds 23 = .ok (.iload_n 1, 1) := by decide +kernel
theorem dX0_lastThatHolds_24 : decode cX0_lastThatHolds 24 = .ok (.invokevirtual 33, 3) := by decide +kernel
theorem dX0_lastThatHolds_27 : decode cX0_lastThatHolds 27 = .ok (.ifCond .eq 5, 3) := by decide +kernel
theorem dX0_lastThatHolds_30 : decode cX0_lastThatHolds 30 = .ok (.iload_n 3, 1) := by decide +kernel
theorem dX0_lastThatHolds_31 : decode cX0_lastThatHolds 31 = .ok (.ireturn, 1) := by decide +kernel
theorem dX0_lastThatHolds_32 : decode cX0_lastThatHolds 32 = .ok (.iinc 3 (-1), 3) := by decide +kernel
theorem dX0_lastThatHolds_35 : decode cX0_lastThatHolds 35 = .ok (.goto (-28), 3) := by decide +kernel
theorem dX0_lastThatHolds_38 : decode cX0_lastThatHolds 38 = .ok (.bipush (-4), 2) := by decide +kernel
theorem dX0_lastThatHolds_40 : decode cX0_lastThatHolds 40 = .ok (.ireturn, 1) := by decide +kernel
theorem dX0_holds_0 : decode cX0_holds 0 = .ok (.iconst 0, 1) := by decide +kernel
theorem dX0_holds_1 : decode cX0_holds 1 = .ok (.istore_n 3, 1) := by decide +kernel
theorem dX0_holds_2 : decode cX0_holds 2 = .ok (.iload_n 1, 1) := by decide +kernel
theorem dX0_holds_3 : decode cX0_holds 3 = .ok (.ifCond .ne 7, 3) := by decide +kernel
theorem dX0_holds_6 : decode cX0_holds 6 = .ok (.iconst 0, 1) := by decide +kernel
theorem dX0_holds_7 : decode cX0_holds 7 = .ok (.goto 11, 3) := by decide +kernel
theorem dX0_holds_10 : decode cX0_holds 10 = .ok (.aload_n 0, 1) := by decide +kernel
theorem dX0_holds_11 : decode cX0_holds 11 = .ok (.getfield 18, 3) := by decide +kernel
theorem dX0_holds_14 : decode cX0_holds 14 = .ok (.iload_n 1, 1) := by decide +kernel
theorem dX0_holds_15 : decode cX0_holds 15 = .ok (.iconst 1, 1) := by decide +kernel
theorem dX0_holds_16 : decode cX0_holds 16 = .ok (.isub, 1) := by decide +kernel
theorem dX0_holds_17 : decode cX0_holds 17 = .ok (.iaload, 1) := by decide +kernel
theorem dX0_holds_18 : decode cX0_holds 18 = .ok (.istore 4, 2) := by decide +kernel
theorem dX0_holds_20 : decode cX0_holds 20 = .ok (.iload 4, 2) := by decide +kernel
theorem dX0_holds_22 : decode cX0_holds 22 = .ok (.aload_n 0, 1) := by decide +kernel
theorem dX0_holds_23 : decode cX0_holds 23 = .ok (.getfield 18, 3) := by decide +kernel
theorem dX0_holds_26 : decode cX0_holds 26 = .ok (.iload_n 1, 1) := by decide +kernel
theorem dX0_holds_27 : decode cX0_holds 27 = .ok (.iaload, 1) := by decide +kernel
theorem dX0_holds_28 : decode cX0_holds 28 = .ok (.if_icmp .ge 92, 3) := by decide +kernel
theorem dX0_holds_31 : decode cX0_holds 31 = .ok (.aload_n 0, 1) := by decide +kernel
theorem dX0_holds_32 : decode cX0_holds 32 = .ok (.getfield 23, 3) := by decide +kernel
theorem dX0_holds_35 : decode cX0_holds 35 = .ok (.iload 4, 2) := by decide +kernel
theorem dX0_holds_37 : decode cX0_holds 37 = .ok (.iaload, 1) := by decide +kernel
theorem dX0_holds_38 : decode cX0_holds 38 = .ok (.istore 5, 2) := by decide +kernel
theorem dX0_holds_40 : decode cX0_holds 40 = .ok (.iload_n 3, 1) := by decide +kernel
theorem dX0_holds_41 : decode cX0_holds 41 = .ok (.iconst 1, 1) := by decide +kernel
theorem dX0_holds_42 : decode cX0_holds 42 = .ok (.iand, 1) := by decide +kernel
theorem dX0_holds_43 : decode cX0_holds 43 = .ok (.istore 6, 2) := by decide +kernel
theorem dX0_holds_45 : decode cX0_holds 45 = .ok (.iload 5, 2) := by decide +kernel
theorem dX0_holds_47 : decode cX0_holds 47 = .ok (.bipush (-3), 2) := by decide +kernel
theorem dX0_holds_49 : decode cX0_holds 49 = .ok (.if_icmp .ne 10, 3) := by decide +kernel
theorem dX0_holds_52 : decode cX0_holds 52 = .ok (.iload_n 3, 1) := by decide +kernel
theorem dX0_holds_53 : decode cX0_holds 53 = .ok (.iconst 1, 1) := by decide +kernel
theorem dX0_holds_54 : decode cX0_holds 54 = .ok (.ixor, 1) := by decide +kernel
theorem dX0_holds_55 : decode cX0_holds 55 = .ok (.istore_n 3, 1) := by decide +kernel
theorem dX0_holds_56 : decode cX0_holds 56 = .ok (.goto 58, 3) := by decide +kernel
theorem dX0_holds_59 : decode cX0_holds 59 = .ok (.iload 5, 2) := by decide +kernel
theorem dX0_holds_61 : decode cX0_holds 61 = .ok (.iconst (-1), 1) := by decide +kernel
theorem dX0_holds_62 : decode cX0_holds 62 = .ok (.if_icmp .ne 16, 3) := by decide +kernel
theorem dX0_holds_65 : decode cX0_holds 65 = .ok (.iload_n 3, 1) := by decide +kernel
theorem dX0_holds_66 : decode cX0_holds 66 = .ok (.iconst 1, 1) := by decide +kernel
theorem dX0_holds_67 : decode cX0_holds 67 = .ok (.ishr, 1) := by decide +kernel
theorem dX0_holds_68 : decode cX0_holds 68 = .ok (.iload 6, 2) := by decide +kernel
theorem dX0_holds_70 : decode cX0_holds 70 = .ok (.bipush (-2), 2) := by decide +kernel
theorem dX0_holds_72 : decode cX0_holds 72 = .ok (.ior, 1) := by decide +kernel
theorem dX0_holds_73 : decode cX0_holds 73 = .ok (.iand, 1) := by decide +kernel
theorem dX0_holds_74 : decode cX0_holds 74 = .ok (.istore_n 3, 1) := by decide +kernel
theorem dX0_holds_75 : decode cX0_holds 75 = .ok (.goto 39, 3) := by decide +kernel
theorem dX0_holds_78 : decode cX0_holds 78 = .ok (.iload 5, 2) := by decide +kernel
theorem dX0_holds_80 : decode cX0_holds 80 = .ok (.bipush (-2), 2) := by decide +kernel
theorem dX0_holds_82 : decode cX0_holds 82 = .ok (.if_icmp .ne 13, 3) := by decide +kernel
theorem dX0_holds_85 : decode cX0_holds 85 = .ok (.iload_n 3, 1) := by decide +kernel
theorem dX0_holds_86 : decode cX0_holds 86 = .ok (.iconst 1, 1) := by decide +kernel
theorem dX0_holds_87 : decode cX0_holds 87 = .ok (.ishr, 1) := by decide +kernel
theorem dX0_holds_88 : decode cX0_holds 88 = .ok (.iload 6, 2) := by decide +kernel
theorem dX0_holds_90 : decode cX0_holds 90 = .ok (.ior, 1) := by decide +kernel
theorem dX0_holds_91 : decode cX0_holds 91 = .ok (.istore_n 3, 1) := by decide +kernel
theorem dX0_holds_92 : decode cX0_holds 92 = .ok (.goto 22, 3) := by decide +kernel
theorem dX0_holds_95 : decode cX0_holds 95 = .ok (.iload_n 3, 1) := by decide +kernel
theorem dX0_holds_96 : decode cX0_holds 96 = .ok (.iconst 1, 1) := by decide +kernel
theorem dX0_holds_97 : decode cX0_holds 97 = .ok (.ishl, 1) := by decide +kernel
theorem dX0_holds_98 : decode cX0_holds 98 = .ok (.iload 5, 2) := by decide +kernel
theorem dX0_holds_100 : decode cX0_holds 100 = .ok (.iload_n 2, 1) := by decide +kernel
theorem dX0_holds_101 : decode cX0_holds 101 = .ok (.invokestatic 37, 3) := by decide +kernel
theorem dX0_holds_104 : decode cX0_holds 104 = .ok (.ifCond .eq 7, 3) := by decide +kernel
theorem dX0_holds_107 : decode cX0_holds 107 = .ok (.iconst 1, 1) := by decide +kernel
theorem dX0_holds_108 : decode cX0_holds 108 = .ok (.goto 4, 3) := by decide +kernel
theorem dX0_holds_111 : decode cX0_holds 111 = .ok (.iconst 0, 1) := by decide +kernel
theorem dX0_holds_112 : decode cX0_holds 112 = .ok (.ior, 1) := by decide +kernel
theorem dX0_holds_113 : decode cX0_holds 113 = .ok (.istore_n 3, 1) := by decide +kernel
theorem dX0_holds_114 : decode cX0_holds 114 = .ok (.iinc 4 1, 3) := by decide +kernel
theorem dX0_holds_117 : decode cX0_holds 117 = .ok (.goto (-97), 3) := by decide +kernel
theorem dX0_holds_120 : decode cX0_holds 120 = .ok (.iload_n 3, 1) := by decide +kernel
theorem dX0_holds_121 : decode cX0_holds 121 = .ok (.iconst 1, 1) := by decide +kernel
theorem dX0_holds_122 : decode cX0_holds 122 = .ok (.iand, 1) := by decide +kernel
theorem dX0_holds_123 : decode cX0_holds 123 = .ok (.iconst 1, 1) := by decide +kernel
theorem dX0_holds_124 : decode cX0_holds 124 = .ok (.if_icmp .ne 7, 3) := by decide +kernel
theorem dX0_holds_127 : decode cX0_holds 127 = .ok (.iconst 1, 1) := by decide +kernel
theorem dX0_holds_128 : decode cX0_holds 128 = .ok (.goto 4, 3) := by decide +kernel
theorem dX0_holds_131 : decode cX0_holds 131 = .ok (.iconst 0, 1) := by decide +kernel
theorem dX0_holds_132 : decode cX0_holds 132 = .ok (.ireturn, 1) := by decide +kernel
theorem dX0_compares_0 : decode cX0_compares 0 = .ok (.iload_n 1, 1) := by decide +kernel
theorem dX0_compares_1 : decode cX0_compares 1 = .ok (.iload_n 0, 1) := by decide +kernel
theorem dX0_compares_2 : decode cX0_compares 2 = .ok (.bipush 100, 2) := by decide +kernel
theorem dX0_compares_4 : decode cX0_compares 4 = .ok (.idiv, 1) := by decide +kernel
theorem dX0_compares_5 : decode cX0_compares 5 = .ok (.invokestatic 40, 3) := by decide +kernel
theorem dX0_compares_8 : decode cX0_compares 8 = .ok (.istore_n 2, 1) := by decide +kernel
theorem dX0_compares_9 : decode cX0_compares 9 = .ok (.iload_n 0, 1) := by decide +kernel
theorem dX0_compares_10 : decode cX0_compares 10 = .ok (.bipush 10, 2) := by decide +kernel
theorem dX0_compares_12 : decode cX0_compares 12 = .ok (.idiv, 1) := by decide +kernel
theorem dX0_compares_13 : decode cX0_compares 13 = .ok (.bipush 10, 2) := by decide +kernel
theorem dX0_compares_15 : decode cX0_compares 15 = .ok (.irem, 1) := by decide +kernel
theorem dX0_compares_16 : decode cX0_compares 16 = .ok (.istore_n 3, 1) := by decide +kernel
theorem dX0_compares_17 : decode cX0_compares 17 = .ok (.iload_n 0, 1) := by decide +kernel
theorem dX0_compares_18 : decode cX0_compares 18 = .ok (.bipush 10, 2) := by decide +kernel
theorem dX0_compares_20 : decode cX0_compares 20 = .ok (.irem, 1) := by decide +kernel
theorem dX0_compares_21 : decode cX0_compares 21 = .ok (.istore 4, 2) := by decide +kernel
theorem dX0_compares_23 : decode cX0_compares 23 = .ok (.iload_n 3, 1) := by decide +kernel
theorem dX0_compares_24 : decode cX0_compares 24 = .ok (.ifCond .ne 15, 3) := by decide +kernel
theorem dX0_compares_27 : decode cX0_compares 27 = .ok (.iload_n 2, 1) := by decide +kernel
theorem dX0_compares_28 : decode cX0_compares 28 = .ok (.iload 4, 2) := by decide +kernel
theorem dX0_compares_30 : decode cX0_compares 30 = .ok (.if_icmp .ne 7, 3) := by decide +kernel
theorem dX0_compares_33 : decode cX0_compares 33 = .ok (.iconst 1, 1) := by decide +kernel
theorem dX0_compares_34 : decode cX0_compares 34 = .ok (.goto 4, 3) := by decide +kernel
theorem dX0_compares_37 : decode cX0_compares 37 = .ok (.iconst 0, 1) := by decide +kernel
theorem dX0_compares_38 : decode cX0_compares 38 = .ok (.ireturn, 1) := by decide +kernel
theorem dX0_compares_39 : decode cX0_compares 39 = .ok (.iload_n 3, 1) := by decide +kernel
theorem dX0_compares_40 : decode cX0_compares 40 = .ok (.iconst 1, 1) := by decide +kernel
theorem dX0_compares_41 : decode cX0_compares 41 = .ok (.if_icmp .ne 17, 3) := by decide +kernel
theorem dX0_compares_44 : decode cX0_compares 44 = .ok (.iload_n 2, 1) := by decide +kernel
theorem dX0_compares_45 : decode cX0_compares 45 = .ok (.iload 4, 2) := by decide +kernel
theorem dX0_compares_47 : decode cX0_compares 47 = .ok (.if_icmp .ge 7, 3) := by decide +kernel
theorem dX0_compares_50 : decode cX0_compares 50 = .ok (.iconst 1, 1) := by decide +kernel
theorem dX0_compares_51 : decode cX0_compares 51 = .ok (.goto 18, 3) := by decide +kernel
theorem dX0_compares_54 : decode cX0_compares 54 = .ok (.iconst 0, 1) := by decide +kernel
theorem dX0_compares_55 : decode cX0_compares 55 = .ok (.goto 14, 3) := by decide +kernel
theorem dX0_compares_58 : decode cX0_compares 58 = .ok (.iload_n 2, 1) := by decide +kernel
theorem dX0_compares_59 : decode cX0_compares 59 = .ok (.iload 4, 2) := by decide +kernel
theorem dX0_compares_61 : decode cX0_compares 61 = .ok (.if_icmp .le 7, 3) := by decide +kernel
theorem dX0_compares_64 : decode cX0_compares 64 = .ok (.iconst 1, 1) := by decide +kernel
theorem dX0_compares_65 : decode cX0_compares 65 = .ok (.goto 4, 3) := by decide +kernel
theorem dX0_compares_68 : decode cX0_compares 68 = .ok (.iconst 0, 1) := by decide +kernel
theorem dX0_compares_69 : decode cX0_compares 69 = .ok (.ireturn, 1) := by decide +kernel
theorem dX1_init_0 : decode cX1_init 0 = .ok (.aload_n 0, 1) := by decide +kernel
theorem dX1_init_1 : decode cX1_init 1 = .ok (.invokespecial 3, 3) := by decide +kernel
theorem dX1_init_4 : decode cX1_init 4 = .ok (.aload_n 0, 1) := by decide +kernel
theorem dX1_init_5 : decode cX1_init 5 = .ok (.bipush 16, 2) := by decide +kernel
theorem dX1_init_7 : decode cX1_init 7 = .ok (.newarray .int, 2) := by decide +kernel
theorem dX1_init_9 : decode cX1_init 9 = .ok (.putfield 9, 3) := by decide +kernel
theorem dX1_init_12 : decode cX1_init 12 = .ok (.aload_n 0, 1) := by decide +kernel
theorem dX1_init_13 : decode cX1_init 13 = .ok (.bipush 12, 2) := by decide +kernel
theorem dX1_init_15 : decode cX1_init 15 = .ok (.newarray .int, 2) := by decide +kernel
theorem dX1_init_17 : decode cX1_init 17 = .ok (.putfield 15, 3) := by decide +kernel
theorem dX1_init_20 : decode cX1_init 20 = .ok (.aload_n 0, 1) := by decide +kernel
theorem dX1_init_21 : decode cX1_init 21 = .ok (.bipush 12, 2) := by decide +kernel
theorem dX1_init_23 : decode cX1_init 23 = .ok (.newarray .boolean, 2) := by decide +kernel
theorem dX1_init_25 : decode cX1_init 25 = .ok (.putfield 18, 3) := by decide +kernel
theorem dX1_init_28 : decode cX1_init 28 = .ok (.return_, 1) := by decide +kernel
theorem dX1_look_0 : decode cX1_look 0 = .ok (.aload_n 0, 1) := by decide +kernel
theorem dX1_look_1 : decode cX1_look 1 = .ok (.iconst 0, 1) := by decide +kernel
theorem dX1_look_2 : decode cX1_look 2 = .ok (.putfield 22, 3) := by decide +kernel
theorem dX1_look_5 : decode cX1_look 5 = .ok (.iconst 0, 1) := by decide +kernel
theorem dX1_look_6 : decode cX1_look 6 = .ok (.istore_n 3, 1) := by decide +kernel
theorem dX1_look_7 : decode cX1_look 7 = .ok (.iload_n 3, 1) := by decide +kernel
theorem dX1_look_8 : decode cX1_look 8 = .ok (.iload_n 2, 1) := by decide +kernel
theorem dX1_look_9 : decode cX1_look 9 = .ok (.if_icmp .ge 28, 3) := by decide +kernel
theorem dX1_look_12 : decode cX1_look 12 = .ok (.aload_n 1, 1) := by decide +kernel
theorem dX1_look_13 : decode cX1_look 13 = .ok (.getfield 26, 3) := by decide +kernel
theorem dX1_look_16 : decode cX1_look 16 = .ok (.iload_n 3, 1) := by decide +kernel
theorem dX1_look_17 : decode cX1_look 17 = .ok (.iaload, 1) := by decide +kernel
theorem dX1_look_18 : decode cX1_look 18 = .ok (.ifCond .eq 13, 3) := by decide +kernel
theorem dX1_look_21 : decode cX1_look 21 = .ok (.aload_n 0, 1) := by decide +kernel
theorem dX1_look_22 : decode cX1_look 22 = .ok (.aload_n 1, 1) := by decide +kernel
theorem dX1_look_23 : decode cX1_look 23 = .ok (.getfield 31, 3) := by decide +kernel
theorem dX1_look_26 : decode cX1_look 26 = .ok (.iload_n 3, 1) := by decide +kernel
theorem dX1_look_27 : decode cX1_look 27 = .ok (.iaload, 1) := by decide +kernel
theorem dX1_look_28 : decode cX1_look 28 = .ok (.invokevirtual 34, 3) := by decide +kernel
theorem dX1_look_31 : decode cX1_look 31 = .ok (.iinc 3 1, 3) := by decide +kernel
theorem dX1_look_34 : decode cX1_look 34 = .ok (.goto (-27), 3) := by decide +kernel
theorem dX1_look_37 : decode cX1_look 37 = .ok (.aload_n 0, 1) := by decide +kernel
theorem dX1_look_38 : decode cX1_look 38 = .ok (.aload_n 0, 1) := by decide +kernel
theorem dX1_look_39 : decode cX1_look 39 = .ok (.getfield 22, 3) := by decide +kernel
theorem dX1_look_42 : decode cX1_look 42 = .ok (.bipush 12, 2) := by decide +kernel
theorem dX1_look_44 : decode cX1_look 44 = .ok (.invokestatic 38, 3) := by decide +kernel
theorem dX1_look_47 : decode cX1_look 47 = .ok (.putfield 22, 3) := by decide +kernel
theorem dX1_look_50 : decode cX1_look 50 = .ok (.return_, 1) := by decide +kernel
theorem dX1_sortIn_0 : decode cX1_sortIn 0 = .ok (.iconst 0, 1) := by decide +kernel
theorem dX1_sortIn_1 : decode cX1_sortIn 1 = .ok (.istore_n 2, 1) := by decide +kernel
theorem dX1_sortIn_2 : decode cX1_sortIn 2 = .ok (.iload_n 2, 1) := by decide +kernel
theorem dX1_sortIn_3 : decode cX1_sortIn 3 = .ok (.aload_n 0, 1) := by decide +kernel
theorem dX1_sortIn_4 : decode cX1_sortIn 4 = .ok (.getfield 22, 3) := by decide +kernel
theorem dX1_sortIn_7 : decode cX1_sortIn 7 = .ok (.if_icmp .ge 19, 3) := by decide +kernel
theorem dX1_sortIn_10 : decode cX1_sortIn 10 = .ok (.aload_n 0, 1) := by decide +kernel
theorem dX1_sortIn_11 : decode cX1_sortIn 11 = .ok (.getfield 9, 3) := by decide +kernel
theorem dX1_sortIn_14 : decode cX1_sortIn 14 = .ok (.iload_n 2, 1) := by decide +kernel
theorem dX1_sortIn_15 : decode cX1_sortIn 15 = .ok (.iaload, 1) := by decide +kernel
theorem dX1_sortIn_16 : decode cX1_sortIn 16 = .ok (.iload_n 1, 1) := by decide +kernel
theorem dX1_sortIn_17 : decode cX1_sortIn 17 = .ok (.if_icmp .ge 9, 3) := by decide +kernel
theorem dX1_sortIn_20 : decode cX1_sortIn 20 = .ok (.iinc 2 1, 3) := by decide +kernel
theorem dX1_sortIn_23 : decode cX1_sortIn 23 = .ok (.goto (-21), 3) := by decide +kernel
theorem dX1_sortIn_26 : decode cX1_sortIn 26 = .ok (.iload_n 2, 1) := by decide +kernel
theorem dX1_sortIn_27 : decode cX1_sortIn 27 = .ok (.aload_n 0, 1) := by decide +kernel
theorem dX1_sortIn_28 : decode cX1_sortIn 28 = .ok (.getfield 22, 3) := by decide +kernel
theorem dX1_sortIn_31 : decode cX1_sortIn 31 = .ok (.if_icmp .ge 13, 3) := by decide +kernel
theorem dX1_sortIn_34 : decode cX1_sortIn 34 = .ok (.aload_n 0, 1) := by decide +kernel
theorem dX1_sortIn_35 : decode cX1_sortIn 35 = .ok (.getfield 9, 3) := by decide +kernel
theorem dX1_sortIn_38 : decode cX1_sortIn 38 = .ok (.iload_n 2, 1) := by decide +kernel
theorem dX1_sortIn_39 : decode cX1_sortIn 39 = .ok (.iaload, 1) := by decide +kernel
theorem dX1_sortIn_40 : decode cX1_sortIn 40 = .ok (.iload_n 1, 1) := by decide +kernel
theorem dX1_sortIn_41 : decode cX1_sortIn 41 = .ok (.if_icmp .eq 12, 3) := by decide +kernel
theorem dX1_sortIn_44 : decode cX1_sortIn 44 = .ok (.aload_n 0, 1) := by decide +kernel
theorem dX1_sortIn_45 : decode cX1_sortIn 45 = .ok (.getfield 22, 3) := by decide +kernel
theorem dX1_sortIn_48 : decode cX1_sortIn 48 = .ok (.bipush 16, 2) := by decide +kernel
theorem dX1_sortIn_50 : decode cX1_sortIn 50 = .ok (.if_icmp .lt 4, 3) := by decide +kernel
theorem dX1_sortIn_53 : decode cX1_sortIn 53 = .ok (.return_, 1) := by decide +kernel
theorem dX1_sortIn_54 : decode cX1_sortIn 54 = .ok (.aload_n 0, 1) := by decide +kernel
theorem dX1_sortIn_55 : decode cX1_sortIn 55 = .ok (.getfield 22, 3) := by decide +kernel
theorem dX1_sortIn_58 : decode cX1_sortIn 58 = .ok (.istore_n 3, 1) := by decide +kernel
theorem dX1_sortIn_59 : decode cX1_sortIn 59 = .ok (.iload_n 3, 1) := by decide +kernel
theorem dX1_sortIn_60 : decode cX1_sortIn 60 = .ok (.iload_n 2, 1) := by decide +kernel
theorem dX1_sortIn_61 : decode cX1_sortIn 61 = .ok (.if_icmp .le 23, 3) := by decide +kernel
theorem dX1_sortIn_64 : decode cX1_sortIn 64 = .ok (.aload_n 0, 1) := by decide +kernel
theorem dX1_sortIn_65 : decode cX1_sortIn 65 = .ok (.getfield 9, 3) := by decide +kernel
theorem dX1_sortIn_68 : decode cX1_sortIn 68 = .ok (.iload_n 3, 1) := by decide +kernel
theorem dX1_sortIn_69 : decode cX1_sortIn 69 = .ok (.aload_n 0, 1) := by decide +kernel
theorem dX1_sortIn_70 : decode cX1_sortIn 70 = .ok (.getfield 9, 3) := by decide +kernel
theorem dX1_sortIn_73 : decode cX1_sortIn 73 = .ok (.iload_n 3, 1) := by decide +kernel
theorem dX1_sortIn_74 : decode cX1_sortIn 74 = .ok (.iconst 1, 1) := by decide +kernel
theorem dX1_sortIn_75 : decode cX1_sortIn 75 = .ok (.isub, 1) := by decide +kernel
theorem dX1_sortIn_76 : decode cX1_sortIn 76 = .ok (.iaload, 1) := by decide +kernel
theorem dX1_sortIn_77 : decode cX1_sortIn 77 = .ok (.iastore, 1) := by decide +kernel
theorem dX1_sortIn_78 : decode cX1_sortIn 78 = .ok (.iinc 3 (-1), 3) := by decide +kernel
theorem dX1_sortIn_81 : decode cX1_sortIn 81 = .ok (.goto (-22), 3) := by decide +kernel
theorem dX1_sortIn_84 : decode cX1_sortIn 84 = .ok (.aload_n 0, 1) := by decide +kernel
theorem dX1_sortIn_85 : decode cX1_sortIn 85 = .ok (.getfield 9, 3) := by decide +kernel
theorem dX1_sortIn_88 : decode cX1_sortIn 88 = .ok (.iload_n 2, 1) := by decide +kernel
theorem dX1_sortIn_89 : decode cX1_sortIn 89 = .ok (.iload_n 1, 1) := by decide +kernel
theorem dX1_sortIn_90 : decode cX1_sortIn 90 = .ok (.iastore, 1) := by decide +kernel
theorem dX1_sortIn_91 : decode cX1_sortIn 91 = .ok (.aload_n 0, 1) := by decide +kernel
theorem dX1_sortIn_92 : decode cX1_sortIn 92 = .ok (.dup, 1) := by decide +kernel
theorem dX1_sortIn_93 : decode cX1_sortIn 93 = .ok (.getfield 22, 3) := by decide +kernel
theorem dX1_sortIn_96 : decode cX1_sortIn 96 = .ok (.iconst 1, 1) := by decide +kernel
theorem dX1_sortIn_97 : decode cX1_sortIn 97 = .ok (.iadd, 1) := by decide +kernel
theorem dX1_sortIn_98 : decode cX1_sortIn 98 = .ok (.putfield 22, 3) := by decide +kernel
theorem dX1_sortIn_101 : decode cX1_sortIn 101 = .ok (.return_, 1) := by decide +kernel
theorem dX1_join_0 : decode cX1_join 0 = .ok (.iconst 0, 1) := by decide +kernel
theorem dX1_join_1 : decode cX1_join 1 = .ok (.istore_n 1, 1) := by decide +kernel
theorem dX1_join_2 : decode cX1_join 2 = .ok (.iload_n 1, 1) := by decide +kernel
theorem dX1_join_3 : decode cX1_join 3 = .ok (.bipush 12, 2) := by decide +kernel
theorem dX1_join_5 : decode cX1_join 5 = .ok (.if_icmp .ge 32, 3) := by decide +kernel
theorem dX1_join_8 : decode cX1_join 8 = .ok (.aload_n 0, 1) := by decide +kernel
theorem dX1_join_9 : decode cX1_join 9 = .ok (.getfield 18, 3) := by decide +kernel
theorem dX1_join_12 : decode cX1_join 12 = .ok (.iload_n 1, 1) := by decide +kernel
theorem dX1_join_13 : decode cX1_join 13 = .ok (.iload_n 1, 1) := by decide +kernel
theorem dX1_join_14 : decode cX1_join 14 = .ok (.ifCond .ne 7, 3) := by decide +kernel
theorem dX1_join_17 : decode cX1_join 17 = .ok (.iconst 1, 1) := by decide +kernel
theorem dX1_join_18 : decode cX1_join 18 = .ok (.goto 4, 3) := by decide +kernel
theorem dX1_join_21 : decode cX1_join 21 = .ok (.iconst 0, 1) := by decide +kernel
theorem dX1_join_22 : decode cX1_join 22 = .ok (.bastore, 1) := by decide +kernel
theorem dX1_join_23 : decode cX1_join 23 = .ok (.aload_n 0, 1) := by decide +kernel
theorem dX1_join_24 : decode cX1_join 24 = .ok (.getfield 15, 3) := by decide +kernel
theorem dX1_join_27 : decode cX1_join 27 = .ok (.iload_n 1, 1) := by decide +kernel
theorem dX1_join_28 : decode cX1_join 28 = .ok (.bipush (-4), 2) := by decide +kernel
theorem dX1_join_30 : decode cX1_join 30 = .ok (.iastore, 1) := by decide +kernel
theorem dX1_join_31 : decode cX1_join 31 = .ok (.iinc 1 1, 3) := by decide +kernel
theorem dX1_join_34 : decode cX1_join 34 = .ok (.goto (-32), 3) := by decide +kernel
theorem dX1_join_37 : decode cX1_join 37 = .ok (.iconst 0, 1) := by decide +kernel
theorem dX1_join_38 : decode cX1_join 38 = .ok (.istore_n 1, 1) := by decide +kernel
theorem dX1_join_39 : decode cX1_join 39 = .ok (.iconst 1, 1) := by decide +kernel
theorem dX1_join_40 : decode cX1_join 40 = .ok (.istore_n 2, 1) := by decide +kernel
theorem dX1_join_41 : decode cX1_join 41 = .ok (.iload_n 2, 1) := by decide +kernel
theorem dX1_join_42 : decode cX1_join 42 = .ok (.aload_n 0, 1) := by decide +kernel
theorem dX1_join_43 : decode cX1_join 43 = .ok (.getfield 22, 3) := by decide +kernel
theorem dX1_join_46 : decode cX1_join 46 = .ok (.if_icmp .ge 16, 3) := by decide +kernel
theorem dX1_join_49 : decode cX1_join 49 = .ok (.iload_n 1, 1) := by decide +kernel
theorem dX1_join_50 : decode cX1_join 50 = .ok (.aload_n 0, 1) := by decide +kernel
theorem dX1_join_51 : decode cX1_join 51 = .ok (.invokevirtual 44, 3) := by decide +kernel
theorem dX1_join_54 : decode cX1_join 54 = .ok (.iadd, 1) := by decide +kernel
theorem dX1_join_55 : decode cX1_join 55 = .ok (.istore_n 1, 1) := by decide +kernel
theorem dX1_join_56 : decode cX1_join 56 = .ok (.iinc 2 1, 3) := by decide +kernel
theorem dX1_join_59 : decode cX1_join 59 = .ok (.goto (-18), 3) := by decide +kernel
theorem dX1_join_62 : decode cX1_join 62 = .ok (.iload_n 1, 1) := by decide +kernel
theorem dX1_join_63 : decode cX1_join 63 = .ok (.ireturn, 1) := by decide +kernel
theorem dX1_joinNearest_0 : decode cX1_joinNearest 0 = .ok (.iconst 5, 1) := by decide +kernel
theorem dX1_joinNearest_1 : decode cX1_joinNearest 1 = .ok (.istore_n 1, 1) := by decide +kernel
theorem dX1_joinNearest_2 : decode cX1_joinNearest 2 = .ok (.iconst 0, 1) := by decide +kernel
theorem dX1_joinNearest_3 : decode cX1_joinNearest 3 = .ok (.istore_n 2, 1) := by decide +kernel
theorem dX1_joinNearest_4 : decode cX1_joinNearest 4 = .ok (.iconst 0, 1) := by decide +kernel
theorem dX1_joinNearest_5 : decode cX1_joinNearest 5 = .ok (.istore_n 3, 1) := by decide +kernel
theorem dX1_joinNearest_6 : decode cX1_joinNearest 6 = .ok (.iconst 0, 1) := by decide +kernel
theorem dX1_joinNearest_7 : decode cX1_joinNearest 7 = .ok (.istore 4, 2) := by decide +kernel
theorem dX1_joinNearest_9 : decode cX1_joinNearest 9 = .ok (.iload 4, 2) := by decide +kernel
theorem dX1_joinNearest_11 : decode cX1_joinNearest 11 = .ok (.aload_n 0, 1) := by decide +kernel
theorem dX1_joinNearest_12 : decode cX1_joinNearest 12 = .ok (.getfield 22, 3) := by decide +kernel
theorem dX1_joinNearest_15 : decode cX1_joinNearest 15 = .ok (.if_icmp .ge 92, 3) := by decide +kernel
theorem dX1_joinNearest_18 : decode cX1_joinNearest 18 = .ok (.iconst 0, 1) := by decide +kernel
theorem dX1_joinNearest_19 : decode cX1_joinNearest 19 = .ok (.istore 5, 2) := by decide +kernel
theorem dX1_joinNearest_21 : decode cX1_joinNearest 21 = .ok (.iload 5, 2) := by decide +kernel
theorem dX1_joinNearest_23 : decode cX1_joinNearest 23 = .ok (.aload_n 0, 1) := by decide +kernel
theorem dX1_joinNearest_24 : decode cX1_joinNearest 24 = .ok (.getfield 22, 3) := by decide +kernel
theorem dX1_joinNearest_27 : decode cX1_joinNearest 27 = .ok (.if_icmp .ge 74, 3) := by decide +kernel
theorem dX1_joinNearest_30 : decode cX1_joinNearest 30 = .ok (.aload_n 0, 1) := by decide +kernel
theorem dX1_joinNearest_31 : decode cX1_joinNearest 31 = .ok (.getfield 18, 3) := by decide +kernel
theorem dX1_joinNearest_34 : decode cX1_joinNearest 34 = .ok (.iload 4, 2) := by decide +kernel
theorem dX1_joinNearest_36 : decode cX1_joinNearest 36 = .ok (.baload, 1) := by decide +kernel
theorem dX1_joinNearest_37 : decode cX1_joinNearest 37 = .ok (.ifCond .ne 64, 3) := by decide +kernel
theorem dX1_joinNearest_40 : decode cX1_joinNearest 40 = .ok (.aload_n 0, 1) := by decide +kernel
theorem dX1_joinNearest_41 : decode cX1_joinNearest 41 = .ok (.getfield 18, 3) := by decide +kernel
theorem dX1_joinNearest_44 : decode cX1_joinNearest 44 = .ok (.iload 5, 2) := by decide +kernel
theorem dX1_joinNearest_46 : decode cX1_joinNearest 46 = .ok (.baload, 1) := by decide +kernel
theorem dX1_joinNearest_47 : decode cX1_joinNearest 47 = .ok (.ifCond .eq 48, 3) := by decide +kernel
theorem dX1_joinNearest_50 : decode cX1_joinNearest 50 = .ok (.aload_n 0, 1) := by decide +kernel
theorem dX1_joinNearest_51 : decode cX1_joinNearest 51 = .ok (.getfield 9, 3) := by decide +kernel
theorem dX1_joinNearest_54 : decode cX1_joinNearest 54 = .ok (.iload 4, 2) := by decide +kernel
theorem dX1_joinNearest_56 : decode cX1_joinNearest 56 = .ok (.iaload, 1) := by decide +kernel
theorem dX1_joinNearest_57 : decode cX1_joinNearest 57 = .ok (.aload_n 0, 1) := by decide +kernel
theorem dX1_joinNearest_58 : decode cX1_joinNearest 58 = .ok (.getfield 9, 3) := by decide +kernel
theorem dX1_joinNearest_61 : decode cX1_joinNearest 61 = .ok (.iload 5, 2) := by decide +kernel
theorem dX1_joinNearest_63 : decode cX1_joinNearest 63 = .ok (.iaload, 1) := by decide +kernel
theorem dX1_joinNearest_64 : decode cX1_joinNearest 64 = .ok (.invokestatic 50, 3) := by decide +kernel
theorem dX1_joinNearest_67 : decode cX1_joinNearest 67 = .ok (.iload_n 1, 1) := by decide +kernel
theorem dX1_joinNearest_68 : decode cX1_joinNearest 68 = .ok (.if_icmp .ge 27, 3) := by decide +kernel
theorem dX1_joinNearest_71 : decode cX1_joinNearest 71 = .ok (.aload_n 0, 1) := by decide +kernel
theorem dX1_joinNearest_72 : decode cX1_joinNearest 72 = .ok (.getfield 9, 3) := by decide +kernel
theorem dX1_joinNearest_75 : decode cX1_joinNearest 75 = .ok (.iload 4, 2) := by decide +kernel
theorem dX1_joinNearest_77 : decode cX1_joinNearest 77 = .ok (.iaload, 1) := by decide +kernel
theorem dX1_joinNearest_78 : decode cX1_joinNearest 78 = .ok (.aload_n 0, 1) := by decide +kernel
theorem dX1_joinNearest_79 : decode cX1_joinNearest 79 = .ok (.getfield 9, 3) := by decide +kernel
theorem dX1_joinNearest_82 : decode cX1_joinNearest 82 = .ok (.iload 5, 2) := by decide +kernel
theorem dX1_joinNearest_84 : decode cX1_joinNearest 84 = .ok (.iaload, 1) := by decide +kernel
theorem dX1_joinNearest_85 : decode cX1_joinNearest 85 = .ok (.invokestatic 50, 3) := by decide +kernel
theorem dX1_joinNearest_88 : decode cX1_joinNearest 88 = .ok (.istore_n 1, 1) := by decide +kernel
theorem dX1_joinNearest_89 : decode cX1_joinNearest 89 = .ok (.iload 4, 2) := by decide +kernel
theorem dX1_joinNearest_91 : decode cX1_joinNearest 91 = .ok (.istore_n 2, 1) := by decide +kernel
theorem dX1_joinNearest_92 : decode cX1_joinNearest 92 = .ok (.iload 5, 2) := by decide +kernel
theorem dX1_joinNearest_94 : decode cX1_joinNearest 94 = .ok (.istore_n 3, 1) := by decide +kernel
theorem dX1_joinNearest_95 : decode cX1_joinNearest 95 = .ok (.iinc 5 1, 3) := by decide +kernel
theorem dX1_joinNearest_98 : decode cX1_joinNearest 98 = .ok (.goto (-77), 3) := by decide +kernel
theorem dX1_joinNearest_101 : decode cX1_joinNearest 101 = .ok (.iinc 4 1, 3) := by decide +kernel
theorem dX1_joinNearest_104 : decode cX1_joinNearest 104 = .ok (.goto (-95), 3) := by decide +kernel
theorem dX1_joinNearest_107 : decode cX1_joinNearest 107 = .ok (.aload_n 0, 1) := by decide +kernel
theorem dX1_joinNearest_108 : decode cX1_joinNearest 108 = .ok (.getfield 18, 3) := by decide +kernel
theorem dX1_joinNearest_111 : decode cX1_joinNearest 111 = .ok (.iload_n 2, 1) := by decide +kernel
theorem dX1_joinNearest_112 : decode cX1_joinNearest 112 = .ok (.iconst 1, 1) := by decide +kernel
theorem dX1_joinNearest_113 : decode cX1_joinNearest 113 = .ok (.bastore, 1) := by decide +kernel
theorem dX1_joinNearest_114 : decode cX1_joinNearest 114 = .ok (.aload_n 0, 1) := by decide +kernel
theorem dX1_joinNearest_115 : decode cX1_joinNearest 115 = .ok (.getfield 15, 3) := by decide +kernel
theorem dX1_joinNearest_118 : decode cX1_joinNearest 118 = .ok (.iload_n 2, 1) := by decide +kernel
theorem dX1_joinNearest_119 : decode cX1_joinNearest 119 = .ok (.iload_n 3, 1) := by decide +kernel
theorem dX1_joinNearest_120 : decode cX1_joinNearest 120 = .ok (.iastore, 1) := by decide +kernel
theorem dX1_joinNearest_121 : decode cX1_joinNearest 121 = .ok (.iload_n 1, 1) := by decide +kernel
theorem dX1_joinNearest_122 : decode cX1_joinNearest 122 = .ok (.ireturn, 1) := by decide +kernel
theorem dX2_together_0 : decode cX2_together 0 = .ok (.sipush 1000, 3) := by decide +kernel
theorem dX2_together_3 : decode cX2_together 3 = .ok (.iload_n 0, 1) := by decide +kernel
theorem dX2_together_4 : decode cX2_together 4 = .ok (.imul, 1) := by decide +kernel
theorem dX2_together_5 : decode cX2_together 5 = .ok (.bipush 100, 2) := by decide +kernel
theorem dX2_together_7 : decode cX2_together 7 = .ok (.iload_n 1, 1) := by decide +kernel
theorem dX2_together_8 : decode cX2_together 8 = .ok (.imul, 1) := by decide +kernel
theorem dX2_together_9 : decode cX2_together 9 = .ok (.iadd, 1) := by decide +kernel
theorem dX2_together_10 : decode cX2_together 10 = .ok (.bipush 10, 2) := by decide +kernel
theorem dX2_together_12 : decode cX2_together 12 = .ok (.iload_n 2, 1) := by decide +kernel
theorem dX2_together_13 : decode cX2_together 13 = .ok (.imul, 1) := by decide +kernel
theorem dX2_together_14 : decode cX2_together 14 = .ok (.iadd, 1) := by decide +kernel
theorem dX2_together_15 : decode cX2_together 15 = .ok (.iload_n 3, 1) := by decide +kernel
theorem dX2_together_16 : decode cX2_together 16 = .ok (.iadd, 1) := by decide +kernel
theorem dX2_together_17 : decode cX2_together 17 = .ok (.ireturn, 1) := by decide +kernel
theorem dX2_at_0 : decode cX2_at 0 = .ok (.iload_n 0, 1) := by decide +kernel
theorem dX2_at_1 : decode cX2_at 1 = .ok (.getstatic 7, 3) := by decide +kernel
theorem dX2_at_4 : decode cX2_at 4 = .ok (.iload_n 1, 1) := by decide +kernel
theorem dX2_at_5 : decode cX2_at 5 = .ok (.iaload, 1) := by decide +kernel
theorem dX2_at_6 : decode cX2_at 6 = .ok (.idiv, 1) := by decide +kernel
theorem dX2_at_7 : decode cX2_at 7 = .ok (.bipush 10, 2) := by decide +kernel
theorem dX2_at_9 : decode cX2_at 9 = .ok (.irem, 1) := by decide +kernel
theorem dX2_at_10 : decode cX2_at 10 = .ok (.ireturn, 1) := by decide +kernel
theorem dX2_with_0 : decode cX2_with 0 = .ok (.iload_n 0, 1) := by decide +kernel
theorem dX2_with_1 : decode cX2_with 1 = .ok (.iload_n 2, 1) := by decide +kernel
theorem dX2_with_2 : decode cX2_with 2 = .ok (.iload_n 0, 1) := by decide +kernel
theorem dX2_with_3 : decode cX2_with 3 = .ok (.iload_n 1, 1) := by decide +kernel
theorem dX2_with_4 : decode cX2_with 4 = .ok (.invokestatic 13, 3) := by decide +kernel
theorem dX2_with_7 : decode cX2_with 7 = .ok (.isub, 1) := by decide +kernel
theorem dX2_with_8 : decode cX2_with 8 = .ok (.getstatic 7, 3) := by decide +kernel
theorem dX2_with_11 : decode cX2_with 11 = .ok (.iload_n 1, 1) := by decide +kernel
theorem dX2_with_12 : decode cX2_with 12 = .ok (.iaload, 1) := by decide +kernel
theorem dX2_with_13 : decode cX2_with 13 = .ok (.imul, 1) := by decide +kernel
theorem dX2_with_14 : decode cX2_with 14 = .ok (.iadd, 1) := by decide +kernel
theorem dX2_with_15 : decode cX2_with 15 = .ok (.ireturn, 1) := by decide +kernel
theorem dX2_asTold_0 : decode cX2_asTold 0 = .ok (.iload_n 1, 1) := by decide +kernel
theorem dX2_asTold_1 : decode cX2_asTold 1 = .ok (.ifCond .ne 5, 3) := by decide +kernel
theorem dX2_asTold_4 : decode cX2_asTold 4 = .ok (.iload_n 0, 1) := by decide +kernel
theorem dX2_asTold_5 : decode cX2_asTold 5 = .ok (.ireturn, 1) := by decide +kernel
theorem dX2_asTold_6 : decode cX2_asTold 6 = .ok (.getstatic 7, 3) := by decide +kernel
theorem dX2_asTold_9 : decode cX2_asTold 9 = .ok (.iload_n 1, 1) := by decide +kernel
theorem dX2_asTold_10 : decode cX2_asTold 10 = .ok (.iconst 1, 1) := by decide +kernel
theorem dX2_asTold_11 : decode cX2_asTold 11 = .ok (.isub, 1) := by decide +kernel
theorem dX2_asTold_12 : decode cX2_asTold 12 = .ok (.iaload, 1) := by decide +kernel
theorem dX2_asTold_13 : decode cX2_asTold 13 = .ok (.istore_n 2, 1) := by decide +kernel
theorem dX2_asTold_14 : decode cX2_asTold 14 = .ok (.iload_n 0, 1) := by decide +kernel
theorem dX2_asTold_15 : decode cX2_asTold 15 = .ok (.iload_n 2, 1) := by decide +kernel
theorem dX2_asTold_16 : decode cX2_asTold 16 = .ok (.idiv, 1) := by decide +kernel
theorem dX2_asTold_17 : decode cX2_asTold 17 = .ok (.bipush 10, 2) := by decide +kernel
theorem dX2_asTold_19 : decode cX2_asTold 19 = .ok (.irem, 1) := by decide +kernel
theorem dX2_asTold_20 : decode cX2_asTold 20 = .ok (.bipush 9, 2) := by decide +kernel
theorem dX2_asTold_22 : decode cX2_asTold 22 = .ok (.if_icmp .ne 12, 3) := by decide +kernel
theorem dX2_asTold_25 : decode cX2_asTold 25 = .ok (.iload_n 0, 1) := by decide +kernel
theorem dX2_asTold_26 : decode cX2_asTold 26 = .ok (.bipush 9, 2) := by decide +kernel
theorem dX2_asTold_28 : decode cX2_asTold 28 = .ok (.iload_n 2, 1) := by decide +kernel
theorem dX2_asTold_29 : decode cX2_asTold 29 = .ok (.imul, 1) := by decide +kernel
theorem dX2_asTold_30 : decode cX2_asTold 30 = .ok (.isub, 1) := by decide +kernel
theorem dX2_asTold_31 : decode cX2_asTold 31 = .ok (.goto 6, 3) := by decide +kernel
theorem dX2_asTold_34 : decode cX2_asTold 34 = .ok (.iload_n 0, 1) := by decide +kernel
theorem dX2_asTold_35 : decode cX2_asTold 35 = .ok (.iload_n 2, 1) := by decide +kernel
theorem dX2_asTold_36 : decode cX2_asTold 36 = .ok (.iadd, 1) := by decide +kernel
theorem dX2_asTold_37 : decode cX2_asTold 37 = .ok (.ireturn, 1) := by decide +kernel
theorem dX2_distance_0 : decode cX2_distance 0 = .ok (.iconst 0, 1) := by decide +kernel
theorem dX2_distance_1 : decode cX2_distance 1 = .ok (.istore_n 2, 1) := by decide +kernel
theorem dX2_distance_2 : decode cX2_distance 2 = .ok (.iconst 0, 1) := by decide +kernel
theorem dX2_distance_3 : decode cX2_distance 3 = .ok (.istore_n 3, 1) := by decide +kernel
theorem dX2_distance_4 : decode cX2_distance 4 = .ok (.iload_n 3, 1) := by decide +kernel
theorem dX2_distance_5 : decode cX2_distance 5 = .ok (.iconst 4, 1) := by decide +kernel
theorem dX2_distance_6 : decode cX2_distance 6 = .ok (.if_icmp .ge 25, 3) := by decide +kernel
theorem dX2_distance_9 : decode cX2_distance 9 = .ok (.iload_n 0, 1) := by decide +kernel
theorem dX2_distance_10 : decode cX2_distance 10 = .ok (.iload_n 3, 1) := by decide +kernel
theorem dX2_distance_11 : decode cX2_distance 11 = .ok (.invokestatic 13, 3) := by decide +kernel
theorem dX2_distance_14 : decode cX2_distance 14 = .ok (.iload_n 1, 1) := by decide +kernel
theorem dX2_distance_15 : decode cX2_distance 15 = .ok (.iload_n 3, 1) := by decide +kernel
theorem dX2_distance_16 : decode cX2_distance 16 = .ok (.invokestatic 13, 3) := by decide +kernel
theorem dX2_distance_19 : decode cX2_distance 19 = .ok (.if_icmp .eq 6, 3) := by decide +kernel
theorem dX2_distance_22 : decode cX2_distance 22 = .ok (.iinc 2 1, 3) := by decide +kernel
theorem dX2_distance_25 : decode cX2_distance 25 = .ok (.iinc 3 1, 3) := by decide +kernel
theorem dX2_distance_28 : decode cX2_distance 28 = .ok (.goto (-24), 3) := by decide +kernel
theorem dX2_distance_31 : decode cX2_distance 31 = .ok (.iload_n 2, 1) := by decide +kernel
theorem dX2_distance_32 : decode cX2_distance 32 = .ok (.ireturn, 1) := by decide +kernel
theorem dX3_init_0 : decode cX3_init 0 = .ok (.aload_n 0, 1) := by decide +kernel
theorem dX3_init_1 : decode cX3_init 1 = .ok (.invokespecial 3, 3) := by decide +kernel
theorem dX3_init_4 : decode cX3_init 4 = .ok (.aload_n 0, 1) := by decide +kernel
theorem dX3_init_5 : decode cX3_init 5 = .ok (.bipush 8, 2) := by decide +kernel
theorem dX3_init_7 : decode cX3_init 7 = .ok (.bipush 6, 2) := by decide +kernel
theorem dX3_init_9 : decode cX3_init 9 = .ok (.multianewarray 9 2, 4) := by decide +kernel
theorem dX3_init_13 : decode cX3_init 13 = .ok (.putfield 11, 3) := by decide +kernel
theorem dX3_init_16 : decode cX3_init 16 = .ok (.return_, 1) := by decide +kernel
theorem dX3_awaitSaying_0 : decode cX3_awaitSaying 0 = .ok (.iconst 0, 1) := by decide +kernel
theorem dX3_awaitSaying_1 : decode cX3_awaitSaying 1 = .ok (.istore_n 2, 1) := by decide +kernel
theorem dX3_awaitSaying_2 : decode cX3_awaitSaying 2 = .ok (.iload_n 2, 1) := by decide +kernel
theorem dX3_awaitSaying_3 : decode cX3_awaitSaying 3 = .ok (.bipush 6, 2) := by decide +kernel
theorem dX3_awaitSaying_5 : decode cX3_awaitSaying 5 = .ok (.if_icmp .ge 19, 3) := by decide +kernel
theorem dX3_awaitSaying_8 : decode cX3_awaitSaying 8 = .ok (.aload_n 0, 1) := by decide +kernel
theorem dX3_awaitSaying_9 : decode cX3_awaitSaying 9 = .ok (.getfield 11, 3) := by decide +kernel
theorem dX3_awaitSaying_12 : decode cX3_awaitSaying 12 = .ok (.iload_n 1, 1) := by decide +kernel
theorem dX3_awaitSaying_13 : decode cX3_awaitSaying 13 = .ok (.aaload, 1) := by decide +kernel
theorem dX3_awaitSaying_14 : decode cX3_awaitSaying 14 = .ok (.iload_n 2, 1) := by decide +kernel
theorem dX3_awaitSaying_15 : decode cX3_awaitSaying 15 = .ok (.bipush 24, 2) := by decide +kernel
theorem dX3_awaitSaying_17 : decode cX3_awaitSaying 17 = .ok (.iastore, 1) := by decide +kernel
theorem dX3_awaitSaying_18 : decode cX3_awaitSaying 18 = .ok (.iinc 2 1, 3) := by decide +kernel
theorem dX3_awaitSaying_21 : decode cX3_awaitSaying 21 = .ok (.goto (-19), 3) := by decide +kernel
theorem dX3_awaitSaying_24 : decode cX3_awaitSaying 24 = .ok (.return_, 1) := by decide +kernel
theorem dX3_hear_0 : decode cX3_hear 0 = .ok (.iconst 0, 1) := by decide +kernel
theorem dX3_hear_1 : decode cX3_hear 1 = .ok (.istore 4, 2) := by decide +kernel
theorem dX3_hear_3 : decode cX3_hear 3 = .ok (.iload 4, 2) := by decide +kernel
theorem dX3_hear_5 : decode cX3_hear 5 = .ok (.bipush 6, 2) := by decide +kernel
theorem dX3_hear_7 : decode cX3_hear 7 = .ok (.if_icmp .ge 40, 3) := by decide +kernel
theorem dX3_hear_10 : decode cX3_hear 10 = .ok (.iload_n 2, 1) := by decide +kernel
theorem dX3_hear_11 : decode cX3_hear 11 = .ok (.iload 4, 2) := by decide +kernel
theorem dX3_hear_13 : decode cX3_hear 13 = .ok (.invokestatic 16, 3) := by decide +kernel
theorem dX3_hear_16 : decode cX3_hear 16 = .ok (.ifCond .eq 25, 3) := by decide +kernel
theorem dX3_hear_19 : decode cX3_hear 19 = .ok (.aload_n 0, 1) := by decide +kernel
theorem dX3_hear_20 : decode cX3_hear 20 = .ok (.getfield 11, 3) := by decide +kernel
theorem dX3_hear_23 : decode cX3_hear 23 = .ok (.iload_n 1, 1) := by decide +kernel
theorem dX3_hear_24 : decode cX3_hear 24 = .ok (.aaload, 1) := by decide +kernel
theorem dX3_hear_25 : decode cX3_hear 25 = .ok (.iload 4, 2) := by decide +kernel
theorem dX3_hear_27 : decode cX3_hear 27 = .ok (.aload_n 0, 1) := by decide +kernel
theorem dX3_hear_28 : decode cX3_hear 28 = .ok (.getfield 11, 3) := by decide +kernel
theorem dX3_hear_31 : decode cX3_hear 31 = .ok (.iload_n 1, 1) := by decide +kernel
theorem dX3_hear_32 : decode cX3_hear 32 = .ok (.aaload, 1) := by decide +kernel
theorem dX3_hear_33 : decode cX3_hear 33 = .ok (.iload 4, 2) := by decide +kernel
theorem dX3_hear_35 : decode cX3_hear 35 = .ok (.iaload, 1) := by decide +kernel
theorem dX3_hear_36 : decode cX3_hear 36 = .ok (.iload_n 3, 1) := by decide +kernel
theorem dX3_hear_37 : decode cX3_hear 37 = .ok (.invokestatic 20, 3) := by decide +kernel
theorem dX3_hear_40 : decode cX3_hear 40 = .ok (.iastore, 1) := by decide +kernel
theorem dX3_hear_41 : decode cX3_hear 41 = .ok (.iinc 4 1, 3) := by decide +kernel
theorem dX3_hear_44 : decode cX3_hear 44 = .ok (.goto (-41), 3) := by decide +kernel
theorem dX3_hear_47 : decode cX3_hear 47 = .ok (.return_, 1) := by decide +kernel
theorem dX3_choose_0 : decode cX3_choose 0 = .ok (.iconst 0, 1) := by decide +kernel
theorem dX3_choose_1 : decode cX3_choose 1 = .ok (.istore_n 3, 1) := by decide +kernel
theorem dX3_choose_2 : decode cX3_choose 2 = .ok (.sipush 193, 3) := by decide +kernel
theorem dX3_choose_5 : decode cX3_choose 5 = .ok (.istore 4, 2) := by decide +kernel
theorem dX3_choose_7 : decode cX3_choose 7 = .ok (.iconst 1, 1) := by decide +kernel
theorem dX3_choose_8 : decode cX3_choose 8 = .ok (.istore 5, 2) := by decide +kernel
theorem dX3_choose_10 : decode cX3_choose 10 = .ok (.iload 5, 2) := by decide +kernel
theorem dX3_choose_12 : decode cX3_choose 12 = .ok (.bipush 64, 2) := by decide +kernel
theorem dX3_choose_14 : decode cX3_choose 14 = .ok (.if_icmp .ge 42, 3) := by decide +kernel
theorem dX3_choose_17 : decode cX3_choose 17 = .ok (.iload 5, 2) := by decide +kernel
theorem dX3_choose_19 : decode cX3_choose 19 = .ok (.invokestatic 26, 3) := by decide +kernel
theorem dX3_choose_22 : decode cX3_choose 22 = .ok (.iload_n 1, 1) := by decide +kernel
theorem dX3_choose_23 : decode cX3_choose 23 = .ok (.if_icmp .ne 27, 3) := by decide +kernel
theorem dX3_choose_26 : decode cX3_choose 26 = .ok (.aload_n 0, 1) := by decide +kernel
theorem dX3_choose_27 : decode cX3_choose 27 = .ok (.iload 5, 2) := by decide +kernel
theorem dX3_choose_29 : decode cX3_choose 29 = .ok (.iload_n 2, 1) := by decide +kernel
theorem dX3_choose_30 : decode cX3_choose 30 = .ok (.invokevirtual 32, 3) := by decide +kernel
theorem dX3_choose_33 : decode cX3_choose 33 = .ok (.iload 4, 2) := by decide +kernel
theorem dX3_choose_35 : decode cX3_choose 35 = .ok (.if_icmp .ge 15, 3) := by decide +kernel
theorem dX3_choose_38 : decode cX3_choose 38 = .ok (.aload_n 0, 1) := by decide +kernel
theorem dX3_choose_39 : decode cX3_choose 39 = .ok (.iload 5, 2) := by decide +kernel
theorem dX3_choose_41 : decode cX3_choose 41 = .ok (.iload_n 2, 1) := by decide +kernel
theorem dX3_choose_42 : decode cX3_choose 42 = .ok (.invokevirtual 32, 3) := by decide +kernel
theorem dX3_choose_45 : decode cX3_choose 45 = .ok (.istore 4, 2) := by decide +kernel
theorem dX3_choose_47 : decode cX3_choose 47 = .ok (.iload 5, 2) := by decide +kernel
theorem dX3_choose_49 : decode cX3_choose 49 = .ok (.istore_n 3, 1) := by decide +kernel
theorem dX3_choose_50 : decode cX3_choose 50 = .ok (.iinc 5 1, 3) := by decide +kernel
theorem dX3_choose_53 : decode cX3_choose 53 = .ok (.goto (-43), 3) := by decide +kernel
theorem dX3_choose_56 : decode cX3_choose 56 = .ok (.iload_n 3, 1) := by decide +kernel
theorem dX3_choose_57 : decode cX3_choose 57 = .ok (.ireturn, 1) := by decide +kernel
theorem dX3_sumOf_0 : decode cX3_sumOf 0 = .ok (.iconst 0, 1) := by decide +kernel
theorem dX3_sumOf_1 : decode cX3_sumOf 1 = .ok (.istore_n 3, 1) := by decide +kernel
theorem dX3_sumOf_2 : decode cX3_sumOf 2 = .ok (.iconst 0, 1) := by decide +kernel
theorem dX3_sumOf_3 : decode cX3_sumOf 3 = .ok (.istore 4, 2) := by decide +kernel
theorem dX3_sumOf_5 : decode cX3_sumOf 5 = .ok (.iload 4, 2) := by decide +kernel
theorem dX3_sumOf_7 : decode cX3_sumOf 7 = .ok (.iload_n 2, 1) := by decide +kernel
theorem dX3_sumOf_8 : decode cX3_sumOf 8 = .ok (.if_icmp .ge 60, 3) := by decide +kernel
theorem dX3_sumOf_11 : decode cX3_sumOf 11 = .ok (.bipush 24, 2) := by decide +kernel
theorem dX3_sumOf_13 : decode cX3_sumOf 13 = .ok (.istore 5, 2) := by decide +kernel
theorem dX3_sumOf_15 : decode cX3_sumOf 15 = .ok (.iconst 0, 1) := by decide +kernel
theorem dX3_sumOf_16 : decode cX3_sumOf 16 = .ok (.istore 6, 2) := by decide +kernel
theorem dX3_sumOf_18 : decode cX3_sumOf 18 = .ok (.iload 6, 2) := by decide +kernel
theorem dX3_sumOf_20 : decode cX3_sumOf 20 = .ok (.bipush 6, 2) := by decide +kernel
theorem dX3_sumOf_22 : decode cX3_sumOf 22 = .ok (.if_icmp .ge 35, 3) := by decide +kernel
theorem dX3_sumOf_25 : decode cX3_sumOf 25 = .ok (.iload_n 1, 1) := by decide +kernel
theorem dX3_sumOf_26 : decode cX3_sumOf 26 = .ok (.iload 6, 2) := by decide +kernel
theorem dX3_sumOf_28 : decode cX3_sumOf 28 = .ok (.invokestatic 16, 3) := by decide +kernel
theorem dX3_sumOf_31 : decode cX3_sumOf 31 = .ok (.ifCond .eq 20, 3) := by decide +kernel
theorem dX3_sumOf_34 : decode cX3_sumOf 34 = .ok (.iload 5, 2) := by decide +kernel
theorem dX3_sumOf_36 : decode cX3_sumOf 36 = .ok (.aload_n 0, 1) := by decide +kernel
theorem dX3_sumOf_37 : decode cX3_sumOf 37 = .ok (.getfield 11, 3) := by decide +kernel
theorem dX3_sumOf_40 : decode cX3_sumOf 40 = .ok (.iload 4, 2) := by decide +kernel
theorem dX3_sumOf_42 : decode cX3_sumOf 42 = .ok (.aaload, 1) := by decide +kernel
theorem dX3_sumOf_43 : decode cX3_sumOf 43 = .ok (.iload 6, 2) := by decide +kernel
theorem dX3_sumOf_45 : decode cX3_sumOf 45 = .ok (.iaload, 1) := by decide +kernel
theorem dX3_sumOf_46 : decode cX3_sumOf 46 = .ok (.invokestatic 20, 3) := by decide +kernel
theorem dX3_sumOf_49 : decode cX3_sumOf 49 = .ok (.istore 5, 2) := by decide +kernel
theorem dX3_sumOf_51 : decode cX3_sumOf 51 = .ok (.iinc 6 1, 3) := by decide +kernel
theorem dX3_sumOf_54 : decode cX3_sumOf 54 = .ok (.goto (-36), 3) := by decide +kernel
theorem dX3_sumOf_57 : decode cX3_sumOf 57 = .ok (.iload_n 3, 1) := by decide +kernel
theorem dX3_sumOf_58 : decode cX3_sumOf 58 = .ok (.iload 5, 2) := by decide +kernel
theorem dX3_sumOf_60 : decode cX3_sumOf 60 = .ok (.iadd, 1) := by decide +kernel
theorem dX3_sumOf_61 : decode cX3_sumOf 61 = .ok (.istore_n 3, 1) := by decide +kernel
theorem dX3_sumOf_62 : decode cX3_sumOf 62 = .ok (.iinc 4 1, 3) := by decide +kernel
theorem dX3_sumOf_65 : decode cX3_sumOf 65 = .ok (.goto (-60), 3) := by decide +kernel
theorem dX3_sumOf_68 : decode cX3_sumOf 68 = .ok (.iload_n 3, 1) := by decide +kernel
theorem dX3_sumOf_69 : decode cX3_sumOf 69 = .ok (.ireturn, 1) := by decide +kernel
theorem dX4_init_0 : decode cX4_init 0 = .ok (.aload_n 0, 1) := by decide +kernel
theorem dX4_init_1 : decode cX4_init 1 = .ok (.invokespecial 3, 3) := by decide +kernel
theorem dX4_init_4 : decode cX4_init 4 = .ok (.aload_n 0, 1) := by decide +kernel
theorem dX4_init_5 : decode cX4_init 5 = .ok (.bipush (-4), 2) := by decide +kernel
theorem dX4_init_7 : decode cX4_init 7 = .ok (.putfield 9, 3) := by decide +kernel
theorem dX4_init_10 : decode cX4_init 10 = .ok (.aload_n 0, 1) := by decide +kernel
theorem dX4_init_11 : decode cX4_init 11 = .ok (.bipush 24, 2) := by decide +kernel
theorem dX4_init_13 : decode cX4_init 13 = .ok (.newarray .int, 2) := by decide +kernel
theorem dX4_init_15 : decode cX4_init 15 = .ok (.putfield 15, 3) := by decide +kernel
theorem dX4_init_18 : decode cX4_init 18 = .ok (.aload_n 0, 1) := by decide +kernel
theorem dX4_init_19 : decode cX4_init 19 = .ok (.bipush 24, 2) := by decide +kernel
theorem dX4_init_21 : decode cX4_init 21 = .ok (.newarray .int, 2) := by decide +kernel
theorem dX4_init_23 : decode cX4_init 23 = .ok (.putfield 19, 3) := by decide +kernel
theorem dX4_init_26 : decode cX4_init 26 = .ok (.return_, 1) := by decide +kernel
theorem dX4_take_0 : decode cX4_take 0 = .ok (.iload_n 3, 1) := by decide +kernel
theorem dX4_take_1 : decode cX4_take 1 = .ok (.ifCond .eq 18, 3) := by decide +kernel
theorem dX4_take_4 : decode cX4_take 4 = .ok (.aload_n 0, 1) := by decide +kernel
theorem dX4_take_5 : decode cX4_take 5 = .ok (.getfield 15, 3) := by decide +kernel
theorem dX4_take_8 : decode cX4_take 8 = .ok (.iload_n 2, 1) := by decide +kernel
theorem dX4_take_9 : decode cX4_take 9 = .ok (.dup2, 1) := by decide +kernel
theorem dX4_take_10 : decode cX4_take 10 = .ok (.iaload, 1) := by decide +kernel
theorem dX4_take_11 : decode cX4_take 11 = .ok (.iconst 1, 1) := by decide +kernel
theorem dX4_take_12 : decode cX4_take 12 = .ok (.iload_n 1, 1) := by decide +kernel
theorem dX4_take_13 : decode cX4_take 13 = .ok (.ishl, 1) := by decide +kernel
theorem dX4_take_14 : decode cX4_take 14 = .ok (.ior, 1) := by decide +kernel
theorem dX4_take_15 : decode cX4_take 15 = .ok (.iastore, 1) := by decide +kernel
theorem dX4_take_16 : decode cX4_take 16 = .ok (.goto 15, 3) := by decide +kernel
theorem dX4_take_19 : decode cX4_take 19 = .ok (.aload_n 0, 1) := by decide +kernel
theorem dX4_take_20 : decode cX4_take 20 = .ok (.getfield 19, 3) := by decide +kernel
theorem dX4_take_23 : decode cX4_take 23 = .ok (.iload_n 2, 1) := by decide +kernel
theorem dX4_take_24 : decode cX4_take 24 = .ok (.dup2, 1) := by decide +kernel
theorem dX4_take_25 : decode cX4_take 25 = .ok (.iaload, 1) := by decide +kernel
theorem dX4_take_26 : decode cX4_take 26 = .ok (.iconst 1, 1) := by decide +kernel
theorem dX4_take_27 : decode cX4_take 27 = .ok (.iload_n 1, 1) := by decide +kernel
theorem dX4_take_28 : decode cX4_take 28 = .ok (.ishl, 1) := by decide +kernel
theorem dX4_take_29 : decode cX4_take 29 = .ok (.ior, 1) := by decide +kernel
theorem dX4_take_30 : decode cX4_take 30 = .ok (.iastore, 1) := by decide +kernel
theorem dX4_take_31 : decode cX4_take 31 = .ok (.aload_n 0, 1) := by decide +kernel
theorem dX4_take_32 : decode cX4_take 32 = .ok (.aload_n 0, 1) := by decide +kernel
theorem dX4_take_33 : decode cX4_take 33 = .ok (.getfield 9, 3) := by decide +kernel
theorem dX4_take_36 : decode cX4_take 36 = .ok (.iload_n 2, 1) := by decide +kernel
theorem dX4_take_37 : decode cX4_take 37 = .ok (.invokestatic 22, 3) := by decide +kernel
theorem dX4_take_40 : decode cX4_take 40 = .ok (.putfield 9, 3) := by decide +kernel
theorem dX4_take_43 : decode cX4_take 43 = .ok (.aload_n 0, 1) := by decide +kernel
theorem dX4_take_44 : decode cX4_take 44 = .ok (.dup, 1) := by decide +kernel
theorem dX4_take_45 : decode cX4_take 45 = .ok (.getfield 28, 3) := by decide +kernel
theorem dX4_take_48 : decode cX4_take 48 = .ok (.iconst 1, 1) := by decide +kernel
theorem dX4_take_49 : decode cX4_take 49 = .ok (.iadd, 1) := by decide +kernel
theorem dX4_take_50 : decode cX4_take 50 = .ok (.putfield 28, 3) := by decide +kernel
theorem dX4_take_53 : decode cX4_take 53 = .ok (.aload_n 0, 1) := by decide +kernel
theorem dX4_take_54 : decode cX4_take 54 = .ok (.getfield 28, 3) := by decide +kernel
theorem dX4_take_57 : decode cX4_take 57 = .ok (.iconst 1, 1) := by decide +kernel
theorem dX4_take_58 : decode cX4_take 58 = .ok (.isub, 1) := by decide +kernel
theorem dX4_take_59 : decode cX4_take 59 = .ok (.ireturn, 1) := by decide +kernel
theorem dX4_forget_0 : decode cX4_forget 0 = .ok (.iconst 0, 1) := by decide +kernel
theorem dX4_forget_1 : decode cX4_forget 1 = .ok (.istore_n 1, 1) := by decide +kernel
theorem dX4_forget_2 : decode cX4_forget 2 = .ok (.iload_n 1, 1) := by decide +kernel
theorem dX4_forget_3 : decode cX4_forget 3 = .ok (.bipush 24, 2) := by decide +kernel
theorem dX4_forget_5 : decode cX4_forget 5 = .ok (.if_icmp .ge 23, 3) := by decide +kernel
theorem dX4_forget_8 : decode cX4_forget 8 = .ok (.aload_n 0, 1) := by decide +kernel
theorem dX4_forget_9 : decode cX4_forget 9 = .ok (.getfield 15, 3) := by decide +kernel
theorem dX4_forget_12 : decode cX4_forget 12 = .ok (.iload_n 1, 1) := by decide +kernel
theorem dX4_forget_13 : decode cX4_forget 13 = .ok (.iconst 0, 1) := by decide +kernel
theorem dX4_forget_14 : decode cX4_forget 14 = .ok (.iastore, 1) := by decide +kernel
theorem dX4_forget_15 : decode cX4_forget 15 = .ok (.aload_n 0, 1) := by decide +kernel
theorem dX4_forget_16 : decode cX4_forget 16 = .ok (.getfield 19, 3) := by decide +kernel
theorem dX4_forget_19 : decode cX4_forget 19 = .ok (.iload_n 1, 1) := by decide +kernel
theorem dX4_forget_20 : decode cX4_forget 20 = .ok (.iconst 0, 1) := by decide +kernel
theorem dX4_forget_21 : decode cX4_forget 21 = .ok (.iastore, 1) := by decide +kernel
theorem dX4_forget_22 : decode cX4_forget 22 = .ok (.iinc 1 1, 3) := by decide +kernel
theorem dX4_forget_25 : decode cX4_forget 25 = .ok (.goto (-23), 3) := by decide +kernel
theorem dX4_forget_28 : decode cX4_forget 28 = .ok (.aload_n 0, 1) := by decide +kernel
theorem dX4_forget_29 : decode cX4_forget 29 = .ok (.getfield 28, 3) := by decide +kernel
theorem dX4_forget_32 : decode cX4_forget 32 = .ok (.istore_n 1, 1) := by decide +kernel
theorem dX4_forget_33 : decode cX4_forget 33 = .ok (.aload_n 0, 1) := by decide +kernel
theorem dX4_forget_34 : decode cX4_forget 34 = .ok (.iconst 0, 1) := by decide +kernel
theorem dX4_forget_35 : decode cX4_forget 35 = .ok (.putfield 28, 3) := by decide +kernel
theorem dX4_forget_38 : decode cX4_forget 38 = .ok (.aload_n 0, 1) := by decide +kernel
theorem dX4_forget_39 : decode cX4_forget 39 = .ok (.bipush (-4), 2) := by decide +kernel
theorem dX4_forget_41 : decode cX4_forget 41 = .ok (.putfield 9, 3) := by decide +kernel
theorem dX4_forget_44 : decode cX4_forget 44 = .ok (.iload_n 1, 1) := by decide +kernel
theorem dX4_forget_45 : decode cX4_forget 45 = .ok (.ireturn, 1) := by decide +kernel
theorem dX4_agreeWith_0 : decode cX4_agreeWith 0 = .ok (.aload_n 0, 1) := by decide +kernel
theorem dX4_agreeWith_1 : decode cX4_agreeWith 1 = .ok (.getfield 15, 3) := by decide +kernel
theorem dX4_agreeWith_4 : decode cX4_agreeWith 4 = .ok (.iload_n 1, 1) := by decide +kernel
theorem dX4_agreeWith_5 : decode cX4_agreeWith 5 = .ok (.iaload, 1) := by decide +kernel
theorem dX4_agreeWith_6 : decode cX4_agreeWith 6 = .ok (.iload_n 2, 1) := by decide +kernel
theorem dX4_agreeWith_7 : decode cX4_agreeWith 7 = .ok (.iconst (-1), 1) := by decide +kernel
theorem dX4_agreeWith_8 : decode cX4_agreeWith 8 = .ok (.ixor, 1) := by decide +kernel
theorem dX4_agreeWith_9 : decode cX4_agreeWith 9 = .ok (.iand, 1) := by decide +kernel
theorem dX4_agreeWith_10 : decode cX4_agreeWith 10 = .ok (.ifCond .ne 18, 3) := by decide +kernel
theorem dX4_agreeWith_13 : decode cX4_agreeWith 13 = .ok (.aload_n 0, 1) := by decide +kernel
theorem dX4_agreeWith_14 : decode cX4_agreeWith 14 = .ok (.getfield 19, 3) := by decide +kernel
theorem dX4_agreeWith_17 : decode cX4_agreeWith 17 = .ok (.iload_n 1, 1) := by decide +kernel
theorem dX4_agreeWith_18 : decode cX4_agreeWith 18 = .ok (.iaload, 1) := by decide +kernel
theorem dX4_agreeWith_19 : decode cX4_agreeWith 19 = .ok (.iload_n 2, 1) := by decide +kernel
theorem dX4_agreeWith_20 : decode cX4_agreeWith 20 = .ok (.iand, 1) := by decide +kernel
theorem dX4_agreeWith_21 : decode cX4_agreeWith 21 = .ok (.ifCond .ne 7, 3) := by decide +kernel
theorem dX4_agreeWith_24 : decode cX4_agreeWith 24 = .ok (.iconst 1, 1) := by decide +kernel
theorem dX4_agreeWith_25 : decode cX4_agreeWith 25 = .ok (.goto 4, 3) := by decide +kernel
theorem dX4_agreeWith_28 : decode cX4_agreeWith 28 = .ok (.iconst 0, 1) := by decide +kernel
theorem dX4_agreeWith_29 : decode cX4_agreeWith 29 = .ok (.ireturn, 1) := by decide +kernel
theorem dX5_init_0 : decode cX5_init 0 = .ok (.aload_n 0, 1) := by decide +kernel
theorem dX5_init_1 : decode cX5_init 1 = .ok (.invokespecial 3, 3) := by decide +kernel
theorem dX5_init_4 : decode cX5_init 4 = .ok (.aload_n 0, 1) := by decide +kernel
theorem dX5_init_5 : decode cX5_init 5 = .ok (.new 9, 3) := by decide +kernel
theorem dX5_init_8 : decode cX5_init 8 = .ok (.dup, 1) := by decide +kernel
theorem dX5_init_9 : decode cX5_init 9 = .ok (.invokespecial 11, 3) := by decide +kernel
theorem dX5_init_12 : decode cX5_init 12 = .ok (.putfield 12, 3) := by decide +kernel
theorem dX5_init_15 : decode cX5_init 15 = .ok (.return_, 1) := by decide +kernel
theorem dX5_isSecret_0 : decode cX5_isSecret 0 = .ok (.aload_n 0, 1) := by decide +kernel
theorem dX5_isSecret_1 : decode cX5_isSecret 1 = .ok (.getfield 18, 3) := by decide +kernel
theorem dX5_isSecret_4 : decode cX5_isSecret 4 = .ok (.iconst 3, 1) := by decide +kernel
theorem dX5_isSecret_5 : decode cX5_isSecret 5 = .ok (.if_icmp .ne 14, 3) := by decide +kernel
theorem dX5_isSecret_8 : decode cX5_isSecret 8 = .ok (.aload_n 0, 1) := by decide +kernel
theorem dX5_isSecret_9 : decode cX5_isSecret 9 = .ok (.getfield 22, 3) := by decide +kernel
theorem dX5_isSecret_12 : decode cX5_isSecret 12 = .ok (.ifCond .ne 7, 3) := by decide +kernel
theorem dX5_isSecret_15 : decode cX5_isSecret 15 = .ok (.iconst 1, 1) := by decide +kernel
theorem dX5_isSecret_16 : decode cX5_isSecret 16 = .ok (.goto 4, 3) := by decide +kernel
theorem dX5_isSecret_19 : decode cX5_isSecret 19 = .ok (.iconst 0, 1) := by decide +kernel
theorem dX5_isSecret_20 : decode cX5_isSecret 20 = .ok (.ireturn, 1) := by decide +kernel
theorem dX6_init_0 : decode cX6_init 0 = .ok (.aload_n 0, 1) := by decide +kernel
theorem dX6_init_1 : decode cX6_init 1 = .ok (.invokespecial 3, 3) := by decide +kernel
theorem dX6_init_4 : decode cX6_init 4 = .ok (.aload_n 0, 1) := by decide +kernel
theorem dX6_init_5 : decode cX6_init 5 = .ok (.bipush 32, 2) := by decide +kernel
theorem dX6_init_7 : decode cX6_init 7 = .ok (.newarray .int, 2) := by decide +kernel
theorem dX6_init_9 : decode cX6_init 9 = .ok (.putfield 11, 3) := by decide +kernel
theorem dX6_init_12 : decode cX6_init 12 = .ok (.aload_n 0, 1) := by decide +kernel
theorem dX6_init_13 : decode cX6_init 13 = .ok (.iconst (-1), 1) := by decide +kernel
theorem dX6_init_14 : decode cX6_init 14 = .ok (.putfield 15, 3) := by decide +kernel
theorem dX6_init_17 : decode cX6_init 17 = .ok (.return_, 1) := by decide +kernel
theorem dX6_isMissing_0 : decode cX6_isMissing 0 = .ok (.aload_n 0, 1) := by decide +kernel
theorem dX6_isMissing_1 : decode cX6_isMissing 1 = .ok (.getfield 15, 3) := by decide +kernel
theorem dX6_isMissing_4 : decode cX6_isMissing 4 = .ok (.iconst (-1), 1) := by decide +kernel
theorem dX6_isMissing_5 : decode cX6_isMissing 5 = .ok (.if_icmp .ne 7, 3) := by decide +kernel
theorem dX6_isMissing_8 : decode cX6_isMissing 8 = .ok (.iconst 1, 1) := by decide +kernel
theorem dX6_isMissing_9 : decode cX6_isMissing 9 = .ok (.goto 4, 3) := by decide +kernel
theorem dX6_isMissing_12 : decode cX6_isMissing 12 = .ok (.iconst 0, 1) := by decide +kernel
theorem dX6_isMissing_13 : decode cX6_isMissing 13 = .ok (.ireturn, 1) := by decide +kernel
theorem dX6_hold_0 : decode cX6_hold 0 = .ok (.aload_n 0, 1) := by decide +kernel
theorem dX6_hold_1 : decode cX6_hold 1 = .ok (.iload_n 1, 1) := by decide +kernel
theorem dX6_hold_2 : decode cX6_hold 2 = .ok (.putfield 15, 3) := by decide +kernel
theorem dX6_hold_5 : decode cX6_hold 5 = .ok (.aload_n 0, 1) := by decide +kernel
theorem dX6_hold_6 : decode cX6_hold 6 = .ok (.iload_n 2, 1) := by decide +kernel
theorem dX6_hold_7 : decode cX6_hold 7 = .ok (.putfield 19, 3) := by decide +kernel
theorem dX6_hold_10 : decode cX6_hold 10 = .ok (.iconst 0, 1) := by decide +kernel
theorem dX6_hold_11 : decode cX6_hold 11 = .ok (.istore_n 3, 1) := by decide +kernel
theorem dX6_hold_12 : decode cX6_hold 12 = .ok (.iload_n 3, 1) := by decide +kernel
theorem dX6_hold_13 : decode cX6_hold 13 = .ok (.bipush 32, 2) := by decide +kernel
theorem dX6_hold_15 : decode cX6_hold 15 = .ok (.if_icmp .ge 16, 3) := by decide +kernel
theorem dX6_hold_18 : decode cX6_hold 18 = .ok (.aload_n 0, 1) := by decide +kernel
theorem dX6_hold_19 : decode cX6_hold 19 = .ok (.getfield 11, 3) := by decide +kernel
theorem dX6_hold_22 : decode cX6_hold 22 = .ok (.iload_n 3, 1) := by decide +kernel
theorem dX6_hold_23 : decode cX6_hold 23 = .ok (.iconst 0, 1) := by decide +kernel
theorem dX6_hold_24 : decode cX6_hold 24 = .ok (.iastore, 1) := by decide +kernel
theorem dX6_hold_25 : decode cX6_hold 25 = .ok (.iinc 3 1, 3) := by decide +kernel
theorem dX6_hold_28 : decode cX6_hold 28 = .ok (.goto (-16), 3) := by decide +kernel
theorem dX6_hold_31 : decode cX6_hold 31 = .ok (.return_, 1) := by decide +kernel
theorem dX6_spans_0 : decode cX6_spans 0 = .ok (.iload_n 1, 1) := by decide +kernel
theorem dX6_spans_1 : decode cX6_spans 1 = .ok (.ifCond .lt 25, 3) := by decide +kernel
theorem dX6_spans_4 : decode cX6_spans 4 = .ok (.iload_n 2, 1) := by decide +kernel
theorem dX6_spans_5 : decode cX6_spans 5 = .ok (.aload_n 0, 1) := by decide +kernel
theorem dX6_spans_6 : decode cX6_spans 6 = .ok (.getfield 19, 3) := by decide +kernel
theorem dX6_spans_9 : decode cX6_spans 9 = .ok (.if_icmp .gt 17, 3) := by decide +kernel
theorem dX6_spans_12 : decode cX6_spans 12 = .ok (.iload_n 1, 1) := by decide +kernel
theorem dX6_spans_13 : decode cX6_spans 13 = .ok (.aload_n 0, 1) := by decide +kernel
theorem dX6_spans_14 : decode cX6_spans 14 = .ok (.getfield 19, 3) := by decide +kernel
theorem dX6_spans_17 : decode cX6_spans 17 = .ok (.iload_n 2, 1) := by decide +kernel
theorem dX6_spans_18 : decode cX6_spans 18 = .ok (.isub, 1) := by decide +kernel
theorem dX6_spans_19 : decode cX6_spans 19 = .ok (.if_icmp .gt 7, 3) := by decide +kernel
theorem dX6_spans_22 : decode cX6_spans 22 = .ok (.iconst 1, 1) := by decide +kernel
theorem dX6_spans_23 : decode cX6_spans 23 = .ok (.goto 4, 3) := by decide +kernel
theorem dX6_spans_26 : decode cX6_spans 26 = .ok (.iconst 0, 1) := by decide +kernel
theorem dX6_spans_27 : decode cX6_spans 27 = .ok (.ireturn, 1) := by decide +kernel
theorem dX6_faultFor_0 : decode cX6_faultFor 0 = .ok (.aload_n 0, 1) := by decide +kernel
theorem dX6_faultFor_1 : decode cX6_faultFor 1 = .ok (.invokevirtual 22, 3) := by decide +kernel
theorem dX6_faultFor_4 : decode cX6_faultFor 4 = .ok (.ifCond .eq 6, 3) := by decide +kernel
theorem dX6_faultFor_7 : decode cX6_faultFor 7 = .ok (.bipush (-11), 2) := by decide +kernel
theorem dX6_faultFor_9 : decode cX6_faultFor 9 = .ok (.ireturn, 1) := by decide +kernel
theorem dX6_faultFor_10 : decode cX6_faultFor 10 = .ok (.aload_n 0, 1) := by decide +kernel
theorem dX6_faultFor_11 : decode cX6_faultFor 11 = .ok (.getfield 15, 3) := by decide +kernel
theorem dX6_faultFor_14 : decode cX6_faultFor 14 = .ok (.iload_n 1, 1) := by decide +kernel
theorem dX6_faultFor_15 : decode cX6_faultFor 15 = .ok (.if_icmp .eq 6, 3) := by decide +kernel
theorem dX6_faultFor_18 : decode cX6_faultFor 18 = .ok (.bipush (-12), 2) := by decide +kernel
theorem dX6_faultFor_20 : decode cX6_faultFor 20 = .ok (.ireturn, 1) := by decide +kernel
theorem dX6_faultFor_21 : decode cX6_faultFor 21 = .ok (.aload_n 0, 1) := by decide +kernel
theorem dX6_faultFor_22 : decode cX6_faultFor 22 = .ok (.iload_n 2, 1) := by decide +kernel
theorem dX6_faultFor_23 : decode cX6_faultFor 23 = .ok (.iload_n 3, 1) := by decide +kernel
theorem dX6_faultFor_24 : decode cX6_faultFor 24 = .ok (.invokevirtual 26, 3) := by decide +kernel
theorem dX6_faultFor_27 : decode cX6_faultFor 27 = .ok (.ifCond .eq 7, 3) := by decide +kernel
theorem dX6_faultFor_30 : decode cX6_faultFor 30 = .ok (.iconst 0, 1) := by decide +kernel
theorem dX6_faultFor_31 : decode cX6_faultFor 31 = .ok (.goto 5, 3) := by decide +kernel
theorem dX6_faultFor_34 : decode cX6_faultFor 34 = .ok (.bipush (-13), 2) := by decide +kernel
theorem dX6_faultFor_36 : decode cX6_faultFor 36 = .ok (.ireturn, 1) := by decide +kernel
theorem dX6_asItem_0 : decode cX6_asItem 0 = .ok (.iload_n 0, 1) := by decide +kernel
theorem dX6_asItem_1 : decode cX6_asItem 1 = .ok (.ifCond .ne 13, 3) := by decide +kernel
theorem dX6_asItem_4 : decode cX6_asItem 4 = .ok (.iload_n 1, 1) := by decide +kernel
theorem dX6_asItem_5 : decode cX6_asItem 5 = .ok (.ifCond .eq 7, 3) := by decide +kernel
theorem dX6_asItem_8 : decode cX6_asItem 8 = .ok (.iconst 1, 1) := by decide +kernel
theorem dX6_asItem_9 : decode cX6_asItem 9 = .ok (.goto 4, 3) := by decide +kernel
theorem dX6_asItem_12 : decode cX6_asItem 12 = .ok (.iconst 0, 1) := by decide +kernel
theorem dX6_asItem_13 : decode cX6_asItem 13 = .ok (.ireturn, 1) := by decide +kernel
theorem dX6_asItem_14 : decode cX6_asItem 14 = .ok (.iload_n 0, 1) := by decide +kernel
theorem dX6_asItem_15 : decode cX6_asItem 15 = .ok (.iconst 1, 1) := by decide +kernel
theorem dX6_asItem_16 : decode cX6_asItem 16 = .ok (.if_icmp .ne 8, 3) := by decide +kernel
theorem dX6_asItem_19 : decode cX6_asItem 19 = .ok (.iload_n 1, 1) := by decide +kernel
theorem dX6_asItem_20 : decode cX6_asItem 20 = .ok (.i2b, 1) := by decide +kernel
theorem dX6_asItem_21 : decode cX6_asItem 21 = .ok (.goto 4, 3) := by decide +kernel
theorem dX6_asItem_24 : decode cX6_asItem 24 = .ok (.iload_n 1, 1) := by decide +kernel
theorem dX6_asItem_25 : decode cX6_asItem 25 = .ok (.ireturn, 1) := by decide +kernel
theorem dX7_init_0 : decode cX7_init 0 = .ok (.aload_n 0, 1) := by decide +kernel
theorem dX7_init_1 : decode cX7_init 1 = .ok (.invokespecial 3, 3) := by decide +kernel
theorem dX7_init_4 : decode cX7_init 4 = .ok (.aload_n 0, 1) := by decide +kernel
theorem dX7_init_5 : decode cX7_init 5 = .ok (.bipush 16, 2) := by decide +kernel
theorem dX7_init_7 : decode cX7_init 7 = .ok (.newarray .int, 2) := by decide +kernel
theorem dX7_init_9 : decode cX7_init 9 = .ok (.putfield 9, 3) := by decide +kernel
theorem dX7_init_12 : decode cX7_init 12 = .ok (.aload_n 0, 1) := by decide +kernel
theorem dX7_init_13 : decode cX7_init 13 = .ok (.bipush 16, 2) := by decide +kernel
theorem dX7_init_15 : decode cX7_init 15 = .ok (.newarray .int, 2) := by decide +kernel
theorem dX7_init_17 : decode cX7_init 17 = .ok (.putfield 15, 3) := by decide +kernel
theorem dX7_init_20 : decode cX7_init 20 = .ok (.aload_n 0, 1) := by decide +kernel
theorem dX7_init_21 : decode cX7_init 21 = .ok (.bipush 16, 2) := by decide +kernel
theorem dX7_init_23 : decode cX7_init 23 = .ok (.newarray .int, 2) := by decide +kernel
theorem dX7_init_25 : decode cX7_init 25 = .ok (.putfield 18, 3) := by decide +kernel
theorem dX7_init_28 : decode cX7_init 28 = .ok (.aload_n 0, 1) := by decide +kernel
theorem dX7_init_29 : decode cX7_init 29 = .ok (.bipush 16, 2) := by decide +kernel
theorem dX7_init_31 : decode cX7_init 31 = .ok (.newarray .int, 2) := by decide +kernel
theorem dX7_init_33 : decode cX7_init 33 = .ok (.putfield 21, 3) := by decide +kernel
theorem dX7_init_36 : decode cX7_init 36 = .ok (.aload_n 0, 1) := by decide +kernel
theorem dX7_init_37 : decode cX7_init 37 = .ok (.bipush 16, 2) := by decide +kernel
theorem dX7_init_39 : decode cX7_init 39 = .ok (.newarray .int, 2) := by decide +kernel
theorem dX7_init_41 : decode cX7_init 41 = .ok (.putfield 24, 3) := by decide +kernel
theorem dX7_init_44 : decode cX7_init 44 = .ok (.return_, 1) := by decide +kernel
theorem dX7_empty_0 : decode cX7_empty 0 = .ok (.iconst 0, 1) := by decide +kernel
theorem dX7_empty_1 : decode cX7_empty 1 = .ok (.istore_n 1, 1) := by decide +kernel
theorem dX7_empty_2 : decode cX7_empty 2 = .ok (.iload_n 1, 1) := by decide +kernel
theorem dX7_empty_3 : decode cX7_empty 3 = .ok (.bipush 16, 2) := by decide +kernel
theorem dX7_empty_5 : decode cX7_empty 5 = .ok (.if_icmp .ge 16, 3) := by decide +kernel
theorem dX7_empty_8 : decode cX7_empty 8 = .ok (.aload_n 0, 1) := by decide +kernel
theorem dX7_empty_9 : decode cX7_empty 9 = .ok (.getfield 9, 3) := by decide +kernel
theorem dX7_empty_12 : decode cX7_empty 12 = .ok (.iload_n 1, 1) := by decide +kernel
theorem dX7_empty_13 : decode cX7_empty 13 = .ok (.iconst 0, 1) := by decide +kernel
theorem dX7_empty_14 : decode cX7_empty 14 = .ok (.iastore, 1) := by decide +kernel
theorem dX7_empty_15 : decode cX7_empty 15 = .ok (.iinc 1 1, 3) := by decide +kernel
theorem dX7_empty_18 : decode cX7_empty 18 = .ok (.goto (-16), 3) := by decide +kernel
theorem dX7_empty_21 : decode cX7_empty 21 = .ok (.return_, 1) := by decide +kernel
theorem dX7_becomeLike_0 : decode cX7_becomeLike 0 = .ok (.iconst 0, 1) := by decide +kernel
theorem dX7_becomeLike_1 : decode cX7_becomeLike 1 = .ok (.istore_n 2, 1) := by decide +kernel
theorem dX7_becomeLike_2 : decode cX7_becomeLike 2 = .ok (.iload_n 2, 1) := by decide +kernel
theorem dX7_becomeLike_3 : decode cX7_becomeLike 3 = .ok (.bipush 16, 2) := by decide +kernel
theorem dX7_becomeLike_5 : decode cX7_becomeLike 5 = .ok (.if_icmp .ge 69, 3) := by decide +kernel
theorem dX7_becomeLike_8 : decode cX7_becomeLike 8 = .ok (.aload_n 0, 1) := by decide +kernel
theorem dX7_becomeLike_9 : decode cX7_becomeLike 9 = .ok (.getfield 9, 3) := by decide +kernel
theorem dX7_becomeLike_12 : decode cX7_becomeLike 12 = .ok (.iload_n 2, 1) := by decide +kernel
theorem dX7_becomeLike_13 : decode cX7_becomeLike 13 = .ok (.aload_n 1, 1) := by decide +kernel
theorem dX7_becomeLike_14 : decode cX7_becomeLike 14 = .ok (.getfield 9, 3) := by decide +kernel
theorem dX7_becomeLike_17 : decode cX7_becomeLike 17 = .ok (.iload_n 2, 1) := by decide +kernel
theorem dX7_becomeLike_18 : decode cX7_becomeLike 18 = .ok (.iaload, 1) := by decide +kernel
theorem dX7_becomeLike_19 : decode cX7_becomeLike 19 = .ok (.iastore, 1) := by decide +kernel
theorem dX7_becomeLike_20 : decode cX7_becomeLike 20 = .ok (.aload_n 0, 1) := by decide +kernel
theorem dX7_becomeLike_21 : decode cX7_becomeLike 21 = .ok (.getfield 15, 3) := by decide +kernel
theorem dX7_becomeLike_24 : decode cX7_becomeLike 24 = .ok (.iload_n 2, 1) := by decide +kernel
theorem dX7_becomeLike_25 : decode cX7_becomeLike 25 = .ok (.aload_n 1, 1) := by decide +kernel
theorem dX7_becomeLike_26 : decode cX7_becomeLike 26 = .ok (.getfield 15, 3) := by decide +kernel
theorem dX7_becomeLike_29 : decode cX7_becomeLike 29 = .ok (.iload_n 2, 1) := by decide +kernel
theorem dX7_becomeLike_30 : decode cX7_becomeLike 30 = .ok (.iaload, 1) := by decide +kernel
theorem dX7_becomeLike_31 : decode cX7_becomeLike 31 = .ok (.iastore, 1) := by decide +kernel
theorem dX7_becomeLike_32 : decode cX7_becomeLike 32 = .ok (.aload_n 0, 1) := by decide +kernel
theorem dX7_becomeLike_33 : decode cX7_becomeLike 33 = .ok (.getfield 18, 3) := by decide +kernel
theorem dX7_becomeLike_36 : decode cX7_becomeLike 36 = .ok (.iload_n 2, 1) := by decide +kernel
theorem dX7_becomeLike_37 : decode cX7_becomeLike 37 = .ok (.aload_n 1, 1) := by decide +kernel
theorem dX7_becomeLike_38 : decode cX7_becomeLike 38 = .ok (.getfield 18, 3) := by decide +kernel
theorem dX7_becomeLike_41 : decode cX7_becomeLike 41 = .ok (.iload_n 2, 1) := by decide +kernel
theorem dX7_becomeLike_42 : decode cX7_becomeLike 42 = .ok (.iaload, 1) := by decide +kernel
theorem dX7_becomeLike_43 : decode cX7_becomeLike 43 = .ok (.iastore, 1) := by decide +kernel
theorem dX7_becomeLike_44 : decode cX7_becomeLike 44 = .ok (.aload_n 0, 1) := by decide +kernel
theorem dX7_becomeLike_45 : decode cX7_becomeLike 45 = .ok (.getfield 21, 3) := by decide +kernel
theorem dX7_becomeLike_48 : decode cX7_becomeLike 48 = .ok (.iload_n 2, 1) := by decide +kernel
theorem dX7_becomeLike_49 : decode cX7_becomeLike 49 = .ok (.aload_n 1, 1) := by decide +kernel
theorem dX7_becomeLike_50 : decode cX7_becomeLike 50 = .ok (.getfield 21, 3) := by decide +kernel
theorem dX7_becomeLike_53 : decode cX7_becomeLike 53 = .ok (.iload_n 2, 1) := by decide +kernel
theorem dX7_becomeLike_54 : decode cX7_becomeLike 54 = .ok (.iaload, 1) := by decide +kernel
theorem dX7_becomeLike_55 : decode cX7_becomeLike 55 = .ok (.iastore, 1) := by decide +kernel
theorem dX7_becomeLike_56 : decode cX7_becomeLike 56 = .ok (.aload_n 0, 1) := by decide +kernel
theorem dX7_becomeLike_57 : decode cX7_becomeLike 57 = .ok (.getfield 24, 3) := by decide +kernel
theorem dX7_becomeLike_60 : decode cX7_becomeLike 60 = .ok (.iload_n 2, 1) := by decide +kernel
theorem dX7_becomeLike_61 : decode cX7_becomeLike 61 = .ok (.aload_n 1, 1) := by decide +kernel
theorem dX7_becomeLike_62 : decode cX7_becomeLike 62 = .ok (.getfield 24, 3) := by decide +kernel
theorem dX7_becomeLike_65 : decode cX7_becomeLike 65 = .ok (.iload_n 2, 1) := by decide +kernel
theorem dX7_becomeLike_66 : decode cX7_becomeLike 66 = .ok (.iaload, 1) := by decide +kernel
theorem dX7_becomeLike_67 : decode cX7_becomeLike 67 = .ok (.iastore, 1) := by decide +kernel
theorem dX7_becomeLike_68 : decode cX7_becomeLike 68 = .ok (.iinc 2 1, 3) := by decide +kernel
theorem dX7_becomeLike_71 : decode cX7_becomeLike 71 = .ok (.goto (-69), 3) := by decide +kernel
theorem dX7_becomeLike_74 : decode cX7_becomeLike 74 = .ok (.return_, 1) := by decide +kernel
theorem dX7_turn_0 : decode cX7_turn 0 = .ok (.aload_n 0, 1) := by decide +kernel
theorem dX7_turn_1 : decode cX7_turn 1 = .ok (.getfield 9, 3) := by decide +kernel
theorem dX7_turn_4 : decode cX7_turn 4 = .ok (.iload_n 1, 1) := by decide +kernel
theorem dX7_turn_5 : decode cX7_turn 5 = .ok (.iload_n 2, 1) := by decide +kernel
theorem dX7_turn_6 : decode cX7_turn 6 = .ok (.iastore, 1) := by decide +kernel
theorem dX7_turn_7 : decode cX7_turn 7 = .ok (.aload_n 0, 1) := by decide +kernel
theorem dX7_turn_8 : decode cX7_turn 8 = .ok (.getfield 15, 3) := by decide +kernel
theorem dX7_turn_11 : decode cX7_turn 11 = .ok (.iload_n 1, 1) := by decide +kernel
theorem dX7_turn_12 : decode cX7_turn 12 = .ok (.iload_n 3, 1) := by decide +kernel
theorem dX7_turn_13 : decode cX7_turn 13 = .ok (.iastore, 1) := by decide +kernel
theorem dX7_turn_14 : decode cX7_turn 14 = .ok (.return_, 1) := by decide +kernel
theorem dX7_take_0 : decode cX7_take 0 = .ok (.aload_n 0, 1) := by decide +kernel
theorem dX7_take_1 : decode cX7_take 1 = .ok (.getfield 18, 3) := by decide +kernel
theorem dX7_take_4 : decode cX7_take 4 = .ok (.iload_n 1, 1) := by decide +kernel
theorem dX7_take_5 : decode cX7_take 5 = .ok (.iload_n 2, 1) := by decide +kernel
theorem dX7_take_6 : decode cX7_take 6 = .ok (.iastore, 1) := by decide +kernel
theorem dX7_take_7 : decode cX7_take 7 = .ok (.aload_n 0, 1) := by decide +kernel
theorem dX7_take_8 : decode cX7_take 8 = .ok (.getfield 21, 3) := by decide +kernel
theorem dX7_take_11 : decode cX7_take 11 = .ok (.iload_n 1, 1) := by decide +kernel
theorem dX7_take_12 : decode cX7_take 12 = .ok (.iload_n 3, 1) := by decide +kernel
theorem dX7_take_13 : decode cX7_take 13 = .ok (.iastore, 1) := by decide +kernel
theorem dX7_take_14 : decode cX7_take 14 = .ok (.return_, 1) := by decide +kernel
theorem dX7_start_0 : decode cX7_start 0 = .ok (.aload_n 0, 1) := by decide +kernel
theorem dX7_start_1 : decode cX7_start 1 = .ok (.iload_n 1, 1) := by decide +kernel
theorem dX7_start_2 : decode cX7_start 2 = .ok (.iconst 1, 1) := by decide +kernel
theorem dX7_start_3 : decode cX7_start 3 = .ok (.iload_n 3, 1) := by decide +kernel
theorem dX7_start_4 : decode cX7_start 4 = .ok (.invokevirtual 27, 3) := by decide +kernel
theorem dX7_start_7 : decode cX7_start 7 = .ok (.aload_n 0, 1) := by decide +kernel
theorem dX7_start_8 : decode cX7_start 8 = .ok (.iload_n 1, 1) := by decide +kernel
theorem dX7_start_9 : decode cX7_start 9 = .ok (.iload_n 2, 1) := by decide +kernel
theorem dX7_start_10 : decode cX7_start 10 = .ok (.bipush 17, 2) := by decide +kernel
theorem dX7_start_12 : decode cX7_start 12 = .ok (.invokevirtual 31, 3) := by decide +kernel
theorem dX7_start_15 : decode cX7_start 15 = .ok (.aload_n 0, 1) := by decide +kernel
theorem dX7_start_16 : decode cX7_start 16 = .ok (.getfield 24, 3) := by decide +kernel
theorem dX7_start_19 : decode cX7_start 19 = .ok (.iload_n 1, 1) := by decide +kernel
theorem dX7_start_20 : decode cX7_start 20 = .ok (.iload_n 3, 1) := by decide +kernel
theorem dX7_start_21 : decode cX7_start 21 = .ok (.iastore, 1) := by decide +kernel
theorem dX7_start_22 : decode cX7_start 22 = .ok (.return_, 1) := by decide +kernel
theorem dX7_isNewTo_0 : decode cX7_isNewTo 0 = .ok (.aload_n 0, 1) := by decide +kernel
theorem dX7_isNewTo_1 : decode cX7_isNewTo 1 = .ok (.getfield 9, 3) := by decide +kernel
theorem dX7_isNewTo_4 : decode cX7_isNewTo 4 = .ok (.iload_n 1, 1) := by decide +kernel
theorem dX7_isNewTo_5 : decode cX7_isNewTo 5 = .ok (.iaload, 1) := by decide +kernel
theorem dX7_isNewTo_6 : decode cX7_isNewTo 6 = .ok (.ifCond .eq 13, 3) := by decide +kernel
theorem dX7_isNewTo_9 : decode cX7_isNewTo 9 = .ok (.aload_n 0, 1) := by decide +kernel
theorem dX7_isNewTo_10 : decode cX7_isNewTo 10 = .ok (.getfield 9, 3) := by decide +kernel
theorem dX7_isNewTo_13 : decode cX7_isNewTo 13 = .ok (.iload_n 1, 1) := by decide +kernel
theorem dX7_isNewTo_14 : decode cX7_isNewTo 14 = .ok (.iaload, 1) := by decide +kernel
theorem dX7_isNewTo_15 : decode cX7_isNewTo 15 = .ok (.iconst 3, 1) := by decide +kernel
theorem dX7_isNewTo_16 : decode cX7_isNewTo 16 = .ok (.if_icmp .ne 7, 3) := by decide +kernel
theorem dX7_isNewTo_19 : decode cX7_isNewTo 19 = .ok (.iconst 1, 1) := by decide +kernel
theorem dX7_isNewTo_20 : decode cX7_isNewTo 20 = .ok (.goto 4, 3) := by decide +kernel
theorem dX7_isNewTo_23 : decode cX7_isNewTo 23 = .ok (.iconst 0, 1) := by decide +kernel
theorem dX7_isNewTo_24 : decode cX7_isNewTo 24 = .ok (.ireturn, 1) := by decide +kernel
theorem dX8_init_0 : decode cX8_init 0 = .ok (.aload_n 0, 1) := by decide +kernel
theorem dX8_init_1 : decode cX8_init 1 = .ok (.invokespecial 3, 3) := by decide +kernel
theorem dX8_init_4 : decode cX8_init 4 = .ok (.aload_n 0, 1) := by decide +kernel
theorem dX8_init_5 : decode cX8_init 5 = .ok (.bipush 120, 2) := by decide +kernel
theorem dX8_init_7 : decode cX8_init 7 = .ok (.newarray .char, 2) := by decide +kernel
theorem dX8_init_9 : decode cX8_init 9 = .ok (.putfield 11, 3) := by decide +kernel
theorem dX8_init_12 : decode cX8_init 12 = .ok (.return_, 1) := by decide +kernel
theorem dX8_append_0 : decode cX8_append 0 = .ok (.aload_n 0, 1) := by decide +kernel
theorem dX8_append_1 : decode cX8_append 1 = .ok (.getfield 15, 3) := by decide +kernel
theorem dX8_append_4 : decode cX8_append 4 = .ok (.bipush 120, 2) := by decide +kernel
theorem dX8_append_6 : decode cX8_append 6 = .ok (.if_icmp .ge 23, 3) := by decide +kernel
theorem dX8_append_9 : decode cX8_append 9 = .ok (.aload_n 0, 1) := by decide +kernel
theorem dX8_append_10 : decode cX8_append 10 = .ok (.getfield 11, 3) := by decide +kernel
theorem dX8_append_13 : decode cX8_append 13 = .ok (.aload_n 0, 1) := by decide +kernel
theorem dX8_append_14 : decode cX8_append 14 = .ok (.getfield 15, 3) := by decide +kernel
theorem dX8_append_17 : decode cX8_append 17 = .ok (.iload_n 1, 1) := by decide +kernel
theorem dX8_append_18 : decode cX8_append 18 = .ok (.castore, 1) := by decide +kernel
theorem dX8_append_19 : decode cX8_append 19 = .ok (.aload_n 0, 1) := by decide +kernel
theorem dX8_append_20 : decode cX8_append 20 = .ok (.dup, 1) := by decide +kernel
theorem dX8_append_21 : decode cX8_append 21 = .ok (.getfield 15, 3) := by decide +kernel
theorem dX8_append_24 : decode cX8_append 24 = .ok (.iconst 1, 1) := by decide +kernel
theorem dX8_append_25 : decode cX8_append 25 = .ok (.iadd, 1) := by decide +kernel
theorem dX8_append_26 : decode cX8_append 26 = .ok (.putfield 15, 3) := by decide +kernel
theorem dX8_append_29 : decode cX8_append 29 = .ok (.return_, 1) := by decide +kernel
theorem dX8_readInto_0 : decode cX8_readInto 0 = .ok (.aload_n 1, 1) := by decide +kernel
theorem dX8_readInto_1 : decode cX8_readInto 1 = .ok (.invokevirtual 19, 3) := by decide +kernel
theorem dX8_readInto_4 : decode cX8_readInto 4 = .ok (.aload_n 0, 1) := by decide +kernel
theorem dX8_readInto_5 : decode cX8_readInto 5 = .ok (.iconst 0, 1) := by decide +kernel
theorem dX8_readInto_6 : decode cX8_readInto 6 = .ok (.putfield 24, 3) := by decide +kernel
theorem dX8_readInto_9 : decode cX8_readInto 9 = .ok (.aload_n 0, 1) := by decide +kernel
theorem dX8_readInto_10 : decode cX8_readInto 10 = .ok (.invokevirtual 27, 3) := by decide +kernel
theorem dX8_readInto_13 : decode cX8_readInto 13 = .ok (.iconst 1, 1) := by decide +kernel
theorem dX8_readInto_14 : decode cX8_readInto 14 = .ok (.if_icmp .eq 19, 3) := by decide +kernel
theorem dX8_readInto_17 : decode cX8_readInto 17 = .ok (.aload_n 0, 1) := by decide +kernel
theorem dX8_readInto_18 : decode cX8_readInto 18 = .ok (.aload_n 1, 1) := by decide +kernel
theorem dX8_readInto_19 : decode cX8_readInto 19 = .ok (.invokevirtual 31, 3) := by decide +kernel
theorem dX8_readInto_22 : decode cX8_readInto 22 = .ok (.ifCond .ne 11, 3) := by decide +kernel
theorem dX8_readInto_25 : decode cX8_readInto 25 = .ok (.bipush (-20), 2) := by decide +kernel
theorem dX8_readInto_27 : decode cX8_readInto 27 = .ok (.aload_n 0, 1) := by decide +kernel
theorem dX8_readInto_28 : decode cX8_readInto 28 = .ok (.getfield 24, 3) := by decide +kernel
theorem dX8_readInto_31 : decode cX8_readInto 31 = .ok (.isub, 1) := by decide +kernel
theorem dX8_readInto_32 : decode cX8_readInto 32 = .ok (.ireturn, 1) := by decide +kernel
theorem dX8_readInto_33 : decode cX8_readInto 33 = .ok (.aload_n 1, 1) := by decide +kernel
theorem dX8_readInto_34 : decode cX8_readInto 34 = .ok (.getfield 35, 3) := by decide +kernel
theorem dX8_readInto_37 : decode cX8_readInto 37 = .ok (.ireturn, 1) := by decide +kernel
theorem dX8_readClauses_0 : decode cX8_readClauses 0 = .ok (.aload_n 0, 1) := by decide +kernel
theorem dX8_readClauses_1 : decode cX8_readClauses 1 = .ok (.aload_n 1, 1) := by decide +kernel
theorem dX8_readClauses_2 : decode cX8_readClauses 2 = .ok (.invokevirtual 38, 3) := by decide +kernel
theorem dX8_readClauses_5 : decode cX8_readClauses 5 = .ok (.ifCond .ne 5, 3) := by decide +kernel
theorem dX8_readClauses_8 : decode cX8_readClauses 8 = .ok (.iconst 0, 1) := by decide +kernel
theorem dX8_readClauses_9 : decode cX8_readClauses 9 = .ok (.ireturn, 1) := by decide +kernel
theorem dX8_readClauses_10 : decode cX8_readClauses 10 = .ok (.iconst 1, 1) := by decide +kernel
theorem dX8_readClauses_11 : decode cX8_readClauses 11 = .ok (.istore_n 2, 1) := by decide +kernel
theorem dX8_readClauses_12 : decode cX8_readClauses 12 = .ok (.iload_n 2, 1) := by decide +kernel
theorem dX8_readClauses_13 : decode cX8_readClauses 13 = .ok (.bipush 6, 2) := by decide +kernel
theorem dX8_readClauses_15 : decode cX8_readClauses 15 = .ok (.if_icmp .ge 28, 3) := by decide +kernel
theorem dX8_readClauses_18 : decode cX8_readClauses 18 = .ok (.aload_n 0, 1) := by decide +kernel
theorem dX8_readClauses_19 : decode cX8_readClauses 19 = .ok (.bipush 59, 2) := by decide +kernel
theorem dX8_readClauses_21 : decode cX8_readClauses 21 = .ok (.invokevirtual 41, 3) := by decide +kernel
theorem dX8_readClauses_24 : decode cX8_readClauses 24 = .ok (.ifCond .eq 19, 3) := by decide +kernel
theorem dX8_readClauses_27 : decode cX8_readClauses 27 = .ok (.aload_n 0, 1) := by decide +kernel
theorem dX8_readClauses_28 : decode cX8_readClauses 28 = .ok (.aload_n 1, 1) := by decide +kernel
theorem dX8_readClauses_29 : decode cX8_readClauses 29 = .ok (.invokevirtual 38, 3) := by decide +kernel
theorem dX8_readClauses_32 : decode cX8_readClauses 32 = .ok (.ifCond .ne 5, 3) := by decide +kernel
theorem dX8_readClauses_35 : decode cX8_readClauses 35 = .ok (.iconst 0, 1) := by decide +kernel
theorem dX8_readClauses_36 : decode cX8_readClauses 36 = .ok (.ireturn, 1) := by decide +kernel
theorem dX8_readClauses_37 : decode cX8_readClauses 37 = .ok (.iinc 2 1, 3) := by decide +kernel
theorem dX8_readClauses_40 : decode cX8_readClauses 40 = .ok (.goto (-28), 3) := by decide +kernel
theorem dX8_readClauses_43 : decode cX8_readClauses 43 = .ok (.aload_n 0, 1) := by decide +kernel
theorem dX8_readClauses_44 : decode cX8_readClauses 44 = .ok (.invokevirtual 27, 3) := by decide +kernel
theorem dX8_readClauses_47 : decode cX8_readClauses 47 = .ok (.iconst 1, 1) := by decide +kernel
theorem dX8_readClauses_48 : decode cX8_readClauses 48 = .ok (.if_icmp .ne 7, 3) := by decide +kernel
theorem dX8_readClauses_51 : decode cX8_readClauses 51 = .ok (.iconst 1, 1) := by decide +kernel
theorem dX8_readClauses_52 : decode cX8_readClauses 52 = .ok (.goto 4, 3) := by decide +kernel
theorem dX8_readClauses_55 : decode cX8_readClauses 55 = .ok (.iconst 0, 1) := by decide +kernel
theorem dX8_readClauses_56 : decode cX8_readClauses 56 = .ok (.ireturn, 1) := by decide +kernel
theorem dX8_readClause_0 : decode cX8_readClause 0 = .ok (.aload_n 0, 1) := by decide +kernel
theorem dX8_readClause_1 : decode cX8_readClause 1 = .ok (.aload_n 1, 1) := by decide +kernel
theorem dX8_readClause_2 : decode cX8_readClause 2 = .ok (.iconst 0, 1) := by decide +kernel
theorem dX8_readClause_3 : decode cX8_readClause 3 = .ok (.invokevirtual 45, 3) := by decide +kernel
theorem dX8_readClause_6 : decode cX8_readClause 6 = .ok (.ifCond .eq 12, 3) := by decide +kernel
theorem dX8_readClause_9 : decode cX8_readClause 9 = .ok (.aload_n 0, 1) := by decide +kernel
theorem dX8_readClause_10 : decode cX8_readClause 10 = .ok (.bipush 58, 2) := by decide +kernel
theorem dX8_readClause_12 : decode cX8_readClause 12 = .ok (.invokevirtual 41, 3) := by decide +kernel
theorem dX8_readClause_15 : decode cX8_readClause 15 = .ok (.ifCond .ne 5, 3) := by decide +kernel
theorem dX8_readClause_18 : decode cX8_readClause 18 = .ok (.iconst 0, 1) := by decide +kernel
theorem dX8_readClause_19 : decode cX8_readClause 19 = .ok (.ireturn, 1) := by decide +kernel
theorem dX8_readClause_20 : decode cX8_readClause 20 = .ok (.aload_n 0, 1) := by decide +kernel
theorem dX8_readClause_21 : decode cX8_readClause 21 = .ok (.ldc 49, 2) := by decide +kernel
theorem dX8_readClause_23 : decode cX8_readClause 23 = .ok (.invokevirtual 51, 3) := by decide +kernel
theorem dX8_readClause_26 : decode cX8_readClause 26 = .ok (.istore_n 2, 1) := by decide +kernel
theorem dX8_readClause_27 : decode cX8_readClause 27 = .ok (.iload_n 2, 1) := by decide +kernel
theorem dX8_readClause_28 : decode cX8_readClause 28 = .ok (.ifCond .ge 5, 3) := by decide +kernel
theorem dX8_readClause_31 : decode cX8_readClause 31 = .ok (.iconst 0, 1) := by decide +kernel
theorem dX8_readClause_32 : decode cX8_readClause 32 = .ok (.ireturn, 1) := by decide +kernel
theorem dX8_readClause_33 : decode cX8_readClause 33 = .ok (.aload_n 0, 1) := by decide +kernel
theorem dX8_readClause_34 : decode cX8_readClause 34 = .ok (.bipush 64, 2) := by decide +kernel
theorem dX8_readClause_36 : decode cX8_readClause 36 = .ok (.invokevirtual 41, 3) := by decide +kernel
theorem dX8_readClause_39 : decode cX8_readClause 39 = .ok (.ifCond .eq 10, 3) := by decide +kernel
theorem dX8_readClause_42 : decode cX8_readClause 42 = .ok (.aload_n 0, 1) := by decide +kernel
theorem dX8_readClause_43 : decode cX8_readClause 43 = .ok (.invokevirtual 55, 3) := by decide +kernel
theorem dX8_readClause_46 : decode cX8_readClause 46 = .ok (.goto 4, 3) := by decide +kernel
theorem dX8_readClause_49 : decode cX8_readClause 49 = .ok (.iconst 0, 1) := by decide +kernel
theorem dX8_readClause_50 : decode cX8_readClause 50 = .ok (.istore_n 3, 1) := by decide +kernel
theorem dX8_readClause_51 : decode cX8_readClause 51 = .ok (.iload_n 3, 1) := by decide +kernel
theorem dX8_readClause_52 : decode cX8_readClause 52 = .ok (.ifCond .ge 5, 3) := by decide +kernel
theorem dX8_readClause_55 : decode cX8_readClause 55 = .ok (.iconst 0, 1) := by decide +kernel
theorem dX8_readClause_56 : decode cX8_readClause 56 = .ok (.ireturn, 1) := by decide +kernel
theorem dX8_readClause_57 : decode cX8_readClause 57 = .ok (.aload_n 1, 1) := by decide +kernel
theorem dX8_readClause_58 : decode cX8_readClause 58 = .ok (.iload_n 2, 1) := by decide +kernel
theorem dX8_readClause_59 : decode cX8_readClause 59 = .ok (.iload_n 3, 1) := by decide +kernel
theorem dX8_readClause_60 : decode cX8_readClause 60 = .ok (.invokevirtual 59, 3) := by decide +kernel
theorem dX8_readClause_63 : decode cX8_readClause 63 = .ok (.iconst 1, 1) := by decide +kernel
theorem dX8_readClause_64 : decode cX8_readClause 64 = .ok (.ireturn, 1) := by decide +kernel
theorem dX8_readDay_0 : decode cX8_readDay 0 = .ok (.aload_n 0, 1) := by decide +kernel
theorem dX8_readDay_1 : decode cX8_readDay 1 = .ok (.invokevirtual 27, 3) := by decide +kernel
theorem dX8_readDay_4 : decode cX8_readDay 4 = .ok (.pop, 1) := by decide +kernel
theorem dX8_readDay_5 : decode cX8_readDay 5 = .ok (.aload_n 0, 1) := by decide +kernel
theorem dX8_readDay_6 : decode cX8_readDay 6 = .ok (.getfield 24, 3) := by decide +kernel
theorem dX8_readDay_9 : decode cX8_readDay 9 = .ok (.istore_n 1, 1) := by decide +kernel
theorem dX8_readDay_10 : decode cX8_readDay 10 = .ok (.iconst 0, 1) := by decide +kernel
theorem dX8_readDay_11 : decode cX8_readDay 11 = .ok (.istore_n 2, 1) := by decide +kernel
theorem dX8_readDay_12 : decode cX8_readDay 12 = .ok (.aload_n 0, 1) := by decide +kernel
theorem dX8_readDay_13 : decode cX8_readDay 13 = .ok (.getfield 24, 3) := by decide +kernel
theorem dX8_readDay_16 : decode cX8_readDay 16 = .ok (.aload_n 0, 1) := by decide +kernel
theorem dX8_readDay_17 : decode cX8_readDay 17 = .ok (.getfield 15, 3) := by decide +kernel
theorem dX8_readDay_20 : decode cX8_readDay 20 = .ok (.if_icmp .ge 68, 3) := by decide +kernel
theorem dX8_readDay_23 : decode cX8_readDay 23 = .ok (.aload_n 0, 1) := by decide +kernel
theorem dX8_readDay_24 : decode cX8_readDay 24 = .ok (.getfield 11, 3) := by decide +kernel
theorem dX8_readDay_27 : decode cX8_readDay 27 = .ok (.aload_n 0, 1) := by decide +kernel
theorem dX8_readDay_28 : decode cX8_readDay 28 = .ok (.getfield 24, 3) := by decide +kernel
theorem dX8_readDay_31 : decode cX8_readDay 31 = .ok (.caload, 1) := by decide +kernel
theorem dX8_readDay_32 : decode cX8_readDay 32 = .ok (.bipush 48, 2) := by decide +kernel
theorem dX8_readDay_34 : decode cX8_readDay 34 = .ok (.if_icmp .lt 54, 3) := by decide +kernel
theorem dX8_readDay_37 : decode cX8_readDay 37 = .ok (.aload_n 0, 1) := by decide +kernel
theorem dX8_readDay_38 : decode cX8_readDay 38 = .ok (.getfield 11, 3) := by decide +kernel
theorem dX8_readDay_41 : decode cX8_readDay 41 = .ok (.aload_n 0, 1) := by decide +kernel
theorem dX8_readDay_42 : decode cX8_readDay 42 = .ok (.getfield 24, 3) := by decide +kernel
theorem dX8_readDay_45 : decode cX8_readDay 45 = .ok (.caload, 1) := by decide +kernel
theorem dX8_readDay_46 : decode cX8_readDay 46 = .ok (.bipush 57, 2) := by decide +kernel
theorem dX8_readDay_48 : decode cX8_readDay 48 = .ok (.if_icmp .gt 40, 3) := by decide +kernel
theorem dX8_readDay_51 : decode cX8_readDay 51 = .ok (.bipush 10, 2) := by decide +kernel
theorem dX8_readDay_53 : decode cX8_readDay 53 = .ok (.iload_n 2, 1) := by decide +kernel
theorem dX8_readDay_54 : decode cX8_readDay 54 = .ok (.imul, 1) := by decide +kernel
theorem dX8_readDay_55 : decode cX8_readDay 55 = .ok (.aload_n 0, 1) := by decide +kernel
theorem dX8_readDay_56 : decode cX8_readDay 56 = .ok (.getfield 11, 3) := by decide +kernel
theorem dX8_readDay_59 : decode cX8_readDay 59 = .ok (.aload_n 0, 1) := by decide +kernel
theorem dX8_readDay_60 : decode cX8_readDay 60 = .ok (.getfield 24, 3) := by decide +kernel
theorem dX8_readDay_63 : decode cX8_readDay 63 = .ok (.caload, 1) := by decide +kernel
theorem dX8_readDay_64 : decode cX8_readDay 64 = .ok (.iadd, 1) := by decide +kernel
theorem dX8_readDay_65 : decode cX8_readDay 65 = .ok (.bipush 48, 2) := by decide +kernel
theorem dX8_readDay_67 : decode cX8_readDay 67 = .ok (.isub, 1) := by decide +kernel
theorem dX8_readDay_68 : decode cX8_readDay 68 = .ok (.sipush 417, 3) := by decide +kernel
theorem dX8_readDay_71 : decode cX8_readDay 71 = .ok (.invokestatic 63, 3) := by decide +kernel
theorem dX8_readDay_74 : decode cX8_readDay 74 = .ok (.istore_n 2, 1) := by decide +kernel
theorem dX8_readDay_75 : decode cX8_readDay 75 = .ok (.aload_n 0, 1) := by decide +kernel
theorem dX8_readDay_76 : decode cX8_readDay 76 = .ok (.dup, 1) := by decide +kernel
theorem dX8_readDay_77 : decode cX8_readDay 77 = .ok (.getfield 24, 3) := by decide +kernel
theorem dX8_readDay_80 : decode cX8_readDay 80 = .ok (.iconst 1, 1) := by decide +kernel
theorem dX8_readDay_81 : decode cX8_readDay 81 = .ok (.iadd, 1) := by decide +kernel
theorem dX8_readDay_82 : decode cX8_readDay 82 = .ok (.putfield 24, 3) := by decide +kernel
theorem dX8_readDay_85 : decode cX8_readDay 85 = .ok (.goto (-73), 3) := by decide +kernel
theorem dX8_readDay_88 : decode cX8_readDay 88 = .ok (.aload_n 0, 1) := by decide +kernel
theorem dX8_readDay_89 : decode cX8_readDay 89 = .ok (.getfield 24, 3) := by decide +kernel
theorem dX8_readDay_92 : decode cX8_readDay 92 = .ok (.iload_n 1, 1) := by decide +kernel
theorem dX8_readDay_93 : decode cX8_readDay 93 = .ok (.if_icmp .eq 10, 3) := by decide +kernel
theorem dX8_readDay_96 : decode cX8_readDay 96 = .ok (.iload_n 2, 1) := by decide +kernel
theorem dX8_readDay_97 : decode cX8_readDay 97 = .ok (.sipush 416, 3) := by decide +kernel
theorem dX8_readDay_100 : decode cX8_readDay 100 = .ok (.if_icmp .le 11, 3) := by decide +kernel
theorem dX8_readDay_103 : decode cX8_readDay 103 = .ok (.aload_n 0, 1) := by decide +kernel
theorem dX8_readDay_104 : decode cX8_readDay 104 = .ok (.iload_n 1, 1) := by decide +kernel
theorem dX8_readDay_105 : decode cX8_readDay 105 = .ok (.putfield 24, 3) := by decide +kernel
theorem dX8_readDay_108 : decode cX8_readDay 108 = .ok (.bipush (-4), 2) := by decide +kernel
theorem dX8_readDay_110 : decode cX8_readDay 110 = .ok (.ireturn, 1) := by decide +kernel
theorem dX8_readDay_111 : decode cX8_readDay 111 = .ok (.iload_n 2, 1) := by decide +kernel
theorem dX8_readDay_112 : decode cX8_readDay 112 = .ok (.ireturn, 1) := by decide +kernel
theorem dX8_readTest_0 : decode cX8_readTest 0 = .ok (.aload_n 0, 1) := by decide +kernel
theorem dX8_readTest_1 : decode cX8_readTest 1 = .ok (.aload_n 1, 1) := by decide +kernel
theorem dX8_readTest_2 : decode cX8_readTest 2 = .ok (.iload_n 2, 1) := by decide +kernel
theorem dX8_readTest_3 : decode cX8_readTest 3 = .ok (.invokevirtual 69, 3) := by decide +kernel
theorem dX8_readTest_6 : decode cX8_readTest 6 = .ok (.ifCond .ne 5, 3) := by decide +kernel
theorem dX8_readTest_9 : decode cX8_readTest 9 = .ok (.iconst 0, 1) := by decide +kernel
theorem dX8_readTest_10 : decode cX8_readTest 10 = .ok (.ireturn, 1) := by decide +kernel
theorem dX8_readTest_11 : decode cX8_readTest 11 = .ok (.iconst 0, 1) := by decide +kernel
theorem dX8_readTest_12 : decode cX8_readTest 12 = .ok (.istore_n 3, 1) := by decide +kernel
theorem dX8_readTest_13 : decode cX8_readTest 13 = .ok (.iload_n 3, 1) := by decide +kernel
theorem dX8_readTest_14 : decode cX8_readTest 14 = .ok (.bipush 120, 2) := by decide +kernel
theorem dX8_readTest_16 : decode cX8_readTest 16 = .ok (.if_icmp .ge 35, 3) := by decide +kernel
theorem dX8_readTest_19 : decode cX8_readTest 19 = .ok (.aload_n 0, 1) := by decide +kernel
theorem dX8_readTest_20 : decode cX8_readTest 20 = .ok (.bipush 124, 2) := by decide +kernel
theorem dX8_readTest_22 : decode cX8_readTest 22 = .ok (.invokevirtual 41, 3) := by decide +kernel
theorem dX8_readTest_25 : decode cX8_readTest 25 = .ok (.ifCond .eq 26, 3) := by decide +kernel
theorem dX8_readTest_28 : decode cX8_readTest 28 = .ok (.aload_n 0, 1) := by decide +kernel
theorem dX8_readTest_29 : decode cX8_readTest 29 = .ok (.aload_n 1, 1) := by decide +kernel
theorem dX8_readTest_30 : decode cX8_readTest 30 = .ok (.iload_n 2, 1) := by decide +kernel
theorem dX8_readTest_31 : decode cX8_readTest 31 = .ok (.invokevirtual 69, 3) := by decide +kernel
theorem dX8_readTest_34 : decode cX8_readTest 34 = .ok (.ifCond .ne 5, 3) := by decide +kernel
theorem dX8_readTest_37 : decode cX8_readTest 37 = .ok (.iconst 0, 1) := by decide +kernel
theorem dX8_readTest_38 : decode cX8_readTest 38 = .ok (.ireturn, 1) := by decide +kernel
theorem dX8_readTest_39 : decode cX8_readTest 39 = .ok (.aload_n 1, 1) := by decide +kernel
theorem dX8_readTest_40 : decode cX8_readTest 40 = .ok (.bipush (-2), 2) := by decide +kernel
theorem dX8_readTest_42 : decode cX8_readTest 42 = .ok (.invokevirtual 72, 3) := by decide +kernel
theorem dX8_readTest_45 : decode cX8_readTest 45 = .ok (.iinc 3 1, 3) := by decide +kernel
theorem dX8_readTest_48 : decode cX8_readTest 48 = .ok (.goto (-35), 3) := by decide +kernel
theorem dX8_readTest_51 : decode cX8_readTest 51 = .ok (.iconst 1, 1) := by decide +kernel
theorem dX8_readTest_52 : decode cX8_readTest 52 = .ok (.ireturn, 1) := by decide +kernel
theorem dX8_readCase_0 : decode cX8_readCase 0 = .ok (.aload_n 0, 1) := by decide +kernel
theorem dX8_readCase_1 : decode cX8_readCase 1 = .ok (.aload_n 1, 1) := by decide +kernel
theorem dX8_readCase_2 : decode cX8_readCase 2 = .ok (.iload_n 2, 1) := by decide +kernel
theorem dX8_readCase_3 : decode cX8_readCase 3 = .ok (.invokevirtual 76, 3) := by decide +kernel
theorem dX8_readCase_6 : decode cX8_readCase 6 = .ok (.ifCond .ne 5, 3) := by decide +kernel
theorem dX8_readCase_9 : decode cX8_readCase 9 = .ok (.iconst 0, 1) := by decide +kernel
theorem dX8_readCase_10 : decode cX8_readCase 10 = .ok (.ireturn, 1) := by decide +kernel
theorem dX8_readCase_11 : decode cX8_readCase 11 = .ok (.iconst 0, 1) := by decide +kernel
theorem dX8_readCase_12 : decode cX8_readCase 12 = .ok (.istore_n 3, 1) := by decide +kernel
theorem dX8_readCase_13 : decode cX8_readCase 13 = .ok (.iload_n 3, 1) := by decide +kernel
theorem dX8_readCase_14 : decode cX8_readCase 14 = .ok (.bipush 120, 2) := by decide +kernel
theorem dX8_readCase_16 : decode cX8_readCase 16 = .ok (.if_icmp .ge 34, 3) := by decide +kernel
theorem dX8_readCase_19 : decode cX8_readCase 19 = .ok (.aload_n 0, 1) := by decide +kernel
theorem dX8_readCase_20 : decode cX8_readCase 20 = .ok (.bipush 38, 2) := by decide +kernel
theorem dX8_readCase_22 : decode cX8_readCase 22 = .ok (.invokevirtual 41, 3) := by decide +kernel
theorem dX8_readCase_25 : decode cX8_readCase 25 = .ok (.ifCond .eq 25, 3) := by decide +kernel
theorem dX8_readCase_28 : decode cX8_readCase 28 = .ok (.aload_n 0, 1) := by decide +kernel
theorem dX8_readCase_29 : decode cX8_readCase 29 = .ok (.aload_n 1, 1) := by decide +kernel
theorem dX8_readCase_30 : decode cX8_readCase 30 = .ok (.iload_n 2, 1) := by decide +kernel
theorem dX8_readCase_31 : decode cX8_readCase 31 = .ok (.invokevirtual 76, 3) := by decide +kernel
theorem dX8_readCase_34 : decode cX8_readCase 34 = .ok (.ifCond .ne 5, 3) := by decide +kernel
theorem dX8_readCase_37 : decode cX8_readCase 37 = .ok (.iconst 0, 1) := by decide +kernel
theorem dX8_readCase_38 : decode cX8_readCase 38 = .ok (.ireturn, 1) := by decide +kernel
theorem dX8_readCase_39 : decode cX8_readCase 39 = .ok (.aload_n 1, 1) := by decide +kernel
theorem dX8_readCase_40 : decode cX8_readCase 40 = .ok (.iconst (-1), 1) := by decide +kernel
theorem dX8_readCase_41 : decode cX8_readCase 41 = .ok (.invokevirtual 72, 3) := by decide +kernel
theorem dX8_readCase_44 : decode cX8_readCase 44 = .ok (.iinc 3 1, 3) := by decide +kernel
theorem dX8_readCase_47 : decode cX8_readCase 47 = .ok (.goto (-34), 3) := by decide +kernel
theorem dX8_readCase_50 : decode cX8_readCase 50 = .ok (.iconst 1, 1) := by decide +kernel
theorem dX8_readCase_51 : decode cX8_readCase 51 = .ok (.ireturn, 1) := by decide +kernel
theorem dX8_readClaim_0 : decode cX8_readClaim 0 = .ok (.aload_n 0, 1) := by decide +kernel
theorem dX8_readClaim_1 : decode cX8_readClaim 1 = .ok (.bipush 33, 2) := by decide +kernel
theorem dX8_readClaim_3 : decode cX8_readClaim 3 = .ok (.invokevirtual 41, 3) := by decide +kernel
theorem dX8_readClaim_6 : decode cX8_readClaim 6 = .ok (.istore_n 3, 1) := by decide +kernel
theorem dX8_readClaim_7 : decode cX8_readClaim 7 = .ok (.iload_n 2, 1) := by decide +kernel
theorem dX8_readClaim_8 : decode cX8_readClaim 8 = .ok (.iconst 5, 1) := by decide +kernel
theorem dX8_readClaim_9 : decode cX8_readClaim 9 = .ok (.if_icmp .ge 42, 3) := by decide +kernel
theorem dX8_readClaim_12 : decode cX8_readClaim 12 = .ok (.aload_n 0, 1) := by decide +kernel
theorem dX8_readClaim_13 : decode cX8_readClaim 13 = .ok (.bipush 40, 2) := by decide +kernel
theorem dX8_readClaim_15 : decode cX8_readClaim 15 = .ok (.invokevirtual 41, 3) := by decide +kernel
theorem dX8_readClaim_18 : decode cX8_readClaim 18 = .ok (.ifCond .eq 33, 3) := by decide +kernel
theorem dX8_readClaim_21 : decode cX8_readClaim 21 = .ok (.aload_n 0, 1) := by decide +kernel
theorem dX8_readClaim_22 : decode cX8_readClaim 22 = .ok (.aload_n 1, 1) := by decide +kernel
theorem dX8_readClaim_23 : decode cX8_readClaim 23 = .ok (.iload_n 2, 1) := by decide +kernel
theorem dX8_readClaim_24 : decode cX8_readClaim 24 = .ok (.iconst 1, 1) := by decide +kernel
theorem dX8_readClaim_25 : decode cX8_readClaim 25 = .ok (.iadd, 1) := by decide +kernel
theorem dX8_readClaim_26 : decode cX8_readClaim 26 = .ok (.invokevirtual 45, 3) := by decide +kernel
theorem dX8_readClaim_29 : decode cX8_readClaim 29 = .ok (.ifCond .eq 16, 3) := by decide +kernel
theorem dX8_readClaim_32 : decode cX8_readClaim 32 = .ok (.aload_n 0, 1) := by decide +kernel
theorem dX8_readClaim_33 : decode cX8_readClaim 33 = .ok (.bipush 41, 2) := by decide +kernel
theorem dX8_readClaim_35 : decode cX8_readClaim 35 = .ok (.invokevirtual 41, 3) := by decide +kernel
theorem dX8_readClaim_38 : decode cX8_readClaim 38 = .ok (.ifCond .eq 7, 3) := by decide +kernel
theorem dX8_readClaim_41 : decode cX8_readClaim 41 = .ok (.iconst 1, 1) := by decide +kernel
theorem dX8_readClaim_42 : decode cX8_readClaim 42 = .ok (.goto 4, 3) := by decide +kernel
theorem dX8_readClaim_45 : decode cX8_readClaim 45 = .ok (.iconst 0, 1) := by decide +kernel
theorem dX8_readClaim_46 : decode cX8_readClaim 46 = .ok (.istore 4, 2) := by decide +kernel
theorem dX8_readClaim_48 : decode cX8_readClaim 48 = .ok (.goto 10, 3) := by decide +kernel
theorem dX8_readClaim_51 : decode cX8_readClaim 51 = .ok (.aload_n 0, 1) := by decide +kernel
theorem dX8_readClaim_52 : decode cX8_readClaim 52 = .ok (.aload_n 1, 1) := by decide +kernel
theorem dX8_readClaim_53 : decode cX8_readClaim 53 = .ok (.invokevirtual 79, 3) := by decide +kernel
theorem dX8_readClaim_56 : decode cX8_readClaim 56 = .ok (.istore 4, 2) := by decide +kernel
theorem dX8_readClaim_58 : decode cX8_readClaim 58 = .ok (.iload 4, 2) := by decide +kernel
theorem dX8_readClaim_60 : decode cX8_readClaim 60 = .ok (.ifCond .eq 13, 3) := by decide +kernel
theorem dX8_readClaim_63 : decode cX8_readClaim 63 = .ok (.iload_n 3, 1) := by decide +kernel
theorem dX8_readClaim_64 : decode cX8_readClaim 64 = .ok (.ifCond .eq 9, 3) := by decide +kernel
theorem dX8_readClaim_67 : decode cX8_readClaim 67 = .ok (.aload_n 1, 1) := by decide +kernel
theorem dX8_readClaim_68 : decode cX8_readClaim 68 = .ok (.bipush (-3), 2) := by decide +kernel
theorem dX8_readClaim_70 : decode cX8_readClaim 70 = .ok (.invokevirtual 72, 3) := by decide +kernel
theorem dX8_readClaim_73 : decode cX8_readClaim 73 = .ok (.iload 4, 2) := by decide +kernel
theorem dX8_readClaim_75 : decode cX8_readClaim 75 = .ok (.ireturn, 1) := by decide +kernel
theorem dX8_readComparison_0 : decode cX8_readComparison 0 = .ok (.aload_n 0, 1) := by decide +kernel
theorem dX8_readComparison_1 : decode cX8_readComparison 1 = .ok (.ldc 82, 2) := by decide +kernel
theorem dX8_readComparison_3 : decode cX8_readComparison 3 = .ok (.invokevirtual 51, 3) := by decide +kernel
theorem dX8_readComparison_6 : decode cX8_readComparison 6 = .ok (.istore_n 2, 1) := by decide +kernel
theorem dX8_readComparison_7 : decode cX8_readComparison 7 = .ok (.iload_n 2, 1) := by decide +kernel
theorem dX8_readComparison_8 : decode cX8_readComparison 8 = .ok (.ifCond .ge 5, 3) := by decide +kernel
theorem dX8_readComparison_11 : decode cX8_readComparison 11 = .ok (.iconst 0, 1) := by decide +kernel
theorem dX8_readComparison_12 : decode cX8_readComparison 12 = .ok (.ireturn, 1) := by decide +kernel
theorem dX8_readComparison_13 : decode cX8_readComparison 13 = .ok (.aload_n 0, 1) := by decide +kernel
theorem dX8_readComparison_14 : decode cX8_readComparison 14 = .ok (.ldc 84, 2) := by decide +kernel
theorem dX8_readComparison_16 : decode cX8_readComparison 16 = .ok (.invokevirtual 51, 3) := by decide +kernel
theorem dX8_readComparison_19 : decode cX8_readComparison 19 = .ok (.istore_n 3, 1) := by decide +kernel
theorem dX8_readComparison_20 : decode cX8_readComparison 20 = .ok (.iload_n 3, 1) := by decide +kernel
theorem dX8_readComparison_21 : decode cX8_readComparison 21 = .ok (.ifCond .ge 5, 3) := by decide +kernel
theorem dX8_readComparison_24 : decode cX8_readComparison 24 = .ok (.iconst 0, 1) := by decide +kernel
theorem dX8_readComparison_25 : decode cX8_readComparison 25 = .ok (.ireturn, 1) := by decide +kernel
theorem dX8_readComparison_26 : decode cX8_readComparison 26 = .ok (.aload_n 0, 1) := by decide +kernel
theorem dX8_readComparison_27 : decode cX8_readComparison 27 = .ok (.ldc 86, 2) := by decide +kernel
theorem dX8_readComparison_29 : decode cX8_readComparison 29 = .ok (.invokevirtual 51, 3) := by decide +kernel
theorem dX8_readComparison_32 : decode cX8_readComparison 32 = .ok (.istore 4, 2) := by decide +kernel
theorem dX8_readComparison_34 : decode cX8_readComparison 34 = .ok (.iload 4, 2) := by decide +kernel
theorem dX8_readComparison_36 : decode cX8_readComparison 36 = .ok (.ifCond .ge 5, 3) := by decide +kernel
theorem dX8_readComparison_39 : decode cX8_readComparison 39 = .ok (.iconst 0, 1) := by decide +kernel
theorem dX8_readComparison_40 : decode cX8_readComparison 40 = .ok (.ireturn, 1) := by decide +kernel
theorem dX8_readComparison_41 : decode cX8_readComparison 41 = .ok (.aload_n 1, 1) := by decide +kernel
theorem dX8_readComparison_42 : decode cX8_readComparison 42 = .ok (.iload_n 2, 1) := by decide +kernel
theorem dX8_readComparison_43 : decode cX8_readComparison 43 = .ok (.iload_n 3, 1) := by decide +kernel
theorem dX8_readComparison_44 : decode cX8_readComparison 44 = .ok (.iload 4, 2) := by decide +kernel
theorem dX8_readComparison_46 : decode cX8_readComparison 46 = .ok (.invokestatic 88, 3) := by decide +kernel
theorem dX8_readComparison_49 : decode cX8_readComparison 49 = .ok (.invokevirtual 72, 3) := by decide +kernel
theorem dX8_readComparison_52 : decode cX8_readComparison 52 = .ok (.iconst 1, 1) := by decide +kernel
theorem dX8_readComparison_53 : decode cX8_readComparison 53 = .ok (.ireturn, 1) := by decide +kernel
theorem dX8_next_0 : decode cX8_next 0 = .ok (.aload_n 0, 1) := by decide +kernel
theorem dX8_next_1 : decode cX8_next 1 = .ok (.getfield 24, 3) := by decide +kernel
theorem dX8_next_4 : decode cX8_next 4 = .ok (.aload_n 0, 1) := by decide +kernel
theorem dX8_next_5 : decode cX8_next 5 = .ok (.getfield 15, 3) := by decide +kernel
theorem dX8_next_8 : decode cX8_next 8 = .ok (.if_icmp .ge 30, 3) := by decide +kernel
theorem dX8_next_11 : decode cX8_next 11 = .ok (.aload_n 0, 1) := by decide +kernel
theorem dX8_next_12 : decode cX8_next 12 = .ok (.getfield 11, 3) := by decide +kernel
theorem dX8_next_15 : decode cX8_next 15 = .ok (.aload_n 0, 1) := by decide +kernel
theorem dX8_next_16 : decode cX8_next 16 = .ok (.getfield 24, 3) := by decide +kernel
theorem dX8_next_19 : decode cX8_next 19 = .ok (.caload, 1) := by decide +kernel
theorem dX8_next_20 : decode cX8_next 20 = .ok (.bipush 32, 2) := by decide +kernel
theorem dX8_next_22 : decode cX8_next 22 = .ok (.if_icmp .ne 16, 3) := by decide +kernel
theorem dX8_next_25 : decode cX8_next 25 = .ok (.aload_n 0, 1) := by decide +kernel
theorem dX8_next_26 : decode cX8_next 26 = .ok (.dup, 1) := by decide +kernel
theorem dX8_next_27 : decode cX8_next 27 = .ok (.getfield 24, 3) := by decide +kernel
theorem dX8_next_30 : decode cX8_next 30 = .ok (.iconst 1, 1) := by decide +kernel
theorem dX8_next_31 : decode cX8_next 31 = .ok (.iadd, 1) := by decide +kernel
theorem dX8_next_32 : decode cX8_next 32 = .ok (.putfield 24, 3) := by decide +kernel
theorem dX8_next_35 : decode cX8_next 35 = .ok (.goto (-35), 3) := by decide +kernel
theorem dX8_next_38 : decode cX8_next 38 = .ok (.aload_n 0, 1) := by decide +kernel
theorem dX8_next_39 : decode cX8_next 39 = .ok (.getfield 24, 3) := by decide +kernel
theorem dX8_next_42 : decode cX8_next 42 = .ok (.aload_n 0, 1) := by decide +kernel
theorem dX8_next_43 : decode cX8_next 43 = .ok (.getfield 15, 3) := by decide +kernel
theorem dX8_next_46 : decode cX8_next 46 = .ok (.if_icmp .ge 15, 3) := by decide +kernel
theorem dX8_next_49 : decode cX8_next 49 = .ok (.aload_n 0, 1) := by decide +kernel
theorem dX8_next_50 : decode cX8_next 50 = .ok (.getfield 11, 3) := by decide +kernel
theorem dX8_next_53 : decode cX8_next 53 = .ok (.aload_n 0, 1) := by decide +kernel
theorem dX8_next_54 : decode cX8_next 54 = .ok (.getfield 24, 3) := by decide +kernel
theorem dX8_next_57 : decode cX8_next 57 = .ok (.caload, 1) := by decide +kernel
theorem dX8_next_58 : decode cX8_next 58 = .ok (.goto 4, 3) := by decide +kernel
theorem dX8_next_61 : decode cX8_next 61 = .ok (.iconst 1, 1) := by decide +kernel
theorem dX8_next_62 : decode cX8_next 62 = .ok (.ireturn, 1) := by decide +kernel
theorem dX8_takes_0 : decode cX8_takes 0 = .ok (.aload_n 0, 1) := by decide +kernel
theorem dX8_takes_1 : decode cX8_takes 1 = .ok (.invokevirtual 27, 3) := by decide +kernel
theorem dX8_takes_4 : decode cX8_takes 4 = .ok (.iload_n 1, 1) := by decide +kernel
theorem dX8_takes_5 : decode cX8_takes 5 = .ok (.if_icmp .eq 5, 3) := by decide +kernel
theorem dX8_takes_8 : decode cX8_takes 8 = .ok (.iconst 0, 1) := by decide +kernel
theorem dX8_takes_9 : decode cX8_takes 9 = .ok (.ireturn, 1) := by decide +kernel
theorem dX8_takes_10 : decode cX8_takes 10 = .ok (.aload_n 0, 1) := by decide +kernel
theorem dX8_takes_11 : decode cX8_takes 11 = .ok (.dup, 1) := by decide +kernel
theorem dX8_takes_12 : decode cX8_takes 12 = .ok (.getfield 24, 3) := by decide +kernel
theorem dX8_takes_15 : decode cX8_takes 15 = .ok (.iconst 1, 1) := by decide +kernel
theorem dX8_takes_16 : decode cX8_takes 16 = .ok (.iadd, 1) := by decide +kernel
theorem dX8_takes_17 : decode cX8_takes 17 = .ok (.putfield 24, 3) := by decide +kernel
theorem dX8_takes_20 : decode cX8_takes 20 = .ok (.iconst 1, 1) := by decide +kernel
theorem dX8_takes_21 : decode cX8_takes 21 = .ok (.ireturn, 1) := by decide +kernel
theorem dX8_takesOneOf_0 : decode cX8_takesOneOf 0 = .ok (.aload_n 1, 1) := by decide +kernel
theorem dX8_takesOneOf_1 : decode cX8_takesOneOf 1 = .ok (.aload_n 0, 1) := by decide +kernel
theorem dX8_takesOneOf_2 : decode cX8_takesOneOf 2 = .ok (.invokevirtual 27, 3) := by decide +kernel
theorem dX8_takesOneOf_5 : decode cX8_takesOneOf 5 = .ok (.invokevirtual 92, 3) := by decide +kernel
theorem dX8_takesOneOf_8 : decode cX8_takesOneOf 8 = .ok (.istore_n 2, 1) := by decide +kernel
theorem dX8_takesOneOf_9 : decode cX8_takesOneOf 9 = .ok (.iload_n 2, 1) := by decide +kernel
theorem dX8_takesOneOf_10 : decode cX8_takesOneOf 10 = .ok (.ifCond .lt 13, 3) := by decide +kernel
theorem dX8_takesOneOf_13 : decode cX8_takesOneOf 13 = .ok (.aload_n 0, 1) := by decide +kernel
theorem dX8_takesOneOf_14 : decode cX8_takesOneOf 14 = .ok (.dup, 1) := by decide +kernel
theorem dX8_takesOneOf_15 : decode cX8_takesOneOf 15 = .ok (.getfield 24, 3) := by decide +kernel
theorem dX8_takesOneOf_18 : decode cX8_takesOneOf 18 = .ok (.iconst 1, 1) := by decide +kernel
theorem dX8_takesOneOf_19 : decode cX8_takesOneOf 19 = .ok (.iadd, 1) := by decide +kernel
theorem dX8_takesOneOf_20 : decode cX8_takesOneOf 20 = .ok (.putfield 24, 3) := by decide +kernel
theorem dX8_takesOneOf_23 : decode cX8_takesOneOf 23 = .ok (.iload_n 2, 1) := by decide +kernel
theorem dX8_takesOneOf_24 : decode cX8_takesOneOf 24 = .ok (.ireturn, 1) := by decide +kernel
theorem dX9_init_0 : decode cX9_init 0 = .ok (.aload_n 0, 1) := by decide +kernel
theorem dX9_init_1 : decode cX9_init 1 = .ok (.invokespecial 3, 3) := by decide +kernel
theorem dX9_init_4 : decode cX9_init 4 = .ok (.aload_n 0, 1) := by decide +kernel
theorem dX9_init_5 : decode cX9_init 5 = .ok (.iconst 5, 1) := by decide +kernel
theorem dX9_init_6 : decode cX9_init 6 = .ok (.bipush 16, 2) := by decide +kernel
theorem dX9_init_8 : decode cX9_init 8 = .ok (.multianewarray 11 2, 4) := by decide +kernel
theorem dX9_init_12 : decode cX9_init 12 = .ok (.putfield 13, 3) := by decide +kernel
theorem dX9_init_15 : decode cX9_init 15 = .ok (.aload_n 0, 1) := by decide +kernel
theorem dX9_init_16 : decode cX9_init 16 = .ok (.bipush 10, 2) := by decide +kernel
theorem dX9_init_18 : decode cX9_init 18 = .ok (.newarray .int, 2) := by decide +kernel
theorem dX9_init_20 : decode cX9_init 20 = .ok (.putfield 16, 3) := by decide +kernel
theorem dX9_init_23 : decode cX9_init 23 = .ok (.aload_n 0, 1) := by decide +kernel
theorem dX9_init_24 : decode cX9_init 24 = .ok (.iconst 3, 1) := by decide +kernel
theorem dX9_init_25 : decode cX9_init 25 = .ok (.bipush 16, 2) := by decide +kernel
theorem dX9_init_27 : decode cX9_init 27 = .ok (.multianewarray 11 2, 4) := by decide +kernel
theorem dX9_init_31 : decode cX9_init 31 = .ok (.putfield 20, 3) := by decide +kernel
theorem dX9_init_34 : decode cX9_init 34 = .ok (.aload_n 0, 1) := by decide +kernel
theorem dX9_init_35 : decode cX9_init 35 = .ok (.bipush 6, 2) := by decide +kernel
theorem dX9_init_37 : decode cX9_init 37 = .ok (.newarray .int, 2) := by decide +kernel
theorem dX9_init_39 : decode cX9_init 39 = .ok (.putfield 23, 3) := by decide +kernel
theorem dX9_init_42 : decode cX9_init 42 = .ok (.iconst 0, 1) := by decide +kernel
theorem dX9_init_43 : decode cX9_init 43 = .ok (.istore_n 1, 1) := by decide +kernel
theorem dX9_init_44 : decode cX9_init 44 = .ok (.iload_n 1, 1) := by decide +kernel
theorem dX9_init_45 : decode cX9_init 45 = .ok (.bipush 10, 2) := by decide +kernel
theorem dX9_init_47 : decode cX9_init 47 = .ok (.if_icmp .ge 16, 3) := by decide +kernel
theorem dX9_init_50 : decode cX9_init 50 = .ok (.aload_n 0, 1) := by decide +kernel
theorem dX9_init_51 : decode cX9_init 51 = .ok (.getfield 16, 3) := by decide +kernel
theorem dX9_init_54 : decode cX9_init 54 = .ok (.iload_n 1, 1) := by decide +kernel
theorem dX9_init_55 : decode cX9_init 55 = .ok (.iconst 5, 1) := by decide +kernel
theorem dX9_init_56 : decode cX9_init 56 = .ok (.iastore, 1) := by decide +kernel
theorem dX9_init_57 : decode cX9_init 57 = .ok (.iinc 1 1, 3) := by decide +kernel
theorem dX9_init_60 : decode cX9_init 60 = .ok (.goto (-16), 3) := by decide +kernel
theorem dX9_init_63 : decode cX9_init 63 = .ok (.return_, 1) := by decide +kernel
theorem dX9_mayBe_0 : decode cX9_mayBe 0 = .ok (.iload_n 0, 1) := by decide +kernel
theorem dX9_mayBe_1 : decode cX9_mayBe 1 = .ok (.iconst 4, 1) := by decide +kernel
theorem dX9_mayBe_2 : decode cX9_mayBe 2 = .ok (.invokestatic 26, 3) := by decide +kernel
theorem dX9_mayBe_5 : decode cX9_mayBe 5 = .ok (.ifCond .eq 19, 3) := by decide +kernel
theorem dX9_mayBe_8 : decode cX9_mayBe 8 = .ok (.iload_n 1, 1) := by decide +kernel
theorem dX9_mayBe_9 : decode cX9_mayBe 9 = .ok (.getstatic 30, 3) := by decide +kernel
theorem dX9_mayBe_12 : decode cX9_mayBe 12 = .ok (.iload_n 0, 1) := by decide +kernel
theorem dX9_mayBe_13 : decode cX9_mayBe 13 = .ok (.iaload, 1) := by decide +kernel
theorem dX9_mayBe_14 : decode cX9_mayBe 14 = .ok (.invokestatic 26, 3) := by decide +kernel
theorem dX9_mayBe_17 : decode cX9_mayBe 17 = .ok (.ifCond .eq 7, 3) := by decide +kernel
theorem dX9_mayBe_20 : decode cX9_mayBe 20 = .ok (.iconst 1, 1) := by decide +kernel
theorem dX9_mayBe_21 : decode cX9_mayBe 21 = .ok (.goto 4, 3) := by decide +kernel
theorem dX9_mayBe_24 : decode cX9_mayBe 24 = .ok (.iconst 0, 1) := by decide +kernel
theorem dX9_mayBe_25 : decode cX9_mayBe 25 = .ok (.ireturn, 1) := by decide +kernel
theorem dX9_settle_0 : decode cX9_settle 0 = .ok (.aload_n 0, 1) := by decide +kernel
theorem dX9_settle_1 : decode cX9_settle 1 = .ok (.getfield 20, 3) := by decide +kernel
theorem dX9_settle_4 : decode cX9_settle 4 = .ok (.iconst 0, 1) := by decide +kernel
theorem dX9_settle_5 : decode cX9_settle 5 = .ok (.aaload, 1) := by decide +kernel
theorem dX9_settle_6 : decode cX9_settle 6 = .ok (.aload_n 0, 1) := by decide +kernel
theorem dX9_settle_7 : decode cX9_settle 7 = .ok (.getfield 33, 3) := by decide +kernel
theorem dX9_settle_10 : decode cX9_settle 10 = .ok (.iload_n 1, 1) := by decide +kernel
theorem dX9_settle_11 : decode cX9_settle 11 = .ok (.iastore, 1) := by decide +kernel
theorem dX9_settle_12 : decode cX9_settle 12 = .ok (.aload_n 0, 1) := by decide +kernel
theorem dX9_settle_13 : decode cX9_settle 13 = .ok (.getfield 20, 3) := by decide +kernel
theorem dX9_settle_16 : decode cX9_settle 16 = .ok (.iconst 1, 1) := by decide +kernel
theorem dX9_settle_17 : decode cX9_settle 17 = .ok (.aaload, 1) := by decide +kernel
theorem dX9_settle_18 : decode cX9_settle 18 = .ok (.aload_n 0, 1) := by decide +kernel
theorem dX9_settle_19 : decode cX9_settle 19 = .ok (.getfield 33, 3) := by decide +kernel
theorem dX9_settle_22 : decode cX9_settle 22 = .ok (.iload_n 2, 1) := by decide +kernel
theorem dX9_settle_23 : decode cX9_settle 23 = .ok (.iastore, 1) := by decide +kernel
theorem dX9_settle_24 : decode cX9_settle 24 = .ok (.aload_n 0, 1) := by decide +kernel
theorem dX9_settle_25 : decode cX9_settle 25 = .ok (.getfield 20, 3) := by decide +kernel
theorem dX9_settle_28 : decode cX9_settle 28 = .ok (.iconst 2, 1) := by decide +kernel
theorem dX9_settle_29 : decode cX9_settle 29 = .ok (.aaload, 1) := by decide +kernel
theorem dX9_settle_30 : decode cX9_settle 30 = .ok (.aload_n 0, 1) := by decide +kernel
theorem dX9_settle_31 : decode cX9_settle 31 = .ok (.getfield 33, 3) := by decide +kernel
theorem dX9_settle_34 : decode cX9_settle 34 = .ok (.iload_n 3, 1) := by decide +kernel
theorem dX9_settle_35 : decode cX9_settle 35 = .ok (.iastore, 1) := by decide +kernel
theorem dX9_settle_36 : decode cX9_settle 36 = .ok (.aload_n 0, 1) := by decide +kernel
theorem dX9_settle_37 : decode cX9_settle 37 = .ok (.getfield 13, 3) := by decide +kernel
theorem dX9_settle_40 : decode cX9_settle 40 = .ok (.iconst 3, 1) := by decide +kernel
theorem dX9_settle_41 : decode cX9_settle 41 = .ok (.aaload, 1) := by decide +kernel
theorem dX9_settle_42 : decode cX9_settle 42 = .ok (.aload_n 0, 1) := by decide +kernel
theorem dX9_settle_43 : decode cX9_settle 43 = .ok (.getfield 33, 3) := by decide +kernel
theorem dX9_settle_46 : decode cX9_settle 46 = .ok (.iload 4, 2) := by decide +kernel
theorem dX9_settle_48 : decode cX9_settle 48 = .ok (.iastore, 1) := by decide +kernel
theorem dX9_settle_49 : decode cX9_settle 49 = .ok (.aload_n 0, 1) := by decide +kernel
theorem dX9_settle_50 : decode cX9_settle 50 = .ok (.getfield 13, 3) := by decide +kernel
theorem dX9_settle_53 : decode cX9_settle 53 = .ok (.iconst 4, 1) := by decide +kernel
theorem dX9_settle_54 : decode cX9_settle 54 = .ok (.aaload, 1) := by decide +kernel
theorem dX9_settle_55 : decode cX9_settle 55 = .ok (.aload_n 0, 1) := by decide +kernel
theorem dX9_settle_56 : decode cX9_settle 56 = .ok (.getfield 33, 3) := by decide +kernel
theorem dX9_settle_59 : decode cX9_settle 59 = .ok (.iload 5, 2) := by decide +kernel
theorem dX9_settle_61 : decode cX9_settle 61 = .ok (.iastore, 1) := by decide +kernel
theorem dX9_settle_62 : decode cX9_settle 62 = .ok (.aload_n 0, 1) := by decide +kernel
theorem dX9_settle_63 : decode cX9_settle 63 = .ok (.getfield 13, 3) := by decide +kernel
theorem dX9_settle_66 : decode cX9_settle 66 = .ok (.iconst 0, 1) := by decide +kernel
theorem dX9_settle_67 : decode cX9_settle 67 = .ok (.aaload, 1) := by decide +kernel
theorem dX9_settle_68 : decode cX9_settle 68 = .ok (.aload_n 0, 1) := by decide +kernel
theorem dX9_settle_69 : decode cX9_settle 69 = .ok (.getfield 33, 3) := by decide +kernel
theorem dX9_settle_72 : decode cX9_settle 72 = .ok (.bipush 50, 2) := by decide +kernel
theorem dX9_settle_74 : decode cX9_settle 74 = .ok (.iastore, 1) := by decide +kernel
theorem dX9_settle_75 : decode cX9_settle 75 = .ok (.aload_n 0, 1) := by decide +kernel
theorem dX9_settle_76 : decode cX9_settle 76 = .ok (.dup, 1) := by decide +kernel
theorem dX9_settle_77 : decode cX9_settle 77 = .ok (.getfield 33, 3) := by decide +kernel
theorem dX9_settle_80 : decode cX9_settle 80 = .ok (.iconst 1, 1) := by decide +kernel
theorem dX9_settle_81 : decode cX9_settle 81 = .ok (.iadd, 1) := by decide +kernel
theorem dX9_settle_82 : decode cX9_settle 82 = .ok (.putfield 33, 3) := by decide +kernel
theorem dX9_settle_85 : decode cX9_settle 85 = .ok (.aload_n 0, 1) := by decide +kernel
theorem dX9_settle_86 : decode cX9_settle 86 = .ok (.getfield 33, 3) := by decide +kernel
theorem dX9_settle_89 : decode cX9_settle 89 = .ok (.iconst 1, 1) := by decide +kernel
theorem dX9_settle_90 : decode cX9_settle 90 = .ok (.isub, 1) := by decide +kernel
theorem dX9_settle_91 : decode cX9_settle 91 = .ok (.ireturn, 1) := by decide +kernel
theorem dX9_placesAt_0 : decode cX9_placesAt 0 = .ok (.iload_n 1, 1) := by decide +kernel
theorem dX9_placesAt_1 : decode cX9_placesAt 1 = .ok (.bipush 24, 2) := by decide +kernel
theorem dX9_placesAt_3 : decode cX9_placesAt 3 = .ok (.irem, 1) := by decide +kernel
theorem dX9_placesAt_4 : decode cX9_placesAt 4 = .ok (.istore_n 2, 1) := by decide +kernel
theorem dX9_placesAt_5 : decode cX9_placesAt 5 = .ok (.iload_n 2, 1) := by decide +kernel
theorem dX9_placesAt_6 : decode cX9_placesAt 6 = .ok (.bipush 8, 2) := by decide +kernel
theorem dX9_placesAt_8 : decode cX9_placesAt 8 = .ok (.if_icmp .lt 16, 3) := by decide +kernel
theorem dX9_placesAt_11 : decode cX9_placesAt 11 = .ok (.iload_n 2, 1) := by decide +kernel
theorem dX9_placesAt_12 : decode cX9_placesAt 12 = .ok (.bipush 17, 2) := by decide +kernel
theorem dX9_placesAt_14 : decode cX9_placesAt 14 = .ok (.if_icmp .gt 10, 3) := by decide +kernel
theorem dX9_placesAt_17 : decode cX9_placesAt 17 = .ok (.aload_n 0, 1) := by decide +kernel
theorem dX9_placesAt_18 : decode cX9_placesAt 18 = .ok (.getfield 20, 3) := by decide +kernel
theorem dX9_placesAt_21 : decode cX9_placesAt 21 = .ok (.iconst 1, 1) := by decide +kernel
theorem dX9_placesAt_22 : decode cX9_placesAt 22 = .ok (.aaload, 1) := by decide +kernel
theorem dX9_placesAt_23 : decode cX9_placesAt 23 = .ok (.areturn, 1) := by decide +kernel
theorem dX9_placesAt_24 : decode cX9_placesAt 24 = .ok (.iload_n 2, 1) := by decide +kernel
theorem dX9_placesAt_25 : decode cX9_placesAt 25 = .ok (.bipush 18, 2) := by decide +kernel
theorem dX9_placesAt_27 : decode cX9_placesAt 27 = .ok (.if_icmp .lt 18, 3) := by decide +kernel
theorem dX9_placesAt_30 : decode cX9_placesAt 30 = .ok (.iload_n 2, 1) := by decide +kernel
theorem dX9_placesAt_31 : decode cX9_placesAt 31 = .ok (.bipush 21, 2) := by decide +kernel
theorem dX9_placesAt_33 : decode cX9_placesAt 33 = .ok (.if_icmp .gt 12, 3) := by decide +kernel
theorem dX9_placesAt_36 : decode cX9_placesAt 36 = .ok (.aload_n 0, 1) := by decide +kernel
theorem dX9_placesAt_37 : decode cX9_placesAt 37 = .ok (.getfield 20, 3) := by decide +kernel
theorem dX9_placesAt_40 : decode cX9_placesAt 40 = .ok (.iconst 2, 1) := by decide +kernel
theorem dX9_placesAt_41 : decode cX9_placesAt 41 = .ok (.aaload, 1) := by decide +kernel
theorem dX9_placesAt_42 : decode cX9_placesAt 42 = .ok (.goto 9, 3) := by decide +kernel
theorem dX9_placesAt_45 : decode cX9_placesAt 45 = .ok (.aload_n 0, 1) := by decide +kernel
theorem dX9_placesAt_46 : decode cX9_placesAt 46 = .ok (.getfield 20, 3) := by decide +kernel
theorem dX9_placesAt_49 : decode cX9_placesAt 49 = .ok (.iconst 0, 1) := by decide +kernel
theorem dX9_placesAt_50 : decode cX9_placesAt 50 = .ok (.aaload, 1) := by decide +kernel
theorem dX9_placesAt_51 : decode cX9_placesAt 51 = .ok (.areturn, 1) := by decide +kernel
theorem dX9_passHours_0 : decode cX9_passHours 0 = .ok (.iconst 0, 1) := by decide +kernel
theorem dX9_passHours_1 : decode cX9_passHours 1 = .ok (.istore 4, 2) := by decide +kernel
theorem dX9_passHours_3 : decode cX9_passHours 3 = .ok (.iload 4, 2) := by decide +kernel
theorem dX9_passHours_5 : decode cX9_passHours 5 = .ok (.iload_n 3, 1) := by decide +kernel
theorem dX9_passHours_6 : decode cX9_passHours 6 = .ok (.if_icmp .ge 19, 3) := by decide +kernel
theorem dX9_passHours_9 : decode cX9_passHours 9 = .ok (.aload_n 0, 1) := by decide +kernel
theorem dX9_passHours_10 : decode cX9_passHours 10 = .ok (.aload_n 1, 1) := by decide +kernel
theorem dX9_passHours_11 : decode cX9_passHours 11 = .ok (.iload_n 2, 1) := by decide +kernel
theorem dX9_passHours_12 : decode cX9_passHours 12 = .ok (.iload 4, 2) := by decide +kernel
theorem dX9_passHours_14 : decode cX9_passHours 14 = .ok (.iadd, 1) := by decide +kernel
theorem dX9_passHours_15 : decode cX9_passHours 15 = .ok (.invokevirtual 37, 3) := by decide +kernel
theorem dX9_passHours_18 : decode cX9_passHours 18 = .ok (.pop, 1) := by decide +kernel
