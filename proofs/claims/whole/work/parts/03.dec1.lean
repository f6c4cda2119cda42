theorem dX9_passHours_19 : decode cX9_passHours 19 = .ok (.iinc 4 1, 3) := by decide +kernel
theorem dX9_passHours_22 : decode cX9_passHours 22 = .ok (.goto (-19), 3) := by decide +kernel
theorem dX9_passHours_25 : decode cX9_passHours 25 = .ok (.return_, 1) := by decide +kernel
theorem dX9_passHour_0 : decode cX9_passHour 0 = .ok (.aload_n 0, 1) := by decide +kernel
theorem dX9_passHour_1 : decode cX9_passHour 1 = .ok (.iload_n 2, 1) := by decide +kernel
theorem dX9_passHour_2 : decode cX9_passHour 2 = .ok (.invokevirtual 41, 3) := by decide +kernel
theorem dX9_passHour_5 : decode cX9_passHour 5 = .ok (.astore_n 3, 1) := by decide +kernel
theorem dX9_passHour_6 : decode cX9_passHour 6 = .ok (.aload_n 0, 1) := by decide +kernel
theorem dX9_passHour_7 : decode cX9_passHour 7 = .ok (.aload_n 1, 1) := by decide +kernel
theorem dX9_passHour_8 : decode cX9_passHour 8 = .ok (.aload_n 3, 1) := by decide +kernel
theorem dX9_passHour_9 : decode cX9_passHour 9 = .ok (.invokevirtual 45, 3) := by decide +kernel
theorem dX9_passHour_12 : decode cX9_passHour 12 = .ok (.istore 4, 2) := by decide +kernel
theorem dX9_passHour_14 : decode cX9_passHour 14 = .ok (.iconst 0, 1) := by decide +kernel
theorem dX9_passHour_15 : decode cX9_passHour 15 = .ok (.istore 5, 2) := by decide +kernel
theorem dX9_passHour_17 : decode cX9_passHour 17 = .ok (.iload 5, 2) := by decide +kernel
theorem dX9_passHour_19 : decode cX9_passHour 19 = .ok (.aload_n 0, 1) := by decide +kernel
theorem dX9_passHour_20 : decode cX9_passHour 20 = .ok (.getfield 33, 3) := by decide +kernel
theorem dX9_passHour_23 : decode cX9_passHour 23 = .ok (.if_icmp .ge 53, 3) := by decide +kernel
theorem dX9_passHour_26 : decode cX9_passHour 26 = .ok (.aload_n 0, 1) := by decide +kernel
theorem dX9_passHour_27 : decode cX9_passHour 27 = .ok (.getfield 23, 3) := by decide +kernel
theorem dX9_passHour_30 : decode cX9_passHour 30 = .ok (.aload_n 3, 1) := by decide +kernel
theorem dX9_passHour_31 : decode cX9_passHour 31 = .ok (.iload 5, 2) := by decide +kernel
theorem dX9_passHour_33 : decode cX9_passHour 33 = .ok (.iaload, 1) := by decide +kernel
theorem dX9_passHour_34 : decode cX9_passHour 34 = .ok (.iaload, 1) := by decide +kernel
theorem dX9_passHour_35 : decode cX9_passHour 35 = .ok (.iconst 1, 1) := by decide +kernel
theorem dX9_passHour_36 : decode cX9_passHour 36 = .ok (.iload 5, 2) := by decide +kernel
theorem dX9_passHour_38 : decode cX9_passHour 38 = .ok (.ishl, 1) := by decide +kernel
theorem dX9_passHour_39 : decode cX9_passHour 39 = .ok (.iconst (-1), 1) := by decide +kernel
theorem dX9_passHour_40 : decode cX9_passHour 40 = .ok (.ixor, 1) := by decide +kernel
theorem dX9_passHour_41 : decode cX9_passHour 41 = .ok (.iand, 1) := by decide +kernel
theorem dX9_passHour_42 : decode cX9_passHour 42 = .ok (.istore 6, 2) := by decide +kernel
theorem dX9_passHour_44 : decode cX9_passHour 44 = .ok (.iload 6, 2) := by decide +kernel
theorem dX9_passHour_46 : decode cX9_passHour 46 = .ok (.ifCond .eq 16, 3) := by decide +kernel
theorem dX9_passHour_49 : decode cX9_passHour 49 = .ok (.aload_n 0, 1) := by decide +kernel
theorem dX9_passHour_50 : decode cX9_passHour 50 = .ok (.aload_n 1, 1) := by decide +kernel
theorem dX9_passHour_51 : decode cX9_passHour 51 = .ok (.iload 5, 2) := by decide +kernel
theorem dX9_passHour_53 : decode cX9_passHour 53 = .ok (.iload 6, 2) := by decide +kernel
theorem dX9_passHour_55 : decode cX9_passHour 55 = .ok (.iload_n 2, 1) := by decide +kernel
theorem dX9_passHour_56 : decode cX9_passHour 56 = .ok (.invokevirtual 49, 3) := by decide +kernel
theorem dX9_passHour_59 : decode cX9_passHour 59 = .ok (.goto 11, 3) := by decide +kernel
theorem dX9_passHour_62 : decode cX9_passHour 62 = .ok (.aload_n 0, 1) := by decide +kernel
theorem dX9_passHour_63 : decode cX9_passHour 63 = .ok (.aload_n 1, 1) := by decide +kernel
theorem dX9_passHour_64 : decode cX9_passHour 64 = .ok (.iload 5, 2) := by decide +kernel
theorem dX9_passHour_66 : decode cX9_passHour 66 = .ok (.iload_n 2, 1) := by decide +kernel
theorem dX9_passHour_67 : decode cX9_passHour 67 = .ok (.invokevirtual 53, 3) := by decide +kernel
theorem dX9_passHour_70 : decode cX9_passHour 70 = .ok (.iinc 5 1, 3) := by decide +kernel
theorem dX9_passHour_73 : decode cX9_passHour 73 = .ok (.goto (-56), 3) := by decide +kernel
theorem dX9_passHour_76 : decode cX9_passHour 76 = .ok (.iload 4, 2) := by decide +kernel
theorem dX9_passHour_78 : decode cX9_passHour 78 = .ok (.ireturn, 1) := by decide +kernel
theorem dX9_listen_0 : decode cX9_listen 0 = .ok (.iconst 0, 1) := by decide +kernel
theorem dX9_listen_1 : decode cX9_listen 1 = .ok (.istore_n 3, 1) := by decide +kernel
theorem dX9_listen_2 : decode cX9_listen 2 = .ok (.iload_n 3, 1) := by decide +kernel
theorem dX9_listen_3 : decode cX9_listen 3 = .ok (.bipush 6, 2) := by decide +kernel
theorem dX9_listen_5 : decode cX9_listen 5 = .ok (.if_icmp .ge 16, 3) := by decide +kernel
theorem dX9_listen_8 : decode cX9_listen 8 = .ok (.aload_n 0, 1) := by decide +kernel
theorem dX9_listen_9 : decode cX9_listen 9 = .ok (.getfield 23, 3) := by decide +kernel
theorem dX9_listen_12 : decode cX9_listen 12 = .ok (.iload_n 3, 1) := by decide +kernel
theorem dX9_listen_13 : decode cX9_listen 13 = .ok (.iconst 0, 1) := by decide +kernel
theorem dX9_listen_14 : decode cX9_listen 14 = .ok (.iastore, 1) := by decide +kernel
theorem dX9_listen_15 : decode cX9_listen 15 = .ok (.iinc 3 1, 3) := by decide +kernel
theorem dX9_listen_18 : decode cX9_listen 18 = .ok (.goto (-16), 3) := by decide +kernel
theorem dX9_listen_21 : decode cX9_listen 21 = .ok (.iconst 0, 1) := by decide +kernel
theorem dX9_listen_22 : decode cX9_listen 22 = .ok (.istore_n 3, 1) := by decide +kernel
theorem dX9_listen_23 : decode cX9_listen 23 = .ok (.iconst 0, 1) := by decide +kernel
theorem dX9_listen_24 : decode cX9_listen 24 = .ok (.istore 4, 2) := by decide +kernel
theorem dX9_listen_26 : decode cX9_listen 26 = .ok (.iload 4, 2) := by decide +kernel
theorem dX9_listen_28 : decode cX9_listen 28 = .ok (.aload_n 0, 1) := by decide +kernel
theorem dX9_listen_29 : decode cX9_listen 29 = .ok (.getfield 33, 3) := by decide +kernel
theorem dX9_listen_32 : decode cX9_listen 32 = .ok (.if_icmp .ge 71, 3) := by decide +kernel
theorem dX9_listen_35 : decode cX9_listen 35 = .ok (.aload_n 1, 1) := by decide +kernel
theorem dX9_listen_36 : decode cX9_listen 36 = .ok (.getfield 57, 3) := by decide +kernel
theorem dX9_listen_39 : decode cX9_listen 39 = .ok (.iload 4, 2) := by decide +kernel
theorem dX9_listen_41 : decode cX9_listen 41 = .ok (.iaload, 1) := by decide +kernel
theorem dX9_listen_42 : decode cX9_listen 42 = .ok (.iconst 1, 1) := by decide +kernel
theorem dX9_listen_43 : decode cX9_listen 43 = .ok (.if_icmp .ne 54, 3) := by decide +kernel
theorem dX9_listen_46 : decode cX9_listen 46 = .ok (.aload_n 0, 1) := by decide +kernel
theorem dX9_listen_47 : decode cX9_listen 47 = .ok (.getfield 13, 3) := by decide +kernel
theorem dX9_listen_50 : decode cX9_listen 50 = .ok (.iconst 3, 1) := by decide +kernel
theorem dX9_listen_51 : decode cX9_listen 51 = .ok (.aaload, 1) := by decide +kernel
theorem dX9_listen_52 : decode cX9_listen 52 = .ok (.iload 4, 2) := by decide +kernel
theorem dX9_listen_54 : decode cX9_listen 54 = .ok (.iaload, 1) := by decide +kernel
theorem dX9_listen_55 : decode cX9_listen 55 = .ok (.aload_n 0, 1) := by decide +kernel
theorem dX9_listen_56 : decode cX9_listen 56 = .ok (.aload_n 1, 1) := by decide +kernel
theorem dX9_listen_57 : decode cX9_listen 57 = .ok (.getfield 62, 3) := by decide +kernel
theorem dX9_listen_60 : decode cX9_listen 60 = .ok (.iload 4, 2) := by decide +kernel
theorem dX9_listen_62 : decode cX9_listen 62 = .ok (.iaload, 1) := by decide +kernel
theorem dX9_listen_63 : decode cX9_listen 63 = .ok (.invokevirtual 65, 3) := by decide +kernel
theorem dX9_listen_66 : decode cX9_listen 66 = .ok (.imul, 1) := by decide +kernel
theorem dX9_listen_67 : decode cX9_listen 67 = .ok (.bipush 10, 2) := by decide +kernel
theorem dX9_listen_69 : decode cX9_listen 69 = .ok (.if_icmp .lt 28, 3) := by decide +kernel
theorem dX9_listen_72 : decode cX9_listen 72 = .ok (.aload_n 0, 1) := by decide +kernel
theorem dX9_listen_73 : decode cX9_listen 73 = .ok (.getfield 23, 3) := by decide +kernel
theorem dX9_listen_76 : decode cX9_listen 76 = .ok (.aload_n 2, 1) := by decide +kernel
theorem dX9_listen_77 : decode cX9_listen 77 = .ok (.iload 4, 2) := by decide +kernel
theorem dX9_listen_79 : decode cX9_listen 79 = .ok (.iaload, 1) := by decide +kernel
theorem dX9_listen_80 : decode cX9_listen 80 = .ok (.dup2, 1) := by decide +kernel
theorem dX9_listen_81 : decode cX9_listen 81 = .ok (.iaload, 1) := by decide +kernel
theorem dX9_listen_82 : decode cX9_listen 82 = .ok (.iconst 1, 1) := by decide +kernel
theorem dX9_listen_83 : decode cX9_listen 83 = .ok (.iload 4, 2) := by decide +kernel
theorem dX9_listen_85 : decode cX9_listen 85 = .ok (.ishl, 1) := by decide +kernel
theorem dX9_listen_86 : decode cX9_listen 86 = .ok (.ior, 1) := by decide +kernel
theorem dX9_listen_87 : decode cX9_listen 87 = .ok (.iastore, 1) := by decide +kernel
theorem dX9_listen_88 : decode cX9_listen 88 = .ok (.iload_n 3, 1) := by decide +kernel
theorem dX9_listen_89 : decode cX9_listen 89 = .ok (.iconst 1, 1) := by decide +kernel
theorem dX9_listen_90 : decode cX9_listen 90 = .ok (.aload_n 2, 1) := by decide +kernel
theorem dX9_listen_91 : decode cX9_listen 91 = .ok (.iload 4, 2) := by decide +kernel
theorem dX9_listen_93 : decode cX9_listen 93 = .ok (.iaload, 1) := by decide +kernel
theorem dX9_listen_94 : decode cX9_listen 94 = .ok (.ishl, 1) := by decide +kernel
theorem dX9_listen_95 : decode cX9_listen 95 = .ok (.ior, 1) := by decide +kernel
theorem dX9_listen_96 : decode cX9_listen 96 = .ok (.istore_n 3, 1) := by decide +kernel
theorem dX9_listen_97 : decode cX9_listen 97 = .ok (.iinc 4 1, 3) := by decide +kernel
theorem dX9_listen_100 : decode cX9_listen 100 = .ok (.goto (-74), 3) := by decide +kernel
theorem dX9_listen_103 : decode cX9_listen 103 = .ok (.iload_n 3, 1) := by decide +kernel
theorem dX9_listen_104 : decode cX9_listen 104 = .ok (.ireturn, 1) := by decide +kernel
theorem dX9_hear_0 : decode cX9_hear 0 = .ok (.aload_n 1, 1) := by decide +kernel
theorem dX9_hear_1 : decode cX9_hear 1 = .ok (.getfield 69, 3) := by decide +kernel
theorem dX9_hear_4 : decode cX9_hear 4 = .ok (.iload_n 2, 1) := by decide +kernel
theorem dX9_hear_5 : decode cX9_hear 5 = .ok (.iload 4, 2) := by decide +kernel
theorem dX9_hear_7 : decode cX9_hear 7 = .ok (.iastore, 1) := by decide +kernel
theorem dX9_hear_8 : decode cX9_hear 8 = .ok (.aload_n 1, 1) := by decide +kernel
theorem dX9_hear_9 : decode cX9_hear 9 = .ok (.getfield 57, 3) := by decide +kernel
theorem dX9_hear_12 : decode cX9_hear 12 = .ok (.iload_n 2, 1) := by decide +kernel
theorem dX9_hear_13 : decode cX9_hear 13 = .ok (.iaload, 1) := by decide +kernel
theorem dX9_hear_14 : decode cX9_hear 14 = .ok (.iconst 1, 1) := by decide +kernel
theorem dX9_hear_15 : decode cX9_hear 15 = .ok (.if_icmp .ne 4, 3) := by decide +kernel
theorem dX9_hear_18 : decode cX9_hear 18 = .ok (.return_, 1) := by decide +kernel
theorem dX9_hear_19 : decode cX9_hear 19 = .ok (.aload_n 0, 1) := by decide +kernel
theorem dX9_hear_20 : decode cX9_hear 20 = .ok (.getfield 13, 3) := by decide +kernel
theorem dX9_hear_23 : decode cX9_hear 23 = .ok (.iconst 3, 1) := by decide +kernel
theorem dX9_hear_24 : decode cX9_hear 24 = .ok (.aaload, 1) := by decide +kernel
theorem dX9_hear_25 : decode cX9_hear 25 = .ok (.iload_n 2, 1) := by decide +kernel
theorem dX9_hear_26 : decode cX9_hear 26 = .ok (.iaload, 1) := by decide +kernel
theorem dX9_hear_27 : decode cX9_hear 27 = .ok (.iconst 2, 1) := by decide +kernel
theorem dX9_hear_28 : decode cX9_hear 28 = .ok (.iload_n 3, 1) := by decide +kernel
theorem dX9_hear_29 : decode cX9_hear 29 = .ok (.invokestatic 72, 3) := by decide +kernel
theorem dX9_hear_32 : decode cX9_hear 32 = .ok (.imul, 1) := by decide +kernel
theorem dX9_hear_33 : decode cX9_hear 33 = .ok (.iadd, 1) := by decide +kernel
theorem dX9_hear_34 : decode cX9_hear 34 = .ok (.aload_n 0, 1) := by decide +kernel
theorem dX9_hear_35 : decode cX9_hear 35 = .ok (.getfield 13, 3) := by decide +kernel
theorem dX9_hear_38 : decode cX9_hear 38 = .ok (.iconst 4, 1) := by decide +kernel
theorem dX9_hear_39 : decode cX9_hear 39 = .ok (.aaload, 1) := by decide +kernel
theorem dX9_hear_40 : decode cX9_hear 40 = .ok (.iload_n 2, 1) := by decide +kernel
theorem dX9_hear_41 : decode cX9_hear 41 = .ok (.iaload, 1) := by decide +kernel
theorem dX9_hear_42 : decode cX9_hear 42 = .ok (.if_icmp .le 7, 3) := by decide +kernel
theorem dX9_hear_45 : decode cX9_hear 45 = .ok (.iconst 1, 1) := by decide +kernel
theorem dX9_hear_46 : decode cX9_hear 46 = .ok (.goto 4, 3) := by decide +kernel
theorem dX9_hear_49 : decode cX9_hear 49 = .ok (.iconst 0, 1) := by decide +kernel
theorem dX9_hear_50 : decode cX9_hear 50 = .ok (.istore 5, 2) := by decide +kernel
theorem dX9_hear_52 : decode cX9_hear 52 = .ok (.aload_n 1, 1) := by decide +kernel
theorem dX9_hear_53 : decode cX9_hear 53 = .ok (.iload_n 2, 1) := by decide +kernel
theorem dX9_hear_54 : decode cX9_hear 54 = .ok (.invokevirtual 77, 3) := by decide +kernel
theorem dX9_hear_57 : decode cX9_hear 57 = .ok (.ifCond .eq 55, 3) := by decide +kernel
theorem dX9_hear_60 : decode cX9_hear 60 = .ok (.iload_n 3, 1) := by decide +kernel
theorem dX9_hear_61 : decode cX9_hear 61 = .ok (.invokestatic 81, 3) := by decide +kernel
theorem dX9_hear_64 : decode cX9_hear 64 = .ok (.istore 6, 2) := by decide +kernel
theorem dX9_hear_66 : decode cX9_hear 66 = .ok (.aload_n 1, 1) := by decide +kernel
theorem dX9_hear_67 : decode cX9_hear 67 = .ok (.iload_n 2, 1) := by decide +kernel
theorem dX9_hear_68 : decode cX9_hear 68 = .ok (.aload_n 1, 1) := by decide +kernel
theorem dX9_hear_69 : decode cX9_hear 69 = .ok (.getfield 62, 3) := by decide +kernel
theorem dX9_hear_72 : decode cX9_hear 72 = .ok (.iload 6, 2) := by decide +kernel
theorem dX9_hear_74 : decode cX9_hear 74 = .ok (.iaload, 1) := by decide +kernel
theorem dX9_hear_75 : decode cX9_hear 75 = .ok (.aload_n 0, 1) := by decide +kernel
theorem dX9_hear_76 : decode cX9_hear 76 = .ok (.getfield 13, 3) := by decide +kernel
theorem dX9_hear_79 : decode cX9_hear 79 = .ok (.iconst 1, 1) := by decide +kernel
theorem dX9_hear_80 : decode cX9_hear 80 = .ok (.aaload, 1) := by decide +kernel
theorem dX9_hear_81 : decode cX9_hear 81 = .ok (.iload 6, 2) := by decide +kernel
theorem dX9_hear_83 : decode cX9_hear 83 = .ok (.iaload, 1) := by decide +kernel
theorem dX9_hear_84 : decode cX9_hear 84 = .ok (.invokestatic 84, 3) := by decide +kernel
theorem dX9_hear_87 : decode cX9_hear 87 = .ok (.iload 6, 2) := by decide +kernel
theorem dX9_hear_89 : decode cX9_hear 89 = .ok (.invokevirtual 90, 3) := by decide +kernel
theorem dX9_hear_92 : decode cX9_hear 92 = .ok (.aload_n 1, 1) := by decide +kernel
theorem dX9_hear_93 : decode cX9_hear 93 = .ok (.iload_n 2, 1) := by decide +kernel
theorem dX9_hear_94 : decode cX9_hear 94 = .ok (.iload 5, 2) := by decide +kernel
theorem dX9_hear_96 : decode cX9_hear 96 = .ok (.ifCond .eq 7, 3) := by decide +kernel
theorem dX9_hear_99 : decode cX9_hear 99 = .ok (.iconst 1, 1) := by decide +kernel
theorem dX9_hear_100 : decode cX9_hear 100 = .ok (.goto 4, 3) := by decide +kernel
theorem dX9_hear_103 : decode cX9_hear 103 = .ok (.iconst 2, 1) := by decide +kernel
theorem dX9_hear_104 : decode cX9_hear 104 = .ok (.iload 4, 2) := by decide +kernel
theorem dX9_hear_106 : decode cX9_hear 106 = .ok (.invokevirtual 94, 3) := by decide +kernel
theorem dX9_hear_109 : decode cX9_hear 109 = .ok (.goto 16, 3) := by decide +kernel
theorem dX9_hear_112 : decode cX9_hear 112 = .ok (.iload 5, 2) := by decide +kernel
theorem dX9_hear_114 : decode cX9_hear 114 = .ok (.ifCond .eq 11, 3) := by decide +kernel
theorem dX9_hear_117 : decode cX9_hear 117 = .ok (.aload_n 1, 1) := by decide +kernel
theorem dX9_hear_118 : decode cX9_hear 118 = .ok (.iload_n 2, 1) := by decide +kernel
theorem dX9_hear_119 : decode cX9_hear 119 = .ok (.iconst 1, 1) := by decide +kernel
theorem dX9_hear_120 : decode cX9_hear 120 = .ok (.iload 4, 2) := by decide +kernel
theorem dX9_hear_122 : decode cX9_hear 122 = .ok (.invokevirtual 94, 3) := by decide +kernel
theorem dX9_hear_125 : decode cX9_hear 125 = .ok (.return_, 1) := by decide +kernel
theorem dX9_fade_0 : decode cX9_fade 0 = .ok (.aload_n 1, 1) := by decide +kernel
theorem dX9_fade_1 : decode cX9_fade 1 = .ok (.iload_n 2, 1) := by decide +kernel
theorem dX9_fade_2 : decode cX9_fade 2 = .ok (.invokevirtual 77, 3) := by decide +kernel
theorem dX9_fade_5 : decode cX9_fade 5 = .ok (.ifCond .ne 23, 3) := by decide +kernel
theorem dX9_fade_8 : decode cX9_fade 8 = .ok (.iload_n 3, 1) := by decide +kernel
theorem dX9_fade_9 : decode cX9_fade 9 = .ok (.aload_n 1, 1) := by decide +kernel
theorem dX9_fade_10 : decode cX9_fade 10 = .ok (.getfield 69, 3) := by decide +kernel
theorem dX9_fade_13 : decode cX9_fade 13 = .ok (.iload_n 2, 1) := by decide +kernel
theorem dX9_fade_14 : decode cX9_fade 14 = .ok (.iaload, 1) := by decide +kernel
theorem dX9_fade_15 : decode cX9_fade 15 = .ok (.isub, 1) := by decide +kernel
theorem dX9_fade_16 : decode cX9_fade 16 = .ok (.bipush 48, 2) := by decide +kernel
theorem dX9_fade_18 : decode cX9_fade 18 = .ok (.if_icmp .lt 10, 3) := by decide +kernel
theorem dX9_fade_21 : decode cX9_fade 21 = .ok (.aload_n 1, 1) := by decide +kernel
theorem dX9_fade_22 : decode cX9_fade 22 = .ok (.iload_n 2, 1) := by decide +kernel
theorem dX9_fade_23 : decode cX9_fade 23 = .ok (.iconst 3, 1) := by decide +kernel
theorem dX9_fade_24 : decode cX9_fade 24 = .ok (.iload_n 3, 1) := by decide +kernel
theorem dX9_fade_25 : decode cX9_fade 25 = .ok (.invokevirtual 94, 3) := by decide +kernel
theorem dX9_fade_28 : decode cX9_fade 28 = .ok (.return_, 1) := by decide +kernel
theorem dX9_leastOf_0 : decode cX9_leastOf 0 = .ok (.iload_n 0, 1) := by decide +kernel
theorem dX9_leastOf_1 : decode cX9_leastOf 1 = .ok (.iload_n 0, 1) := by decide +kernel
theorem dX9_leastOf_2 : decode cX9_leastOf 2 = .ok (.ineg, 1) := by decide +kernel
theorem dX9_leastOf_3 : decode cX9_leastOf 3 = .ok (.iand, 1) := by decide +kernel
theorem dX9_leastOf_4 : decode cX9_leastOf 4 = .ok (.iconst 1, 1) := by decide +kernel
theorem dX9_leastOf_5 : decode cX9_leastOf 5 = .ok (.isub, 1) := by decide +kernel
theorem dX9_leastOf_6 : decode cX9_leastOf 6 = .ok (.invokestatic 72, 3) := by decide +kernel
theorem dX9_leastOf_9 : decode cX9_leastOf 9 = .ok (.ireturn, 1) := by decide +kernel
theorem dX9_weightOf_0 : decode cX9_weightOf 0 = .ok (.aload_n 0, 1) := by decide +kernel
theorem dX9_weightOf_1 : decode cX9_weightOf 1 = .ok (.getfield 16, 3) := by decide +kernel
theorem dX9_weightOf_4 : decode cX9_weightOf 4 = .ok (.iload_n 1, 1) := by decide +kernel
theorem dX9_weightOf_5 : decode cX9_weightOf 5 = .ok (.iconst 1, 1) := by decide +kernel
theorem dX9_weightOf_6 : decode cX9_weightOf 6 = .ok (.invokestatic 97, 3) := by decide +kernel
theorem dX9_weightOf_9 : decode cX9_weightOf 9 = .ok (.iaload, 1) := by decide +kernel
theorem dX9_weightOf_10 : decode cX9_weightOf 10 = .ok (.ireturn, 1) := by decide +kernel
theorem dX9_harmOf_0 : decode cX9_harmOf 0 = .ok (.iconst 0, 1) := by decide +kernel
theorem dX9_harmOf_1 : decode cX9_harmOf 1 = .ok (.istore_n 2, 1) := by decide +kernel
theorem dX9_harmOf_2 : decode cX9_harmOf 2 = .ok (.iconst 0, 1) := by decide +kernel
theorem dX9_harmOf_3 : decode cX9_harmOf 3 = .ok (.istore_n 3, 1) := by decide +kernel
theorem dX9_harmOf_4 : decode cX9_harmOf 4 = .ok (.iload_n 3, 1) := by decide +kernel
theorem dX9_harmOf_5 : decode cX9_harmOf 5 = .ok (.aload_n 0, 1) := by decide +kernel
theorem dX9_harmOf_6 : decode cX9_harmOf 6 = .ok (.getfield 33, 3) := by decide +kernel
theorem dX9_harmOf_9 : decode cX9_harmOf 9 = .ok (.if_icmp .ge 32, 3) := by decide +kernel
theorem dX9_harmOf_12 : decode cX9_harmOf 12 = .ok (.aload_n 1, 1) := by decide +kernel
theorem dX9_harmOf_13 : decode cX9_harmOf 13 = .ok (.getfield 57, 3) := by decide +kernel
theorem dX9_harmOf_16 : decode cX9_harmOf 16 = .ok (.iload_n 3, 1) := by decide +kernel
theorem dX9_harmOf_17 : decode cX9_harmOf 17 = .ok (.iaload, 1) := by decide +kernel
theorem dX9_harmOf_18 : decode cX9_harmOf 18 = .ok (.iconst 1, 1) := by decide +kernel
theorem dX9_harmOf_19 : decode cX9_harmOf 19 = .ok (.if_icmp .ne 16, 3) := by decide +kernel
theorem dX9_harmOf_22 : decode cX9_harmOf 22 = .ok (.iload_n 2, 1) := by decide +kernel
theorem dX9_harmOf_23 : decode cX9_harmOf 23 = .ok (.aload_n 0, 1) := by decide +kernel
theorem dX9_harmOf_24 : decode cX9_harmOf 24 = .ok (.aload_n 1, 1) := by decide +kernel
theorem dX9_harmOf_25 : decode cX9_harmOf 25 = .ok (.getfield 62, 3) := by decide +kernel
theorem dX9_harmOf_28 : decode cX9_harmOf 28 = .ok (.iload_n 3, 1) := by decide +kernel
theorem dX9_harmOf_29 : decode cX9_harmOf 29 = .ok (.iaload, 1) := by decide +kernel
theorem dX9_harmOf_30 : decode cX9_harmOf 30 = .ok (.invokevirtual 65, 3) := by decide +kernel
theorem dX9_harmOf_33 : decode cX9_harmOf 33 = .ok (.iadd, 1) := by decide +kernel
theorem dX9_harmOf_34 : decode cX9_harmOf 34 = .ok (.istore_n 2, 1) := by decide +kernel
theorem dX9_harmOf_35 : decode cX9_harmOf 35 = .ok (.iinc 3 1, 3) := by decide +kernel
theorem dX9_harmOf_38 : decode cX9_harmOf 38 = .ok (.goto (-34), 3) := by decide +kernel
theorem dX9_harmOf_41 : decode cX9_harmOf 41 = .ok (.iload_n 2, 1) := by decide +kernel
theorem dX9_harmOf_42 : decode cX9_harmOf 42 = .ok (.ireturn, 1) := by decide +kernel
theorem dX9_print_0 : decode cX9_print 0 = .ok (.iconst 0, 1) := by decide +kernel
theorem dX9_print_1 : decode cX9_print 1 = .ok (.istore 5, 2) := by decide +kernel
theorem dX9_print_3 : decode cX9_print 3 = .ok (.iconst 0, 1) := by decide +kernel
theorem dX9_print_4 : decode cX9_print 4 = .ok (.istore 6, 2) := by decide +kernel
theorem dX9_print_6 : decode cX9_print 6 = .ok (.iload 6, 2) := by decide +kernel
theorem dX9_print_8 : decode cX9_print 8 = .ok (.aload_n 0, 1) := by decide +kernel
theorem dX9_print_9 : decode cX9_print 9 = .ok (.getfield 33, 3) := by decide +kernel
theorem dX9_print_12 : decode cX9_print 12 = .ok (.if_icmp .ge 87, 3) := by decide +kernel
theorem dX9_print_15 : decode cX9_print 15 = .ok (.iload_n 3, 1) := by decide +kernel
theorem dX9_print_16 : decode cX9_print 16 = .ok (.iconst 2, 1) := by decide +kernel
theorem dX9_print_17 : decode cX9_print 17 = .ok (.if_icmp .ne 16, 3) := by decide +kernel
theorem dX9_print_20 : decode cX9_print 20 = .ok (.aload_n 1, 1) := by decide +kernel
theorem dX9_print_21 : decode cX9_print 21 = .ok (.iload 6, 2) := by decide +kernel
theorem dX9_print_23 : decode cX9_print 23 = .ok (.invokevirtual 77, 3) := by decide +kernel
theorem dX9_print_26 : decode cX9_print 26 = .ok (.ifCond .eq 7, 3) := by decide +kernel
theorem dX9_print_29 : decode cX9_print 29 = .ok (.iconst 1, 1) := by decide +kernel
theorem dX9_print_30 : decode cX9_print 30 = .ok (.goto 4, 3) := by decide +kernel
theorem dX9_print_33 : decode cX9_print 33 = .ok (.iconst 0, 1) := by decide +kernel
theorem dX9_print_34 : decode cX9_print 34 = .ok (.istore 7, 2) := by decide +kernel
theorem dX9_print_36 : decode cX9_print 36 = .ok (.aload_n 0, 1) := by decide +kernel
theorem dX9_print_37 : decode cX9_print 37 = .ok (.getfield 13, 3) := by decide +kernel
theorem dX9_print_40 : decode cX9_print 40 = .ok (.iconst 2, 1) := by decide +kernel
theorem dX9_print_41 : decode cX9_print 41 = .ok (.aaload, 1) := by decide +kernel
theorem dX9_print_42 : decode cX9_print 42 = .ok (.iload 6, 2) := by decide +kernel
theorem dX9_print_44 : decode cX9_print 44 = .ok (.iaload, 1) := by decide +kernel
theorem dX9_print_45 : decode cX9_print 45 = .ok (.iconst 1, 1) := by decide +kernel
theorem dX9_print_46 : decode cX9_print 46 = .ok (.if_icmp .ne 47, 3) := by decide +kernel
theorem dX9_print_49 : decode cX9_print 49 = .ok (.iload 7, 2) := by decide +kernel
theorem dX9_print_51 : decode cX9_print 51 = .ok (.ifCond .ne 42, 3) := by decide +kernel
theorem dX9_print_54 : decode cX9_print 54 = .ok (.aload_n 1, 1) := by decide +kernel
theorem dX9_print_55 : decode cX9_print 55 = .ok (.getfield 57, 3) := by decide +kernel
theorem dX9_print_58 : decode cX9_print 58 = .ok (.iload 6, 2) := by decide +kernel
theorem dX9_print_60 : decode cX9_print 60 = .ok (.iaload, 1) := by decide +kernel
theorem dX9_print_61 : decode cX9_print 61 = .ok (.istore 8, 2) := by decide +kernel
theorem dX9_print_63 : decode cX9_print 63 = .ok (.aload_n 0, 1) := by decide +kernel
theorem dX9_print_64 : decode cX9_print 64 = .ok (.aload_n 1, 1) := by decide +kernel
theorem dX9_print_65 : decode cX9_print 65 = .ok (.iload 6, 2) := by decide +kernel
theorem dX9_print_67 : decode cX9_print 67 = .ok (.iload_n 2, 1) := by decide +kernel
theorem dX9_print_68 : decode cX9_print 68 = .ok (.getstatic 100, 3) := by decide +kernel
theorem dX9_print_71 : decode cX9_print 71 = .ok (.iload_n 3, 1) := by decide +kernel
theorem dX9_print_72 : decode cX9_print 72 = .ok (.iaload, 1) := by decide +kernel
theorem dX9_print_73 : decode cX9_print 73 = .ok (.iload 4, 2) := by decide +kernel
theorem dX9_print_75 : decode cX9_print 75 = .ok (.invokevirtual 103, 3) := by decide +kernel
theorem dX9_print_78 : decode cX9_print 78 = .ok (.aload_n 1, 1) := by decide +kernel
theorem dX9_print_79 : decode cX9_print 79 = .ok (.getfield 57, 3) := by decide +kernel
theorem dX9_print_82 : decode cX9_print 82 = .ok (.iload 6, 2) := by decide +kernel
theorem dX9_print_84 : decode cX9_print 84 = .ok (.iaload, 1) := by decide +kernel
theorem dX9_print_85 : decode cX9_print 85 = .ok (.iload 8, 2) := by decide +kernel
theorem dX9_print_87 : decode cX9_print 87 = .ok (.if_icmp .eq 6, 3) := by decide +kernel
theorem dX9_print_90 : decode cX9_print 90 = .ok (.iinc 5 1, 3) := by decide +kernel
theorem dX9_print_93 : decode cX9_print 93 = .ok (.iinc 6 1, 3) := by decide +kernel
theorem dX9_print_96 : decode cX9_print 96 = .ok (.goto (-90), 3) := by decide +kernel
theorem dX9_print_99 : decode cX9_print 99 = .ok (.iload 5, 2) := by decide +kernel
theorem dX9_print_101 : decode cX9_print 101 = .ok (.ireturn, 1) := by decide +kernel
theorem dX9_readDenial_0 : decode cX9_readDenial 0 = .ok (.aload_n 0, 1) := by decide +kernel
theorem dX9_readDenial_1 : decode cX9_readDenial 1 = .ok (.getfield 13, 3) := by decide +kernel
theorem dX9_readDenial_4 : decode cX9_readDenial 4 = .ok (.iconst 3, 1) := by decide +kernel
theorem dX9_readDenial_5 : decode cX9_readDenial 5 = .ok (.aaload, 1) := by decide +kernel
theorem dX9_readDenial_6 : decode cX9_readDenial 6 = .ok (.iload_n 2, 1) := by decide +kernel
theorem dX9_readDenial_7 : decode cX9_readDenial 7 = .ok (.iaload, 1) := by decide +kernel
theorem dX9_readDenial_8 : decode cX9_readDenial 8 = .ok (.istore 6, 2) := by decide +kernel
theorem dX9_readDenial_10 : decode cX9_readDenial 10 = .ok (.aload_n 0, 1) := by decide +kernel
theorem dX9_readDenial_11 : decode cX9_readDenial 11 = .ok (.getfield 13, 3) := by decide +kernel
theorem dX9_readDenial_14 : decode cX9_readDenial 14 = .ok (.iconst 0, 1) := by decide +kernel
theorem dX9_readDenial_15 : decode cX9_readDenial 15 = .ok (.aaload, 1) := by decide +kernel
theorem dX9_readDenial_16 : decode cX9_readDenial 16 = .ok (.iload_n 2, 1) := by decide +kernel
theorem dX9_readDenial_17 : decode cX9_readDenial 17 = .ok (.iaload, 1) := by decide +kernel
theorem dX9_readDenial_18 : decode cX9_readDenial 18 = .ok (.istore 7, 2) := by decide +kernel
theorem dX9_readDenial_20 : decode cX9_readDenial 20 = .ok (.aload_n 1, 1) := by decide +kernel
theorem dX9_readDenial_21 : decode cX9_readDenial 21 = .ok (.getfield 69, 3) := by decide +kernel
theorem dX9_readDenial_24 : decode cX9_readDenial 24 = .ok (.iload_n 2, 1) := by decide +kernel
theorem dX9_readDenial_25 : decode cX9_readDenial 25 = .ok (.iload 5, 2) := by decide +kernel
theorem dX9_readDenial_27 : decode cX9_readDenial 27 = .ok (.iastore, 1) := by decide +kernel
theorem dX9_readDenial_28 : decode cX9_readDenial 28 = .ok (.aload_n 1, 1) := by decide +kernel
theorem dX9_readDenial_29 : decode cX9_readDenial 29 = .ok (.iload_n 2, 1) := by decide +kernel
theorem dX9_readDenial_30 : decode cX9_readDenial 30 = .ok (.invokevirtual 77, 3) := by decide +kernel
theorem dX9_readDenial_33 : decode cX9_readDenial 33 = .ok (.ifCond .eq 36, 3) := by decide +kernel
theorem dX9_readDenial_36 : decode cX9_readDenial 36 = .ok (.aload_n 1, 1) := by decide +kernel
theorem dX9_readDenial_37 : decode cX9_readDenial 37 = .ok (.iload_n 2, 1) := by decide +kernel
theorem dX9_readDenial_38 : decode cX9_readDenial 38 = .ok (.iload_n 3, 1) := by decide +kernel
theorem dX9_readDenial_39 : decode cX9_readDenial 39 = .ok (.bipush 16, 2) := by decide +kernel
theorem dX9_readDenial_41 : decode cX9_readDenial 41 = .ok (.invokevirtual 90, 3) := by decide +kernel
theorem dX9_readDenial_44 : decode cX9_readDenial 44 = .ok (.aload_n 1, 1) := by decide +kernel
theorem dX9_readDenial_45 : decode cX9_readDenial 45 = .ok (.iload_n 2, 1) := by decide +kernel
theorem dX9_readDenial_46 : decode cX9_readDenial 46 = .ok (.bipush 10, 2) := by decide +kernel
theorem dX9_readDenial_48 : decode cX9_readDenial 48 = .ok (.iload 6, 2) := by decide +kernel
theorem dX9_readDenial_50 : decode cX9_readDenial 50 = .ok (.imul, 1) := by decide +kernel
theorem dX9_readDenial_51 : decode cX9_readDenial 51 = .ok (.iload 7, 2) := by decide +kernel
theorem dX9_readDenial_53 : decode cX9_readDenial 53 = .ok (.if_icmp .le 7, 3) := by decide +kernel
theorem dX9_readDenial_56 : decode cX9_readDenial 56 = .ok (.iconst 1, 1) := by decide +kernel
theorem dX9_readDenial_57 : decode cX9_readDenial 57 = .ok (.goto 4, 3) := by decide +kernel
theorem dX9_readDenial_60 : decode cX9_readDenial 60 = .ok (.iconst 2, 1) := by decide +kernel
theorem dX9_readDenial_61 : decode cX9_readDenial 61 = .ok (.iload 5, 2) := by decide +kernel
theorem dX9_readDenial_63 : decode cX9_readDenial 63 = .ok (.invokevirtual 94, 3) := by decide +kernel
theorem dX9_readDenial_66 : decode cX9_readDenial 66 = .ok (.goto 34, 3) := by decide +kernel
theorem dX9_readDenial_69 : decode cX9_readDenial 69 = .ok (.aload_n 1, 1) := by decide +kernel
theorem dX9_readDenial_70 : decode cX9_readDenial 70 = .ok (.getfield 57, 3) := by decide +kernel
theorem dX9_readDenial_73 : decode cX9_readDenial 73 = .ok (.iload_n 2, 1) := by decide +kernel
theorem dX9_readDenial_74 : decode cX9_readDenial 74 = .ok (.iaload, 1) := by decide +kernel
theorem dX9_readDenial_75 : decode cX9_readDenial 75 = .ok (.iconst 1, 1) := by decide +kernel
theorem dX9_readDenial_76 : decode cX9_readDenial 76 = .ok (.if_icmp .ne 24, 3) := by decide +kernel
theorem dX9_readDenial_79 : decode cX9_readDenial 79 = .ok (.iload 7, 2) := by decide +kernel
theorem dX9_readDenial_81 : decode cX9_readDenial 81 = .ok (.iload 4, 2) := by decide +kernel
theorem dX9_readDenial_83 : decode cX9_readDenial 83 = .ok (.imul, 1) := by decide +kernel
theorem dX9_readDenial_84 : decode cX9_readDenial 84 = .ok (.bipush 20, 2) := by decide +kernel
theorem dX9_readDenial_86 : decode cX9_readDenial 86 = .ok (.iload 6, 2) := by decide +kernel
theorem dX9_readDenial_88 : decode cX9_readDenial 88 = .ok (.imul, 1) := by decide +kernel
theorem dX9_readDenial_89 : decode cX9_readDenial 89 = .ok (.if_icmp .le 11, 3) := by decide +kernel
theorem dX9_readDenial_92 : decode cX9_readDenial 92 = .ok (.aload_n 1, 1) := by decide +kernel
theorem dX9_readDenial_93 : decode cX9_readDenial 93 = .ok (.iload_n 2, 1) := by decide +kernel
theorem dX9_readDenial_94 : decode cX9_readDenial 94 = .ok (.iconst 2, 1) := by decide +kernel
theorem dX9_readDenial_95 : decode cX9_readDenial 95 = .ok (.iload 5, 2) := by decide +kernel
theorem dX9_readDenial_97 : decode cX9_readDenial 97 = .ok (.invokevirtual 94, 3) := by decide +kernel
theorem dX9_readDenial_100 : decode cX9_readDenial 100 = .ok (.return_, 1) := by decide +kernel
theorem dX9_loseTrust_0 : decode cX9_loseTrust 0 = .ok (.iconst 0, 1) := by decide +kernel
theorem dX9_loseTrust_1 : decode cX9_loseTrust 1 = .ok (.istore_n 2, 1) := by decide +kernel
theorem dX9_loseTrust_2 : decode cX9_loseTrust 2 = .ok (.iload_n 2, 1) := by decide +kernel
theorem dX9_loseTrust_3 : decode cX9_loseTrust 3 = .ok (.aload_n 0, 1) := by decide +kernel
theorem dX9_loseTrust_4 : decode cX9_loseTrust 4 = .ok (.getfield 33, 3) := by decide +kernel
theorem dX9_loseTrust_7 : decode cX9_loseTrust 7 = .ok (.if_icmp .ge 46, 3) := by decide +kernel
theorem dX9_loseTrust_10 : decode cX9_loseTrust 10 = .ok (.aload_n 0, 1) := by decide +kernel
theorem dX9_loseTrust_11 : decode cX9_loseTrust 11 = .ok (.getfield 13, 3) := by decide +kernel
theorem dX9_loseTrust_14 : decode cX9_loseTrust 14 = .ok (.iconst 2, 1) := by decide +kernel
theorem dX9_loseTrust_15 : decode cX9_loseTrust 15 = .ok (.aaload, 1) := by decide +kernel
theorem dX9_loseTrust_16 : decode cX9_loseTrust 16 = .ok (.iload_n 2, 1) := by decide +kernel
theorem dX9_loseTrust_17 : decode cX9_loseTrust 17 = .ok (.iaload, 1) := by decide +kernel
theorem dX9_loseTrust_18 : decode cX9_loseTrust 18 = .ok (.iconst 1, 1) := by decide +kernel
theorem dX9_loseTrust_19 : decode cX9_loseTrust 19 = .ok (.if_icmp .ne 28, 3) := by decide +kernel
theorem dX9_loseTrust_22 : decode cX9_loseTrust 22 = .ok (.aload_n 0, 1) := by decide +kernel
theorem dX9_loseTrust_23 : decode cX9_loseTrust 23 = .ok (.getfield 13, 3) := by decide +kernel
theorem dX9_loseTrust_26 : decode cX9_loseTrust 26 = .ok (.iconst 0, 1) := by decide +kernel
theorem dX9_loseTrust_27 : decode cX9_loseTrust 27 = .ok (.aaload, 1) := by decide +kernel
theorem dX9_loseTrust_28 : decode cX9_loseTrust 28 = .ok (.iload_n 2, 1) := by decide +kernel
theorem dX9_loseTrust_29 : decode cX9_loseTrust 29 = .ok (.iconst 0, 1) := by decide +kernel
theorem dX9_loseTrust_30 : decode cX9_loseTrust 30 = .ok (.aload_n 0, 1) := by decide +kernel
theorem dX9_loseTrust_31 : decode cX9_loseTrust 31 = .ok (.getfield 13, 3) := by decide +kernel
theorem dX9_loseTrust_34 : decode cX9_loseTrust 34 = .ok (.iconst 0, 1) := by decide +kernel
theorem dX9_loseTrust_35 : decode cX9_loseTrust 35 = .ok (.aaload, 1) := by decide +kernel
theorem dX9_loseTrust_36 : decode cX9_loseTrust 36 = .ok (.iload_n 2, 1) := by decide +kernel
theorem dX9_loseTrust_37 : decode cX9_loseTrust 37 = .ok (.iaload, 1) := by decide +kernel
theorem dX9_loseTrust_38 : decode cX9_loseTrust 38 = .ok (.bipush 15, 2) := by decide +kernel
theorem dX9_loseTrust_40 : decode cX9_loseTrust 40 = .ok (.iload_n 1, 1) := by decide +kernel
theorem dX9_loseTrust_41 : decode cX9_loseTrust 41 = .ok (.imul, 1) := by decide +kernel
theorem dX9_loseTrust_42 : decode cX9_loseTrust 42 = .ok (.isub, 1) := by decide +kernel
theorem dX9_loseTrust_43 : decode cX9_loseTrust 43 = .ok (.invokestatic 107, 3) := by decide +kernel
theorem dX9_loseTrust_46 : decode cX9_loseTrust 46 = .ok (.iastore, 1) := by decide +kernel
theorem dX9_loseTrust_47 : decode cX9_loseTrust 47 = .ok (.iinc 2 1, 3) := by decide +kernel
theorem dX9_loseTrust_50 : decode cX9_loseTrust 50 = .ok (.goto (-48), 3) := by decide +kernel
theorem dX9_loseTrust_53 : decode cX9_loseTrust 53 = .ok (.return_, 1) := by decide +kernel
theorem dX10_init_0 : decode cX10_init 0 = .ok (.aload_n 0, 1) := by decide +kernel
theorem dX10_init_1 : decode cX10_init 1 = .ok (.invokespecial 1, 3) := by decide +kernel
theorem dX10_init_4 : decode cX10_init 4 = .ok (.aload_n 0, 1) := by decide +kernel
theorem dX10_init_5 : decode cX10_init 5 = .ok (.new 7, 3) := by decide +kernel
theorem dX10_init_8 : decode cX10_init 8 = .ok (.dup, 1) := by decide +kernel
theorem dX10_init_9 : decode cX10_init 9 = .ok (.invokespecial 9, 3) := by decide +kernel
theorem dX10_init_12 : decode cX10_init 12 = .ok (.putfield 10, 3) := by decide +kernel
theorem dX10_init_15 : decode cX10_init 15 = .ok (.aload_n 0, 1) := by decide +kernel
theorem dX10_init_16 : decode cX10_init 16 = .ok (.bipush 8, 2) := by decide +kernel
theorem dX10_init_18 : decode cX10_init 18 = .ok (.anewarray 16, 3) := by decide +kernel
theorem dX10_init_21 : decode cX10_init 21 = .ok (.putfield 18, 3) := by decide +kernel
theorem dX10_init_24 : decode cX10_init 24 = .ok (.aload_n 0, 1) := by decide +kernel
theorem dX10_init_25 : decode cX10_init 25 = .ok (.new 22, 3) := by decide +kernel
theorem dX10_init_28 : decode cX10_init 28 = .ok (.dup, 1) := by decide +kernel
theorem dX10_init_29 : decode cX10_init 29 = .ok (.invokespecial 24, 3) := by decide +kernel
theorem dX10_init_32 : decode cX10_init 32 = .ok (.putfield 25, 3) := by decide +kernel
theorem dX10_init_35 : decode cX10_init 35 = .ok (.aload_n 0, 1) := by decide +kernel
theorem dX10_init_36 : decode cX10_init 36 = .ok (.new 29, 3) := by decide +kernel
theorem dX10_init_39 : decode cX10_init 39 = .ok (.dup, 1) := by decide +kernel
theorem dX10_init_40 : decode cX10_init 40 = .ok (.invokespecial 31, 3) := by decide +kernel
theorem dX10_init_43 : decode cX10_init 43 = .ok (.putfield 32, 3) := by decide +kernel
theorem dX10_init_46 : decode cX10_init 46 = .ok (.aload_n 0, 1) := by decide +kernel
theorem dX10_init_47 : decode cX10_init 47 = .ok (.new 36, 3) := by decide +kernel
theorem dX10_init_50 : decode cX10_init 50 = .ok (.dup, 1) := by decide +kernel
theorem dX10_init_51 : decode cX10_init 51 = .ok (.invokespecial 38, 3) := by decide +kernel
theorem dX10_init_54 : decode cX10_init 54 = .ok (.putfield 39, 3) := by decide +kernel
theorem dX10_init_57 : decode cX10_init 57 = .ok (.aload_n 0, 1) := by decide +kernel
theorem dX10_init_58 : decode cX10_init 58 = .ok (.new 43, 3) := by decide +kernel
theorem dX10_init_61 : decode cX10_init 61 = .ok (.dup, 1) := by decide +kernel
theorem dX10_init_62 : decode cX10_init 62 = .ok (.invokespecial 45, 3) := by decide +kernel
theorem dX10_init_65 : decode cX10_init 65 = .ok (.putfield 46, 3) := by decide +kernel
theorem dX10_init_68 : decode cX10_init 68 = .ok (.aload_n 0, 1) := by decide +kernel
theorem dX10_init_69 : decode cX10_init 69 = .ok (.new 50, 3) := by decide +kernel
theorem dX10_init_72 : decode cX10_init 72 = .ok (.dup, 1) := by decide +kernel
theorem dX10_init_73 : decode cX10_init 73 = .ok (.invokespecial 52, 3) := by decide +kernel
theorem dX10_init_76 : decode cX10_init 76 = .ok (.putfield 53, 3) := by decide +kernel
theorem dX10_init_79 : decode cX10_init 79 = .ok (.aload_n 0, 1) := by decide +kernel
theorem dX10_init_80 : decode cX10_init 80 = .ok (.iconst 4, 1) := by decide +kernel
theorem dX10_init_81 : decode cX10_init 81 = .ok (.anewarray 57, 3) := by decide +kernel
theorem dX10_init_84 : decode cX10_init 84 = .ok (.putfield 59, 3) := by decide +kernel
theorem dX10_init_87 : decode cX10_init 87 = .ok (.aload_n 0, 1) := by decide +kernel
theorem dX10_init_88 : decode cX10_init 88 = .ok (.new 63, 3) := by decide +kernel
theorem dX10_init_91 : decode cX10_init 91 = .ok (.dup, 1) := by decide +kernel
theorem dX10_init_92 : decode cX10_init 92 = .ok (.invokespecial 65, 3) := by decide +kernel
theorem dX10_init_95 : decode cX10_init 95 = .ok (.putfield 66, 3) := by decide +kernel
theorem dX10_init_98 : decode cX10_init 98 = .ok (.aload_n 0, 1) := by decide +kernel
theorem dX10_init_99 : decode cX10_init 99 = .ok (.new 63, 3) := by decide +kernel
theorem dX10_init_102 : decode cX10_init 102 = .ok (.dup, 1) := by decide +kernel
theorem dX10_init_103 : decode cX10_init 103 = .ok (.invokespecial 65, 3) := by decide +kernel
theorem dX10_init_106 : decode cX10_init 106 = .ok (.putfield 70, 3) := by decide +kernel
theorem dX10_init_109 : decode cX10_init 109 = .ok (.iconst 0, 1) := by decide +kernel
theorem dX10_init_110 : decode cX10_init 110 = .ok (.istore_n 1, 1) := by decide +kernel
theorem dX10_init_111 : decode cX10_init 111 = .ok (.iload_n 1, 1) := by decide +kernel
theorem dX10_init_112 : decode cX10_init 112 = .ok (.bipush 8, 2) := by decide +kernel
theorem dX10_init_114 : decode cX10_init 114 = .ok (.if_icmp .ge 22, 3) := by decide +kernel
theorem dX10_init_117 : decode cX10_init 117 = .ok (.aload_n 0, 1) := by decide +kernel
theorem dX10_init_118 : decode cX10_init 118 = .ok (.getfield 18, 3) := by decide +kernel
theorem dX10_init_121 : decode cX10_init 121 = .ok (.iload_n 1, 1) := by decide +kernel
theorem dX10_init_122 : decode cX10_init 122 = .ok (.new 16, 3) := by decide +kernel
theorem dX10_init_125 : decode cX10_init 125 = .ok (.dup, 1) := by decide +kernel
theorem dX10_init_126 : decode cX10_init 126 = .ok (.invokespecial 73, 3) := by decide +kernel
theorem dX10_init_129 : decode cX10_init 129 = .ok (.aastore, 1) := by decide +kernel
theorem dX10_init_130 : decode cX10_init 130 = .ok (.iinc 1 1, 3) := by decide +kernel
theorem dX10_init_133 : decode cX10_init 133 = .ok (.goto (-22), 3) := by decide +kernel
theorem dX10_init_136 : decode cX10_init 136 = .ok (.iconst 0, 1) := by decide +kernel
theorem dX10_init_137 : decode cX10_init 137 = .ok (.istore_n 1, 1) := by decide +kernel
theorem dX10_init_138 : decode cX10_init 138 = .ok (.iload_n 1, 1) := by decide +kernel
theorem dX10_init_139 : decode cX10_init 139 = .ok (.iconst 4, 1) := by decide +kernel
theorem dX10_init_140 : decode cX10_init 140 = .ok (.if_icmp .ge 22, 3) := by decide +kernel
theorem dX10_init_143 : decode cX10_init 143 = .ok (.aload_n 0, 1) := by decide +kernel
theorem dX10_init_144 : decode cX10_init 144 = .ok (.getfield 59, 3) := by decide +kernel
theorem dX10_init_147 : decode cX10_init 147 = .ok (.iload_n 1, 1) := by decide +kernel
theorem dX10_init_148 : decode cX10_init 148 = .ok (.new 57, 3) := by decide +kernel
theorem dX10_init_151 : decode cX10_init 151 = .ok (.dup, 1) := by decide +kernel
theorem dX10_init_152 : decode cX10_init 152 = .ok (.invokespecial 74, 3) := by decide +kernel
theorem dX10_init_155 : decode cX10_init 155 = .ok (.aastore, 1) := by decide +kernel
theorem dX10_init_156 : decode cX10_init 156 = .ok (.iinc 1 1, 3) := by decide +kernel
theorem dX10_init_159 : decode cX10_init 159 = .ok (.goto (-21), 3) := by decide +kernel
theorem dX10_init_162 : decode cX10_init 162 = .ok (.return_, 1) := by decide +kernel
theorem dX10_person_0 : decode cX10_person 0 = .ok (.iload_n 1, 1) := by decide +kernel
theorem dX10_person_1 : decode cX10_person 1 = .ok (.iconst 5, 1) := by decide +kernel
theorem dX10_person_2 : decode cX10_person 2 = .ok (.invokestatic 75, 3) := by decide +kernel
theorem dX10_person_5 : decode cX10_person 5 = .ok (.ifCond .eq 37, 3) := by decide +kernel
theorem dX10_person_8 : decode cX10_person 8 = .ok (.iload_n 2, 1) := by decide +kernel
theorem dX10_person_9 : decode cX10_person 9 = .ok (.iconst 5, 1) := by decide +kernel
theorem dX10_person_10 : decode cX10_person 10 = .ok (.invokestatic 75, 3) := by decide +kernel
theorem dX10_person_13 : decode cX10_person 13 = .ok (.ifCond .eq 29, 3) := by decide +kernel
theorem dX10_person_16 : decode cX10_person 16 = .ok (.iload_n 3, 1) := by decide +kernel
theorem dX10_person_17 : decode cX10_person 17 = .ok (.iconst 5, 1) := by decide +kernel
theorem dX10_person_18 : decode cX10_person 18 = .ok (.invokestatic 75, 3) := by decide +kernel
theorem dX10_person_21 : decode cX10_person 21 = .ok (.ifCond .eq 21, 3) := by decide +kernel
theorem dX10_person_24 : decode cX10_person 24 = .ok (.iconst 3, 1) := by decide +kernel
theorem dX10_person_25 : decode cX10_person 25 = .ok (.iload 4, 2) := by decide +kernel
theorem dX10_person_27 : decode cX10_person 27 = .ok (.invokestatic 79, 3) := by decide +kernel
theorem dX10_person_30 : decode cX10_person 30 = .ok (.ifCond .eq 12, 3) := by decide +kernel
theorem dX10_person_33 : decode cX10_person 33 = .ok (.iconst 4, 1) := by decide +kernel
theorem dX10_person_34 : decode cX10_person 34 = .ok (.iload 5, 2) := by decide +kernel
theorem dX10_person_36 : decode cX10_person 36 = .ok (.invokestatic 79, 3) := by decide +kernel
theorem dX10_person_39 : decode cX10_person 39 = .ok (.ifCond .ne 5, 3) := by decide +kernel
theorem dX10_person_42 : decode cX10_person 42 = .ok (.iconst (-1), 1) := by decide +kernel
theorem dX10_person_43 : decode cX10_person 43 = .ok (.ireturn, 1) := by decide +kernel
theorem dX10_person_44 : decode cX10_person 44 = .ok (.aload_n 0, 1) := by decide +kernel
theorem dX10_person_45 : decode cX10_person 45 = .ok (.getfield 10, 3) := by decide +kernel
theorem dX10_person_48 : decode cX10_person 48 = .ok (.getfield 82, 3) := by decide +kernel
theorem dX10_person_51 : decode cX10_person 51 = .ok (.bipush 16, 2) := by decide +kernel
theorem dX10_person_53 : decode cX10_person 53 = .ok (.if_icmp .lt 6, 3) := by decide +kernel
theorem dX10_person_56 : decode cX10_person 56 = .ok (.bipush (-3), 2) := by decide +kernel
theorem dX10_person_58 : decode cX10_person 58 = .ok (.ireturn, 1) := by decide +kernel
theorem dX10_person_59 : decode cX10_person 59 = .ok (.aload_n 0, 1) := by decide +kernel
theorem dX10_person_60 : decode cX10_person 60 = .ok (.getfield 10, 3) := by decide +kernel
theorem dX10_person_63 : decode cX10_person 63 = .ok (.iload_n 1, 1) := by decide +kernel
theorem dX10_person_64 : decode cX10_person 64 = .ok (.iload_n 2, 1) := by decide +kernel
theorem dX10_person_65 : decode cX10_person 65 = .ok (.iload_n 3, 1) := by decide +kernel
theorem dX10_person_66 : decode cX10_person 66 = .ok (.iload 4, 2) := by decide +kernel
theorem dX10_person_68 : decode cX10_person 68 = .ok (.iload 5, 2) := by decide +kernel
theorem dX10_person_70 : decode cX10_person 70 = .ok (.invokevirtual 86, 3) := by decide +kernel
theorem dX10_person_73 : decode cX10_person 73 = .ok (.ireturn, 1) := by decide +kernel
theorem dX10_set_0 : decode cX10_set 0 = .ok (.aload_n 0, 1) := by decide +kernel
theorem dX10_set_1 : decode cX10_set 1 = .ok (.iload_n 1, 1) := by decide +kernel
theorem dX10_set_2 : decode cX10_set 2 = .ok (.invokevirtual 90, 3) := by decide +kernel
theorem dX10_set_5 : decode cX10_set 5 = .ok (.ifCond .eq 11, 3) := by decide +kernel
theorem dX10_set_8 : decode cX10_set 8 = .ok (.iload_n 2, 1) := by decide +kernel
theorem dX10_set_9 : decode cX10_set 9 = .ok (.iload_n 3, 1) := by decide +kernel
theorem dX10_set_10 : decode cX10_set 10 = .ok (.invokestatic 79, 3) := by decide +kernel
theorem dX10_set_13 : decode cX10_set 13 = .ok (.ifCond .ne 5, 3) := by decide +kernel
theorem dX10_set_16 : decode cX10_set 16 = .ok (.iconst (-1), 1) := by decide +kernel
theorem dX10_set_17 : decode cX10_set 17 = .ok (.ireturn, 1) := by decide +kernel
theorem dX10_set_18 : decode cX10_set 18 = .ok (.aload_n 0, 1) := by decide +kernel
theorem dX10_set_19 : decode cX10_set 19 = .ok (.getfield 10, 3) := by decide +kernel
theorem dX10_set_22 : decode cX10_set 22 = .ok (.getfield 94, 3) := by decide +kernel
theorem dX10_set_25 : decode cX10_set 25 = .ok (.iload_n 2, 1) := by decide +kernel
theorem dX10_set_26 : decode cX10_set 26 = .ok (.aaload, 1) := by decide +kernel
theorem dX10_set_27 : decode cX10_set 27 = .ok (.iload_n 1, 1) := by decide +kernel
theorem dX10_set_28 : decode cX10_set 28 = .ok (.iaload, 1) := by decide +kernel
theorem dX10_set_29 : decode cX10_set 29 = .ok (.istore 4, 2) := by decide +kernel
theorem dX10_set_31 : decode cX10_set 31 = .ok (.aload_n 0, 1) := by decide +kernel
theorem dX10_set_32 : decode cX10_set 32 = .ok (.getfield 10, 3) := by decide +kernel
theorem dX10_set_35 : decode cX10_set 35 = .ok (.getfield 94, 3) := by decide +kernel
theorem dX10_set_38 : decode cX10_set 38 = .ok (.iload_n 2, 1) := by decide +kernel
theorem dX10_set_39 : decode cX10_set 39 = .ok (.aaload, 1) := by decide +kernel
theorem dX10_set_40 : decode cX10_set 40 = .ok (.iload_n 1, 1) := by decide +kernel
theorem dX10_set_41 : decode cX10_set 41 = .ok (.iload_n 3, 1) := by decide +kernel
theorem dX10_set_42 : decode cX10_set 42 = .ok (.iastore, 1) := by decide +kernel
theorem dX10_set_43 : decode cX10_set 43 = .ok (.iload 4, 2) := by decide +kernel
theorem dX10_set_45 : decode cX10_set 45 = .ok (.ireturn, 1) := by decide +kernel
theorem dX10_where_0 : decode cX10_where 0 = .ok (.aload_n 0, 1) := by decide +kernel
theorem dX10_where_1 : decode cX10_where 1 = .ok (.iload_n 1, 1) := by decide +kernel
theorem dX10_where_2 : decode cX10_where 2 = .ok (.invokevirtual 90, 3) := by decide +kernel
theorem dX10_where_5 : decode cX10_where 5 = .ok (.ifCond .eq 13, 3) := by decide +kernel
theorem dX10_where_8 : decode cX10_where 8 = .ok (.iload_n 2, 1) := by decide +kernel
theorem dX10_where_9 : decode cX10_where 9 = .ok (.sipush 9999, 3) := by decide +kernel
theorem dX10_where_12 : decode cX10_where 12 = .ok (.invokestatic 75, 3) := by decide +kernel
theorem dX10_where_15 : decode cX10_where 15 = .ok (.ifCond .ne 5, 3) := by decide +kernel
theorem dX10_where_18 : decode cX10_where 18 = .ok (.iconst (-1), 1) := by decide +kernel
theorem dX10_where_19 : decode cX10_where 19 = .ok (.ireturn, 1) := by decide +kernel
theorem dX10_where_20 : decode cX10_where 20 = .ok (.aload_n 0, 1) := by decide +kernel
theorem dX10_where_21 : decode cX10_where 21 = .ok (.getfield 10, 3) := by decide +kernel
theorem dX10_where_24 : decode cX10_where 24 = .ok (.iload_n 2, 1) := by decide +kernel
theorem dX10_where_25 : decode cX10_where 25 = .ok (.invokevirtual 98, 3) := by decide +kernel
theorem dX10_where_28 : decode cX10_where 28 = .ok (.iload_n 1, 1) := by decide +kernel
theorem dX10_where_29 : decode cX10_where 29 = .ok (.iaload, 1) := by decide +kernel
theorem dX10_where_30 : decode cX10_where 30 = .ok (.ireturn, 1) := by decide +kernel
theorem dX10_plain_0 : decode cX10_plain 0 = .ok (.iload_n 1, 1) := by decide +kernel
theorem dX10_plain_1 : decode cX10_plain 1 = .ok (.iload_n 2, 1) := by decide +kernel
theorem dX10_plain_2 : decode cX10_plain 2 = .ok (.iload_n 3, 1) := by decide +kernel
theorem dX10_plain_3 : decode cX10_plain 3 = .ok (.iload 4, 2) := by decide +kernel
theorem dX10_plain_5 : decode cX10_plain 5 = .ok (.invokestatic 102, 3) := by decide +kernel
theorem dX10_plain_8 : decode cX10_plain 8 = .ok (.ifCond .ne 5, 3) := by decide +kernel
theorem dX10_plain_11 : decode cX10_plain 11 = .ok (.iconst (-1), 1) := by decide +kernel
theorem dX10_plain_12 : decode cX10_plain 12 = .ok (.ireturn, 1) := by decide +kernel
theorem dX10_plain_13 : decode cX10_plain 13 = .ok (.aload_n 0, 1) := by decide +kernel
theorem dX10_plain_14 : decode cX10_plain 14 = .ok (.iconst 0, 1) := by decide +kernel
theorem dX10_plain_15 : decode cX10_plain 15 = .ok (.iload_n 1, 1) := by decide +kernel
theorem dX10_plain_16 : decode cX10_plain 16 = .ok (.iload_n 2, 1) := by decide +kernel
theorem dX10_plain_17 : decode cX10_plain 17 = .ok (.iload_n 3, 1) := by decide +kernel
theorem dX10_plain_18 : decode cX10_plain 18 = .ok (.iload 4, 2) := by decide +kernel
theorem dX10_plain_20 : decode cX10_plain 20 = .ok (.invokestatic 106, 3) := by decide +kernel
theorem dX10_plain_23 : decode cX10_plain 23 = .ok (.invokevirtual 112, 3) := by decide +kernel
theorem dX10_plain_26 : decode cX10_plain 26 = .ok (.ireturn, 1) := by decide +kernel
theorem dX10_changed_0 : decode cX10_changed 0 = .ok (.aload_n 0, 1) := by decide +kernel
theorem dX10_changed_1 : decode cX10_changed 1 = .ok (.iload_n 1, 1) := by decide +kernel
theorem dX10_changed_2 : decode cX10_changed 2 = .ok (.invokevirtual 116, 3) := by decide +kernel
theorem dX10_changed_5 : decode cX10_changed 5 = .ok (.ifCond .eq 22, 3) := by decide +kernel
theorem dX10_changed_8 : decode cX10_changed 8 = .ok (.iload_n 2, 1) := by decide +kernel
theorem dX10_changed_9 : decode cX10_changed 9 = .ok (.iconst 1, 1) := by decide +kernel
theorem dX10_changed_10 : decode cX10_changed 10 = .ok (.if_icmp .lt 17, 3) := by decide +kernel
theorem dX10_changed_13 : decode cX10_changed 13 = .ok (.iload_n 2, 1) := by decide +kernel
theorem dX10_changed_14 : decode cX10_changed 14 = .ok (.iconst 4, 1) := by decide +kernel
theorem dX10_changed_15 : decode cX10_changed 15 = .ok (.if_icmp .gt 12, 3) := by decide +kernel
theorem dX10_changed_18 : decode cX10_changed 18 = .ok (.iload_n 3, 1) := by decide +kernel
theorem dX10_changed_19 : decode cX10_changed 19 = .ok (.bipush 9, 2) := by decide +kernel
theorem dX10_changed_21 : decode cX10_changed 21 = .ok (.invokestatic 75, 3) := by decide +kernel
theorem dX10_changed_24 : decode cX10_changed 24 = .ok (.ifCond .ne 5, 3) := by decide +kernel
theorem dX10_changed_27 : decode cX10_changed 27 = .ok (.iconst (-1), 1) := by decide +kernel
theorem dX10_changed_28 : decode cX10_changed 28 = .ok (.ireturn, 1) := by decide +kernel
theorem dX10_changed_29 : decode cX10_changed 29 = .ok (.aload_n 0, 1) := by decide +kernel
theorem dX10_changed_30 : decode cX10_changed 30 = .ok (.getfield 18, 3) := by decide +kernel
theorem dX10_changed_33 : decode cX10_changed 33 = .ok (.iload_n 1, 1) := by decide +kernel
theorem dX10_changed_34 : decode cX10_changed 34 = .ok (.aaload, 1) := by decide +kernel
theorem dX10_changed_35 : decode cX10_changed 35 = .ok (.getfield 119, 3) := by decide +kernel
theorem dX10_changed_38 : decode cX10_changed 38 = .ok (.istore 4, 2) := by decide +kernel
theorem dX10_changed_40 : decode cX10_changed 40 = .ok (.iload 4, 2) := by decide +kernel
theorem dX10_changed_42 : decode cX10_changed 42 = .ok (.iload_n 2, 1) := by decide +kernel
theorem dX10_changed_43 : decode cX10_changed 43 = .ok (.iconst 1, 1) := by decide +kernel
theorem dX10_changed_44 : decode cX10_changed 44 = .ok (.isub, 1) := by decide +kernel
theorem dX10_changed_45 : decode cX10_changed 45 = .ok (.invokestatic 122, 3) := by decide +kernel
theorem dX10_changed_48 : decode cX10_changed 48 = .ok (.iload_n 3, 1) := by decide +kernel
theorem dX10_changed_49 : decode cX10_changed 49 = .ok (.if_icmp .ne 6, 3) := by decide +kernel
theorem dX10_changed_52 : decode cX10_changed 52 = .ok (.bipush (-2), 2) := by decide +kernel
theorem dX10_changed_54 : decode cX10_changed 54 = .ok (.ireturn, 1) := by decide +kernel
theorem dX10_changed_55 : decode cX10_changed 55 = .ok (.aload_n 0, 1) := by decide +kernel
theorem dX10_changed_56 : decode cX10_changed 56 = .ok (.iconst 1, 1) := by decide +kernel
theorem dX10_changed_57 : decode cX10_changed 57 = .ok (.iload 4, 2) := by decide +kernel
theorem dX10_changed_59 : decode cX10_changed 59 = .ok (.iload_n 2, 1) := by decide +kernel
theorem dX10_changed_60 : decode cX10_changed 60 = .ok (.iconst 1, 1) := by decide +kernel
theorem dX10_changed_61 : decode cX10_changed 61 = .ok (.isub, 1) := by decide +kernel
theorem dX10_changed_62 : decode cX10_changed 62 = .ok (.iload_n 3, 1) := by decide +kernel
theorem dX10_changed_63 : decode cX10_changed 63 = .ok (.invokestatic 125, 3) := by decide +kernel
theorem dX10_changed_66 : decode cX10_changed 66 = .ok (.invokevirtual 112, 3) := by decide +kernel
theorem dX10_changed_69 : decode cX10_changed 69 = .ok (.istore 5, 2) := by decide +kernel
theorem dX10_changed_71 : decode cX10_changed 71 = .ok (.iload 5, 2) := by decide +kernel
theorem dX10_changed_73 : decode cX10_changed 73 = .ok (.ifCond .lt 14, 3) := by decide +kernel
theorem dX10_changed_76 : decode cX10_changed 76 = .ok (.aload_n 0, 1) := by decide +kernel
theorem dX10_changed_77 : decode cX10_changed 77 = .ok (.getfield 18, 3) := by decide +kernel
theorem dX10_changed_80 : decode cX10_changed 80 = .ok (.iload 5, 2) := by decide +kernel
theorem dX10_changed_82 : decode cX10_changed 82 = .ok (.aaload, 1) := by decide +kernel
theorem dX10_changed_83 : decode cX10_changed 83 = .ok (.iload_n 1, 1) := by decide +kernel
theorem dX10_changed_84 : decode cX10_changed 84 = .ok (.putfield 129, 3) := by decide +kernel
theorem dX10_changed_87 : decode cX10_changed 87 = .ok (.iload 5, 2) := by decide +kernel
theorem dX10_changed_89 : decode cX10_changed 89 = .ok (.ireturn, 1) := by decide +kernel
theorem dX10_planted_0 : decode cX10_planted 0 = .ok (.aload_n 0, 1) := by decide +kernel
theorem dX10_planted_1 : decode cX10_planted 1 = .ok (.iload_n 1, 1) := by decide +kernel
theorem dX10_planted_2 : decode cX10_planted 2 = .ok (.invokevirtual 116, 3) := by decide +kernel
theorem dX10_planted_5 : decode cX10_planted 5 = .ok (.ifCond .eq 13, 3) := by decide +kernel
theorem dX10_planted_8 : decode cX10_planted 8 = .ok (.iload_n 2, 1) := by decide +kernel
theorem dX10_planted_9 : decode cX10_planted 9 = .ok (.sipush 9999, 3) := by decide +kernel
theorem dX10_planted_12 : decode cX10_planted 12 = .ok (.invokestatic 75, 3) := by decide +kernel
theorem dX10_planted_15 : decode cX10_planted 15 = .ok (.ifCond .ne 5, 3) := by decide +kernel
theorem dX10_planted_18 : decode cX10_planted 18 = .ok (.iconst (-1), 1) := by decide +kernel
theorem dX10_planted_19 : decode cX10_planted 19 = .ok (.ireturn, 1) := by decide +kernel
theorem dX10_planted_20 : decode cX10_planted 20 = .ok (.aload_n 0, 1) := by decide +kernel
theorem dX10_planted_21 : decode cX10_planted 21 = .ok (.iconst 2, 1) := by decide +kernel
theorem dX10_planted_22 : decode cX10_planted 22 = .ok (.aload_n 0, 1) := by decide +kernel
theorem dX10_planted_23 : decode cX10_planted 23 = .ok (.getfield 18, 3) := by decide +kernel
theorem dX10_planted_26 : decode cX10_planted 26 = .ok (.iload_n 1, 1) := by decide +kernel
theorem dX10_planted_27 : decode cX10_planted 27 = .ok (.aaload, 1) := by decide +kernel
theorem dX10_planted_28 : decode cX10_planted 28 = .ok (.getfield 119, 3) := by decide +kernel
theorem dX10_planted_31 : decode cX10_planted 31 = .ok (.invokevirtual 112, 3) := by decide +kernel
theorem dX10_planted_34 : decode cX10_planted 34 = .ok (.istore_n 3, 1) := by decide +kernel
theorem dX10_planted_35 : decode cX10_planted 35 = .ok (.iload_n 3, 1) := by decide +kernel
theorem dX10_planted_36 : decode cX10_planted 36 = .ok (.ifCond .lt 23, 3) := by decide +kernel
theorem dX10_planted_39 : decode cX10_planted 39 = .ok (.aload_n 0, 1) := by decide +kernel
theorem dX10_planted_40 : decode cX10_planted 40 = .ok (.getfield 18, 3) := by decide +kernel
theorem dX10_planted_43 : decode cX10_planted 43 = .ok (.iload_n 3, 1) := by decide +kernel
theorem dX10_planted_44 : decode cX10_planted 44 = .ok (.aaload, 1) := by decide +kernel
theorem dX10_planted_45 : decode cX10_planted 45 = .ok (.iload_n 1, 1) := by decide +kernel
theorem dX10_planted_46 : decode cX10_planted 46 = .ok (.putfield 129, 3) := by decide +kernel
theorem dX10_planted_49 : decode cX10_planted 49 = .ok (.aload_n 0, 1) := by decide +kernel
theorem dX10_planted_50 : decode cX10_planted 50 = .ok (.getfield 18, 3) := by decide +kernel
theorem dX10_planted_53 : decode cX10_planted 53 = .ok (.iload_n 3, 1) := by decide +kernel
theorem dX10_planted_54 : decode cX10_planted 54 = .ok (.aaload, 1) := by decide +kernel
theorem dX10_planted_55 : decode cX10_planted 55 = .ok (.iload_n 2, 1) := by decide +kernel
theorem dX10_planted_56 : decode cX10_planted 56 = .ok (.putfield 132, 3) := by decide +kernel
theorem dX10_planted_59 : decode cX10_planted 59 = .ok (.iload_n 3, 1) := by decide +kernel
theorem dX10_planted_60 : decode cX10_planted 60 = .ok (.ireturn, 1) := by decide +kernel
theorem dX10_real_0 : decode cX10_real 0 = .ok (.iload_n 1, 1) := by decide +kernel
theorem dX10_real_1 : decode cX10_real 1 = .ok (.iload_n 2, 1) := by decide +kernel
theorem dX10_real_2 : decode cX10_real 2 = .ok (.iload_n 3, 1) := by decide +kernel
theorem dX10_real_3 : decode cX10_real 3 = .ok (.iload 4, 2) := by decide +kernel
theorem dX10_real_5 : decode cX10_real 5 = .ok (.invokestatic 102, 3) := by decide +kernel
theorem dX10_real_8 : decode cX10_real 8 = .ok (.ifCond .ne 5, 3) := by decide +kernel
theorem dX10_real_11 : decode cX10_real 11 = .ok (.iconst (-1), 1) := by decide +kernel
theorem dX10_real_12 : decode cX10_real 12 = .ok (.ireturn, 1) := by decide +kernel
theorem dX10_real_13 : decode cX10_real 13 = .ok (.aload_n 0, 1) := by decide +kernel
theorem dX10_real_14 : decode cX10_real 14 = .ok (.iconst 3, 1) := by decide +kernel
theorem dX10_real_15 : decode cX10_real 15 = .ok (.iload_n 1, 1) := by decide +kernel
theorem dX10_real_16 : decode cX10_real 16 = .ok (.iload_n 2, 1) := by decide +kernel
theorem dX10_real_17 : decode cX10_real 17 = .ok (.iload_n 3, 1) := by decide +kernel
theorem dX10_real_18 : decode cX10_real 18 = .ok (.iload 4, 2) := by decide +kernel
theorem dX10_real_20 : decode cX10_real 20 = .ok (.invokestatic 106, 3) := by decide +kernel
theorem dX10_real_23 : decode cX10_real 23 = .ok (.invokevirtual 112, 3) := by decide +kernel
theorem dX10_real_26 : decode cX10_real 26 = .ok (.istore 6, 2) := by decide +kernel
theorem dX10_real_28 : decode cX10_real 28 = .ok (.iload 6, 2) := by decide +kernel
theorem dX10_real_30 : decode cX10_real 30 = .ok (.ifCond .lt 15, 3) := by decide +kernel
theorem dX10_real_33 : decode cX10_real 33 = .ok (.aload_n 0, 1) := by decide +kernel
theorem dX10_real_34 : decode cX10_real 34 = .ok (.getfield 18, 3) := by decide +kernel
theorem dX10_real_37 : decode cX10_real 37 = .ok (.iload 6, 2) := by decide +kernel
theorem dX10_real_39 : decode cX10_real 39 = .ok (.aaload, 1) := by decide +kernel
theorem dX10_real_40 : decode cX10_real 40 = .ok (.iload 5, 2) := by decide +kernel
theorem dX10_real_42 : decode cX10_real 42 = .ok (.putfield 135, 3) := by decide +kernel
theorem dX10_real_45 : decode cX10_real 45 = .ok (.iload 6, 2) := by decide +kernel
theorem dX10_real_47 : decode cX10_real 47 = .ok (.ireturn, 1) := by decide +kernel
theorem dX10_told_0 : decode cX10_told 0 = .ok (.aload_n 0, 1) := by decide +kernel
theorem dX10_told_1 : decode cX10_told 1 = .ok (.iload_n 1, 1) := by decide +kernel
theorem dX10_told_2 : decode cX10_told 2 = .ok (.invokevirtual 116, 3) := by decide +kernel
theorem dX10_told_5 : decode cX10_told 5 = .ok (.ifCond .eq 12, 3) := by decide +kernel
theorem dX10_told_8 : decode cX10_told 8 = .ok (.iload_n 2, 1) := by decide +kernel
theorem dX10_told_9 : decode cX10_told 9 = .ok (.bipush 8, 2) := by decide +kernel
theorem dX10_told_11 : decode cX10_told 11 = .ok (.invokestatic 75, 3) := by decide +kernel
theorem dX10_told_14 : decode cX10_told 14 = .ok (.ifCond .ne 5, 3) := by decide +kernel
theorem dX10_told_17 : decode cX10_told 17 = .ok (.iconst (-1), 1) := by decide +kernel
theorem dX10_told_18 : decode cX10_told 18 = .ok (.ireturn, 1) := by decide +kernel
theorem dX10_told_19 : decode cX10_told 19 = .ok (.aload_n 0, 1) := by decide +kernel
theorem dX10_told_20 : decode cX10_told 20 = .ok (.getfield 18, 3) := by decide +kernel
theorem dX10_told_23 : decode cX10_told 23 = .ok (.iload_n 1, 1) := by decide +kernel
theorem dX10_told_24 : decode cX10_told 24 = .ok (.aaload, 1) := by decide +kernel
theorem dX10_told_25 : decode cX10_told 25 = .ok (.astore_n 3, 1) := by decide +kernel
theorem dX10_told_26 : decode cX10_told 26 = .ok (.iload_n 2, 1) := by decide +kernel
theorem dX10_told_27 : decode cX10_told 27 = .ok (.tableswitch 129 0 8 #[49, 129, 129, 129, 129, 54, 80, 98, 124], 49) := by decide +kernel
theorem dX10_told_76 : decode cX10_told 76 = .ok (.aload_n 3, 1) := by decide +kernel
theorem dX10_told_77 : decode cX10_told 77 = .ok (.getfield 139, 3) := by decide +kernel
theorem dX10_told_80 : decode cX10_told 80 = .ok (.ireturn, 1) := by decide +kernel
theorem dX10_told_81 : decode cX10_told 81 = .ok (.aload_n 3, 1) := by decide +kernel
theorem dX10_told_82 : decode cX10_told 82 = .ok (.getfield 139, 3) := by decide +kernel
theorem dX10_told_85 : decode cX10_told 85 = .ok (.iconst 1, 1) := by decide +kernel
theorem dX10_told_86 : decode cX10_told 86 = .ok (.if_icmp .eq 11, 3) := by decide +kernel
theorem dX10_told_89 : decode cX10_told 89 = .ok (.aload_n 3, 1) := by decide +kernel
theorem dX10_told_90 : decode cX10_told 90 = .ok (.getfield 139, 3) := by decide +kernel
theorem dX10_told_93 : decode cX10_told 93 = .ok (.iconst 2, 1) := by decide +kernel
theorem dX10_told_94 : decode cX10_told 94 = .ok (.if_icmp .ne 10, 3) := by decide +kernel
theorem dX10_told_97 : decode cX10_told 97 = .ok (.aload_n 3, 1) := by decide +kernel
theorem dX10_told_98 : decode cX10_told 98 = .ok (.getfield 129, 3) := by decide +kernel
theorem dX10_told_101 : decode cX10_told 101 = .ok (.goto 5, 3) := by decide +kernel
theorem dX10_told_104 : decode cX10_told 104 = .ok (.bipush (-12), 2) := by decide +kernel
theorem dX10_told_106 : decode cX10_told 106 = .ok (.ireturn, 1) := by decide +kernel
theorem dX10_told_107 : decode cX10_told 107 = .ok (.aload_n 3, 1) := by decide +kernel
theorem dX10_told_108 : decode cX10_told 108 = .ok (.getfield 139, 3) := by decide +kernel
theorem dX10_told_111 : decode cX10_told 111 = .ok (.iconst 2, 1) := by decide +kernel
theorem dX10_told_112 : decode cX10_told 112 = .ok (.if_icmp .ne 10, 3) := by decide +kernel
theorem dX10_told_115 : decode cX10_told 115 = .ok (.aload_n 3, 1) := by decide +kernel
theorem dX10_told_116 : decode cX10_told 116 = .ok (.getfield 132, 3) := by decide +kernel
theorem dX10_told_119 : decode cX10_told 119 = .ok (.goto 5, 3) := by decide +kernel
theorem dX10_told_122 : decode cX10_told 122 = .ok (.bipush (-12), 2) := by decide +kernel
theorem dX10_told_124 : decode cX10_told 124 = .ok (.ireturn, 1) := by decide +kernel
theorem dX10_told_125 : decode cX10_told 125 = .ok (.aload_n 3, 1) := by decide +kernel
theorem dX10_told_126 : decode cX10_told 126 = .ok (.getfield 139, 3) := by decide +kernel
theorem dX10_told_129 : decode cX10_told 129 = .ok (.iconst 3, 1) := by decide +kernel
theorem dX10_told_130 : decode cX10_told 130 = .ok (.if_icmp .eq 8, 3) := by decide +kernel
theorem dX10_told_133 : decode cX10_told 133 = .ok (.bipush (-12), 2) := by decide +kernel
theorem dX10_told_135 : decode cX10_told 135 = .ok (.goto 15, 3) := by decide +kernel
theorem dX10_told_138 : decode cX10_told 138 = .ok (.aload_n 3, 1) := by decide +kernel
theorem dX10_told_139 : decode cX10_told 139 = .ok (.getfield 135, 3) := by decide +kernel
theorem dX10_told_142 : decode cX10_told 142 = .ok (.ifCond .eq 7, 3) := by decide +kernel
theorem dX10_told_145 : decode cX10_told 145 = .ok (.iconst 1, 1) := by decide +kernel
theorem dX10_told_146 : decode cX10_told 146 = .ok (.goto 4, 3) := by decide +kernel
theorem dX10_told_149 : decode cX10_told 149 = .ok (.iconst 0, 1) := by decide +kernel
theorem dX10_told_150 : decode cX10_told 150 = .ok (.ireturn, 1) := by decide +kernel
theorem dX10_told_151 : decode cX10_told 151 = .ok (.aload_n 3, 1) := by decide +kernel
theorem dX10_told_152 : decode cX10_told 152 = .ok (.getfield 142, 3) := by decide +kernel
theorem dX10_told_155 : decode cX10_told 155 = .ok (.ireturn, 1) := by decide +kernel
theorem dX10_told_156 : decode cX10_told 156 = .ok (.aload_n 3, 1) := by decide +kernel
theorem dX10_told_157 : decode cX10_told 157 = .ok (.getfield 119, 3) := by decide +kernel
theorem dX10_told_160 : decode cX10_told 160 = .ok (.iload_n 2, 1) := by decide +kernel
theorem dX10_told_161 : decode cX10_told 161 = .ok (.iconst 1, 1) := by decide +kernel
theorem dX10_told_162 : decode cX10_told 162 = .ok (.isub, 1) := by decide +kernel
theorem dX10_told_163 : decode cX10_told 163 = .ok (.invokestatic 122, 3) := by decide +kernel
theorem dX10_told_166 : decode cX10_told 166 = .ok (.ireturn, 1) := by decide +kernel
theorem dX10_weight_0 : decode cX10_weight 0 = .ok (.iload_n 1, 1) := by decide +kernel
theorem dX10_weight_1 : decode cX10_weight 1 = .ok (.bipush 9, 2) := by decide +kernel
theorem dX10_weight_3 : decode cX10_weight 3 = .ok (.invokestatic 75, 3) := by decide +kernel
theorem dX10_weight_6 : decode cX10_weight 6 = .ok (.ifCond .eq 12, 3) := by decide +kernel
theorem dX10_weight_9 : decode cX10_weight 9 = .ok (.iload_n 2, 1) := by decide +kernel
theorem dX10_weight_10 : decode cX10_weight 10 = .ok (.bipush 9, 2) := by decide +kernel
theorem dX10_weight_12 : decode cX10_weight 12 = .ok (.invokestatic 75, 3) := by decide +kernel
theorem dX10_weight_15 : decode cX10_weight 15 = .ok (.ifCond .ne 5, 3) := by decide +kernel
theorem dX10_weight_18 : decode cX10_weight 18 = .ok (.iconst (-1), 1) := by decide +kernel
theorem dX10_weight_19 : decode cX10_weight 19 = .ok (.ireturn, 1) := by decide +kernel
theorem dX10_weight_20 : decode cX10_weight 20 = .ok (.aload_n 0, 1) := by decide +kernel
theorem dX10_weight_21 : decode cX10_weight 21 = .ok (.getfield 10, 3) := by decide +kernel
theorem dX10_weight_24 : decode cX10_weight 24 = .ok (.getfield 145, 3) := by decide +kernel
theorem dX10_weight_27 : decode cX10_weight 27 = .ok (.iload_n 1, 1) := by decide +kernel
theorem dX10_weight_28 : decode cX10_weight 28 = .ok (.iaload, 1) := by decide +kernel
theorem dX10_weight_29 : decode cX10_weight 29 = .ok (.istore_n 3, 1) := by decide +kernel
theorem dX10_weight_30 : decode cX10_weight 30 = .ok (.aload_n 0, 1) := by decide +kernel
theorem dX10_weight_31 : decode cX10_weight 31 = .ok (.getfield 10, 3) := by decide +kernel
theorem dX10_weight_34 : decode cX10_weight 34 = .ok (.getfield 145, 3) := by decide +kernel
theorem dX10_weight_37 : decode cX10_weight 37 = .ok (.iload_n 1, 1) := by decide +kernel
theorem dX10_weight_38 : decode cX10_weight 38 = .ok (.iload_n 2, 1) := by decide +kernel
theorem dX10_weight_39 : decode cX10_weight 39 = .ok (.iastore, 1) := by decide +kernel
theorem dX10_weight_40 : decode cX10_weight 40 = .ok (.iload_n 3, 1) := by decide +kernel
theorem dX10_weight_41 : decode cX10_weight 41 = .ok (.ireturn, 1) := by decide +kernel
theorem dX10_begin_0 : decode cX10_begin 0 = .ok (.aload_n 0, 1) := by decide +kernel
theorem dX10_begin_1 : decode cX10_begin 1 = .ok (.iload_n 1, 1) := by decide +kernel
theorem dX10_begin_2 : decode cX10_begin 2 = .ok (.invokevirtual 90, 3) := by decide +kernel
theorem dX10_begin_5 : decode cX10_begin 5 = .ok (.ifCond .eq 11, 3) := by decide +kernel
theorem dX10_begin_8 : decode cX10_begin 8 = .ok (.aload_n 0, 1) := by decide +kernel
theorem dX10_begin_9 : decode cX10_begin 9 = .ok (.iload_n 2, 1) := by decide +kernel
theorem dX10_begin_10 : decode cX10_begin 10 = .ok (.invokevirtual 116, 3) := by decide +kernel
theorem dX10_begin_13 : decode cX10_begin 13 = .ok (.ifCond .ne 5, 3) := by decide +kernel
theorem dX10_begin_16 : decode cX10_begin 16 = .ok (.iconst (-1), 1) := by decide +kernel
theorem dX10_begin_17 : decode cX10_begin 17 = .ok (.ireturn, 1) := by decide +kernel
theorem dX10_begin_18 : decode cX10_begin 18 = .ok (.aload_n 0, 1) := by decide +kernel
theorem dX10_begin_19 : decode cX10_begin 19 = .ok (.getfield 18, 3) := by decide +kernel
theorem dX10_begin_22 : decode cX10_begin 22 = .ok (.iload_n 2, 1) := by decide +kernel
theorem dX10_begin_23 : decode cX10_begin 23 = .ok (.aaload, 1) := by decide +kernel
theorem dX10_begin_24 : decode cX10_begin 24 = .ok (.astore_n 3, 1) := by decide +kernel
theorem dX10_begin_25 : decode cX10_begin 25 = .ok (.aload_n 3, 1) := by decide +kernel
theorem dX10_begin_26 : decode cX10_begin 26 = .ok (.getfield 139, 3) := by decide +kernel
theorem dX10_begin_29 : decode cX10_begin 29 = .ok (.iconst 2, 1) := by decide +kernel
theorem dX10_begin_30 : decode cX10_begin 30 = .ok (.if_icmp .ne 17, 3) := by decide +kernel
theorem dX10_begin_33 : decode cX10_begin 33 = .ok (.aload_n 0, 1) := by decide +kernel
theorem dX10_begin_34 : decode cX10_begin 34 = .ok (.getfield 149, 3) := by decide +kernel
theorem dX10_begin_37 : decode cX10_begin 37 = .ok (.aload_n 3, 1) := by decide +kernel
theorem dX10_begin_38 : decode cX10_begin 38 = .ok (.getfield 132, 3) := by decide +kernel
theorem dX10_begin_41 : decode cX10_begin 41 = .ok (.if_icmp .ge 6, 3) := by decide +kernel
theorem dX10_begin_44 : decode cX10_begin 44 = .ok (.bipush (-2), 2) := by decide +kernel
theorem dX10_begin_46 : decode cX10_begin 46 = .ok (.ireturn, 1) := by decide +kernel
theorem dX10_begin_47 : decode cX10_begin 47 = .ok (.aload_n 3, 1) := by decide +kernel
theorem dX10_begin_48 : decode cX10_begin 48 = .ok (.getfield 152, 3) := by decide +kernel
theorem dX10_begin_51 : decode cX10_begin 51 = .ok (.getfield 155, 3) := by decide +kernel
theorem dX10_begin_54 : decode cX10_begin 54 = .ok (.iload_n 1, 1) := by decide +kernel
theorem dX10_begin_55 : decode cX10_begin 55 = .ok (.iaload, 1) := by decide +kernel
theorem dX10_begin_56 : decode cX10_begin 56 = .ok (.istore 4, 2) := by decide +kernel
theorem dX10_begin_58 : decode cX10_begin 58 = .ok (.aload_n 3, 1) := by decide +kernel
theorem dX10_begin_59 : decode cX10_begin 59 = .ok (.getfield 152, 3) := by decide +kernel
theorem dX10_begin_62 : decode cX10_begin 62 = .ok (.iload_n 1, 1) := by decide +kernel
theorem dX10_begin_63 : decode cX10_begin 63 = .ok (.aload_n 3, 1) := by decide +kernel
theorem dX10_begin_64 : decode cX10_begin 64 = .ok (.getfield 119, 3) := by decide +kernel
theorem dX10_begin_67 : decode cX10_begin 67 = .ok (.aload_n 0, 1) := by decide +kernel
theorem dX10_begin_68 : decode cX10_begin 68 = .ok (.getfield 149, 3) := by decide +kernel
theorem dX10_begin_71 : decode cX10_begin 71 = .ok (.invokevirtual 158, 3) := by decide +kernel
theorem dX10_begin_74 : decode cX10_begin 74 = .ok (.iload 4, 2) := by decide +kernel
theorem dX10_begin_76 : decode cX10_begin 76 = .ok (.ireturn, 1) := by decide +kernel
theorem dX10_knows_0 : decode cX10_knows 0 = .ok (.aload_n 0, 1) := by decide +kernel
theorem dX10_knows_1 : decode cX10_knows 1 = .ok (.iload_n 1, 1) := by decide +kernel
theorem dX10_knows_2 : decode cX10_knows 2 = .ok (.invokevirtual 90, 3) := by decide +kernel
theorem dX10_knows_5 : decode cX10_knows 5 = .ok (.ifCond .eq 19, 3) := by decide +kernel
theorem dX10_knows_8 : decode cX10_knows 8 = .ok (.aload_n 0, 1) := by decide +kernel
theorem dX10_knows_9 : decode cX10_knows 9 = .ok (.iload_n 2, 1) := by decide +kernel
theorem dX10_knows_10 : decode cX10_knows 10 = .ok (.invokevirtual 116, 3) := by decide +kernel
theorem dX10_knows_13 : decode cX10_knows 13 = .ok (.ifCond .eq 11, 3) := by decide +kernel
theorem dX10_knows_16 : decode cX10_knows 16 = .ok (.iload_n 3, 1) := by decide +kernel
theorem dX10_knows_17 : decode cX10_knows 17 = .ok (.iconst 4, 1) := by decide +kernel
theorem dX10_knows_18 : decode cX10_knows 18 = .ok (.invokestatic 75, 3) := by decide +kernel
theorem dX10_knows_21 : decode cX10_knows 21 = .ok (.ifCond .ne 5, 3) := by decide +kernel
theorem dX10_knows_24 : decode cX10_knows 24 = .ok (.iconst (-1), 1) := by decide +kernel
theorem dX10_knows_25 : decode cX10_knows 25 = .ok (.ireturn, 1) := by decide +kernel
theorem dX10_knows_26 : decode cX10_knows 26 = .ok (.aload_n 0, 1) := by decide +kernel
theorem dX10_knows_27 : decode cX10_knows 27 = .ok (.getfield 18, 3) := by decide +kernel
theorem dX10_knows_30 : decode cX10_knows 30 = .ok (.iload_n 2, 1) := by decide +kernel
theorem dX10_knows_31 : decode cX10_knows 31 = .ok (.aaload, 1) := by decide +kernel
theorem dX10_knows_32 : decode cX10_knows 32 = .ok (.getfield 152, 3) := by decide +kernel
theorem dX10_knows_35 : decode cX10_knows 35 = .ok (.astore 4, 2) := by decide +kernel
theorem dX10_knows_37 : decode cX10_knows 37 = .ok (.aload 4, 2) := by decide +kernel
theorem dX10_knows_39 : decode cX10_knows 39 = .ok (.getfield 155, 3) := by decide +kernel
theorem dX10_knows_42 : decode cX10_knows 42 = .ok (.iload_n 1, 1) := by decide +kernel
theorem dX10_knows_43 : decode cX10_knows 43 = .ok (.iaload, 1) := by decide +kernel
theorem dX10_knows_44 : decode cX10_knows 44 = .ok (.istore 5, 2) := by decide +kernel
theorem dX10_knows_46 : decode cX10_knows 46 = .ok (.iload 5, 2) := by decide +kernel
theorem dX10_knows_48 : decode cX10_knows 48 = .ok (.ifCond .ne 10, 3) := by decide +kernel
theorem dX10_knows_51 : decode cX10_knows 51 = .ok (.iload_n 3, 1) := by decide +kernel
theorem dX10_knows_52 : decode cX10_knows 52 = .ok (.ifCond .eq 6, 3) := by decide +kernel
theorem dX10_knows_55 : decode cX10_knows 55 = .ok (.bipush (-4), 2) := by decide +kernel
theorem dX10_knows_57 : decode cX10_knows 57 = .ok (.ireturn, 1) := by decide +kernel
theorem dX10_knows_58 : decode cX10_knows 58 = .ok (.iload_n 3, 1) := by decide +kernel
theorem dX10_knows_59 : decode cX10_knows 59 = .ok (.tableswitch 56 0 3 #[29, 32, 40, 48], 29) := by decide +kernel
theorem dX10_knows_88 : decode cX10_knows 88 = .ok (.iload 5, 2) := by decide +kernel
theorem dX10_knows_90 : decode cX10_knows 90 = .ok (.ireturn, 1) := by decide +kernel
theorem dX10_knows_91 : decode cX10_knows 91 = .ok (.aload 4, 2) := by decide +kernel
theorem dX10_knows_93 : decode cX10_knows 93 = .ok (.getfield 162, 3) := by decide +kernel
theorem dX10_knows_96 : decode cX10_knows 96 = .ok (.iload_n 1, 1) := by decide +kernel
theorem dX10_knows_97 : decode cX10_knows 97 = .ok (.iaload, 1) := by decide +kernel
theorem dX10_knows_98 : decode cX10_knows 98 = .ok (.ireturn, 1) := by decide +kernel
theorem dX10_knows_99 : decode cX10_knows 99 = .ok (.aload 4, 2) := by decide +kernel
theorem dX10_knows_101 : decode cX10_knows 101 = .ok (.getfield 165, 3) := by decide +kernel
theorem dX10_knows_104 : decode cX10_knows 104 = .ok (.iload_n 1, 1) := by decide +kernel
theorem dX10_knows_105 : decode cX10_knows 105 = .ok (.iaload, 1) := by decide +kernel
theorem dX10_knows_106 : decode cX10_knows 106 = .ok (.ireturn, 1) := by decide +kernel
theorem dX10_knows_107 : decode cX10_knows 107 = .ok (.aload 4, 2) := by decide +kernel
theorem dX10_knows_109 : decode cX10_knows 109 = .ok (.getfield 168, 3) := by decide +kernel
theorem dX10_knows_112 : decode cX10_knows 112 = .ok (.iload_n 1, 1) := by decide +kernel
theorem dX10_knows_113 : decode cX10_knows 113 = .ok (.iaload, 1) := by decide +kernel
theorem dX10_knows_114 : decode cX10_knows 114 = .ok (.ireturn, 1) := by decide +kernel
theorem dX10_knows_115 : decode cX10_knows 115 = .ok (.aload 4, 2) := by decide +kernel
theorem dX10_knows_117 : decode cX10_knows 117 = .ok (.getfield 171, 3) := by decide +kernel
theorem dX10_knows_120 : decode cX10_knows 120 = .ok (.iload_n 1, 1) := by decide +kernel
theorem dX10_knows_121 : decode cX10_knows 121 = .ok (.iaload, 1) := by decide +kernel
theorem dX10_knows_122 : decode cX10_knows 122 = .ok (.ireturn, 1) := by decide +kernel
theorem dX10_count_0 : decode cX10_count 0 = .ok (.iload_n 1, 1) := by decide +kernel
theorem dX10_count_1 : decode cX10_count 1 = .ok (.tableswitch 69 0 4 #[35, 43, 48, 56, 64], 35) := by decide +kernel
theorem dX10_count_36 : decode cX10_count 36 = .ok (.aload_n 0, 1) := by decide +kernel
theorem dX10_count_37 : decode cX10_count 37 = .ok (.getfield 10, 3) := by decide +kernel
theorem dX10_count_40 : decode cX10_count 40 = .ok (.getfield 82, 3) := by decide +kernel
theorem dX10_count_43 : decode cX10_count 43 = .ok (.ireturn, 1) := by decide +kernel
theorem dX10_count_44 : decode cX10_count 44 = .ok (.aload_n 0, 1) := by decide +kernel
theorem dX10_count_45 : decode cX10_count 45 = .ok (.getfield 174, 3) := by decide +kernel
theorem dX10_count_48 : decode cX10_count 48 = .ok (.ireturn, 1) := by decide +kernel
theorem dX10_count_49 : decode cX10_count 49 = .ok (.aload_n 0, 1) := by decide +kernel
theorem dX10_count_50 : decode cX10_count 50 = .ok (.getfield 66, 3) := by decide +kernel
theorem dX10_count_53 : decode cX10_count 53 = .ok (.getfield 177, 3) := by decide +kernel
theorem dX10_count_56 : decode cX10_count 56 = .ok (.ireturn, 1) := by decide +kernel
theorem dX10_count_57 : decode cX10_count 57 = .ok (.aload_n 0, 1) := by decide +kernel
theorem dX10_count_58 : decode cX10_count 58 = .ok (.getfield 46, 3) := by decide +kernel
theorem dX10_count_61 : decode cX10_count 61 = .ok (.getfield 180, 3) := by decide +kernel
theorem dX10_count_64 : decode cX10_count 64 = .ok (.ireturn, 1) := by decide +kernel
theorem dX10_count_65 : decode cX10_count 65 = .ok (.aload_n 0, 1) := by decide +kernel
theorem dX10_count_66 : decode cX10_count 66 = .ok (.getfield 149, 3) := by decide +kernel
theorem dX10_count_69 : decode cX10_count 69 = .ok (.ireturn, 1) := by decide +kernel
theorem dX10_count_70 : decode cX10_count 70 = .ok (.iconst (-1), 1) := by decide +kernel
theorem dX10_count_71 : decode cX10_count 71 = .ok (.ireturn, 1) := by decide +kernel
theorem dX10_hours_0 : decode cX10_hours 0 = .ok (.iload_n 1, 1) := by decide +kernel
theorem dX10_hours_1 : decode cX10_hours 1 = .ok (.iconst 1, 1) := by decide +kernel
theorem dX10_hours_2 : decode cX10_hours 2 = .ok (.if_icmp .lt 9, 3) := by decide +kernel
theorem dX10_hours_5 : decode cX10_hours 5 = .ok (.iload_n 1, 1) := by decide +kernel
theorem dX10_hours_6 : decode cX10_hours 6 = .ok (.bipush 96, 2) := by decide +kernel
theorem dX10_hours_8 : decode cX10_hours 8 = .ok (.if_icmp .le 5, 3) := by decide +kernel
theorem dX10_hours_11 : decode cX10_hours 11 = .ok (.iconst (-1), 1) := by decide +kernel
theorem dX10_hours_12 : decode cX10_hours 12 = .ok (.ireturn, 1) := by decide +kernel
theorem dX10_hours_13 : decode cX10_hours 13 = .ok (.aload_n 0, 1) := by decide +kernel
theorem dX10_hours_14 : decode cX10_hours 14 = .ok (.getfield 149, 3) := by decide +kernel
theorem dX10_hours_17 : decode cX10_hours 17 = .ok (.iload_n 1, 1) := by decide +kernel
theorem dX10_hours_18 : decode cX10_hours 18 = .ok (.iadd, 1) := by decide +kernel
theorem dX10_hours_19 : decode cX10_hours 19 = .ok (.sipush 9999, 3) := by decide +kernel
theorem dX10_hours_22 : decode cX10_hours 22 = .ok (.if_icmp .le 6, 3) := by decide +kernel
theorem dX10_hours_25 : decode cX10_hours 25 = .ok (.bipush (-2), 2) := by decide +kernel
theorem dX10_hours_27 : decode cX10_hours 27 = .ok (.ireturn, 1) := by decide +kernel
theorem dX10_hours_28 : decode cX10_hours 28 = .ok (.iconst 0, 1) := by decide +kernel
theorem dX10_hours_29 : decode cX10_hours 29 = .ok (.istore_n 2, 1) := by decide +kernel
theorem dX10_hours_30 : decode cX10_hours 30 = .ok (.iload_n 2, 1) := by decide +kernel
theorem dX10_hours_31 : decode cX10_hours 31 = .ok (.aload_n 0, 1) := by decide +kernel
theorem dX10_hours_32 : decode cX10_hours 32 = .ok (.getfield 174, 3) := by decide +kernel
theorem dX10_hours_35 : decode cX10_hours 35 = .ok (.if_icmp .ge 30, 3) := by decide +kernel
theorem dX10_hours_38 : decode cX10_hours 38 = .ok (.aload_n 0, 1) := by decide +kernel
theorem dX10_hours_39 : decode cX10_hours 39 = .ok (.getfield 10, 3) := by decide +kernel
theorem dX10_hours_42 : decode cX10_hours 42 = .ok (.aload_n 0, 1) := by decide +kernel
theorem dX10_hours_43 : decode cX10_hours 43 = .ok (.getfield 18, 3) := by decide +kernel
theorem dX10_hours_46 : decode cX10_hours 46 = .ok (.iload_n 2, 1) := by decide +kernel
theorem dX10_hours_47 : decode cX10_hours 47 = .ok (.aaload, 1) := by decide +kernel
theorem dX10_hours_48 : decode cX10_hours 48 = .ok (.getfield 152, 3) := by decide +kernel
theorem dX10_hours_51 : decode cX10_hours 51 = .ok (.aload_n 0, 1) := by decide +kernel
theorem dX10_hours_52 : decode cX10_hours 52 = .ok (.getfield 149, 3) := by decide +kernel
theorem dX10_hours_55 : decode cX10_hours 55 = .ok (.iload_n 1, 1) := by decide +kernel
theorem dX10_hours_56 : decode cX10_hours 56 = .ok (.invokevirtual 181, 3) := by decide +kernel
theorem dX10_hours_59 : decode cX10_hours 59 = .ok (.iinc 2 1, 3) := by decide +kernel
theorem dX10_hours_62 : decode cX10_hours 62 = .ok (.goto (-32), 3) := by decide +kernel
theorem dX10_hours_65 : decode cX10_hours 65 = .ok (.aload_n 0, 1) := by decide +kernel
theorem dX10_hours_66 : decode cX10_hours 66 = .ok (.dup, 1) := by decide +kernel
theorem dX10_hours_67 : decode cX10_hours 67 = .ok (.getfield 149, 3) := by decide +kernel
theorem dX10_hours_70 : decode cX10_hours 70 = .ok (.iload_n 1, 1) := by decide +kernel
theorem dX10_hours_71 : decode cX10_hours 71 = .ok (.iadd, 1) := by decide +kernel
theorem dX10_hours_72 : decode cX10_hours 72 = .ok (.putfield 149, 3) := by decide +kernel
theorem dX10_hours_75 : decode cX10_hours 75 = .ok (.aload_n 0, 1) := by decide +kernel
theorem dX10_hours_76 : decode cX10_hours 76 = .ok (.getfield 149, 3) := by decide +kernel
theorem dX10_hours_79 : decode cX10_hours 79 = .ok (.ireturn, 1) := by decide +kernel
theorem dX10_reach_0 : decode cX10_reach 0 = .ok (.aload_n 0, 1) := by decide +kernel
theorem dX10_reach_1 : decode cX10_reach 1 = .ok (.iload_n 1, 1) := by decide +kernel
theorem dX10_reach_2 : decode cX10_reach 2 = .ok (.invokevirtual 116, 3) := by decide +kernel
theorem dX10_reach_5 : decode cX10_reach 5 = .ok (.ifCond .eq 11, 3) := by decide +kernel
theorem dX10_reach_8 : decode cX10_reach 8 = .ok (.iload_n 2, 1) := by decide +kernel
theorem dX10_reach_9 : decode cX10_reach 9 = .ok (.iconst 3, 1) := by decide +kernel
theorem dX10_reach_10 : decode cX10_reach 10 = .ok (.invokestatic 75, 3) := by decide +kernel
theorem dX10_reach_13 : decode cX10_reach 13 = .ok (.ifCond .ne 5, 3) := by decide +kernel
theorem dX10_reach_16 : decode cX10_reach 16 = .ok (.iconst (-1), 1) := by decide +kernel
theorem dX10_reach_17 : decode cX10_reach 17 = .ok (.ireturn, 1) := by decide +kernel
theorem dX10_reach_18 : decode cX10_reach 18 = .ok (.aload_n 0, 1) := by decide +kernel
theorem dX10_reach_19 : decode cX10_reach 19 = .ok (.getfield 18, 3) := by decide +kernel
theorem dX10_reach_22 : decode cX10_reach 22 = .ok (.iload_n 1, 1) := by decide +kernel
theorem dX10_reach_23 : decode cX10_reach 23 = .ok (.aaload, 1) := by decide +kernel
theorem dX10_reach_24 : decode cX10_reach 24 = .ok (.getfield 152, 3) := by decide +kernel
theorem dX10_reach_27 : decode cX10_reach 27 = .ok (.astore_n 3, 1) := by decide +kernel
theorem dX10_reach_28 : decode cX10_reach 28 = .ok (.iconst 0, 1) := by decide +kernel
theorem dX10_reach_29 : decode cX10_reach 29 = .ok (.istore 4, 2) := by decide +kernel
theorem dX10_reach_31 : decode cX10_reach 31 = .ok (.iconst 0, 1) := by decide +kernel
theorem dX10_reach_32 : decode cX10_reach 32 = .ok (.istore 5, 2) := by decide +kernel
theorem dX10_reach_34 : decode cX10_reach 34 = .ok (.iload 5, 2) := by decide +kernel
theorem dX10_reach_36 : decode cX10_reach 36 = .ok (.aload_n 0, 1) := by decide +kernel
theorem dX10_reach_37 : decode cX10_reach 37 = .ok (.getfield 10, 3) := by decide +kernel
theorem dX10_reach_40 : decode cX10_reach 40 = .ok (.getfield 82, 3) := by decide +kernel
theorem dX10_reach_43 : decode cX10_reach 43 = .ok (.if_icmp .ge 23, 3) := by decide +kernel
theorem dX10_reach_46 : decode cX10_reach 46 = .ok (.aload_n 3, 1) := by decide +kernel
theorem dX10_reach_47 : decode cX10_reach 47 = .ok (.getfield 155, 3) := by decide +kernel
theorem dX10_reach_50 : decode cX10_reach 50 = .ok (.iload 5, 2) := by decide +kernel
theorem dX10_reach_52 : decode cX10_reach 52 = .ok (.iaload, 1) := by decide +kernel
theorem dX10_reach_53 : decode cX10_reach 53 = .ok (.iload_n 2, 1) := by decide +kernel
theorem dX10_reach_54 : decode cX10_reach 54 = .ok (.if_icmp .ne 6, 3) := by decide +kernel
theorem dX10_reach_57 : decode cX10_reach 57 = .ok (.iinc 4 1, 3) := by decide +kernel
theorem dX10_reach_60 : decode cX10_reach 60 = .ok (.iinc 5 1, 3) := by decide +kernel
theorem dX10_reach_63 : decode cX10_reach 63 = .ok (.goto (-29), 3) := by decide +kernel
theorem dX10_reach_66 : decode cX10_reach 66 = .ok (.iload 4, 2) := by decide +kernel
theorem dX10_reach_68 : decode cX10_reach 68 = .ok (.ireturn, 1) := by decide +kernel
theorem dX10_harm_0 : decode cX10_harm 0 = .ok (.aload_n 0, 1) := by decide +kernel
theorem dX10_harm_1 : decode cX10_harm 1 = .ok (.iload_n 1, 1) := by decide +kernel
theorem dX10_harm_2 : decode cX10_harm 2 = .ok (.invokevirtual 116, 3) := by decide +kernel
theorem dX10_harm_5 : decode cX10_harm 5 = .ok (.ifCond .ne 5, 3) := by decide +kernel
theorem dX10_harm_8 : decode cX10_harm 8 = .ok (.iconst (-1), 1) := by decide +kernel
theorem dX10_harm_9 : decode cX10_harm 9 = .ok (.ireturn, 1) := by decide +kernel
theorem dX10_harm_10 : decode cX10_harm 10 = .ok (.aload_n 0, 1) := by decide +kernel
theorem dX10_harm_11 : decode cX10_harm 11 = .ok (.getfield 18, 3) := by decide +kernel
theorem dX10_harm_14 : decode cX10_harm 14 = .ok (.iload_n 1, 1) := by decide +kernel
theorem dX10_harm_15 : decode cX10_harm 15 = .ok (.aaload, 1) := by decide +kernel
theorem dX10_harm_16 : decode cX10_harm 16 = .ok (.astore_n 2, 1) := by decide +kernel
theorem dX10_harm_17 : decode cX10_harm 17 = .ok (.aload_n 2, 1) := by decide +kernel
theorem dX10_harm_18 : decode cX10_harm 18 = .ok (.getfield 139, 3) := by decide +kernel
theorem dX10_harm_21 : decode cX10_harm 21 = .ok (.iconst 3, 1) := by decide +kernel
theorem dX10_harm_22 : decode cX10_harm 22 = .ok (.if_icmp .ne 7, 3) := by decide +kernel
theorem dX10_harm_25 : decode cX10_harm 25 = .ok (.iconst 0, 1) := by decide +kernel
theorem dX10_harm_26 : decode cX10_harm 26 = .ok (.goto 14, 3) := by decide +kernel
theorem dX10_harm_29 : decode cX10_harm 29 = .ok (.aload_n 0, 1) := by decide +kernel
theorem dX10_harm_30 : decode cX10_harm 30 = .ok (.getfield 10, 3) := by decide +kernel
theorem dX10_harm_33 : decode cX10_harm 33 = .ok (.aload_n 2, 1) := by decide +kernel
theorem dX10_harm_34 : decode cX10_harm 34 = .ok (.getfield 152, 3) := by decide +kernel
theorem dX10_harm_37 : decode cX10_harm 37 = .ok (.invokevirtual 185, 3) := by decide +kernel
theorem dX10_harm_40 : decode cX10_harm 40 = .ok (.ireturn, 1) := by decide +kernel
theorem dX10_deny_0 : decode cX10_deny 0 = .ok (.aload_n 0, 1) := by decide +kernel
theorem dX10_deny_1 : decode cX10_deny 1 = .ok (.iload_n 1, 1) := by decide +kernel
theorem dX10_deny_2 : decode cX10_deny 2 = .ok (.invokevirtual 116, 3) := by decide +kernel
theorem dX10_deny_5 : decode cX10_deny 5 = .ok (.ifCond .eq 11, 3) := by decide +kernel
theorem dX10_deny_8 : decode cX10_deny 8 = .ok (.iload_n 2, 1) := by decide +kernel
theorem dX10_deny_9 : decode cX10_deny 9 = .ok (.iconst 2, 1) := by decide +kernel
theorem dX10_deny_10 : decode cX10_deny 10 = .ok (.invokestatic 75, 3) := by decide +kernel
theorem dX10_deny_13 : decode cX10_deny 13 = .ok (.ifCond .ne 5, 3) := by decide +kernel
theorem dX10_deny_16 : decode cX10_deny 16 = .ok (.iconst (-1), 1) := by decide +kernel
theorem dX10_deny_17 : decode cX10_deny 17 = .ok (.ireturn, 1) := by decide +kernel
theorem dX10_deny_18 : decode cX10_deny 18 = .ok (.aload_n 0, 1) := by decide +kernel
theorem dX10_deny_19 : decode cX10_deny 19 = .ok (.getfield 18, 3) := by decide +kernel
theorem dX10_deny_22 : decode cX10_deny 22 = .ok (.iload_n 1, 1) := by decide +kernel
theorem dX10_deny_23 : decode cX10_deny 23 = .ok (.aaload, 1) := by decide +kernel
theorem dX10_deny_24 : decode cX10_deny 24 = .ok (.astore_n 3, 1) := by decide +kernel
theorem dX10_deny_25 : decode cX10_deny 25 = .ok (.aload_n 3, 1) := by decide +kernel
theorem dX10_deny_26 : decode cX10_deny 26 = .ok (.invokevirtual 189, 3) := by decide +kernel
theorem dX10_deny_29 : decode cX10_deny 29 = .ok (.ifCond .eq 6, 3) := by decide +kernel
theorem dX10_deny_32 : decode cX10_deny 32 = .ok (.bipush (-2), 2) := by decide +kernel
theorem dX10_deny_34 : decode cX10_deny 34 = .ok (.ireturn, 1) := by decide +kernel
theorem dX10_deny_35 : decode cX10_deny 35 = .ok (.aload_n 3, 1) := by decide +kernel
theorem dX10_deny_36 : decode cX10_deny 36 = .ok (.dup, 1) := by decide +kernel
theorem dX10_deny_37 : decode cX10_deny 37 = .ok (.getfield 142, 3) := by decide +kernel
theorem dX10_deny_40 : decode cX10_deny 40 = .ok (.iconst 1, 1) := by decide +kernel
theorem dX10_deny_41 : decode cX10_deny 41 = .ok (.iadd, 1) := by decide +kernel
theorem dX10_deny_42 : decode cX10_deny 42 = .ok (.putfield 142, 3) := by decide +kernel
theorem dX10_deny_45 : decode cX10_deny 45 = .ok (.aload_n 0, 1) := by decide +kernel
theorem dX10_deny_46 : decode cX10_deny 46 = .ok (.getfield 10, 3) := by decide +kernel
theorem dX10_deny_49 : decode cX10_deny 49 = .ok (.aload_n 3, 1) := by decide +kernel
theorem dX10_deny_50 : decode cX10_deny 50 = .ok (.getfield 152, 3) := by decide +kernel
theorem dX10_deny_53 : decode cX10_deny 53 = .ok (.aload_n 3, 1) := by decide +kernel
theorem dX10_deny_54 : decode cX10_deny 54 = .ok (.getfield 119, 3) := by decide +kernel
theorem dX10_deny_57 : decode cX10_deny 57 = .ok (.iload_n 2, 1) := by decide +kernel
theorem dX10_deny_58 : decode cX10_deny 58 = .ok (.aload_n 0, 1) := by decide +kernel
theorem dX10_deny_59 : decode cX10_deny 59 = .ok (.getfield 149, 3) := by decide +kernel
theorem dX10_deny_62 : decode cX10_deny 62 = .ok (.invokevirtual 193, 3) := by decide +kernel
theorem dX10_deny_65 : decode cX10_deny 65 = .ok (.ireturn, 1) := by decide +kernel
theorem dX10_found_0 : decode cX10_found 0 = .ok (.aload_n 0, 1) := by decide +kernel
theorem dX10_found_1 : decode cX10_found 1 = .ok (.iload_n 1, 1) := by decide +kernel
theorem dX10_found_2 : decode cX10_found 2 = .ok (.invokevirtual 116, 3) := by decide +kernel
theorem dX10_found_5 : decode cX10_found 5 = .ok (.ifCond .ne 5, 3) := by decide +kernel
theorem dX10_found_8 : decode cX10_found 8 = .ok (.iconst (-1), 1) := by decide +kernel
theorem dX10_found_9 : decode cX10_found 9 = .ok (.ireturn, 1) := by decide +kernel
theorem dX10_found_10 : decode cX10_found 10 = .ok (.aload_n 0, 1) := by decide +kernel
theorem dX10_found_11 : decode cX10_found 11 = .ok (.getfield 18, 3) := by decide +kernel
theorem dX10_found_14 : decode cX10_found 14 = .ok (.iload_n 1, 1) := by decide +kernel
theorem dX10_found_15 : decode cX10_found 15 = .ok (.aaload, 1) := by decide +kernel
theorem dX10_found_16 : decode cX10_found 16 = .ok (.astore_n 2, 1) := by decide +kernel
theorem dX10_found_17 : decode cX10_found 17 = .ok (.aload_n 2, 1) := by decide +kernel
theorem dX10_found_18 : decode cX10_found 18 = .ok (.getfield 139, 3) := by decide +kernel
theorem dX10_found_21 : decode cX10_found 21 = .ok (.iconst 3, 1) := by decide +kernel
theorem dX10_found_22 : decode cX10_found 22 = .ok (.if_icmp .eq 6, 3) := by decide +kernel
theorem dX10_found_25 : decode cX10_found 25 = .ok (.bipush (-12), 2) := by decide +kernel
theorem dX10_found_27 : decode cX10_found 27 = .ok (.ireturn, 1) := by decide +kernel
theorem dX10_found_28 : decode cX10_found 28 = .ok (.aload_n 2, 1) := by decide +kernel
theorem dX10_found_29 : decode cX10_found 29 = .ok (.getfield 142, 3) := by decide +kernel
theorem dX10_found_32 : decode cX10_found 32 = .ok (.istore_n 3, 1) := by decide +kernel
theorem dX10_found_33 : decode cX10_found 33 = .ok (.aload_n 2, 1) := by decide +kernel
theorem dX10_found_34 : decode cX10_found 34 = .ok (.iconst 0, 1) := by decide +kernel
theorem dX10_found_35 : decode cX10_found 35 = .ok (.putfield 142, 3) := by decide +kernel
theorem dX10_found_38 : decode cX10_found 38 = .ok (.aload_n 0, 1) := by decide +kernel
theorem dX10_found_39 : decode cX10_found 39 = .ok (.getfield 10, 3) := by decide +kernel
theorem dX10_found_42 : decode cX10_found 42 = .ok (.iload_n 3, 1) := by decide +kernel
theorem dX10_found_43 : decode cX10_found 43 = .ok (.invokevirtual 197, 3) := by decide +kernel
theorem dX10_found_46 : decode cX10_found 46 = .ok (.iload_n 3, 1) := by decide +kernel
theorem dX10_found_47 : decode cX10_found 47 = .ok (.ireturn, 1) := by decide +kernel
theorem dX10_foretold_0 : decode cX10_foretold 0 = .ok (.iload_n 1, 1) := by decide +kernel
theorem dX10_foretold_1 : decode cX10_foretold 1 = .ok (.bipush 96, 2) := by decide +kernel
theorem dX10_foretold_3 : decode cX10_foretold 3 = .ok (.invokestatic 75, 3) := by decide +kernel
theorem dX10_foretold_6 : decode cX10_foretold 6 = .ok (.ifCond .ne 5, 3) := by decide +kernel
theorem dX10_foretold_9 : decode cX10_foretold 9 = .ok (.iconst (-1), 1) := by decide +kernel
theorem dX10_foretold_10 : decode cX10_foretold 10 = .ok (.ireturn, 1) := by decide +kernel
theorem dX10_foretold_11 : decode cX10_foretold 11 = .ok (.iconst 0, 1) := by decide +kernel
theorem dX10_foretold_12 : decode cX10_foretold 12 = .ok (.istore_n 2, 1) := by decide +kernel
theorem dX10_foretold_13 : decode cX10_foretold 13 = .ok (.iconst 0, 1) := by decide +kernel
theorem dX10_foretold_14 : decode cX10_foretold 14 = .ok (.istore_n 3, 1) := by decide +kernel
theorem dX10_foretold_15 : decode cX10_foretold 15 = .ok (.iload_n 3, 1) := by decide +kernel
theorem dX10_foretold_16 : decode cX10_foretold 16 = .ok (.aload_n 0, 1) := by decide +kernel
theorem dX10_foretold_17 : decode cX10_foretold 17 = .ok (.getfield 174, 3) := by decide +kernel
theorem dX10_foretold_20 : decode cX10_foretold 20 = .ok (.if_icmp .ge 19, 3) := by decide +kernel
theorem dX10_foretold_23 : decode cX10_foretold 23 = .ok (.iload_n 2, 1) := by decide +kernel
theorem dX10_foretold_24 : decode cX10_foretold 24 = .ok (.aload_n 0, 1) := by decide +kernel
theorem dX10_foretold_25 : decode cX10_foretold 25 = .ok (.iload_n 3, 1) := by decide +kernel
theorem dX10_foretold_26 : decode cX10_foretold 26 = .ok (.iconst 3, 1) := by decide +kernel
theorem dX10_foretold_27 : decode cX10_foretold 27 = .ok (.iload_n 1, 1) := by decide +kernel
theorem dX10_foretold_28 : decode cX10_foretold 28 = .ok (.invokevirtual 201, 3) := by decide +kernel
theorem dX10_foretold_31 : decode cX10_foretold 31 = .ok (.iadd, 1) := by decide +kernel
theorem dX10_foretold_32 : decode cX10_foretold 32 = .ok (.istore_n 2, 1) := by decide +kernel
theorem dX10_foretold_33 : decode cX10_foretold 33 = .ok (.iinc 3 1, 3) := by decide +kernel
theorem dX10_foretold_36 : decode cX10_foretold 36 = .ok (.goto (-21), 3) := by decide +kernel
theorem dX10_foretold_39 : decode cX10_foretold 39 = .ok (.iload_n 2, 1) := by decide +kernel
theorem dX10_foretold_40 : decode cX10_foretold 40 = .ok (.ireturn, 1) := by decide +kernel
theorem dX10_wording_0 : decode cX10_wording 0 = .ok (.aload_n 0, 1) := by decide +kernel
theorem dX10_wording_1 : decode cX10_wording 1 = .ok (.iload_n 1, 1) := by decide +kernel
theorem dX10_wording_2 : decode cX10_wording 2 = .ok (.invokevirtual 116, 3) := by decide +kernel
theorem dX10_wording_5 : decode cX10_wording 5 = .ok (.ifCond .eq 12, 3) := by decide +kernel
theorem dX10_wording_8 : decode cX10_wording 8 = .ok (.iload_n 2, 1) := by decide +kernel
theorem dX10_wording_9 : decode cX10_wording 9 = .ok (.bipush 96, 2) := by decide +kernel
theorem dX10_wording_11 : decode cX10_wording 11 = .ok (.invokestatic 75, 3) := by decide +kernel
theorem dX10_wording_14 : decode cX10_wording 14 = .ok (.ifCond .ne 5, 3) := by decide +kernel
theorem dX10_wording_17 : decode cX10_wording 17 = .ok (.iconst (-1), 1) := by decide +kernel
theorem dX10_wording_18 : decode cX10_wording 18 = .ok (.ireturn, 1) := by decide +kernel
theorem dX10_wording_19 : decode cX10_wording 19 = .ok (.aload_n 0, 1) := by decide +kernel
theorem dX10_wording_20 : decode cX10_wording 20 = .ok (.getfield 18, 3) := by decide +kernel
theorem dX10_wording_23 : decode cX10_wording 23 = .ok (.iload_n 1, 1) := by decide +kernel
theorem dX10_wording_24 : decode cX10_wording 24 = .ok (.aaload, 1) := by decide +kernel
theorem dX10_wording_25 : decode cX10_wording 25 = .ok (.invokevirtual 189, 3) := by decide +kernel
theorem dX10_wording_28 : decode cX10_wording 28 = .ok (.ifCond .eq 6, 3) := by decide +kernel
theorem dX10_wording_31 : decode cX10_wording 31 = .ok (.bipush (-2), 2) := by decide +kernel
theorem dX10_wording_33 : decode cX10_wording 33 = .ok (.ireturn, 1) := by decide +kernel
theorem dX10_wording_34 : decode cX10_wording 34 = .ok (.iconst 3, 1) := by decide +kernel
theorem dX10_wording_35 : decode cX10_wording 35 = .ok (.istore_n 3, 1) := by decide +kernel
theorem dX10_wording_36 : decode cX10_wording 36 = .ok (.aload_n 0, 1) := by decide +kernel
theorem dX10_wording_37 : decode cX10_wording 37 = .ok (.iload_n 1, 1) := by decide +kernel
theorem dX10_wording_38 : decode cX10_wording 38 = .ok (.iconst 3, 1) := by decide +kernel
theorem dX10_wording_39 : decode cX10_wording 39 = .ok (.iload_n 2, 1) := by decide +kernel
theorem dX10_wording_40 : decode cX10_wording 40 = .ok (.invokevirtual 201, 3) := by decide +kernel
theorem dX10_wording_43 : decode cX10_wording 43 = .ok (.istore 4, 2) := by decide +kernel
theorem dX10_wording_45 : decode cX10_wording 45 = .ok (.iconst 0, 1) := by decide +kernel
theorem dX10_wording_46 : decode cX10_wording 46 = .ok (.istore 5, 2) := by decide +kernel
theorem dX10_wording_48 : decode cX10_wording 48 = .ok (.iload 5, 2) := by decide +kernel
theorem dX10_wording_50 : decode cX10_wording 50 = .ok (.iconst 2, 1) := by decide +kernel
theorem dX10_wording_51 : decode cX10_wording 51 = .ok (.if_icmp .gt 33, 3) := by decide +kernel
theorem dX10_wording_54 : decode cX10_wording 54 = .ok (.aload_n 0, 1) := by decide +kernel
theorem dX10_wording_55 : decode cX10_wording 55 = .ok (.iload_n 1, 1) := by decide +kernel
theorem dX10_wording_56 : decode cX10_wording 56 = .ok (.iload 5, 2) := by decide +kernel
theorem dX10_wording_58 : decode cX10_wording 58 = .ok (.iload_n 2, 1) := by decide +kernel
theorem dX10_wording_59 : decode cX10_wording 59 = .ok (.invokevirtual 201, 3) := by decide +kernel
theorem dX10_wording_62 : decode cX10_wording 62 = .ok (.istore 6, 2) := by decide +kernel
theorem dX10_wording_64 : decode cX10_wording 64 = .ok (.iload 6, 2) := by decide +kernel
theorem dX10_wording_66 : decode cX10_wording 66 = .ok (.iload 4, 2) := by decide +kernel
theorem dX10_wording_68 : decode cX10_wording 68 = .ok (.if_icmp .ge 10, 3) := by decide +kernel
theorem dX10_wording_71 : decode cX10_wording 71 = .ok (.iload 6, 2) := by decide +kernel
theorem dX10_wording_73 : decode cX10_wording 73 = .ok (.istore 4, 2) := by decide +kernel
theorem dX10_wording_75 : decode cX10_wording 75 = .ok (.iload 5, 2) := by decide +kernel
theorem dX10_wording_77 : decode cX10_wording 77 = .ok (.istore_n 3, 1) := by decide +kernel
theorem dX10_wording_78 : decode cX10_wording 78 = .ok (.iinc 5 1, 3) := by decide +kernel
theorem dX10_wording_81 : decode cX10_wording 81 = .ok (.goto (-33), 3) := by decide +kernel
theorem dX10_wording_84 : decode cX10_wording 84 = .ok (.iload_n 3, 1) := by decide +kernel
theorem dX10_wording_85 : decode cX10_wording 85 = .ok (.ireturn, 1) := by decide +kernel
theorem dX10_plan_0 : decode cX10_plan 0 = .ok (.iload_n 1, 1) := by decide +kernel
theorem dX10_plan_1 : decode cX10_plan 1 = .ok (.ifCond .lt 30, 3) := by decide +kernel
theorem dX10_plan_4 : decode cX10_plan 4 = .ok (.iload_n 1, 1) := by decide +kernel
theorem dX10_plan_5 : decode cX10_plan 5 = .ok (.iconst 1, 1) := by decide +kernel
theorem dX10_plan_6 : decode cX10_plan 6 = .ok (.aload_n 0, 1) := by decide +kernel
theorem dX10_plan_7 : decode cX10_plan 7 = .ok (.getfield 174, 3) := by decide +kernel
theorem dX10_plan_10 : decode cX10_plan 10 = .ok (.ishl, 1) := by decide +kernel
theorem dX10_plan_11 : decode cX10_plan 11 = .ok (.if_icmp .ge 20, 3) := by decide +kernel
theorem dX10_plan_14 : decode cX10_plan 14 = .ok (.iload_n 1, 1) := by decide +kernel
theorem dX10_plan_15 : decode cX10_plan 15 = .ok (.invokestatic 204, 3) := by decide +kernel
theorem dX10_plan_18 : decode cX10_plan 18 = .ok (.iconst 4, 1) := by decide +kernel
theorem dX10_plan_19 : decode cX10_plan 19 = .ok (.if_icmp .gt 12, 3) := by decide +kernel
theorem dX10_plan_22 : decode cX10_plan 22 = .ok (.iload_n 2, 1) := by decide +kernel
theorem dX10_plan_23 : decode cX10_plan 23 = .ok (.bipush 48, 2) := by decide +kernel
theorem dX10_plan_25 : decode cX10_plan 25 = .ok (.invokestatic 75, 3) := by decide +kernel
theorem dX10_plan_28 : decode cX10_plan 28 = .ok (.ifCond .ne 5, 3) := by decide +kernel
theorem dX10_plan_31 : decode cX10_plan 31 = .ok (.iconst (-1), 1) := by decide +kernel
theorem dX10_plan_32 : decode cX10_plan 32 = .ok (.ireturn, 1) := by decide +kernel
theorem dX10_plan_33 : decode cX10_plan 33 = .ok (.iconst 0, 1) := by decide +kernel
theorem dX10_plan_34 : decode cX10_plan 34 = .ok (.istore_n 3, 1) := by decide +kernel
theorem dX10_plan_35 : decode cX10_plan 35 = .ok (.iload_n 3, 1) := by decide +kernel
theorem dX10_plan_36 : decode cX10_plan 36 = .ok (.aload_n 0, 1) := by decide +kernel
theorem dX10_plan_37 : decode cX10_plan 37 = .ok (.getfield 174, 3) := by decide +kernel
theorem dX10_plan_40 : decode cX10_plan 40 = .ok (.if_icmp .ge 32, 3) := by decide +kernel
theorem dX10_plan_43 : decode cX10_plan 43 = .ok (.iload_n 1, 1) := by decide +kernel
theorem dX10_plan_44 : decode cX10_plan 44 = .ok (.iload_n 3, 1) := by decide +kernel
theorem dX10_plan_45 : decode cX10_plan 45 = .ok (.invokestatic 210, 3) := by decide +kernel
theorem dX10_plan_48 : decode cX10_plan 48 = .ok (.ifCond .eq 18, 3) := by decide +kernel
theorem dX10_plan_51 : decode cX10_plan 51 = .ok (.aload_n 0, 1) := by decide +kernel
theorem dX10_plan_52 : decode cX10_plan 52 = .ok (.getfield 18, 3) := by decide +kernel
theorem dX10_plan_55 : decode cX10_plan 55 = .ok (.iload_n 3, 1) := by decide +kernel
theorem dX10_plan_56 : decode cX10_plan 56 = .ok (.aaload, 1) := by decide +kernel
theorem dX10_plan_57 : decode cX10_plan 57 = .ok (.invokevirtual 189, 3) := by decide +kernel
theorem dX10_plan_60 : decode cX10_plan 60 = .ok (.ifCond .eq 6, 3) := by decide +kernel
theorem dX10_plan_63 : decode cX10_plan 63 = .ok (.bipush (-2), 2) := by decide +kernel
theorem dX10_plan_65 : decode cX10_plan 65 = .ok (.ireturn, 1) := by decide +kernel
theorem dX10_plan_66 : decode cX10_plan 66 = .ok (.iinc 3 1, 3) := by decide +kernel
theorem dX10_plan_69 : decode cX10_plan 69 = .ok (.goto (-34), 3) := by decide +kernel
theorem dX10_plan_72 : decode cX10_plan 72 = .ok (.iconst 0, 1) := by decide +kernel
theorem dX10_plan_73 : decode cX10_plan 73 = .ok (.istore_n 3, 1) := by decide +kernel
theorem dX10_plan_74 : decode cX10_plan 74 = .ok (.iconst 0, 1) := by decide +kernel
theorem dX10_plan_75 : decode cX10_plan 75 = .ok (.istore 4, 2) := by decide +kernel
theorem dX10_plan_77 : decode cX10_plan 77 = .ok (.iload 4, 2) := by decide +kernel
theorem dX10_plan_79 : decode cX10_plan 79 = .ok (.aload_n 0, 1) := by decide +kernel
theorem dX10_plan_80 : decode cX10_plan 80 = .ok (.getfield 174, 3) := by decide +kernel
theorem dX10_plan_83 : decode cX10_plan 83 = .ok (.if_icmp .ge 44, 3) := by decide +kernel
theorem dX10_plan_86 : decode cX10_plan 86 = .ok (.iload_n 1, 1) := by decide +kernel
theorem dX10_plan_87 : decode cX10_plan 87 = .ok (.iload 4, 2) := by decide +kernel
theorem dX10_plan_89 : decode cX10_plan 89 = .ok (.invokestatic 210, 3) := by decide +kernel
theorem dX10_plan_92 : decode cX10_plan 92 = .ok (.ifCond .eq 29, 3) := by decide +kernel
theorem dX10_plan_95 : decode cX10_plan 95 = .ok (.aload_n 0, 1) := by decide +kernel
theorem dX10_plan_96 : decode cX10_plan 96 = .ok (.iload 4, 2) := by decide +kernel
theorem dX10_plan_98 : decode cX10_plan 98 = .ok (.iconst 0, 1) := by decide +kernel
theorem dX10_plan_99 : decode cX10_plan 99 = .ok (.iload_n 2, 1) := by decide +kernel
theorem dX10_plan_100 : decode cX10_plan 100 = .ok (.invokevirtual 201, 3) := by decide +kernel
theorem dX10_plan_103 : decode cX10_plan 103 = .ok (.aload_n 0, 1) := by decide +kernel
theorem dX10_plan_104 : decode cX10_plan 104 = .ok (.iload 4, 2) := by decide +kernel
theorem dX10_plan_106 : decode cX10_plan 106 = .ok (.iconst 3, 1) := by decide +kernel
theorem dX10_plan_107 : decode cX10_plan 107 = .ok (.iload_n 2, 1) := by decide +kernel
theorem dX10_plan_108 : decode cX10_plan 108 = .ok (.invokevirtual 201, 3) := by decide +kernel
theorem dX10_plan_111 : decode cX10_plan 111 = .ok (.if_icmp .ge 10, 3) := by decide +kernel
theorem dX10_plan_114 : decode cX10_plan 114 = .ok (.iload_n 3, 1) := by decide +kernel
theorem dX10_plan_115 : decode cX10_plan 115 = .ok (.iconst 1, 1) := by decide +kernel
theorem dX10_plan_116 : decode cX10_plan 116 = .ok (.iload 4, 2) := by decide +kernel
theorem dX10_plan_118 : decode cX10_plan 118 = .ok (.ishl, 1) := by decide +kernel
theorem dX10_plan_119 : decode cX10_plan 119 = .ok (.ior, 1) := by decide +kernel
theorem dX10_plan_120 : decode cX10_plan 120 = .ok (.istore_n 3, 1) := by decide +kernel
theorem dX10_plan_121 : decode cX10_plan 121 = .ok (.iinc 4 1, 3) := by decide +kernel
theorem dX10_plan_124 : decode cX10_plan 124 = .ok (.goto (-47), 3) := by decide +kernel
theorem dX10_plan_127 : decode cX10_plan 127 = .ok (.iload_n 3, 1) := by decide +kernel
theorem dX10_plan_128 : decode cX10_plan 128 = .ok (.ireturn, 1) := by decide +kernel
theorem dX10_type_0 : decode cX10_type 0 = .ok (.iload_n 3, 1) := by decide +kernel
theorem dX10_type_1 : decode cX10_type 1 = .ok (.iconst 1, 1) := by decide +kernel
theorem dX10_type_2 : decode cX10_type 2 = .ok (.if_icmp .lt 9, 3) := by decide +kernel
theorem dX10_type_5 : decode cX10_type 5 = .ok (.iload_n 3, 1) := by decide +kernel
theorem dX10_type_6 : decode cX10_type 6 = .ok (.bipush 8, 2) := by decide +kernel
theorem dX10_type_8 : decode cX10_type 8 = .ok (.if_icmp .le 5, 3) := by decide +kernel
theorem dX10_type_11 : decode cX10_type 11 = .ok (.iconst (-1), 1) := by decide +kernel
theorem dX10_type_12 : decode cX10_type 12 = .ok (.ireturn, 1) := by decide +kernel
theorem dX10_type_13 : decode cX10_type 13 = .ok (.iconst 0, 1) := by decide +kernel
theorem dX10_type_14 : decode cX10_type 14 = .ok (.istore 4, 2) := by decide +kernel
theorem dX10_type_16 : decode cX10_type 16 = .ok (.iload 4, 2) := by decide +kernel
theorem dX10_type_18 : decode cX10_type 18 = .ok (.iload_n 3, 1) := by decide +kernel
theorem dX10_type_19 : decode cX10_type 19 = .ok (.if_icmp .ge 33, 3) := by decide +kernel
theorem dX10_type_22 : decode cX10_type 22 = .ok (.lload_n 1, 1) := by decide +kernel
theorem dX10_type_23 : decode cX10_type 23 = .ok (.iload 4, 2) := by decide +kernel
theorem dX10_type_25 : decode cX10_type 25 = .ok (.invokestatic 213, 3) := by decide +kernel
theorem dX10_type_28 : decode cX10_type 28 = .ok (.istore 5, 2) := by decide +kernel
theorem dX10_type_30 : decode cX10_type 30 = .ok (.iload 5, 2) := by decide +kernel
theorem dX10_type_32 : decode cX10_type 32 = .ok (.bipush 32, 2) := by decide +kernel
theorem dX10_type_34 : decode cX10_type 34 = .ok (.if_icmp .lt 10, 3) := by decide +kernel
theorem dX10_type_37 : decode cX10_type 37 = .ok (.iload 5, 2) := by decide +kernel
theorem dX10_type_39 : decode cX10_type 39 = .ok (.bipush 126, 2) := by decide +kernel
theorem dX10_type_41 : decode cX10_type 41 = .ok (.if_icmp .le 5, 3) := by decide +kernel
theorem dX10_type_44 : decode cX10_type 44 = .ok (.iconst (-1), 1) := by decide +kernel
theorem dX10_type_45 : decode cX10_type 45 = .ok (.ireturn, 1) := by decide +kernel
theorem dX10_type_46 : decode cX10_type 46 = .ok (.iinc 4 1, 3) := by decide +kernel
theorem dX10_type_49 : decode cX10_type 49 = .ok (.goto (-33), 3) := by decide +kernel
theorem dX10_type_52 : decode cX10_type 52 = .ok (.aload_n 0, 1) := by decide +kernel
theorem dX10_type_53 : decode cX10_type 53 = .ok (.getfield 32, 3) := by decide +kernel
theorem dX10_type_56 : decode cX10_type 56 = .ok (.getfield 217, 3) := by decide +kernel
theorem dX10_type_59 : decode cX10_type 59 = .ok (.iload_n 3, 1) := by decide +kernel
theorem dX10_type_60 : decode cX10_type 60 = .ok (.iadd, 1) := by decide +kernel
theorem dX10_type_61 : decode cX10_type 61 = .ok (.bipush 120, 2) := by decide +kernel
theorem dX10_type_63 : decode cX10_type 63 = .ok (.if_icmp .le 6, 3) := by decide +kernel
theorem dX10_type_66 : decode cX10_type 66 = .ok (.bipush (-3), 2) := by decide +kernel
theorem dX10_type_68 : decode cX10_type 68 = .ok (.ireturn, 1) := by decide +kernel
theorem dX10_type_69 : decode cX10_type 69 = .ok (.iload_n 3, 1) := by decide +kernel
theorem dX10_type_70 : decode cX10_type 70 = .ok (.iconst 1, 1) := by decide +kernel
theorem dX10_type_71 : decode cX10_type 71 = .ok (.isub, 1) := by decide +kernel
theorem dX10_type_72 : decode cX10_type 72 = .ok (.istore 4, 2) := by decide +kernel
theorem dX10_type_74 : decode cX10_type 74 = .ok (.iload 4, 2) := by decide +kernel
theorem dX10_type_76 : decode cX10_type 76 = .ok (.ifCond .lt 23, 3) := by decide +kernel
theorem dX10_type_79 : decode cX10_type 79 = .ok (.aload_n 0, 1) := by decide +kernel
theorem dX10_type_80 : decode cX10_type 80 = .ok (.getfield 32, 3) := by decide +kernel
theorem dX10_type_83 : decode cX10_type 83 = .ok (.lload_n 1, 1) := by decide +kernel
theorem dX10_type_84 : decode cX10_type 84 = .ok (.iload 4, 2) := by decide +kernel
theorem dX10_type_86 : decode cX10_type 86 = .ok (.invokestatic 213, 3) := by decide +kernel
theorem dX10_type_89 : decode cX10_type 89 = .ok (.i2c, 1) := by decide +kernel
theorem dX10_type_90 : decode cX10_type 90 = .ok (.invokevirtual 220, 3) := by decide +kernel
theorem dX10_type_93 : decode cX10_type 93 = .ok (.iinc 4 (-1), 3) := by decide +kernel
theorem dX10_type_96 : decode cX10_type 96 = .ok (.goto (-22), 3) := by decide +kernel
theorem dX10_type_99 : decode cX10_type 99 = .ok (.aload_n 0, 1) := by decide +kernel
theorem dX10_type_100 : decode cX10_type 100 = .ok (.getfield 32, 3) := by decide +kernel
theorem dX10_type_103 : decode cX10_type 103 = .ok (.getfield 217, 3) := by decide +kernel
theorem dX10_type_106 : decode cX10_type 106 = .ok (.ireturn, 1) := by decide +kernel
theorem dX10_guide_0 : decode cX10_guide 0 = .ok (.aload_n 0, 1) := by decide +kernel
theorem dX10_guide_1 : decode cX10_guide 1 = .ok (.getfield 32, 3) := by decide +kernel
theorem dX10_guide_4 : decode cX10_guide 4 = .ok (.aload_n 0, 1) := by decide +kernel
theorem dX10_guide_5 : decode cX10_guide 5 = .ok (.getfield 70, 3) := by decide +kernel
theorem dX10_guide_8 : decode cX10_guide 8 = .ok (.invokevirtual 224, 3) := by decide +kernel
theorem dX10_guide_11 : decode cX10_guide 11 = .ok (.istore_n 1, 1) := by decide +kernel
theorem dX10_guide_12 : decode cX10_guide 12 = .ok (.iload_n 1, 1) := by decide +kernel
theorem dX10_guide_13 : decode cX10_guide 13 = .ok (.ifCond .lt 21, 3) := by decide +kernel
theorem dX10_guide_16 : decode cX10_guide 16 = .ok (.aload_n 0, 1) := by decide +kernel
theorem dX10_guide_17 : decode cX10_guide 17 = .ok (.getfield 66, 3) := by decide +kernel
theorem dX10_guide_20 : decode cX10_guide 20 = .ok (.astore_n 2, 1) := by decide +kernel
theorem dX10_guide_21 : decode cX10_guide 21 = .ok (.aload_n 0, 1) := by decide +kernel
theorem dX10_guide_22 : decode cX10_guide 22 = .ok (.aload_n 0, 1) := by decide +kernel
theorem dX10_guide_23 : decode cX10_guide 23 = .ok (.getfield 70, 3) := by decide +kernel
theorem dX10_guide_26 : decode cX10_guide 26 = .ok (.putfield 66, 3) := by decide +kernel
theorem dX10_guide_29 : decode cX10_guide 29 = .ok (.aload_n 0, 1) := by decide +kernel
theorem dX10_guide_30 : decode cX10_guide 30 = .ok (.aload_n 2, 1) := by decide +kernel
theorem dX10_guide_31 : decode cX10_guide 31 = .ok (.putfield 70, 3) := by decide +kernel
theorem dX10_guide_34 : decode cX10_guide 34 = .ok (.aload_n 0, 1) := by decide +kernel
theorem dX10_guide_35 : decode cX10_guide 35 = .ok (.getfield 32, 3) := by decide +kernel
theorem dX10_guide_38 : decode cX10_guide 38 = .ok (.iconst 0, 1) := by decide +kernel
theorem dX10_guide_39 : decode cX10_guide 39 = .ok (.putfield 217, 3) := by decide +kernel
theorem dX10_guide_42 : decode cX10_guide 42 = .ok (.iload_n 1, 1) := by decide +kernel
theorem dX10_guide_43 : decode cX10_guide 43 = .ok (.ireturn, 1) := by decide +kernel
theorem dX10_why_0 : decode cX10_why 0 = .ok (.aload_n 0, 1) := by decide +kernel
theorem dX10_why_1 : decode cX10_why 1 = .ok (.iload_n 1, 1) := by decide +kernel
theorem dX10_why_2 : decode cX10_why 2 = .ok (.invokevirtual 116, 3) := by decide +kernel
theorem dX10_why_5 : decode cX10_why 5 = .ok (.ifCond .eq 11, 3) := by decide +kernel
theorem dX10_why_8 : decode cX10_why 8 = .ok (.iload_n 2, 1) := by decide +kernel
theorem dX10_why_9 : decode cX10_why 9 = .ok (.iconst 1, 1) := by decide +kernel
theorem dX10_why_10 : decode cX10_why 10 = .ok (.invokestatic 75, 3) := by decide +kernel
theorem dX10_why_13 : decode cX10_why 13 = .ok (.ifCond .ne 5, 3) := by decide +kernel
theorem dX10_why_16 : decode cX10_why 16 = .ok (.iconst (-1), 1) := by decide +kernel
theorem dX10_why_17 : decode cX10_why 17 = .ok (.ireturn, 1) := by decide +kernel
theorem dX10_why_18 : decode cX10_why 18 = .ok (.aload_n 0, 1) := by decide +kernel
theorem dX10_why_19 : decode cX10_why 19 = .ok (.getfield 66, 3) := by decide +kernel
theorem dX10_why_22 : decode cX10_why 22 = .ok (.aload_n 0, 1) := by decide +kernel
theorem dX10_why_23 : decode cX10_why 23 = .ok (.getfield 18, 3) := by decide +kernel
theorem dX10_why_26 : decode cX10_why 26 = .ok (.iload_n 1, 1) := by decide +kernel
theorem dX10_why_27 : decode cX10_why 27 = .ok (.aaload, 1) := by decide +kernel
theorem dX10_why_28 : decode cX10_why 28 = .ok (.getfield 119, 3) := by decide +kernel
theorem dX10_why_31 : decode cX10_why 31 = .ok (.aload_n 0, 1) := by decide +kernel
theorem dX10_why_32 : decode cX10_why 32 = .ok (.getfield 149, 3) := by decide +kernel
theorem dX10_why_35 : decode cX10_why 35 = .ok (.bipush 24, 2) := by decide +kernel
theorem dX10_why_37 : decode cX10_why 37 = .ok (.idiv, 1) := by decide +kernel
theorem dX10_why_38 : decode cX10_why 38 = .ok (.invokevirtual 228, 3) := by decide +kernel
theorem dX10_why_41 : decode cX10_why 41 = .ok (.istore_n 3, 1) := by decide +kernel
theorem dX10_why_42 : decode cX10_why 42 = .ok (.iload_n 3, 1) := by decide +kernel
theorem dX10_why_43 : decode cX10_why 43 = .ok (.bipush (-4), 2) := by decide +kernel
theorem dX10_why_45 : decode cX10_why 45 = .ok (.if_icmp .ne 6, 3) := by decide +kernel
theorem dX10_why_48 : decode cX10_why 48 = .ok (.bipush (-4), 2) := by decide +kernel
theorem dX10_why_50 : decode cX10_why 50 = .ok (.ireturn, 1) := by decide +kernel
theorem dX10_why_51 : decode cX10_why 51 = .ok (.iload_n 2, 1) := by decide +kernel
theorem dX10_why_52 : decode cX10_why 52 = .ok (.ifCond .ne 7, 3) := by decide +kernel
theorem dX10_why_55 : decode cX10_why 55 = .ok (.iload_n 3, 1) := by decide +kernel
theorem dX10_why_56 : decode cX10_why 56 = .ok (.goto 12, 3) := by decide +kernel
theorem dX10_why_59 : decode cX10_why 59 = .ok (.aload_n 0, 1) := by decide +kernel
theorem dX10_why_60 : decode cX10_why 60 = .ok (.getfield 66, 3) := by decide +kernel
theorem dX10_why_63 : decode cX10_why 63 = .ok (.getfield 231, 3) := by decide +kernel
theorem dX10_why_66 : decode cX10_why 66 = .ok (.iload_n 3, 1) := by decide +kernel
theorem dX10_why_67 : decode cX10_why 67 = .ok (.iaload, 1) := by decide +kernel
theorem dX10_why_68 : decode cX10_why 68 = .ok (.ireturn, 1) := by decide +kernel
theorem dX10_versions_0 : decode cX10_versions 0 = .ok (.aload_n 0, 1) := by decide +kernel
theorem dX10_versions_1 : decode cX10_versions 1 = .ok (.iload_n 1, 1) := by decide +kernel
theorem dX10_versions_2 : decode cX10_versions 2 = .ok (.invokevirtual 116, 3) := by decide +kernel
theorem dX10_versions_5 : decode cX10_versions 5 = .ok (.ifCond .ne 5, 3) := by decide +kernel
theorem dX10_versions_8 : decode cX10_versions 8 = .ok (.iconst (-1), 1) := by decide +kernel
theorem dX10_versions_9 : decode cX10_versions 9 = .ok (.ireturn, 1) := by decide +kernel
theorem dX10_versions_10 : decode cX10_versions 10 = .ok (.aload_n 0, 1) := by decide +kernel
theorem dX10_versions_11 : decode cX10_versions 11 = .ok (.getfield 39, 3) := by decide +kernel
theorem dX10_versions_14 : decode cX10_versions 14 = .ok (.aload_n 0, 1) := by decide +kernel
theorem dX10_versions_15 : decode cX10_versions 15 = .ok (.getfield 18, 3) := by decide +kernel
theorem dX10_versions_18 : decode cX10_versions 18 = .ok (.iload_n 1, 1) := by decide +kernel
theorem dX10_versions_19 : decode cX10_versions 19 = .ok (.aaload, 1) := by decide +kernel
theorem dX10_versions_20 : decode cX10_versions 20 = .ok (.getfield 152, 3) := by decide +kernel
theorem dX10_versions_23 : decode cX10_versions 23 = .ok (.aload_n 0, 1) := by decide +kernel
theorem dX10_versions_24 : decode cX10_versions 24 = .ok (.getfield 10, 3) := by decide +kernel
theorem dX10_versions_27 : decode cX10_versions 27 = .ok (.getfield 82, 3) := by decide +kernel
theorem dX10_versions_30 : decode cX10_versions 30 = .ok (.invokevirtual 234, 3) := by decide +kernel
theorem dX10_versions_33 : decode cX10_versions 33 = .ok (.aload_n 0, 1) := by decide +kernel
theorem dX10_versions_34 : decode cX10_versions 34 = .ok (.getfield 39, 3) := by decide +kernel
theorem dX10_versions_37 : decode cX10_versions 37 = .ok (.getfield 238, 3) := by decide +kernel
theorem dX10_versions_40 : decode cX10_versions 40 = .ok (.ireturn, 1) := by decide +kernel
theorem dX10_version_0 : decode cX10_version 0 = .ok (.aload_n 0, 1) := by decide +kernel
theorem dX10_version_1 : decode cX10_version 1 = .ok (.iload_n 1, 1) := by decide +kernel
theorem dX10_version_2 : decode cX10_version 2 = .ok (.invokevirtual 116, 3) := by decide +kernel
theorem dX10_version_5 : decode cX10_version 5 = .ok (.ifCond .eq 11, 3) := by decide +kernel
theorem dX10_version_8 : decode cX10_version 8 = .ok (.iload_n 3, 1) := by decide +kernel
theorem dX10_version_9 : decode cX10_version 9 = .ok (.iconst 1, 1) := by decide +kernel
theorem dX10_version_10 : decode cX10_version 10 = .ok (.invokestatic 75, 3) := by decide +kernel
theorem dX10_version_13 : decode cX10_version 13 = .ok (.ifCond .ne 5, 3) := by decide +kernel
theorem dX10_version_16 : decode cX10_version 16 = .ok (.iconst (-1), 1) := by decide +kernel
theorem dX10_version_17 : decode cX10_version 17 = .ok (.ireturn, 1) := by decide +kernel
theorem dX10_version_18 : decode cX10_version 18 = .ok (.aload_n 0, 1) := by decide +kernel
theorem dX10_version_19 : decode cX10_version 19 = .ok (.getfield 39, 3) := by decide +kernel
theorem dX10_version_22 : decode cX10_version 22 = .ok (.aload_n 0, 1) := by decide +kernel
theorem dX10_version_23 : decode cX10_version 23 = .ok (.getfield 18, 3) := by decide +kernel
theorem dX10_version_26 : decode cX10_version 26 = .ok (.iload_n 1, 1) := by decide +kernel
theorem dX10_version_27 : decode cX10_version 27 = .ok (.aaload, 1) := by decide +kernel
theorem dX10_version_28 : decode cX10_version 28 = .ok (.getfield 152, 3) := by decide +kernel
theorem dX10_version_31 : decode cX10_version 31 = .ok (.aload_n 0, 1) := by decide +kernel
theorem dX10_version_32 : decode cX10_version 32 = .ok (.getfield 10, 3) := by decide +kernel
theorem dX10_version_35 : decode cX10_version 35 = .ok (.getfield 82, 3) := by decide +kernel
theorem dX10_version_38 : decode cX10_version 38 = .ok (.invokevirtual 234, 3) := by decide +kernel
theorem dX10_version_41 : decode cX10_version 41 = .ok (.iload_n 2, 1) := by decide +kernel
theorem dX10_version_42 : decode cX10_version 42 = .ok (.aload_n 0, 1) := by decide +kernel
theorem dX10_version_43 : decode cX10_version 43 = .ok (.getfield 39, 3) := by decide +kernel
theorem dX10_version_46 : decode cX10_version 46 = .ok (.getfield 238, 3) := by decide +kernel
theorem dX10_version_49 : decode cX10_version 49 = .ok (.iconst 1, 1) := by decide +kernel
theorem dX10_version_50 : decode cX10_version 50 = .ok (.isub, 1) := by decide +kernel
theorem dX10_version_51 : decode cX10_version 51 = .ok (.invokestatic 75, 3) := by decide +kernel
theorem dX10_version_54 : decode cX10_version 54 = .ok (.ifCond .ne 5, 3) := by decide +kernel
theorem dX10_version_57 : decode cX10_version 57 = .ok (.iconst (-1), 1) := by decide +kernel
theorem dX10_version_58 : decode cX10_version 58 = .ok (.ireturn, 1) := by decide +kernel
theorem dX10_version_59 : decode cX10_version 59 = .ok (.iload_n 3, 1) := by decide +kernel
theorem dX10_version_60 : decode cX10_version 60 = .ok (.ifCond .ne 13, 3) := by decide +kernel
theorem dX10_version_63 : decode cX10_version 63 = .ok (.aload_n 0, 1) := by decide +kernel
theorem dX10_version_64 : decode cX10_version 64 = .ok (.getfield 39, 3) := by decide +kernel
theorem dX10_version_67 : decode cX10_version 67 = .ok (.getfield 239, 3) := by decide +kernel
theorem dX10_version_70 : decode cX10_version 70 = .ok (.iload_n 2, 1) := by decide +kernel
theorem dX10_version_71 : decode cX10_version 71 = .ok (.iaload, 1) := by decide +kernel
theorem dX10_version_72 : decode cX10_version 72 = .ok (.ireturn, 1) := by decide +kernel
theorem dX10_version_73 : decode cX10_version 73 = .ok (.aload_n 0, 1) := by decide +kernel
theorem dX10_version_74 : decode cX10_version 74 = .ok (.getfield 39, 3) := by decide +kernel
theorem dX10_version_77 : decode cX10_version 77 = .ok (.invokevirtual 242, 3) := by decide +kernel
theorem dX10_version_80 : decode cX10_version 80 = .ok (.pop, 1) := by decide +kernel
theorem dX10_version_81 : decode cX10_version 81 = .ok (.aload_n 0, 1) := by decide +kernel
theorem dX10_version_82 : decode cX10_version 82 = .ok (.getfield 39, 3) := by decide +kernel
theorem dX10_version_85 : decode cX10_version 85 = .ok (.getfield 246, 3) := by decide +kernel
theorem dX10_version_88 : decode cX10_version 88 = .ok (.iload_n 2, 1) := by decide +kernel
theorem dX10_version_89 : decode cX10_version 89 = .ok (.iaload, 1) := by decide +kernel
theorem dX10_version_90 : decode cX10_version 90 = .ok (.ireturn, 1) := by decide +kernel
theorem dX10_kin_0 : decode cX10_kin 0 = .ok (.aload_n 0, 1) := by decide +kernel
theorem dX10_kin_1 : decode cX10_kin 1 = .ok (.iload_n 1, 1) := by decide +kernel
theorem dX10_kin_2 : decode cX10_kin 2 = .ok (.invokevirtual 116, 3) := by decide +kernel
theorem dX10_kin_5 : decode cX10_kin 5 = .ok (.ifCond .ne 5, 3) := by decide +kernel
theorem dX10_kin_8 : decode cX10_kin 8 = .ok (.iconst (-1), 1) := by decide +kernel
theorem dX10_kin_9 : decode cX10_kin 9 = .ok (.ireturn, 1) := by decide +kernel
theorem dX10_kin_10 : decode cX10_kin 10 = .ok (.aload_n 0, 1) := by decide +kernel
theorem dX10_kin_11 : decode cX10_kin 11 = .ok (.getfield 39, 3) := by decide +kernel
theorem dX10_kin_14 : decode cX10_kin 14 = .ok (.aload_n 0, 1) := by decide +kernel
theorem dX10_kin_15 : decode cX10_kin 15 = .ok (.getfield 18, 3) := by decide +kernel
theorem dX10_kin_18 : decode cX10_kin 18 = .ok (.iload_n 1, 1) := by decide +kernel
theorem dX10_kin_19 : decode cX10_kin 19 = .ok (.aaload, 1) := by decide +kernel
theorem dX10_kin_20 : decode cX10_kin 20 = .ok (.getfield 152, 3) := by decide +kernel
theorem dX10_kin_23 : decode cX10_kin 23 = .ok (.aload_n 0, 1) := by decide +kernel
theorem dX10_kin_24 : decode cX10_kin 24 = .ok (.getfield 10, 3) := by decide +kernel
theorem dX10_kin_27 : decode cX10_kin 27 = .ok (.getfield 82, 3) := by decide +kernel
theorem dX10_kin_30 : decode cX10_kin 30 = .ok (.invokevirtual 234, 3) := by decide +kernel
theorem dX10_kin_33 : decode cX10_kin 33 = .ok (.aload_n 0, 1) := by decide +kernel
theorem dX10_kin_34 : decode cX10_kin 34 = .ok (.getfield 39, 3) := by decide +kernel
theorem dX10_kin_37 : decode cX10_kin 37 = .ok (.invokevirtual 242, 3) := by decide +kernel
theorem dX10_kin_40 : decode cX10_kin 40 = .ok (.ireturn, 1) := by decide +kernel
theorem dX10_report_0 : decode cX10_report 0 = .ok (.iload_n 1, 1) := by decide +kernel
theorem dX10_report_1 : decode cX10_report 1 = .ok (.iconst 5, 1) := by decide +kernel
theorem dX10_report_2 : decode cX10_report 2 = .ok (.invokestatic 75, 3) := by decide +kernel
theorem dX10_report_5 : decode cX10_report 5 = .ok (.ifCond .eq 12, 3) := by decide +kernel
theorem dX10_report_8 : decode cX10_report 8 = .ok (.iload_n 2, 1) := by decide +kernel
theorem dX10_report_9 : decode cX10_report 9 = .ok (.bipush 23, 2) := by decide +kernel
theorem dX10_report_11 : decode cX10_report 11 = .ok (.invokestatic 75, 3) := by decide +kernel
theorem dX10_report_14 : decode cX10_report 14 = .ok (.ifCond .ne 5, 3) := by decide +kernel
theorem dX10_report_17 : decode cX10_report 17 = .ok (.iconst (-1), 1) := by decide +kernel
theorem dX10_report_18 : decode cX10_report 18 = .ok (.ireturn, 1) := by decide +kernel
theorem dX10_report_19 : decode cX10_report 19 = .ok (.aload_n 0, 1) := by decide +kernel
theorem dX10_report_20 : decode cX10_report 20 = .ok (.getfield 46, 3) := by decide +kernel
theorem dX10_report_23 : decode cX10_report 23 = .ok (.getfield 180, 3) := by decide +kernel
theorem dX10_report_26 : decode cX10_report 26 = .ok (.bipush 12, 2) := by decide +kernel
theorem dX10_report_28 : decode cX10_report 28 = .ok (.if_icmp .lt 6, 3) := by decide +kernel
theorem dX10_report_31 : decode cX10_report 31 = .ok (.bipush (-3), 2) := by decide +kernel
theorem dX10_report_33 : decode cX10_report 33 = .ok (.ireturn, 1) := by decide +kernel
theorem dX10_report_34 : decode cX10_report 34 = .ok (.aload_n 0, 1) := by decide +kernel
theorem dX10_report_35 : decode cX10_report 35 = .ok (.getfield 46, 3) := by decide +kernel
theorem dX10_report_38 : decode cX10_report 38 = .ok (.iload_n 1, 1) := by decide +kernel
theorem dX10_report_39 : decode cX10_report 39 = .ok (.iload_n 2, 1) := by decide +kernel
theorem dX10_report_40 : decode cX10_report 40 = .ok (.iload_n 3, 1) := by decide +kernel
theorem dX10_report_41 : decode cX10_report 41 = .ok (.invokevirtual 249, 3) := by decide +kernel
theorem dX10_report_44 : decode cX10_report 44 = .ok (.ireturn, 1) := by decide +kernel
theorem dX10_clear_0 : decode cX10_clear 0 = .ok (.aload_n 0, 1) := by decide +kernel
theorem dX10_clear_1 : decode cX10_clear 1 = .ok (.getfield 46, 3) := by decide +kernel
theorem dX10_clear_4 : decode cX10_clear 4 = .ok (.invokevirtual 253, 3) := by decide +kernel
theorem dX10_clear_7 : decode cX10_clear 7 = .ok (.ireturn, 1) := by decide +kernel
theorem dX10_could_0 : decode cX10_could 0 = .ok (.aload_n 0, 1) := by decide +kernel
theorem dX10_could_1 : decode cX10_could 1 = .ok (.iload_n 1, 1) := by decide +kernel
theorem dX10_could_2 : decode cX10_could 2 = .ok (.invokevirtual 116, 3) := by decide +kernel
theorem dX10_could_5 : decode cX10_could 5 = .ok (.ifCond .eq 20, 3) := by decide +kernel
theorem dX10_could_8 : decode cX10_could 8 = .ok (.aload_n 0, 1) := by decide +kernel
theorem dX10_could_9 : decode cX10_could 9 = .ok (.iload_n 2, 1) := by decide +kernel
theorem dX10_could_10 : decode cX10_could 10 = .ok (.invokevirtual 90, 3) := by decide +kernel
theorem dX10_could_13 : decode cX10_could 13 = .ok (.ifCond .eq 12, 3) := by decide +kernel
theorem dX10_could_16 : decode cX10_could 16 = .ok (.iload_n 3, 1) := by decide +kernel
theorem dX10_could_17 : decode cX10_could 17 = .ok (.bipush 23, 2) := by decide +kernel
theorem dX10_could_19 : decode cX10_could 19 = .ok (.invokestatic 75, 3) := by decide +kernel
theorem dX10_could_22 : decode cX10_could 22 = .ok (.ifCond .ne 5, 3) := by decide +kernel
theorem dX10_could_25 : decode cX10_could 25 = .ok (.iconst (-1), 1) := by decide +kernel
theorem dX10_could_26 : decode cX10_could 26 = .ok (.ireturn, 1) := by decide +kernel
theorem dX10_could_27 : decode cX10_could 27 = .ok (.aload_n 0, 1) := by decide +kernel
theorem dX10_could_28 : decode cX10_could 28 = .ok (.aload_n 0, 1) := by decide +kernel
theorem dX10_could_29 : decode cX10_could 29 = .ok (.getfield 18, 3) := by decide +kernel
theorem dX10_could_32 : decode cX10_could 32 = .ok (.iload_n 1, 1) := by decide +kernel
theorem dX10_could_33 : decode cX10_could 33 = .ok (.aaload, 1) := by decide +kernel
theorem dX10_could_34 : decode cX10_could 34 = .ok (.getfield 119, 3) := by decide +kernel
theorem dX10_could_37 : decode cX10_could 37 = .ok (.iload_n 2, 1) := by decide +kernel
theorem dX10_could_38 : decode cX10_could 38 = .ok (.iload_n 3, 1) := by decide +kernel
theorem dX10_could_39 : decode cX10_could 39 = .ok (.invokevirtual 256, 3) := by decide +kernel
theorem dX10_could_42 : decode cX10_could 42 = .ok (.ifCond .eq 7, 3) := by decide +kernel
theorem dX10_could_45 : decode cX10_could 45 = .ok (.iconst 1, 1) := by decide +kernel
theorem dX10_could_46 : decode cX10_could 46 = .ok (.goto 4, 3) := by decide +kernel
theorem dX10_could_49 : decode cX10_could 49 = .ok (.iconst 0, 1) := by decide +kernel
theorem dX10_could_50 : decode cX10_could 50 = .ok (.ireturn, 1) := by decide +kernel
theorem dX10_first_0 : decode cX10_first 0 = .ok (.aload_n 0, 1) := by decide +kernel
theorem dX10_first_1 : decode cX10_first 1 = .ok (.iload_n 1, 1) := by decide +kernel
theorem dX10_first_2 : decode cX10_first 2 = .ok (.invokevirtual 116, 3) := by decide +kernel
theorem dX10_first_5 : decode cX10_first 5 = .ok (.ifCond .ne 5, 3) := by decide +kernel
theorem dX10_first_8 : decode cX10_first 8 = .ok (.iconst (-1), 1) := by decide +kernel
theorem dX10_first_9 : decode cX10_first 9 = .ok (.ireturn, 1) := by decide +kernel
theorem dX10_first_10 : decode cX10_first 10 = .ok (.iconst 0, 1) := by decide +kernel
theorem dX10_first_11 : decode cX10_first 11 = .ok (.istore_n 2, 1) := by decide +kernel
theorem dX10_first_12 : decode cX10_first 12 = .ok (.iconst 0, 1) := by decide +kernel
theorem dX10_first_13 : decode cX10_first 13 = .ok (.istore_n 3, 1) := by decide +kernel
theorem dX10_first_14 : decode cX10_first 14 = .ok (.iload_n 3, 1) := by decide +kernel
theorem dX10_first_15 : decode cX10_first 15 = .ok (.aload_n 0, 1) := by decide +kernel
theorem dX10_first_16 : decode cX10_first 16 = .ok (.getfield 10, 3) := by decide +kernel
theorem dX10_first_19 : decode cX10_first 19 = .ok (.getfield 82, 3) := by decide +kernel
theorem dX10_first_22 : decode cX10_first 22 = .ok (.if_icmp .ge 32, 3) := by decide +kernel
theorem dX10_first_25 : decode cX10_first 25 = .ok (.aload_n 0, 1) := by decide +kernel
theorem dX10_first_26 : decode cX10_first 26 = .ok (.aload_n 0, 1) := by decide +kernel
theorem dX10_first_27 : decode cX10_first 27 = .ok (.getfield 18, 3) := by decide +kernel
theorem dX10_first_30 : decode cX10_first 30 = .ok (.iload_n 1, 1) := by decide +kernel
theorem dX10_first_31 : decode cX10_first 31 = .ok (.aaload, 1) := by decide +kernel
theorem dX10_first_32 : decode cX10_first 32 = .ok (.getfield 119, 3) := by decide +kernel
theorem dX10_first_35 : decode cX10_first 35 = .ok (.iload_n 3, 1) := by decide +kernel
theorem dX10_first_36 : decode cX10_first 36 = .ok (.invokevirtual 260, 3) := by decide +kernel
theorem dX10_first_39 : decode cX10_first 39 = .ok (.ifCond .eq 9, 3) := by decide +kernel
theorem dX10_first_42 : decode cX10_first 42 = .ok (.iload_n 2, 1) := by decide +kernel
