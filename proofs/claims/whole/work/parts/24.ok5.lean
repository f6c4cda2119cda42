set_option maxRecDepth 100000 in
theorem ok_cd_X11_far_0 (l : Launch) (D : va_G) (ad : Nat → Nat) (b0 : Nat) (Hb : Heap) : ∀ q ∈ cd_X11_far_0, am_ok l D ad b0 Hb am_If yX11_far cX11_far 4 (some .int) q.1 q.2 :=
  am_fc (ok_iconst dX11_far_0 (by decide) rfl) <|
  am_fc (ok_istore_n dX11_far_1 rfl rfl) <|
  am_fc (ok_iconst dX11_far_2 (by decide) rfl) <|
  am_fc (ok_istore_n dX11_far_3 rfl rfl) <|
  am_fc (ok_iload_n dX11_far_4 rfl rfl) <|
  am_fc (ok_iconst dX11_far_5 (by decide) rfl) <|
  am_fc (ok_cgt dX11_far_6 (by decide) rfl) <|
  am_fc (ok_iload_n dX11_far_9 rfl rfl) <|
  am_fc (ok_iload_n dX11_far_10 rfl rfl) <|
  am_fc (ok_iload_n dX11_far_11 rfl rfl) <|
  am_fc (ok_invS (i := ii_X11_partOf) rfl mm_X11_partOf dX11_far_12 w5_84 rfl) <|
  am_fc (ok_iload_n dX11_far_15 rfl rfl) <|
  am_fc (ok_iload_n dX11_far_16 rfl rfl) <|
  am_fc (ok_invS (i := ii_X11_partOf) rfl mm_X11_partOf dX11_far_17 w5_84 rfl) <|
  am_fc (ok_cne dX11_far_20 (by decide) rfl) <|
  am_fc (ok_iconst dX11_far_23 (by decide) rfl) <|
  am_fc (ok_goto dX11_far_24 (by decide)) <|
  am_fc (ok_iconst dX11_far_27 (by decide) rfl) <|
  am_fc (ok_iadd dX11_far_28 rfl) <|
  am_fc (ok_istore_n dX11_far_29 rfl rfl) <|
  am_fc (ok_iinc dX11_far_30 (by decide) rfl) <|
  am_fc (ok_goto dX11_far_33 (by decide)) <|
  am_fc (ok_iload_n dX11_far_36 rfl rfl) <|
  am_fc (ok_iret rfl dX11_far_37) <|
  am_fn
theorem ok_cd_X11_far (l : Launch) (D : va_G) (ad : Nat → Nat) (b0 : Nat) (Hb : Heap) : ∀ q ∈ cd_X11_far, am_ok l D ad b0 Hb am_If yX11_far cX11_far 4 (some .int) q.1 q.2 := ok_cd_X11_far_0 l D ad b0 Hb
set_option maxRecDepth 100000 in
theorem ok_cd_X11_joins_0 (l : Launch) (D : va_G) (ad : Nat → Nat) (b0 : Nat) (Hb : Heap) : ∀ q ∈ cd_X11_joins_0, am_ok l D ad b0 Hb am_If yX11_joins cX11_joins 10 (none) q.1 q.2 :=
  am_fc (ok_aload_n dX11_joins_0 rfl rfl) <|
  am_fc (ok_iload_n dX11_joins_1 rfl rfl) <|
  am_fc (ok_invV (i := ii_X11_looks) rfl (Or.inr ⟨_, rfl, by decide, rfl⟩) mm_X11_looks dX11_joins_2 w6_27 rfl) <|
  am_fc (ok_aload_n dX11_joins_5 rfl rfl) <|
  am_fc (ok_iconst dX11_joins_6 (by decide) rfl) <|
  am_fc (ok_putI cl_10 (by decide) rfl (Or.inl rfl) dX11_joins_7 w4_153 rfl) <|
  am_fc (ok_iconst dX11_joins_10 (by decide) rfl) <|
  am_fc (ok_istore_n dX11_joins_11 rfl rfl) <|
  am_fc (ok_aload_n dX11_joins_12 rfl rfl) <|
  am_fc (ok_getR cl_10 (by decide) rfl dX11_joins_13 w4_152 rfl) <|
  am_fc (ok_iconst dX11_joins_16 (by decide) rfl) <|
  am_fc (ok_bipush dX11_joins_17 (by decide) rfl) <|
  am_fc (ok_iast dX11_joins_19 rfl) <|
  am_fc (ok_iconst dX11_joins_20 (by decide) rfl) <|
  am_fc (ok_istore_n dX11_joins_21 rfl rfl) <|
  am_fc (ok_iload_n dX11_joins_22 rfl rfl) <|
  am_fc (ok_aload_n dX11_joins_23 rfl rfl) <|
  am_fc (ok_getI cl_10 (by decide) rfl dX11_joins_24 w4_151 rfl) <|
  am_fc (ok_cge dX11_joins_27 (by decide) rfl) <|
  am_fc (ok_bipush dX11_joins_30 (by decide) rfl) <|
  am_fc (ok_istore dX11_joins_32 rfl) <|
  am_fc (ok_bipush dX11_joins_34 (by decide) rfl) <|
  am_fc (ok_istore dX11_joins_36 rfl) <|
  am_fc (ok_bipush dX11_joins_38 (by decide) rfl) <|
  am_fc (ok_istore dX11_joins_40 rfl) <|
  am_fc (ok_iconst dX11_joins_42 (by decide) rfl) <|
  am_fc (ok_istore dX11_joins_43 rfl) <|
  am_fc (ok_iload dX11_joins_45 rfl) <|
  am_fc (ok_aload_n dX11_joins_47 rfl rfl) <|
  am_fc (ok_getI cl_10 (by decide) rfl dX11_joins_48 w4_151 rfl) <|
  am_fc (ok_cge dX11_joins_51 (by decide) rfl) <|
  am_fc (ok_iconst dX11_joins_54 (by decide) rfl) <|
  am_fc (ok_istore dX11_joins_55 rfl) <|
  am_fc (ok_iload dX11_joins_57 rfl) <|
  am_fc (ok_aload_n dX11_joins_59 rfl rfl) <|
  am_fc (ok_getI cl_10 (by decide) rfl dX11_joins_60 w4_151 rfl) <|
  am_fc (ok_cge dX11_joins_63 (by decide) rfl) <|
  am_fc (ok_iload_n dX11_joins_66 rfl rfl) <|
  am_fc (ok_iload dX11_joins_67 rfl) <|
  am_fc (ok_ishr dX11_joins_69 rfl) <|
  am_fc (ok_iconst dX11_joins_70 (by decide) rfl) <|
  am_fc (ok_iand dX11_joins_71 rfl) <|
  am_fc (ok_ifne dX11_joins_72 (by decide) rfl) <|
  am_fc (ok_iload_n dX11_joins_75 rfl rfl) <|
  am_fc (ok_iload dX11_joins_76 rfl) <|
  am_fc (ok_ishr dX11_joins_78 rfl) <|
  am_fc (ok_iconst dX11_joins_79 (by decide) rfl) <|
  am_fc (ok_iand dX11_joins_80 rfl) <|
  am_fc (ok_iconst dX11_joins_81 (by decide) rfl) <|
  am_fc (ok_cne dX11_joins_82 (by decide) rfl) <|
  am_fn
set_option maxRecDepth 100000 in
theorem ok_cd_X11_joins_1 (l : Launch) (D : va_G) (ad : Nat → Nat) (b0 : Nat) (Hb : Heap) : ∀ q ∈ cd_X11_joins_1, am_ok l D ad b0 Hb am_If yX11_joins cX11_joins 10 (none) q.1 q.2 :=
  am_fc (ok_iconst dX11_joins_85 (by decide) rfl) <|
  am_fc (ok_goto dX11_joins_86 (by decide)) <|
  am_fc (ok_iconst dX11_joins_89 (by decide) rfl) <|
  am_fc (ok_istore dX11_joins_90 rfl) <|
  am_fc (ok_iload dX11_joins_92 rfl) <|
  am_fc (ok_ifeq dX11_joins_94 (by decide) rfl) <|
  am_fc (ok_aload_n dX11_joins_97 rfl rfl) <|
  am_fc (ok_getR cl_10 (by decide) rfl dX11_joins_98 w4_150 rfl) <|
  am_fc (ok_iload dX11_joins_101 rfl) <|
  am_fc (ok_iald dX11_joins_103 rfl) <|
  am_fc (ok_aload_n dX11_joins_104 rfl rfl) <|
  am_fc (ok_getR cl_10 (by decide) rfl dX11_joins_105 w4_150 rfl) <|
  am_fc (ok_iload dX11_joins_108 rfl) <|
  am_fc (ok_iald dX11_joins_110 rfl) <|
  am_fc (ok_invS (i := ii_X11_far) rfl mm_X11_far dX11_joins_111 w6_39 rfl) <|
  am_fc (ok_iload dX11_joins_114 rfl) <|
  am_fc (ok_cge dX11_joins_116 (by decide) rfl) <|
  am_fc (ok_aload_n dX11_joins_119 rfl rfl) <|
  am_fc (ok_getR cl_10 (by decide) rfl dX11_joins_120 w4_150 rfl) <|
  am_fc (ok_iload dX11_joins_123 rfl) <|
  am_fc (ok_iald dX11_joins_125 rfl) <|
  am_fc (ok_aload_n dX11_joins_126 rfl rfl) <|
  am_fc (ok_getR cl_10 (by decide) rfl dX11_joins_127 w4_150 rfl) <|
  am_fc (ok_iload dX11_joins_130 rfl) <|
  am_fc (ok_iald dX11_joins_132 rfl) <|
  am_fc (ok_invS (i := ii_X11_far) rfl mm_X11_far dX11_joins_133 w6_39 rfl) <|
  am_fc (ok_istore dX11_joins_136 rfl) <|
  am_fc (ok_iload dX11_joins_138 rfl) <|
  am_fc (ok_istore dX11_joins_140 rfl) <|
  am_fc (ok_iload dX11_joins_142 rfl) <|
  am_fc (ok_istore dX11_joins_144 rfl) <|
  am_fc (ok_iinc dX11_joins_146 (by decide) rfl) <|
  am_fc (ok_goto dX11_joins_149 (by decide)) <|
  am_fc (ok_iinc dX11_joins_152 (by decide) rfl) <|
  am_fc (ok_goto dX11_joins_155 (by decide)) <|
  am_fc (ok_iload_n dX11_joins_158 rfl rfl) <|
  am_fc (ok_iconst dX11_joins_159 (by decide) rfl) <|
  am_fc (ok_iload dX11_joins_160 rfl) <|
  am_fc (ok_ishl dX11_joins_162 rfl) <|
  am_fc (ok_ior dX11_joins_163 rfl) <|
  am_fc (ok_istore_n dX11_joins_164 rfl rfl) <|
  am_fc (ok_aload_n dX11_joins_165 rfl rfl) <|
  am_fc (ok_getR cl_10 (by decide) rfl dX11_joins_166 w4_152 rfl) <|
  am_fc (ok_iload dX11_joins_169 rfl) <|
  am_fc (ok_iload dX11_joins_171 rfl) <|
  am_fc (ok_iast dX11_joins_173 rfl) <|
  am_fc (ok_aload_n dX11_joins_174 rfl rfl) <|
  am_fc (ok_dup dX11_joins_175 rfl) <|
  am_fc (ok_getI cl_10 (by decide) rfl dX11_joins_176 w4_153 rfl) <|
  am_fc (ok_iload dX11_joins_179 rfl) <|
  am_fn
set_option maxRecDepth 100000 in
theorem ok_cd_X11_joins_2 (l : Launch) (D : va_G) (ad : Nat → Nat) (b0 : Nat) (Hb : Heap) : ∀ q ∈ cd_X11_joins_2, am_ok l D ad b0 Hb am_If yX11_joins cX11_joins 10 (none) q.1 q.2 :=
  am_fc (ok_iadd dX11_joins_181 rfl) <|
  am_fc (ok_putI cl_10 (by decide) rfl (Or.inl rfl) dX11_joins_182 w4_153 rfl) <|
  am_fc (ok_iinc dX11_joins_185 (by decide) rfl) <|
  am_fc (ok_goto dX11_joins_188 (by decide)) <|
  am_fc (ok_vret rfl dX11_joins_191) <|
  am_fn
theorem ok_cd_X11_joins (l : Launch) (D : va_G) (ad : Nat → Nat) (b0 : Nat) (Hb : Heap) : ∀ q ∈ cd_X11_joins, am_ok l D ad b0 Hb am_If yX11_joins cX11_joins 10 (none) q.1 q.2 := am_fa (ok_cd_X11_joins_0 l D ad b0 Hb) (am_fa (ok_cd_X11_joins_1 l D ad b0 Hb) (ok_cd_X11_joins_2 l D ad b0 Hb))
set_option maxRecDepth 100000 in
theorem ok_cd_X11_versions_0 (l : Launch) (D : va_G) (ad : Nat → Nat) (b0 : Nat) (Hb : Heap) : ∀ q ∈ cd_X11_versions_0, am_ok l D ad b0 Hb am_If yX11_versions cX11_versions 2 (some .int) q.1 q.2 :=
  am_fc (ok_aload_n dX11_versions_0 rfl rfl) <|
  am_fc (ok_iload_n dX11_versions_1 rfl rfl) <|
  am_fc (ok_invV (i := ii_X11_isSaying) rfl (Or.inr ⟨_, rfl, by decide, rfl⟩) mm_X11_isSaying dX11_versions_2 w5_80 rfl) <|
  am_fc (ok_ifne dX11_versions_5 (by decide) rfl) <|
  am_fc (ok_iconst dX11_versions_8 (by decide) rfl) <|
  am_fc (ok_iret rfl dX11_versions_9) <|
  am_fc (ok_aload_n dX11_versions_10 rfl rfl) <|
  am_fc (ok_iload_n dX11_versions_11 rfl rfl) <|
  am_fc (ok_invV (i := ii_X11_looks) rfl (Or.inr ⟨_, rfl, by decide, rfl⟩) mm_X11_looks dX11_versions_12 w6_27 rfl) <|
  am_fc (ok_aload_n dX11_versions_15 rfl rfl) <|
  am_fc (ok_getI cl_10 (by decide) rfl dX11_versions_16 w4_151 rfl) <|
  am_fc (ok_iret rfl dX11_versions_19) <|
  am_fn
theorem ok_cd_X11_versions (l : Launch) (D : va_G) (ad : Nat → Nat) (b0 : Nat) (Hb : Heap) : ∀ q ∈ cd_X11_versions, am_ok l D ad b0 Hb am_If yX11_versions cX11_versions 2 (some .int) q.1 q.2 := ok_cd_X11_versions_0 l D ad b0 Hb
set_option maxRecDepth 100000 in
theorem ok_cd_X11_version_0 (l : Launch) (D : va_G) (ad : Nat → Nat) (b0 : Nat) (Hb : Heap) : ∀ q ∈ cd_X11_version_0, am_ok l D ad b0 Hb am_If yX11_version cX11_version 4 (some .int) q.1 q.2 :=
  am_fc (ok_aload_n dX11_version_0 rfl rfl) <|
  am_fc (ok_iload_n dX11_version_1 rfl rfl) <|
  am_fc (ok_invV (i := ii_X11_isSaying) rfl (Or.inr ⟨_, rfl, by decide, rfl⟩) mm_X11_isSaying dX11_version_2 w5_80 rfl) <|
  am_fc (ok_ifeq dX11_version_5 (by decide) rfl) <|
  am_fc (ok_iload_n dX11_version_8 rfl rfl) <|
  am_fc (ok_i2l dX11_version_9 rfl) <|
  am_fc (ok_lconst dX11_version_10 (by decide) rfl) <|
  am_fc (ok_lconst dX11_version_11 (by decide) rfl) <|
  am_fc (ok_invS (i := ii_X11_in) rfl mm_X11_in dX11_version_12 w5_32 rfl) <|
  am_fc (ok_ifne dX11_version_15 (by decide) rfl) <|
  am_fc (ok_iconst dX11_version_18 (by decide) rfl) <|
  am_fc (ok_iret rfl dX11_version_19) <|
  am_fc (ok_aload_n dX11_version_20 rfl rfl) <|
  am_fc (ok_iload_n dX11_version_21 rfl rfl) <|
  am_fc (ok_invV (i := ii_X11_joins) rfl (Or.inr ⟨_, rfl, by decide, rfl⟩) mm_X11_joins dX11_version_22 w6_35 rfl) <|
  am_fc (ok_iload_n dX11_version_25 rfl rfl) <|
  am_fc (ok_i2l dX11_version_26 rfl) <|
  am_fc (ok_lconst dX11_version_27 (by decide) rfl) <|
  am_fc (ok_aload_n dX11_version_28 rfl rfl) <|
  am_fc (ok_getI cl_10 (by decide) rfl dX11_version_29 w4_151 rfl) <|
  am_fc (ok_iconst dX11_version_32 (by decide) rfl) <|
  am_fc (ok_isub dX11_version_33 rfl) <|
  am_fc (ok_i2l dX11_version_34 rfl) <|
  am_fc (ok_invS (i := ii_X11_in) rfl mm_X11_in dX11_version_35 w5_32 rfl) <|
  am_fc (ok_ifne dX11_version_38 (by decide) rfl) <|
  am_fc (ok_iconst dX11_version_41 (by decide) rfl) <|
  am_fc (ok_iret rfl dX11_version_42) <|
  am_fc (ok_iload_n dX11_version_43 rfl rfl) <|
  am_fc (ok_ifne dX11_version_44 (by decide) rfl) <|
  am_fc (ok_aload_n dX11_version_47 rfl rfl) <|
  am_fc (ok_getR cl_10 (by decide) rfl dX11_version_48 w4_150 rfl) <|
  am_fc (ok_iload_n dX11_version_51 rfl rfl) <|
  am_fc (ok_iald dX11_version_52 rfl) <|
  am_fc (ok_goto dX11_version_53 (by decide)) <|
  am_fc (ok_aload_n dX11_version_56 rfl rfl) <|
  am_fc (ok_getR cl_10 (by decide) rfl dX11_version_57 w4_152 rfl) <|
  am_fc (ok_iload_n dX11_version_60 rfl rfl) <|
  am_fc (ok_iald dX11_version_61 rfl) <|
  am_fc (ok_iret rfl dX11_version_62) <|
  am_fn
theorem ok_cd_X11_version (l : Launch) (D : va_G) (ad : Nat → Nat) (b0 : Nat) (Hb : Heap) : ∀ q ∈ cd_X11_version, am_ok l D ad b0 Hb am_If yX11_version cX11_version 4 (some .int) q.1 q.2 := ok_cd_X11_version_0 l D ad b0 Hb
set_option maxRecDepth 100000 in
theorem ok_cd_X11_kin_0 (l : Launch) (D : va_G) (ad : Nat → Nat) (b0 : Nat) (Hb : Heap) : ∀ q ∈ cd_X11_kin_0, am_ok l D ad b0 Hb am_If yX11_kin cX11_kin 2 (some .int) q.1 q.2 :=
  am_fc (ok_aload_n dX11_kin_0 rfl rfl) <|
  am_fc (ok_iload_n dX11_kin_1 rfl rfl) <|
  am_fc (ok_invV (i := ii_X11_isSaying) rfl (Or.inr ⟨_, rfl, by decide, rfl⟩) mm_X11_isSaying dX11_kin_2 w5_80 rfl) <|
  am_fc (ok_ifne dX11_kin_5 (by decide) rfl) <|
  am_fc (ok_iconst dX11_kin_8 (by decide) rfl) <|
  am_fc (ok_iret rfl dX11_kin_9) <|
  am_fc (ok_aload_n dX11_kin_10 rfl rfl) <|
  am_fc (ok_iload_n dX11_kin_11 rfl rfl) <|
  am_fc (ok_invV (i := ii_X11_joins) rfl (Or.inr ⟨_, rfl, by decide, rfl⟩) mm_X11_joins dX11_kin_12 w6_35 rfl) <|
  am_fc (ok_aload_n dX11_kin_15 rfl rfl) <|
  am_fc (ok_getI cl_10 (by decide) rfl dX11_kin_16 w4_153 rfl) <|
  am_fc (ok_iret rfl dX11_kin_19) <|
  am_fn
theorem ok_cd_X11_kin (l : Launch) (D : va_G) (ad : Nat → Nat) (b0 : Nat) (Hb : Heap) : ∀ q ∈ cd_X11_kin, am_ok l D ad b0 Hb am_If yX11_kin cX11_kin 2 (some .int) q.1 q.2 := ok_cd_X11_kin_0 l D ad b0 Hb
set_option maxRecDepth 100000 in
theorem ok_cd_X11_report_0 (l : Launch) (D : va_G) (ad : Nat → Nat) (b0 : Nat) (Hb : Heap) : ∀ q ∈ cd_X11_report_0, am_ok l D ad b0 Hb am_If yX11_report cX11_report 4 (some .int) q.1 q.2 :=
  am_fc (ok_iload_n dX11_report_0 rfl rfl) <|
  am_fc (ok_invS (i := ii_X11_isPlace) rfl mm_X11_isPlace dX11_report_1 w5_28 rfl) <|
  am_fc (ok_ifeq dX11_report_4 (by decide) rfl) <|
  am_fc (ok_iload_n dX11_report_7 rfl rfl) <|
  am_fc (ok_i2l dX11_report_8 rfl) <|
  am_fc (ok_lconst dX11_report_9 (by decide) rfl) <|
  am_fc (ok_ldc2 dX11_report_10 w6_50 rfl) <|
  am_fc (ok_invS (i := ii_X11_in) rfl mm_X11_in dX11_report_13 w5_32 rfl) <|
  am_fc (ok_ifne dX11_report_16 (by decide) rfl) <|
  am_fc (ok_iconst dX11_report_19 (by decide) rfl) <|
  am_fc (ok_iret rfl dX11_report_20) <|
  am_fc (ok_aload_n dX11_report_21 rfl rfl) <|
  am_fc (ok_getI cl_10 (by decide) rfl dX11_report_22 w4_154 rfl) <|
  am_fc (ok_bipush dX11_report_25 (by decide) rfl) <|
  am_fc (ok_cne dX11_report_27 (by decide) rfl) <|
  am_fc (ok_bipush dX11_report_30 (by decide) rfl) <|
  am_fc (ok_iret rfl dX11_report_32) <|
  am_fc (ok_aload_n dX11_report_33 rfl rfl) <|
  am_fc (ok_getR cl_10 (by decide) rfl dX11_report_34 w4_155 rfl) <|
  am_fc (ok_aload_n dX11_report_37 rfl rfl) <|
  am_fc (ok_getI cl_10 (by decide) rfl dX11_report_38 w4_154 rfl) <|
  am_fc (ok_iload_n dX11_report_41 rfl rfl) <|
  am_fc (ok_iast dX11_report_42 rfl) <|
  am_fc (ok_aload_n dX11_report_43 rfl rfl) <|
  am_fc (ok_getR cl_10 (by decide) rfl dX11_report_44 w4_156 rfl) <|
  am_fc (ok_aload_n dX11_report_47 rfl rfl) <|
  am_fc (ok_getI cl_10 (by decide) rfl dX11_report_48 w4_154 rfl) <|
  am_fc (ok_iload_n dX11_report_51 rfl rfl) <|
  am_fc (ok_iast dX11_report_52 rfl) <|
  am_fc (ok_aload_n dX11_report_53 rfl rfl) <|
  am_fc (ok_getR cl_10 (by decide) rfl dX11_report_54 w4_157 rfl) <|
  am_fc (ok_aload_n dX11_report_57 rfl rfl) <|
  am_fc (ok_getI cl_10 (by decide) rfl dX11_report_58 w4_154 rfl) <|
  am_fc (ok_iload_n dX11_report_61 rfl rfl) <|
  am_fc (ok_zast dX11_report_62 rfl) <|
  am_fc (ok_aload_n dX11_report_63 rfl rfl) <|
  am_fc (ok_dup dX11_report_64 rfl) <|
  am_fc (ok_getI cl_10 (by decide) rfl dX11_report_65 w4_154 rfl) <|
  am_fc (ok_iconst dX11_report_68 (by decide) rfl) <|
  am_fc (ok_iadd dX11_report_69 rfl) <|
  am_fc (ok_putI cl_10 (by decide) rfl (Or.inl rfl) dX11_report_70 w4_154 rfl) <|
  am_fc (ok_aload_n dX11_report_73 rfl rfl) <|
  am_fc (ok_getI cl_10 (by decide) rfl dX11_report_74 w4_154 rfl) <|
  am_fc (ok_iconst dX11_report_77 (by decide) rfl) <|
  am_fc (ok_isub dX11_report_78 rfl) <|
  am_fc (ok_iret rfl dX11_report_79) <|
  am_fn
theorem ok_cd_X11_report (l : Launch) (D : va_G) (ad : Nat → Nat) (b0 : Nat) (Hb : Heap) : ∀ q ∈ cd_X11_report, am_ok l D ad b0 Hb am_If yX11_report cX11_report 4 (some .int) q.1 q.2 := ok_cd_X11_report_0 l D ad b0 Hb
set_option maxRecDepth 100000 in
theorem ok_cd_X11_clear_0 (l : Launch) (D : va_G) (ad : Nat → Nat) (b0 : Nat) (Hb : Heap) : ∀ q ∈ cd_X11_clear_0, am_ok l D ad b0 Hb am_If yX11_clear cX11_clear 2 (some .int) q.1 q.2 :=
  am_fc (ok_aload_n dX11_clear_0 rfl rfl) <|
  am_fc (ok_getI cl_10 (by decide) rfl dX11_clear_1 w4_154 rfl) <|
  am_fc (ok_istore_n dX11_clear_4 rfl rfl) <|
  am_fc (ok_aload_n dX11_clear_5 rfl rfl) <|
  am_fc (ok_iconst dX11_clear_6 (by decide) rfl) <|
  am_fc (ok_putI cl_10 (by decide) rfl (Or.inl rfl) dX11_clear_7 w4_154 rfl) <|
  am_fc (ok_iload_n dX11_clear_10 rfl rfl) <|
  am_fc (ok_iret rfl dX11_clear_11) <|
  am_fn
theorem ok_cd_X11_clear (l : Launch) (D : va_G) (ad : Nat → Nat) (b0 : Nat) (Hb : Heap) : ∀ q ∈ cd_X11_clear, am_ok l D ad b0 Hb am_If yX11_clear cX11_clear 2 (some .int) q.1 q.2 := ok_cd_X11_clear_0 l D ad b0 Hb
set_option maxRecDepth 100000 in
theorem ok_cd_X11_isHeard_0 (l : Launch) (D : va_G) (ad : Nat → Nat) (b0 : Nat) (Hb : Heap) : ∀ q ∈ cd_X11_isHeard_0, am_ok l D ad b0 Hb am_If yX11_isHeard cX11_isHeard 5 (some .boolean) q.1 q.2 :=
  am_fc (ok_iconst dX11_isHeard_0 (by decide) rfl) <|
  am_fc (ok_istore_n dX11_isHeard_1 rfl rfl) <|
  am_fc (ok_iconst dX11_isHeard_2 (by decide) rfl) <|
  am_fc (ok_istore dX11_isHeard_3 rfl) <|
  am_fc (ok_iload dX11_isHeard_5 rfl) <|
  am_fc (ok_aload_n dX11_isHeard_7 rfl rfl) <|
  am_fc (ok_getI cl_10 (by decide) rfl dX11_isHeard_8 w4_113 rfl) <|
  am_fc (ok_cge dX11_isHeard_11 (by decide) rfl) <|
  am_fc (ok_iload_n dX11_isHeard_14 rfl rfl) <|
  am_fc (ok_ifne dX11_isHeard_15 (by decide) rfl) <|
  am_fc (ok_aload_n dX11_isHeard_18 rfl rfl) <|
  am_fc (ok_iload dX11_isHeard_19 rfl) <|
  am_fc (ok_iload_n dX11_isHeard_21 rfl rfl) <|
  am_fc (ok_invV (i := ii_X11_isLoud) rfl (Or.inr ⟨_, rfl, by decide, rfl⟩) mm_X11_isLoud dX11_isHeard_22 w5_135 rfl) <|
  am_fc (ok_ifeq dX11_isHeard_25 (by decide) rfl) <|
  am_fc (ok_aload_n dX11_isHeard_28 rfl rfl) <|
  am_fc (ok_iload dX11_isHeard_29 rfl) <|
  am_fc (ok_aload_n dX11_isHeard_31 rfl rfl) <|
  am_fc (ok_getI cl_10 (by decide) rfl dX11_isHeard_32 w4_116 rfl) <|
  am_fc (ok_invV (i := ii_X11_placeOf) rfl (Or.inr ⟨_, rfl, by decide, rfl⟩) mm_X11_placeOf dX11_isHeard_35 w5_54 rfl) <|
  am_fc (ok_iload_n dX11_isHeard_38 rfl rfl) <|
  am_fc (ok_cne dX11_isHeard_39 (by decide) rfl) <|
  am_fc (ok_iconst dX11_isHeard_42 (by decide) rfl) <|
  am_fc (ok_goto dX11_isHeard_43 (by decide)) <|
  am_fc (ok_iconst dX11_isHeard_46 (by decide) rfl) <|
  am_fc (ok_istore_n dX11_isHeard_47 rfl rfl) <|
  am_fc (ok_iinc dX11_isHeard_48 (by decide) rfl) <|
  am_fc (ok_goto dX11_isHeard_51 (by decide)) <|
  am_fc (ok_iload_n dX11_isHeard_54 rfl rfl) <|
  am_fc (ok_zret rfl dX11_isHeard_55) <|
  am_fn
theorem ok_cd_X11_isHeard (l : Launch) (D : va_G) (ad : Nat → Nat) (b0 : Nat) (Hb : Heap) : ∀ q ∈ cd_X11_isHeard, am_ok l D ad b0 Hb am_If yX11_isHeard cX11_isHeard 5 (some .boolean) q.1 q.2 := ok_cd_X11_isHeard_0 l D ad b0 Hb
set_option maxRecDepth 100000 in
theorem ok_cd_X11_agrees_0 (l : Launch) (D : va_G) (ad : Nat → Nat) (b0 : Nat) (Hb : Heap) : ∀ q ∈ cd_X11_agrees_0, am_ok l D ad b0 Hb am_If yX11_agrees cX11_agrees 7 (some .boolean) q.1 q.2 :=
  am_fc (ok_iconst dX11_agrees_0 (by decide) rfl) <|
  am_fc (ok_istore dX11_agrees_1 rfl) <|
  am_fc (ok_iconst dX11_agrees_3 (by decide) rfl) <|
  am_fc (ok_istore dX11_agrees_4 rfl) <|
  am_fc (ok_iload dX11_agrees_6 rfl) <|
  am_fc (ok_aload_n dX11_agrees_8 rfl rfl) <|
  am_fc (ok_getI cl_10 (by decide) rfl dX11_agrees_9 w4_154 rfl) <|
  am_fc (ok_cge dX11_agrees_12 (by decide) rfl) <|
  am_fc (ok_iload_n dX11_agrees_15 rfl rfl) <|
  am_fc (ok_iload_n dX11_agrees_16 rfl rfl) <|
  am_fc (ok_clt dX11_agrees_17 (by decide) rfl) <|
  am_fc (ok_aload_n dX11_agrees_20 rfl rfl) <|
  am_fc (ok_iload_n dX11_agrees_21 rfl rfl) <|
  am_fc (ok_aload_n dX11_agrees_22 rfl rfl) <|
  am_fc (ok_getR cl_10 (by decide) rfl dX11_agrees_23 w4_155 rfl) <|
  am_fc (ok_iload dX11_agrees_26 rfl) <|
  am_fc (ok_iald dX11_agrees_28 rfl) <|
  am_fc (ok_invV (i := ii_X11_isHeard) rfl (Or.inr ⟨_, rfl, by decide, rfl⟩) mm_X11_isHeard dX11_agrees_29 w6_67 rfl) <|
  am_fc (ok_ifeq dX11_agrees_32 (by decide) rfl) <|
  am_fc (ok_iconst dX11_agrees_35 (by decide) rfl) <|
  am_fc (ok_goto dX11_agrees_36 (by decide)) <|
  am_fc (ok_iconst dX11_agrees_39 (by decide) rfl) <|
  am_fc (ok_istore dX11_agrees_40 rfl) <|
  am_fc (ok_iload dX11_agrees_42 rfl) <|
  am_fc (ok_ifeq dX11_agrees_44 (by decide) rfl) <|
  am_fc (ok_aload_n dX11_agrees_47 rfl rfl) <|
  am_fc (ok_getR cl_10 (by decide) rfl dX11_agrees_48 w4_156 rfl) <|
  am_fc (ok_iload dX11_agrees_51 rfl) <|
  am_fc (ok_iald dX11_agrees_53 rfl) <|
  am_fc (ok_iload_n dX11_agrees_54 rfl rfl) <|
  am_fc (ok_cne dX11_agrees_55 (by decide) rfl) <|
  am_fc (ok_iload dX11_agrees_58 rfl) <|
  am_fc (ok_aload_n dX11_agrees_60 rfl rfl) <|
  am_fc (ok_getR cl_10 (by decide) rfl dX11_agrees_61 w4_157 rfl) <|
  am_fc (ok_iload dX11_agrees_64 rfl) <|
  am_fc (ok_zald dX11_agrees_66 rfl) <|
  am_fc (ok_cne dX11_agrees_67 (by decide) rfl) <|
  am_fc (ok_iconst dX11_agrees_70 (by decide) rfl) <|
  am_fc (ok_goto dX11_agrees_71 (by decide)) <|
  am_fc (ok_iconst dX11_agrees_74 (by decide) rfl) <|
  am_fc (ok_istore dX11_agrees_75 rfl) <|
  am_fc (ok_iinc dX11_agrees_77 (by decide) rfl) <|
  am_fc (ok_goto dX11_agrees_80 (by decide)) <|
  am_fc (ok_iload dX11_agrees_83 rfl) <|
  am_fc (ok_zret rfl dX11_agrees_85) <|
  am_fn
theorem ok_cd_X11_agrees (l : Launch) (D : va_G) (ad : Nat → Nat) (b0 : Nat) (Hb : Heap) : ∀ q ∈ cd_X11_agrees, am_ok l D ad b0 Hb am_If yX11_agrees cX11_agrees 7 (some .boolean) q.1 q.2 := ok_cd_X11_agrees_0 l D ad b0 Hb
set_option maxRecDepth 100000 in
theorem ok_cd_X11_couldBe_0 (l : Launch) (D : va_G) (ad : Nat → Nat) (b0 : Nat) (Hb : Heap) : ∀ q ∈ cd_X11_couldBe_0, am_ok l D ad b0 Hb am_If yX11_couldBe cX11_couldBe 6 (some .boolean) q.1 q.2 :=
  am_fc (ok_aload_n dX11_couldBe_0 rfl rfl) <|
  am_fc (ok_invV (i := ii_X11_keeps) rfl (Or.inr ⟨_, rfl, by decide, rfl⟩) mm_X11_keeps dX11_couldBe_1 w5_201 rfl) <|
  am_fc (ok_iconst dX11_couldBe_4 (by decide) rfl) <|
  am_fc (ok_istore dX11_couldBe_5 rfl) <|
  am_fc (ok_iload dX11_couldBe_7 rfl) <|
  am_fc (ok_aload_n dX11_couldBe_9 rfl rfl) <|
  am_fc (ok_getI cl_10 (by decide) rfl dX11_couldBe_10 w4_113 rfl) <|
  am_fc (ok_cge dX11_couldBe_13 (by decide) rfl) <|
  am_fc (ok_aload_n dX11_couldBe_16 rfl rfl) <|
  am_fc (ok_getR cl_10 (by decide) rfl dX11_couldBe_17 w4_125 rfl) <|
  am_fc (ok_bipush dX11_couldBe_20 (by decide) rfl) <|
  am_fc (ok_iload dX11_couldBe_22 rfl) <|
  am_fc (ok_imul dX11_couldBe_24 rfl) <|
  am_fc (ok_iload_n dX11_couldBe_25 rfl rfl) <|
  am_fc (ok_iadd dX11_couldBe_26 rfl) <|
  am_fc (ok_iconst dX11_couldBe_27 (by decide) rfl) <|
  am_fc (ok_iast dX11_couldBe_28 rfl) <|
  am_fc (ok_iinc dX11_couldBe_29 (by decide) rfl) <|
  am_fc (ok_goto dX11_couldBe_32 (by decide)) <|
  am_fc (ok_aload_n dX11_couldBe_35 rfl rfl) <|
  am_fc (ok_iload_n dX11_couldBe_36 rfl rfl) <|
  am_fc (ok_putI cl_10 (by decide) rfl (Or.inl rfl) dX11_couldBe_37 w4_116 rfl) <|
  am_fc (ok_aload_n dX11_couldBe_40 rfl rfl) <|
  am_fc (ok_bipush dX11_couldBe_41 (by decide) rfl) <|
  am_fc (ok_iload_n dX11_couldBe_43 rfl rfl) <|
  am_fc (ok_imul dX11_couldBe_44 rfl) <|
  am_fc (ok_iload_n dX11_couldBe_45 rfl rfl) <|
  am_fc (ok_iadd dX11_couldBe_46 rfl) <|
  am_fc (ok_iconst dX11_couldBe_47 (by decide) rfl) <|
  am_fc (ok_aload_n dX11_couldBe_48 rfl rfl) <|
  am_fc (ok_getR cl_10 (by decide) rfl dX11_couldBe_49 w4_119 rfl) <|
  am_fc (ok_iload_n dX11_couldBe_52 rfl rfl) <|
  am_fc (ok_iald dX11_couldBe_53 rfl) <|
  am_fc (ok_bipush dX11_couldBe_54 (by decide) rfl) <|
  am_fc (ok_invV (i := ii_X11_takes) rfl (Or.inr ⟨_, rfl, by decide, rfl⟩) mm_X11_takes dX11_couldBe_56 w5_110 rfl) <|
  am_fc (ok_iconst dX11_couldBe_59 (by decide) rfl) <|
  am_fc (ok_istore dX11_couldBe_60 rfl) <|
  am_fc (ok_iconst dX11_couldBe_62 (by decide) rfl) <|
  am_fc (ok_istore dX11_couldBe_63 rfl) <|
  am_fc (ok_iload dX11_couldBe_65 rfl) <|
  am_fc (ok_bipush dX11_couldBe_67 (by decide) rfl) <|
  am_fc (ok_cge dX11_couldBe_69 (by decide) rfl) <|
  am_fc (ok_iload dX11_couldBe_72 rfl) <|
  am_fc (ok_ifeq dX11_couldBe_74 (by decide) rfl) <|
  am_fc (ok_aload_n dX11_couldBe_77 rfl rfl) <|
  am_fc (ok_iload_n dX11_couldBe_78 rfl rfl) <|
  am_fc (ok_iload dX11_couldBe_79 rfl) <|
  am_fc (ok_iload_n dX11_couldBe_81 rfl rfl) <|
  am_fc (ok_invV (i := ii_X11_agrees) rfl (Or.inr ⟨_, rfl, by decide, rfl⟩) mm_X11_agrees dX11_couldBe_82 w6_63 rfl) <|
  am_fc (ok_istore dX11_couldBe_85 rfl) <|
  am_fn
set_option maxRecDepth 100000 in
theorem ok_cd_X11_couldBe_1 (l : Launch) (D : va_G) (ad : Nat → Nat) (b0 : Nat) (Hb : Heap) : ∀ q ∈ cd_X11_couldBe_1, am_ok l D ad b0 Hb am_If yX11_couldBe cX11_couldBe 6 (some .boolean) q.1 q.2 :=
  am_fc (ok_iload dX11_couldBe_87 rfl) <|
  am_fc (ok_iload_n dX11_couldBe_89 rfl rfl) <|
  am_fc (ok_clt dX11_couldBe_90 (by decide) rfl) <|
  am_fc (ok_aload_n dX11_couldBe_93 rfl rfl) <|
  am_fc (ok_iload_n dX11_couldBe_94 rfl rfl) <|
  am_fc (ok_invV (i := ii_X11_hourOf) rfl (Or.inr ⟨_, rfl, by decide, rfl⟩) mm_X11_hourOf dX11_couldBe_95 w5_131 rfl) <|
  am_fc (ok_aload_n dX11_couldBe_98 rfl rfl) <|
  am_fc (ok_dup dX11_couldBe_99 rfl) <|
  am_fc (ok_getI cl_10 (by decide) rfl dX11_couldBe_100 w4_116 rfl) <|
  am_fc (ok_iconst dX11_couldBe_103 (by decide) rfl) <|
  am_fc (ok_iadd dX11_couldBe_104 rfl) <|
  am_fc (ok_putI cl_10 (by decide) rfl (Or.inl rfl) dX11_couldBe_105 w4_116 rfl) <|
  am_fc (ok_iinc dX11_couldBe_108 (by decide) rfl) <|
  am_fc (ok_goto dX11_couldBe_111 (by decide)) <|
  am_fc (ok_aload_n dX11_couldBe_114 rfl rfl) <|
  am_fc (ok_invV (i := ii_X11_returns) rfl (Or.inr ⟨_, rfl, by decide, rfl⟩) mm_X11_returns dX11_couldBe_115 w5_205 rfl) <|
  am_fc (ok_iload dX11_couldBe_118 rfl) <|
  am_fc (ok_zret rfl dX11_couldBe_120) <|
  am_fn
theorem ok_cd_X11_couldBe (l : Launch) (D : va_G) (ad : Nat → Nat) (b0 : Nat) (Hb : Heap) : ∀ q ∈ cd_X11_couldBe, am_ok l D ad b0 Hb am_If yX11_couldBe cX11_couldBe 6 (some .boolean) q.1 q.2 := am_fa (ok_cd_X11_couldBe_0 l D ad b0 Hb) (ok_cd_X11_couldBe_1 l D ad b0 Hb)
set_option maxRecDepth 100000 in
theorem ok_cd_X11_could_0 (l : Launch) (D : va_G) (ad : Nat → Nat) (b0 : Nat) (Hb : Heap) : ∀ q ∈ cd_X11_could_0, am_ok l D ad b0 Hb am_If yX11_could cX11_could 4 (some .int) q.1 q.2 :=
  am_fc (ok_aload_n dX11_could_0 rfl rfl) <|
  am_fc (ok_iload_n dX11_could_1 rfl rfl) <|
  am_fc (ok_invV (i := ii_X11_isSaying) rfl (Or.inr ⟨_, rfl, by decide, rfl⟩) mm_X11_isSaying dX11_could_2 w5_80 rfl) <|
  am_fc (ok_ifeq dX11_could_5 (by decide) rfl) <|
  am_fc (ok_aload_n dX11_could_8 rfl rfl) <|
  am_fc (ok_iload_n dX11_could_9 rfl rfl) <|
  am_fc (ok_invV (i := ii_X11_isPerson) rfl (Or.inr ⟨_, rfl, by decide, rfl⟩) mm_X11_isPerson dX11_could_10 w5_41 rfl) <|
  am_fc (ok_ifeq dX11_could_13 (by decide) rfl) <|
  am_fc (ok_iload_n dX11_could_16 rfl rfl) <|
  am_fc (ok_i2l dX11_could_17 rfl) <|
  am_fc (ok_lconst dX11_could_18 (by decide) rfl) <|
  am_fc (ok_ldc2 dX11_could_19 w6_50 rfl) <|
  am_fc (ok_invS (i := ii_X11_in) rfl mm_X11_in dX11_could_22 w5_32 rfl) <|
  am_fc (ok_ifne dX11_could_25 (by decide) rfl) <|
  am_fc (ok_iconst dX11_could_28 (by decide) rfl) <|
  am_fc (ok_iret rfl dX11_could_29) <|
  am_fc (ok_aload_n dX11_could_30 rfl rfl) <|
  am_fc (ok_iload_n dX11_could_31 rfl rfl) <|
  am_fc (ok_iload_n dX11_could_32 rfl rfl) <|
  am_fc (ok_iload_n dX11_could_33 rfl rfl) <|
  am_fc (ok_invV (i := ii_X11_couldBe) rfl (Or.inr ⟨_, rfl, by decide, rfl⟩) mm_X11_couldBe dX11_could_34 w6_59 rfl) <|
  am_fc (ok_ifeq dX11_could_37 (by decide) rfl) <|
  am_fc (ok_iconst dX11_could_40 (by decide) rfl) <|
  am_fc (ok_goto dX11_could_41 (by decide)) <|
  am_fc (ok_iconst dX11_could_44 (by decide) rfl) <|
  am_fc (ok_iret rfl dX11_could_45) <|
  am_fn
theorem ok_cd_X11_could (l : Launch) (D : va_G) (ad : Nat → Nat) (b0 : Nat) (Hb : Heap) : ∀ q ∈ cd_X11_could, am_ok l D ad b0 Hb am_If yX11_could cX11_could 4 (some .int) q.1 q.2 := ok_cd_X11_could_0 l D ad b0 Hb
set_option maxRecDepth 100000 in
theorem ok_cd_X11_first_0 (l : Launch) (D : va_G) (ad : Nat → Nat) (b0 : Nat) (Hb : Heap) : ∀ q ∈ cd_X11_first_0, am_ok l D ad b0 Hb am_If yX11_first cX11_first 5 (some .int) q.1 q.2 :=
  am_fc (ok_aload_n dX11_first_0 rfl rfl) <|
  am_fc (ok_iload_n dX11_first_1 rfl rfl) <|
  am_fc (ok_invV (i := ii_X11_isSaying) rfl (Or.inr ⟨_, rfl, by decide, rfl⟩) mm_X11_isSaying dX11_first_2 w5_80 rfl) <|
  am_fc (ok_ifne dX11_first_5 (by decide) rfl) <|
  am_fc (ok_iconst dX11_first_8 (by decide) rfl) <|
  am_fc (ok_iret rfl dX11_first_9) <|
  am_fc (ok_iconst dX11_first_10 (by decide) rfl) <|
  am_fc (ok_istore_n dX11_first_11 rfl rfl) <|
  am_fc (ok_iconst dX11_first_12 (by decide) rfl) <|
  am_fc (ok_istore_n dX11_first_13 rfl rfl) <|
  am_fc (ok_iload_n dX11_first_14 rfl rfl) <|
  am_fc (ok_aload_n dX11_first_15 rfl rfl) <|
  am_fc (ok_getI cl_10 (by decide) rfl dX11_first_16 w4_113 rfl) <|
  am_fc (ok_cge dX11_first_19 (by decide) rfl) <|
  am_fc (ok_iconst dX11_first_22 (by decide) rfl) <|
  am_fc (ok_istore dX11_first_23 rfl) <|
  am_fc (ok_iload dX11_first_25 rfl) <|
  am_fc (ok_bipush dX11_first_27 (by decide) rfl) <|
  am_fc (ok_cge dX11_first_29 (by decide) rfl) <|
  am_fc (ok_iload_n dX11_first_32 rfl rfl) <|
  am_fc (ok_iload_n dX11_first_33 rfl rfl) <|
  am_fc (ok_iload_n dX11_first_34 rfl rfl) <|
  am_fc (ok_ishr dX11_first_35 rfl) <|
  am_fc (ok_iconst dX11_first_36 (by decide) rfl) <|
  am_fc (ok_iand dX11_first_37 rfl) <|
  am_fc (ok_ifne dX11_first_38 (by decide) rfl) <|
  am_fc (ok_aload_n dX11_first_41 rfl rfl) <|
  am_fc (ok_iload_n dX11_first_42 rfl rfl) <|
  am_fc (ok_iload_n dX11_first_43 rfl rfl) <|
  am_fc (ok_iload dX11_first_44 rfl) <|
  am_fc (ok_invV (i := ii_X11_couldBe) rfl (Or.inr ⟨_, rfl, by decide, rfl⟩) mm_X11_couldBe dX11_first_46 w6_59 rfl) <|
  am_fc (ok_ifeq dX11_first_49 (by decide) rfl) <|
  am_fc (ok_iconst dX11_first_52 (by decide) rfl) <|
  am_fc (ok_iload_n dX11_first_53 rfl rfl) <|
  am_fc (ok_ishl dX11_first_54 rfl) <|
  am_fc (ok_goto dX11_first_55 (by decide)) <|
  am_fc (ok_iconst dX11_first_58 (by decide) rfl) <|
  am_fc (ok_ior dX11_first_59 rfl) <|
  am_fc (ok_istore_n dX11_first_60 rfl rfl) <|
  am_fc (ok_iinc dX11_first_61 (by decide) rfl) <|
  am_fc (ok_goto dX11_first_64 (by decide)) <|
  am_fc (ok_iinc dX11_first_67 (by decide) rfl) <|
  am_fc (ok_goto dX11_first_70 (by decide)) <|
  am_fc (ok_iload_n dX11_first_73 rfl rfl) <|
  am_fc (ok_iret rfl dX11_first_74) <|
  am_fn
theorem ok_cd_X11_first (l : Launch) (D : va_G) (ad : Nat → Nat) (b0 : Nat) (Hb : Heap) : ∀ q ∈ cd_X11_first, am_ok l D ad b0 Hb am_If yX11_first cX11_first 5 (some .int) q.1 q.2 := ok_cd_X11_first_0 l D ad b0 Hb
set_option maxRecDepth 100000 in
theorem ok_cd_X11_sumAt_0 (l : Launch) (D : va_G) (ad : Nat → Nat) (b0 : Nat) (Hb : Heap) : ∀ q ∈ cd_X11_sumAt_0, am_ok l D ad b0 Hb am_If yX11_sumAt cX11_sumAt 6 (some .int) q.1 q.2 :=
  am_fc (ok_iconst dX11_sumAt_0 (by decide) rfl) <|
  am_fc (ok_istore_n dX11_sumAt_1 rfl rfl) <|
  am_fc (ok_iconst dX11_sumAt_2 (by decide) rfl) <|
  am_fc (ok_istore_n dX11_sumAt_3 rfl rfl) <|
  am_fc (ok_iload_n dX11_sumAt_4 rfl rfl) <|
  am_fc (ok_aload_n dX11_sumAt_5 rfl rfl) <|
  am_fc (ok_getI cl_10 (by decide) rfl dX11_sumAt_6 w4_117 rfl) <|
  am_fc (ok_cge dX11_sumAt_9 (by decide) rfl) <|
  am_fc (ok_bipush dX11_sumAt_12 (by decide) rfl) <|
  am_fc (ok_istore dX11_sumAt_14 rfl) <|
  am_fc (ok_iconst dX11_sumAt_16 (by decide) rfl) <|
  am_fc (ok_istore dX11_sumAt_17 rfl) <|
  am_fc (ok_iload dX11_sumAt_19 rfl) <|
  am_fc (ok_bipush dX11_sumAt_21 (by decide) rfl) <|
  am_fc (ok_cge dX11_sumAt_23 (by decide) rfl) <|
  am_fc (ok_iload_n dX11_sumAt_26 rfl rfl) <|
  am_fc (ok_iload dX11_sumAt_27 rfl) <|
  am_fc (ok_ishr dX11_sumAt_29 rfl) <|
  am_fc (ok_iconst dX11_sumAt_30 (by decide) rfl) <|
  am_fc (ok_iand dX11_sumAt_31 rfl) <|
  am_fc (ok_iconst dX11_sumAt_32 (by decide) rfl) <|
  am_fc (ok_cne dX11_sumAt_33 (by decide) rfl) <|
  am_fc (ok_aload_n dX11_sumAt_36 rfl rfl) <|
  am_fc (ok_getR cl_10 (by decide) rfl dX11_sumAt_37 w4_158 rfl) <|
  am_fc (ok_bipush dX11_sumAt_40 (by decide) rfl) <|
  am_fc (ok_iload_n dX11_sumAt_42 rfl rfl) <|
  am_fc (ok_imul dX11_sumAt_43 rfl) <|
  am_fc (ok_iload dX11_sumAt_44 rfl) <|
  am_fc (ok_iadd dX11_sumAt_46 rfl) <|
  am_fc (ok_iald dX11_sumAt_47 rfl) <|
  am_fc (ok_iload dX11_sumAt_48 rfl) <|
  am_fc (ok_cge dX11_sumAt_50 (by decide) rfl) <|
  am_fc (ok_aload_n dX11_sumAt_53 rfl rfl) <|
  am_fc (ok_getR cl_10 (by decide) rfl dX11_sumAt_54 w4_158 rfl) <|
  am_fc (ok_bipush dX11_sumAt_57 (by decide) rfl) <|
  am_fc (ok_iload_n dX11_sumAt_59 rfl rfl) <|
  am_fc (ok_imul dX11_sumAt_60 rfl) <|
  am_fc (ok_iload dX11_sumAt_61 rfl) <|
  am_fc (ok_iadd dX11_sumAt_63 rfl) <|
  am_fc (ok_iald dX11_sumAt_64 rfl) <|
  am_fc (ok_goto dX11_sumAt_65 (by decide)) <|
  am_fc (ok_iload dX11_sumAt_68 rfl) <|
  am_fc (ok_istore dX11_sumAt_70 rfl) <|
  am_fc (ok_iinc dX11_sumAt_72 (by decide) rfl) <|
  am_fc (ok_goto dX11_sumAt_75 (by decide)) <|
  am_fc (ok_iload_n dX11_sumAt_78 rfl rfl) <|
  am_fc (ok_iload dX11_sumAt_79 rfl) <|
  am_fc (ok_iadd dX11_sumAt_81 rfl) <|
  am_fc (ok_istore_n dX11_sumAt_82 rfl rfl) <|
  am_fc (ok_iinc dX11_sumAt_83 (by decide) rfl) <|
  am_fn
set_option maxRecDepth 100000 in
theorem ok_cd_X11_sumAt_1 (l : Launch) (D : va_G) (ad : Nat → Nat) (b0 : Nat) (Hb : Heap) : ∀ q ∈ cd_X11_sumAt_1, am_ok l D ad b0 Hb am_If yX11_sumAt cX11_sumAt 6 (some .int) q.1 q.2 :=
  am_fc (ok_goto dX11_sumAt_86 (by decide)) <|
  am_fc (ok_iload_n dX11_sumAt_89 rfl rfl) <|
  am_fc (ok_iret rfl dX11_sumAt_90) <|
  am_fn
theorem ok_cd_X11_sumAt (l : Launch) (D : va_G) (ad : Nat → Nat) (b0 : Nat) (Hb : Heap) : ∀ q ∈ cd_X11_sumAt, am_ok l D ad b0 Hb am_If yX11_sumAt cX11_sumAt 6 (some .int) q.1 q.2 := am_fa (ok_cd_X11_sumAt_0 l D ad b0 Hb) (ok_cd_X11_sumAt_1 l D ad b0 Hb)
set_option maxRecDepth 100000 in
theorem ok_cd_X11_posts_0 (l : Launch) (D : va_G) (ad : Nat → Nat) (b0 : Nat) (Hb : Heap) : ∀ q ∈ cd_X11_posts_0, am_ok l D ad b0 Hb am_If yX11_posts cX11_posts 6 (some .int) q.1 q.2 :=
  am_fc (ok_iload_n dX11_posts_0 rfl rfl) <|
  am_fc (ok_i2l dX11_posts_1 rfl) <|
  am_fc (ok_lconst dX11_posts_2 (by decide) rfl) <|
  am_fc (ok_ldc2 dX11_posts_3 w5_155 rfl) <|
  am_fc (ok_invS (i := ii_X11_in) rfl mm_X11_in dX11_posts_6 w5_32 rfl) <|
  am_fc (ok_ifeq dX11_posts_9 (by decide) rfl) <|
  am_fc (ok_iload_n dX11_posts_12 rfl rfl) <|
  am_fc (ok_i2l dX11_posts_13 rfl) <|
  am_fc (ok_lconst dX11_posts_14 (by decide) rfl) <|
  am_fc (ok_lconst dX11_posts_15 (by decide) rfl) <|
  am_fc (ok_invS (i := ii_X11_in) rfl mm_X11_in dX11_posts_16 w5_32 rfl) <|
  am_fc (ok_ifne dX11_posts_19 (by decide) rfl) <|
  am_fc (ok_iconst dX11_posts_22 (by decide) rfl) <|
  am_fc (ok_iret rfl dX11_posts_23) <|
  am_fc (ok_aload_n dX11_posts_24 rfl rfl) <|
  am_fc (ok_invV (i := ii_X11_keeps) rfl (Or.inr ⟨_, rfl, by decide, rfl⟩) mm_X11_keeps dX11_posts_25 w5_201 rfl) <|
  am_fc (ok_iconst dX11_posts_28 (by decide) rfl) <|
  am_fc (ok_istore_n dX11_posts_29 rfl rfl) <|
  am_fc (ok_iload_n dX11_posts_30 rfl rfl) <|
  am_fc (ok_bipush dX11_posts_31 (by decide) rfl) <|
  am_fc (ok_cge dX11_posts_33 (by decide) rfl) <|
  am_fc (ok_aload_n dX11_posts_36 rfl rfl) <|
  am_fc (ok_getR cl_10 (by decide) rfl dX11_posts_37 w4_158 rfl) <|
  am_fc (ok_iload_n dX11_posts_40 rfl rfl) <|
  am_fc (ok_bipush dX11_posts_41 (by decide) rfl) <|
  am_fc (ok_iast dX11_posts_43 rfl) <|
  am_fc (ok_iinc dX11_posts_44 (by decide) rfl) <|
  am_fc (ok_goto dX11_posts_47 (by decide)) <|
  am_fc (ok_iconst dX11_posts_50 (by decide) rfl) <|
  am_fc (ok_istore_n dX11_posts_51 rfl rfl) <|
  am_fc (ok_iload_n dX11_posts_52 rfl rfl) <|
  am_fc (ok_bipush dX11_posts_53 (by decide) rfl) <|
  am_fc (ok_cge dX11_posts_55 (by decide) rfl) <|
  am_fc (ok_iconst dX11_posts_58 (by decide) rfl) <|
  am_fc (ok_istore dX11_posts_59 rfl) <|
  am_fc (ok_iload dX11_posts_61 rfl) <|
  am_fc (ok_aload_n dX11_posts_63 rfl rfl) <|
  am_fc (ok_getI cl_10 (by decide) rfl dX11_posts_64 w4_117 rfl) <|
  am_fc (ok_cge dX11_posts_67 (by decide) rfl) <|
  am_fc (ok_iconst dX11_posts_70 (by decide) rfl) <|
  am_fc (ok_istore dX11_posts_71 rfl) <|
  am_fc (ok_iload dX11_posts_73 rfl) <|
  am_fc (ok_bipush dX11_posts_75 (by decide) rfl) <|
  am_fc (ok_cge dX11_posts_77 (by decide) rfl) <|
  am_fc (ok_aload_n dX11_posts_80 rfl rfl) <|
  am_fc (ok_getR cl_10 (by decide) rfl dX11_posts_81 w4_158 rfl) <|
  am_fc (ok_bipush dX11_posts_84 (by decide) rfl) <|
  am_fc (ok_iload dX11_posts_86 rfl) <|
  am_fc (ok_imul dX11_posts_88 rfl) <|
  am_fc (ok_iload dX11_posts_89 rfl) <|
  am_fn
set_option maxRecDepth 100000 in
theorem ok_cd_X11_posts_1 (l : Launch) (D : va_G) (ad : Nat → Nat) (b0 : Nat) (Hb : Heap) : ∀ q ∈ cd_X11_posts_1, am_ok l D ad b0 Hb am_If yX11_posts cX11_posts 6 (some .int) q.1 q.2 :=
  am_fc (ok_iadd dX11_posts_91 rfl) <|
  am_fc (ok_aload_n dX11_posts_92 rfl rfl) <|
  am_fc (ok_getR cl_10 (by decide) rfl dX11_posts_93 w4_158 rfl) <|
  am_fc (ok_bipush dX11_posts_96 (by decide) rfl) <|
  am_fc (ok_iload dX11_posts_98 rfl) <|
  am_fc (ok_imul dX11_posts_100 rfl) <|
  am_fc (ok_iload dX11_posts_101 rfl) <|
  am_fc (ok_iadd dX11_posts_103 rfl) <|
  am_fc (ok_iald dX11_posts_104 rfl) <|
  am_fc (ok_bipush dX11_posts_105 (by decide) rfl) <|
  am_fc (ok_cne dX11_posts_107 (by decide) rfl) <|
  am_fc (ok_aload_n dX11_posts_110 rfl rfl) <|
  am_fc (ok_iload dX11_posts_111 rfl) <|
  am_fc (ok_iload dX11_posts_113 rfl) <|
  am_fc (ok_invV (i := ii_X11_isHeard) rfl (Or.inr ⟨_, rfl, by decide, rfl⟩) mm_X11_isHeard dX11_posts_115 w6_67 rfl) <|
  am_fc (ok_ifeq dX11_posts_118 (by decide) rfl) <|
  am_fc (ok_iload_n dX11_posts_121 rfl rfl) <|
  am_fc (ok_goto dX11_posts_122 (by decide)) <|
  am_fc (ok_aload_n dX11_posts_125 rfl rfl) <|
  am_fc (ok_getR cl_10 (by decide) rfl dX11_posts_126 w4_158 rfl) <|
  am_fc (ok_bipush dX11_posts_129 (by decide) rfl) <|
  am_fc (ok_iload dX11_posts_131 rfl) <|
  am_fc (ok_imul dX11_posts_133 rfl) <|
  am_fc (ok_iload dX11_posts_134 rfl) <|
  am_fc (ok_iadd dX11_posts_136 rfl) <|
  am_fc (ok_iald dX11_posts_137 rfl) <|
  am_fc (ok_iast dX11_posts_138 rfl) <|
  am_fc (ok_iinc dX11_posts_139 (by decide) rfl) <|
  am_fc (ok_goto dX11_posts_142 (by decide)) <|
  am_fc (ok_iinc dX11_posts_145 (by decide) rfl) <|
  am_fc (ok_goto dX11_posts_148 (by decide)) <|
  am_fc (ok_aload_n dX11_posts_151 rfl rfl) <|
  am_fc (ok_invV (i := ii_X11_hour) rfl (Or.inr ⟨_, rfl, by decide, rfl⟩) mm_X11_hour dX11_posts_152 w5_127 rfl) <|
  am_fc (ok_iinc dX11_posts_155 (by decide) rfl) <|
  am_fc (ok_goto dX11_posts_158 (by decide)) <|
  am_fc (ok_aload_n dX11_posts_161 rfl rfl) <|
  am_fc (ok_invV (i := ii_X11_returns) rfl (Or.inr ⟨_, rfl, by decide, rfl⟩) mm_X11_returns dX11_posts_162 w5_205 rfl) <|
  am_fc (ok_bipush dX11_posts_165 (by decide) rfl) <|
  am_fc (ok_istore_n dX11_posts_167 rfl rfl) <|
  am_fc (ok_iconst dX11_posts_168 (by decide) rfl) <|
  am_fc (ok_istore dX11_posts_169 rfl) <|
  am_fc (ok_iconst dX11_posts_171 (by decide) rfl) <|
  am_fc (ok_istore dX11_posts_172 rfl) <|
  am_fc (ok_iload dX11_posts_174 rfl) <|
  am_fc (ok_bipush dX11_posts_176 (by decide) rfl) <|
  am_fc (ok_cge dX11_posts_178 (by decide) rfl) <|
  am_fc (ok_iload dX11_posts_181 rfl) <|
  am_fc (ok_invS (i := ii_X11_size) rfl mm_X11_size dX11_posts_183 w5_217 rfl) <|
  am_fc (ok_iload_n dX11_posts_186 rfl rfl) <|
  am_fc (ok_cne dX11_posts_187 (by decide) rfl) <|
  am_fn
set_option maxRecDepth 100000 in
theorem ok_cd_X11_posts_2 (l : Launch) (D : va_G) (ad : Nat → Nat) (b0 : Nat) (Hb : Heap) : ∀ q ∈ cd_X11_posts_2, am_ok l D ad b0 Hb am_If yX11_posts cX11_posts 6 (some .int) q.1 q.2 :=
  am_fc (ok_iload_n dX11_posts_190 rfl rfl) <|
  am_fc (ok_iflt dX11_posts_191 (by decide) rfl) <|
  am_fc (ok_aload_n dX11_posts_194 rfl rfl) <|
  am_fc (ok_iload dX11_posts_195 rfl) <|
  am_fc (ok_invV (i := ii_X11_sumAt) rfl (Or.inr ⟨_, rfl, by decide, rfl⟩) mm_X11_sumAt dX11_posts_197 w6_79 rfl) <|
  am_fc (ok_iload dX11_posts_200 rfl) <|
  am_fc (ok_cge dX11_posts_202 (by decide) rfl) <|
  am_fc (ok_iload dX11_posts_205 rfl) <|
  am_fc (ok_istore_n dX11_posts_207 rfl rfl) <|
  am_fc (ok_aload_n dX11_posts_208 rfl rfl) <|
  am_fc (ok_iload dX11_posts_209 rfl) <|
  am_fc (ok_invV (i := ii_X11_sumAt) rfl (Or.inr ⟨_, rfl, by decide, rfl⟩) mm_X11_sumAt dX11_posts_211 w6_79 rfl) <|
  am_fc (ok_istore dX11_posts_214 rfl) <|
  am_fc (ok_iinc dX11_posts_216 (by decide) rfl) <|
  am_fc (ok_goto dX11_posts_219 (by decide)) <|
  am_fc (ok_iload_n dX11_posts_222 rfl rfl) <|
  am_fc (ok_ifne dX11_posts_223 (by decide) rfl) <|
  am_fc (ok_iload_n dX11_posts_226 rfl rfl) <|
  am_fc (ok_goto dX11_posts_227 (by decide)) <|
  am_fc (ok_iload dX11_posts_230 rfl) <|
  am_fc (ok_iret rfl dX11_posts_232) <|
  am_fn
theorem ok_cd_X11_posts (l : Launch) (D : va_G) (ad : Nat → Nat) (b0 : Nat) (Hb : Heap) : ∀ q ∈ cd_X11_posts, am_ok l D ad b0 Hb am_If yX11_posts cX11_posts 6 (some .int) q.1 q.2 := am_fa (ok_cd_X11_posts_0 l D ad b0 Hb) (am_fa (ok_cd_X11_posts_1 l D ad b0 Hb) (ok_cd_X11_posts_2 l D ad b0 Hb))
set_option maxRecDepth 100000 in
theorem ok_cd_X11_check_0 (l : Launch) (D : va_G) (ad : Nat → Nat) (b0 : Nat) (Hb : Heap) : ∀ q ∈ cd_X11_check_0, am_ok l D ad b0 Hb am_If yX11_check cX11_check 9 (some .int) q.1 q.2 :=
  am_fc (ok_aload_n dX11_check_0 rfl rfl) <|
  am_fc (ok_iload_n dX11_check_1 rfl rfl) <|
  am_fc (ok_invV (i := ii_X11_isSaying) rfl (Or.inr ⟨_, rfl, by decide, rfl⟩) mm_X11_isSaying dX11_check_2 w5_80 rfl) <|
  am_fc (ok_ifeq dX11_check_5 (by decide) rfl) <|
  am_fc (ok_iload_n dX11_check_8 rfl rfl) <|
  am_fc (ok_i2l dX11_check_9 rfl) <|
  am_fc (ok_lconst dX11_check_10 (by decide) rfl) <|
  am_fc (ok_ldc2 dX11_check_11 w5_220 rfl) <|
  am_fc (ok_invS (i := ii_X11_in) rfl mm_X11_in dX11_check_14 w5_32 rfl) <|
  am_fc (ok_ifeq dX11_check_17 (by decide) rfl) <|
  am_fc (ok_iload_n dX11_check_20 rfl rfl) <|
  am_fc (ok_invS (i := ii_X11_isSheet) rfl mm_X11_isSheet dX11_check_21 w6_87 rfl) <|
  am_fc (ok_ifeq dX11_check_24 (by decide) rfl) <|
  am_fc (ok_iload dX11_check_27 rfl) <|
  am_fc (ok_i2l dX11_check_29 rfl) <|
  am_fc (ok_lconst dX11_check_30 (by decide) rfl) <|
  am_fc (ok_ldc2 dX11_check_31 w5_172 rfl) <|
  am_fc (ok_invS (i := ii_X11_in) rfl mm_X11_in dX11_check_34 w5_32 rfl) <|
  am_fc (ok_ifne dX11_check_37 (by decide) rfl) <|
  am_fc (ok_iconst dX11_check_40 (by decide) rfl) <|
  am_fc (ok_iret rfl dX11_check_41) <|
  am_fc (ok_aload_n dX11_check_42 rfl rfl) <|
  am_fc (ok_iload_n dX11_check_43 rfl rfl) <|
  am_fc (ok_iload dX11_check_44 rfl) <|
  am_fc (ok_iload dX11_check_46 rfl) <|
  am_fc (ok_aload_n dX11_check_48 rfl rfl) <|
  am_fc (ok_getI cl_10 (by decide) rfl dX11_check_49 w4_113 rfl) <|
  am_fc (ok_invV (i := ii_X11_finds) rfl (Or.inr ⟨_, rfl, by decide, rfl⟩) mm_X11_finds dX11_check_52 w6_90 rfl) <|
  am_fc (ok_istore dX11_check_55 rfl) <|
  am_fc (ok_iload dX11_check_57 rfl) <|
  am_fc (ok_ifge dX11_check_59 (by decide) rfl) <|
  am_fc (ok_iload dX11_check_62 rfl) <|
  am_fc (ok_iret rfl dX11_check_64) <|
  am_fc (ok_aload_n dX11_check_65 rfl rfl) <|
  am_fc (ok_invV (i := ii_X11_keeps) rfl (Or.inr ⟨_, rfl, by decide, rfl⟩) mm_X11_keeps dX11_check_66 w5_201 rfl) <|
  am_fc (ok_iconst dX11_check_69 (by decide) rfl) <|
  am_fc (ok_istore dX11_check_70 rfl) <|
  am_fc (ok_iload dX11_check_72 rfl) <|
  am_fc (ok_iload_n dX11_check_74 rfl rfl) <|
  am_fc (ok_cge dX11_check_75 (by decide) rfl) <|
  am_fc (ok_aload_n dX11_check_78 rfl rfl) <|
  am_fc (ok_invV (i := ii_X11_hour) rfl (Or.inr ⟨_, rfl, by decide, rfl⟩) mm_X11_hour dX11_check_79 w5_127 rfl) <|
  am_fc (ok_iinc dX11_check_82 (by decide) rfl) <|
  am_fc (ok_goto dX11_check_85 (by decide)) <|
  am_fc (ok_bipush dX11_check_88 (by decide) rfl) <|
  am_fc (ok_istore dX11_check_90 rfl) <|
  am_fc (ok_aload_n dX11_check_92 rfl rfl) <|
  am_fc (ok_getI cl_10 (by decide) rfl dX11_check_93 w4_113 rfl) <|
  am_fc (ok_iconst dX11_check_96 (by decide) rfl) <|
  am_fc (ok_isub dX11_check_97 rfl) <|
  am_fn
set_option maxRecDepth 100000 in
theorem ok_cd_X11_check_1 (l : Launch) (D : va_G) (ad : Nat → Nat) (b0 : Nat) (Hb : Heap) : ∀ q ∈ cd_X11_check_1, am_ok l D ad b0 Hb am_If yX11_check cX11_check 9 (some .int) q.1 q.2 :=
  am_fc (ok_istore dX11_check_98 rfl) <|
  am_fc (ok_iload dX11_check_100 rfl) <|
  am_fc (ok_iflt dX11_check_102 (by decide) rfl) <|
  am_fc (ok_aload_n dX11_check_105 rfl rfl) <|
  am_fc (ok_getR cl_10 (by decide) rfl dX11_check_106 w4_125 rfl) <|
  am_fc (ok_bipush dX11_check_109 (by decide) rfl) <|
  am_fc (ok_iload dX11_check_111 rfl) <|
  am_fc (ok_imul dX11_check_113 rfl) <|
  am_fc (ok_iload_n dX11_check_114 rfl rfl) <|
  am_fc (ok_iadd dX11_check_115 rfl) <|
  am_fc (ok_iald dX11_check_116 rfl) <|
  am_fc (ok_aload_n dX11_check_117 rfl rfl) <|
  am_fc (ok_getR cl_10 (by decide) rfl dX11_check_118 w4_161 rfl) <|
  am_fc (ok_bipush dX11_check_121 (by decide) rfl) <|
  am_fc (ok_iload_n dX11_check_123 rfl rfl) <|
  am_fc (ok_imul dX11_check_124 rfl) <|
  am_fc (ok_iload dX11_check_125 rfl) <|
  am_fc (ok_iadd dX11_check_127 rfl) <|
  am_fc (ok_iload dX11_check_128 rfl) <|
  am_fc (ok_iadd dX11_check_130 rfl) <|
  am_fc (ok_iald dX11_check_131 rfl) <|
  am_fc (ok_cne dX11_check_132 (by decide) rfl) <|
  am_fc (ok_iload dX11_check_135 rfl) <|
  am_fc (ok_goto dX11_check_137 (by decide)) <|
  am_fc (ok_iload dX11_check_140 rfl) <|
  am_fc (ok_istore dX11_check_142 rfl) <|
  am_fc (ok_iinc dX11_check_144 (by decide) rfl) <|
  am_fc (ok_goto dX11_check_147 (by decide)) <|
  am_fc (ok_aload_n dX11_check_150 rfl rfl) <|
  am_fc (ok_invV (i := ii_X11_returns) rfl (Or.inr ⟨_, rfl, by decide, rfl⟩) mm_X11_returns dX11_check_151 w5_205 rfl) <|
  am_fc (ok_iload dX11_check_154 rfl) <|
  am_fc (ok_iret rfl dX11_check_156) <|
  am_fn
theorem ok_cd_X11_check (l : Launch) (D : va_G) (ad : Nat → Nat) (b0 : Nat) (Hb : Heap) : ∀ q ∈ cd_X11_check, am_ok l D ad b0 Hb am_If yX11_check cX11_check 9 (some .int) q.1 q.2 := am_fa (ok_cd_X11_check_0 l D ad b0 Hb) (ok_cd_X11_check_1 l D ad b0 Hb)
set_option maxRecDepth 100000 in
theorem ok_cd_X11_isSheet_0 (l : Launch) (D : va_G) (ad : Nat → Nat) (b0 : Nat) (Hb : Heap) : ∀ q ∈ cd_X11_isSheet_0, am_ok l D ad b0 Hb am_If yX11_isSheet cX11_isSheet 1 (some .boolean) q.1 q.2 :=
  am_fc (ok_iload_n dX11_isSheet_0 rfl rfl) <|
  am_fc (ok_i2l dX11_isSheet_1 rfl) <|
  am_fc (ok_lconst dX11_isSheet_2 (by decide) rfl) <|
  am_fc (ok_ldc2 dX11_isSheet_3 w5_155 rfl) <|
  am_fc (ok_invS (i := ii_X11_in) rfl mm_X11_in dX11_isSheet_6 w5_32 rfl) <|
  am_fc (ok_zret rfl dX11_isSheet_9) <|
  am_fn
theorem ok_cd_X11_isSheet (l : Launch) (D : va_G) (ad : Nat → Nat) (b0 : Nat) (Hb : Heap) : ∀ q ∈ cd_X11_isSheet, am_ok l D ad b0 Hb am_If yX11_isSheet cX11_isSheet 1 (some .boolean) q.1 q.2 := ok_cd_X11_isSheet_0 l D ad b0 Hb
set_option maxRecDepth 100000 in
theorem ok_cd_X11_isLane_0 (l : Launch) (D : va_G) (ad : Nat → Nat) (b0 : Nat) (Hb : Heap) : ∀ q ∈ cd_X11_isLane_0, am_ok l D ad b0 Hb am_If yX11_isLane cX11_isLane 1 (some .boolean) q.1 q.2 :=
  am_fc (ok_iload_n dX11_isLane_0 rfl rfl) <|
  am_fc (ok_i2l dX11_isLane_1 rfl) <|
  am_fc (ok_lconst dX11_isLane_2 (by decide) rfl) <|
  am_fc (ok_ldc2 dX11_isLane_3 w5_172 rfl) <|
  am_fc (ok_invS (i := ii_X11_in) rfl mm_X11_in dX11_isLane_6 w5_32 rfl) <|
  am_fc (ok_zret rfl dX11_isLane_9) <|
  am_fn
theorem ok_cd_X11_isLane (l : Launch) (D : va_G) (ad : Nat → Nat) (b0 : Nat) (Hb : Heap) : ∀ q ∈ cd_X11_isLane, am_ok l D ad b0 Hb am_If yX11_isLane cX11_isLane 1 (some .boolean) q.1 q.2 := ok_cd_X11_isLane_0 l D ad b0 Hb
set_option maxRecDepth 100000 in
theorem ok_cd_X11_finds_0 (l : Launch) (D : va_G) (ad : Nat → Nat) (b0 : Nat) (Hb : Heap) : ∀ q ∈ cd_X11_finds_0, am_ok l D ad b0 Hb am_If yX11_finds cX11_finds 5 (some .int) q.1 q.2 :=
  am_fc (ok_aload_n dX11_finds_0 rfl rfl) <|
  am_fc (ok_getR cl_10 (by decide) rfl dX11_finds_1 w4_159 rfl) <|
  am_fc (ok_iload_n dX11_finds_4 rfl rfl) <|
  am_fc (ok_iald dX11_finds_5 rfl) <|
  am_fc (ok_ifge dX11_finds_6 (by decide) rfl) <|
  am_fc (ok_bipush dX11_finds_9 (by decide) rfl) <|
  am_fc (ok_iret rfl dX11_finds_11) <|
  am_fc (ok_aload_n dX11_finds_12 rfl rfl) <|
  am_fc (ok_getR cl_10 (by decide) rfl dX11_finds_13 w4_159 rfl) <|
  am_fc (ok_iload_n dX11_finds_16 rfl rfl) <|
  am_fc (ok_iald dX11_finds_17 rfl) <|
  am_fc (ok_iload_n dX11_finds_18 rfl rfl) <|
  am_fc (ok_ceq dX11_finds_19 (by decide) rfl) <|
  am_fc (ok_bipush dX11_finds_22 (by decide) rfl) <|
  am_fc (ok_iret rfl dX11_finds_24) <|
  am_fc (ok_iload_n dX11_finds_25 rfl rfl) <|
  am_fc (ok_iflt dX11_finds_26 (by decide) rfl) <|
  am_fc (ok_iload_n dX11_finds_29 rfl rfl) <|
  am_fc (ok_i2l dX11_finds_30 rfl) <|
  am_fc (ok_iload dX11_finds_31 rfl) <|
  am_fc (ok_i2l dX11_finds_33 rfl) <|
  am_fc (ok_ladd dX11_finds_34 rfl) <|
  am_fc (ok_aload_n dX11_finds_35 rfl rfl) <|
  am_fc (ok_getR cl_10 (by decide) rfl dX11_finds_36 w4_160 rfl) <|
  am_fc (ok_iload_n dX11_finds_39 rfl rfl) <|
  am_fc (ok_iald dX11_finds_40 rfl) <|
  am_fc (ok_i2l dX11_finds_41 rfl) <|
  am_fc (ok_lcmp dX11_finds_42 rfl) <|
  am_fc (ok_ifle dX11_finds_43 (by decide) rfl) <|
  am_fc (ok_bipush dX11_finds_46 (by decide) rfl) <|
  am_fc (ok_goto dX11_finds_48 (by decide)) <|
  am_fc (ok_iconst dX11_finds_51 (by decide) rfl) <|
  am_fc (ok_iret rfl dX11_finds_52) <|
  am_fn
theorem ok_cd_X11_finds (l : Launch) (D : va_G) (ad : Nat → Nat) (b0 : Nat) (Hb : Heap) : ∀ q ∈ cd_X11_finds, am_ok l D ad b0 Hb am_If yX11_finds cX11_finds 5 (some .int) q.1 q.2 := ok_cd_X11_finds_0 l D ad b0 Hb
set_option maxRecDepth 100000 in
theorem ok_cd_X11_sheet_0 (l : Launch) (D : va_G) (ad : Nat → Nat) (b0 : Nat) (Hb : Heap) : ∀ q ∈ cd_X11_sheet_0, am_ok l D ad b0 Hb am_If yX11_sheet cX11_sheet 5 (some .int) q.1 q.2 :=
  am_fc (ok_iload_n dX11_sheet_0 rfl rfl) <|
  am_fc (ok_invS (i := ii_X11_isSheet) rfl mm_X11_isSheet dX11_sheet_1 w6_87 rfl) <|
  am_fc (ok_ifeq dX11_sheet_4 (by decide) rfl) <|
  am_fc (ok_iload_n dX11_sheet_7 rfl rfl) <|
  am_fc (ok_invS (i := ii_X11_isLane) rfl mm_X11_isLane dX11_sheet_8 w6_98 rfl) <|
  am_fc (ok_ifeq dX11_sheet_11 (by decide) rfl) <|
  am_fc (ok_iload_n dX11_sheet_14 rfl rfl) <|
  am_fc (ok_bipush dX11_sheet_15 (by decide) rfl) <|
  am_fc (ok_cle dX11_sheet_17 (by decide) rfl) <|
  am_fc (ok_iconst dX11_sheet_20 (by decide) rfl) <|
  am_fc (ok_iret rfl dX11_sheet_21) <|
  am_fc (ok_iload_n dX11_sheet_22 rfl rfl) <|
  am_fc (ok_ifge dX11_sheet_23 (by decide) rfl) <|
  am_fc (ok_bipush dX11_sheet_26 (by decide) rfl) <|
  am_fc (ok_iret rfl dX11_sheet_28) <|
  am_fc (ok_aload_n dX11_sheet_29 rfl rfl) <|
  am_fc (ok_getR cl_10 (by decide) rfl dX11_sheet_30 w4_159 rfl) <|
  am_fc (ok_iload_n dX11_sheet_33 rfl rfl) <|
  am_fc (ok_iload_n dX11_sheet_34 rfl rfl) <|
  am_fc (ok_iast dX11_sheet_35 rfl) <|
  am_fc (ok_aload_n dX11_sheet_36 rfl rfl) <|
  am_fc (ok_getR cl_10 (by decide) rfl dX11_sheet_37 w4_160 rfl) <|
  am_fc (ok_iload_n dX11_sheet_40 rfl rfl) <|
  am_fc (ok_iload_n dX11_sheet_41 rfl rfl) <|
  am_fc (ok_iast dX11_sheet_42 rfl) <|
  am_fc (ok_iconst dX11_sheet_43 (by decide) rfl) <|
  am_fc (ok_istore dX11_sheet_44 rfl) <|
  am_fc (ok_iload dX11_sheet_46 rfl) <|
  am_fc (ok_bipush dX11_sheet_48 (by decide) rfl) <|
  am_fc (ok_cge dX11_sheet_50 (by decide) rfl) <|
  am_fc (ok_aload_n dX11_sheet_53 rfl rfl) <|
  am_fc (ok_getR cl_10 (by decide) rfl dX11_sheet_54 w4_161 rfl) <|
  am_fc (ok_bipush dX11_sheet_57 (by decide) rfl) <|
  am_fc (ok_iload_n dX11_sheet_59 rfl rfl) <|
  am_fc (ok_imul dX11_sheet_60 rfl) <|
  am_fc (ok_iload dX11_sheet_61 rfl) <|
  am_fc (ok_iadd dX11_sheet_63 rfl) <|
  am_fc (ok_iconst dX11_sheet_64 (by decide) rfl) <|
  am_fc (ok_iast dX11_sheet_65 rfl) <|
  am_fc (ok_iinc dX11_sheet_66 (by decide) rfl) <|
  am_fc (ok_goto dX11_sheet_69 (by decide)) <|
  am_fc (ok_iload_n dX11_sheet_72 rfl rfl) <|
  am_fc (ok_iret rfl dX11_sheet_73) <|
  am_fn
theorem ok_cd_X11_sheet (l : Launch) (D : va_G) (ad : Nat → Nat) (b0 : Nat) (Hb : Heap) : ∀ q ∈ cd_X11_sheet, am_ok l D ad b0 Hb am_If yX11_sheet cX11_sheet 5 (some .int) q.1 q.2 := ok_cd_X11_sheet_0 l D ad b0 Hb
set_option maxRecDepth 100000 in
theorem ok_cd_X11_drop_0 (l : Launch) (D : va_G) (ad : Nat → Nat) (b0 : Nat) (Hb : Heap) : ∀ q ∈ cd_X11_drop_0, am_ok l D ad b0 Hb am_If yX11_drop cX11_drop 2 (some .int) q.1 q.2 :=
  am_fc (ok_iload_n dX11_drop_0 rfl rfl) <|
  am_fc (ok_invS (i := ii_X11_isSheet) rfl mm_X11_isSheet dX11_drop_1 w6_87 rfl) <|
  am_fc (ok_ifne dX11_drop_4 (by decide) rfl) <|
  am_fc (ok_iconst dX11_drop_7 (by decide) rfl) <|
  am_fc (ok_iret rfl dX11_drop_8) <|
  am_fc (ok_aload_n dX11_drop_9 rfl rfl) <|
  am_fc (ok_getR cl_10 (by decide) rfl dX11_drop_10 w4_159 rfl) <|
  am_fc (ok_iload_n dX11_drop_13 rfl rfl) <|
  am_fc (ok_iald dX11_drop_14 rfl) <|
  am_fc (ok_ifge dX11_drop_15 (by decide) rfl) <|
  am_fc (ok_bipush dX11_drop_18 (by decide) rfl) <|
  am_fc (ok_iret rfl dX11_drop_20) <|
  am_fc (ok_aload_n dX11_drop_21 rfl rfl) <|
  am_fc (ok_getR cl_10 (by decide) rfl dX11_drop_22 w4_159 rfl) <|
  am_fc (ok_iload_n dX11_drop_25 rfl rfl) <|
  am_fc (ok_iconst dX11_drop_26 (by decide) rfl) <|
  am_fc (ok_iast dX11_drop_27 rfl) <|
  am_fc (ok_aload_n dX11_drop_28 rfl rfl) <|
  am_fc (ok_getR cl_10 (by decide) rfl dX11_drop_29 w4_160 rfl) <|
  am_fc (ok_iload_n dX11_drop_32 rfl rfl) <|
  am_fc (ok_iald dX11_drop_33 rfl) <|
  am_fc (ok_iret rfl dX11_drop_34) <|
  am_fn
theorem ok_cd_X11_drop (l : Launch) (D : va_G) (ad : Nat → Nat) (b0 : Nat) (Hb : Heap) : ∀ q ∈ cd_X11_drop, am_ok l D ad b0 Hb am_If yX11_drop cX11_drop 2 (some .int) q.1 q.2 := ok_cd_X11_drop_0 l D ad b0 Hb
set_option maxRecDepth 100000 in
theorem ok_cd_X11_item_0 (l : Launch) (D : va_G) (ad : Nat → Nat) (b0 : Nat) (Hb : Heap) : ∀ q ∈ cd_X11_item_0, am_ok l D ad b0 Hb am_If yX11_item cX11_item 6 (some .int) q.1 q.2 :=
  am_fc (ok_iload_n dX11_item_0 rfl rfl) <|
  am_fc (ok_invS (i := ii_X11_isSheet) rfl mm_X11_isSheet dX11_item_1 w6_87 rfl) <|
  am_fc (ok_ifeq dX11_item_4 (by decide) rfl) <|
  am_fc (ok_iload_n dX11_item_7 rfl rfl) <|
  am_fc (ok_invS (i := ii_X11_isLane) rfl mm_X11_isLane dX11_item_8 w6_98 rfl) <|
  am_fc (ok_ifne dX11_item_11 (by decide) rfl) <|
  am_fc (ok_iconst dX11_item_14 (by decide) rfl) <|
  am_fc (ok_iret rfl dX11_item_15) <|
  am_fc (ok_aload_n dX11_item_16 rfl rfl) <|
  am_fc (ok_iload_n dX11_item_17 rfl rfl) <|
  am_fc (ok_iload_n dX11_item_18 rfl rfl) <|
  am_fc (ok_iload_n dX11_item_19 rfl rfl) <|
  am_fc (ok_iconst dX11_item_20 (by decide) rfl) <|
  am_fc (ok_invV (i := ii_X11_finds) rfl (Or.inr ⟨_, rfl, by decide, rfl⟩) mm_X11_finds dX11_item_21 w6_90 rfl) <|
  am_fc (ok_istore dX11_item_24 rfl) <|
  am_fc (ok_iload dX11_item_26 rfl) <|
  am_fc (ok_ifge dX11_item_28 (by decide) rfl) <|
  am_fc (ok_iload dX11_item_31 rfl) <|
  am_fc (ok_iret rfl dX11_item_33) <|
  am_fc (ok_aload_n dX11_item_34 rfl rfl) <|
  am_fc (ok_getR cl_10 (by decide) rfl dX11_item_35 w4_161 rfl) <|
  am_fc (ok_bipush dX11_item_38 (by decide) rfl) <|
  am_fc (ok_iload_n dX11_item_40 rfl rfl) <|
  am_fc (ok_imul dX11_item_41 rfl) <|
  am_fc (ok_iload_n dX11_item_42 rfl rfl) <|
  am_fc (ok_iadd dX11_item_43 rfl) <|
  am_fc (ok_iload_n dX11_item_44 rfl rfl) <|
  am_fc (ok_ifne dX11_item_45 (by decide) rfl) <|
  am_fc (ok_iload dX11_item_48 rfl) <|
  am_fc (ok_ifeq dX11_item_50 (by decide) rfl) <|
  am_fc (ok_iconst dX11_item_53 (by decide) rfl) <|
  am_fc (ok_goto dX11_item_54 (by decide)) <|
  am_fc (ok_iconst dX11_item_57 (by decide) rfl) <|
  am_fc (ok_goto dX11_item_58 (by decide)) <|
  am_fc (ok_iload_n dX11_item_61 rfl rfl) <|
  am_fc (ok_iconst dX11_item_62 (by decide) rfl) <|
  am_fc (ok_cne dX11_item_63 (by decide) rfl) <|
  am_fc (ok_iload dX11_item_66 rfl) <|
  am_fc (ok_i2b dX11_item_68 rfl) <|
  am_fc (ok_goto dX11_item_69 (by decide)) <|
  am_fc (ok_iload dX11_item_72 rfl) <|
  am_fc (ok_iast dX11_item_74 rfl) <|
  am_fc (ok_iconst dX11_item_75 (by decide) rfl) <|
  am_fc (ok_iret rfl dX11_item_76) <|
  am_fn
theorem ok_cd_X11_item (l : Launch) (D : va_G) (ad : Nat → Nat) (b0 : Nat) (Hb : Heap) : ∀ q ∈ cd_X11_item, am_ok l D ad b0 Hb am_If yX11_item cX11_item 6 (some .int) q.1 q.2 := ok_cd_X11_item_0 l D ad b0 Hb
set_option maxRecDepth 100000 in
theorem ok_cd_X11_copy_0 (l : Launch) (D : va_G) (ad : Nat → Nat) (b0 : Nat) (Hb : Heap) : ∀ q ∈ cd_X11_copy_0, am_ok l D ad b0 Hb am_If yX11_copy cX11_copy 7 (some .int) q.1 q.2 :=
  am_fc (ok_iload_n dX11_copy_0 rfl rfl) <|
  am_fc (ok_invS (i := ii_X11_isSheet) rfl mm_X11_isSheet dX11_copy_1 w6_87 rfl) <|
  am_fc (ok_ifeq dX11_copy_4 (by decide) rfl) <|
  am_fc (ok_iload_n dX11_copy_7 rfl rfl) <|
  am_fc (ok_invS (i := ii_X11_isSheet) rfl mm_X11_isSheet dX11_copy_8 w6_87 rfl) <|
  am_fc (ok_ifne dX11_copy_11 (by decide) rfl) <|
  am_fc (ok_iconst dX11_copy_14 (by decide) rfl) <|
  am_fc (ok_iret rfl dX11_copy_15) <|
  am_fc (ok_aload_n dX11_copy_16 rfl rfl) <|
  am_fc (ok_getR cl_10 (by decide) rfl dX11_copy_17 w4_159 rfl) <|
  am_fc (ok_iload_n dX11_copy_20 rfl rfl) <|
  am_fc (ok_iald dX11_copy_21 rfl) <|
  am_fc (ok_iflt dX11_copy_22 (by decide) rfl) <|
  am_fc (ok_aload_n dX11_copy_25 rfl rfl) <|
  am_fc (ok_getR cl_10 (by decide) rfl dX11_copy_26 w4_159 rfl) <|
  am_fc (ok_iload_n dX11_copy_29 rfl rfl) <|
  am_fc (ok_iald dX11_copy_30 rfl) <|
  am_fc (ok_ifge dX11_copy_31 (by decide) rfl) <|
  am_fc (ok_bipush dX11_copy_34 (by decide) rfl) <|
  am_fc (ok_iret rfl dX11_copy_36) <|
  am_fc (ok_aload_n dX11_copy_37 rfl rfl) <|
  am_fc (ok_getR cl_10 (by decide) rfl dX11_copy_38 w4_159 rfl) <|
  am_fc (ok_iload_n dX11_copy_41 rfl rfl) <|
  am_fc (ok_iald dX11_copy_42 rfl) <|
  am_fc (ok_aload_n dX11_copy_43 rfl rfl) <|
  am_fc (ok_getR cl_10 (by decide) rfl dX11_copy_44 w4_159 rfl) <|
  am_fc (ok_iload_n dX11_copy_47 rfl rfl) <|
  am_fc (ok_iald dX11_copy_48 rfl) <|
  am_fc (ok_ceq dX11_copy_49 (by decide) rfl) <|
  am_fc (ok_bipush dX11_copy_52 (by decide) rfl) <|
  am_fc (ok_iret rfl dX11_copy_54) <|
  am_fc (ok_iload dX11_copy_55 rfl) <|
  am_fc (ok_iflt dX11_copy_57 (by decide) rfl) <|
  am_fc (ok_aload_n dX11_copy_60 rfl rfl) <|
  am_fc (ok_iload_n dX11_copy_61 rfl rfl) <|
  am_fc (ok_aload_n dX11_copy_62 rfl rfl) <|
  am_fc (ok_getR cl_10 (by decide) rfl dX11_copy_63 w4_159 rfl) <|
  am_fc (ok_iload_n dX11_copy_66 rfl rfl) <|
  am_fc (ok_iald dX11_copy_67 rfl) <|
  am_fc (ok_iload_n dX11_copy_68 rfl rfl) <|
  am_fc (ok_iload dX11_copy_69 rfl) <|
  am_fc (ok_invV (i := ii_X11_finds) rfl (Or.inr ⟨_, rfl, by decide, rfl⟩) mm_X11_finds dX11_copy_71 w6_90 rfl) <|
  am_fc (ok_iflt dX11_copy_74 (by decide) rfl) <|
  am_fc (ok_aload_n dX11_copy_77 rfl rfl) <|
  am_fc (ok_iload_n dX11_copy_78 rfl rfl) <|
  am_fc (ok_aload_n dX11_copy_79 rfl rfl) <|
  am_fc (ok_getR cl_10 (by decide) rfl dX11_copy_80 w4_159 rfl) <|
  am_fc (ok_iload_n dX11_copy_83 rfl rfl) <|
  am_fc (ok_iald dX11_copy_84 rfl) <|
  am_fc (ok_iload dX11_copy_85 rfl) <|
  am_fn
set_option maxRecDepth 100000 in
theorem ok_cd_X11_copy_1 (l : Launch) (D : va_G) (ad : Nat → Nat) (b0 : Nat) (Hb : Heap) : ∀ q ∈ cd_X11_copy_1, am_ok l D ad b0 Hb am_If yX11_copy cX11_copy 7 (some .int) q.1 q.2 :=
  am_fc (ok_iload dX11_copy_87 rfl) <|
  am_fc (ok_invV (i := ii_X11_finds) rfl (Or.inr ⟨_, rfl, by decide, rfl⟩) mm_X11_finds dX11_copy_89 w6_90 rfl) <|
  am_fc (ok_ifge dX11_copy_92 (by decide) rfl) <|
  am_fc (ok_bipush dX11_copy_95 (by decide) rfl) <|
  am_fc (ok_iret rfl dX11_copy_97) <|
  am_fc (ok_iconst dX11_copy_98 (by decide) rfl) <|
  am_fc (ok_istore dX11_copy_99 rfl) <|
  am_fc (ok_iload dX11_copy_101 rfl) <|
  am_fc (ok_iload dX11_copy_103 rfl) <|
  am_fc (ok_cge dX11_copy_105 (by decide) rfl) <|
  am_fc (ok_aload_n dX11_copy_108 rfl rfl) <|
  am_fc (ok_getR cl_10 (by decide) rfl dX11_copy_109 w4_162 rfl) <|
  am_fc (ok_iload dX11_copy_112 rfl) <|
  am_fc (ok_aload_n dX11_copy_114 rfl rfl) <|
  am_fc (ok_getR cl_10 (by decide) rfl dX11_copy_115 w4_161 rfl) <|
  am_fc (ok_bipush dX11_copy_118 (by decide) rfl) <|
  am_fc (ok_iload_n dX11_copy_120 rfl rfl) <|
  am_fc (ok_imul dX11_copy_121 rfl) <|
  am_fc (ok_iload_n dX11_copy_122 rfl rfl) <|
  am_fc (ok_iadd dX11_copy_123 rfl) <|
  am_fc (ok_iload dX11_copy_124 rfl) <|
  am_fc (ok_iadd dX11_copy_126 rfl) <|
  am_fc (ok_iald dX11_copy_127 rfl) <|
  am_fc (ok_iast dX11_copy_128 rfl) <|
  am_fc (ok_iinc dX11_copy_129 (by decide) rfl) <|
  am_fc (ok_goto dX11_copy_132 (by decide)) <|
  am_fc (ok_iconst dX11_copy_135 (by decide) rfl) <|
  am_fc (ok_istore dX11_copy_136 rfl) <|
  am_fc (ok_iload dX11_copy_138 rfl) <|
  am_fc (ok_iload dX11_copy_140 rfl) <|
  am_fc (ok_cge dX11_copy_142 (by decide) rfl) <|
  am_fc (ok_aload_n dX11_copy_145 rfl rfl) <|
  am_fc (ok_getR cl_10 (by decide) rfl dX11_copy_146 w4_161 rfl) <|
  am_fc (ok_bipush dX11_copy_149 (by decide) rfl) <|
  am_fc (ok_iload_n dX11_copy_151 rfl rfl) <|
  am_fc (ok_imul dX11_copy_152 rfl) <|
  am_fc (ok_iload dX11_copy_153 rfl) <|
  am_fc (ok_iadd dX11_copy_155 rfl) <|
  am_fc (ok_iload dX11_copy_156 rfl) <|
  am_fc (ok_iadd dX11_copy_158 rfl) <|
  am_fc (ok_aload_n dX11_copy_159 rfl rfl) <|
  am_fc (ok_getR cl_10 (by decide) rfl dX11_copy_160 w4_162 rfl) <|
  am_fc (ok_iload dX11_copy_163 rfl) <|
  am_fc (ok_iald dX11_copy_165 rfl) <|
  am_fc (ok_iast dX11_copy_166 rfl) <|
  am_fc (ok_iinc dX11_copy_167 (by decide) rfl) <|
  am_fc (ok_goto dX11_copy_170 (by decide)) <|
  am_fc (ok_iload dX11_copy_173 rfl) <|
  am_fc (ok_iret rfl dX11_copy_175) <|
  am_fn
theorem ok_cd_X11_copy (l : Launch) (D : va_G) (ad : Nat → Nat) (b0 : Nat) (Hb : Heap) : ∀ q ∈ cd_X11_copy, am_ok l D ad b0 Hb am_If yX11_copy cX11_copy 7 (some .int) q.1 q.2 := am_fa (ok_cd_X11_copy_0 l D ad b0 Hb) (ok_cd_X11_copy_1 l D ad b0 Hb)
set_option maxRecDepth 100000 in
theorem ok_cd_X11_reads_0 (l : Launch) (D : va_G) (ad : Nat → Nat) (b0 : Nat) (Hb : Heap) : ∀ q ∈ cd_X11_reads_0, am_ok l D ad b0 Hb am_If yX11_reads cX11_reads 6 (some .int) q.1 q.2 :=
  am_fc (ok_iload_n dX11_reads_0 rfl rfl) <|
  am_fc (ok_invS (i := ii_X11_isSheet) rfl mm_X11_isSheet dX11_reads_1 w6_87 rfl) <|
  am_fc (ok_ifne dX11_reads_4 (by decide) rfl) <|
  am_fc (ok_iconst dX11_reads_7 (by decide) rfl) <|
  am_fc (ok_iret rfl dX11_reads_8) <|
  am_fc (ok_aload_n dX11_reads_9 rfl rfl) <|
  am_fc (ok_iload_n dX11_reads_10 rfl rfl) <|
  am_fc (ok_iconst dX11_reads_11 (by decide) rfl) <|
  am_fc (ok_iload_n dX11_reads_12 rfl rfl) <|
  am_fc (ok_aload_n dX11_reads_13 rfl rfl) <|
  am_fc (ok_getI cl_10 (by decide) rfl dX11_reads_14 w4_113 rfl) <|
  am_fc (ok_invV (i := ii_X11_finds) rfl (Or.inr ⟨_, rfl, by decide, rfl⟩) mm_X11_finds dX11_reads_17 w6_90 rfl) <|
  am_fc (ok_istore_n dX11_reads_20 rfl rfl) <|
  am_fc (ok_iload_n dX11_reads_21 rfl rfl) <|
  am_fc (ok_ifge dX11_reads_22 (by decide) rfl) <|
  am_fc (ok_iload_n dX11_reads_25 rfl rfl) <|
  am_fc (ok_iret rfl dX11_reads_26) <|
  am_fc (ok_iconst dX11_reads_27 (by decide) rfl) <|
  am_fc (ok_istore dX11_reads_28 rfl) <|
  am_fc (ok_iconst dX11_reads_30 (by decide) rfl) <|
  am_fc (ok_istore dX11_reads_31 rfl) <|
  am_fc (ok_iload dX11_reads_33 rfl) <|
  am_fc (ok_aload_n dX11_reads_35 rfl rfl) <|
  am_fc (ok_getI cl_10 (by decide) rfl dX11_reads_36 w4_113 rfl) <|
  am_fc (ok_cge dX11_reads_39 (by decide) rfl) <|
  am_fc (ok_aload_n dX11_reads_42 rfl rfl) <|
  am_fc (ok_getR cl_10 (by decide) rfl dX11_reads_43 w4_115 rfl) <|
  am_fc (ok_iconst dX11_reads_46 (by decide) rfl) <|
  am_fc (ok_iload dX11_reads_47 rfl) <|
  am_fc (ok_imul dX11_reads_49 rfl) <|
  am_fc (ok_iconst dX11_reads_50 (by decide) rfl) <|
  am_fc (ok_iadd dX11_reads_51 rfl) <|
  am_fc (ok_aload_n dX11_reads_52 rfl rfl) <|
  am_fc (ok_getR cl_10 (by decide) rfl dX11_reads_53 w4_161 rfl) <|
  am_fc (ok_bipush dX11_reads_56 (by decide) rfl) <|
  am_fc (ok_iload_n dX11_reads_58 rfl rfl) <|
  am_fc (ok_imul dX11_reads_59 rfl) <|
  am_fc (ok_iload_n dX11_reads_60 rfl rfl) <|
  am_fc (ok_iadd dX11_reads_61 rfl) <|
  am_fc (ok_iload dX11_reads_62 rfl) <|
  am_fc (ok_iadd dX11_reads_64 rfl) <|
  am_fc (ok_iald dX11_reads_65 rfl) <|
  am_fc (ok_iast dX11_reads_66 rfl) <|
  am_fc (ok_iload dX11_reads_67 rfl) <|
  am_fc (ok_aload_n dX11_reads_69 rfl rfl) <|
  am_fc (ok_getR cl_10 (by decide) rfl dX11_reads_70 w4_161 rfl) <|
  am_fc (ok_bipush dX11_reads_73 (by decide) rfl) <|
  am_fc (ok_iload_n dX11_reads_75 rfl rfl) <|
  am_fc (ok_imul dX11_reads_76 rfl) <|
  am_fc (ok_iload_n dX11_reads_77 rfl rfl) <|
  am_fn
set_option maxRecDepth 100000 in
theorem ok_cd_X11_reads_1 (l : Launch) (D : va_G) (ad : Nat → Nat) (b0 : Nat) (Hb : Heap) : ∀ q ∈ cd_X11_reads_1, am_ok l D ad b0 Hb am_If yX11_reads cX11_reads 6 (some .int) q.1 q.2 :=
  am_fc (ok_iadd dX11_reads_78 rfl) <|
  am_fc (ok_iload dX11_reads_79 rfl) <|
  am_fc (ok_iadd dX11_reads_81 rfl) <|
  am_fc (ok_iald dX11_reads_82 rfl) <|
  am_fc (ok_iadd dX11_reads_83 rfl) <|
  am_fc (ok_istore dX11_reads_84 rfl) <|
  am_fc (ok_iinc dX11_reads_86 (by decide) rfl) <|
  am_fc (ok_goto dX11_reads_89 (by decide)) <|
  am_fc (ok_iload dX11_reads_92 rfl) <|
  am_fc (ok_iret rfl dX11_reads_94) <|
  am_fn
theorem ok_cd_X11_reads (l : Launch) (D : va_G) (ad : Nat → Nat) (b0 : Nat) (Hb : Heap) : ∀ q ∈ cd_X11_reads, am_ok l D ad b0 Hb am_If yX11_reads cX11_reads 6 (some .int) q.1 q.2 := am_fa (ok_cd_X11_reads_0 l D ad b0 Hb) (ok_cd_X11_reads_1 l D ad b0 Hb)
set_option maxRecDepth 100000 in
theorem ok_cd_J6_bitCount_0f7a4_0 (l : Launch) (D : va_G) (ad : Nat → Nat) (b0 : Nat) (Hb : Heap) : ∀ q ∈ cd_J6_bitCount_0f7a4_0, am_ok l D ad b0 Hb am_If yJ6_bitCount_0f7a4 cJ6_bitCount_0f7a4 1 (some .int) q.1 q.2 :=
  am_fc (ok_iload_n dJ6_bitCount_0f7a4_0 rfl rfl) <|
  am_fc (ok_iload_n dJ6_bitCount_0f7a4_1 rfl rfl) <|
  am_fc (ok_iconst dJ6_bitCount_0f7a4_2 (by decide) rfl) <|
  am_fc (ok_iushr dJ6_bitCount_0f7a4_3 rfl) <|
  am_fc (ok_ldcw dJ6_bitCount_0f7a4_4 w2_174 rfl) <|
  am_fc (ok_iand dJ6_bitCount_0f7a4_7 rfl) <|
  am_fc (ok_isub dJ6_bitCount_0f7a4_8 rfl) <|
  am_fc (ok_istore_n dJ6_bitCount_0f7a4_9 rfl rfl) <|
  am_fc (ok_iload_n dJ6_bitCount_0f7a4_10 rfl rfl) <|
  am_fc (ok_ldcw dJ6_bitCount_0f7a4_11 w2_175 rfl) <|
  am_fc (ok_iand dJ6_bitCount_0f7a4_14 rfl) <|
  am_fc (ok_iload_n dJ6_bitCount_0f7a4_15 rfl rfl) <|
  am_fc (ok_iconst dJ6_bitCount_0f7a4_16 (by decide) rfl) <|
  am_fc (ok_iushr dJ6_bitCount_0f7a4_17 rfl) <|
  am_fc (ok_ldcw dJ6_bitCount_0f7a4_18 w2_175 rfl) <|
  am_fc (ok_iand dJ6_bitCount_0f7a4_21 rfl) <|
  am_fc (ok_iadd dJ6_bitCount_0f7a4_22 rfl) <|
  am_fc (ok_istore_n dJ6_bitCount_0f7a4_23 rfl rfl) <|
  am_fc (ok_iload_n dJ6_bitCount_0f7a4_24 rfl rfl) <|
  am_fc (ok_iload_n dJ6_bitCount_0f7a4_25 rfl rfl) <|
  am_fc (ok_iconst dJ6_bitCount_0f7a4_26 (by decide) rfl) <|
  am_fc (ok_iushr dJ6_bitCount_0f7a4_27 rfl) <|
  am_fc (ok_iadd dJ6_bitCount_0f7a4_28 rfl) <|
  am_fc (ok_ldcw dJ6_bitCount_0f7a4_29 w2_176 rfl) <|
  am_fc (ok_iand dJ6_bitCount_0f7a4_32 rfl) <|
  am_fc (ok_istore_n dJ6_bitCount_0f7a4_33 rfl rfl) <|
  am_fc (ok_iload_n dJ6_bitCount_0f7a4_34 rfl rfl) <|
  am_fc (ok_iload_n dJ6_bitCount_0f7a4_35 rfl rfl) <|
  am_fc (ok_bipush dJ6_bitCount_0f7a4_36 (by decide) rfl) <|
  am_fc (ok_iushr dJ6_bitCount_0f7a4_38 rfl) <|
  am_fc (ok_iadd dJ6_bitCount_0f7a4_39 rfl) <|
  am_fc (ok_istore_n dJ6_bitCount_0f7a4_40 rfl rfl) <|
  am_fc (ok_iload_n dJ6_bitCount_0f7a4_41 rfl rfl) <|
  am_fc (ok_iload_n dJ6_bitCount_0f7a4_42 rfl rfl) <|
  am_fc (ok_bipush dJ6_bitCount_0f7a4_43 (by decide) rfl) <|
  am_fc (ok_iushr dJ6_bitCount_0f7a4_45 rfl) <|
  am_fc (ok_iadd dJ6_bitCount_0f7a4_46 rfl) <|
  am_fc (ok_istore_n dJ6_bitCount_0f7a4_47 rfl rfl) <|
  am_fc (ok_iload_n dJ6_bitCount_0f7a4_48 rfl rfl) <|
  am_fc (ok_bipush dJ6_bitCount_0f7a4_49 (by decide) rfl) <|
  am_fc (ok_iand dJ6_bitCount_0f7a4_51 rfl) <|
  am_fc (ok_iret rfl dJ6_bitCount_0f7a4_52) <|
  am_fn
theorem ok_cd_J6_bitCount_0f7a4 (l : Launch) (D : va_G) (ad : Nat → Nat) (b0 : Nat) (Hb : Heap) : ∀ q ∈ cd_J6_bitCount_0f7a4, am_ok l D ad b0 Hb am_If yJ6_bitCount_0f7a4 cJ6_bitCount_0f7a4 1 (some .int) q.1 q.2 := ok_cd_J6_bitCount_0f7a4_0 l D ad b0 Hb
set_option maxRecDepth 100000 in
theorem ok_cd_J0_indexOf_0f7a4_0 (l : Launch) (D : va_G) (ad : Nat → Nat) (b0 : Nat) (Hb : Heap) : ∀ q ∈ cd_J0_indexOf_0f7a4_0, am_ok l D ad b0 Hb am_If yJ0_indexOf_0f7a4 cJ0_indexOf_0f7a4 2 (some .int) q.1 q.2 :=
  am_fc (ok_aload_n dJ0_indexOf_0f7a4_0 rfl rfl) <|
  am_fc (ok_iload_n dJ0_indexOf_0f7a4_1 rfl rfl) <|
  am_fc (ok_iconst dJ0_indexOf_0f7a4_2 (by decide) rfl) <|
  am_fc (ok_invV (i := ii_J0_indexOf_7cf53) rfl (Or.inl ⟨rfl, rfl⟩) mm_J0_indexOf_7cf53 dJ0_indexOf_0f7a4_3 w3_82 rfl) <|
  am_fc (ok_iret rfl dJ0_indexOf_0f7a4_6) <|
  am_fn
theorem ok_cd_J0_indexOf_0f7a4 (l : Launch) (D : va_G) (ad : Nat → Nat) (b0 : Nat) (Hb : Heap) : ∀ q ∈ cd_J0_indexOf_0f7a4, am_ok l D ad b0 Hb am_If yJ0_indexOf_0f7a4 cJ0_indexOf_0f7a4 2 (some .int) q.1 q.2 := ok_cd_J0_indexOf_0f7a4_0 l D ad b0 Hb
set_option maxRecDepth 100000 in
theorem ok_cd_J0_indexOf_7cf53_0 (l : Launch) (D : va_G) (ad : Nat → Nat) (b0 : Nat) (Hb : Heap) : ∀ q ∈ cd_J0_indexOf_7cf53_0, am_ok l D ad b0 Hb am_If yJ0_indexOf_7cf53 cJ0_indexOf_7cf53 3 (some .int) q.1 q.2 :=
  am_fc (ok_aload_n dJ0_indexOf_7cf53_0 rfl rfl) <|
  am_fc (ok_invV (i := ii_J0_isLatin1_aae02) rfl (Or.inl ⟨rfl, rfl⟩) mm_J0_isLatin1_aae02 dJ0_indexOf_7cf53_1 w3_86 rfl) <|
  am_fc (ok_ifeq dJ0_indexOf_7cf53_4 (by decide) rfl) <|
  am_fc (ok_aload_n dJ0_indexOf_7cf53_7 rfl rfl) <|
  am_fc (ok_getSR dJ0_indexOf_7cf53_8 w6_119 rfl) <|
  am_fc (ok_iload_n dJ0_indexOf_7cf53_11 rfl rfl) <|
  am_fc (ok_iload_n dJ0_indexOf_7cf53_12 rfl rfl) <|
  am_fc (ok_aload_n dJ0_indexOf_7cf53_13 rfl rfl) <|
  am_fc (ok_invV (i := ii_J0_length_8abf5) rfl (Or.inl ⟨rfl, rfl⟩) mm_J0_length_8abf5 dJ0_indexOf_7cf53_14 w3_92 rfl) <|
  am_fc (ok_invS (i := ii_J1_indexOf_4cfef) rfl mm_J1_indexOf_4cfef dJ0_indexOf_7cf53_17 w3_100 rfl) <|
  am_fc (ok_goto dJ0_indexOf_7cf53_20 (by decide)) <|
  am_fc (ok_aload_n dJ0_indexOf_7cf53_23 rfl rfl) <|
  am_fc (ok_getSR dJ0_indexOf_7cf53_24 w6_119 rfl) <|
  am_fc (ok_iload_n dJ0_indexOf_7cf53_27 rfl rfl) <|
  am_fc (ok_iload_n dJ0_indexOf_7cf53_28 rfl rfl) <|
  am_fc (ok_aload_n dJ0_indexOf_7cf53_29 rfl rfl) <|
  am_fc (ok_invV (i := ii_J0_length_8abf5) rfl (Or.inl ⟨rfl, rfl⟩) mm_J0_length_8abf5 dJ0_indexOf_7cf53_30 w3_92 rfl) <|
  am_fc (ok_iret rfl dJ0_indexOf_7cf53_36) <|
  am_fn
theorem ok_cd_J0_indexOf_7cf53 (l : Launch) (D : va_G) (ad : Nat → Nat) (b0 : Nat) (Hb : Heap) : ∀ q ∈ cd_J0_indexOf_7cf53, am_ok l D ad b0 Hb am_If yJ0_indexOf_7cf53 cJ0_indexOf_7cf53 3 (some .int) q.1 q.2 := ok_cd_J0_indexOf_7cf53_0 l D ad b0 Hb
set_option maxRecDepth 100000 in
theorem ok_cd_J0_isLatin1_aae02_0 (l : Launch) (D : va_G) (ad : Nat → Nat) (b0 : Nat) (Hb : Heap) : ∀ q ∈ cd_J0_isLatin1_aae02_0, am_ok l D ad b0 Hb am_If yJ0_isLatin1_aae02 cJ0_isLatin1_aae02 1 (some .boolean) q.1 q.2 :=
  am_fc (ok_getsI (fun _ hU => hU.2.1.2.2.2) dJ0_isLatin1_aae02_0 w3_90 rfl) <|
  am_fc (ok_ifeq dJ0_isLatin1_aae02_3 (by decide) rfl) <|
  am_fc (ok_aload_n dJ0_isLatin1_aae02_6 rfl rfl) <|
  am_fc (ok_getSI dJ0_isLatin1_aae02_7 w6_118 rfl) <|
  am_fc (ok_ifne dJ0_isLatin1_aae02_10 (by decide) rfl) <|
  am_fc (ok_iconst dJ0_isLatin1_aae02_13 (by decide) rfl) <|
  am_fc (ok_goto dJ0_isLatin1_aae02_14 (by decide)) <|
  am_fc (ok_iconst dJ0_isLatin1_aae02_17 (by decide) rfl) <|
  am_fc (ok_zret rfl dJ0_isLatin1_aae02_18) <|
  am_fn
theorem ok_cd_J0_isLatin1_aae02 (l : Launch) (D : va_G) (ad : Nat → Nat) (b0 : Nat) (Hb : Heap) : ∀ q ∈ cd_J0_isLatin1_aae02, am_ok l D ad b0 Hb am_If yJ0_isLatin1_aae02 cJ0_isLatin1_aae02 1 (some .boolean) q.1 q.2 := ok_cd_J0_isLatin1_aae02_0 l D ad b0 Hb
set_option maxRecDepth 100000 in
theorem ok_cd_J0_length_8abf5_0 (l : Launch) (D : va_G) (ad : Nat → Nat) (b0 : Nat) (Hb : Heap) : ∀ q ∈ cd_J0_length_8abf5_0, am_ok l D ad b0 Hb am_If yJ0_length_8abf5 cJ0_length_8abf5 1 (some .int) q.1 q.2 :=
  am_fc (ok_aload_n dJ0_length_8abf5_0 rfl rfl) <|
  am_fc (ok_getSR dJ0_length_8abf5_1 w6_119 rfl) <|
  am_fc (ok_alen (by decide) (by decide) dJ0_length_8abf5_4 rfl) <|
  am_fc (ok_aload_n dJ0_length_8abf5_5 rfl rfl) <|
  am_fc (ok_invV (i := ii_J0_coder_7d493) rfl (Or.inl ⟨rfl, rfl⟩) mm_J0_coder_7d493 dJ0_length_8abf5_6 w3_96 rfl) <|
  am_fc (ok_ishr dJ0_length_8abf5_9 rfl) <|
  am_fc (ok_iret rfl dJ0_length_8abf5_10) <|
  am_fn
theorem ok_cd_J0_length_8abf5 (l : Launch) (D : va_G) (ad : Nat → Nat) (b0 : Nat) (Hb : Heap) : ∀ q ∈ cd_J0_length_8abf5, am_ok l D ad b0 Hb am_If yJ0_length_8abf5 cJ0_length_8abf5 1 (some .int) q.1 q.2 := ok_cd_J0_length_8abf5_0 l D ad b0 Hb
set_option maxRecDepth 100000 in
theorem ok_cd_J0_coder_7d493_0 (l : Launch) (D : va_G) (ad : Nat → Nat) (b0 : Nat) (Hb : Heap) : ∀ q ∈ cd_J0_coder_7d493_0, am_ok l D ad b0 Hb am_If yJ0_coder_7d493 cJ0_coder_7d493 1 (some .byte) q.1 q.2 :=
  am_fc (ok_getsI (fun _ hU => hU.2.1.2.2.2) dJ0_coder_7d493_0 w3_90 rfl) <|
  am_fc (ok_ifeq dJ0_coder_7d493_3 (by decide) rfl) <|
  am_fc (ok_aload_n dJ0_coder_7d493_6 rfl rfl) <|
  am_fc (ok_getSI dJ0_coder_7d493_7 w6_118 rfl) <|
  am_fc (ok_goto dJ0_coder_7d493_10 (by decide)) <|
  am_fc (ok_iconst dJ0_coder_7d493_13 (by decide) rfl) <|
  am_fc (ok_bret rfl dJ0_coder_7d493_14) <|
  am_fn
theorem ok_cd_J0_coder_7d493 (l : Launch) (D : va_G) (ad : Nat → Nat) (b0 : Nat) (Hb : Heap) : ∀ q ∈ cd_J0_coder_7d493, am_ok l D ad b0 Hb am_If yJ0_coder_7d493 cJ0_coder_7d493 1 (some .byte) q.1 q.2 := ok_cd_J0_coder_7d493_0 l D ad b0 Hb
set_option maxRecDepth 100000 in
theorem ok_cd_J1_canEncode_9a6ad_0 (l : Launch) (D : va_G) (ad : Nat → Nat) (b0 : Nat) (Hb : Heap) : ∀ q ∈ cd_J1_canEncode_9a6ad_0, am_ok l D ad b0 Hb am_If yJ1_canEncode_9a6ad cJ1_canEncode_9a6ad 1 (some .boolean) q.1 q.2 :=
  am_fc (ok_iload_n dJ1_canEncode_9a6ad_0 rfl rfl) <|
  am_fc (ok_iflt dJ1_canEncode_9a6ad_1 (by decide) rfl) <|
  am_fc (ok_iload_n dJ1_canEncode_9a6ad_4 rfl rfl) <|
  am_fc (ok_sipush dJ1_canEncode_9a6ad_5 (by decide) rfl) <|
  am_fc (ok_cgt dJ1_canEncode_9a6ad_8 (by decide) rfl) <|
  am_fc (ok_iconst dJ1_canEncode_9a6ad_11 (by decide) rfl) <|
  am_fc (ok_goto dJ1_canEncode_9a6ad_12 (by decide)) <|
  am_fc (ok_iconst dJ1_canEncode_9a6ad_15 (by decide) rfl) <|
  am_fc (ok_zret rfl dJ1_canEncode_9a6ad_16) <|
  am_fn
theorem ok_cd_J1_canEncode_9a6ad (l : Launch) (D : va_G) (ad : Nat → Nat) (b0 : Nat) (Hb : Heap) : ∀ q ∈ cd_J1_canEncode_9a6ad, am_ok l D ad b0 Hb am_If yJ1_canEncode_9a6ad cJ1_canEncode_9a6ad 1 (some .boolean) q.1 q.2 := ok_cd_J1_canEncode_9a6ad_0 l D ad b0 Hb
set_option maxRecDepth 100000 in
theorem ok_cd_J1_indexOf_4cfef_0 (l : Launch) (D : va_G) (ad : Nat → Nat) (b0 : Nat) (Hb : Heap) : ∀ q ∈ cd_J1_indexOf_4cfef_0, am_ok l D ad b0 Hb am_If yJ1_indexOf_4cfef cJ1_indexOf_4cfef 4 (some .int) q.1 q.2 :=
  am_fc (ok_iload_n dJ1_indexOf_4cfef_0 rfl rfl) <|
  am_fc (ok_invS (i := ii_J1_canEncode_9a6ad) rfl mm_J1_canEncode_9a6ad dJ1_indexOf_4cfef_1 w3_103 rfl) <|
  am_fc (ok_ifne dJ1_indexOf_4cfef_4 (by decide) rfl) <|
  am_fc (ok_iconst dJ1_indexOf_4cfef_7 (by decide) rfl) <|
  am_fc (ok_iret rfl dJ1_indexOf_4cfef_8) <|
  am_fc (ok_iload_n dJ1_indexOf_4cfef_9 rfl rfl) <|
  am_fc (ok_iconst dJ1_indexOf_4cfef_10 (by decide) rfl) <|
  am_fc (ok_mmax dJ1_indexOf_4cfef_11 w3_106 w2_232 w1_14 w2_233 rfl) <|
  am_fc (ok_istore_n dJ1_indexOf_4cfef_14 rfl rfl) <|
  am_fc (ok_iload_n dJ1_indexOf_4cfef_15 rfl rfl) <|
  am_fc (ok_aload_n dJ1_indexOf_4cfef_16 rfl rfl) <|
  am_fc (ok_alen (by decide) (by decide) dJ1_indexOf_4cfef_17 rfl) <|
  am_fc (ok_mmin dJ1_indexOf_4cfef_18 w3_107 w3_108 w1_14 w3_109 rfl) <|
  am_fc (ok_istore_n dJ1_indexOf_4cfef_21 rfl rfl) <|
  am_fc (ok_iload_n dJ1_indexOf_4cfef_22 rfl rfl) <|
  am_fc (ok_iload_n dJ1_indexOf_4cfef_23 rfl rfl) <|
  am_fc (ok_clt dJ1_indexOf_4cfef_24 (by decide) rfl) <|
  am_fc (ok_iconst dJ1_indexOf_4cfef_27 (by decide) rfl) <|
  am_fc (ok_iret rfl dJ1_indexOf_4cfef_28) <|
  am_fc (ok_aload_n dJ1_indexOf_4cfef_29 rfl rfl) <|
  am_fc (ok_iload_n dJ1_indexOf_4cfef_30 rfl rfl) <|
  am_fc (ok_iload_n dJ1_indexOf_4cfef_31 rfl rfl) <|
  am_fc (ok_iload_n dJ1_indexOf_4cfef_32 rfl rfl) <|
  am_fc (ok_invS (i := ii_J1_indexOfChar_4cfef) rfl mm_J1_indexOfChar_4cfef dJ1_indexOf_4cfef_33 w3_110 rfl) <|
  am_fc (ok_iret rfl dJ1_indexOf_4cfef_36) <|
  am_fn
theorem ok_cd_J1_indexOf_4cfef (l : Launch) (D : va_G) (ad : Nat → Nat) (b0 : Nat) (Hb : Heap) : ∀ q ∈ cd_J1_indexOf_4cfef, am_ok l D ad b0 Hb am_If yJ1_indexOf_4cfef cJ1_indexOf_4cfef 4 (some .int) q.1 q.2 := ok_cd_J1_indexOf_4cfef_0 l D ad b0 Hb
set_option maxRecDepth 100000 in
theorem ok_cd_J1_indexOfChar_4cfef_0 (l : Launch) (D : va_G) (ad : Nat → Nat) (b0 : Nat) (Hb : Heap) : ∀ q ∈ cd_J1_indexOfChar_4cfef_0, am_ok l D ad b0 Hb am_If yJ1_indexOfChar_4cfef cJ1_indexOfChar_4cfef 6 (some .int) q.1 q.2 :=
  am_fc (ok_iload_n dJ1_indexOfChar_4cfef_0 rfl rfl) <|
  am_fc (ok_i2b dJ1_indexOfChar_4cfef_1 rfl) <|
  am_fc (ok_istore dJ1_indexOfChar_4cfef_2 rfl) <|
  am_fc (ok_iload_n dJ1_indexOfChar_4cfef_4 rfl rfl) <|
  am_fc (ok_istore dJ1_indexOfChar_4cfef_5 rfl) <|
  am_fc (ok_iload dJ1_indexOfChar_4cfef_7 rfl) <|
  am_fc (ok_iload_n dJ1_indexOfChar_4cfef_9 rfl rfl) <|
  am_fc (ok_cge dJ1_indexOfChar_4cfef_10 (by decide) rfl) <|
  am_fc (ok_aload_n dJ1_indexOfChar_4cfef_13 rfl rfl) <|
  am_fc (ok_iload dJ1_indexOfChar_4cfef_14 rfl) <|
  am_fc (ok_bald dJ1_indexOfChar_4cfef_16 rfl) <|
  am_fc (ok_iload dJ1_indexOfChar_4cfef_17 rfl) <|
  am_fc (ok_cne dJ1_indexOfChar_4cfef_19 (by decide) rfl) <|
  am_fc (ok_iload dJ1_indexOfChar_4cfef_22 rfl) <|
  am_fc (ok_iret rfl dJ1_indexOfChar_4cfef_24) <|
  am_fc (ok_iinc dJ1_indexOfChar_4cfef_25 (by decide) rfl) <|
  am_fc (ok_goto dJ1_indexOfChar_4cfef_28 (by decide)) <|
  am_fc (ok_iconst dJ1_indexOfChar_4cfef_31 (by decide) rfl) <|
  am_fc (ok_iret rfl dJ1_indexOfChar_4cfef_32) <|
  am_fn
theorem ok_cd_J1_indexOfChar_4cfef (l : Launch) (D : va_G) (ad : Nat → Nat) (b0 : Nat) (Hb : Heap) : ∀ q ∈ cd_J1_indexOfChar_4cfef, am_ok l D ad b0 Hb am_If yJ1_indexOfChar_4cfef cJ1_indexOfChar_4cfef 6 (some .int) q.1 q.2 := ok_cd_J1_indexOfChar_4cfef_0 l D ad b0 Hb
