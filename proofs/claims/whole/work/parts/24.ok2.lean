set_option maxRecDepth 100000 in
theorem ok_cd_X10_init_0 (l : Launch) (D : va_G) (ad : Nat → Nat) (b0 : Nat) (Hb : Heap) : ∀ q ∈ cd_X10_init_0, am_ok l D ad b0 Hb am_If yX10_init cX10_init 2 (none) q.1 q.2 :=
  am_fc (ok_aload_n dX10_init_0 rfl rfl) <|
  am_fc (ok_obj dX10_init_1 w1_26 w1_27 w1_28 rfl) <|
  am_fc (ok_aload_n dX10_init_4 rfl rfl) <|
  am_fc (ok_new cl_8 df_8 dX10_init_5 w1_29 w1_30 w1_2 rfl) <|
  am_fc (ok_dup dX10_init_8 rfl) <|
  am_fc (ok_invI (i := ii_X9_init) rfl mm_X9_init dX10_init_9 (Or.inl w1_31) rfl) <|
  am_fc (ok_putR cl_9 (by decide) rfl (Or.inr ⟨rfl, rfl, rfl⟩) dX10_init_12 w2_4 rfl) <|
  am_fc (ok_aload_n dX10_init_15 rfl rfl) <|
  am_fc (ok_bipush dX10_init_16 (by decide) rfl) <|
  am_fc (ok_anew (C := "RumourDesk$Saying") (by decide) rfl (by decide) dX10_init_18 w1_57 rfl) <|
  am_fc (ok_putR cl_9 (by decide) rfl (Or.inr ⟨rfl, rfl, rfl⟩) dX10_init_21 w2_5 rfl) <|
  am_fc (ok_aload_n dX10_init_24 rfl rfl) <|
  am_fc (ok_new cl_6 df_6 dX10_init_25 w1_59 w1_60 w1_3 rfl) <|
  am_fc (ok_dup dX10_init_28 rfl) <|
  am_fc (ok_invI (i := ii_X7_init) rfl mm_X7_init dX10_init_29 (Or.inr ⟨_, w1_61⟩) rfl) <|
  am_fc (ok_putR cl_9 (by decide) rfl (Or.inr ⟨rfl, rfl, rfl⟩) dX10_init_32 w2_6 rfl) <|
  am_fc (ok_aload_n dX10_init_35 rfl rfl) <|
  am_fc (ok_new cl_7 df_7 dX10_init_36 w1_91 w1_92 w1_4 rfl) <|
  am_fc (ok_dup dX10_init_39 rfl) <|
  am_fc (ok_invI (i := ii_X8_init) rfl mm_X8_init dX10_init_40 (Or.inr ⟨_, w1_93⟩) rfl) <|
  am_fc (ok_putR cl_9 (by decide) rfl (Or.inr ⟨rfl, rfl, rfl⟩) dX10_init_43 w2_7 rfl) <|
  am_fc (ok_aload_n dX10_init_46 rfl rfl) <|
  am_fc (ok_new cl_1 df_1 dX10_init_47 w1_109 w1_110 w1_5 rfl) <|
  am_fc (ok_dup dX10_init_50 rfl) <|
  am_fc (ok_invI (i := ii_X1_init) rfl mm_X1_init dX10_init_51 (Or.inr ⟨_, w1_111⟩) rfl) <|
  am_fc (ok_putR cl_9 (by decide) rfl (Or.inr ⟨rfl, rfl, rfl⟩) dX10_init_54 w2_8 rfl) <|
  am_fc (ok_aload_n dX10_init_57 rfl rfl) <|
  am_fc (ok_new cl_3 df_3 dX10_init_58 w1_132 w1_133 w1_6 rfl) <|
  am_fc (ok_dup dX10_init_61 rfl) <|
  am_fc (ok_invI (i := ii_X4_init) rfl mm_X4_init dX10_init_62 (Or.inr ⟨_, w1_134⟩) rfl) <|
  am_fc (ok_putR cl_9 (by decide) rfl (Or.inr ⟨rfl, rfl, rfl⟩) dX10_init_65 w2_9 rfl) <|
  am_fc (ok_aload_n dX10_init_68 rfl rfl) <|
  am_fc (ok_new cl_2 df_2 dX10_init_69 w1_153 w1_154 w1_7 rfl) <|
  am_fc (ok_dup dX10_init_72 rfl) <|
  am_fc (ok_invI (i := ii_X3_init) rfl mm_X3_init dX10_init_73 (Or.inr ⟨_, w1_155⟩) rfl) <|
  am_fc (ok_putR cl_9 (by decide) rfl (Or.inr ⟨rfl, rfl, rfl⟩) dX10_init_76 w2_10 rfl) <|
  am_fc (ok_aload_n dX10_init_79 rfl rfl) <|
  am_fc (ok_iconst dX10_init_80 (by decide) rfl) <|
  am_fc (ok_anew (C := "RumourDesk$Sheet") (by decide) rfl (by decide) dX10_init_81 w1_164 rfl) <|
  am_fc (ok_putR cl_9 (by decide) rfl (Or.inr ⟨rfl, rfl, rfl⟩) dX10_init_84 w2_11 rfl) <|
  am_fc (ok_aload_n dX10_init_87 rfl rfl) <|
  am_fc (ok_new cl_0 df_0 dX10_init_88 w1_166 w1_167 w1_8 rfl) <|
  am_fc (ok_dup dX10_init_91 rfl) <|
  am_fc (ok_invI (i := ii_X0_init) rfl mm_X0_init dX10_init_92 (Or.inr ⟨_, w1_168⟩) rfl) <|
  am_fc (ok_putR cl_9 (by decide) rfl (Or.inl rfl) dX10_init_95 w2_12 rfl) <|
  am_fc (ok_aload_n dX10_init_98 rfl rfl) <|
  am_fc (ok_new cl_0 df_0 dX10_init_99 w1_166 w1_167 w1_8 rfl) <|
  am_fc (ok_dup dX10_init_102 rfl) <|
  am_fc (ok_invI (i := ii_X0_init) rfl mm_X0_init dX10_init_103 (Or.inr ⟨_, w1_168⟩) rfl) <|
  am_fc (ok_putR cl_9 (by decide) rfl (Or.inl rfl) dX10_init_106 w2_13 rfl) <|
  am_fn
set_option maxRecDepth 100000 in
theorem ok_cd_X10_init_1 (l : Launch) (D : va_G) (ad : Nat → Nat) (b0 : Nat) (Hb : Heap) : ∀ q ∈ cd_X10_init_1, am_ok l D ad b0 Hb am_If yX10_init cX10_init 2 (none) q.1 q.2 :=
  am_fc (ok_iconst dX10_init_109 (by decide) rfl) <|
  am_fc (ok_istore_n dX10_init_110 rfl rfl) <|
  am_fc (ok_iload_n dX10_init_111 rfl rfl) <|
  am_fc (ok_bipush dX10_init_112 (by decide) rfl) <|
  am_fc (ok_cge dX10_init_114 (by decide) rfl) <|
  am_fc (ok_aload_n dX10_init_117 rfl rfl) <|
  am_fc (ok_getR cl_9 (by decide) rfl dX10_init_118 w2_5 rfl) <|
  am_fc (ok_iload_n dX10_init_121 rfl rfl) <|
  am_fc (ok_new cl_4 df_4 dX10_init_122 w1_57 w1_194 w1_9 rfl) <|
  am_fc (ok_dup dX10_init_125 rfl) <|
  am_fc (ok_invI (i := ii_X5_init) rfl mm_X5_init dX10_init_126 (Or.inr ⟨_, w1_195⟩) rfl) <|
  am_fc (ok_aast (r := (RX5, TX5, 7)) (by decide) rfl rfl (by decide) dX10_init_129 rfl) <|
  am_fc (ok_iinc dX10_init_130 (by decide) rfl) <|
  am_fc (ok_goto dX10_init_133 (by decide)) <|
  am_fc (ok_iconst dX10_init_136 (by decide) rfl) <|
  am_fc (ok_istore_n dX10_init_137 rfl rfl) <|
  am_fc (ok_iload_n dX10_init_138 rfl rfl) <|
  am_fc (ok_iconst dX10_init_139 (by decide) rfl) <|
  am_fc (ok_cge dX10_init_140 (by decide) rfl) <|
  am_fc (ok_aload_n dX10_init_143 rfl rfl) <|
  am_fc (ok_getR cl_9 (by decide) rfl dX10_init_144 w2_11 rfl) <|
  am_fc (ok_iload_n dX10_init_147 rfl rfl) <|
  am_fc (ok_new cl_5 df_5 dX10_init_148 w1_164 w1_226 w1_10 rfl) <|
  am_fc (ok_dup dX10_init_151 rfl) <|
  am_fc (ok_invI (i := ii_X6_init) rfl mm_X6_init dX10_init_152 (Or.inr ⟨_, w1_227⟩) rfl) <|
  am_fc (ok_aast (r := (RX6, TX6, 3)) (by decide) rfl rfl (by decide) dX10_init_155 rfl) <|
  am_fc (ok_iinc dX10_init_156 (by decide) rfl) <|
  am_fc (ok_goto dX10_init_159 (by decide)) <|
  am_fc (ok_vret rfl dX10_init_162) <|
  am_fn
theorem ok_cd_X10_init (l : Launch) (D : va_G) (ad : Nat → Nat) (b0 : Nat) (Hb : Heap) : ∀ q ∈ cd_X10_init, am_ok l D ad b0 Hb am_If yX10_init cX10_init 2 (none) q.1 q.2 := am_fa (ok_cd_X10_init_0 l D ad b0 Hb) (ok_cd_X10_init_1 l D ad b0 Hb)
set_option maxRecDepth 100000 in
theorem ok_cd_X10_person_0 (l : Launch) (D : va_G) (ad : Nat → Nat) (b0 : Nat) (Hb : Heap) : ∀ q ∈ cd_X10_person_0, am_ok l D ad b0 Hb am_If yX10_person cX10_person 6 (some .int) q.1 q.2 :=
  am_fc (ok_iload_n dX10_person_0 rfl rfl) <|
  am_fc (ok_iconst dX10_person_1 (by decide) rfl) <|
  am_fc (ok_invS (i := ii_X10_within) rfl mm_X10_within dX10_person_2 w2_45 rfl) <|
  am_fc (ok_ifeq dX10_person_5 (by decide) rfl) <|
  am_fc (ok_iload_n dX10_person_8 rfl rfl) <|
  am_fc (ok_iconst dX10_person_9 (by decide) rfl) <|
  am_fc (ok_invS (i := ii_X10_within) rfl mm_X10_within dX10_person_10 w2_45 rfl) <|
  am_fc (ok_ifeq dX10_person_13 (by decide) rfl) <|
  am_fc (ok_iload_n dX10_person_16 rfl rfl) <|
  am_fc (ok_iconst dX10_person_17 (by decide) rfl) <|
  am_fc (ok_invS (i := ii_X10_within) rfl mm_X10_within dX10_person_18 w2_45 rfl) <|
  am_fc (ok_ifeq dX10_person_21 (by decide) rfl) <|
  am_fc (ok_iconst dX10_person_24 (by decide) rfl) <|
  am_fc (ok_iload dX10_person_25 rfl) <|
  am_fc (ok_invS (i := ii_X9_mayBe) rfl mm_X9_mayBe dX10_person_27 w2_48 rfl) <|
  am_fc (ok_ifeq dX10_person_30 (by decide) rfl) <|
  am_fc (ok_iconst dX10_person_33 (by decide) rfl) <|
  am_fc (ok_iload dX10_person_34 rfl) <|
  am_fc (ok_invS (i := ii_X9_mayBe) rfl mm_X9_mayBe dX10_person_36 w2_48 rfl) <|
  am_fc (ok_ifne dX10_person_39 (by decide) rfl) <|
  am_fc (ok_iconst dX10_person_42 (by decide) rfl) <|
  am_fc (ok_iret rfl dX10_person_43) <|
  am_fc (ok_aload_n dX10_person_44 rfl rfl) <|
  am_fc (ok_getR cl_9 (by decide) rfl dX10_person_45 w2_4 rfl) <|
  am_fc (ok_getI cl_8 (by decide) rfl dX10_person_48 w1_41 rfl) <|
  am_fc (ok_bipush dX10_person_51 (by decide) rfl) <|
  am_fc (ok_clt dX10_person_53 (by decide) rfl) <|
  am_fc (ok_bipush dX10_person_56 (by decide) rfl) <|
  am_fc (ok_iret rfl dX10_person_58) <|
  am_fc (ok_aload_n dX10_person_59 rfl rfl) <|
  am_fc (ok_getR cl_9 (by decide) rfl dX10_person_60 w2_4 rfl) <|
  am_fc (ok_iload_n dX10_person_63 rfl rfl) <|
  am_fc (ok_iload_n dX10_person_64 rfl rfl) <|
  am_fc (ok_iload_n dX10_person_65 rfl rfl) <|
  am_fc (ok_iload dX10_person_66 rfl) <|
  am_fc (ok_iload dX10_person_68 rfl) <|
  am_fc (ok_invV (i := ii_X9_settle) rfl (Or.inr ⟨_, rfl, by decide, rfl⟩) mm_X9_settle dX10_person_70 w2_54 rfl) <|
  am_fc (ok_iret rfl dX10_person_73) <|
  am_fn
theorem ok_cd_X10_person (l : Launch) (D : va_G) (ad : Nat → Nat) (b0 : Nat) (Hb : Heap) : ∀ q ∈ cd_X10_person, am_ok l D ad b0 Hb am_If yX10_person cX10_person 6 (some .int) q.1 q.2 := ok_cd_X10_person_0 l D ad b0 Hb
set_option maxRecDepth 100000 in
theorem ok_cd_X10_set_0 (l : Launch) (D : va_G) (ad : Nat → Nat) (b0 : Nat) (Hb : Heap) : ∀ q ∈ cd_X10_set_0, am_ok l D ad b0 Hb am_If yX10_set cX10_set 5 (some .int) q.1 q.2 :=
  am_fc (ok_aload_n dX10_set_0 rfl rfl) <|
  am_fc (ok_iload_n dX10_set_1 rfl rfl) <|
  am_fc (ok_invV (i := ii_X10_isPerson) rfl (Or.inr ⟨_, rfl, by decide, rfl⟩) mm_X10_isPerson dX10_set_2 w2_62 rfl) <|
  am_fc (ok_ifeq dX10_set_5 (by decide) rfl) <|
  am_fc (ok_iload_n dX10_set_8 rfl rfl) <|
  am_fc (ok_iload_n dX10_set_9 rfl rfl) <|
  am_fc (ok_invS (i := ii_X9_mayBe) rfl mm_X9_mayBe dX10_set_10 w2_48 rfl) <|
  am_fc (ok_ifne dX10_set_13 (by decide) rfl) <|
  am_fc (ok_iconst dX10_set_16 (by decide) rfl) <|
  am_fc (ok_iret rfl dX10_set_17) <|
  am_fc (ok_aload_n dX10_set_18 rfl rfl) <|
  am_fc (ok_getR cl_9 (by decide) rfl dX10_set_19 w2_4 rfl) <|
  am_fc (ok_getR cl_8 (by decide) rfl dX10_set_22 w1_38 rfl) <|
  am_fc (ok_iload_n dX10_set_25 rfl rfl) <|
  am_fc (ok_aald (by decide) (by decide) dX10_set_26 rfl) <|
  am_fc (ok_iload_n dX10_set_27 rfl rfl) <|
  am_fc (ok_iald dX10_set_28 rfl) <|
  am_fc (ok_istore dX10_set_29 rfl) <|
  am_fc (ok_aload_n dX10_set_31 rfl rfl) <|
  am_fc (ok_getR cl_9 (by decide) rfl dX10_set_32 w2_4 rfl) <|
  am_fc (ok_getR cl_8 (by decide) rfl dX10_set_35 w1_38 rfl) <|
  am_fc (ok_iload_n dX10_set_38 rfl rfl) <|
  am_fc (ok_aald (by decide) (by decide) dX10_set_39 rfl) <|
  am_fc (ok_iload_n dX10_set_40 rfl rfl) <|
  am_fc (ok_iload_n dX10_set_41 rfl rfl) <|
  am_fc (ok_iast dX10_set_42 rfl) <|
  am_fc (ok_iload dX10_set_43 rfl) <|
  am_fc (ok_iret rfl dX10_set_45) <|
  am_fn
theorem ok_cd_X10_set (l : Launch) (D : va_G) (ad : Nat → Nat) (b0 : Nat) (Hb : Heap) : ∀ q ∈ cd_X10_set, am_ok l D ad b0 Hb am_If yX10_set cX10_set 5 (some .int) q.1 q.2 := ok_cd_X10_set_0 l D ad b0 Hb
set_option maxRecDepth 100000 in
theorem ok_cd_X10_where_0 (l : Launch) (D : va_G) (ad : Nat → Nat) (b0 : Nat) (Hb : Heap) : ∀ q ∈ cd_X10_where_0, am_ok l D ad b0 Hb am_If yX10_where cX10_where 3 (some .int) q.1 q.2 :=
  am_fc (ok_aload_n dX10_where_0 rfl rfl) <|
  am_fc (ok_iload_n dX10_where_1 rfl rfl) <|
  am_fc (ok_invV (i := ii_X10_isPerson) rfl (Or.inr ⟨_, rfl, by decide, rfl⟩) mm_X10_isPerson dX10_where_2 w2_62 rfl) <|
  am_fc (ok_ifeq dX10_where_5 (by decide) rfl) <|
  am_fc (ok_iload_n dX10_where_8 rfl rfl) <|
  am_fc (ok_sipush dX10_where_9 (by decide) rfl) <|
  am_fc (ok_invS (i := ii_X10_within) rfl mm_X10_within dX10_where_12 w2_45 rfl) <|
  am_fc (ok_ifne dX10_where_15 (by decide) rfl) <|
  am_fc (ok_iconst dX10_where_18 (by decide) rfl) <|
  am_fc (ok_iret rfl dX10_where_19) <|
  am_fc (ok_aload_n dX10_where_20 rfl rfl) <|
  am_fc (ok_getR cl_9 (by decide) rfl dX10_where_21 w2_4 rfl) <|
  am_fc (ok_iload_n dX10_where_24 rfl rfl) <|
  am_fc (ok_invV (i := ii_X9_placesAt) rfl (Or.inr ⟨_, rfl, by decide, rfl⟩) mm_X9_placesAt dX10_where_25 w2_70 rfl) <|
  am_fc (ok_iload_n dX10_where_28 rfl rfl) <|
  am_fc (ok_iald dX10_where_29 rfl) <|
  am_fc (ok_iret rfl dX10_where_30) <|
  am_fn
theorem ok_cd_X10_where (l : Launch) (D : va_G) (ad : Nat → Nat) (b0 : Nat) (Hb : Heap) : ∀ q ∈ cd_X10_where, am_ok l D ad b0 Hb am_If yX10_where cX10_where 3 (some .int) q.1 q.2 := ok_cd_X10_where_0 l D ad b0 Hb
set_option maxRecDepth 100000 in
theorem ok_cd_X10_plain_0 (l : Launch) (D : va_G) (ad : Nat → Nat) (b0 : Nat) (Hb : Heap) : ∀ q ∈ cd_X10_plain_0, am_ok l D ad b0 Hb am_If yX10_plain cX10_plain 5 (some .int) q.1 q.2 :=
  am_fc (ok_iload_n dX10_plain_0 rfl rfl) <|
  am_fc (ok_iload_n dX10_plain_1 rfl rfl) <|
  am_fc (ok_iload_n dX10_plain_2 rfl rfl) <|
  am_fc (ok_iload dX10_plain_3 rfl) <|
  am_fc (ok_invS (i := ii_X10_areParts) rfl mm_X10_areParts dX10_plain_5 w2_78 rfl) <|
  am_fc (ok_ifne dX10_plain_8 (by decide) rfl) <|
  am_fc (ok_iconst dX10_plain_11 (by decide) rfl) <|
  am_fc (ok_iret rfl dX10_plain_12) <|
  am_fc (ok_aload_n dX10_plain_13 rfl rfl) <|
  am_fc (ok_iconst dX10_plain_14 (by decide) rfl) <|
  am_fc (ok_iload_n dX10_plain_15 rfl rfl) <|
  am_fc (ok_iload_n dX10_plain_16 rfl rfl) <|
  am_fc (ok_iload_n dX10_plain_17 rfl rfl) <|
  am_fc (ok_iload dX10_plain_18 rfl) <|
  am_fc (ok_invS (i := ii_X2_together) rfl mm_X2_together dX10_plain_20 w2_81 rfl) <|
  am_fc (ok_invV (i := ii_X10_comeUp) rfl (Or.inr ⟨_, rfl, by decide, rfl⟩) mm_X10_comeUp dX10_plain_23 w2_84 rfl) <|
  am_fc (ok_iret rfl dX10_plain_26) <|
  am_fn
theorem ok_cd_X10_plain (l : Launch) (D : va_G) (ad : Nat → Nat) (b0 : Nat) (Hb : Heap) : ∀ q ∈ cd_X10_plain, am_ok l D ad b0 Hb am_If yX10_plain cX10_plain 5 (some .int) q.1 q.2 := ok_cd_X10_plain_0 l D ad b0 Hb
set_option maxRecDepth 100000 in
theorem ok_cd_X10_changed_0 (l : Launch) (D : va_G) (ad : Nat → Nat) (b0 : Nat) (Hb : Heap) : ∀ q ∈ cd_X10_changed_0, am_ok l D ad b0 Hb am_If yX10_changed cX10_changed 6 (some .int) q.1 q.2 :=
  am_fc (ok_aload_n dX10_changed_0 rfl rfl) <|
  am_fc (ok_iload_n dX10_changed_1 rfl rfl) <|
  am_fc (ok_invV (i := ii_X10_isSaying) rfl (Or.inr ⟨_, rfl, by decide, rfl⟩) mm_X10_isSaying dX10_changed_2 w2_92 rfl) <|
  am_fc (ok_ifeq dX10_changed_5 (by decide) rfl) <|
  am_fc (ok_iload_n dX10_changed_8 rfl rfl) <|
  am_fc (ok_iconst dX10_changed_9 (by decide) rfl) <|
  am_fc (ok_clt dX10_changed_10 (by decide) rfl) <|
  am_fc (ok_iload_n dX10_changed_13 rfl rfl) <|
  am_fc (ok_iconst dX10_changed_14 (by decide) rfl) <|
  am_fc (ok_cgt dX10_changed_15 (by decide) rfl) <|
  am_fc (ok_iload_n dX10_changed_18 rfl rfl) <|
  am_fc (ok_bipush dX10_changed_19 (by decide) rfl) <|
  am_fc (ok_invS (i := ii_X10_within) rfl mm_X10_within dX10_changed_21 w2_45 rfl) <|
  am_fc (ok_ifne dX10_changed_24 (by decide) rfl) <|
  am_fc (ok_iconst dX10_changed_27 (by decide) rfl) <|
  am_fc (ok_iret rfl dX10_changed_28) <|
  am_fc (ok_aload_n dX10_changed_29 rfl rfl) <|
  am_fc (ok_getR cl_9 (by decide) rfl dX10_changed_30 w2_5 rfl) <|
  am_fc (ok_iload_n dX10_changed_33 rfl rfl) <|
  am_fc (ok_aald (by decide) (by decide) dX10_changed_34 rfl) <|
  am_fc (ok_getI cl_4 (by decide) rfl dX10_changed_35 w1_205 rfl) <|
  am_fc (ok_istore dX10_changed_38 rfl) <|
  am_fc (ok_iload dX10_changed_40 rfl) <|
  am_fc (ok_iload_n dX10_changed_42 rfl rfl) <|
  am_fc (ok_iconst dX10_changed_43 (by decide) rfl) <|
  am_fc (ok_isub dX10_changed_44 rfl) <|
  am_fc (ok_invS (i := ii_X2_at) rfl mm_X2_at dX10_changed_45 w2_96 rfl) <|
  am_fc (ok_iload_n dX10_changed_48 rfl rfl) <|
  am_fc (ok_cne dX10_changed_49 (by decide) rfl) <|
  am_fc (ok_bipush dX10_changed_52 (by decide) rfl) <|
  am_fc (ok_iret rfl dX10_changed_54) <|
  am_fc (ok_aload_n dX10_changed_55 rfl rfl) <|
  am_fc (ok_iconst dX10_changed_56 (by decide) rfl) <|
  am_fc (ok_iload dX10_changed_57 rfl) <|
  am_fc (ok_iload_n dX10_changed_59 rfl rfl) <|
  am_fc (ok_iconst dX10_changed_60 (by decide) rfl) <|
  am_fc (ok_isub dX10_changed_61 rfl) <|
  am_fc (ok_iload_n dX10_changed_62 rfl rfl) <|
  am_fc (ok_invS (i := ii_X2_with) rfl mm_X2_with dX10_changed_63 w2_101 rfl) <|
  am_fc (ok_invV (i := ii_X10_comeUp) rfl (Or.inr ⟨_, rfl, by decide, rfl⟩) mm_X10_comeUp dX10_changed_66 w2_84 rfl) <|
  am_fc (ok_istore dX10_changed_69 rfl) <|
  am_fc (ok_iload dX10_changed_71 rfl) <|
  am_fc (ok_iflt dX10_changed_73 (by decide) rfl) <|
  am_fc (ok_aload_n dX10_changed_76 rfl rfl) <|
  am_fc (ok_getR cl_9 (by decide) rfl dX10_changed_77 w2_5 rfl) <|
  am_fc (ok_iload dX10_changed_80 rfl) <|
  am_fc (ok_aald (by decide) (by decide) dX10_changed_82 rfl) <|
  am_fc (ok_iload_n dX10_changed_83 rfl rfl) <|
  am_fc (ok_putI cl_4 (by decide) rfl (Or.inl rfl) dX10_changed_84 w1_206 rfl) <|
  am_fc (ok_iload dX10_changed_87 rfl) <|
  am_fn
set_option maxRecDepth 100000 in
theorem ok_cd_X10_changed_1 (l : Launch) (D : va_G) (ad : Nat → Nat) (b0 : Nat) (Hb : Heap) : ∀ q ∈ cd_X10_changed_1, am_ok l D ad b0 Hb am_If yX10_changed cX10_changed 6 (some .int) q.1 q.2 :=
  am_fc (ok_iret rfl dX10_changed_89) <|
  am_fn
theorem ok_cd_X10_changed (l : Launch) (D : va_G) (ad : Nat → Nat) (b0 : Nat) (Hb : Heap) : ∀ q ∈ cd_X10_changed, am_ok l D ad b0 Hb am_If yX10_changed cX10_changed 6 (some .int) q.1 q.2 := am_fa (ok_cd_X10_changed_0 l D ad b0 Hb) (ok_cd_X10_changed_1 l D ad b0 Hb)
set_option maxRecDepth 100000 in
theorem ok_cd_X10_planted_0 (l : Launch) (D : va_G) (ad : Nat → Nat) (b0 : Nat) (Hb : Heap) : ∀ q ∈ cd_X10_planted_0, am_ok l D ad b0 Hb am_If yX10_planted cX10_planted 4 (some .int) q.1 q.2 :=
  am_fc (ok_aload_n dX10_planted_0 rfl rfl) <|
  am_fc (ok_iload_n dX10_planted_1 rfl rfl) <|
  am_fc (ok_invV (i := ii_X10_isSaying) rfl (Or.inr ⟨_, rfl, by decide, rfl⟩) mm_X10_isSaying dX10_planted_2 w2_92 rfl) <|
  am_fc (ok_ifeq dX10_planted_5 (by decide) rfl) <|
  am_fc (ok_iload_n dX10_planted_8 rfl rfl) <|
  am_fc (ok_sipush dX10_planted_9 (by decide) rfl) <|
  am_fc (ok_invS (i := ii_X10_within) rfl mm_X10_within dX10_planted_12 w2_45 rfl) <|
  am_fc (ok_ifne dX10_planted_15 (by decide) rfl) <|
  am_fc (ok_iconst dX10_planted_18 (by decide) rfl) <|
  am_fc (ok_iret rfl dX10_planted_19) <|
  am_fc (ok_aload_n dX10_planted_20 rfl rfl) <|
  am_fc (ok_iconst dX10_planted_21 (by decide) rfl) <|
  am_fc (ok_aload_n dX10_planted_22 rfl rfl) <|
  am_fc (ok_getR cl_9 (by decide) rfl dX10_planted_23 w2_5 rfl) <|
  am_fc (ok_iload_n dX10_planted_26 rfl rfl) <|
  am_fc (ok_aald (by decide) (by decide) dX10_planted_27 rfl) <|
  am_fc (ok_getI cl_4 (by decide) rfl dX10_planted_28 w1_205 rfl) <|
  am_fc (ok_invV (i := ii_X10_comeUp) rfl (Or.inr ⟨_, rfl, by decide, rfl⟩) mm_X10_comeUp dX10_planted_31 w2_84 rfl) <|
  am_fc (ok_istore_n dX10_planted_34 rfl rfl) <|
  am_fc (ok_iload_n dX10_planted_35 rfl rfl) <|
  am_fc (ok_iflt dX10_planted_36 (by decide) rfl) <|
  am_fc (ok_aload_n dX10_planted_39 rfl rfl) <|
  am_fc (ok_getR cl_9 (by decide) rfl dX10_planted_40 w2_5 rfl) <|
  am_fc (ok_iload_n dX10_planted_43 rfl rfl) <|
  am_fc (ok_aald (by decide) (by decide) dX10_planted_44 rfl) <|
  am_fc (ok_iload_n dX10_planted_45 rfl rfl) <|
  am_fc (ok_putI cl_4 (by decide) rfl (Or.inl rfl) dX10_planted_46 w1_206 rfl) <|
  am_fc (ok_aload_n dX10_planted_49 rfl rfl) <|
  am_fc (ok_getR cl_9 (by decide) rfl dX10_planted_50 w2_5 rfl) <|
  am_fc (ok_iload_n dX10_planted_53 rfl rfl) <|
  am_fc (ok_aald (by decide) (by decide) dX10_planted_54 rfl) <|
  am_fc (ok_iload_n dX10_planted_55 rfl rfl) <|
  am_fc (ok_putI cl_4 (by decide) rfl (Or.inl rfl) dX10_planted_56 w1_207 rfl) <|
  am_fc (ok_iload_n dX10_planted_59 rfl rfl) <|
  am_fc (ok_iret rfl dX10_planted_60) <|
  am_fn
theorem ok_cd_X10_planted (l : Launch) (D : va_G) (ad : Nat → Nat) (b0 : Nat) (Hb : Heap) : ∀ q ∈ cd_X10_planted, am_ok l D ad b0 Hb am_If yX10_planted cX10_planted 4 (some .int) q.1 q.2 := ok_cd_X10_planted_0 l D ad b0 Hb
set_option maxRecDepth 100000 in
theorem ok_cd_X10_real_0 (l : Launch) (D : va_G) (ad : Nat → Nat) (b0 : Nat) (Hb : Heap) : ∀ q ∈ cd_X10_real_0, am_ok l D ad b0 Hb am_If yX10_real cX10_real 7 (some .int) q.1 q.2 :=
  am_fc (ok_iload_n dX10_real_0 rfl rfl) <|
  am_fc (ok_iload_n dX10_real_1 rfl rfl) <|
  am_fc (ok_iload_n dX10_real_2 rfl rfl) <|
  am_fc (ok_iload dX10_real_3 rfl) <|
  am_fc (ok_invS (i := ii_X10_areParts) rfl mm_X10_areParts dX10_real_5 w2_78 rfl) <|
  am_fc (ok_ifne dX10_real_8 (by decide) rfl) <|
  am_fc (ok_iconst dX10_real_11 (by decide) rfl) <|
  am_fc (ok_iret rfl dX10_real_12) <|
  am_fc (ok_aload_n dX10_real_13 rfl rfl) <|
  am_fc (ok_iconst dX10_real_14 (by decide) rfl) <|
  am_fc (ok_iload_n dX10_real_15 rfl rfl) <|
  am_fc (ok_iload_n dX10_real_16 rfl rfl) <|
  am_fc (ok_iload_n dX10_real_17 rfl rfl) <|
  am_fc (ok_iload dX10_real_18 rfl) <|
  am_fc (ok_invS (i := ii_X2_together) rfl mm_X2_together dX10_real_20 w2_81 rfl) <|
  am_fc (ok_invV (i := ii_X10_comeUp) rfl (Or.inr ⟨_, rfl, by decide, rfl⟩) mm_X10_comeUp dX10_real_23 w2_84 rfl) <|
  am_fc (ok_istore dX10_real_26 rfl) <|
  am_fc (ok_iload dX10_real_28 rfl) <|
  am_fc (ok_iflt dX10_real_30 (by decide) rfl) <|
  am_fc (ok_aload_n dX10_real_33 rfl rfl) <|
  am_fc (ok_getR cl_9 (by decide) rfl dX10_real_34 w2_5 rfl) <|
  am_fc (ok_iload dX10_real_37 rfl) <|
  am_fc (ok_aald (by decide) (by decide) dX10_real_39 rfl) <|
  am_fc (ok_iload dX10_real_40 rfl) <|
  am_fc (ok_putZ cl_4 (by decide) rfl (Or.inl rfl) dX10_real_42 w1_209 rfl) <|
  am_fc (ok_iload dX10_real_45 rfl) <|
  am_fc (ok_iret rfl dX10_real_47) <|
  am_fn
theorem ok_cd_X10_real (l : Launch) (D : va_G) (ad : Nat → Nat) (b0 : Nat) (Hb : Heap) : ∀ q ∈ cd_X10_real, am_ok l D ad b0 Hb am_If yX10_real cX10_real 7 (some .int) q.1 q.2 := ok_cd_X10_real_0 l D ad b0 Hb
set_option maxRecDepth 100000 in
theorem ok_cd_X10_told_0 (l : Launch) (D : va_G) (ad : Nat → Nat) (b0 : Nat) (Hb : Heap) : ∀ q ∈ cd_X10_told_0, am_ok l D ad b0 Hb am_If yX10_told cX10_told 4 (some .int) q.1 q.2 :=
  am_fc (ok_aload_n dX10_told_0 rfl rfl) <|
  am_fc (ok_iload_n dX10_told_1 rfl rfl) <|
  am_fc (ok_invV (i := ii_X10_isSaying) rfl (Or.inr ⟨_, rfl, by decide, rfl⟩) mm_X10_isSaying dX10_told_2 w2_92 rfl) <|
  am_fc (ok_ifeq dX10_told_5 (by decide) rfl) <|
  am_fc (ok_iload_n dX10_told_8 rfl rfl) <|
  am_fc (ok_bipush dX10_told_9 (by decide) rfl) <|
  am_fc (ok_invS (i := ii_X10_within) rfl mm_X10_within dX10_told_11 w2_45 rfl) <|
  am_fc (ok_ifne dX10_told_14 (by decide) rfl) <|
  am_fc (ok_iconst dX10_told_17 (by decide) rfl) <|
  am_fc (ok_iret rfl dX10_told_18) <|
  am_fc (ok_aload_n dX10_told_19 rfl rfl) <|
  am_fc (ok_getR cl_9 (by decide) rfl dX10_told_20 w2_5 rfl) <|
  am_fc (ok_iload_n dX10_told_23 rfl rfl) <|
  am_fc (ok_aald (by decide) (by decide) dX10_told_24 rfl) <|
  am_fc (ok_astore_n dX10_told_25 rfl rfl) <|
  am_fc (ok_iload_n dX10_told_26 rfl rfl) <|
  am_fc (ok_table dX10_told_27 (by decide) (by decide) (am_tab _ _ _ (by decide))) <|
  am_fc (ok_aload_n dX10_told_76 rfl rfl) <|
  am_fc (ok_getI cl_4 (by decide) rfl dX10_told_77 w1_204 rfl) <|
  am_fc (ok_iret rfl dX10_told_80) <|
  am_fc (ok_aload_n dX10_told_81 rfl rfl) <|
  am_fc (ok_getI cl_4 (by decide) rfl dX10_told_82 w1_204 rfl) <|
  am_fc (ok_iconst dX10_told_85 (by decide) rfl) <|
  am_fc (ok_ceq dX10_told_86 (by decide) rfl) <|
  am_fc (ok_aload_n dX10_told_89 rfl rfl) <|
  am_fc (ok_getI cl_4 (by decide) rfl dX10_told_90 w1_204 rfl) <|
  am_fc (ok_iconst dX10_told_93 (by decide) rfl) <|
  am_fc (ok_cne dX10_told_94 (by decide) rfl) <|
  am_fc (ok_aload_n dX10_told_97 rfl rfl) <|
  am_fc (ok_getI cl_4 (by decide) rfl dX10_told_98 w1_206 rfl) <|
  am_fc (ok_goto dX10_told_101 (by decide)) <|
  am_fc (ok_bipush dX10_told_104 (by decide) rfl) <|
  am_fc (ok_iret rfl dX10_told_106) <|
  am_fc (ok_aload_n dX10_told_107 rfl rfl) <|
  am_fc (ok_getI cl_4 (by decide) rfl dX10_told_108 w1_204 rfl) <|
  am_fc (ok_iconst dX10_told_111 (by decide) rfl) <|
  am_fc (ok_cne dX10_told_112 (by decide) rfl) <|
  am_fc (ok_aload_n dX10_told_115 rfl rfl) <|
  am_fc (ok_getI cl_4 (by decide) rfl dX10_told_116 w1_207 rfl) <|
  am_fc (ok_goto dX10_told_119 (by decide)) <|
  am_fc (ok_bipush dX10_told_122 (by decide) rfl) <|
  am_fc (ok_iret rfl dX10_told_124) <|
  am_fc (ok_aload_n dX10_told_125 rfl rfl) <|
  am_fc (ok_getI cl_4 (by decide) rfl dX10_told_126 w1_204 rfl) <|
  am_fc (ok_iconst dX10_told_129 (by decide) rfl) <|
  am_fc (ok_ceq dX10_told_130 (by decide) rfl) <|
  am_fc (ok_bipush dX10_told_133 (by decide) rfl) <|
  am_fc (ok_goto dX10_told_135 (by decide)) <|
  am_fc (ok_aload_n dX10_told_138 rfl rfl) <|
  am_fc (ok_getI cl_4 (by decide) rfl dX10_told_139 w1_209 rfl) <|
  am_fn
set_option maxRecDepth 100000 in
theorem ok_cd_X10_told_1 (l : Launch) (D : va_G) (ad : Nat → Nat) (b0 : Nat) (Hb : Heap) : ∀ q ∈ cd_X10_told_1, am_ok l D ad b0 Hb am_If yX10_told cX10_told 4 (some .int) q.1 q.2 :=
  am_fc (ok_ifeq dX10_told_142 (by decide) rfl) <|
  am_fc (ok_iconst dX10_told_145 (by decide) rfl) <|
  am_fc (ok_goto dX10_told_146 (by decide)) <|
  am_fc (ok_iconst dX10_told_149 (by decide) rfl) <|
  am_fc (ok_iret rfl dX10_told_150) <|
  am_fc (ok_aload_n dX10_told_151 rfl rfl) <|
  am_fc (ok_getI cl_4 (by decide) rfl dX10_told_152 w1_210 rfl) <|
  am_fc (ok_iret rfl dX10_told_155) <|
  am_fc (ok_aload_n dX10_told_156 rfl rfl) <|
  am_fc (ok_getI cl_4 (by decide) rfl dX10_told_157 w1_205 rfl) <|
  am_fc (ok_iload_n dX10_told_160 rfl rfl) <|
  am_fc (ok_iconst dX10_told_161 (by decide) rfl) <|
  am_fc (ok_isub dX10_told_162 rfl) <|
  am_fc (ok_invS (i := ii_X2_at) rfl mm_X2_at dX10_told_163 w2_96 rfl) <|
  am_fc (ok_iret rfl dX10_told_166) <|
  am_fn
theorem ok_cd_X10_told (l : Launch) (D : va_G) (ad : Nat → Nat) (b0 : Nat) (Hb : Heap) : ∀ q ∈ cd_X10_told, am_ok l D ad b0 Hb am_If yX10_told cX10_told 4 (some .int) q.1 q.2 := am_fa (ok_cd_X10_told_0 l D ad b0 Hb) (ok_cd_X10_told_1 l D ad b0 Hb)
set_option maxRecDepth 100000 in
theorem ok_cd_X10_weight_0 (l : Launch) (D : va_G) (ad : Nat → Nat) (b0 : Nat) (Hb : Heap) : ∀ q ∈ cd_X10_weight_0, am_ok l D ad b0 Hb am_If yX10_weight cX10_weight 4 (some .int) q.1 q.2 :=
  am_fc (ok_iload_n dX10_weight_0 rfl rfl) <|
  am_fc (ok_bipush dX10_weight_1 (by decide) rfl) <|
  am_fc (ok_invS (i := ii_X10_within) rfl mm_X10_within dX10_weight_3 w2_45 rfl) <|
  am_fc (ok_ifeq dX10_weight_6 (by decide) rfl) <|
  am_fc (ok_iload_n dX10_weight_9 rfl rfl) <|
  am_fc (ok_bipush dX10_weight_10 (by decide) rfl) <|
  am_fc (ok_invS (i := ii_X10_within) rfl mm_X10_within dX10_weight_12 w2_45 rfl) <|
  am_fc (ok_ifne dX10_weight_15 (by decide) rfl) <|
  am_fc (ok_iconst dX10_weight_18 (by decide) rfl) <|
  am_fc (ok_iret rfl dX10_weight_19) <|
  am_fc (ok_aload_n dX10_weight_20 rfl rfl) <|
  am_fc (ok_getR cl_9 (by decide) rfl dX10_weight_21 w2_4 rfl) <|
  am_fc (ok_getR cl_8 (by decide) rfl dX10_weight_24 w1_40 rfl) <|
  am_fc (ok_iload_n dX10_weight_27 rfl rfl) <|
  am_fc (ok_iald dX10_weight_28 rfl) <|
  am_fc (ok_istore_n dX10_weight_29 rfl rfl) <|
  am_fc (ok_aload_n dX10_weight_30 rfl rfl) <|
  am_fc (ok_getR cl_9 (by decide) rfl dX10_weight_31 w2_4 rfl) <|
  am_fc (ok_getR cl_8 (by decide) rfl dX10_weight_34 w1_40 rfl) <|
  am_fc (ok_iload_n dX10_weight_37 rfl rfl) <|
  am_fc (ok_iload_n dX10_weight_38 rfl rfl) <|
  am_fc (ok_iast dX10_weight_39 rfl) <|
  am_fc (ok_iload_n dX10_weight_40 rfl rfl) <|
  am_fc (ok_iret rfl dX10_weight_41) <|
  am_fn
theorem ok_cd_X10_weight (l : Launch) (D : va_G) (ad : Nat → Nat) (b0 : Nat) (Hb : Heap) : ∀ q ∈ cd_X10_weight, am_ok l D ad b0 Hb am_If yX10_weight cX10_weight 4 (some .int) q.1 q.2 := ok_cd_X10_weight_0 l D ad b0 Hb
set_option maxRecDepth 100000 in
theorem ok_cd_X10_begin_0 (l : Launch) (D : va_G) (ad : Nat → Nat) (b0 : Nat) (Hb : Heap) : ∀ q ∈ cd_X10_begin_0, am_ok l D ad b0 Hb am_If yX10_begin cX10_begin 5 (some .int) q.1 q.2 :=
  am_fc (ok_aload_n dX10_begin_0 rfl rfl) <|
  am_fc (ok_iload_n dX10_begin_1 rfl rfl) <|
  am_fc (ok_invV (i := ii_X10_isPerson) rfl (Or.inr ⟨_, rfl, by decide, rfl⟩) mm_X10_isPerson dX10_begin_2 w2_62 rfl) <|
  am_fc (ok_ifeq dX10_begin_5 (by decide) rfl) <|
  am_fc (ok_aload_n dX10_begin_8 rfl rfl) <|
  am_fc (ok_iload_n dX10_begin_9 rfl rfl) <|
  am_fc (ok_invV (i := ii_X10_isSaying) rfl (Or.inr ⟨_, rfl, by decide, rfl⟩) mm_X10_isSaying dX10_begin_10 w2_92 rfl) <|
  am_fc (ok_ifne dX10_begin_13 (by decide) rfl) <|
  am_fc (ok_iconst dX10_begin_16 (by decide) rfl) <|
  am_fc (ok_iret rfl dX10_begin_17) <|
  am_fc (ok_aload_n dX10_begin_18 rfl rfl) <|
  am_fc (ok_getR cl_9 (by decide) rfl dX10_begin_19 w2_5 rfl) <|
  am_fc (ok_iload_n dX10_begin_22 rfl rfl) <|
  am_fc (ok_aald (by decide) (by decide) dX10_begin_23 rfl) <|
  am_fc (ok_astore_n dX10_begin_24 rfl rfl) <|
  am_fc (ok_aload_n dX10_begin_25 rfl rfl) <|
  am_fc (ok_getI cl_4 (by decide) rfl dX10_begin_26 w1_204 rfl) <|
  am_fc (ok_iconst dX10_begin_29 (by decide) rfl) <|
  am_fc (ok_cne dX10_begin_30 (by decide) rfl) <|
  am_fc (ok_aload_n dX10_begin_33 rfl rfl) <|
  am_fc (ok_getI cl_9 (by decide) rfl dX10_begin_34 w2_15 rfl) <|
  am_fc (ok_aload_n dX10_begin_37 rfl rfl) <|
  am_fc (ok_getI cl_4 (by decide) rfl dX10_begin_38 w1_207 rfl) <|
  am_fc (ok_cge dX10_begin_41 (by decide) rfl) <|
  am_fc (ok_bipush dX10_begin_44 (by decide) rfl) <|
  am_fc (ok_iret rfl dX10_begin_46) <|
  am_fc (ok_aload_n dX10_begin_47 rfl rfl) <|
  am_fc (ok_getR cl_4 (by decide) rfl dX10_begin_48 w1_202 rfl) <|
  am_fc (ok_getR cl_6 (by decide) rfl dX10_begin_51 w1_68 rfl) <|
  am_fc (ok_iload_n dX10_begin_54 rfl rfl) <|
  am_fc (ok_iald dX10_begin_55 rfl) <|
  am_fc (ok_istore dX10_begin_56 rfl) <|
  am_fc (ok_aload_n dX10_begin_58 rfl rfl) <|
  am_fc (ok_getR cl_4 (by decide) rfl dX10_begin_59 w1_202 rfl) <|
  am_fc (ok_iload_n dX10_begin_62 rfl rfl) <|
  am_fc (ok_aload_n dX10_begin_63 rfl rfl) <|
  am_fc (ok_getI cl_4 (by decide) rfl dX10_begin_64 w1_205 rfl) <|
  am_fc (ok_aload_n dX10_begin_67 rfl rfl) <|
  am_fc (ok_getI cl_9 (by decide) rfl dX10_begin_68 w2_15 rfl) <|
  am_fc (ok_invV (i := ii_X7_start) rfl (Or.inr ⟨_, rfl, by decide, rfl⟩) mm_X7_start dX10_begin_71 w2_125 rfl) <|
  am_fc (ok_iload dX10_begin_74 rfl) <|
  am_fc (ok_iret rfl dX10_begin_76) <|
  am_fn
theorem ok_cd_X10_begin (l : Launch) (D : va_G) (ad : Nat → Nat) (b0 : Nat) (Hb : Heap) : ∀ q ∈ cd_X10_begin, am_ok l D ad b0 Hb am_If yX10_begin cX10_begin 5 (some .int) q.1 q.2 := ok_cd_X10_begin_0 l D ad b0 Hb
set_option maxRecDepth 100000 in
theorem ok_cd_X10_knows_0 (l : Launch) (D : va_G) (ad : Nat → Nat) (b0 : Nat) (Hb : Heap) : ∀ q ∈ cd_X10_knows_0, am_ok l D ad b0 Hb am_If yX10_knows cX10_knows 6 (some .int) q.1 q.2 :=
  am_fc (ok_aload_n dX10_knows_0 rfl rfl) <|
  am_fc (ok_iload_n dX10_knows_1 rfl rfl) <|
  am_fc (ok_invV (i := ii_X10_isPerson) rfl (Or.inr ⟨_, rfl, by decide, rfl⟩) mm_X10_isPerson dX10_knows_2 w2_62 rfl) <|
  am_fc (ok_ifeq dX10_knows_5 (by decide) rfl) <|
  am_fc (ok_aload_n dX10_knows_8 rfl rfl) <|
  am_fc (ok_iload_n dX10_knows_9 rfl rfl) <|
  am_fc (ok_invV (i := ii_X10_isSaying) rfl (Or.inr ⟨_, rfl, by decide, rfl⟩) mm_X10_isSaying dX10_knows_10 w2_92 rfl) <|
  am_fc (ok_ifeq dX10_knows_13 (by decide) rfl) <|
  am_fc (ok_iload_n dX10_knows_16 rfl rfl) <|
  am_fc (ok_iconst dX10_knows_17 (by decide) rfl) <|
  am_fc (ok_invS (i := ii_X10_within) rfl mm_X10_within dX10_knows_18 w2_45 rfl) <|
  am_fc (ok_ifne dX10_knows_21 (by decide) rfl) <|
  am_fc (ok_iconst dX10_knows_24 (by decide) rfl) <|
  am_fc (ok_iret rfl dX10_knows_25) <|
  am_fc (ok_aload_n dX10_knows_26 rfl rfl) <|
  am_fc (ok_getR cl_9 (by decide) rfl dX10_knows_27 w2_5 rfl) <|
  am_fc (ok_iload_n dX10_knows_30 rfl rfl) <|
  am_fc (ok_aald (by decide) (by decide) dX10_knows_31 rfl) <|
  am_fc (ok_getR cl_4 (by decide) rfl dX10_knows_32 w1_202 rfl) <|
  am_fc (ok_astore dX10_knows_35 rfl) <|
  am_fc (ok_aload dX10_knows_37 rfl) <|
  am_fc (ok_getR cl_6 (by decide) rfl dX10_knows_39 w1_68 rfl) <|
  am_fc (ok_iload_n dX10_knows_42 rfl rfl) <|
  am_fc (ok_iald dX10_knows_43 rfl) <|
  am_fc (ok_istore dX10_knows_44 rfl) <|
  am_fc (ok_iload dX10_knows_46 rfl) <|
  am_fc (ok_ifne dX10_knows_48 (by decide) rfl) <|
  am_fc (ok_iload_n dX10_knows_51 rfl rfl) <|
  am_fc (ok_ifeq dX10_knows_52 (by decide) rfl) <|
  am_fc (ok_bipush dX10_knows_55 (by decide) rfl) <|
  am_fc (ok_iret rfl dX10_knows_57) <|
  am_fc (ok_iload_n dX10_knows_58 rfl rfl) <|
  am_fc (ok_table dX10_knows_59 (by decide) (by decide) (am_tab _ _ _ (by decide))) <|
  am_fc (ok_iload dX10_knows_88 rfl) <|
  am_fc (ok_iret rfl dX10_knows_90) <|
  am_fc (ok_aload dX10_knows_91 rfl) <|
  am_fc (ok_getR cl_6 (by decide) rfl dX10_knows_93 w1_70 rfl) <|
  am_fc (ok_iload_n dX10_knows_96 rfl rfl) <|
  am_fc (ok_iald dX10_knows_97 rfl) <|
  am_fc (ok_iret rfl dX10_knows_98) <|
  am_fc (ok_aload dX10_knows_99 rfl) <|
  am_fc (ok_getR cl_6 (by decide) rfl dX10_knows_101 w1_74 rfl) <|
  am_fc (ok_iload_n dX10_knows_104 rfl rfl) <|
  am_fc (ok_iald dX10_knows_105 rfl) <|
  am_fc (ok_iret rfl dX10_knows_106) <|
  am_fc (ok_aload dX10_knows_107 rfl) <|
  am_fc (ok_getR cl_6 (by decide) rfl dX10_knows_109 w1_76 rfl) <|
  am_fc (ok_iload_n dX10_knows_112 rfl rfl) <|
  am_fc (ok_iald dX10_knows_113 rfl) <|
  am_fc (ok_iret rfl dX10_knows_114) <|
  am_fn
set_option maxRecDepth 100000 in
theorem ok_cd_X10_knows_1 (l : Launch) (D : va_G) (ad : Nat → Nat) (b0 : Nat) (Hb : Heap) : ∀ q ∈ cd_X10_knows_1, am_ok l D ad b0 Hb am_If yX10_knows cX10_knows 6 (some .int) q.1 q.2 :=
  am_fc (ok_aload dX10_knows_115 rfl) <|
  am_fc (ok_getR cl_6 (by decide) rfl dX10_knows_117 w1_79 rfl) <|
  am_fc (ok_iload_n dX10_knows_120 rfl rfl) <|
  am_fc (ok_iald dX10_knows_121 rfl) <|
  am_fc (ok_iret rfl dX10_knows_122) <|
  am_fn
theorem ok_cd_X10_knows (l : Launch) (D : va_G) (ad : Nat → Nat) (b0 : Nat) (Hb : Heap) : ∀ q ∈ cd_X10_knows, am_ok l D ad b0 Hb am_If yX10_knows cX10_knows 6 (some .int) q.1 q.2 := am_fa (ok_cd_X10_knows_0 l D ad b0 Hb) (ok_cd_X10_knows_1 l D ad b0 Hb)
set_option maxRecDepth 100000 in
theorem ok_cd_X10_count_0 (l : Launch) (D : va_G) (ad : Nat → Nat) (b0 : Nat) (Hb : Heap) : ∀ q ∈ cd_X10_count_0, am_ok l D ad b0 Hb am_If yX10_count cX10_count 2 (some .int) q.1 q.2 :=
  am_fc (ok_iload_n dX10_count_0 rfl rfl) <|
  am_fc (ok_table dX10_count_1 (by decide) (by decide) (am_tab _ _ _ (by decide))) <|
  am_fc (ok_aload_n dX10_count_36 rfl rfl) <|
  am_fc (ok_getR cl_9 (by decide) rfl dX10_count_37 w2_4 rfl) <|
  am_fc (ok_getI cl_8 (by decide) rfl dX10_count_40 w1_41 rfl) <|
  am_fc (ok_iret rfl dX10_count_43) <|
  am_fc (ok_aload_n dX10_count_44 rfl rfl) <|
  am_fc (ok_getI cl_9 (by decide) rfl dX10_count_45 w2_14 rfl) <|
  am_fc (ok_iret rfl dX10_count_48) <|
  am_fc (ok_aload_n dX10_count_49 rfl rfl) <|
  am_fc (ok_getR cl_9 (by decide) rfl dX10_count_50 w2_12 rfl) <|
  am_fc (ok_getI cl_0 (by decide) rfl dX10_count_53 w1_176 rfl) <|
  am_fc (ok_iret rfl dX10_count_56) <|
  am_fc (ok_aload_n dX10_count_57 rfl rfl) <|
  am_fc (ok_getR cl_9 (by decide) rfl dX10_count_58 w2_9 rfl) <|
  am_fc (ok_getI cl_3 (by decide) rfl dX10_count_61 w1_139 rfl) <|
  am_fc (ok_iret rfl dX10_count_64) <|
  am_fc (ok_aload_n dX10_count_65 rfl rfl) <|
  am_fc (ok_getI cl_9 (by decide) rfl dX10_count_66 w2_15 rfl) <|
  am_fc (ok_iret rfl dX10_count_69) <|
  am_fc (ok_iconst dX10_count_70 (by decide) rfl) <|
  am_fc (ok_iret rfl dX10_count_71) <|
  am_fn
theorem ok_cd_X10_count (l : Launch) (D : va_G) (ad : Nat → Nat) (b0 : Nat) (Hb : Heap) : ∀ q ∈ cd_X10_count, am_ok l D ad b0 Hb am_If yX10_count cX10_count 2 (some .int) q.1 q.2 := ok_cd_X10_count_0 l D ad b0 Hb
set_option maxRecDepth 100000 in
theorem ok_cd_X10_hours_0 (l : Launch) (D : va_G) (ad : Nat → Nat) (b0 : Nat) (Hb : Heap) : ∀ q ∈ cd_X10_hours_0, am_ok l D ad b0 Hb am_If yX10_hours cX10_hours 3 (some .int) q.1 q.2 :=
  am_fc (ok_iload_n dX10_hours_0 rfl rfl) <|
  am_fc (ok_iconst dX10_hours_1 (by decide) rfl) <|
  am_fc (ok_clt dX10_hours_2 (by decide) rfl) <|
  am_fc (ok_iload_n dX10_hours_5 rfl rfl) <|
  am_fc (ok_bipush dX10_hours_6 (by decide) rfl) <|
  am_fc (ok_cle dX10_hours_8 (by decide) rfl) <|
  am_fc (ok_iconst dX10_hours_11 (by decide) rfl) <|
  am_fc (ok_iret rfl dX10_hours_12) <|
  am_fc (ok_aload_n dX10_hours_13 rfl rfl) <|
  am_fc (ok_getI cl_9 (by decide) rfl dX10_hours_14 w2_15 rfl) <|
  am_fc (ok_iload_n dX10_hours_17 rfl rfl) <|
  am_fc (ok_iadd dX10_hours_18 rfl) <|
  am_fc (ok_sipush dX10_hours_19 (by decide) rfl) <|
  am_fc (ok_cle dX10_hours_22 (by decide) rfl) <|
  am_fc (ok_bipush dX10_hours_25 (by decide) rfl) <|
  am_fc (ok_iret rfl dX10_hours_27) <|
  am_fc (ok_iconst dX10_hours_28 (by decide) rfl) <|
  am_fc (ok_istore_n dX10_hours_29 rfl rfl) <|
  am_fc (ok_iload_n dX10_hours_30 rfl rfl) <|
  am_fc (ok_aload_n dX10_hours_31 rfl rfl) <|
  am_fc (ok_getI cl_9 (by decide) rfl dX10_hours_32 w2_14 rfl) <|
  am_fc (ok_cge dX10_hours_35 (by decide) rfl) <|
  am_fc (ok_aload_n dX10_hours_38 rfl rfl) <|
  am_fc (ok_getR cl_9 (by decide) rfl dX10_hours_39 w2_4 rfl) <|
  am_fc (ok_aload_n dX10_hours_42 rfl rfl) <|
  am_fc (ok_getR cl_9 (by decide) rfl dX10_hours_43 w2_5 rfl) <|
  am_fc (ok_iload_n dX10_hours_46 rfl rfl) <|
  am_fc (ok_aald (by decide) (by decide) dX10_hours_47 rfl) <|
  am_fc (ok_getR cl_4 (by decide) rfl dX10_hours_48 w1_202 rfl) <|
  am_fc (ok_aload_n dX10_hours_51 rfl rfl) <|
  am_fc (ok_getI cl_9 (by decide) rfl dX10_hours_52 w2_15 rfl) <|
  am_fc (ok_iload_n dX10_hours_55 rfl rfl) <|
  am_fc (ok_invV (i := ii_X9_passHours) rfl (Or.inr ⟨_, rfl, by decide, rfl⟩) mm_X9_passHours dX10_hours_56 w2_149 rfl) <|
  am_fc (ok_iinc dX10_hours_59 (by decide) rfl) <|
  am_fc (ok_goto dX10_hours_62 (by decide)) <|
  am_fc (ok_aload_n dX10_hours_65 rfl rfl) <|
  am_fc (ok_dup dX10_hours_66 rfl) <|
  am_fc (ok_getI cl_9 (by decide) rfl dX10_hours_67 w2_15 rfl) <|
  am_fc (ok_iload_n dX10_hours_70 rfl rfl) <|
  am_fc (ok_iadd dX10_hours_71 rfl) <|
  am_fc (ok_putI cl_9 (by decide) rfl (Or.inl rfl) dX10_hours_72 w2_15 rfl) <|
  am_fc (ok_aload_n dX10_hours_75 rfl rfl) <|
  am_fc (ok_getI cl_9 (by decide) rfl dX10_hours_76 w2_15 rfl) <|
  am_fc (ok_iret rfl dX10_hours_79) <|
  am_fn
theorem ok_cd_X10_hours (l : Launch) (D : va_G) (ad : Nat → Nat) (b0 : Nat) (Hb : Heap) : ∀ q ∈ cd_X10_hours, am_ok l D ad b0 Hb am_If yX10_hours cX10_hours 3 (some .int) q.1 q.2 := ok_cd_X10_hours_0 l D ad b0 Hb
set_option maxRecDepth 100000 in
theorem ok_cd_X10_reach_0 (l : Launch) (D : va_G) (ad : Nat → Nat) (b0 : Nat) (Hb : Heap) : ∀ q ∈ cd_X10_reach_0, am_ok l D ad b0 Hb am_If yX10_reach cX10_reach 6 (some .int) q.1 q.2 :=
  am_fc (ok_aload_n dX10_reach_0 rfl rfl) <|
  am_fc (ok_iload_n dX10_reach_1 rfl rfl) <|
  am_fc (ok_invV (i := ii_X10_isSaying) rfl (Or.inr ⟨_, rfl, by decide, rfl⟩) mm_X10_isSaying dX10_reach_2 w2_92 rfl) <|
  am_fc (ok_ifeq dX10_reach_5 (by decide) rfl) <|
  am_fc (ok_iload_n dX10_reach_8 rfl rfl) <|
  am_fc (ok_iconst dX10_reach_9 (by decide) rfl) <|
  am_fc (ok_invS (i := ii_X10_within) rfl mm_X10_within dX10_reach_10 w2_45 rfl) <|
  am_fc (ok_ifne dX10_reach_13 (by decide) rfl) <|
  am_fc (ok_iconst dX10_reach_16 (by decide) rfl) <|
  am_fc (ok_iret rfl dX10_reach_17) <|
  am_fc (ok_aload_n dX10_reach_18 rfl rfl) <|
  am_fc (ok_getR cl_9 (by decide) rfl dX10_reach_19 w2_5 rfl) <|
  am_fc (ok_iload_n dX10_reach_22 rfl rfl) <|
  am_fc (ok_aald (by decide) (by decide) dX10_reach_23 rfl) <|
  am_fc (ok_getR cl_4 (by decide) rfl dX10_reach_24 w1_202 rfl) <|
  am_fc (ok_astore_n dX10_reach_27 rfl rfl) <|
  am_fc (ok_iconst dX10_reach_28 (by decide) rfl) <|
  am_fc (ok_istore dX10_reach_29 rfl) <|
  am_fc (ok_iconst dX10_reach_31 (by decide) rfl) <|
  am_fc (ok_istore dX10_reach_32 rfl) <|
  am_fc (ok_iload dX10_reach_34 rfl) <|
  am_fc (ok_aload_n dX10_reach_36 rfl rfl) <|
  am_fc (ok_getR cl_9 (by decide) rfl dX10_reach_37 w2_4 rfl) <|
  am_fc (ok_getI cl_8 (by decide) rfl dX10_reach_40 w1_41 rfl) <|
  am_fc (ok_cge dX10_reach_43 (by decide) rfl) <|
  am_fc (ok_aload_n dX10_reach_46 rfl rfl) <|
  am_fc (ok_getR cl_6 (by decide) rfl dX10_reach_47 w1_68 rfl) <|
  am_fc (ok_iload dX10_reach_50 rfl) <|
  am_fc (ok_iald dX10_reach_52 rfl) <|
  am_fc (ok_iload_n dX10_reach_53 rfl rfl) <|
  am_fc (ok_cne dX10_reach_54 (by decide) rfl) <|
  am_fc (ok_iinc dX10_reach_57 (by decide) rfl) <|
  am_fc (ok_iinc dX10_reach_60 (by decide) rfl) <|
  am_fc (ok_goto dX10_reach_63 (by decide)) <|
  am_fc (ok_iload dX10_reach_66 rfl) <|
  am_fc (ok_iret rfl dX10_reach_68) <|
  am_fn
theorem ok_cd_X10_reach (l : Launch) (D : va_G) (ad : Nat → Nat) (b0 : Nat) (Hb : Heap) : ∀ q ∈ cd_X10_reach, am_ok l D ad b0 Hb am_If yX10_reach cX10_reach 6 (some .int) q.1 q.2 := ok_cd_X10_reach_0 l D ad b0 Hb
set_option maxRecDepth 100000 in
theorem ok_cd_X10_harm_0 (l : Launch) (D : va_G) (ad : Nat → Nat) (b0 : Nat) (Hb : Heap) : ∀ q ∈ cd_X10_harm_0, am_ok l D ad b0 Hb am_If yX10_harm cX10_harm 3 (some .int) q.1 q.2 :=
  am_fc (ok_aload_n dX10_harm_0 rfl rfl) <|
  am_fc (ok_iload_n dX10_harm_1 rfl rfl) <|
  am_fc (ok_invV (i := ii_X10_isSaying) rfl (Or.inr ⟨_, rfl, by decide, rfl⟩) mm_X10_isSaying dX10_harm_2 w2_92 rfl) <|
  am_fc (ok_ifne dX10_harm_5 (by decide) rfl) <|
  am_fc (ok_iconst dX10_harm_8 (by decide) rfl) <|
  am_fc (ok_iret rfl dX10_harm_9) <|
  am_fc (ok_aload_n dX10_harm_10 rfl rfl) <|
  am_fc (ok_getR cl_9 (by decide) rfl dX10_harm_11 w2_5 rfl) <|
  am_fc (ok_iload_n dX10_harm_14 rfl rfl) <|
  am_fc (ok_aald (by decide) (by decide) dX10_harm_15 rfl) <|
  am_fc (ok_astore_n dX10_harm_16 rfl rfl) <|
  am_fc (ok_aload_n dX10_harm_17 rfl rfl) <|
  am_fc (ok_getI cl_4 (by decide) rfl dX10_harm_18 w1_204 rfl) <|
  am_fc (ok_iconst dX10_harm_21 (by decide) rfl) <|
  am_fc (ok_cne dX10_harm_22 (by decide) rfl) <|
  am_fc (ok_iconst dX10_harm_25 (by decide) rfl) <|
  am_fc (ok_goto dX10_harm_26 (by decide)) <|
  am_fc (ok_aload_n dX10_harm_29 rfl rfl) <|
  am_fc (ok_getR cl_9 (by decide) rfl dX10_harm_30 w2_4 rfl) <|
  am_fc (ok_aload_n dX10_harm_33 rfl rfl) <|
  am_fc (ok_getR cl_4 (by decide) rfl dX10_harm_34 w1_202 rfl) <|
  am_fc (ok_invV (i := ii_X9_harmOf) rfl (Or.inr ⟨_, rfl, by decide, rfl⟩) mm_X9_harmOf dX10_harm_37 w2_201 rfl) <|
  am_fc (ok_iret rfl dX10_harm_40) <|
  am_fn
theorem ok_cd_X10_harm (l : Launch) (D : va_G) (ad : Nat → Nat) (b0 : Nat) (Hb : Heap) : ∀ q ∈ cd_X10_harm, am_ok l D ad b0 Hb am_If yX10_harm cX10_harm 3 (some .int) q.1 q.2 := ok_cd_X10_harm_0 l D ad b0 Hb
set_option maxRecDepth 100000 in
theorem ok_cd_X10_deny_0 (l : Launch) (D : va_G) (ad : Nat → Nat) (b0 : Nat) (Hb : Heap) : ∀ q ∈ cd_X10_deny_0, am_ok l D ad b0 Hb am_If yX10_deny cX10_deny 4 (some .int) q.1 q.2 :=
  am_fc (ok_aload_n dX10_deny_0 rfl rfl) <|
  am_fc (ok_iload_n dX10_deny_1 rfl rfl) <|
  am_fc (ok_invV (i := ii_X10_isSaying) rfl (Or.inr ⟨_, rfl, by decide, rfl⟩) mm_X10_isSaying dX10_deny_2 w2_92 rfl) <|
  am_fc (ok_ifeq dX10_deny_5 (by decide) rfl) <|
  am_fc (ok_iload_n dX10_deny_8 rfl rfl) <|
  am_fc (ok_iconst dX10_deny_9 (by decide) rfl) <|
  am_fc (ok_invS (i := ii_X10_within) rfl mm_X10_within dX10_deny_10 w2_45 rfl) <|
  am_fc (ok_ifne dX10_deny_13 (by decide) rfl) <|
  am_fc (ok_iconst dX10_deny_16 (by decide) rfl) <|
  am_fc (ok_iret rfl dX10_deny_17) <|
  am_fc (ok_aload_n dX10_deny_18 rfl rfl) <|
  am_fc (ok_getR cl_9 (by decide) rfl dX10_deny_19 w2_5 rfl) <|
  am_fc (ok_iload_n dX10_deny_22 rfl rfl) <|
  am_fc (ok_aald (by decide) (by decide) dX10_deny_23 rfl) <|
  am_fc (ok_astore_n dX10_deny_24 rfl rfl) <|
  am_fc (ok_aload_n dX10_deny_25 rfl rfl) <|
  am_fc (ok_invV (i := ii_X5_isSecret) rfl (Or.inr ⟨_, rfl, by decide, rfl⟩) mm_X5_isSecret dX10_deny_26 w2_209 rfl) <|
  am_fc (ok_ifeq dX10_deny_29 (by decide) rfl) <|
  am_fc (ok_bipush dX10_deny_32 (by decide) rfl) <|
  am_fc (ok_iret rfl dX10_deny_34) <|
  am_fc (ok_aload_n dX10_deny_35 rfl rfl) <|
  am_fc (ok_dup dX10_deny_36 rfl) <|
  am_fc (ok_getI cl_4 (by decide) rfl dX10_deny_37 w1_210 rfl) <|
  am_fc (ok_iconst dX10_deny_40 (by decide) rfl) <|
  am_fc (ok_iadd dX10_deny_41 rfl) <|
  am_fc (ok_putI cl_4 (by decide) rfl (Or.inl rfl) dX10_deny_42 w1_210 rfl) <|
  am_fc (ok_aload_n dX10_deny_45 rfl rfl) <|
  am_fc (ok_getR cl_9 (by decide) rfl dX10_deny_46 w2_4 rfl) <|
  am_fc (ok_aload_n dX10_deny_49 rfl rfl) <|
  am_fc (ok_getR cl_4 (by decide) rfl dX10_deny_50 w1_202 rfl) <|
  am_fc (ok_aload_n dX10_deny_53 rfl rfl) <|
  am_fc (ok_getI cl_4 (by decide) rfl dX10_deny_54 w1_205 rfl) <|
  am_fc (ok_iload_n dX10_deny_57 rfl rfl) <|
  am_fc (ok_aload_n dX10_deny_58 rfl rfl) <|
  am_fc (ok_getI cl_9 (by decide) rfl dX10_deny_59 w2_15 rfl) <|
  am_fc (ok_invV (i := ii_X9_print) rfl (Or.inr ⟨_, rfl, by decide, rfl⟩) mm_X9_print dX10_deny_62 w2_213 rfl) <|
  am_fc (ok_iret rfl dX10_deny_65) <|
  am_fn
theorem ok_cd_X10_deny (l : Launch) (D : va_G) (ad : Nat → Nat) (b0 : Nat) (Hb : Heap) : ∀ q ∈ cd_X10_deny, am_ok l D ad b0 Hb am_If yX10_deny cX10_deny 4 (some .int) q.1 q.2 := ok_cd_X10_deny_0 l D ad b0 Hb
set_option maxRecDepth 100000 in
theorem ok_cd_X10_found_0 (l : Launch) (D : va_G) (ad : Nat → Nat) (b0 : Nat) (Hb : Heap) : ∀ q ∈ cd_X10_found_0, am_ok l D ad b0 Hb am_If yX10_found cX10_found 4 (some .int) q.1 q.2 :=
  am_fc (ok_aload_n dX10_found_0 rfl rfl) <|
  am_fc (ok_iload_n dX10_found_1 rfl rfl) <|
  am_fc (ok_invV (i := ii_X10_isSaying) rfl (Or.inr ⟨_, rfl, by decide, rfl⟩) mm_X10_isSaying dX10_found_2 w2_92 rfl) <|
  am_fc (ok_ifne dX10_found_5 (by decide) rfl) <|
  am_fc (ok_iconst dX10_found_8 (by decide) rfl) <|
  am_fc (ok_iret rfl dX10_found_9) <|
  am_fc (ok_aload_n dX10_found_10 rfl rfl) <|
  am_fc (ok_getR cl_9 (by decide) rfl dX10_found_11 w2_5 rfl) <|
  am_fc (ok_iload_n dX10_found_14 rfl rfl) <|
  am_fc (ok_aald (by decide) (by decide) dX10_found_15 rfl) <|
  am_fc (ok_astore_n dX10_found_16 rfl rfl) <|
  am_fc (ok_aload_n dX10_found_17 rfl rfl) <|
  am_fc (ok_getI cl_4 (by decide) rfl dX10_found_18 w1_204 rfl) <|
  am_fc (ok_iconst dX10_found_21 (by decide) rfl) <|
  am_fc (ok_ceq dX10_found_22 (by decide) rfl) <|
  am_fc (ok_bipush dX10_found_25 (by decide) rfl) <|
  am_fc (ok_iret rfl dX10_found_27) <|
  am_fc (ok_aload_n dX10_found_28 rfl rfl) <|
  am_fc (ok_getI cl_4 (by decide) rfl dX10_found_29 w1_210 rfl) <|
  am_fc (ok_istore_n dX10_found_32 rfl rfl) <|
  am_fc (ok_aload_n dX10_found_33 rfl rfl) <|
  am_fc (ok_iconst dX10_found_34 (by decide) rfl) <|
  am_fc (ok_putI cl_4 (by decide) rfl (Or.inl rfl) dX10_found_35 w1_210 rfl) <|
  am_fc (ok_aload_n dX10_found_38 rfl rfl) <|
  am_fc (ok_getR cl_9 (by decide) rfl dX10_found_39 w2_4 rfl) <|
  am_fc (ok_iload_n dX10_found_42 rfl rfl) <|
  am_fc (ok_invV (i := ii_X9_loseTrust) rfl (Or.inr ⟨_, rfl, by decide, rfl⟩) mm_X9_loseTrust dX10_found_43 w2_227 rfl) <|
  am_fc (ok_iload_n dX10_found_46 rfl rfl) <|
  am_fc (ok_iret rfl dX10_found_47) <|
  am_fn
theorem ok_cd_X10_found (l : Launch) (D : va_G) (ad : Nat → Nat) (b0 : Nat) (Hb : Heap) : ∀ q ∈ cd_X10_found, am_ok l D ad b0 Hb am_If yX10_found cX10_found 4 (some .int) q.1 q.2 := ok_cd_X10_found_0 l D ad b0 Hb
set_option maxRecDepth 100000 in
theorem ok_cd_X10_foretold_0 (l : Launch) (D : va_G) (ad : Nat → Nat) (b0 : Nat) (Hb : Heap) : ∀ q ∈ cd_X10_foretold_0, am_ok l D ad b0 Hb am_If yX10_foretold cX10_foretold 4 (some .int) q.1 q.2 :=
  am_fc (ok_iload_n dX10_foretold_0 rfl rfl) <|
  am_fc (ok_bipush dX10_foretold_1 (by decide) rfl) <|
  am_fc (ok_invS (i := ii_X10_within) rfl mm_X10_within dX10_foretold_3 w2_45 rfl) <|
  am_fc (ok_ifne dX10_foretold_6 (by decide) rfl) <|
  am_fc (ok_iconst dX10_foretold_9 (by decide) rfl) <|
  am_fc (ok_iret rfl dX10_foretold_10) <|
  am_fc (ok_iconst dX10_foretold_11 (by decide) rfl) <|
  am_fc (ok_istore_n dX10_foretold_12 rfl rfl) <|
  am_fc (ok_iconst dX10_foretold_13 (by decide) rfl) <|
  am_fc (ok_istore_n dX10_foretold_14 rfl rfl) <|
  am_fc (ok_iload_n dX10_foretold_15 rfl rfl) <|
  am_fc (ok_aload_n dX10_foretold_16 rfl rfl) <|
  am_fc (ok_getI cl_9 (by decide) rfl dX10_foretold_17 w2_14 rfl) <|
  am_fc (ok_cge dX10_foretold_20 (by decide) rfl) <|
  am_fc (ok_iload_n dX10_foretold_23 rfl rfl) <|
  am_fc (ok_aload_n dX10_foretold_24 rfl rfl) <|
  am_fc (ok_iload_n dX10_foretold_25 rfl rfl) <|
  am_fc (ok_iconst dX10_foretold_26 (by decide) rfl) <|
  am_fc (ok_iload_n dX10_foretold_27 rfl rfl) <|
  am_fc (ok_invV (i := ii_X10_harmAhead) rfl (Or.inr ⟨_, rfl, by decide, rfl⟩) mm_X10_harmAhead dX10_foretold_28 w2_238 rfl) <|
  am_fc (ok_iadd dX10_foretold_31 rfl) <|
  am_fc (ok_istore_n dX10_foretold_32 rfl rfl) <|
  am_fc (ok_iinc dX10_foretold_33 (by decide) rfl) <|
  am_fc (ok_goto dX10_foretold_36 (by decide)) <|
  am_fc (ok_iload_n dX10_foretold_39 rfl rfl) <|
  am_fc (ok_iret rfl dX10_foretold_40) <|
  am_fn
theorem ok_cd_X10_foretold (l : Launch) (D : va_G) (ad : Nat → Nat) (b0 : Nat) (Hb : Heap) : ∀ q ∈ cd_X10_foretold, am_ok l D ad b0 Hb am_If yX10_foretold cX10_foretold 4 (some .int) q.1 q.2 := ok_cd_X10_foretold_0 l D ad b0 Hb
set_option maxRecDepth 100000 in
theorem ok_cd_X10_wording_0 (l : Launch) (D : va_G) (ad : Nat → Nat) (b0 : Nat) (Hb : Heap) : ∀ q ∈ cd_X10_wording_0, am_ok l D ad b0 Hb am_If yX10_wording cX10_wording 7 (some .int) q.1 q.2 :=
  am_fc (ok_aload_n dX10_wording_0 rfl rfl) <|
  am_fc (ok_iload_n dX10_wording_1 rfl rfl) <|
  am_fc (ok_invV (i := ii_X10_isSaying) rfl (Or.inr ⟨_, rfl, by decide, rfl⟩) mm_X10_isSaying dX10_wording_2 w2_92 rfl) <|
  am_fc (ok_ifeq dX10_wording_5 (by decide) rfl) <|
  am_fc (ok_iload_n dX10_wording_8 rfl rfl) <|
  am_fc (ok_bipush dX10_wording_9 (by decide) rfl) <|
  am_fc (ok_invS (i := ii_X10_within) rfl mm_X10_within dX10_wording_11 w2_45 rfl) <|
  am_fc (ok_ifne dX10_wording_14 (by decide) rfl) <|
  am_fc (ok_iconst dX10_wording_17 (by decide) rfl) <|
  am_fc (ok_iret rfl dX10_wording_18) <|
  am_fc (ok_aload_n dX10_wording_19 rfl rfl) <|
  am_fc (ok_getR cl_9 (by decide) rfl dX10_wording_20 w2_5 rfl) <|
  am_fc (ok_iload_n dX10_wording_23 rfl rfl) <|
  am_fc (ok_aald (by decide) (by decide) dX10_wording_24 rfl) <|
  am_fc (ok_invV (i := ii_X5_isSecret) rfl (Or.inr ⟨_, rfl, by decide, rfl⟩) mm_X5_isSecret dX10_wording_25 w2_209 rfl) <|
  am_fc (ok_ifeq dX10_wording_28 (by decide) rfl) <|
  am_fc (ok_bipush dX10_wording_31 (by decide) rfl) <|
  am_fc (ok_iret rfl dX10_wording_33) <|
  am_fc (ok_iconst dX10_wording_34 (by decide) rfl) <|
  am_fc (ok_istore_n dX10_wording_35 rfl rfl) <|
  am_fc (ok_aload_n dX10_wording_36 rfl rfl) <|
  am_fc (ok_iload_n dX10_wording_37 rfl rfl) <|
  am_fc (ok_iconst dX10_wording_38 (by decide) rfl) <|
  am_fc (ok_iload_n dX10_wording_39 rfl rfl) <|
  am_fc (ok_invV (i := ii_X10_harmAhead) rfl (Or.inr ⟨_, rfl, by decide, rfl⟩) mm_X10_harmAhead dX10_wording_40 w2_238 rfl) <|
  am_fc (ok_istore dX10_wording_43 rfl) <|
  am_fc (ok_iconst dX10_wording_45 (by decide) rfl) <|
  am_fc (ok_istore dX10_wording_46 rfl) <|
  am_fc (ok_iload dX10_wording_48 rfl) <|
  am_fc (ok_iconst dX10_wording_50 (by decide) rfl) <|
  am_fc (ok_cgt dX10_wording_51 (by decide) rfl) <|
  am_fc (ok_aload_n dX10_wording_54 rfl rfl) <|
  am_fc (ok_iload_n dX10_wording_55 rfl rfl) <|
  am_fc (ok_iload dX10_wording_56 rfl) <|
  am_fc (ok_iload_n dX10_wording_58 rfl rfl) <|
  am_fc (ok_invV (i := ii_X10_harmAhead) rfl (Or.inr ⟨_, rfl, by decide, rfl⟩) mm_X10_harmAhead dX10_wording_59 w2_238 rfl) <|
  am_fc (ok_istore dX10_wording_62 rfl) <|
  am_fc (ok_iload dX10_wording_64 rfl) <|
  am_fc (ok_iload dX10_wording_66 rfl) <|
  am_fc (ok_cge dX10_wording_68 (by decide) rfl) <|
  am_fc (ok_iload dX10_wording_71 rfl) <|
  am_fc (ok_istore dX10_wording_73 rfl) <|
  am_fc (ok_iload dX10_wording_75 rfl) <|
  am_fc (ok_istore_n dX10_wording_77 rfl rfl) <|
  am_fc (ok_iinc dX10_wording_78 (by decide) rfl) <|
  am_fc (ok_goto dX10_wording_81 (by decide)) <|
  am_fc (ok_iload_n dX10_wording_84 rfl rfl) <|
  am_fc (ok_iret rfl dX10_wording_85) <|
  am_fn
theorem ok_cd_X10_wording (l : Launch) (D : va_G) (ad : Nat → Nat) (b0 : Nat) (Hb : Heap) : ∀ q ∈ cd_X10_wording, am_ok l D ad b0 Hb am_If yX10_wording cX10_wording 7 (some .int) q.1 q.2 := ok_cd_X10_wording_0 l D ad b0 Hb
set_option maxRecDepth 100000 in
theorem ok_cd_X10_plan_0 (l : Launch) (D : va_G) (ad : Nat → Nat) (b0 : Nat) (Hb : Heap) : ∀ q ∈ cd_X10_plan_0, am_ok l D ad b0 Hb am_If yX10_plan cX10_plan 5 (some .int) q.1 q.2 :=
  am_fc (ok_iload_n dX10_plan_0 rfl rfl) <|
  am_fc (ok_iflt dX10_plan_1 (by decide) rfl) <|
  am_fc (ok_iload_n dX10_plan_4 rfl rfl) <|
  am_fc (ok_iconst dX10_plan_5 (by decide) rfl) <|
  am_fc (ok_aload_n dX10_plan_6 rfl rfl) <|
  am_fc (ok_getI cl_9 (by decide) rfl dX10_plan_7 w2_14 rfl) <|
  am_fc (ok_ishl dX10_plan_10 rfl) <|
  am_fc (ok_cge dX10_plan_11 (by decide) rfl) <|
  am_fc (ok_iload_n dX10_plan_14 rfl rfl) <|
  am_fc (ok_invS (i := ii_J6_bitCount_0f7a4) rfl mm_J6_bitCount_0f7a4 dX10_plan_15 w3_14 rfl) <|
  am_fc (ok_iconst dX10_plan_18 (by decide) rfl) <|
  am_fc (ok_cgt dX10_plan_19 (by decide) rfl) <|
  am_fc (ok_iload_n dX10_plan_22 rfl rfl) <|
  am_fc (ok_bipush dX10_plan_23 (by decide) rfl) <|
  am_fc (ok_invS (i := ii_X10_within) rfl mm_X10_within dX10_plan_25 w2_45 rfl) <|
  am_fc (ok_ifne dX10_plan_28 (by decide) rfl) <|
  am_fc (ok_iconst dX10_plan_31 (by decide) rfl) <|
  am_fc (ok_iret rfl dX10_plan_32) <|
  am_fc (ok_iconst dX10_plan_33 (by decide) rfl) <|
  am_fc (ok_istore_n dX10_plan_34 rfl rfl) <|
  am_fc (ok_iload_n dX10_plan_35 rfl rfl) <|
  am_fc (ok_aload_n dX10_plan_36 rfl rfl) <|
  am_fc (ok_getI cl_9 (by decide) rfl dX10_plan_37 w2_14 rfl) <|
  am_fc (ok_cge dX10_plan_40 (by decide) rfl) <|
  am_fc (ok_iload_n dX10_plan_43 rfl rfl) <|
  am_fc (ok_iload_n dX10_plan_44 rfl rfl) <|
  am_fc (ok_invS (i := ii_X10_has) rfl mm_X10_has dX10_plan_45 w3_15 rfl) <|
  am_fc (ok_ifeq dX10_plan_48 (by decide) rfl) <|
  am_fc (ok_aload_n dX10_plan_51 rfl rfl) <|
  am_fc (ok_getR cl_9 (by decide) rfl dX10_plan_52 w2_5 rfl) <|
  am_fc (ok_iload_n dX10_plan_55 rfl rfl) <|
  am_fc (ok_aald (by decide) (by decide) dX10_plan_56 rfl) <|
  am_fc (ok_invV (i := ii_X5_isSecret) rfl (Or.inr ⟨_, rfl, by decide, rfl⟩) mm_X5_isSecret dX10_plan_57 w2_209 rfl) <|
  am_fc (ok_ifeq dX10_plan_60 (by decide) rfl) <|
  am_fc (ok_bipush dX10_plan_63 (by decide) rfl) <|
  am_fc (ok_iret rfl dX10_plan_65) <|
  am_fc (ok_iinc dX10_plan_66 (by decide) rfl) <|
  am_fc (ok_goto dX10_plan_69 (by decide)) <|
  am_fc (ok_iconst dX10_plan_72 (by decide) rfl) <|
  am_fc (ok_istore_n dX10_plan_73 rfl rfl) <|
  am_fc (ok_iconst dX10_plan_74 (by decide) rfl) <|
  am_fc (ok_istore dX10_plan_75 rfl) <|
  am_fc (ok_iload dX10_plan_77 rfl) <|
  am_fc (ok_aload_n dX10_plan_79 rfl rfl) <|
  am_fc (ok_getI cl_9 (by decide) rfl dX10_plan_80 w2_14 rfl) <|
  am_fc (ok_cge dX10_plan_83 (by decide) rfl) <|
  am_fc (ok_iload_n dX10_plan_86 rfl rfl) <|
  am_fc (ok_iload dX10_plan_87 rfl) <|
  am_fc (ok_invS (i := ii_X10_has) rfl mm_X10_has dX10_plan_89 w3_15 rfl) <|
  am_fc (ok_ifeq dX10_plan_92 (by decide) rfl) <|
  am_fn
set_option maxRecDepth 100000 in
theorem ok_cd_X10_plan_1 (l : Launch) (D : va_G) (ad : Nat → Nat) (b0 : Nat) (Hb : Heap) : ∀ q ∈ cd_X10_plan_1, am_ok l D ad b0 Hb am_If yX10_plan cX10_plan 5 (some .int) q.1 q.2 :=
  am_fc (ok_aload_n dX10_plan_95 rfl rfl) <|
  am_fc (ok_iload dX10_plan_96 rfl) <|
  am_fc (ok_iconst dX10_plan_98 (by decide) rfl) <|
  am_fc (ok_iload_n dX10_plan_99 rfl rfl) <|
  am_fc (ok_invV (i := ii_X10_harmAhead) rfl (Or.inr ⟨_, rfl, by decide, rfl⟩) mm_X10_harmAhead dX10_plan_100 w2_238 rfl) <|
  am_fc (ok_aload_n dX10_plan_103 rfl rfl) <|
  am_fc (ok_iload dX10_plan_104 rfl) <|
  am_fc (ok_iconst dX10_plan_106 (by decide) rfl) <|
  am_fc (ok_iload_n dX10_plan_107 rfl rfl) <|
  am_fc (ok_invV (i := ii_X10_harmAhead) rfl (Or.inr ⟨_, rfl, by decide, rfl⟩) mm_X10_harmAhead dX10_plan_108 w2_238 rfl) <|
  am_fc (ok_cge dX10_plan_111 (by decide) rfl) <|
  am_fc (ok_iload_n dX10_plan_114 rfl rfl) <|
  am_fc (ok_iconst dX10_plan_115 (by decide) rfl) <|
  am_fc (ok_iload dX10_plan_116 rfl) <|
  am_fc (ok_ishl dX10_plan_118 rfl) <|
  am_fc (ok_ior dX10_plan_119 rfl) <|
  am_fc (ok_istore_n dX10_plan_120 rfl rfl) <|
  am_fc (ok_iinc dX10_plan_121 (by decide) rfl) <|
  am_fc (ok_goto dX10_plan_124 (by decide)) <|
  am_fc (ok_iload_n dX10_plan_127 rfl rfl) <|
  am_fc (ok_iret rfl dX10_plan_128) <|
  am_fn
theorem ok_cd_X10_plan (l : Launch) (D : va_G) (ad : Nat → Nat) (b0 : Nat) (Hb : Heap) : ∀ q ∈ cd_X10_plan, am_ok l D ad b0 Hb am_If yX10_plan cX10_plan 5 (some .int) q.1 q.2 := am_fa (ok_cd_X10_plan_0 l D ad b0 Hb) (ok_cd_X10_plan_1 l D ad b0 Hb)
set_option maxRecDepth 100000 in
theorem ok_cd_X10_type_0 (l : Launch) (D : va_G) (ad : Nat → Nat) (b0 : Nat) (Hb : Heap) : ∀ q ∈ cd_X10_type_0, am_ok l D ad b0 Hb am_If yX10_type cX10_type 6 (some .int) q.1 q.2 :=
  am_fc (ok_iload_n dX10_type_0 rfl rfl) <|
  am_fc (ok_iconst dX10_type_1 (by decide) rfl) <|
  am_fc (ok_clt dX10_type_2 (by decide) rfl) <|
  am_fc (ok_iload_n dX10_type_5 rfl rfl) <|
  am_fc (ok_bipush dX10_type_6 (by decide) rfl) <|
  am_fc (ok_cle dX10_type_8 (by decide) rfl) <|
  am_fc (ok_iconst dX10_type_11 (by decide) rfl) <|
  am_fc (ok_iret rfl dX10_type_12) <|
  am_fc (ok_iconst dX10_type_13 (by decide) rfl) <|
  am_fc (ok_istore dX10_type_14 rfl) <|
  am_fc (ok_iload dX10_type_16 rfl) <|
  am_fc (ok_iload_n dX10_type_18 rfl rfl) <|
  am_fc (ok_cge dX10_type_19 (by decide) rfl) <|
  am_fc (ok_lload_n dX10_type_22 rfl rfl) <|
  am_fc (ok_iload dX10_type_23 rfl) <|
  am_fc (ok_invS (i := ii_X10_byteOf) rfl mm_X10_byteOf dX10_type_25 w3_22 rfl) <|
  am_fc (ok_istore dX10_type_28 rfl) <|
  am_fc (ok_iload dX10_type_30 rfl) <|
  am_fc (ok_bipush dX10_type_32 (by decide) rfl) <|
  am_fc (ok_clt dX10_type_34 (by decide) rfl) <|
  am_fc (ok_iload dX10_type_37 rfl) <|
  am_fc (ok_bipush dX10_type_39 (by decide) rfl) <|
  am_fc (ok_cle dX10_type_41 (by decide) rfl) <|
  am_fc (ok_iconst dX10_type_44 (by decide) rfl) <|
  am_fc (ok_iret rfl dX10_type_45) <|
  am_fc (ok_iinc dX10_type_46 (by decide) rfl) <|
  am_fc (ok_goto dX10_type_49 (by decide)) <|
  am_fc (ok_aload_n dX10_type_52 rfl rfl) <|
  am_fc (ok_getR cl_9 (by decide) rfl dX10_type_53 w2_7 rfl) <|
  am_fc (ok_getI cl_7 (by decide) rfl dX10_type_56 w1_98 rfl) <|
  am_fc (ok_iload_n dX10_type_59 rfl rfl) <|
  am_fc (ok_iadd dX10_type_60 rfl) <|
  am_fc (ok_bipush dX10_type_61 (by decide) rfl) <|
  am_fc (ok_cle dX10_type_63 (by decide) rfl) <|
  am_fc (ok_bipush dX10_type_66 (by decide) rfl) <|
  am_fc (ok_iret rfl dX10_type_68) <|
  am_fc (ok_iload_n dX10_type_69 rfl rfl) <|
  am_fc (ok_iconst dX10_type_70 (by decide) rfl) <|
  am_fc (ok_isub dX10_type_71 rfl) <|
  am_fc (ok_istore dX10_type_72 rfl) <|
  am_fc (ok_iload dX10_type_74 rfl) <|
  am_fc (ok_iflt dX10_type_76 (by decide) rfl) <|
  am_fc (ok_aload_n dX10_type_79 rfl rfl) <|
  am_fc (ok_getR cl_9 (by decide) rfl dX10_type_80 w2_7 rfl) <|
  am_fc (ok_lload_n dX10_type_83 rfl rfl) <|
  am_fc (ok_iload dX10_type_84 rfl) <|
  am_fc (ok_invS (i := ii_X10_byteOf) rfl mm_X10_byteOf dX10_type_86 w3_22 rfl) <|
  am_fc (ok_i2c dX10_type_89 rfl) <|
  am_fc (ok_invV (i := ii_X8_append) rfl (Or.inr ⟨_, rfl, by decide, rfl⟩) mm_X8_append dX10_type_90 w3_25 rfl) <|
  am_fc (ok_iinc dX10_type_93 (by decide) rfl) <|
  am_fn
set_option maxRecDepth 100000 in
theorem ok_cd_X10_type_1 (l : Launch) (D : va_G) (ad : Nat → Nat) (b0 : Nat) (Hb : Heap) : ∀ q ∈ cd_X10_type_1, am_ok l D ad b0 Hb am_If yX10_type cX10_type 6 (some .int) q.1 q.2 :=
  am_fc (ok_goto dX10_type_96 (by decide)) <|
  am_fc (ok_aload_n dX10_type_99 rfl rfl) <|
  am_fc (ok_getR cl_9 (by decide) rfl dX10_type_100 w2_7 rfl) <|
  am_fc (ok_getI cl_7 (by decide) rfl dX10_type_103 w1_98 rfl) <|
  am_fc (ok_iret rfl dX10_type_106) <|
  am_fn
theorem ok_cd_X10_type (l : Launch) (D : va_G) (ad : Nat → Nat) (b0 : Nat) (Hb : Heap) : ∀ q ∈ cd_X10_type, am_ok l D ad b0 Hb am_If yX10_type cX10_type 6 (some .int) q.1 q.2 := am_fa (ok_cd_X10_type_0 l D ad b0 Hb) (ok_cd_X10_type_1 l D ad b0 Hb)
set_option maxRecDepth 100000 in
theorem ok_cd_X10_guide_0 (l : Launch) (D : va_G) (ad : Nat → Nat) (b0 : Nat) (Hb : Heap) : ∀ q ∈ cd_X10_guide_0, am_ok l D ad b0 Hb am_If yX10_guide cX10_guide 3 (some .int) q.1 q.2 :=
  am_fc (ok_aload_n dX10_guide_0 rfl rfl) <|
  am_fc (ok_getR cl_9 (by decide) rfl dX10_guide_1 w2_7 rfl) <|
  am_fc (ok_aload_n dX10_guide_4 rfl rfl) <|
  am_fc (ok_getR cl_9 (by decide) rfl dX10_guide_5 w2_13 rfl) <|
  am_fc (ok_invV (i := ii_X8_readInto) rfl (Or.inr ⟨_, rfl, by decide, rfl⟩) mm_X8_readInto dX10_guide_8 w3_33 rfl) <|
  am_fc (ok_istore_n dX10_guide_11 rfl rfl) <|
  am_fc (ok_iload_n dX10_guide_12 rfl rfl) <|
  am_fc (ok_iflt dX10_guide_13 (by decide) rfl) <|
  am_fc (ok_aload_n dX10_guide_16 rfl rfl) <|
  am_fc (ok_getR cl_9 (by decide) rfl dX10_guide_17 w2_12 rfl) <|
  am_fc (ok_astore_n dX10_guide_20 rfl rfl) <|
  am_fc (ok_aload_n dX10_guide_21 rfl rfl) <|
  am_fc (ok_aload_n dX10_guide_22 rfl rfl) <|
  am_fc (ok_getR cl_9 (by decide) rfl dX10_guide_23 w2_13 rfl) <|
  am_fc (ok_putR cl_9 (by decide) rfl (Or.inl rfl) dX10_guide_26 w2_12 rfl) <|
  am_fc (ok_aload_n dX10_guide_29 rfl rfl) <|
  am_fc (ok_aload_n dX10_guide_30 rfl rfl) <|
  am_fc (ok_putR cl_9 (by decide) rfl (Or.inl rfl) dX10_guide_31 w2_13 rfl) <|
  am_fc (ok_aload_n dX10_guide_34 rfl rfl) <|
  am_fc (ok_getR cl_9 (by decide) rfl dX10_guide_35 w2_7 rfl) <|
  am_fc (ok_iconst dX10_guide_38 (by decide) rfl) <|
  am_fc (ok_putI cl_7 (by decide) rfl (Or.inl rfl) dX10_guide_39 w1_98 rfl) <|
  am_fc (ok_iload_n dX10_guide_42 rfl rfl) <|
  am_fc (ok_iret rfl dX10_guide_43) <|
  am_fn
theorem ok_cd_X10_guide (l : Launch) (D : va_G) (ad : Nat → Nat) (b0 : Nat) (Hb : Heap) : ∀ q ∈ cd_X10_guide, am_ok l D ad b0 Hb am_If yX10_guide cX10_guide 3 (some .int) q.1 q.2 := ok_cd_X10_guide_0 l D ad b0 Hb
set_option maxRecDepth 100000 in
theorem ok_cd_X10_why_0 (l : Launch) (D : va_G) (ad : Nat → Nat) (b0 : Nat) (Hb : Heap) : ∀ q ∈ cd_X10_why_0, am_ok l D ad b0 Hb am_If yX10_why cX10_why 4 (some .int) q.1 q.2 :=
  am_fc (ok_aload_n dX10_why_0 rfl rfl) <|
  am_fc (ok_iload_n dX10_why_1 rfl rfl) <|
  am_fc (ok_invV (i := ii_X10_isSaying) rfl (Or.inr ⟨_, rfl, by decide, rfl⟩) mm_X10_isSaying dX10_why_2 w2_92 rfl) <|
  am_fc (ok_ifeq dX10_why_5 (by decide) rfl) <|
  am_fc (ok_iload_n dX10_why_8 rfl rfl) <|
  am_fc (ok_iconst dX10_why_9 (by decide) rfl) <|
  am_fc (ok_invS (i := ii_X10_within) rfl mm_X10_within dX10_why_10 w2_45 rfl) <|
  am_fc (ok_ifne dX10_why_13 (by decide) rfl) <|
  am_fc (ok_iconst dX10_why_16 (by decide) rfl) <|
  am_fc (ok_iret rfl dX10_why_17) <|
  am_fc (ok_aload_n dX10_why_18 rfl rfl) <|
  am_fc (ok_getR cl_9 (by decide) rfl dX10_why_19 w2_12 rfl) <|
  am_fc (ok_aload_n dX10_why_22 rfl rfl) <|
  am_fc (ok_getR cl_9 (by decide) rfl dX10_why_23 w2_5 rfl) <|
  am_fc (ok_iload_n dX10_why_26 rfl rfl) <|
  am_fc (ok_aald (by decide) (by decide) dX10_why_27 rfl) <|
  am_fc (ok_getI cl_4 (by decide) rfl dX10_why_28 w1_205 rfl) <|
  am_fc (ok_aload_n dX10_why_31 rfl rfl) <|
  am_fc (ok_getI cl_9 (by decide) rfl dX10_why_32 w2_15 rfl) <|
  am_fc (ok_bipush dX10_why_35 (by decide) rfl) <|
  am_fc (ok_idiv dX10_why_37 rfl) <|
  am_fc (ok_invV (i := ii_X0_lastThatHolds) rfl (Or.inr ⟨_, rfl, by decide, rfl⟩) mm_X0_lastThatHolds dX10_why_38 w3_186 rfl) <|
  am_fc (ok_istore_n dX10_why_41 rfl rfl) <|
  am_fc (ok_iload_n dX10_why_42 rfl rfl) <|
  am_fc (ok_bipush dX10_why_43 (by decide) rfl) <|
  am_fc (ok_cne dX10_why_45 (by decide) rfl) <|
  am_fc (ok_bipush dX10_why_48 (by decide) rfl) <|
  am_fc (ok_iret rfl dX10_why_50) <|
  am_fc (ok_iload_n dX10_why_51 rfl rfl) <|
  am_fc (ok_ifne dX10_why_52 (by decide) rfl) <|
  am_fc (ok_iload_n dX10_why_55 rfl rfl) <|
  am_fc (ok_goto dX10_why_56 (by decide)) <|
  am_fc (ok_aload_n dX10_why_59 rfl rfl) <|
  am_fc (ok_getR cl_9 (by decide) rfl dX10_why_60 w2_12 rfl) <|
  am_fc (ok_getR cl_0 (by decide) rfl dX10_why_63 w1_173 rfl) <|
  am_fc (ok_iload_n dX10_why_66 rfl rfl) <|
  am_fc (ok_iald dX10_why_67 rfl) <|
  am_fc (ok_iret rfl dX10_why_68) <|
  am_fn
theorem ok_cd_X10_why (l : Launch) (D : va_G) (ad : Nat → Nat) (b0 : Nat) (Hb : Heap) : ∀ q ∈ cd_X10_why, am_ok l D ad b0 Hb am_If yX10_why cX10_why 4 (some .int) q.1 q.2 := ok_cd_X10_why_0 l D ad b0 Hb
set_option maxRecDepth 100000 in
theorem ok_cd_X10_versions_0 (l : Launch) (D : va_G) (ad : Nat → Nat) (b0 : Nat) (Hb : Heap) : ∀ q ∈ cd_X10_versions_0, am_ok l D ad b0 Hb am_If yX10_versions cX10_versions 2 (some .int) q.1 q.2 :=
  am_fc (ok_aload_n dX10_versions_0 rfl rfl) <|
  am_fc (ok_iload_n dX10_versions_1 rfl rfl) <|
  am_fc (ok_invV (i := ii_X10_isSaying) rfl (Or.inr ⟨_, rfl, by decide, rfl⟩) mm_X10_isSaying dX10_versions_2 w2_92 rfl) <|
  am_fc (ok_ifne dX10_versions_5 (by decide) rfl) <|
  am_fc (ok_iconst dX10_versions_8 (by decide) rfl) <|
  am_fc (ok_iret rfl dX10_versions_9) <|
  am_fc (ok_aload_n dX10_versions_10 rfl rfl) <|
  am_fc (ok_getR cl_9 (by decide) rfl dX10_versions_11 w2_8 rfl) <|
  am_fc (ok_aload_n dX10_versions_14 rfl rfl) <|
  am_fc (ok_getR cl_9 (by decide) rfl dX10_versions_15 w2_5 rfl) <|
  am_fc (ok_iload_n dX10_versions_18 rfl rfl) <|
  am_fc (ok_aald (by decide) (by decide) dX10_versions_19 rfl) <|
  am_fc (ok_getR cl_4 (by decide) rfl dX10_versions_20 w1_202 rfl) <|
  am_fc (ok_aload_n dX10_versions_23 rfl rfl) <|
  am_fc (ok_getR cl_9 (by decide) rfl dX10_versions_24 w2_4 rfl) <|
  am_fc (ok_getI cl_8 (by decide) rfl dX10_versions_27 w1_41 rfl) <|
  am_fc (ok_invV (i := ii_X1_look) rfl (Or.inr ⟨_, rfl, by decide, rfl⟩) mm_X1_look dX10_versions_30 w3_202 rfl) <|
  am_fc (ok_aload_n dX10_versions_33 rfl rfl) <|
  am_fc (ok_getR cl_9 (by decide) rfl dX10_versions_34 w2_8 rfl) <|
  am_fc (ok_getI cl_1 (by decide) rfl dX10_versions_37 w1_120 rfl) <|
  am_fc (ok_iret rfl dX10_versions_40) <|
  am_fn
theorem ok_cd_X10_versions (l : Launch) (D : va_G) (ad : Nat → Nat) (b0 : Nat) (Hb : Heap) : ∀ q ∈ cd_X10_versions, am_ok l D ad b0 Hb am_If yX10_versions cX10_versions 2 (some .int) q.1 q.2 := ok_cd_X10_versions_0 l D ad b0 Hb
set_option maxRecDepth 100000 in
theorem ok_cd_X10_version_0 (l : Launch) (D : va_G) (ad : Nat → Nat) (b0 : Nat) (Hb : Heap) : ∀ q ∈ cd_X10_version_0, am_ok l D ad b0 Hb am_If yX10_version cX10_version 4 (some .int) q.1 q.2 :=
  am_fc (ok_aload_n dX10_version_0 rfl rfl) <|
  am_fc (ok_iload_n dX10_version_1 rfl rfl) <|
  am_fc (ok_invV (i := ii_X10_isSaying) rfl (Or.inr ⟨_, rfl, by decide, rfl⟩) mm_X10_isSaying dX10_version_2 w2_92 rfl) <|
  am_fc (ok_ifeq dX10_version_5 (by decide) rfl) <|
  am_fc (ok_iload_n dX10_version_8 rfl rfl) <|
  am_fc (ok_iconst dX10_version_9 (by decide) rfl) <|
  am_fc (ok_invS (i := ii_X10_within) rfl mm_X10_within dX10_version_10 w2_45 rfl) <|
  am_fc (ok_ifne dX10_version_13 (by decide) rfl) <|
  am_fc (ok_iconst dX10_version_16 (by decide) rfl) <|
  am_fc (ok_iret rfl dX10_version_17) <|
  am_fc (ok_aload_n dX10_version_18 rfl rfl) <|
  am_fc (ok_getR cl_9 (by decide) rfl dX10_version_19 w2_8 rfl) <|
  am_fc (ok_aload_n dX10_version_22 rfl rfl) <|
  am_fc (ok_getR cl_9 (by decide) rfl dX10_version_23 w2_5 rfl) <|
  am_fc (ok_iload_n dX10_version_26 rfl rfl) <|
  am_fc (ok_aald (by decide) (by decide) dX10_version_27 rfl) <|
  am_fc (ok_getR cl_4 (by decide) rfl dX10_version_28 w1_202 rfl) <|
  am_fc (ok_aload_n dX10_version_31 rfl rfl) <|
  am_fc (ok_getR cl_9 (by decide) rfl dX10_version_32 w2_4 rfl) <|
  am_fc (ok_getI cl_8 (by decide) rfl dX10_version_35 w1_41 rfl) <|
  am_fc (ok_invV (i := ii_X1_look) rfl (Or.inr ⟨_, rfl, by decide, rfl⟩) mm_X1_look dX10_version_38 w3_202 rfl) <|
  am_fc (ok_iload_n dX10_version_41 rfl rfl) <|
  am_fc (ok_aload_n dX10_version_42 rfl rfl) <|
  am_fc (ok_getR cl_9 (by decide) rfl dX10_version_43 w2_8 rfl) <|
  am_fc (ok_getI cl_1 (by decide) rfl dX10_version_46 w1_120 rfl) <|
  am_fc (ok_iconst dX10_version_49 (by decide) rfl) <|
  am_fc (ok_isub dX10_version_50 rfl) <|
  am_fc (ok_invS (i := ii_X10_within) rfl mm_X10_within dX10_version_51 w2_45 rfl) <|
  am_fc (ok_ifne dX10_version_54 (by decide) rfl) <|
  am_fc (ok_iconst dX10_version_57 (by decide) rfl) <|
  am_fc (ok_iret rfl dX10_version_58) <|
  am_fc (ok_iload_n dX10_version_59 rfl rfl) <|
  am_fc (ok_ifne dX10_version_60 (by decide) rfl) <|
  am_fc (ok_aload_n dX10_version_63 rfl rfl) <|
  am_fc (ok_getR cl_9 (by decide) rfl dX10_version_64 w2_8 rfl) <|
  am_fc (ok_getR cl_1 (by decide) rfl dX10_version_67 w1_116 rfl) <|
  am_fc (ok_iload_n dX10_version_70 rfl rfl) <|
  am_fc (ok_iald dX10_version_71 rfl) <|
  am_fc (ok_iret rfl dX10_version_72) <|
  am_fc (ok_aload_n dX10_version_73 rfl rfl) <|
  am_fc (ok_getR cl_9 (by decide) rfl dX10_version_74 w2_8 rfl) <|
  am_fc (ok_invV (i := ii_X1_join) rfl (Or.inr ⟨_, rfl, by decide, rfl⟩) mm_X1_join dX10_version_77 w3_215 rfl) <|
  am_fc (ok_pop dX10_version_80 rfl) <|
  am_fc (ok_aload_n dX10_version_81 rfl rfl) <|
  am_fc (ok_getR cl_9 (by decide) rfl dX10_version_82 w2_8 rfl) <|
  am_fc (ok_getR cl_1 (by decide) rfl dX10_version_85 w1_118 rfl) <|
  am_fc (ok_iload_n dX10_version_88 rfl rfl) <|
  am_fc (ok_iald dX10_version_89 rfl) <|
  am_fc (ok_iret rfl dX10_version_90) <|
  am_fn
theorem ok_cd_X10_version (l : Launch) (D : va_G) (ad : Nat → Nat) (b0 : Nat) (Hb : Heap) : ∀ q ∈ cd_X10_version, am_ok l D ad b0 Hb am_If yX10_version cX10_version 4 (some .int) q.1 q.2 := ok_cd_X10_version_0 l D ad b0 Hb
set_option maxRecDepth 100000 in
theorem ok_cd_X10_kin_0 (l : Launch) (D : va_G) (ad : Nat → Nat) (b0 : Nat) (Hb : Heap) : ∀ q ∈ cd_X10_kin_0, am_ok l D ad b0 Hb am_If yX10_kin cX10_kin 2 (some .int) q.1 q.2 :=
  am_fc (ok_aload_n dX10_kin_0 rfl rfl) <|
  am_fc (ok_iload_n dX10_kin_1 rfl rfl) <|
  am_fc (ok_invV (i := ii_X10_isSaying) rfl (Or.inr ⟨_, rfl, by decide, rfl⟩) mm_X10_isSaying dX10_kin_2 w2_92 rfl) <|
  am_fc (ok_ifne dX10_kin_5 (by decide) rfl) <|
  am_fc (ok_iconst dX10_kin_8 (by decide) rfl) <|
  am_fc (ok_iret rfl dX10_kin_9) <|
  am_fc (ok_aload_n dX10_kin_10 rfl rfl) <|
  am_fc (ok_getR cl_9 (by decide) rfl dX10_kin_11 w2_8 rfl) <|
  am_fc (ok_aload_n dX10_kin_14 rfl rfl) <|
  am_fc (ok_getR cl_9 (by decide) rfl dX10_kin_15 w2_5 rfl) <|
  am_fc (ok_iload_n dX10_kin_18 rfl rfl) <|
  am_fc (ok_aald (by decide) (by decide) dX10_kin_19 rfl) <|
  am_fc (ok_getR cl_4 (by decide) rfl dX10_kin_20 w1_202 rfl) <|
  am_fc (ok_aload_n dX10_kin_23 rfl rfl) <|
  am_fc (ok_getR cl_9 (by decide) rfl dX10_kin_24 w2_4 rfl) <|
  am_fc (ok_getI cl_8 (by decide) rfl dX10_kin_27 w1_41 rfl) <|
  am_fc (ok_invV (i := ii_X1_look) rfl (Or.inr ⟨_, rfl, by decide, rfl⟩) mm_X1_look dX10_kin_30 w3_202 rfl) <|
  am_fc (ok_aload_n dX10_kin_33 rfl rfl) <|
  am_fc (ok_getR cl_9 (by decide) rfl dX10_kin_34 w2_8 rfl) <|
  am_fc (ok_invV (i := ii_X1_join) rfl (Or.inr ⟨_, rfl, by decide, rfl⟩) mm_X1_join dX10_kin_37 w3_215 rfl) <|
  am_fc (ok_iret rfl dX10_kin_40) <|
  am_fn
theorem ok_cd_X10_kin (l : Launch) (D : va_G) (ad : Nat → Nat) (b0 : Nat) (Hb : Heap) : ∀ q ∈ cd_X10_kin, am_ok l D ad b0 Hb am_If yX10_kin cX10_kin 2 (some .int) q.1 q.2 := ok_cd_X10_kin_0 l D ad b0 Hb
set_option maxRecDepth 100000 in
theorem ok_cd_X10_report_0 (l : Launch) (D : va_G) (ad : Nat → Nat) (b0 : Nat) (Hb : Heap) : ∀ q ∈ cd_X10_report_0, am_ok l D ad b0 Hb am_If yX10_report cX10_report 4 (some .int) q.1 q.2 :=
  am_fc (ok_iload_n dX10_report_0 rfl rfl) <|
  am_fc (ok_iconst dX10_report_1 (by decide) rfl) <|
  am_fc (ok_invS (i := ii_X10_within) rfl mm_X10_within dX10_report_2 w2_45 rfl) <|
  am_fc (ok_ifeq dX10_report_5 (by decide) rfl) <|
  am_fc (ok_iload_n dX10_report_8 rfl rfl) <|
  am_fc (ok_bipush dX10_report_9 (by decide) rfl) <|
  am_fc (ok_invS (i := ii_X10_within) rfl mm_X10_within dX10_report_11 w2_45 rfl) <|
  am_fc (ok_ifne dX10_report_14 (by decide) rfl) <|
  am_fc (ok_iconst dX10_report_17 (by decide) rfl) <|
  am_fc (ok_iret rfl dX10_report_18) <|
  am_fc (ok_aload_n dX10_report_19 rfl rfl) <|
  am_fc (ok_getR cl_9 (by decide) rfl dX10_report_20 w2_9 rfl) <|
  am_fc (ok_getI cl_3 (by decide) rfl dX10_report_23 w1_139 rfl) <|
  am_fc (ok_bipush dX10_report_26 (by decide) rfl) <|
  am_fc (ok_clt dX10_report_28 (by decide) rfl) <|
  am_fc (ok_bipush dX10_report_31 (by decide) rfl) <|
  am_fc (ok_iret rfl dX10_report_33) <|
  am_fc (ok_aload_n dX10_report_34 rfl rfl) <|
  am_fc (ok_getR cl_9 (by decide) rfl dX10_report_35 w2_9 rfl) <|
  am_fc (ok_iload_n dX10_report_38 rfl rfl) <|
  am_fc (ok_iload_n dX10_report_39 rfl rfl) <|
  am_fc (ok_iload_n dX10_report_40 rfl rfl) <|
  am_fc (ok_invV (i := ii_X4_take) rfl (Or.inr ⟨_, rfl, by decide, rfl⟩) mm_X4_take dX10_report_41 w3_234 rfl) <|
  am_fc (ok_iret rfl dX10_report_44) <|
  am_fn
theorem ok_cd_X10_report (l : Launch) (D : va_G) (ad : Nat → Nat) (b0 : Nat) (Hb : Heap) : ∀ q ∈ cd_X10_report, am_ok l D ad b0 Hb am_If yX10_report cX10_report 4 (some .int) q.1 q.2 := ok_cd_X10_report_0 l D ad b0 Hb
set_option maxRecDepth 100000 in
theorem ok_cd_X10_clear_0 (l : Launch) (D : va_G) (ad : Nat → Nat) (b0 : Nat) (Hb : Heap) : ∀ q ∈ cd_X10_clear_0, am_ok l D ad b0 Hb am_If yX10_clear cX10_clear 1 (some .int) q.1 q.2 :=
  am_fc (ok_aload_n dX10_clear_0 rfl rfl) <|
  am_fc (ok_getR cl_9 (by decide) rfl dX10_clear_1 w2_9 rfl) <|
  am_fc (ok_invV (i := ii_X4_forget) rfl (Or.inr ⟨_, rfl, by decide, rfl⟩) mm_X4_forget dX10_clear_4 w4_3 rfl) <|
  am_fc (ok_iret rfl dX10_clear_7) <|
  am_fn
theorem ok_cd_X10_clear (l : Launch) (D : va_G) (ad : Nat → Nat) (b0 : Nat) (Hb : Heap) : ∀ q ∈ cd_X10_clear, am_ok l D ad b0 Hb am_If yX10_clear cX10_clear 1 (some .int) q.1 q.2 := ok_cd_X10_clear_0 l D ad b0 Hb
set_option maxRecDepth 100000 in
theorem ok_cd_X10_could_0 (l : Launch) (D : va_G) (ad : Nat → Nat) (b0 : Nat) (Hb : Heap) : ∀ q ∈ cd_X10_could_0, am_ok l D ad b0 Hb am_If yX10_could cX10_could 4 (some .int) q.1 q.2 :=
  am_fc (ok_aload_n dX10_could_0 rfl rfl) <|
  am_fc (ok_iload_n dX10_could_1 rfl rfl) <|
  am_fc (ok_invV (i := ii_X10_isSaying) rfl (Or.inr ⟨_, rfl, by decide, rfl⟩) mm_X10_isSaying dX10_could_2 w2_92 rfl) <|
  am_fc (ok_ifeq dX10_could_5 (by decide) rfl) <|
  am_fc (ok_aload_n dX10_could_8 rfl rfl) <|
  am_fc (ok_iload_n dX10_could_9 rfl rfl) <|
  am_fc (ok_invV (i := ii_X10_isPerson) rfl (Or.inr ⟨_, rfl, by decide, rfl⟩) mm_X10_isPerson dX10_could_10 w2_62 rfl) <|
  am_fc (ok_ifeq dX10_could_13 (by decide) rfl) <|
  am_fc (ok_iload_n dX10_could_16 rfl rfl) <|
  am_fc (ok_bipush dX10_could_17 (by decide) rfl) <|
  am_fc (ok_invS (i := ii_X10_within) rfl mm_X10_within dX10_could_19 w2_45 rfl) <|
  am_fc (ok_ifne dX10_could_22 (by decide) rfl) <|
  am_fc (ok_iconst dX10_could_25 (by decide) rfl) <|
  am_fc (ok_iret rfl dX10_could_26) <|
  am_fc (ok_aload_n dX10_could_27 rfl rfl) <|
  am_fc (ok_aload_n dX10_could_28 rfl rfl) <|
  am_fc (ok_getR cl_9 (by decide) rfl dX10_could_29 w2_5 rfl) <|
  am_fc (ok_iload_n dX10_could_32 rfl rfl) <|
  am_fc (ok_aald (by decide) (by decide) dX10_could_33 rfl) <|
  am_fc (ok_getI cl_4 (by decide) rfl dX10_could_34 w1_205 rfl) <|
  am_fc (ok_iload_n dX10_could_37 rfl rfl) <|
  am_fc (ok_iload_n dX10_could_38 rfl rfl) <|
  am_fc (ok_invV (i := ii_X10_agrees) rfl (Or.inr ⟨_, rfl, by decide, rfl⟩) mm_X10_agrees dX10_could_39 w4_11 rfl) <|
  am_fc (ok_ifeq dX10_could_42 (by decide) rfl) <|
  am_fc (ok_iconst dX10_could_45 (by decide) rfl) <|
  am_fc (ok_goto dX10_could_46 (by decide)) <|
  am_fc (ok_iconst dX10_could_49 (by decide) rfl) <|
  am_fc (ok_iret rfl dX10_could_50) <|
  am_fn
theorem ok_cd_X10_could (l : Launch) (D : va_G) (ad : Nat → Nat) (b0 : Nat) (Hb : Heap) : ∀ q ∈ cd_X10_could, am_ok l D ad b0 Hb am_If yX10_could cX10_could 4 (some .int) q.1 q.2 := ok_cd_X10_could_0 l D ad b0 Hb
set_option maxRecDepth 100000 in
theorem ok_cd_X10_first_0 (l : Launch) (D : va_G) (ad : Nat → Nat) (b0 : Nat) (Hb : Heap) : ∀ q ∈ cd_X10_first_0, am_ok l D ad b0 Hb am_If yX10_first cX10_first 4 (some .int) q.1 q.2 :=
  am_fc (ok_aload_n dX10_first_0 rfl rfl) <|
  am_fc (ok_iload_n dX10_first_1 rfl rfl) <|
  am_fc (ok_invV (i := ii_X10_isSaying) rfl (Or.inr ⟨_, rfl, by decide, rfl⟩) mm_X10_isSaying dX10_first_2 w2_92 rfl) <|
  am_fc (ok_ifne dX10_first_5 (by decide) rfl) <|
  am_fc (ok_iconst dX10_first_8 (by decide) rfl) <|
  am_fc (ok_iret rfl dX10_first_9) <|
  am_fc (ok_iconst dX10_first_10 (by decide) rfl) <|
  am_fc (ok_istore_n dX10_first_11 rfl rfl) <|
  am_fc (ok_iconst dX10_first_12 (by decide) rfl) <|
  am_fc (ok_istore_n dX10_first_13 rfl rfl) <|
  am_fc (ok_iload_n dX10_first_14 rfl rfl) <|
  am_fc (ok_aload_n dX10_first_15 rfl rfl) <|
  am_fc (ok_getR cl_9 (by decide) rfl dX10_first_16 w2_4 rfl) <|
  am_fc (ok_getI cl_8 (by decide) rfl dX10_first_19 w1_41 rfl) <|
  am_fc (ok_cge dX10_first_22 (by decide) rfl) <|
  am_fc (ok_aload_n dX10_first_25 rfl rfl) <|
  am_fc (ok_aload_n dX10_first_26 rfl rfl) <|
  am_fc (ok_getR cl_9 (by decide) rfl dX10_first_27 w2_5 rfl) <|
  am_fc (ok_iload_n dX10_first_30 rfl rfl) <|
  am_fc (ok_aald (by decide) (by decide) dX10_first_31 rfl) <|
  am_fc (ok_getI cl_4 (by decide) rfl dX10_first_32 w1_205 rfl) <|
  am_fc (ok_iload_n dX10_first_35 rfl rfl) <|
  am_fc (ok_invV (i := ii_X10_agreesAtSomeHour) rfl (Or.inr ⟨_, rfl, by decide, rfl⟩) mm_X10_agreesAtSomeHour dX10_first_36 w4_28 rfl) <|
  am_fc (ok_ifeq dX10_first_39 (by decide) rfl) <|
  am_fc (ok_iload_n dX10_first_42 rfl rfl) <|
  am_fc (ok_iconst dX10_first_43 (by decide) rfl) <|
  am_fc (ok_iload_n dX10_first_44 rfl rfl) <|
  am_fc (ok_ishl dX10_first_45 rfl) <|
  am_fc (ok_ior dX10_first_46 rfl) <|
  am_fc (ok_istore_n dX10_first_47 rfl rfl) <|
  am_fc (ok_iinc dX10_first_48 (by decide) rfl) <|
  am_fc (ok_goto dX10_first_51 (by decide)) <|
  am_fc (ok_iload_n dX10_first_54 rfl rfl) <|
  am_fc (ok_iret rfl dX10_first_55) <|
  am_fn
theorem ok_cd_X10_first (l : Launch) (D : va_G) (ad : Nat → Nat) (b0 : Nat) (Hb : Heap) : ∀ q ∈ cd_X10_first, am_ok l D ad b0 Hb am_If yX10_first cX10_first 4 (some .int) q.1 q.2 := ok_cd_X10_first_0 l D ad b0 Hb
set_option maxRecDepth 100000 in
theorem ok_cd_X10_posts_0 (l : Launch) (D : va_G) (ad : Nat → Nat) (b0 : Nat) (Hb : Heap) : ∀ q ∈ cd_X10_posts_0, am_ok l D ad b0 Hb am_If yX10_posts cX10_posts 5 (some .int) q.1 q.2 :=
  am_fc (ok_iload_n dX10_posts_0 rfl rfl) <|
  am_fc (ok_iconst dX10_posts_1 (by decide) rfl) <|
  am_fc (ok_clt dX10_posts_2 (by decide) rfl) <|
  am_fc (ok_iload_n dX10_posts_5 rfl rfl) <|
  am_fc (ok_iconst dX10_posts_6 (by decide) rfl) <|
  am_fc (ok_cgt dX10_posts_7 (by decide) rfl) <|
  am_fc (ok_iload_n dX10_posts_10 rfl rfl) <|
  am_fc (ok_iconst dX10_posts_11 (by decide) rfl) <|
  am_fc (ok_invS (i := ii_X10_within) rfl mm_X10_within dX10_posts_12 w2_45 rfl) <|
  am_fc (ok_ifne dX10_posts_15 (by decide) rfl) <|
  am_fc (ok_iconst dX10_posts_18 (by decide) rfl) <|
  am_fc (ok_iret rfl dX10_posts_19) <|
  am_fc (ok_iconst dX10_posts_20 (by decide) rfl) <|
  am_fc (ok_istore_n dX10_posts_21 rfl rfl) <|
  am_fc (ok_iload_n dX10_posts_22 rfl rfl) <|
  am_fc (ok_aload_n dX10_posts_23 rfl rfl) <|
  am_fc (ok_getI cl_9 (by decide) rfl dX10_posts_24 w2_14 rfl) <|
  am_fc (ok_cge dX10_posts_27 (by decide) rfl) <|
  am_fc (ok_aload_n dX10_posts_30 rfl rfl) <|
  am_fc (ok_getR cl_9 (by decide) rfl dX10_posts_31 w2_6 rfl) <|
  am_fc (ok_aload_n dX10_posts_34 rfl rfl) <|
  am_fc (ok_getR cl_9 (by decide) rfl dX10_posts_35 w2_5 rfl) <|
  am_fc (ok_iload_n dX10_posts_38 rfl rfl) <|
  am_fc (ok_aald (by decide) (by decide) dX10_posts_39 rfl) <|
  am_fc (ok_getR cl_4 (by decide) rfl dX10_posts_40 w1_202 rfl) <|
  am_fc (ok_invV (i := ii_X7_becomeLike) rfl (Or.inr ⟨_, rfl, by decide, rfl⟩) mm_X7_becomeLike dX10_posts_43 w3_2 rfl) <|
  am_fc (ok_aload_n dX10_posts_46 rfl rfl) <|
  am_fc (ok_getR cl_9 (by decide) rfl dX10_posts_47 w2_10 rfl) <|
  am_fc (ok_iload_n dX10_posts_50 rfl rfl) <|
  am_fc (ok_invV (i := ii_X3_awaitSaying) rfl (Or.inr ⟨_, rfl, by decide, rfl⟩) mm_X3_awaitSaying dX10_posts_51 w4_36 rfl) <|
  am_fc (ok_iconst dX10_posts_54 (by decide) rfl) <|
  am_fc (ok_istore dX10_posts_55 rfl) <|
  am_fc (ok_iload dX10_posts_57 rfl) <|
  am_fc (ok_bipush dX10_posts_59 (by decide) rfl) <|
  am_fc (ok_cge dX10_posts_61 (by decide) rfl) <|
  am_fc (ok_aload_n dX10_posts_64 rfl rfl) <|
  am_fc (ok_getR cl_9 (by decide) rfl dX10_posts_65 w2_10 rfl) <|
  am_fc (ok_iload_n dX10_posts_68 rfl rfl) <|
  am_fc (ok_aload_n dX10_posts_69 rfl rfl) <|
  am_fc (ok_getR cl_9 (by decide) rfl dX10_posts_70 w2_4 rfl) <|
  am_fc (ok_aload_n dX10_posts_73 rfl rfl) <|
  am_fc (ok_getR cl_9 (by decide) rfl dX10_posts_74 w2_6 rfl) <|
  am_fc (ok_aload_n dX10_posts_77 rfl rfl) <|
  am_fc (ok_getI cl_9 (by decide) rfl dX10_posts_78 w2_15 rfl) <|
  am_fc (ok_iload dX10_posts_81 rfl) <|
  am_fc (ok_iadd dX10_posts_83 rfl) <|
  am_fc (ok_invV (i := ii_X9_passHour) rfl (Or.inr ⟨_, rfl, by decide, rfl⟩) mm_X9_passHour dX10_posts_84 w4_23 rfl) <|
  am_fc (ok_iload dX10_posts_87 rfl) <|
  am_fc (ok_invV (i := ii_X3_hear) rfl (Or.inr ⟨_, rfl, by decide, rfl⟩) mm_X3_hear dX10_posts_89 w4_40 rfl) <|
  am_fc (ok_iinc dX10_posts_92 (by decide) rfl) <|
  am_fn
set_option maxRecDepth 100000 in
theorem ok_cd_X10_posts_1 (l : Launch) (D : va_G) (ad : Nat → Nat) (b0 : Nat) (Hb : Heap) : ∀ q ∈ cd_X10_posts_1, am_ok l D ad b0 Hb am_If yX10_posts cX10_posts 5 (some .int) q.1 q.2 :=
  am_fc (ok_goto dX10_posts_95 (by decide)) <|
  am_fc (ok_iinc dX10_posts_98 (by decide) rfl) <|
  am_fc (ok_goto dX10_posts_101 (by decide)) <|
  am_fc (ok_aload_n dX10_posts_104 rfl rfl) <|
  am_fc (ok_getR cl_9 (by decide) rfl dX10_posts_105 w2_10 rfl) <|
  am_fc (ok_iload_n dX10_posts_108 rfl rfl) <|
  am_fc (ok_aload_n dX10_posts_109 rfl rfl) <|
  am_fc (ok_getI cl_9 (by decide) rfl dX10_posts_110 w2_14 rfl) <|
  am_fc (ok_invV (i := ii_X3_choose) rfl (Or.inr ⟨_, rfl, by decide, rfl⟩) mm_X3_choose dX10_posts_113 w4_46 rfl) <|
  am_fc (ok_istore_n dX10_posts_116 rfl rfl) <|
  am_fc (ok_iload_n dX10_posts_117 rfl rfl) <|
  am_fc (ok_ifne dX10_posts_118 (by decide) rfl) <|
  am_fc (ok_iload_n dX10_posts_121 rfl rfl) <|
  am_fc (ok_goto dX10_posts_122 (by decide)) <|
  am_fc (ok_aload_n dX10_posts_125 rfl rfl) <|
  am_fc (ok_getR cl_9 (by decide) rfl dX10_posts_126 w2_10 rfl) <|
  am_fc (ok_iload_n dX10_posts_129 rfl rfl) <|
  am_fc (ok_aload_n dX10_posts_130 rfl rfl) <|
  am_fc (ok_getI cl_9 (by decide) rfl dX10_posts_131 w2_14 rfl) <|
  am_fc (ok_invV (i := ii_X3_sumOf) rfl (Or.inr ⟨_, rfl, by decide, rfl⟩) mm_X3_sumOf dX10_posts_134 w4_55 rfl) <|
  am_fc (ok_iret rfl dX10_posts_137) <|
  am_fn
theorem ok_cd_X10_posts (l : Launch) (D : va_G) (ad : Nat → Nat) (b0 : Nat) (Hb : Heap) : ∀ q ∈ cd_X10_posts, am_ok l D ad b0 Hb am_If yX10_posts cX10_posts 5 (some .int) q.1 q.2 := am_fa (ok_cd_X10_posts_0 l D ad b0 Hb) (ok_cd_X10_posts_1 l D ad b0 Hb)
set_option maxRecDepth 100000 in
theorem ok_cd_X10_check_0 (l : Launch) (D : va_G) (ad : Nat → Nat) (b0 : Nat) (Hb : Heap) : ∀ q ∈ cd_X10_check_0, am_ok l D ad b0 Hb am_If yX10_check cX10_check 9 (some .int) q.1 q.2 :=
  am_fc (ok_aload_n dX10_check_0 rfl rfl) <|
  am_fc (ok_iload_n dX10_check_1 rfl rfl) <|
  am_fc (ok_invV (i := ii_X10_isSaying) rfl (Or.inr ⟨_, rfl, by decide, rfl⟩) mm_X10_isSaying dX10_check_2 w2_92 rfl) <|
  am_fc (ok_ifeq dX10_check_5 (by decide) rfl) <|
  am_fc (ok_iload_n dX10_check_8 rfl rfl) <|
  am_fc (ok_bipush dX10_check_9 (by decide) rfl) <|
  am_fc (ok_invS (i := ii_X10_within) rfl mm_X10_within dX10_check_11 w2_45 rfl) <|
  am_fc (ok_ifeq dX10_check_14 (by decide) rfl) <|
  am_fc (ok_iload_n dX10_check_17 rfl rfl) <|
  am_fc (ok_invS (i := ii_X10_isSheet) rfl mm_X10_isSheet dX10_check_18 w4_60 rfl) <|
  am_fc (ok_ifeq dX10_check_21 (by decide) rfl) <|
  am_fc (ok_iload dX10_check_24 rfl) <|
  am_fc (ok_iconst dX10_check_26 (by decide) rfl) <|
  am_fc (ok_ceq dX10_check_27 (by decide) rfl) <|
  am_fc (ok_iload dX10_check_30 rfl) <|
  am_fc (ok_iconst dX10_check_32 (by decide) rfl) <|
  am_fc (ok_ceq dX10_check_33 (by decide) rfl) <|
  am_fc (ok_iconst dX10_check_36 (by decide) rfl) <|
  am_fc (ok_iret rfl dX10_check_37) <|
  am_fc (ok_aload_n dX10_check_38 rfl rfl) <|
  am_fc (ok_getR cl_9 (by decide) rfl dX10_check_39 w2_11 rfl) <|
  am_fc (ok_iload_n dX10_check_42 rfl rfl) <|
  am_fc (ok_aald (by decide) (by decide) dX10_check_43 rfl) <|
  am_fc (ok_astore dX10_check_44 rfl) <|
  am_fc (ok_aload dX10_check_46 rfl) <|
  am_fc (ok_iload dX10_check_48 rfl) <|
  am_fc (ok_iload dX10_check_50 rfl) <|
  am_fc (ok_aload_n dX10_check_52 rfl rfl) <|
  am_fc (ok_getR cl_9 (by decide) rfl dX10_check_53 w2_4 rfl) <|
  am_fc (ok_getI cl_8 (by decide) rfl dX10_check_56 w1_41 rfl) <|
  am_fc (ok_invV (i := ii_X6_faultFor) rfl (Or.inr ⟨_, rfl, by decide, rfl⟩) mm_X6_faultFor dX10_check_59 w4_63 rfl) <|
  am_fc (ok_istore dX10_check_62 rfl) <|
  am_fc (ok_iload dX10_check_64 rfl) <|
  am_fc (ok_ifeq dX10_check_66 (by decide) rfl) <|
  am_fc (ok_iload dX10_check_69 rfl) <|
  am_fc (ok_iret rfl dX10_check_71) <|
  am_fc (ok_aload_n dX10_check_72 rfl rfl) <|
  am_fc (ok_getR cl_9 (by decide) rfl dX10_check_73 w2_6 rfl) <|
  am_fc (ok_aload_n dX10_check_76 rfl rfl) <|
  am_fc (ok_getR cl_9 (by decide) rfl dX10_check_77 w2_5 rfl) <|
  am_fc (ok_iload_n dX10_check_80 rfl rfl) <|
  am_fc (ok_aald (by decide) (by decide) dX10_check_81 rfl) <|
  am_fc (ok_getR cl_4 (by decide) rfl dX10_check_82 w1_202 rfl) <|
  am_fc (ok_invV (i := ii_X7_becomeLike) rfl (Or.inr ⟨_, rfl, by decide, rfl⟩) mm_X7_becomeLike dX10_check_85 w3_2 rfl) <|
  am_fc (ok_aload_n dX10_check_88 rfl rfl) <|
  am_fc (ok_getR cl_9 (by decide) rfl dX10_check_89 w2_4 rfl) <|
  am_fc (ok_aload_n dX10_check_92 rfl rfl) <|
  am_fc (ok_getR cl_9 (by decide) rfl dX10_check_93 w2_6 rfl) <|
  am_fc (ok_aload_n dX10_check_96 rfl rfl) <|
  am_fc (ok_getI cl_9 (by decide) rfl dX10_check_97 w2_15 rfl) <|
  am_fn
set_option maxRecDepth 100000 in
theorem ok_cd_X10_check_1 (l : Launch) (D : va_G) (ad : Nat → Nat) (b0 : Nat) (Hb : Heap) : ∀ q ∈ cd_X10_check_1, am_ok l D ad b0 Hb am_If yX10_check cX10_check 9 (some .int) q.1 q.2 :=
  am_fc (ok_iload_n dX10_check_100 rfl rfl) <|
  am_fc (ok_invV (i := ii_X9_passHours) rfl (Or.inr ⟨_, rfl, by decide, rfl⟩) mm_X9_passHours dX10_check_101 w2_149 rfl) <|
  am_fc (ok_iconst dX10_check_104 (by decide) rfl) <|
  am_fc (ok_istore dX10_check_105 rfl) <|
  am_fc (ok_iload dX10_check_107 rfl) <|
  am_fc (ok_aload_n dX10_check_109 rfl rfl) <|
  am_fc (ok_getR cl_9 (by decide) rfl dX10_check_110 w2_4 rfl) <|
  am_fc (ok_getI cl_8 (by decide) rfl dX10_check_113 w1_41 rfl) <|
  am_fc (ok_cge dX10_check_116 (by decide) rfl) <|
  am_fc (ok_aload dX10_check_119 rfl) <|
  am_fc (ok_getR cl_5 (by decide) rfl dX10_check_121 w1_232 rfl) <|
  am_fc (ok_iload dX10_check_124 rfl) <|
  am_fc (ok_iload dX10_check_126 rfl) <|
  am_fc (ok_iadd dX10_check_128 rfl) <|
  am_fc (ok_iald dX10_check_129 rfl) <|
  am_fc (ok_aload_n dX10_check_130 rfl rfl) <|
  am_fc (ok_getR cl_9 (by decide) rfl dX10_check_131 w2_6 rfl) <|
  am_fc (ok_getR cl_6 (by decide) rfl dX10_check_134 w1_68 rfl) <|
  am_fc (ok_iload dX10_check_137 rfl) <|
  am_fc (ok_iald dX10_check_139 rfl) <|
  am_fc (ok_ceq dX10_check_140 (by decide) rfl) <|
  am_fc (ok_iload dX10_check_143 rfl) <|
  am_fc (ok_iret rfl dX10_check_145) <|
  am_fc (ok_iinc dX10_check_146 (by decide) rfl) <|
  am_fc (ok_goto dX10_check_149 (by decide)) <|
  am_fc (ok_bipush dX10_check_152 (by decide) rfl) <|
  am_fc (ok_iret rfl dX10_check_154) <|
  am_fn
theorem ok_cd_X10_check (l : Launch) (D : va_G) (ad : Nat → Nat) (b0 : Nat) (Hb : Heap) : ∀ q ∈ cd_X10_check, am_ok l D ad b0 Hb am_If yX10_check cX10_check 9 (some .int) q.1 q.2 := am_fa (ok_cd_X10_check_0 l D ad b0 Hb) (ok_cd_X10_check_1 l D ad b0 Hb)
set_option maxRecDepth 100000 in
theorem ok_cd_X10_sheet_0 (l : Launch) (D : va_G) (ad : Nat → Nat) (b0 : Nat) (Hb : Heap) : ∀ q ∈ cd_X10_sheet_0, am_ok l D ad b0 Hb am_If yX10_sheet cX10_sheet 4 (some .int) q.1 q.2 :=
  am_fc (ok_iload_n dX10_sheet_0 rfl rfl) <|
  am_fc (ok_invS (i := ii_X10_isSheet) rfl mm_X10_isSheet dX10_sheet_1 w4_60 rfl) <|
  am_fc (ok_ifeq dX10_sheet_4 (by decide) rfl) <|
  am_fc (ok_iload_n dX10_sheet_7 rfl rfl) <|
  am_fc (ok_iconst dX10_sheet_8 (by decide) rfl) <|
  am_fc (ok_invS (i := ii_X10_within) rfl mm_X10_within dX10_sheet_9 w2_45 rfl) <|
  am_fc (ok_ifeq dX10_sheet_12 (by decide) rfl) <|
  am_fc (ok_iload_n dX10_sheet_15 rfl rfl) <|
  am_fc (ok_bipush dX10_sheet_16 (by decide) rfl) <|
  am_fc (ok_cle dX10_sheet_18 (by decide) rfl) <|
  am_fc (ok_iconst dX10_sheet_21 (by decide) rfl) <|
  am_fc (ok_iret rfl dX10_sheet_22) <|
  am_fc (ok_iload_n dX10_sheet_23 rfl rfl) <|
  am_fc (ok_ifge dX10_sheet_24 (by decide) rfl) <|
  am_fc (ok_bipush dX10_sheet_27 (by decide) rfl) <|
  am_fc (ok_iret rfl dX10_sheet_29) <|
  am_fc (ok_aload_n dX10_sheet_30 rfl rfl) <|
  am_fc (ok_getR cl_9 (by decide) rfl dX10_sheet_31 w2_11 rfl) <|
  am_fc (ok_iload_n dX10_sheet_34 rfl rfl) <|
  am_fc (ok_aald (by decide) (by decide) dX10_sheet_35 rfl) <|
  am_fc (ok_iload_n dX10_sheet_36 rfl rfl) <|
  am_fc (ok_iload_n dX10_sheet_37 rfl rfl) <|
  am_fc (ok_invV (i := ii_X6_hold) rfl (Or.inr ⟨_, rfl, by decide, rfl⟩) mm_X6_hold dX10_sheet_38 w4_79 rfl) <|
  am_fc (ok_iload_n dX10_sheet_41 rfl rfl) <|
  am_fc (ok_iret rfl dX10_sheet_42) <|
  am_fn
theorem ok_cd_X10_sheet (l : Launch) (D : va_G) (ad : Nat → Nat) (b0 : Nat) (Hb : Heap) : ∀ q ∈ cd_X10_sheet, am_ok l D ad b0 Hb am_If yX10_sheet cX10_sheet 4 (some .int) q.1 q.2 := ok_cd_X10_sheet_0 l D ad b0 Hb
set_option maxRecDepth 100000 in
theorem ok_cd_X10_drop_0 (l : Launch) (D : va_G) (ad : Nat → Nat) (b0 : Nat) (Hb : Heap) : ∀ q ∈ cd_X10_drop_0, am_ok l D ad b0 Hb am_If yX10_drop cX10_drop 3 (some .int) q.1 q.2 :=
  am_fc (ok_iload_n dX10_drop_0 rfl rfl) <|
  am_fc (ok_invS (i := ii_X10_isSheet) rfl mm_X10_isSheet dX10_drop_1 w4_60 rfl) <|
  am_fc (ok_ifne dX10_drop_4 (by decide) rfl) <|
  am_fc (ok_iconst dX10_drop_7 (by decide) rfl) <|
  am_fc (ok_iret rfl dX10_drop_8) <|
  am_fc (ok_aload_n dX10_drop_9 rfl rfl) <|
  am_fc (ok_getR cl_9 (by decide) rfl dX10_drop_10 w2_11 rfl) <|
  am_fc (ok_iload_n dX10_drop_13 rfl rfl) <|
  am_fc (ok_aald (by decide) (by decide) dX10_drop_14 rfl) <|
  am_fc (ok_astore_n dX10_drop_15 rfl rfl) <|
  am_fc (ok_aload_n dX10_drop_16 rfl rfl) <|
  am_fc (ok_invV (i := ii_X6_isMissing) rfl (Or.inr ⟨_, rfl, by decide, rfl⟩) mm_X6_isMissing dX10_drop_17 w4_87 rfl) <|
  am_fc (ok_ifeq dX10_drop_20 (by decide) rfl) <|
  am_fc (ok_bipush dX10_drop_23 (by decide) rfl) <|
  am_fc (ok_iret rfl dX10_drop_25) <|
  am_fc (ok_aload_n dX10_drop_26 rfl rfl) <|
  am_fc (ok_iconst dX10_drop_27 (by decide) rfl) <|
  am_fc (ok_putI cl_5 (by decide) rfl (Or.inl rfl) dX10_drop_28 w1_234 rfl) <|
  am_fc (ok_aload_n dX10_drop_31 rfl rfl) <|
  am_fc (ok_getI cl_5 (by decide) rfl dX10_drop_32 w1_236 rfl) <|
  am_fc (ok_iret rfl dX10_drop_35) <|
  am_fn
theorem ok_cd_X10_drop (l : Launch) (D : va_G) (ad : Nat → Nat) (b0 : Nat) (Hb : Heap) : ∀ q ∈ cd_X10_drop, am_ok l D ad b0 Hb am_If yX10_drop cX10_drop 3 (some .int) q.1 q.2 := ok_cd_X10_drop_0 l D ad b0 Hb
set_option maxRecDepth 100000 in
theorem ok_cd_X10_item_0 (l : Launch) (D : va_G) (ad : Nat → Nat) (b0 : Nat) (Hb : Heap) : ∀ q ∈ cd_X10_item_0, am_ok l D ad b0 Hb am_If yX10_item cX10_item 7 (some .int) q.1 q.2 :=
  am_fc (ok_iload_n dX10_item_0 rfl rfl) <|
  am_fc (ok_invS (i := ii_X10_isSheet) rfl mm_X10_isSheet dX10_item_1 w4_60 rfl) <|
  am_fc (ok_ifeq dX10_item_4 (by decide) rfl) <|
  am_fc (ok_iload_n dX10_item_7 rfl rfl) <|
  am_fc (ok_iconst dX10_item_8 (by decide) rfl) <|
  am_fc (ok_invS (i := ii_X10_within) rfl mm_X10_within dX10_item_9 w2_45 rfl) <|
  am_fc (ok_ifne dX10_item_12 (by decide) rfl) <|
  am_fc (ok_iconst dX10_item_15 (by decide) rfl) <|
  am_fc (ok_iret rfl dX10_item_16) <|
  am_fc (ok_aload_n dX10_item_17 rfl rfl) <|
  am_fc (ok_getR cl_9 (by decide) rfl dX10_item_18 w2_11 rfl) <|
  am_fc (ok_iload_n dX10_item_21 rfl rfl) <|
  am_fc (ok_aald (by decide) (by decide) dX10_item_22 rfl) <|
  am_fc (ok_astore dX10_item_23 rfl) <|
  am_fc (ok_aload dX10_item_25 rfl) <|
  am_fc (ok_iload_n dX10_item_27 rfl rfl) <|
  am_fc (ok_iload_n dX10_item_28 rfl rfl) <|
  am_fc (ok_iconst dX10_item_29 (by decide) rfl) <|
  am_fc (ok_invV (i := ii_X6_faultFor) rfl (Or.inr ⟨_, rfl, by decide, rfl⟩) mm_X6_faultFor dX10_item_30 w4_63 rfl) <|
  am_fc (ok_istore dX10_item_33 rfl) <|
  am_fc (ok_iload dX10_item_35 rfl) <|
  am_fc (ok_ifeq dX10_item_37 (by decide) rfl) <|
  am_fc (ok_iload dX10_item_40 rfl) <|
  am_fc (ok_iret rfl dX10_item_42) <|
  am_fc (ok_aload dX10_item_43 rfl) <|
  am_fc (ok_getR cl_5 (by decide) rfl dX10_item_45 w1_232 rfl) <|
  am_fc (ok_iload_n dX10_item_48 rfl rfl) <|
  am_fc (ok_iload_n dX10_item_49 rfl rfl) <|
  am_fc (ok_iload dX10_item_50 rfl) <|
  am_fc (ok_invS (i := ii_X6_asItem) rfl mm_X6_asItem dX10_item_52 w4_92 rfl) <|
  am_fc (ok_iast dX10_item_55 rfl) <|
  am_fc (ok_iconst dX10_item_56 (by decide) rfl) <|
  am_fc (ok_iret rfl dX10_item_57) <|
  am_fn
theorem ok_cd_X10_item (l : Launch) (D : va_G) (ad : Nat → Nat) (b0 : Nat) (Hb : Heap) : ∀ q ∈ cd_X10_item, am_ok l D ad b0 Hb am_If yX10_item cX10_item 7 (some .int) q.1 q.2 := ok_cd_X10_item_0 l D ad b0 Hb
set_option maxRecDepth 100000 in
theorem ok_cd_X10_copy_0 (l : Launch) (D : va_G) (ad : Nat → Nat) (b0 : Nat) (Hb : Heap) : ∀ q ∈ cd_X10_copy_0, am_ok l D ad b0 Hb am_If yX10_copy cX10_copy 8 (some .int) q.1 q.2 :=
  am_fc (ok_iload_n dX10_copy_0 rfl rfl) <|
  am_fc (ok_invS (i := ii_X10_isSheet) rfl mm_X10_isSheet dX10_copy_1 w4_60 rfl) <|
  am_fc (ok_ifeq dX10_copy_4 (by decide) rfl) <|
  am_fc (ok_iload_n dX10_copy_7 rfl rfl) <|
  am_fc (ok_invS (i := ii_X10_isSheet) rfl mm_X10_isSheet dX10_copy_8 w4_60 rfl) <|
  am_fc (ok_ifne dX10_copy_11 (by decide) rfl) <|
  am_fc (ok_iconst dX10_copy_14 (by decide) rfl) <|
  am_fc (ok_iret rfl dX10_copy_15) <|
  am_fc (ok_aload_n dX10_copy_16 rfl rfl) <|
  am_fc (ok_getR cl_9 (by decide) rfl dX10_copy_17 w2_11 rfl) <|
  am_fc (ok_iload_n dX10_copy_20 rfl rfl) <|
  am_fc (ok_aald (by decide) (by decide) dX10_copy_21 rfl) <|
  am_fc (ok_astore dX10_copy_22 rfl) <|
  am_fc (ok_aload_n dX10_copy_24 rfl rfl) <|
  am_fc (ok_getR cl_9 (by decide) rfl dX10_copy_25 w2_11 rfl) <|
  am_fc (ok_iload_n dX10_copy_28 rfl rfl) <|
  am_fc (ok_aald (by decide) (by decide) dX10_copy_29 rfl) <|
  am_fc (ok_astore dX10_copy_30 rfl) <|
  am_fc (ok_aload dX10_copy_32 rfl) <|
  am_fc (ok_invV (i := ii_X6_isMissing) rfl (Or.inr ⟨_, rfl, by decide, rfl⟩) mm_X6_isMissing dX10_copy_34 w4_87 rfl) <|
  am_fc (ok_ifne dX10_copy_37 (by decide) rfl) <|
  am_fc (ok_aload dX10_copy_40 rfl) <|
  am_fc (ok_invV (i := ii_X6_isMissing) rfl (Or.inr ⟨_, rfl, by decide, rfl⟩) mm_X6_isMissing dX10_copy_42 w4_87 rfl) <|
  am_fc (ok_ifeq dX10_copy_45 (by decide) rfl) <|
  am_fc (ok_bipush dX10_copy_48 (by decide) rfl) <|
  am_fc (ok_iret rfl dX10_copy_50) <|
  am_fc (ok_aload dX10_copy_51 rfl) <|
  am_fc (ok_getI cl_5 (by decide) rfl dX10_copy_53 w1_234 rfl) <|
  am_fc (ok_aload dX10_copy_56 rfl) <|
  am_fc (ok_getI cl_5 (by decide) rfl dX10_copy_58 w1_234 rfl) <|
  am_fc (ok_ceq dX10_copy_61 (by decide) rfl) <|
  am_fc (ok_bipush dX10_copy_64 (by decide) rfl) <|
  am_fc (ok_iret rfl dX10_copy_66) <|
  am_fc (ok_iload dX10_copy_67 rfl) <|
  am_fc (ok_iflt dX10_copy_69 (by decide) rfl) <|
  am_fc (ok_aload dX10_copy_72 rfl) <|
  am_fc (ok_iload_n dX10_copy_74 rfl rfl) <|
  am_fc (ok_iload dX10_copy_75 rfl) <|
  am_fc (ok_invV (i := ii_X6_spans) rfl (Or.inr ⟨_, rfl, by decide, rfl⟩) mm_X6_spans dX10_copy_77 w4_99 rfl) <|
  am_fc (ok_ifeq dX10_copy_80 (by decide) rfl) <|
  am_fc (ok_aload dX10_copy_83 rfl) <|
  am_fc (ok_iload dX10_copy_85 rfl) <|
  am_fc (ok_iload dX10_copy_87 rfl) <|
  am_fc (ok_invV (i := ii_X6_spans) rfl (Or.inr ⟨_, rfl, by decide, rfl⟩) mm_X6_spans dX10_copy_89 w4_99 rfl) <|
  am_fc (ok_ifne dX10_copy_92 (by decide) rfl) <|
  am_fc (ok_bipush dX10_copy_95 (by decide) rfl) <|
  am_fc (ok_iret rfl dX10_copy_97) <|
  am_fc (ok_aload dX10_copy_98 rfl) <|
  am_fc (ok_getR cl_5 (by decide) rfl dX10_copy_100 w1_232 rfl) <|
  am_fc (ok_iload_n dX10_copy_103 rfl rfl) <|
  am_fn
set_option maxRecDepth 100000 in
theorem ok_cd_X10_copy_1 (l : Launch) (D : va_G) (ad : Nat → Nat) (b0 : Nat) (Hb : Heap) : ∀ q ∈ cd_X10_copy_1, am_ok l D ad b0 Hb am_If yX10_copy cX10_copy 8 (some .int) q.1 q.2 :=
  am_fc (ok_aload dX10_copy_104 rfl) <|
  am_fc (ok_getR cl_5 (by decide) rfl dX10_copy_106 w1_232 rfl) <|
  am_fc (ok_iload dX10_copy_109 rfl) <|
  am_fc (ok_iload dX10_copy_111 rfl) <|
  am_fc (ok_acpy dX10_copy_113 w4_100 w4_102 w4_101 w1_20 rfl) <|
  am_fc (ok_iload dX10_copy_116 rfl) <|
  am_fc (ok_iret rfl dX10_copy_118) <|
  am_fn
theorem ok_cd_X10_copy (l : Launch) (D : va_G) (ad : Nat → Nat) (b0 : Nat) (Hb : Heap) : ∀ q ∈ cd_X10_copy, am_ok l D ad b0 Hb am_If yX10_copy cX10_copy 8 (some .int) q.1 q.2 := am_fa (ok_cd_X10_copy_0 l D ad b0 Hb) (ok_cd_X10_copy_1 l D ad b0 Hb)
set_option maxRecDepth 100000 in
theorem ok_cd_X10_reads_0 (l : Launch) (D : va_G) (ad : Nat → Nat) (b0 : Nat) (Hb : Heap) : ∀ q ∈ cd_X10_reads_0, am_ok l D ad b0 Hb am_If yX10_reads cX10_reads 7 (some .int) q.1 q.2 :=
  am_fc (ok_iload_n dX10_reads_0 rfl rfl) <|
  am_fc (ok_invS (i := ii_X10_isSheet) rfl mm_X10_isSheet dX10_reads_1 w4_60 rfl) <|
  am_fc (ok_ifne dX10_reads_4 (by decide) rfl) <|
  am_fc (ok_iconst dX10_reads_7 (by decide) rfl) <|
  am_fc (ok_iret rfl dX10_reads_8) <|
  am_fc (ok_aload_n dX10_reads_9 rfl rfl) <|
  am_fc (ok_getR cl_9 (by decide) rfl dX10_reads_10 w2_11 rfl) <|
  am_fc (ok_iload_n dX10_reads_13 rfl rfl) <|
  am_fc (ok_aald (by decide) (by decide) dX10_reads_14 rfl) <|
  am_fc (ok_astore_n dX10_reads_15 rfl rfl) <|
  am_fc (ok_aload_n dX10_reads_16 rfl rfl) <|
  am_fc (ok_iconst dX10_reads_17 (by decide) rfl) <|
  am_fc (ok_iload_n dX10_reads_18 rfl rfl) <|
  am_fc (ok_aload_n dX10_reads_19 rfl rfl) <|
  am_fc (ok_getR cl_9 (by decide) rfl dX10_reads_20 w2_4 rfl) <|
  am_fc (ok_getI cl_8 (by decide) rfl dX10_reads_23 w1_41 rfl) <|
  am_fc (ok_invV (i := ii_X6_faultFor) rfl (Or.inr ⟨_, rfl, by decide, rfl⟩) mm_X6_faultFor dX10_reads_26 w4_63 rfl) <|
  am_fc (ok_istore dX10_reads_29 rfl) <|
  am_fc (ok_iload dX10_reads_31 rfl) <|
  am_fc (ok_ifeq dX10_reads_33 (by decide) rfl) <|
  am_fc (ok_iload dX10_reads_36 rfl) <|
  am_fc (ok_iret rfl dX10_reads_38) <|
  am_fc (ok_iconst dX10_reads_39 (by decide) rfl) <|
  am_fc (ok_istore dX10_reads_40 rfl) <|
  am_fc (ok_iconst dX10_reads_42 (by decide) rfl) <|
  am_fc (ok_istore dX10_reads_43 rfl) <|
  am_fc (ok_iload dX10_reads_45 rfl) <|
  am_fc (ok_aload_n dX10_reads_47 rfl rfl) <|
  am_fc (ok_getR cl_9 (by decide) rfl dX10_reads_48 w2_4 rfl) <|
  am_fc (ok_getI cl_8 (by decide) rfl dX10_reads_51 w1_41 rfl) <|
  am_fc (ok_cge dX10_reads_54 (by decide) rfl) <|
  am_fc (ok_aload_n dX10_reads_57 rfl rfl) <|
  am_fc (ok_getR cl_9 (by decide) rfl dX10_reads_58 w2_4 rfl) <|
  am_fc (ok_getR cl_8 (by decide) rfl dX10_reads_61 w1_38 rfl) <|
  am_fc (ok_iconst dX10_reads_64 (by decide) rfl) <|
  am_fc (ok_aald (by decide) (by decide) dX10_reads_65 rfl) <|
  am_fc (ok_iload dX10_reads_66 rfl) <|
  am_fc (ok_aload_n dX10_reads_68 rfl rfl) <|
  am_fc (ok_getR cl_5 (by decide) rfl dX10_reads_69 w1_232 rfl) <|
  am_fc (ok_iload_n dX10_reads_72 rfl rfl) <|
  am_fc (ok_iload dX10_reads_73 rfl) <|
  am_fc (ok_iadd dX10_reads_75 rfl) <|
  am_fc (ok_iald dX10_reads_76 rfl) <|
  am_fc (ok_iast dX10_reads_77 rfl) <|
  am_fc (ok_iload dX10_reads_78 rfl) <|
  am_fc (ok_aload_n dX10_reads_80 rfl rfl) <|
  am_fc (ok_getR cl_5 (by decide) rfl dX10_reads_81 w1_232 rfl) <|
  am_fc (ok_iload_n dX10_reads_84 rfl rfl) <|
  am_fc (ok_iload dX10_reads_85 rfl) <|
  am_fc (ok_iadd dX10_reads_87 rfl) <|
  am_fn
set_option maxRecDepth 100000 in
theorem ok_cd_X10_reads_1 (l : Launch) (D : va_G) (ad : Nat → Nat) (b0 : Nat) (Hb : Heap) : ∀ q ∈ cd_X10_reads_1, am_ok l D ad b0 Hb am_If yX10_reads cX10_reads 7 (some .int) q.1 q.2 :=
  am_fc (ok_iald dX10_reads_88 rfl) <|
  am_fc (ok_iadd dX10_reads_89 rfl) <|
  am_fc (ok_istore dX10_reads_90 rfl) <|
  am_fc (ok_iinc dX10_reads_92 (by decide) rfl) <|
  am_fc (ok_goto dX10_reads_95 (by decide)) <|
  am_fc (ok_iload dX10_reads_98 rfl) <|
  am_fc (ok_iret rfl dX10_reads_100) <|
  am_fn
theorem ok_cd_X10_reads (l : Launch) (D : va_G) (ad : Nat → Nat) (b0 : Nat) (Hb : Heap) : ∀ q ∈ cd_X10_reads, am_ok l D ad b0 Hb am_If yX10_reads cX10_reads 7 (some .int) q.1 q.2 := am_fa (ok_cd_X10_reads_0 l D ad b0 Hb) (ok_cd_X10_reads_1 l D ad b0 Hb)
set_option maxRecDepth 100000 in
theorem ok_cd_X10_within_0 (l : Launch) (D : va_G) (ad : Nat → Nat) (b0 : Nat) (Hb : Heap) : ∀ q ∈ cd_X10_within_0, am_ok l D ad b0 Hb am_If yX10_within cX10_within 2 (some .boolean) q.1 q.2 :=
  am_fc (ok_iload_n dX10_within_0 rfl rfl) <|
  am_fc (ok_iflt dX10_within_1 (by decide) rfl) <|
  am_fc (ok_iload_n dX10_within_4 rfl rfl) <|
  am_fc (ok_iload_n dX10_within_5 rfl rfl) <|
  am_fc (ok_cgt dX10_within_6 (by decide) rfl) <|
  am_fc (ok_iconst dX10_within_9 (by decide) rfl) <|
  am_fc (ok_goto dX10_within_10 (by decide)) <|
  am_fc (ok_iconst dX10_within_13 (by decide) rfl) <|
  am_fc (ok_zret rfl dX10_within_14) <|
  am_fn
theorem ok_cd_X10_within (l : Launch) (D : va_G) (ad : Nat → Nat) (b0 : Nat) (Hb : Heap) : ∀ q ∈ cd_X10_within, am_ok l D ad b0 Hb am_If yX10_within cX10_within 2 (some .boolean) q.1 q.2 := ok_cd_X10_within_0 l D ad b0 Hb
set_option maxRecDepth 100000 in
theorem ok_cd_X10_has_0 (l : Launch) (D : va_G) (ad : Nat → Nat) (b0 : Nat) (Hb : Heap) : ∀ q ∈ cd_X10_has_0, am_ok l D ad b0 Hb am_If yX10_has cX10_has 2 (some .boolean) q.1 q.2 :=
  am_fc (ok_iload_n dX10_has_0 rfl rfl) <|
  am_fc (ok_iload_n dX10_has_1 rfl rfl) <|
  am_fc (ok_ishr dX10_has_2 rfl) <|
  am_fc (ok_iconst dX10_has_3 (by decide) rfl) <|
  am_fc (ok_iand dX10_has_4 rfl) <|
  am_fc (ok_iconst dX10_has_5 (by decide) rfl) <|
  am_fc (ok_cne dX10_has_6 (by decide) rfl) <|
  am_fc (ok_iconst dX10_has_9 (by decide) rfl) <|
  am_fc (ok_goto dX10_has_10 (by decide)) <|
  am_fc (ok_iconst dX10_has_13 (by decide) rfl) <|
  am_fc (ok_zret rfl dX10_has_14) <|
  am_fn
theorem ok_cd_X10_has (l : Launch) (D : va_G) (ad : Nat → Nat) (b0 : Nat) (Hb : Heap) : ∀ q ∈ cd_X10_has, am_ok l D ad b0 Hb am_If yX10_has cX10_has 2 (some .boolean) q.1 q.2 := ok_cd_X10_has_0 l D ad b0 Hb
set_option maxRecDepth 100000 in
theorem ok_cd_X10_byteOf_0 (l : Launch) (D : va_G) (ad : Nat → Nat) (b0 : Nat) (Hb : Heap) : ∀ q ∈ cd_X10_byteOf_0, am_ok l D ad b0 Hb am_If yX10_byteOf cX10_byteOf 3 (some .int) q.1 q.2 :=
  am_fc (ok_lload_n dX10_byteOf_0 rfl rfl) <|
  am_fc (ok_bipush dX10_byteOf_1 (by decide) rfl) <|
  am_fc (ok_iload_n dX10_byteOf_3 rfl rfl) <|
  am_fc (ok_imul dX10_byteOf_4 rfl) <|
  am_fc (ok_lushr dX10_byteOf_5 rfl) <|
  am_fc (ok_l2i dX10_byteOf_6 rfl) <|
  am_fc (ok_sipush dX10_byteOf_7 (by decide) rfl) <|
  am_fc (ok_iand dX10_byteOf_10 rfl) <|
  am_fc (ok_iret rfl dX10_byteOf_11) <|
  am_fn
theorem ok_cd_X10_byteOf (l : Launch) (D : va_G) (ad : Nat → Nat) (b0 : Nat) (Hb : Heap) : ∀ q ∈ cd_X10_byteOf, am_ok l D ad b0 Hb am_If yX10_byteOf cX10_byteOf 3 (some .int) q.1 q.2 := ok_cd_X10_byteOf_0 l D ad b0 Hb
set_option maxRecDepth 100000 in
theorem ok_cd_X10_areParts_0 (l : Launch) (D : va_G) (ad : Nat → Nat) (b0 : Nat) (Hb : Heap) : ∀ q ∈ cd_X10_areParts_0, am_ok l D ad b0 Hb am_If yX10_areParts cX10_areParts 4 (some .boolean) q.1 q.2 :=
  am_fc (ok_iload_n dX10_areParts_0 rfl rfl) <|
  am_fc (ok_bipush dX10_areParts_1 (by decide) rfl) <|
  am_fc (ok_invS (i := ii_X10_within) rfl mm_X10_within dX10_areParts_3 w2_45 rfl) <|
  am_fc (ok_ifeq dX10_areParts_6 (by decide) rfl) <|
  am_fc (ok_iload_n dX10_areParts_9 rfl rfl) <|
  am_fc (ok_bipush dX10_areParts_10 (by decide) rfl) <|
  am_fc (ok_invS (i := ii_X10_within) rfl mm_X10_within dX10_areParts_12 w2_45 rfl) <|
  am_fc (ok_ifeq dX10_areParts_15 (by decide) rfl) <|
  am_fc (ok_iload_n dX10_areParts_18 rfl rfl) <|
  am_fc (ok_bipush dX10_areParts_19 (by decide) rfl) <|
  am_fc (ok_invS (i := ii_X10_within) rfl mm_X10_within dX10_areParts_21 w2_45 rfl) <|
  am_fc (ok_ifeq dX10_areParts_24 (by decide) rfl) <|
  am_fc (ok_iload_n dX10_areParts_27 rfl rfl) <|
  am_fc (ok_bipush dX10_areParts_28 (by decide) rfl) <|
  am_fc (ok_invS (i := ii_X10_within) rfl mm_X10_within dX10_areParts_30 w2_45 rfl) <|
  am_fc (ok_ifeq dX10_areParts_33 (by decide) rfl) <|
  am_fc (ok_iconst dX10_areParts_36 (by decide) rfl) <|
  am_fc (ok_goto dX10_areParts_37 (by decide)) <|
  am_fc (ok_iconst dX10_areParts_40 (by decide) rfl) <|
  am_fc (ok_zret rfl dX10_areParts_41) <|
  am_fn
theorem ok_cd_X10_areParts (l : Launch) (D : va_G) (ad : Nat → Nat) (b0 : Nat) (Hb : Heap) : ∀ q ∈ cd_X10_areParts, am_ok l D ad b0 Hb am_If yX10_areParts cX10_areParts 4 (some .boolean) q.1 q.2 := ok_cd_X10_areParts_0 l D ad b0 Hb
