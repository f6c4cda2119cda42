set_option maxRecDepth 100000 in
theorem ok_cd_X11_harm_0 (l : Launch) (D : va_G) (ad : Nat → Nat) (b0 : Nat) (Hb : Heap) : ∀ q ∈ cd_X11_harm_0, am_ok l D ad b0 Hb am_If yX11_harm cX11_harm 2 (some .int) q.1 q.2 :=
  am_fc (ok_aload_n dX11_harm_0 rfl rfl) <|
  am_fc (ok_iload_n dX11_harm_1 rfl rfl) <|
  am_fc (ok_invV (i := ii_X11_isSaying) rfl (Or.inr ⟨_, rfl, by decide, rfl⟩) mm_X11_isSaying dX11_harm_2 w5_80 rfl) <|
  am_fc (ok_ifeq dX11_harm_5 (by decide) rfl) <|
  am_fc (ok_aload_n dX11_harm_8 rfl rfl) <|
  am_fc (ok_iload_n dX11_harm_9 rfl rfl) <|
  am_fc (ok_invV (i := ii_X11_harmOf) rfl (Or.inr ⟨_, rfl, by decide, rfl⟩) mm_X11_harmOf dX11_harm_10 w5_164 rfl) <|
  am_fc (ok_goto dX11_harm_13 (by decide)) <|
  am_fc (ok_iconst dX11_harm_16 (by decide) rfl) <|
  am_fc (ok_iret rfl dX11_harm_17) <|
  am_fn
theorem ok_cd_X11_harm (l : Launch) (D : va_G) (ad : Nat → Nat) (b0 : Nat) (Hb : Heap) : ∀ q ∈ cd_X11_harm, am_ok l D ad b0 Hb am_If yX11_harm cX11_harm 2 (some .int) q.1 q.2 := ok_cd_X11_harm_0 l D ad b0 Hb
set_option maxRecDepth 100000 in
theorem ok_cd_X11_denies_0 (l : Launch) (D : va_G) (ad : Nat → Nat) (b0 : Nat) (Hb : Heap) : ∀ q ∈ cd_X11_denies_0, am_ok l D ad b0 Hb am_If yX11_denies cX11_denies 9 (some .int) q.1 q.2 :=
  am_fc (ok_iload_n dX11_denies_0 rfl rfl) <|
  am_fc (ok_ifne dX11_denies_1 (by decide) rfl) <|
  am_fc (ok_iconst dX11_denies_4 (by decide) rfl) <|
  am_fc (ok_goto dX11_denies_5 (by decide)) <|
  am_fc (ok_iload_n dX11_denies_8 rfl rfl) <|
  am_fc (ok_iconst dX11_denies_9 (by decide) rfl) <|
  am_fc (ok_cne dX11_denies_10 (by decide) rfl) <|
  am_fc (ok_iconst dX11_denies_13 (by decide) rfl) <|
  am_fc (ok_goto dX11_denies_14 (by decide)) <|
  am_fc (ok_iconst dX11_denies_17 (by decide) rfl) <|
  am_fc (ok_istore_n dX11_denies_18 rfl rfl) <|
  am_fc (ok_iconst dX11_denies_19 (by decide) rfl) <|
  am_fc (ok_istore dX11_denies_20 rfl) <|
  am_fc (ok_iconst dX11_denies_22 (by decide) rfl) <|
  am_fc (ok_istore dX11_denies_23 rfl) <|
  am_fc (ok_iload dX11_denies_25 rfl) <|
  am_fc (ok_aload_n dX11_denies_27 rfl rfl) <|
  am_fc (ok_getI cl_10 (by decide) rfl dX11_denies_28 w4_113 rfl) <|
  am_fc (ok_cge dX11_denies_31 (by decide) rfl) <|
  am_fc (ok_bipush dX11_denies_34 (by decide) rfl) <|
  am_fc (ok_iload dX11_denies_36 rfl) <|
  am_fc (ok_imul dX11_denies_38 rfl) <|
  am_fc (ok_iload_n dX11_denies_39 rfl rfl) <|
  am_fc (ok_iadd dX11_denies_40 rfl) <|
  am_fc (ok_istore dX11_denies_41 rfl) <|
  am_fc (ok_aload_n dX11_denies_43 rfl rfl) <|
  am_fc (ok_getR cl_10 (by decide) rfl dX11_denies_44 w4_125 rfl) <|
  am_fc (ok_iload dX11_denies_47 rfl) <|
  am_fc (ok_iald dX11_denies_49 rfl) <|
  am_fc (ok_istore dX11_denies_50 rfl) <|
  am_fc (ok_iload dX11_denies_52 rfl) <|
  am_fc (ok_ifeq dX11_denies_54 (by decide) rfl) <|
  am_fc (ok_iload dX11_denies_57 rfl) <|
  am_fc (ok_iconst dX11_denies_59 (by decide) rfl) <|
  am_fc (ok_cne dX11_denies_60 (by decide) rfl) <|
  am_fc (ok_iconst dX11_denies_63 (by decide) rfl) <|
  am_fc (ok_goto dX11_denies_64 (by decide)) <|
  am_fc (ok_iconst dX11_denies_67 (by decide) rfl) <|
  am_fc (ok_istore dX11_denies_68 rfl) <|
  am_fc (ok_aload_n dX11_denies_70 rfl rfl) <|
  am_fc (ok_iload dX11_denies_71 rfl) <|
  am_fc (ok_invV (i := ii_X11_isReader) rfl (Or.inr ⟨_, rfl, by decide, rfl⟩) mm_X11_isReader dX11_denies_73 w5_181 rfl) <|
  am_fc (ok_ifeq dX11_denies_76 (by decide) rfl) <|
  am_fc (ok_iload dX11_denies_79 rfl) <|
  am_fc (ok_ifeq dX11_denies_81 (by decide) rfl) <|
  am_fc (ok_iload_n dX11_denies_84 rfl rfl) <|
  am_fc (ok_iconst dX11_denies_85 (by decide) rfl) <|
  am_fc (ok_ceq dX11_denies_86 (by decide) rfl) <|
  am_fc (ok_iload dX11_denies_89 rfl) <|
  am_fc (ok_ifeq dX11_denies_91 (by decide) rfl) <|
  am_fn
set_option maxRecDepth 100000 in
theorem ok_cd_X11_denies_1 (l : Launch) (D : va_G) (ad : Nat → Nat) (b0 : Nat) (Hb : Heap) : ∀ q ∈ cd_X11_denies_1, am_ok l D ad b0 Hb am_If yX11_denies cX11_denies 9 (some .int) q.1 q.2 :=
  am_fc (ok_aload_n dX11_denies_94 rfl rfl) <|
  am_fc (ok_iload dX11_denies_95 rfl) <|
  am_fc (ok_bipush dX11_denies_97 (by decide) rfl) <|
  am_fc (ok_aload_n dX11_denies_99 rfl rfl) <|
  am_fc (ok_iload dX11_denies_100 rfl) <|
  am_fc (ok_invV (i := ii_X11_fear) rfl (Or.inr ⟨_, rfl, by decide, rfl⟩) mm_X11_fear dX11_denies_102 w5_139 rfl) <|
  am_fc (ok_imul dX11_denies_105 rfl) <|
  am_fc (ok_aload_n dX11_denies_106 rfl rfl) <|
  am_fc (ok_iload dX11_denies_107 rfl) <|
  am_fc (ok_invV (i := ii_X11_trust) rfl (Or.inr ⟨_, rfl, by decide, rfl⟩) mm_X11_trust dX11_denies_109 w5_185 rfl) <|
  am_fc (ok_cle dX11_denies_112 (by decide) rfl) <|
  am_fc (ok_iconst dX11_denies_115 (by decide) rfl) <|
  am_fc (ok_goto dX11_denies_116 (by decide)) <|
  am_fc (ok_iconst dX11_denies_119 (by decide) rfl) <|
  am_fc (ok_aload_n dX11_denies_120 rfl rfl) <|
  am_fc (ok_getR cl_10 (by decide) rfl dX11_denies_121 w4_119 rfl) <|
  am_fc (ok_iload_n dX11_denies_124 rfl rfl) <|
  am_fc (ok_iald dX11_denies_125 rfl) <|
  am_fc (ok_bipush dX11_denies_126 (by decide) rfl) <|
  am_fc (ok_invV (i := ii_X11_takes) rfl (Or.inr ⟨_, rfl, by decide, rfl⟩) mm_X11_takes dX11_denies_128 w5_110 rfl) <|
  am_fc (ok_goto dX11_denies_131 (by decide)) <|
  am_fc (ok_iload dX11_denies_134 rfl) <|
  am_fc (ok_iconst dX11_denies_136 (by decide) rfl) <|
  am_fc (ok_cne dX11_denies_137 (by decide) rfl) <|
  am_fc (ok_aload_n dX11_denies_140 rfl rfl) <|
  am_fc (ok_iload dX11_denies_141 rfl) <|
  am_fc (ok_invV (i := ii_X11_trust) rfl (Or.inr ⟨_, rfl, by decide, rfl⟩) mm_X11_trust dX11_denies_143 w5_185 rfl) <|
  am_fc (ok_iload_n dX11_denies_146 rfl rfl) <|
  am_fc (ok_imul dX11_denies_147 rfl) <|
  am_fc (ok_bipush dX11_denies_148 (by decide) rfl) <|
  am_fc (ok_aload_n dX11_denies_150 rfl rfl) <|
  am_fc (ok_iload dX11_denies_151 rfl) <|
  am_fc (ok_invV (i := ii_X11_fear) rfl (Or.inr ⟨_, rfl, by decide, rfl⟩) mm_X11_fear dX11_denies_153 w5_139 rfl) <|
  am_fc (ok_imul dX11_denies_156 rfl) <|
  am_fc (ok_cle dX11_denies_157 (by decide) rfl) <|
  am_fc (ok_aload_n dX11_denies_160 rfl rfl) <|
  am_fc (ok_iload dX11_denies_161 rfl) <|
  am_fc (ok_iconst dX11_denies_163 (by decide) rfl) <|
  am_fc (ok_invV (i := ii_X11_becomes) rfl (Or.inr ⟨_, rfl, by decide, rfl⟩) mm_X11_becomes dX11_denies_164 w5_147 rfl) <|
  am_fc (ok_aload_n dX11_denies_167 rfl rfl) <|
  am_fc (ok_getR cl_10 (by decide) rfl dX11_denies_168 w4_129 rfl) <|
  am_fc (ok_iload dX11_denies_171 rfl) <|
  am_fc (ok_aload_n dX11_denies_173 rfl rfl) <|
  am_fc (ok_getI cl_10 (by decide) rfl dX11_denies_174 w4_116 rfl) <|
  am_fc (ok_iast dX11_denies_177 rfl) <|
  am_fc (ok_iload dX11_denies_178 rfl) <|
  am_fc (ok_aload_n dX11_denies_180 rfl rfl) <|
  am_fc (ok_getR cl_10 (by decide) rfl dX11_denies_181 w4_125 rfl) <|
  am_fc (ok_iload dX11_denies_184 rfl) <|
  am_fc (ok_iald dX11_denies_186 rfl) <|
  am_fn
set_option maxRecDepth 100000 in
theorem ok_cd_X11_denies_2 (l : Launch) (D : va_G) (ad : Nat → Nat) (b0 : Nat) (Hb : Heap) : ∀ q ∈ cd_X11_denies_2, am_ok l D ad b0 Hb am_If yX11_denies cX11_denies 9 (some .int) q.1 q.2 :=
  am_fc (ok_iload dX11_denies_187 rfl) <|
  am_fc (ok_cne dX11_denies_189 (by decide) rfl) <|
  am_fc (ok_iconst dX11_denies_192 (by decide) rfl) <|
  am_fc (ok_goto dX11_denies_193 (by decide)) <|
  am_fc (ok_iconst dX11_denies_196 (by decide) rfl) <|
  am_fc (ok_iadd dX11_denies_197 rfl) <|
  am_fc (ok_istore dX11_denies_198 rfl) <|
  am_fc (ok_iinc dX11_denies_200 (by decide) rfl) <|
  am_fc (ok_goto dX11_denies_203 (by decide)) <|
  am_fc (ok_aload_n dX11_denies_206 rfl rfl) <|
  am_fc (ok_getR cl_10 (by decide) rfl dX11_denies_207 w4_123 rfl) <|
  am_fc (ok_iload_n dX11_denies_210 rfl rfl) <|
  am_fc (ok_dup2 dX11_denies_211 rfl) <|
  am_fc (ok_iald dX11_denies_212 rfl) <|
  am_fc (ok_iconst dX11_denies_213 (by decide) rfl) <|
  am_fc (ok_iadd dX11_denies_214 rfl) <|
  am_fc (ok_iast dX11_denies_215 rfl) <|
  am_fc (ok_iload dX11_denies_216 rfl) <|
  am_fc (ok_iret rfl dX11_denies_218) <|
  am_fn
theorem ok_cd_X11_denies (l : Launch) (D : va_G) (ad : Nat → Nat) (b0 : Nat) (Hb : Heap) : ∀ q ∈ cd_X11_denies, am_ok l D ad b0 Hb am_If yX11_denies cX11_denies 9 (some .int) q.1 q.2 := am_fa (ok_cd_X11_denies_0 l D ad b0 Hb) (am_fa (ok_cd_X11_denies_1 l D ad b0 Hb) (ok_cd_X11_denies_2 l D ad b0 Hb))
set_option maxRecDepth 100000 in
theorem ok_cd_X11_mayBeDenied_0 (l : Launch) (D : va_G) (ad : Nat → Nat) (b0 : Nat) (Hb : Heap) : ∀ q ∈ cd_X11_mayBeDenied_0, am_ok l D ad b0 Hb am_If yX11_mayBeDenied cX11_mayBeDenied 2 (some .boolean) q.1 q.2 :=
  am_fc (ok_aload_n dX11_mayBeDenied_0 rfl rfl) <|
  am_fc (ok_getR cl_10 (by decide) rfl dX11_mayBeDenied_1 w4_118 rfl) <|
  am_fc (ok_iload_n dX11_mayBeDenied_4 rfl rfl) <|
  am_fc (ok_iald dX11_mayBeDenied_5 rfl) <|
  am_fc (ok_iconst dX11_mayBeDenied_6 (by decide) rfl) <|
  am_fc (ok_cne dX11_mayBeDenied_7 (by decide) rfl) <|
  am_fc (ok_aload_n dX11_mayBeDenied_10 rfl rfl) <|
  am_fc (ok_getR cl_10 (by decide) rfl dX11_mayBeDenied_11 w4_122 rfl) <|
  am_fc (ok_iload_n dX11_mayBeDenied_14 rfl rfl) <|
  am_fc (ok_zald dX11_mayBeDenied_15 rfl) <|
  am_fc (ok_ifeq dX11_mayBeDenied_16 (by decide) rfl) <|
  am_fc (ok_iconst dX11_mayBeDenied_19 (by decide) rfl) <|
  am_fc (ok_goto dX11_mayBeDenied_20 (by decide)) <|
  am_fc (ok_iconst dX11_mayBeDenied_23 (by decide) rfl) <|
  am_fc (ok_zret rfl dX11_mayBeDenied_24) <|
  am_fn
theorem ok_cd_X11_mayBeDenied (l : Launch) (D : va_G) (ad : Nat → Nat) (b0 : Nat) (Hb : Heap) : ∀ q ∈ cd_X11_mayBeDenied, am_ok l D ad b0 Hb am_If yX11_mayBeDenied cX11_mayBeDenied 2 (some .boolean) q.1 q.2 := ok_cd_X11_mayBeDenied_0 l D ad b0 Hb
set_option maxRecDepth 100000 in
theorem ok_cd_X11_deny_0 (l : Launch) (D : va_G) (ad : Nat → Nat) (b0 : Nat) (Hb : Heap) : ∀ q ∈ cd_X11_deny_0, am_ok l D ad b0 Hb am_If yX11_deny cX11_deny 3 (some .int) q.1 q.2 :=
  am_fc (ok_aload_n dX11_deny_0 rfl rfl) <|
  am_fc (ok_iload_n dX11_deny_1 rfl rfl) <|
  am_fc (ok_invV (i := ii_X11_isSaying) rfl (Or.inr ⟨_, rfl, by decide, rfl⟩) mm_X11_isSaying dX11_deny_2 w5_80 rfl) <|
  am_fc (ok_ifeq dX11_deny_5 (by decide) rfl) <|
  am_fc (ok_iload_n dX11_deny_8 rfl rfl) <|
  am_fc (ok_i2l dX11_deny_9 rfl) <|
  am_fc (ok_lconst dX11_deny_10 (by decide) rfl) <|
  am_fc (ok_ldc2 dX11_deny_11 w5_172 rfl) <|
  am_fc (ok_invS (i := ii_X11_in) rfl mm_X11_in dX11_deny_14 w5_32 rfl) <|
  am_fc (ok_ifne dX11_deny_17 (by decide) rfl) <|
  am_fc (ok_iconst dX11_deny_20 (by decide) rfl) <|
  am_fc (ok_iret rfl dX11_deny_21) <|
  am_fc (ok_aload_n dX11_deny_22 rfl rfl) <|
  am_fc (ok_iload_n dX11_deny_23 rfl rfl) <|
  am_fc (ok_invV (i := ii_X11_mayBeDenied) rfl (Or.inr ⟨_, rfl, by decide, rfl⟩) mm_X11_mayBeDenied dX11_deny_24 w5_173 rfl) <|
  am_fc (ok_ifeq dX11_deny_27 (by decide) rfl) <|
  am_fc (ok_aload_n dX11_deny_30 rfl rfl) <|
  am_fc (ok_iload_n dX11_deny_31 rfl rfl) <|
  am_fc (ok_iload_n dX11_deny_32 rfl rfl) <|
  am_fc (ok_invV (i := ii_X11_denies) rfl (Or.inr ⟨_, rfl, by decide, rfl⟩) mm_X11_denies dX11_deny_33 w5_177 rfl) <|
  am_fc (ok_goto dX11_deny_36 (by decide)) <|
  am_fc (ok_bipush dX11_deny_39 (by decide) rfl) <|
  am_fc (ok_iret rfl dX11_deny_41) <|
  am_fn
theorem ok_cd_X11_deny (l : Launch) (D : va_G) (ad : Nat → Nat) (b0 : Nat) (Hb : Heap) : ∀ q ∈ cd_X11_deny, am_ok l D ad b0 Hb am_If yX11_deny cX11_deny 3 (some .int) q.1 q.2 := ok_cd_X11_deny_0 l D ad b0 Hb
set_option maxRecDepth 100000 in
theorem ok_cd_X11_found_0 (l : Launch) (D : va_G) (ad : Nat → Nat) (b0 : Nat) (Hb : Heap) : ∀ q ∈ cd_X11_found_0, am_ok l D ad b0 Hb am_If yX11_found cX11_found 5 (some .int) q.1 q.2 :=
  am_fc (ok_aload_n dX11_found_0 rfl rfl) <|
  am_fc (ok_iload_n dX11_found_1 rfl rfl) <|
  am_fc (ok_invV (i := ii_X11_isSaying) rfl (Or.inr ⟨_, rfl, by decide, rfl⟩) mm_X11_isSaying dX11_found_2 w5_80 rfl) <|
  am_fc (ok_ifne dX11_found_5 (by decide) rfl) <|
  am_fc (ok_iconst dX11_found_8 (by decide) rfl) <|
  am_fc (ok_iret rfl dX11_found_9) <|
  am_fc (ok_aload_n dX11_found_10 rfl rfl) <|
  am_fc (ok_getR cl_10 (by decide) rfl dX11_found_11 w4_118 rfl) <|
  am_fc (ok_iload_n dX11_found_14 rfl rfl) <|
  am_fc (ok_iald dX11_found_15 rfl) <|
  am_fc (ok_iconst dX11_found_16 (by decide) rfl) <|
  am_fc (ok_ceq dX11_found_17 (by decide) rfl) <|
  am_fc (ok_bipush dX11_found_20 (by decide) rfl) <|
  am_fc (ok_iret rfl dX11_found_22) <|
  am_fc (ok_aload_n dX11_found_23 rfl rfl) <|
  am_fc (ok_getR cl_10 (by decide) rfl dX11_found_24 w4_123 rfl) <|
  am_fc (ok_iload_n dX11_found_27 rfl rfl) <|
  am_fc (ok_iald dX11_found_28 rfl) <|
  am_fc (ok_istore_n dX11_found_29 rfl rfl) <|
  am_fc (ok_aload_n dX11_found_30 rfl rfl) <|
  am_fc (ok_getR cl_10 (by decide) rfl dX11_found_31 w4_123 rfl) <|
  am_fc (ok_iload_n dX11_found_34 rfl rfl) <|
  am_fc (ok_iconst dX11_found_35 (by decide) rfl) <|
  am_fc (ok_iast dX11_found_36 rfl) <|
  am_fc (ok_iconst dX11_found_37 (by decide) rfl) <|
  am_fc (ok_istore_n dX11_found_38 rfl rfl) <|
  am_fc (ok_iload_n dX11_found_39 rfl rfl) <|
  am_fc (ok_aload_n dX11_found_40 rfl rfl) <|
  am_fc (ok_getI cl_10 (by decide) rfl dX11_found_41 w4_113 rfl) <|
  am_fc (ok_cge dX11_found_44 (by decide) rfl) <|
  am_fc (ok_aload_n dX11_found_47 rfl rfl) <|
  am_fc (ok_iload_n dX11_found_48 rfl rfl) <|
  am_fc (ok_invV (i := ii_X11_trust) rfl (Or.inr ⟨_, rfl, by decide, rfl⟩) mm_X11_trust dX11_found_49 w5_185 rfl) <|
  am_fc (ok_bipush dX11_found_52 (by decide) rfl) <|
  am_fc (ok_iload_n dX11_found_54 rfl rfl) <|
  am_fc (ok_imul dX11_found_55 rfl) <|
  am_fc (ok_isub dX11_found_56 rfl) <|
  am_fc (ok_istore dX11_found_57 rfl) <|
  am_fc (ok_aload_n dX11_found_59 rfl rfl) <|
  am_fc (ok_getR cl_10 (by decide) rfl dX11_found_60 w4_115 rfl) <|
  am_fc (ok_iconst dX11_found_63 (by decide) rfl) <|
  am_fc (ok_iload_n dX11_found_64 rfl rfl) <|
  am_fc (ok_imul dX11_found_65 rfl) <|
  am_fc (ok_aload_n dX11_found_66 rfl rfl) <|
  am_fc (ok_iload_n dX11_found_67 rfl rfl) <|
  am_fc (ok_invV (i := ii_X11_isReader) rfl (Or.inr ⟨_, rfl, by decide, rfl⟩) mm_X11_isReader dX11_found_68 w5_181 rfl) <|
  am_fc (ok_ifne dX11_found_71 (by decide) rfl) <|
  am_fc (ok_aload_n dX11_found_74 rfl rfl) <|
  am_fc (ok_iload_n dX11_found_75 rfl rfl) <|
  am_fc (ok_invV (i := ii_X11_trust) rfl (Or.inr ⟨_, rfl, by decide, rfl⟩) mm_X11_trust dX11_found_76 w5_185 rfl) <|
  am_fn
set_option maxRecDepth 100000 in
theorem ok_cd_X11_found_1 (l : Launch) (D : va_G) (ad : Nat → Nat) (b0 : Nat) (Hb : Heap) : ∀ q ∈ cd_X11_found_1, am_ok l D ad b0 Hb am_If yX11_found cX11_found 5 (some .int) q.1 q.2 :=
  am_fc (ok_goto dX11_found_79 (by decide)) <|
  am_fc (ok_iload dX11_found_82 rfl) <|
  am_fc (ok_ifge dX11_found_84 (by decide) rfl) <|
  am_fc (ok_iconst dX11_found_87 (by decide) rfl) <|
  am_fc (ok_goto dX11_found_88 (by decide)) <|
  am_fc (ok_iload dX11_found_91 rfl) <|
  am_fc (ok_iast dX11_found_93 rfl) <|
  am_fc (ok_iinc dX11_found_94 (by decide) rfl) <|
  am_fc (ok_goto dX11_found_97 (by decide)) <|
  am_fc (ok_iload_n dX11_found_100 rfl rfl) <|
  am_fc (ok_iret rfl dX11_found_101) <|
  am_fn
theorem ok_cd_X11_found (l : Launch) (D : va_G) (ad : Nat → Nat) (b0 : Nat) (Hb : Heap) : ∀ q ∈ cd_X11_found, am_ok l D ad b0 Hb am_If yX11_found cX11_found 5 (some .int) q.1 q.2 := am_fa (ok_cd_X11_found_0 l D ad b0 Hb) (ok_cd_X11_found_1 l D ad b0 Hb)
set_option maxRecDepth 100000 in
theorem ok_cd_X11_keeps_0 (l : Launch) (D : va_G) (ad : Nat → Nat) (b0 : Nat) (Hb : Heap) : ∀ q ∈ cd_X11_keeps_0, am_ok l D ad b0 Hb am_If yX11_keeps cX11_keeps 2 (none) q.1 q.2 :=
  am_fc (ok_iconst dX11_keeps_0 (by decide) rfl) <|
  am_fc (ok_istore_n dX11_keeps_1 rfl rfl) <|
  am_fc (ok_iload_n dX11_keeps_2 rfl rfl) <|
  am_fc (ok_sipush dX11_keeps_3 (by decide) rfl) <|
  am_fc (ok_cge dX11_keeps_6 (by decide) rfl) <|
  am_fc (ok_aload_n dX11_keeps_9 rfl rfl) <|
  am_fc (ok_getR cl_10 (by decide) rfl dX11_keeps_10 w4_133 rfl) <|
  am_fc (ok_iconst dX11_keeps_13 (by decide) rfl) <|
  am_fc (ok_iload_n dX11_keeps_14 rfl rfl) <|
  am_fc (ok_imul dX11_keeps_15 rfl) <|
  am_fc (ok_aload_n dX11_keeps_16 rfl rfl) <|
  am_fc (ok_getR cl_10 (by decide) rfl dX11_keeps_17 w4_125 rfl) <|
  am_fc (ok_iload_n dX11_keeps_20 rfl rfl) <|
  am_fc (ok_iald dX11_keeps_21 rfl) <|
  am_fc (ok_iast dX11_keeps_22 rfl) <|
  am_fc (ok_aload_n dX11_keeps_23 rfl rfl) <|
  am_fc (ok_getR cl_10 (by decide) rfl dX11_keeps_24 w4_133 rfl) <|
  am_fc (ok_iconst dX11_keeps_27 (by decide) rfl) <|
  am_fc (ok_iload_n dX11_keeps_28 rfl rfl) <|
  am_fc (ok_imul dX11_keeps_29 rfl) <|
  am_fc (ok_iconst dX11_keeps_30 (by decide) rfl) <|
  am_fc (ok_iadd dX11_keeps_31 rfl) <|
  am_fc (ok_aload_n dX11_keeps_32 rfl rfl) <|
  am_fc (ok_getR cl_10 (by decide) rfl dX11_keeps_33 w4_126 rfl) <|
  am_fc (ok_iload_n dX11_keeps_36 rfl rfl) <|
  am_fc (ok_iald dX11_keeps_37 rfl) <|
  am_fc (ok_iast dX11_keeps_38 rfl) <|
  am_fc (ok_aload_n dX11_keeps_39 rfl rfl) <|
  am_fc (ok_getR cl_10 (by decide) rfl dX11_keeps_40 w4_133 rfl) <|
  am_fc (ok_iconst dX11_keeps_43 (by decide) rfl) <|
  am_fc (ok_iload_n dX11_keeps_44 rfl rfl) <|
  am_fc (ok_imul dX11_keeps_45 rfl) <|
  am_fc (ok_iconst dX11_keeps_46 (by decide) rfl) <|
  am_fc (ok_iadd dX11_keeps_47 rfl) <|
  am_fc (ok_aload_n dX11_keeps_48 rfl rfl) <|
  am_fc (ok_getR cl_10 (by decide) rfl dX11_keeps_49 w4_127 rfl) <|
  am_fc (ok_iload_n dX11_keeps_52 rfl rfl) <|
  am_fc (ok_iald dX11_keeps_53 rfl) <|
  am_fc (ok_iast dX11_keeps_54 rfl) <|
  am_fc (ok_aload_n dX11_keeps_55 rfl rfl) <|
  am_fc (ok_getR cl_10 (by decide) rfl dX11_keeps_56 w4_133 rfl) <|
  am_fc (ok_iconst dX11_keeps_59 (by decide) rfl) <|
  am_fc (ok_iload_n dX11_keeps_60 rfl rfl) <|
  am_fc (ok_imul dX11_keeps_61 rfl) <|
  am_fc (ok_iconst dX11_keeps_62 (by decide) rfl) <|
  am_fc (ok_iadd dX11_keeps_63 rfl) <|
  am_fc (ok_aload_n dX11_keeps_64 rfl rfl) <|
  am_fc (ok_getR cl_10 (by decide) rfl dX11_keeps_65 w4_128 rfl) <|
  am_fc (ok_iload_n dX11_keeps_68 rfl rfl) <|
  am_fc (ok_iald dX11_keeps_69 rfl) <|
  am_fn
set_option maxRecDepth 100000 in
theorem ok_cd_X11_keeps_1 (l : Launch) (D : va_G) (ad : Nat → Nat) (b0 : Nat) (Hb : Heap) : ∀ q ∈ cd_X11_keeps_1, am_ok l D ad b0 Hb am_If yX11_keeps cX11_keeps 2 (none) q.1 q.2 :=
  am_fc (ok_iast dX11_keeps_70 rfl) <|
  am_fc (ok_aload_n dX11_keeps_71 rfl rfl) <|
  am_fc (ok_getR cl_10 (by decide) rfl dX11_keeps_72 w4_133 rfl) <|
  am_fc (ok_iconst dX11_keeps_75 (by decide) rfl) <|
  am_fc (ok_iload_n dX11_keeps_76 rfl rfl) <|
  am_fc (ok_imul dX11_keeps_77 rfl) <|
  am_fc (ok_iconst dX11_keeps_78 (by decide) rfl) <|
  am_fc (ok_iadd dX11_keeps_79 rfl) <|
  am_fc (ok_aload_n dX11_keeps_80 rfl rfl) <|
  am_fc (ok_getR cl_10 (by decide) rfl dX11_keeps_81 w4_129 rfl) <|
  am_fc (ok_iload_n dX11_keeps_84 rfl rfl) <|
  am_fc (ok_iald dX11_keeps_85 rfl) <|
  am_fc (ok_iast dX11_keeps_86 rfl) <|
  am_fc (ok_iinc dX11_keeps_87 (by decide) rfl) <|
  am_fc (ok_goto dX11_keeps_90 (by decide)) <|
  am_fc (ok_iconst dX11_keeps_93 (by decide) rfl) <|
  am_fc (ok_istore_n dX11_keeps_94 rfl rfl) <|
  am_fc (ok_iload_n dX11_keeps_95 rfl rfl) <|
  am_fc (ok_bipush dX11_keeps_96 (by decide) rfl) <|
  am_fc (ok_cge dX11_keeps_98 (by decide) rfl) <|
  am_fc (ok_aload_n dX11_keeps_101 rfl rfl) <|
  am_fc (ok_getR cl_10 (by decide) rfl dX11_keeps_102 w4_134 rfl) <|
  am_fc (ok_iload_n dX11_keeps_105 rfl rfl) <|
  am_fc (ok_aload_n dX11_keeps_106 rfl rfl) <|
  am_fc (ok_getR cl_10 (by decide) rfl dX11_keeps_107 w4_123 rfl) <|
  am_fc (ok_iload_n dX11_keeps_110 rfl rfl) <|
  am_fc (ok_iald dX11_keeps_111 rfl) <|
  am_fc (ok_iast dX11_keeps_112 rfl) <|
  am_fc (ok_iinc dX11_keeps_113 (by decide) rfl) <|
  am_fc (ok_goto dX11_keeps_116 (by decide)) <|
  am_fc (ok_aload_n dX11_keeps_119 rfl rfl) <|
  am_fc (ok_aload_n dX11_keeps_120 rfl rfl) <|
  am_fc (ok_getI cl_10 (by decide) rfl dX11_keeps_121 w4_116 rfl) <|
  am_fc (ok_putI cl_10 (by decide) rfl (Or.inl rfl) dX11_keeps_124 w4_135 rfl) <|
  am_fc (ok_vret rfl dX11_keeps_127) <|
  am_fn
theorem ok_cd_X11_keeps (l : Launch) (D : va_G) (ad : Nat → Nat) (b0 : Nat) (Hb : Heap) : ∀ q ∈ cd_X11_keeps, am_ok l D ad b0 Hb am_If yX11_keeps cX11_keeps 2 (none) q.1 q.2 := am_fa (ok_cd_X11_keeps_0 l D ad b0 Hb) (ok_cd_X11_keeps_1 l D ad b0 Hb)
set_option maxRecDepth 100000 in
theorem ok_cd_X11_returns_0 (l : Launch) (D : va_G) (ad : Nat → Nat) (b0 : Nat) (Hb : Heap) : ∀ q ∈ cd_X11_returns_0, am_ok l D ad b0 Hb am_If yX11_returns cX11_returns 2 (none) q.1 q.2 :=
  am_fc (ok_iconst dX11_returns_0 (by decide) rfl) <|
  am_fc (ok_istore_n dX11_returns_1 rfl rfl) <|
  am_fc (ok_iload_n dX11_returns_2 rfl rfl) <|
  am_fc (ok_sipush dX11_returns_3 (by decide) rfl) <|
  am_fc (ok_cge dX11_returns_6 (by decide) rfl) <|
  am_fc (ok_aload_n dX11_returns_9 rfl rfl) <|
  am_fc (ok_getR cl_10 (by decide) rfl dX11_returns_10 w4_125 rfl) <|
  am_fc (ok_iload_n dX11_returns_13 rfl rfl) <|
  am_fc (ok_aload_n dX11_returns_14 rfl rfl) <|
  am_fc (ok_getR cl_10 (by decide) rfl dX11_returns_15 w4_133 rfl) <|
  am_fc (ok_iconst dX11_returns_18 (by decide) rfl) <|
  am_fc (ok_iload_n dX11_returns_19 rfl rfl) <|
  am_fc (ok_imul dX11_returns_20 rfl) <|
  am_fc (ok_iald dX11_returns_21 rfl) <|
  am_fc (ok_iast dX11_returns_22 rfl) <|
  am_fc (ok_aload_n dX11_returns_23 rfl rfl) <|
  am_fc (ok_getR cl_10 (by decide) rfl dX11_returns_24 w4_126 rfl) <|
  am_fc (ok_iload_n dX11_returns_27 rfl rfl) <|
  am_fc (ok_aload_n dX11_returns_28 rfl rfl) <|
  am_fc (ok_getR cl_10 (by decide) rfl dX11_returns_29 w4_133 rfl) <|
  am_fc (ok_iconst dX11_returns_32 (by decide) rfl) <|
  am_fc (ok_iload_n dX11_returns_33 rfl rfl) <|
  am_fc (ok_imul dX11_returns_34 rfl) <|
  am_fc (ok_iconst dX11_returns_35 (by decide) rfl) <|
  am_fc (ok_iadd dX11_returns_36 rfl) <|
  am_fc (ok_iald dX11_returns_37 rfl) <|
  am_fc (ok_iast dX11_returns_38 rfl) <|
  am_fc (ok_aload_n dX11_returns_39 rfl rfl) <|
  am_fc (ok_getR cl_10 (by decide) rfl dX11_returns_40 w4_127 rfl) <|
  am_fc (ok_iload_n dX11_returns_43 rfl rfl) <|
  am_fc (ok_aload_n dX11_returns_44 rfl rfl) <|
  am_fc (ok_getR cl_10 (by decide) rfl dX11_returns_45 w4_133 rfl) <|
  am_fc (ok_iconst dX11_returns_48 (by decide) rfl) <|
  am_fc (ok_iload_n dX11_returns_49 rfl rfl) <|
  am_fc (ok_imul dX11_returns_50 rfl) <|
  am_fc (ok_iconst dX11_returns_51 (by decide) rfl) <|
  am_fc (ok_iadd dX11_returns_52 rfl) <|
  am_fc (ok_iald dX11_returns_53 rfl) <|
  am_fc (ok_iast dX11_returns_54 rfl) <|
  am_fc (ok_aload_n dX11_returns_55 rfl rfl) <|
  am_fc (ok_getR cl_10 (by decide) rfl dX11_returns_56 w4_128 rfl) <|
  am_fc (ok_iload_n dX11_returns_59 rfl rfl) <|
  am_fc (ok_aload_n dX11_returns_60 rfl rfl) <|
  am_fc (ok_getR cl_10 (by decide) rfl dX11_returns_61 w4_133 rfl) <|
  am_fc (ok_iconst dX11_returns_64 (by decide) rfl) <|
  am_fc (ok_iload_n dX11_returns_65 rfl rfl) <|
  am_fc (ok_imul dX11_returns_66 rfl) <|
  am_fc (ok_iconst dX11_returns_67 (by decide) rfl) <|
  am_fc (ok_iadd dX11_returns_68 rfl) <|
  am_fc (ok_iald dX11_returns_69 rfl) <|
  am_fn
set_option maxRecDepth 100000 in
theorem ok_cd_X11_returns_1 (l : Launch) (D : va_G) (ad : Nat → Nat) (b0 : Nat) (Hb : Heap) : ∀ q ∈ cd_X11_returns_1, am_ok l D ad b0 Hb am_If yX11_returns cX11_returns 2 (none) q.1 q.2 :=
  am_fc (ok_iast dX11_returns_70 rfl) <|
  am_fc (ok_aload_n dX11_returns_71 rfl rfl) <|
  am_fc (ok_getR cl_10 (by decide) rfl dX11_returns_72 w4_129 rfl) <|
  am_fc (ok_iload_n dX11_returns_75 rfl rfl) <|
  am_fc (ok_aload_n dX11_returns_76 rfl rfl) <|
  am_fc (ok_getR cl_10 (by decide) rfl dX11_returns_77 w4_133 rfl) <|
  am_fc (ok_iconst dX11_returns_80 (by decide) rfl) <|
  am_fc (ok_iload_n dX11_returns_81 rfl rfl) <|
  am_fc (ok_imul dX11_returns_82 rfl) <|
  am_fc (ok_iconst dX11_returns_83 (by decide) rfl) <|
  am_fc (ok_iadd dX11_returns_84 rfl) <|
  am_fc (ok_iald dX11_returns_85 rfl) <|
  am_fc (ok_iast dX11_returns_86 rfl) <|
  am_fc (ok_iinc dX11_returns_87 (by decide) rfl) <|
  am_fc (ok_goto dX11_returns_90 (by decide)) <|
  am_fc (ok_iconst dX11_returns_93 (by decide) rfl) <|
  am_fc (ok_istore_n dX11_returns_94 rfl rfl) <|
  am_fc (ok_iload_n dX11_returns_95 rfl rfl) <|
  am_fc (ok_bipush dX11_returns_96 (by decide) rfl) <|
  am_fc (ok_cge dX11_returns_98 (by decide) rfl) <|
  am_fc (ok_aload_n dX11_returns_101 rfl rfl) <|
  am_fc (ok_getR cl_10 (by decide) rfl dX11_returns_102 w4_123 rfl) <|
  am_fc (ok_iload_n dX11_returns_105 rfl rfl) <|
  am_fc (ok_aload_n dX11_returns_106 rfl rfl) <|
  am_fc (ok_getR cl_10 (by decide) rfl dX11_returns_107 w4_134 rfl) <|
  am_fc (ok_iload_n dX11_returns_110 rfl rfl) <|
  am_fc (ok_iald dX11_returns_111 rfl) <|
  am_fc (ok_iast dX11_returns_112 rfl) <|
  am_fc (ok_iinc dX11_returns_113 (by decide) rfl) <|
  am_fc (ok_goto dX11_returns_116 (by decide)) <|
  am_fc (ok_aload_n dX11_returns_119 rfl rfl) <|
  am_fc (ok_aload_n dX11_returns_120 rfl rfl) <|
  am_fc (ok_getI cl_10 (by decide) rfl dX11_returns_121 w4_135 rfl) <|
  am_fc (ok_putI cl_10 (by decide) rfl (Or.inl rfl) dX11_returns_124 w4_116 rfl) <|
  am_fc (ok_vret rfl dX11_returns_127) <|
  am_fn
theorem ok_cd_X11_returns (l : Launch) (D : va_G) (ad : Nat → Nat) (b0 : Nat) (Hb : Heap) : ∀ q ∈ cd_X11_returns, am_ok l D ad b0 Hb am_If yX11_returns cX11_returns 2 (none) q.1 q.2 := am_fa (ok_cd_X11_returns_0 l D ad b0 Hb) (ok_cd_X11_returns_1 l D ad b0 Hb)
set_option maxRecDepth 100000 in
theorem ok_cd_X11_harmBy_0 (l : Launch) (D : va_G) (ad : Nat → Nat) (b0 : Nat) (Hb : Heap) : ∀ q ∈ cd_X11_harmBy_0, am_ok l D ad b0 Hb am_If yX11_harmBy cX11_harmBy 6 (some .int) q.1 q.2 :=
  am_fc (ok_aload_n dX11_harmBy_0 rfl rfl) <|
  am_fc (ok_invV (i := ii_X11_keeps) rfl (Or.inr ⟨_, rfl, by decide, rfl⟩) mm_X11_keeps dX11_harmBy_1 w5_201 rfl) <|
  am_fc (ok_iconst dX11_harmBy_4 (by decide) rfl) <|
  am_fc (ok_istore dX11_harmBy_5 rfl) <|
  am_fc (ok_iload dX11_harmBy_7 rfl) <|
  am_fc (ok_bipush dX11_harmBy_9 (by decide) rfl) <|
  am_fc (ok_cge dX11_harmBy_11 (by decide) rfl) <|
  am_fc (ok_iload_n dX11_harmBy_14 rfl rfl) <|
  am_fc (ok_iload dX11_harmBy_15 rfl) <|
  am_fc (ok_ishr dX11_harmBy_17 rfl) <|
  am_fc (ok_iconst dX11_harmBy_18 (by decide) rfl) <|
  am_fc (ok_iand dX11_harmBy_19 rfl) <|
  am_fc (ok_iconst dX11_harmBy_20 (by decide) rfl) <|
  am_fc (ok_cne dX11_harmBy_21 (by decide) rfl) <|
  am_fc (ok_aload_n dX11_harmBy_24 rfl rfl) <|
  am_fc (ok_iload dX11_harmBy_25 rfl) <|
  am_fc (ok_iload_n dX11_harmBy_27 rfl rfl) <|
  am_fc (ok_invV (i := ii_X11_denies) rfl (Or.inr ⟨_, rfl, by decide, rfl⟩) mm_X11_denies dX11_harmBy_28 w5_177 rfl) <|
  am_fc (ok_goto dX11_harmBy_31 (by decide)) <|
  am_fc (ok_iconst dX11_harmBy_34 (by decide) rfl) <|
  am_fc (ok_istore dX11_harmBy_35 rfl) <|
  am_fc (ok_aload_n dX11_harmBy_37 rfl rfl) <|
  am_fc (ok_dup dX11_harmBy_38 rfl) <|
  am_fc (ok_getI cl_10 (by decide) rfl dX11_harmBy_39 w4_116 rfl) <|
  am_fc (ok_iload dX11_harmBy_42 rfl) <|
  am_fc (ok_ifge dX11_harmBy_44 (by decide) rfl) <|
  am_fc (ok_iconst dX11_harmBy_47 (by decide) rfl) <|
  am_fc (ok_goto dX11_harmBy_48 (by decide)) <|
  am_fc (ok_iconst dX11_harmBy_51 (by decide) rfl) <|
  am_fc (ok_iadd dX11_harmBy_52 rfl) <|
  am_fc (ok_putI cl_10 (by decide) rfl (Or.inl rfl) dX11_harmBy_53 w4_116 rfl) <|
  am_fc (ok_iinc dX11_harmBy_56 (by decide) rfl) <|
  am_fc (ok_goto dX11_harmBy_59 (by decide)) <|
  am_fc (ok_iconst dX11_harmBy_62 (by decide) rfl) <|
  am_fc (ok_istore dX11_harmBy_63 rfl) <|
  am_fc (ok_iload dX11_harmBy_65 rfl) <|
  am_fc (ok_iload_n dX11_harmBy_67 rfl rfl) <|
  am_fc (ok_cge dX11_harmBy_68 (by decide) rfl) <|
  am_fc (ok_aload_n dX11_harmBy_71 rfl rfl) <|
  am_fc (ok_invV (i := ii_X11_hour) rfl (Or.inr ⟨_, rfl, by decide, rfl⟩) mm_X11_hour dX11_harmBy_72 w5_127 rfl) <|
  am_fc (ok_iinc dX11_harmBy_75 (by decide) rfl) <|
  am_fc (ok_goto dX11_harmBy_78 (by decide)) <|
  am_fc (ok_iconst dX11_harmBy_81 (by decide) rfl) <|
  am_fc (ok_istore dX11_harmBy_82 rfl) <|
  am_fc (ok_iconst dX11_harmBy_84 (by decide) rfl) <|
  am_fc (ok_istore dX11_harmBy_85 rfl) <|
  am_fc (ok_iload dX11_harmBy_87 rfl) <|
  am_fc (ok_aload_n dX11_harmBy_89 rfl rfl) <|
  am_fc (ok_getI cl_10 (by decide) rfl dX11_harmBy_90 w4_117 rfl) <|
  am_fc (ok_cge dX11_harmBy_93 (by decide) rfl) <|
  am_fn
set_option maxRecDepth 100000 in
theorem ok_cd_X11_harmBy_1 (l : Launch) (D : va_G) (ad : Nat → Nat) (b0 : Nat) (Hb : Heap) : ∀ q ∈ cd_X11_harmBy_1, am_ok l D ad b0 Hb am_If yX11_harmBy cX11_harmBy 6 (some .int) q.1 q.2 :=
  am_fc (ok_iload dX11_harmBy_96 rfl) <|
  am_fc (ok_aload_n dX11_harmBy_98 rfl rfl) <|
  am_fc (ok_iload dX11_harmBy_99 rfl) <|
  am_fc (ok_invV (i := ii_X11_harmOf) rfl (Or.inr ⟨_, rfl, by decide, rfl⟩) mm_X11_harmOf dX11_harmBy_101 w5_164 rfl) <|
  am_fc (ok_iadd dX11_harmBy_104 rfl) <|
  am_fc (ok_istore dX11_harmBy_105 rfl) <|
  am_fc (ok_iinc dX11_harmBy_107 (by decide) rfl) <|
  am_fc (ok_goto dX11_harmBy_110 (by decide)) <|
  am_fc (ok_aload_n dX11_harmBy_113 rfl rfl) <|
  am_fc (ok_invV (i := ii_X11_returns) rfl (Or.inr ⟨_, rfl, by decide, rfl⟩) mm_X11_returns dX11_harmBy_114 w5_205 rfl) <|
  am_fc (ok_iload dX11_harmBy_117 rfl) <|
  am_fc (ok_iret rfl dX11_harmBy_119) <|
  am_fn
theorem ok_cd_X11_harmBy (l : Launch) (D : va_G) (ad : Nat → Nat) (b0 : Nat) (Hb : Heap) : ∀ q ∈ cd_X11_harmBy, am_ok l D ad b0 Hb am_If yX11_harmBy cX11_harmBy 6 (some .int) q.1 q.2 := am_fa (ok_cd_X11_harmBy_0 l D ad b0 Hb) (ok_cd_X11_harmBy_1 l D ad b0 Hb)
set_option maxRecDepth 100000 in
theorem ok_cd_X11_foretold_0 (l : Launch) (D : va_G) (ad : Nat → Nat) (b0 : Nat) (Hb : Heap) : ∀ q ∈ cd_X11_foretold_0, am_ok l D ad b0 Hb am_If yX11_foretold cX11_foretold 2 (some .int) q.1 q.2 :=
  am_fc (ok_iload_n dX11_foretold_0 rfl rfl) <|
  am_fc (ok_i2l dX11_foretold_1 rfl) <|
  am_fc (ok_lconst dX11_foretold_2 (by decide) rfl) <|
  am_fc (ok_ldc2 dX11_foretold_3 w5_126 rfl) <|
  am_fc (ok_invS (i := ii_X11_in) rfl mm_X11_in dX11_foretold_6 w5_32 rfl) <|
  am_fc (ok_ifeq dX11_foretold_9 (by decide) rfl) <|
  am_fc (ok_aload_n dX11_foretold_12 rfl rfl) <|
  am_fc (ok_iconst dX11_foretold_13 (by decide) rfl) <|
  am_fc (ok_iconst dX11_foretold_14 (by decide) rfl) <|
  am_fc (ok_iload_n dX11_foretold_15 rfl rfl) <|
  am_fc (ok_invV (i := ii_X11_harmBy) rfl (Or.inr ⟨_, rfl, by decide, rfl⟩) mm_X11_harmBy dX11_foretold_16 w5_197 rfl) <|
  am_fc (ok_goto dX11_foretold_19 (by decide)) <|
  am_fc (ok_iconst dX11_foretold_22 (by decide) rfl) <|
  am_fc (ok_iret rfl dX11_foretold_23) <|
  am_fn
theorem ok_cd_X11_foretold (l : Launch) (D : va_G) (ad : Nat → Nat) (b0 : Nat) (Hb : Heap) : ∀ q ∈ cd_X11_foretold, am_ok l D ad b0 Hb am_If yX11_foretold cX11_foretold 2 (some .int) q.1 q.2 := ok_cd_X11_foretold_0 l D ad b0 Hb
set_option maxRecDepth 100000 in
theorem ok_cd_X11_wording_0 (l : Launch) (D : va_G) (ad : Nat → Nat) (b0 : Nat) (Hb : Heap) : ∀ q ∈ cd_X11_wording_0, am_ok l D ad b0 Hb am_If yX11_wording cX11_wording 7 (some .int) q.1 q.2 :=
  am_fc (ok_aload_n dX11_wording_0 rfl rfl) <|
  am_fc (ok_iload_n dX11_wording_1 rfl rfl) <|
  am_fc (ok_invV (i := ii_X11_isSaying) rfl (Or.inr ⟨_, rfl, by decide, rfl⟩) mm_X11_isSaying dX11_wording_2 w5_80 rfl) <|
  am_fc (ok_ifeq dX11_wording_5 (by decide) rfl) <|
  am_fc (ok_iload_n dX11_wording_8 rfl rfl) <|
  am_fc (ok_i2l dX11_wording_9 rfl) <|
  am_fc (ok_lconst dX11_wording_10 (by decide) rfl) <|
  am_fc (ok_ldc2 dX11_wording_11 w5_126 rfl) <|
  am_fc (ok_invS (i := ii_X11_in) rfl mm_X11_in dX11_wording_14 w5_32 rfl) <|
  am_fc (ok_ifne dX11_wording_17 (by decide) rfl) <|
  am_fc (ok_iconst dX11_wording_20 (by decide) rfl) <|
  am_fc (ok_iret rfl dX11_wording_21) <|
  am_fc (ok_aload_n dX11_wording_22 rfl rfl) <|
  am_fc (ok_iload_n dX11_wording_23 rfl rfl) <|
  am_fc (ok_invV (i := ii_X11_mayBeDenied) rfl (Or.inr ⟨_, rfl, by decide, rfl⟩) mm_X11_mayBeDenied dX11_wording_24 w5_173 rfl) <|
  am_fc (ok_ifne dX11_wording_27 (by decide) rfl) <|
  am_fc (ok_bipush dX11_wording_30 (by decide) rfl) <|
  am_fc (ok_iret rfl dX11_wording_32) <|
  am_fc (ok_iconst dX11_wording_33 (by decide) rfl) <|
  am_fc (ok_istore_n dX11_wording_34 rfl rfl) <|
  am_fc (ok_aload_n dX11_wording_35 rfl rfl) <|
  am_fc (ok_iconst dX11_wording_36 (by decide) rfl) <|
  am_fc (ok_iconst dX11_wording_37 (by decide) rfl) <|
  am_fc (ok_iload_n dX11_wording_38 rfl rfl) <|
  am_fc (ok_invV (i := ii_X11_harmBy) rfl (Or.inr ⟨_, rfl, by decide, rfl⟩) mm_X11_harmBy dX11_wording_39 w5_197 rfl) <|
  am_fc (ok_istore dX11_wording_42 rfl) <|
  am_fc (ok_iconst dX11_wording_44 (by decide) rfl) <|
  am_fc (ok_istore dX11_wording_45 rfl) <|
  am_fc (ok_iload dX11_wording_47 rfl) <|
  am_fc (ok_iconst dX11_wording_49 (by decide) rfl) <|
  am_fc (ok_cge dX11_wording_50 (by decide) rfl) <|
  am_fc (ok_aload_n dX11_wording_53 rfl rfl) <|
  am_fc (ok_iconst dX11_wording_54 (by decide) rfl) <|
  am_fc (ok_iload_n dX11_wording_55 rfl rfl) <|
  am_fc (ok_ishl dX11_wording_56 rfl) <|
  am_fc (ok_iload dX11_wording_57 rfl) <|
  am_fc (ok_iload_n dX11_wording_59 rfl rfl) <|
  am_fc (ok_invV (i := ii_X11_harmBy) rfl (Or.inr ⟨_, rfl, by decide, rfl⟩) mm_X11_harmBy dX11_wording_60 w5_197 rfl) <|
  am_fc (ok_istore dX11_wording_63 rfl) <|
  am_fc (ok_iload dX11_wording_65 rfl) <|
  am_fc (ok_iload dX11_wording_67 rfl) <|
  am_fc (ok_cge dX11_wording_69 (by decide) rfl) <|
  am_fc (ok_iload dX11_wording_72 rfl) <|
  am_fc (ok_goto dX11_wording_74 (by decide)) <|
  am_fc (ok_iload_n dX11_wording_77 rfl rfl) <|
  am_fc (ok_istore_n dX11_wording_78 rfl rfl) <|
  am_fc (ok_iload dX11_wording_79 rfl) <|
  am_fc (ok_iload dX11_wording_81 rfl) <|
  am_fc (ok_cge dX11_wording_83 (by decide) rfl) <|
  am_fc (ok_iload dX11_wording_86 rfl) <|
  am_fn
set_option maxRecDepth 100000 in
theorem ok_cd_X11_wording_1 (l : Launch) (D : va_G) (ad : Nat → Nat) (b0 : Nat) (Hb : Heap) : ∀ q ∈ cd_X11_wording_1, am_ok l D ad b0 Hb am_If yX11_wording cX11_wording 7 (some .int) q.1 q.2 :=
  am_fc (ok_goto dX11_wording_88 (by decide)) <|
  am_fc (ok_iload dX11_wording_91 rfl) <|
  am_fc (ok_istore dX11_wording_93 rfl) <|
  am_fc (ok_iinc dX11_wording_95 (by decide) rfl) <|
  am_fc (ok_goto dX11_wording_98 (by decide)) <|
  am_fc (ok_iload_n dX11_wording_101 rfl rfl) <|
  am_fc (ok_iret rfl dX11_wording_102) <|
  am_fn
theorem ok_cd_X11_wording (l : Launch) (D : va_G) (ad : Nat → Nat) (b0 : Nat) (Hb : Heap) : ∀ q ∈ cd_X11_wording, am_ok l D ad b0 Hb am_If yX11_wording cX11_wording 7 (some .int) q.1 q.2 := am_fa (ok_cd_X11_wording_0 l D ad b0 Hb) (ok_cd_X11_wording_1 l D ad b0 Hb)
set_option maxRecDepth 100000 in
theorem ok_cd_X11_size_0 (l : Launch) (D : va_G) (ad : Nat → Nat) (b0 : Nat) (Hb : Heap) : ∀ q ∈ cd_X11_size_0, am_ok l D ad b0 Hb am_If yX11_size cX11_size 3 (some .int) q.1 q.2 :=
  am_fc (ok_iconst dX11_size_0 (by decide) rfl) <|
  am_fc (ok_istore_n dX11_size_1 rfl rfl) <|
  am_fc (ok_iconst dX11_size_2 (by decide) rfl) <|
  am_fc (ok_istore_n dX11_size_3 rfl rfl) <|
  am_fc (ok_iload_n dX11_size_4 rfl rfl) <|
  am_fc (ok_bipush dX11_size_5 (by decide) rfl) <|
  am_fc (ok_cge dX11_size_7 (by decide) rfl) <|
  am_fc (ok_iload_n dX11_size_10 rfl rfl) <|
  am_fc (ok_iload_n dX11_size_11 rfl rfl) <|
  am_fc (ok_iload_n dX11_size_12 rfl rfl) <|
  am_fc (ok_ishr dX11_size_13 rfl) <|
  am_fc (ok_iconst dX11_size_14 (by decide) rfl) <|
  am_fc (ok_iand dX11_size_15 rfl) <|
  am_fc (ok_iadd dX11_size_16 rfl) <|
  am_fc (ok_istore_n dX11_size_17 rfl rfl) <|
  am_fc (ok_iinc dX11_size_18 (by decide) rfl) <|
  am_fc (ok_goto dX11_size_21 (by decide)) <|
  am_fc (ok_iload_n dX11_size_24 rfl rfl) <|
  am_fc (ok_iret rfl dX11_size_25) <|
  am_fn
theorem ok_cd_X11_size (l : Launch) (D : va_G) (ad : Nat → Nat) (b0 : Nat) (Hb : Heap) : ∀ q ∈ cd_X11_size, am_ok l D ad b0 Hb am_If yX11_size cX11_size 3 (some .int) q.1 q.2 := ok_cd_X11_size_0 l D ad b0 Hb
set_option maxRecDepth 100000 in
theorem ok_cd_X11_plan_0 (l : Launch) (D : va_G) (ad : Nat → Nat) (b0 : Nat) (Hb : Heap) : ∀ q ∈ cd_X11_plan_0, am_ok l D ad b0 Hb am_If yX11_plan cX11_plan 8 (some .int) q.1 q.2 :=
  am_fc (ok_iload_n dX11_plan_0 rfl rfl) <|
  am_fc (ok_i2l dX11_plan_1 rfl) <|
  am_fc (ok_lconst dX11_plan_2 (by decide) rfl) <|
  am_fc (ok_iconst dX11_plan_3 (by decide) rfl) <|
  am_fc (ok_aload_n dX11_plan_4 rfl rfl) <|
  am_fc (ok_getI cl_10 (by decide) rfl dX11_plan_5 w4_117 rfl) <|
  am_fc (ok_ishl dX11_plan_8 rfl) <|
  am_fc (ok_iconst dX11_plan_9 (by decide) rfl) <|
  am_fc (ok_isub dX11_plan_10 rfl) <|
  am_fc (ok_i2l dX11_plan_11 rfl) <|
  am_fc (ok_invS (i := ii_X11_in) rfl mm_X11_in dX11_plan_12 w5_32 rfl) <|
  am_fc (ok_ifeq dX11_plan_15 (by decide) rfl) <|
  am_fc (ok_iload_n dX11_plan_18 rfl rfl) <|
  am_fc (ok_invS (i := ii_X11_size) rfl mm_X11_size dX11_plan_19 w5_217 rfl) <|
  am_fc (ok_iconst dX11_plan_22 (by decide) rfl) <|
  am_fc (ok_cgt dX11_plan_23 (by decide) rfl) <|
  am_fc (ok_iload_n dX11_plan_26 rfl rfl) <|
  am_fc (ok_i2l dX11_plan_27 rfl) <|
  am_fc (ok_lconst dX11_plan_28 (by decide) rfl) <|
  am_fc (ok_ldc2 dX11_plan_29 w5_220 rfl) <|
  am_fc (ok_invS (i := ii_X11_in) rfl mm_X11_in dX11_plan_32 w5_32 rfl) <|
  am_fc (ok_ifne dX11_plan_35 (by decide) rfl) <|
  am_fc (ok_iconst dX11_plan_38 (by decide) rfl) <|
  am_fc (ok_iret rfl dX11_plan_39) <|
  am_fc (ok_iconst dX11_plan_40 (by decide) rfl) <|
  am_fc (ok_istore_n dX11_plan_41 rfl rfl) <|
  am_fc (ok_iload_n dX11_plan_42 rfl rfl) <|
  am_fc (ok_aload_n dX11_plan_43 rfl rfl) <|
  am_fc (ok_getI cl_10 (by decide) rfl dX11_plan_44 w4_117 rfl) <|
  am_fc (ok_cge dX11_plan_47 (by decide) rfl) <|
  am_fc (ok_iload_n dX11_plan_50 rfl rfl) <|
  am_fc (ok_iload_n dX11_plan_51 rfl rfl) <|
  am_fc (ok_ishr dX11_plan_52 rfl) <|
  am_fc (ok_iconst dX11_plan_53 (by decide) rfl) <|
  am_fc (ok_iand dX11_plan_54 rfl) <|
  am_fc (ok_iconst dX11_plan_55 (by decide) rfl) <|
  am_fc (ok_cne dX11_plan_56 (by decide) rfl) <|
  am_fc (ok_aload_n dX11_plan_59 rfl rfl) <|
  am_fc (ok_iload_n dX11_plan_60 rfl rfl) <|
  am_fc (ok_invV (i := ii_X11_mayBeDenied) rfl (Or.inr ⟨_, rfl, by decide, rfl⟩) mm_X11_mayBeDenied dX11_plan_61 w5_173 rfl) <|
  am_fc (ok_ifne dX11_plan_64 (by decide) rfl) <|
  am_fc (ok_bipush dX11_plan_67 (by decide) rfl) <|
  am_fc (ok_iret rfl dX11_plan_69) <|
  am_fc (ok_iinc dX11_plan_70 (by decide) rfl) <|
  am_fc (ok_goto dX11_plan_73 (by decide)) <|
  am_fc (ok_iconst dX11_plan_76 (by decide) rfl) <|
  am_fc (ok_istore_n dX11_plan_77 rfl rfl) <|
  am_fc (ok_aload_n dX11_plan_78 rfl rfl) <|
  am_fc (ok_iconst dX11_plan_79 (by decide) rfl) <|
  am_fc (ok_iconst dX11_plan_80 (by decide) rfl) <|
  am_fn
set_option maxRecDepth 100000 in
theorem ok_cd_X11_plan_1 (l : Launch) (D : va_G) (ad : Nat → Nat) (b0 : Nat) (Hb : Heap) : ∀ q ∈ cd_X11_plan_1, am_ok l D ad b0 Hb am_If yX11_plan cX11_plan 8 (some .int) q.1 q.2 :=
  am_fc (ok_iload_n dX11_plan_81 rfl rfl) <|
  am_fc (ok_invV (i := ii_X11_harmBy) rfl (Or.inr ⟨_, rfl, by decide, rfl⟩) mm_X11_harmBy dX11_plan_82 w5_197 rfl) <|
  am_fc (ok_istore dX11_plan_85 rfl) <|
  am_fc (ok_iconst dX11_plan_87 (by decide) rfl) <|
  am_fc (ok_istore dX11_plan_88 rfl) <|
  am_fc (ok_iload dX11_plan_90 rfl) <|
  am_fc (ok_iload_n dX11_plan_92 rfl rfl) <|
  am_fc (ok_cgt dX11_plan_93 (by decide) rfl) <|
  am_fc (ok_iload dX11_plan_96 rfl) <|
  am_fc (ok_iload_n dX11_plan_98 rfl rfl) <|
  am_fc (ok_iconst dX11_plan_99 (by decide) rfl) <|
  am_fc (ok_ixor dX11_plan_100 rfl) <|
  am_fc (ok_iand dX11_plan_101 rfl) <|
  am_fc (ok_ifne dX11_plan_102 (by decide) rfl) <|
  am_fc (ok_aload_n dX11_plan_105 rfl rfl) <|
  am_fc (ok_iload dX11_plan_106 rfl) <|
  am_fc (ok_iconst dX11_plan_108 (by decide) rfl) <|
  am_fc (ok_iload_n dX11_plan_109 rfl rfl) <|
  am_fc (ok_invV (i := ii_X11_harmBy) rfl (Or.inr ⟨_, rfl, by decide, rfl⟩) mm_X11_harmBy dX11_plan_110 w5_197 rfl) <|
  am_fc (ok_istore dX11_plan_113 rfl) <|
  am_fc (ok_iload dX11_plan_115 rfl) <|
  am_fc (ok_iload dX11_plan_117 rfl) <|
  am_fc (ok_clt dX11_plan_119 (by decide) rfl) <|
  am_fc (ok_iload dX11_plan_122 rfl) <|
  am_fc (ok_iload dX11_plan_124 rfl) <|
  am_fc (ok_cne dX11_plan_126 (by decide) rfl) <|
  am_fc (ok_iload dX11_plan_129 rfl) <|
  am_fc (ok_invS (i := ii_X11_size) rfl mm_X11_size dX11_plan_131 w5_217 rfl) <|
  am_fc (ok_iload_n dX11_plan_134 rfl rfl) <|
  am_fc (ok_invS (i := ii_X11_size) rfl mm_X11_size dX11_plan_135 w5_217 rfl) <|
  am_fc (ok_cge dX11_plan_138 (by decide) rfl) <|
  am_fc (ok_iconst dX11_plan_141 (by decide) rfl) <|
  am_fc (ok_goto dX11_plan_142 (by decide)) <|
  am_fc (ok_iconst dX11_plan_145 (by decide) rfl) <|
  am_fc (ok_istore dX11_plan_146 rfl) <|
  am_fc (ok_iload dX11_plan_148 rfl) <|
  am_fc (ok_ifeq dX11_plan_150 (by decide) rfl) <|
  am_fc (ok_iload dX11_plan_153 rfl) <|
  am_fc (ok_goto dX11_plan_155 (by decide)) <|
  am_fc (ok_iload_n dX11_plan_158 rfl rfl) <|
  am_fc (ok_istore_n dX11_plan_159 rfl rfl) <|
  am_fc (ok_iload dX11_plan_160 rfl) <|
  am_fc (ok_ifeq dX11_plan_162 (by decide) rfl) <|
  am_fc (ok_iload dX11_plan_165 rfl) <|
  am_fc (ok_goto dX11_plan_167 (by decide)) <|
  am_fc (ok_iload dX11_plan_170 rfl) <|
  am_fc (ok_istore dX11_plan_172 rfl) <|
  am_fc (ok_iinc dX11_plan_174 (by decide) rfl) <|
  am_fc (ok_goto dX11_plan_177 (by decide)) <|
  am_fc (ok_iload_n dX11_plan_180 rfl rfl) <|
  am_fn
set_option maxRecDepth 100000 in
theorem ok_cd_X11_plan_2 (l : Launch) (D : va_G) (ad : Nat → Nat) (b0 : Nat) (Hb : Heap) : ∀ q ∈ cd_X11_plan_2, am_ok l D ad b0 Hb am_If yX11_plan cX11_plan 8 (some .int) q.1 q.2 :=
  am_fc (ok_iret rfl dX11_plan_181) <|
  am_fn
theorem ok_cd_X11_plan (l : Launch) (D : va_G) (ad : Nat → Nat) (b0 : Nat) (Hb : Heap) : ∀ q ∈ cd_X11_plan, am_ok l D ad b0 Hb am_If yX11_plan cX11_plan 8 (some .int) q.1 q.2 := am_fa (ok_cd_X11_plan_0 l D ad b0 Hb) (am_fa (ok_cd_X11_plan_1 l D ad b0 Hb) (ok_cd_X11_plan_2 l D ad b0 Hb))
set_option maxRecDepth 100000 in
theorem ok_cd_X11_type_0 (l : Launch) (D : va_G) (ad : Nat → Nat) (b0 : Nat) (Hb : Heap) : ∀ q ∈ cd_X11_type_0, am_ok l D ad b0 Hb am_If yX11_type cX11_type 5 (some .int) q.1 q.2 :=
  am_fc (ok_iload_n dX11_type_0 rfl rfl) <|
  am_fc (ok_i2l dX11_type_1 rfl) <|
  am_fc (ok_lconst dX11_type_2 (by decide) rfl) <|
  am_fc (ok_ldc2 dX11_type_3 w5_58 rfl) <|
  am_fc (ok_invS (i := ii_X11_in) rfl mm_X11_in dX11_type_6 w5_32 rfl) <|
  am_fc (ok_ifne dX11_type_9 (by decide) rfl) <|
  am_fc (ok_iconst dX11_type_12 (by decide) rfl) <|
  am_fc (ok_iret rfl dX11_type_13) <|
  am_fc (ok_iconst dX11_type_14 (by decide) rfl) <|
  am_fc (ok_istore dX11_type_15 rfl) <|
  am_fc (ok_iload dX11_type_17 rfl) <|
  am_fc (ok_iload_n dX11_type_19 rfl rfl) <|
  am_fc (ok_cge dX11_type_20 (by decide) rfl) <|
  am_fc (ok_lload_n dX11_type_23 rfl rfl) <|
  am_fc (ok_bipush dX11_type_24 (by decide) rfl) <|
  am_fc (ok_iload dX11_type_26 rfl) <|
  am_fc (ok_imul dX11_type_28 rfl) <|
  am_fc (ok_lshr dX11_type_29 rfl) <|
  am_fc (ok_ldc2 dX11_type_30 w5_225 rfl) <|
  am_fc (ok_land dX11_type_33 rfl) <|
  am_fc (ok_ldc2 dX11_type_34 w5_226 rfl) <|
  am_fc (ok_ldc2 dX11_type_37 w5_227 rfl) <|
  am_fc (ok_invS (i := ii_X11_in) rfl mm_X11_in dX11_type_40 w5_32 rfl) <|
  am_fc (ok_ifne dX11_type_43 (by decide) rfl) <|
  am_fc (ok_iconst dX11_type_46 (by decide) rfl) <|
  am_fc (ok_iret rfl dX11_type_47) <|
  am_fc (ok_iinc dX11_type_48 (by decide) rfl) <|
  am_fc (ok_goto dX11_type_51 (by decide)) <|
  am_fc (ok_aload_n dX11_type_54 rfl rfl) <|
  am_fc (ok_getI cl_10 (by decide) rfl dX11_type_55 w4_137 rfl) <|
  am_fc (ok_iload_n dX11_type_58 rfl rfl) <|
  am_fc (ok_iadd dX11_type_59 rfl) <|
  am_fc (ok_bipush dX11_type_60 (by decide) rfl) <|
  am_fc (ok_cle dX11_type_62 (by decide) rfl) <|
  am_fc (ok_bipush dX11_type_65 (by decide) rfl) <|
  am_fc (ok_iret rfl dX11_type_67) <|
  am_fc (ok_iload_n dX11_type_68 rfl rfl) <|
  am_fc (ok_iconst dX11_type_69 (by decide) rfl) <|
  am_fc (ok_isub dX11_type_70 rfl) <|
  am_fc (ok_istore dX11_type_71 rfl) <|
  am_fc (ok_iload dX11_type_73 rfl) <|
  am_fc (ok_iflt dX11_type_75 (by decide) rfl) <|
  am_fc (ok_aload_n dX11_type_78 rfl rfl) <|
  am_fc (ok_getR cl_10 (by decide) rfl dX11_type_79 w4_136 rfl) <|
  am_fc (ok_aload_n dX11_type_82 rfl rfl) <|
  am_fc (ok_getI cl_10 (by decide) rfl dX11_type_83 w4_137 rfl) <|
  am_fc (ok_lload_n dX11_type_86 rfl rfl) <|
  am_fc (ok_bipush dX11_type_87 (by decide) rfl) <|
  am_fc (ok_iload dX11_type_89 rfl) <|
  am_fc (ok_imul dX11_type_91 rfl) <|
  am_fn
set_option maxRecDepth 100000 in
theorem ok_cd_X11_type_1 (l : Launch) (D : va_G) (ad : Nat → Nat) (b0 : Nat) (Hb : Heap) : ∀ q ∈ cd_X11_type_1, am_ok l D ad b0 Hb am_If yX11_type cX11_type 5 (some .int) q.1 q.2 :=
  am_fc (ok_lshr dX11_type_92 rfl) <|
  am_fc (ok_ldc2 dX11_type_93 w5_225 rfl) <|
  am_fc (ok_land dX11_type_96 rfl) <|
  am_fc (ok_l2i dX11_type_97 rfl) <|
  am_fc (ok_iast dX11_type_98 rfl) <|
  am_fc (ok_aload_n dX11_type_99 rfl rfl) <|
  am_fc (ok_dup dX11_type_100 rfl) <|
  am_fc (ok_getI cl_10 (by decide) rfl dX11_type_101 w4_137 rfl) <|
  am_fc (ok_iconst dX11_type_104 (by decide) rfl) <|
  am_fc (ok_iadd dX11_type_105 rfl) <|
  am_fc (ok_putI cl_10 (by decide) rfl (Or.inl rfl) dX11_type_106 w4_137 rfl) <|
  am_fc (ok_iinc dX11_type_109 (by decide) rfl) <|
  am_fc (ok_goto dX11_type_112 (by decide)) <|
  am_fc (ok_aload_n dX11_type_115 rfl rfl) <|
  am_fc (ok_getI cl_10 (by decide) rfl dX11_type_116 w4_137 rfl) <|
  am_fc (ok_iret rfl dX11_type_119) <|
  am_fn
theorem ok_cd_X11_type (l : Launch) (D : va_G) (ad : Nat → Nat) (b0 : Nat) (Hb : Heap) : ∀ q ∈ cd_X11_type, am_ok l D ad b0 Hb am_If yX11_type cX11_type 5 (some .int) q.1 q.2 := am_fa (ok_cd_X11_type_0 l D ad b0 Hb) (ok_cd_X11_type_1 l D ad b0 Hb)
set_option maxRecDepth 100000 in
theorem ok_cd_X11_next_0 (l : Launch) (D : va_G) (ad : Nat → Nat) (b0 : Nat) (Hb : Heap) : ∀ q ∈ cd_X11_next_0, am_ok l D ad b0 Hb am_If yX11_next cX11_next 1 (some .int) q.1 q.2 :=
  am_fc (ok_aload_n dX11_next_0 rfl rfl) <|
  am_fc (ok_getI cl_10 (by decide) rfl dX11_next_1 w4_143 rfl) <|
  am_fc (ok_aload_n dX11_next_4 rfl rfl) <|
  am_fc (ok_getI cl_10 (by decide) rfl dX11_next_5 w4_139 rfl) <|
  am_fc (ok_cge dX11_next_8 (by decide) rfl) <|
  am_fc (ok_aload_n dX11_next_11 rfl rfl) <|
  am_fc (ok_getR cl_10 (by decide) rfl dX11_next_12 w4_138 rfl) <|
  am_fc (ok_aload_n dX11_next_15 rfl rfl) <|
  am_fc (ok_getI cl_10 (by decide) rfl dX11_next_16 w4_143 rfl) <|
  am_fc (ok_iald dX11_next_19 rfl) <|
  am_fc (ok_bipush dX11_next_20 (by decide) rfl) <|
  am_fc (ok_cne dX11_next_22 (by decide) rfl) <|
  am_fc (ok_aload_n dX11_next_25 rfl rfl) <|
  am_fc (ok_dup dX11_next_26 rfl) <|
  am_fc (ok_getI cl_10 (by decide) rfl dX11_next_27 w4_143 rfl) <|
  am_fc (ok_iconst dX11_next_30 (by decide) rfl) <|
  am_fc (ok_iadd dX11_next_31 rfl) <|
  am_fc (ok_putI cl_10 (by decide) rfl (Or.inl rfl) dX11_next_32 w4_143 rfl) <|
  am_fc (ok_goto dX11_next_35 (by decide)) <|
  am_fc (ok_aload_n dX11_next_38 rfl rfl) <|
  am_fc (ok_getI cl_10 (by decide) rfl dX11_next_39 w4_143 rfl) <|
  am_fc (ok_aload_n dX11_next_42 rfl rfl) <|
  am_fc (ok_getI cl_10 (by decide) rfl dX11_next_43 w4_139 rfl) <|
  am_fc (ok_cge dX11_next_46 (by decide) rfl) <|
  am_fc (ok_aload_n dX11_next_49 rfl rfl) <|
  am_fc (ok_getR cl_10 (by decide) rfl dX11_next_50 w4_138 rfl) <|
  am_fc (ok_aload_n dX11_next_53 rfl rfl) <|
  am_fc (ok_getI cl_10 (by decide) rfl dX11_next_54 w4_143 rfl) <|
  am_fc (ok_iald dX11_next_57 rfl) <|
  am_fc (ok_goto dX11_next_58 (by decide)) <|
  am_fc (ok_iconst dX11_next_61 (by decide) rfl) <|
  am_fc (ok_iret rfl dX11_next_62) <|
  am_fn
theorem ok_cd_X11_next (l : Launch) (D : va_G) (ad : Nat → Nat) (b0 : Nat) (Hb : Heap) : ∀ q ∈ cd_X11_next, am_ok l D ad b0 Hb am_If yX11_next cX11_next 1 (some .int) q.1 q.2 := ok_cd_X11_next_0 l D ad b0 Hb
set_option maxRecDepth 100000 in
theorem ok_cd_X11_passes_0 (l : Launch) (D : va_G) (ad : Nat → Nat) (b0 : Nat) (Hb : Heap) : ∀ q ∈ cd_X11_passes_0, am_ok l D ad b0 Hb am_If yX11_passes cX11_passes 3 (some .boolean) q.1 q.2 :=
  am_fc (ok_aload_n dX11_passes_0 rfl rfl) <|
  am_fc (ok_getI cl_10 (by decide) rfl dX11_passes_1 w4_144 rfl) <|
  am_fc (ok_ifne dX11_passes_4 (by decide) rfl) <|
  am_fc (ok_aload_n dX11_passes_7 rfl rfl) <|
  am_fc (ok_invV (i := ii_X11_next) rfl (Or.inr ⟨_, rfl, by decide, rfl⟩) mm_X11_next dX11_passes_8 w5_232 rfl) <|
  am_fc (ok_iload_n dX11_passes_11 rfl rfl) <|
  am_fc (ok_cne dX11_passes_12 (by decide) rfl) <|
  am_fc (ok_iconst dX11_passes_15 (by decide) rfl) <|
  am_fc (ok_goto dX11_passes_16 (by decide)) <|
  am_fc (ok_iconst dX11_passes_19 (by decide) rfl) <|
  am_fc (ok_istore_n dX11_passes_20 rfl rfl) <|
  am_fc (ok_aload_n dX11_passes_21 rfl rfl) <|
  am_fc (ok_dup dX11_passes_22 rfl) <|
  am_fc (ok_getI cl_10 (by decide) rfl dX11_passes_23 w4_143 rfl) <|
  am_fc (ok_iload_n dX11_passes_26 rfl rfl) <|
  am_fc (ok_ifeq dX11_passes_27 (by decide) rfl) <|
  am_fc (ok_iconst dX11_passes_30 (by decide) rfl) <|
  am_fc (ok_goto dX11_passes_31 (by decide)) <|
  am_fc (ok_iconst dX11_passes_34 (by decide) rfl) <|
  am_fc (ok_iadd dX11_passes_35 rfl) <|
  am_fc (ok_putI cl_10 (by decide) rfl (Or.inl rfl) dX11_passes_36 w4_143 rfl) <|
  am_fc (ok_iload_n dX11_passes_39 rfl rfl) <|
  am_fc (ok_zret rfl dX11_passes_40) <|
  am_fn
theorem ok_cd_X11_passes (l : Launch) (D : va_G) (ad : Nat → Nat) (b0 : Nat) (Hb : Heap) : ∀ q ∈ cd_X11_passes, am_ok l D ad b0 Hb am_If yX11_passes cX11_passes 3 (some .boolean) q.1 q.2 := ok_cd_X11_passes_0 l D ad b0 Hb
set_option maxRecDepth 100000 in
theorem ok_cd_X11_claim_0 (l : Launch) (D : va_G) (ad : Nat → Nat) (b0 : Nat) (Hb : Heap) : ∀ q ∈ cd_X11_claim_0, am_ok l D ad b0 Hb am_If yX11_claim cX11_claim 7 (some .boolean) q.1 q.2 :=
  am_fc (ok_aload_n dX11_claim_0 rfl rfl) <|
  am_fc (ok_invV (i := ii_X11_next) rfl (Or.inr ⟨_, rfl, by decide, rfl⟩) mm_X11_next dX11_claim_1 w5_232 rfl) <|
  am_fc (ok_istore_n dX11_claim_4 rfl rfl) <|
  am_fc (ok_iload_n dX11_claim_5 rfl rfl) <|
  am_fc (ok_bipush dX11_claim_6 (by decide) rfl) <|
  am_fc (ok_cne dX11_claim_8 (by decide) rfl) <|
  am_fc (ok_iconst dX11_claim_11 (by decide) rfl) <|
  am_fc (ok_goto dX11_claim_12 (by decide)) <|
  am_fc (ok_iload_n dX11_claim_15 rfl rfl) <|
  am_fc (ok_bipush dX11_claim_16 (by decide) rfl) <|
  am_fc (ok_cne dX11_claim_18 (by decide) rfl) <|
  am_fc (ok_iconst dX11_claim_21 (by decide) rfl) <|
  am_fc (ok_goto dX11_claim_22 (by decide)) <|
  am_fc (ok_iload_n dX11_claim_25 rfl rfl) <|
  am_fc (ok_bipush dX11_claim_26 (by decide) rfl) <|
  am_fc (ok_cne dX11_claim_28 (by decide) rfl) <|
  am_fc (ok_iconst dX11_claim_31 (by decide) rfl) <|
  am_fc (ok_goto dX11_claim_32 (by decide)) <|
  am_fc (ok_iload_n dX11_claim_35 rfl rfl) <|
  am_fc (ok_bipush dX11_claim_36 (by decide) rfl) <|
  am_fc (ok_cne dX11_claim_38 (by decide) rfl) <|
  am_fc (ok_iconst dX11_claim_41 (by decide) rfl) <|
  am_fc (ok_goto dX11_claim_42 (by decide)) <|
  am_fc (ok_iconst dX11_claim_45 (by decide) rfl) <|
  am_fc (ok_istore_n dX11_claim_46 rfl rfl) <|
  am_fc (ok_aload_n dX11_claim_47 rfl rfl) <|
  am_fc (ok_iload_n dX11_claim_48 rfl rfl) <|
  am_fc (ok_ifne dX11_claim_49 (by decide) rfl) <|
  am_fc (ok_iconst dX11_claim_52 (by decide) rfl) <|
  am_fc (ok_goto dX11_claim_53 (by decide)) <|
  am_fc (ok_iconst dX11_claim_56 (by decide) rfl) <|
  am_fc (ok_putZ cl_10 (by decide) rfl (Or.inl rfl) dX11_claim_57 w4_144 rfl) <|
  am_fc (ok_aload_n dX11_claim_60 rfl rfl) <|
  am_fc (ok_dup dX11_claim_61 rfl) <|
  am_fc (ok_getI cl_10 (by decide) rfl dX11_claim_62 w4_143 rfl) <|
  am_fc (ok_aload_n dX11_claim_65 rfl rfl) <|
  am_fc (ok_getI cl_10 (by decide) rfl dX11_claim_66 w4_144 rfl) <|
  am_fc (ok_ifeq dX11_claim_69 (by decide) rfl) <|
  am_fc (ok_iconst dX11_claim_72 (by decide) rfl) <|
  am_fc (ok_goto dX11_claim_73 (by decide)) <|
  am_fc (ok_iconst dX11_claim_76 (by decide) rfl) <|
  am_fc (ok_iadd dX11_claim_77 rfl) <|
  am_fc (ok_putI cl_10 (by decide) rfl (Or.inl rfl) dX11_claim_78 w4_143 rfl) <|
  am_fc (ok_aload_n dX11_claim_81 rfl rfl) <|
  am_fc (ok_getI cl_10 (by decide) rfl dX11_claim_82 w4_144 rfl) <|
  am_fc (ok_ifeq dX11_claim_85 (by decide) rfl) <|
  am_fc (ok_iconst dX11_claim_88 (by decide) rfl) <|
  am_fc (ok_goto dX11_claim_89 (by decide)) <|
  am_fc (ok_aload_n dX11_claim_92 rfl rfl) <|
  am_fc (ok_invV (i := ii_X11_next) rfl (Or.inr ⟨_, rfl, by decide, rfl⟩) mm_X11_next dX11_claim_93 w5_232 rfl) <|
  am_fn
set_option maxRecDepth 100000 in
theorem ok_cd_X11_claim_1 (l : Launch) (D : va_G) (ad : Nat → Nat) (b0 : Nat) (Hb : Heap) : ∀ q ∈ cd_X11_claim_1, am_ok l D ad b0 Hb am_If yX11_claim cX11_claim 7 (some .boolean) q.1 q.2 :=
  am_fc (ok_istore dX11_claim_96 rfl) <|
  am_fc (ok_aload_n dX11_claim_98 rfl rfl) <|
  am_fc (ok_aload_n dX11_claim_99 rfl rfl) <|
  am_fc (ok_getI cl_10 (by decide) rfl dX11_claim_100 w4_144 rfl) <|
  am_fc (ok_ifne dX11_claim_103 (by decide) rfl) <|
  am_fc (ok_iload dX11_claim_106 rfl) <|
  am_fc (ok_i2l dX11_claim_108 rfl) <|
  am_fc (ok_ldc2 dX11_claim_109 w6_12 rfl) <|
  am_fc (ok_ldc2 dX11_claim_112 w6_13 rfl) <|
  am_fc (ok_invS (i := ii_X11_in) rfl mm_X11_in dX11_claim_115 w5_32 rfl) <|
  am_fc (ok_ifne dX11_claim_118 (by decide) rfl) <|
  am_fc (ok_iconst dX11_claim_121 (by decide) rfl) <|
  am_fc (ok_goto dX11_claim_122 (by decide)) <|
  am_fc (ok_iconst dX11_claim_125 (by decide) rfl) <|
  am_fc (ok_putZ cl_10 (by decide) rfl (Or.inl rfl) dX11_claim_126 w4_144 rfl) <|
  am_fc (ok_aload_n dX11_claim_129 rfl rfl) <|
  am_fc (ok_dup dX11_claim_130 rfl) <|
  am_fc (ok_getI cl_10 (by decide) rfl dX11_claim_131 w4_143 rfl) <|
  am_fc (ok_aload_n dX11_claim_134 rfl rfl) <|
  am_fc (ok_getI cl_10 (by decide) rfl dX11_claim_135 w4_144 rfl) <|
  am_fc (ok_ifeq dX11_claim_138 (by decide) rfl) <|
  am_fc (ok_iconst dX11_claim_141 (by decide) rfl) <|
  am_fc (ok_goto dX11_claim_142 (by decide)) <|
  am_fc (ok_iconst dX11_claim_145 (by decide) rfl) <|
  am_fc (ok_iadd dX11_claim_146 rfl) <|
  am_fc (ok_putI cl_10 (by decide) rfl (Or.inl rfl) dX11_claim_147 w4_143 rfl) <|
  am_fc (ok_aload_n dX11_claim_150 rfl rfl) <|
  am_fc (ok_getI cl_10 (by decide) rfl dX11_claim_151 w4_144 rfl) <|
  am_fc (ok_ifeq dX11_claim_154 (by decide) rfl) <|
  am_fc (ok_iconst dX11_claim_157 (by decide) rfl) <|
  am_fc (ok_goto dX11_claim_158 (by decide)) <|
  am_fc (ok_aload_n dX11_claim_161 rfl rfl) <|
  am_fc (ok_invV (i := ii_X11_next) rfl (Or.inr ⟨_, rfl, by decide, rfl⟩) mm_X11_next dX11_claim_162 w5_232 rfl) <|
  am_fc (ok_bipush dX11_claim_165 (by decide) rfl) <|
  am_fc (ok_isub dX11_claim_167 rfl) <|
  am_fc (ok_istore dX11_claim_168 rfl) <|
  am_fc (ok_aload_n dX11_claim_170 rfl rfl) <|
  am_fc (ok_aload_n dX11_claim_171 rfl rfl) <|
  am_fc (ok_getI cl_10 (by decide) rfl dX11_claim_172 w4_144 rfl) <|
  am_fc (ok_ifne dX11_claim_175 (by decide) rfl) <|
  am_fc (ok_iload dX11_claim_178 rfl) <|
  am_fc (ok_invS (i := ii_X11_isDigit) rfl mm_X11_isDigit dX11_claim_180 w5_69 rfl) <|
  am_fc (ok_ifne dX11_claim_183 (by decide) rfl) <|
  am_fc (ok_iconst dX11_claim_186 (by decide) rfl) <|
  am_fc (ok_goto dX11_claim_187 (by decide)) <|
  am_fc (ok_iconst dX11_claim_190 (by decide) rfl) <|
  am_fc (ok_putZ cl_10 (by decide) rfl (Or.inl rfl) dX11_claim_191 w4_144 rfl) <|
  am_fc (ok_aload_n dX11_claim_194 rfl rfl) <|
  am_fc (ok_dup dX11_claim_195 rfl) <|
  am_fc (ok_getI cl_10 (by decide) rfl dX11_claim_196 w4_143 rfl) <|
  am_fn
set_option maxRecDepth 100000 in
theorem ok_cd_X11_claim_2 (l : Launch) (D : va_G) (ad : Nat → Nat) (b0 : Nat) (Hb : Heap) : ∀ q ∈ cd_X11_claim_2, am_ok l D ad b0 Hb am_If yX11_claim cX11_claim 7 (some .boolean) q.1 q.2 :=
  am_fc (ok_aload_n dX11_claim_199 rfl rfl) <|
  am_fc (ok_getI cl_10 (by decide) rfl dX11_claim_200 w4_144 rfl) <|
  am_fc (ok_ifeq dX11_claim_203 (by decide) rfl) <|
  am_fc (ok_iconst dX11_claim_206 (by decide) rfl) <|
  am_fc (ok_goto dX11_claim_207 (by decide)) <|
  am_fc (ok_iconst dX11_claim_210 (by decide) rfl) <|
  am_fc (ok_iadd dX11_claim_211 rfl) <|
  am_fc (ok_putI cl_10 (by decide) rfl (Or.inl rfl) dX11_claim_212 w4_143 rfl) <|
  am_fc (ok_aload_n dX11_claim_215 rfl rfl) <|
  am_fc (ok_getI cl_10 (by decide) rfl dX11_claim_216 w4_144 rfl) <|
  am_fc (ok_ifeq dX11_claim_219 (by decide) rfl) <|
  am_fc (ok_iconst dX11_claim_222 (by decide) rfl) <|
  am_fc (ok_goto dX11_claim_223 (by decide)) <|
  am_fc (ok_iload_n dX11_claim_226 rfl rfl) <|
  am_fc (ok_iload_n dX11_claim_227 rfl rfl) <|
  am_fc (ok_invS (i := ii_X11_partOf) rfl mm_X11_partOf dX11_claim_228 w5_84 rfl) <|
  am_fc (ok_istore dX11_claim_231 rfl) <|
  am_fc (ok_iload dX11_claim_233 rfl) <|
  am_fc (ok_bipush dX11_claim_235 (by decide) rfl) <|
  am_fc (ok_cne dX11_claim_237 (by decide) rfl) <|
  am_fc (ok_iload dX11_claim_240 rfl) <|
  am_fc (ok_iload dX11_claim_242 rfl) <|
  am_fc (ok_cne dX11_claim_244 (by decide) rfl) <|
  am_fc (ok_iconst dX11_claim_247 (by decide) rfl) <|
  am_fc (ok_goto dX11_claim_248 (by decide)) <|
  am_fc (ok_iconst dX11_claim_251 (by decide) rfl) <|
  am_fc (ok_goto dX11_claim_252 (by decide)) <|
  am_fc (ok_iload dX11_claim_255 rfl) <|
  am_fc (ok_bipush dX11_claim_257 (by decide) rfl) <|
  am_fc (ok_cne dX11_claim_259 (by decide) rfl) <|
  am_fc (ok_iload dX11_claim_262 rfl) <|
  am_fc (ok_iload dX11_claim_264 rfl) <|
  am_fc (ok_cge dX11_claim_266 (by decide) rfl) <|
  am_fc (ok_iconst dX11_claim_269 (by decide) rfl) <|
  am_fc (ok_goto dX11_claim_270 (by decide)) <|
  am_fc (ok_iconst dX11_claim_273 (by decide) rfl) <|
  am_fc (ok_goto dX11_claim_274 (by decide)) <|
  am_fc (ok_iload dX11_claim_277 rfl) <|
  am_fc (ok_iload dX11_claim_279 rfl) <|
  am_fc (ok_cle dX11_claim_281 (by decide) rfl) <|
  am_fc (ok_iconst dX11_claim_284 (by decide) rfl) <|
  am_fc (ok_goto dX11_claim_285 (by decide)) <|
  am_fc (ok_iconst dX11_claim_288 (by decide) rfl) <|
  am_fc (ok_zret rfl dX11_claim_289) <|
  am_fn
theorem ok_cd_X11_claim (l : Launch) (D : va_G) (ad : Nat → Nat) (b0 : Nat) (Hb : Heap) : ∀ q ∈ cd_X11_claim, am_ok l D ad b0 Hb am_If yX11_claim cX11_claim 7 (some .boolean) q.1 q.2 := am_fa (ok_cd_X11_claim_0 l D ad b0 Hb) (am_fa (ok_cd_X11_claim_1 l D ad b0 Hb) (ok_cd_X11_claim_2 l D ad b0 Hb))
set_option maxRecDepth 100000 in
theorem ok_cd_X11_test_0 (l : Launch) (D : va_G) (ad : Nat → Nat) (b0 : Nat) (Hb : Heap) : ∀ q ∈ cd_X11_test_0, am_ok l D ad b0 Hb am_If yX11_test cX11_test 6 (some .boolean) q.1 q.2 :=
  am_fc (ok_iconst dX11_test_0 (by decide) rfl) <|
  am_fc (ok_istore_n dX11_test_1 rfl rfl) <|
  am_fc (ok_aload_n dX11_test_2 rfl rfl) <|
  am_fc (ok_getR cl_10 (by decide) rfl dX11_test_3 w4_145 rfl) <|
  am_fc (ok_iconst dX11_test_6 (by decide) rfl) <|
  am_fc (ok_iconst dX11_test_7 (by decide) rfl) <|
  am_fc (ok_zast dX11_test_8 rfl) <|
  am_fc (ok_aload_n dX11_test_9 rfl rfl) <|
  am_fc (ok_getR cl_10 (by decide) rfl dX11_test_10 w4_146 rfl) <|
  am_fc (ok_iconst dX11_test_13 (by decide) rfl) <|
  am_fc (ok_iconst dX11_test_14 (by decide) rfl) <|
  am_fc (ok_zast dX11_test_15 rfl) <|
  am_fc (ok_iconst dX11_test_16 (by decide) rfl) <|
  am_fc (ok_istore_n dX11_test_17 rfl rfl) <|
  am_fc (ok_aload_n dX11_test_18 rfl rfl) <|
  am_fc (ok_getI cl_10 (by decide) rfl dX11_test_19 w4_144 rfl) <|
  am_fc (ok_ifne dX11_test_22 (by decide) rfl) <|
  am_fc (ok_iload_n dX11_test_25 rfl rfl) <|
  am_fc (ok_ifeq dX11_test_26 (by decide) rfl) <|
  am_fc (ok_aload_n dX11_test_29 rfl rfl) <|
  am_fc (ok_bipush dX11_test_30 (by decide) rfl) <|
  am_fc (ok_invV (i := ii_X11_passes) rfl (Or.inr ⟨_, rfl, by decide, rfl⟩) mm_X11_passes dX11_test_32 w6_4 rfl) <|
  am_fc (ok_istore dX11_test_35 rfl) <|
  am_fc (ok_aload_n dX11_test_37 rfl rfl) <|
  am_fc (ok_invV (i := ii_X11_next) rfl (Or.inr ⟨_, rfl, by decide, rfl⟩) mm_X11_next dX11_test_38 w5_232 rfl) <|
  am_fc (ok_bipush dX11_test_41 (by decide) rfl) <|
  am_fc (ok_cne dX11_test_43 (by decide) rfl) <|
  am_fc (ok_iload_n dX11_test_46 rfl rfl) <|
  am_fc (ok_iconst dX11_test_47 (by decide) rfl) <|
  am_fc (ok_cge dX11_test_48 (by decide) rfl) <|
  am_fc (ok_aload_n dX11_test_51 rfl rfl) <|
  am_fc (ok_dup dX11_test_52 rfl) <|
  am_fc (ok_getI cl_10 (by decide) rfl dX11_test_53 w4_143 rfl) <|
  am_fc (ok_iconst dX11_test_56 (by decide) rfl) <|
  am_fc (ok_iadd dX11_test_57 rfl) <|
  am_fc (ok_putI cl_10 (by decide) rfl (Or.inl rfl) dX11_test_58 w4_143 rfl) <|
  am_fc (ok_aload_n dX11_test_61 rfl rfl) <|
  am_fc (ok_getR cl_10 (by decide) rfl dX11_test_62 w4_147 rfl) <|
  am_fc (ok_iload_n dX11_test_65 rfl rfl) <|
  am_fc (ok_iload dX11_test_66 rfl) <|
  am_fc (ok_zast dX11_test_68 rfl) <|
  am_fc (ok_iinc dX11_test_69 (by decide) rfl) <|
  am_fc (ok_aload_n dX11_test_72 rfl rfl) <|
  am_fc (ok_getR cl_10 (by decide) rfl dX11_test_73 w4_145 rfl) <|
  am_fc (ok_iload_n dX11_test_76 rfl rfl) <|
  am_fc (ok_iconst dX11_test_77 (by decide) rfl) <|
  am_fc (ok_zast dX11_test_78 rfl) <|
  am_fc (ok_aload_n dX11_test_79 rfl rfl) <|
  am_fc (ok_getR cl_10 (by decide) rfl dX11_test_80 w4_146 rfl) <|
  am_fc (ok_iload_n dX11_test_83 rfl rfl) <|
  am_fn
set_option maxRecDepth 100000 in
theorem ok_cd_X11_test_1 (l : Launch) (D : va_G) (ad : Nat → Nat) (b0 : Nat) (Hb : Heap) : ∀ q ∈ cd_X11_test_1, am_ok l D ad b0 Hb am_If yX11_test cX11_test 6 (some .boolean) q.1 q.2 :=
  am_fc (ok_iconst dX11_test_84 (by decide) rfl) <|
  am_fc (ok_zast dX11_test_85 rfl) <|
  am_fc (ok_goto dX11_test_86 (by decide)) <|
  am_fc (ok_aload_n dX11_test_89 rfl rfl) <|
  am_fc (ok_iload_n dX11_test_90 rfl rfl) <|
  am_fc (ok_invV (i := ii_X11_claim) rfl (Or.inr ⟨_, rfl, by decide, rfl⟩) mm_X11_claim dX11_test_91 w6_8 rfl) <|
  am_fc (ok_istore dX11_test_94 rfl) <|
  am_fc (ok_aload_n dX11_test_96 rfl rfl) <|
  am_fc (ok_getR cl_10 (by decide) rfl dX11_test_97 w4_146 rfl) <|
  am_fc (ok_iload_n dX11_test_100 rfl rfl) <|
  am_fc (ok_aload_n dX11_test_101 rfl rfl) <|
  am_fc (ok_getR cl_10 (by decide) rfl dX11_test_102 w4_146 rfl) <|
  am_fc (ok_iload_n dX11_test_105 rfl rfl) <|
  am_fc (ok_zald dX11_test_106 rfl) <|
  am_fc (ok_ifeq dX11_test_107 (by decide) rfl) <|
  am_fc (ok_iload dX11_test_110 rfl) <|
  am_fc (ok_iload dX11_test_112 rfl) <|
  am_fc (ok_ceq dX11_test_114 (by decide) rfl) <|
  am_fc (ok_iconst dX11_test_117 (by decide) rfl) <|
  am_fc (ok_goto dX11_test_118 (by decide)) <|
  am_fc (ok_iconst dX11_test_121 (by decide) rfl) <|
  am_fc (ok_zast dX11_test_122 rfl) <|
  am_fc (ok_iconst dX11_test_123 (by decide) rfl) <|
  am_fc (ok_istore_n dX11_test_124 rfl rfl) <|
  am_fc (ok_goto dX11_test_125 (by decide)) <|
  am_fc (ok_aload_n dX11_test_128 rfl rfl) <|
  am_fc (ok_bipush dX11_test_129 (by decide) rfl) <|
  am_fc (ok_invV (i := ii_X11_passes) rfl (Or.inr ⟨_, rfl, by decide, rfl⟩) mm_X11_passes dX11_test_131 w6_4 rfl) <|
  am_fc (ok_ifeq dX11_test_134 (by decide) rfl) <|
  am_fc (ok_iconst dX11_test_137 (by decide) rfl) <|
  am_fc (ok_istore_n dX11_test_138 rfl rfl) <|
  am_fc (ok_goto dX11_test_139 (by decide)) <|
  am_fc (ok_aload_n dX11_test_142 rfl rfl) <|
  am_fc (ok_bipush dX11_test_143 (by decide) rfl) <|
  am_fc (ok_invV (i := ii_X11_passes) rfl (Or.inr ⟨_, rfl, by decide, rfl⟩) mm_X11_passes dX11_test_145 w6_4 rfl) <|
  am_fc (ok_ifeq dX11_test_148 (by decide) rfl) <|
  am_fc (ok_aload_n dX11_test_151 rfl rfl) <|
  am_fc (ok_getR cl_10 (by decide) rfl dX11_test_152 w4_145 rfl) <|
  am_fc (ok_iload_n dX11_test_155 rfl rfl) <|
  am_fc (ok_aload_n dX11_test_156 rfl rfl) <|
  am_fc (ok_getR cl_10 (by decide) rfl dX11_test_157 w4_145 rfl) <|
  am_fc (ok_iload_n dX11_test_160 rfl rfl) <|
  am_fc (ok_zald dX11_test_161 rfl) <|
  am_fc (ok_ifne dX11_test_162 (by decide) rfl) <|
  am_fc (ok_aload_n dX11_test_165 rfl rfl) <|
  am_fc (ok_getR cl_10 (by decide) rfl dX11_test_166 w4_146 rfl) <|
  am_fc (ok_iload_n dX11_test_169 rfl rfl) <|
  am_fc (ok_zald dX11_test_170 rfl) <|
  am_fc (ok_ifeq dX11_test_171 (by decide) rfl) <|
  am_fc (ok_iconst dX11_test_174 (by decide) rfl) <|
  am_fn
set_option maxRecDepth 100000 in
theorem ok_cd_X11_test_2 (l : Launch) (D : va_G) (ad : Nat → Nat) (b0 : Nat) (Hb : Heap) : ∀ q ∈ cd_X11_test_2, am_ok l D ad b0 Hb am_If yX11_test cX11_test 6 (some .boolean) q.1 q.2 :=
  am_fc (ok_goto dX11_test_175 (by decide)) <|
  am_fc (ok_iconst dX11_test_178 (by decide) rfl) <|
  am_fc (ok_zast dX11_test_179 rfl) <|
  am_fc (ok_aload_n dX11_test_180 rfl rfl) <|
  am_fc (ok_getR cl_10 (by decide) rfl dX11_test_181 w4_146 rfl) <|
  am_fc (ok_iload_n dX11_test_184 rfl rfl) <|
  am_fc (ok_iconst dX11_test_185 (by decide) rfl) <|
  am_fc (ok_zast dX11_test_186 rfl) <|
  am_fc (ok_iconst dX11_test_187 (by decide) rfl) <|
  am_fc (ok_istore_n dX11_test_188 rfl rfl) <|
  am_fc (ok_goto dX11_test_189 (by decide)) <|
  am_fc (ok_iload_n dX11_test_192 rfl rfl) <|
  am_fc (ok_ifne dX11_test_193 (by decide) rfl) <|
  am_fc (ok_aload_n dX11_test_196 rfl rfl) <|
  am_fc (ok_getR cl_10 (by decide) rfl dX11_test_197 w4_145 rfl) <|
  am_fc (ok_iconst dX11_test_200 (by decide) rfl) <|
  am_fc (ok_zald dX11_test_201 rfl) <|
  am_fc (ok_ifne dX11_test_202 (by decide) rfl) <|
  am_fc (ok_aload_n dX11_test_205 rfl rfl) <|
  am_fc (ok_getR cl_10 (by decide) rfl dX11_test_206 w4_146 rfl) <|
  am_fc (ok_iconst dX11_test_209 (by decide) rfl) <|
  am_fc (ok_zald dX11_test_210 rfl) <|
  am_fc (ok_ifeq dX11_test_211 (by decide) rfl) <|
  am_fc (ok_iconst dX11_test_214 (by decide) rfl) <|
  am_fc (ok_goto dX11_test_215 (by decide)) <|
  am_fc (ok_iconst dX11_test_218 (by decide) rfl) <|
  am_fc (ok_zret rfl dX11_test_219) <|
  am_fc (ok_aload_n dX11_test_220 rfl rfl) <|
  am_fc (ok_aload_n dX11_test_221 rfl rfl) <|
  am_fc (ok_bipush dX11_test_222 (by decide) rfl) <|
  am_fc (ok_invV (i := ii_X11_passes) rfl (Or.inr ⟨_, rfl, by decide, rfl⟩) mm_X11_passes dX11_test_224 w6_4 rfl) <|
  am_fc (ok_ifne dX11_test_227 (by decide) rfl) <|
  am_fc (ok_iconst dX11_test_230 (by decide) rfl) <|
  am_fc (ok_goto dX11_test_231 (by decide)) <|
  am_fc (ok_iconst dX11_test_234 (by decide) rfl) <|
  am_fc (ok_putZ cl_10 (by decide) rfl (Or.inl rfl) dX11_test_235 w4_144 rfl) <|
  am_fc (ok_aload_n dX11_test_238 rfl rfl) <|
  am_fc (ok_getR cl_10 (by decide) rfl dX11_test_239 w4_145 rfl) <|
  am_fc (ok_iload_n dX11_test_242 rfl rfl) <|
  am_fc (ok_zald dX11_test_243 rfl) <|
  am_fc (ok_ifne dX11_test_244 (by decide) rfl) <|
  am_fc (ok_aload_n dX11_test_247 rfl rfl) <|
  am_fc (ok_getR cl_10 (by decide) rfl dX11_test_248 w4_146 rfl) <|
  am_fc (ok_iload_n dX11_test_251 rfl rfl) <|
  am_fc (ok_zald dX11_test_252 rfl) <|
  am_fc (ok_ifeq dX11_test_253 (by decide) rfl) <|
  am_fc (ok_iconst dX11_test_256 (by decide) rfl) <|
  am_fc (ok_goto dX11_test_257 (by decide)) <|
  am_fc (ok_iconst dX11_test_260 (by decide) rfl) <|
  am_fc (ok_istore dX11_test_261 rfl) <|
  am_fn
set_option maxRecDepth 100000 in
theorem ok_cd_X11_test_3 (l : Launch) (D : va_G) (ad : Nat → Nat) (b0 : Nat) (Hb : Heap) : ∀ q ∈ cd_X11_test_3, am_ok l D ad b0 Hb am_If yX11_test cX11_test 6 (some .boolean) q.1 q.2 :=
  am_fc (ok_iinc dX11_test_263 (by decide) rfl) <|
  am_fc (ok_aload_n dX11_test_266 rfl rfl) <|
  am_fc (ok_getR cl_10 (by decide) rfl dX11_test_267 w4_146 rfl) <|
  am_fc (ok_iload_n dX11_test_270 rfl rfl) <|
  am_fc (ok_aload_n dX11_test_271 rfl rfl) <|
  am_fc (ok_getR cl_10 (by decide) rfl dX11_test_272 w4_146 rfl) <|
  am_fc (ok_iload_n dX11_test_275 rfl rfl) <|
  am_fc (ok_zald dX11_test_276 rfl) <|
  am_fc (ok_ifeq dX11_test_277 (by decide) rfl) <|
  am_fc (ok_iload dX11_test_280 rfl) <|
  am_fc (ok_aload_n dX11_test_282 rfl rfl) <|
  am_fc (ok_getR cl_10 (by decide) rfl dX11_test_283 w4_147 rfl) <|
  am_fc (ok_iload_n dX11_test_286 rfl rfl) <|
  am_fc (ok_zald dX11_test_287 rfl) <|
  am_fc (ok_ceq dX11_test_288 (by decide) rfl) <|
  am_fc (ok_iconst dX11_test_291 (by decide) rfl) <|
  am_fc (ok_goto dX11_test_292 (by decide)) <|
  am_fc (ok_iconst dX11_test_295 (by decide) rfl) <|
  am_fc (ok_zast dX11_test_296 rfl) <|
  am_fc (ok_goto dX11_test_297 (by decide)) <|
  am_fc (ok_iconst dX11_test_300 (by decide) rfl) <|
  am_fc (ok_zret rfl dX11_test_301) <|
  am_fn
theorem ok_cd_X11_test (l : Launch) (D : va_G) (ad : Nat → Nat) (b0 : Nat) (Hb : Heap) : ∀ q ∈ cd_X11_test, am_ok l D ad b0 Hb am_If yX11_test cX11_test 6 (some .boolean) q.1 q.2 := am_fa (ok_cd_X11_test_0 l D ad b0 Hb) (am_fa (ok_cd_X11_test_1 l D ad b0 Hb) (am_fa (ok_cd_X11_test_2 l D ad b0 Hb) (ok_cd_X11_test_3 l D ad b0 Hb)))
set_option maxRecDepth 100000 in
theorem ok_cd_X11_number_0 (l : Launch) (D : va_G) (ad : Nat → Nat) (b0 : Nat) (Hb : Heap) : ∀ q ∈ cd_X11_number_0, am_ok l D ad b0 Hb am_If yX11_number cX11_number 4 (some .int) q.1 q.2 :=
  am_fc (ok_aload_n dX11_number_0 rfl rfl) <|
  am_fc (ok_getI cl_10 (by decide) rfl dX11_number_1 w4_144 rfl) <|
  am_fc (ok_ifne dX11_number_4 (by decide) rfl) <|
  am_fc (ok_aload_n dX11_number_7 rfl rfl) <|
  am_fc (ok_invV (i := ii_X11_next) rfl (Or.inr ⟨_, rfl, by decide, rfl⟩) mm_X11_next dX11_number_8 w5_232 rfl) <|
  am_fc (ok_i2l dX11_number_11 rfl) <|
  am_fc (ok_ldc2 dX11_number_12 w5_220 rfl) <|
  am_fc (ok_ldc2 dX11_number_15 w6_18 rfl) <|
  am_fc (ok_invS (i := ii_X11_in) rfl mm_X11_in dX11_number_18 w5_32 rfl) <|
  am_fc (ok_ifne dX11_number_21 (by decide) rfl) <|
  am_fc (ok_aload_n dX11_number_24 rfl rfl) <|
  am_fc (ok_iconst dX11_number_25 (by decide) rfl) <|
  am_fc (ok_putZ cl_10 (by decide) rfl (Or.inl rfl) dX11_number_26 w4_144 rfl) <|
  am_fc (ok_iconst dX11_number_29 (by decide) rfl) <|
  am_fc (ok_iret rfl dX11_number_30) <|
  am_fc (ok_aload_n dX11_number_31 rfl rfl) <|
  am_fc (ok_getI cl_10 (by decide) rfl dX11_number_32 w4_143 rfl) <|
  am_fc (ok_istore_n dX11_number_35 rfl rfl) <|
  am_fc (ok_iconst dX11_number_36 (by decide) rfl) <|
  am_fc (ok_istore_n dX11_number_37 rfl rfl) <|
  am_fc (ok_aload_n dX11_number_38 rfl rfl) <|
  am_fc (ok_getI cl_10 (by decide) rfl dX11_number_39 w4_143 rfl) <|
  am_fc (ok_aload_n dX11_number_42 rfl rfl) <|
  am_fc (ok_getI cl_10 (by decide) rfl dX11_number_43 w4_139 rfl) <|
  am_fc (ok_cge dX11_number_46 (by decide) rfl) <|
  am_fc (ok_aload_n dX11_number_49 rfl rfl) <|
  am_fc (ok_getR cl_10 (by decide) rfl dX11_number_50 w4_138 rfl) <|
  am_fc (ok_aload_n dX11_number_53 rfl rfl) <|
  am_fc (ok_getI cl_10 (by decide) rfl dX11_number_54 w4_143 rfl) <|
  am_fc (ok_iald dX11_number_57 rfl) <|
  am_fc (ok_i2l dX11_number_58 rfl) <|
  am_fc (ok_ldc2 dX11_number_59 w5_220 rfl) <|
  am_fc (ok_ldc2 dX11_number_62 w6_18 rfl) <|
  am_fc (ok_invS (i := ii_X11_in) rfl mm_X11_in dX11_number_65 w5_32 rfl) <|
  am_fc (ok_ifeq dX11_number_68 (by decide) rfl) <|
  am_fc (ok_iload_n dX11_number_71 rfl rfl) <|
  am_fc (ok_sipush dX11_number_72 (by decide) rfl) <|
  am_fc (ok_cle dX11_number_75 (by decide) rfl) <|
  am_fc (ok_iload_n dX11_number_78 rfl rfl) <|
  am_fc (ok_goto dX11_number_79 (by decide)) <|
  am_fc (ok_bipush dX11_number_82 (by decide) rfl) <|
  am_fc (ok_iload_n dX11_number_84 rfl rfl) <|
  am_fc (ok_imul dX11_number_85 rfl) <|
  am_fc (ok_aload_n dX11_number_86 rfl rfl) <|
  am_fc (ok_getR cl_10 (by decide) rfl dX11_number_87 w4_138 rfl) <|
  am_fc (ok_aload_n dX11_number_90 rfl rfl) <|
  am_fc (ok_getI cl_10 (by decide) rfl dX11_number_91 w4_143 rfl) <|
  am_fc (ok_iald dX11_number_94 rfl) <|
  am_fc (ok_iadd dX11_number_95 rfl) <|
  am_fc (ok_bipush dX11_number_96 (by decide) rfl) <|
  am_fn
set_option maxRecDepth 100000 in
theorem ok_cd_X11_number_1 (l : Launch) (D : va_G) (ad : Nat → Nat) (b0 : Nat) (Hb : Heap) : ∀ q ∈ cd_X11_number_1, am_ok l D ad b0 Hb am_If yX11_number cX11_number 4 (some .int) q.1 q.2 :=
  am_fc (ok_isub dX11_number_98 rfl) <|
  am_fc (ok_istore_n dX11_number_99 rfl rfl) <|
  am_fc (ok_aload_n dX11_number_100 rfl rfl) <|
  am_fc (ok_dup dX11_number_101 rfl) <|
  am_fc (ok_getI cl_10 (by decide) rfl dX11_number_102 w4_143 rfl) <|
  am_fc (ok_iconst dX11_number_105 (by decide) rfl) <|
  am_fc (ok_iadd dX11_number_106 rfl) <|
  am_fc (ok_putI cl_10 (by decide) rfl (Or.inl rfl) dX11_number_107 w4_143 rfl) <|
  am_fc (ok_goto dX11_number_110 (by decide)) <|
  am_fc (ok_aload_n dX11_number_113 rfl rfl) <|
  am_fc (ok_iload_n dX11_number_114 rfl rfl) <|
  am_fc (ok_iload_n dX11_number_115 rfl rfl) <|
  am_fc (ok_cle dX11_number_116 (by decide) rfl) <|
  am_fc (ok_iconst dX11_number_119 (by decide) rfl) <|
  am_fc (ok_goto dX11_number_120 (by decide)) <|
  am_fc (ok_iconst dX11_number_123 (by decide) rfl) <|
  am_fc (ok_putZ cl_10 (by decide) rfl (Or.inl rfl) dX11_number_124 w4_144 rfl) <|
  am_fc (ok_aload_n dX11_number_127 rfl rfl) <|
  am_fc (ok_aload_n dX11_number_128 rfl rfl) <|
  am_fc (ok_getI cl_10 (by decide) rfl dX11_number_129 w4_144 rfl) <|
  am_fc (ok_ifeq dX11_number_132 (by decide) rfl) <|
  am_fc (ok_iload_n dX11_number_135 rfl rfl) <|
  am_fc (ok_goto dX11_number_136 (by decide)) <|
  am_fc (ok_aload_n dX11_number_139 rfl rfl) <|
  am_fc (ok_getI cl_10 (by decide) rfl dX11_number_140 w4_143 rfl) <|
  am_fc (ok_putI cl_10 (by decide) rfl (Or.inl rfl) dX11_number_143 w4_143 rfl) <|
  am_fc (ok_iload_n dX11_number_146 rfl rfl) <|
  am_fc (ok_iret rfl dX11_number_147) <|
  am_fn
theorem ok_cd_X11_number (l : Launch) (D : va_G) (ad : Nat → Nat) (b0 : Nat) (Hb : Heap) : ∀ q ∈ cd_X11_number, am_ok l D ad b0 Hb am_If yX11_number cX11_number 4 (some .int) q.1 q.2 := am_fa (ok_cd_X11_number_0 l D ad b0 Hb) (ok_cd_X11_number_1 l D ad b0 Hb)
set_option maxRecDepth 100000 in
theorem ok_cd_X11_clause_0 (l : Launch) (D : va_G) (ad : Nat → Nat) (b0 : Nat) (Hb : Heap) : ∀ q ∈ cd_X11_clause_0, am_ok l D ad b0 Hb am_If yX11_clause cX11_clause 4 (some .boolean) q.1 q.2 :=
  am_fc (ok_aload_n dX11_clause_0 rfl rfl) <|
  am_fc (ok_iload_n dX11_clause_1 rfl rfl) <|
  am_fc (ok_invV (i := ii_X11_test) rfl (Or.inr ⟨_, rfl, by decide, rfl⟩) mm_X11_test dX11_clause_2 w6_0 rfl) <|
  am_fc (ok_istore_n dX11_clause_5 rfl rfl) <|
  am_fc (ok_aload_n dX11_clause_6 rfl rfl) <|
  am_fc (ok_aload_n dX11_clause_7 rfl rfl) <|
  am_fc (ok_getI cl_10 (by decide) rfl dX11_clause_8 w4_144 rfl) <|
  am_fc (ok_ifne dX11_clause_11 (by decide) rfl) <|
  am_fc (ok_aload_n dX11_clause_14 rfl rfl) <|
  am_fc (ok_bipush dX11_clause_15 (by decide) rfl) <|
  am_fc (ok_invV (i := ii_X11_passes) rfl (Or.inr ⟨_, rfl, by decide, rfl⟩) mm_X11_passes dX11_clause_17 w6_4 rfl) <|
  am_fc (ok_ifne dX11_clause_20 (by decide) rfl) <|
  am_fc (ok_iconst dX11_clause_23 (by decide) rfl) <|
  am_fc (ok_goto dX11_clause_24 (by decide)) <|
  am_fc (ok_iconst dX11_clause_27 (by decide) rfl) <|
  am_fc (ok_putZ cl_10 (by decide) rfl (Or.inl rfl) dX11_clause_28 w4_144 rfl) <|
  am_fc (ok_aload_n dX11_clause_31 rfl rfl) <|
  am_fc (ok_getI cl_10 (by decide) rfl dX11_clause_32 w4_144 rfl) <|
  am_fc (ok_ifeq dX11_clause_35 (by decide) rfl) <|
  am_fc (ok_iconst dX11_clause_38 (by decide) rfl) <|
  am_fc (ok_goto dX11_clause_39 (by decide)) <|
  am_fc (ok_aload_n dX11_clause_42 rfl rfl) <|
  am_fc (ok_invV (i := ii_X11_next) rfl (Or.inr ⟨_, rfl, by decide, rfl⟩) mm_X11_next dX11_clause_43 w5_232 rfl) <|
  am_fc (ok_istore_n dX11_clause_46 rfl rfl) <|
  am_fc (ok_aload_n dX11_clause_47 rfl rfl) <|
  am_fc (ok_iload_n dX11_clause_48 rfl rfl) <|
  am_fc (ok_bipush dX11_clause_49 (by decide) rfl) <|
  am_fc (ok_cne dX11_clause_51 (by decide) rfl) <|
  am_fc (ok_iconst dX11_clause_54 (by decide) rfl) <|
  am_fc (ok_goto dX11_clause_55 (by decide)) <|
  am_fc (ok_iload_n dX11_clause_58 rfl rfl) <|
  am_fc (ok_bipush dX11_clause_59 (by decide) rfl) <|
  am_fc (ok_cne dX11_clause_61 (by decide) rfl) <|
  am_fc (ok_iconst dX11_clause_64 (by decide) rfl) <|
  am_fc (ok_goto dX11_clause_65 (by decide)) <|
  am_fc (ok_iconst dX11_clause_68 (by decide) rfl) <|
  am_fc (ok_putI cl_10 (by decide) rfl (Or.inl rfl) dX11_clause_69 w4_148 rfl) <|
  am_fc (ok_aload_n dX11_clause_72 rfl rfl) <|
  am_fc (ok_aload_n dX11_clause_73 rfl rfl) <|
  am_fc (ok_getI cl_10 (by decide) rfl dX11_clause_74 w4_144 rfl) <|
  am_fc (ok_ifne dX11_clause_77 (by decide) rfl) <|
  am_fc (ok_iload_n dX11_clause_80 rfl rfl) <|
  am_fc (ok_bipush dX11_clause_81 (by decide) rfl) <|
  am_fc (ok_ceq dX11_clause_83 (by decide) rfl) <|
  am_fc (ok_iload_n dX11_clause_86 rfl rfl) <|
  am_fc (ok_bipush dX11_clause_87 (by decide) rfl) <|
  am_fc (ok_ceq dX11_clause_89 (by decide) rfl) <|
  am_fc (ok_iload_n dX11_clause_92 rfl rfl) <|
  am_fc (ok_bipush dX11_clause_93 (by decide) rfl) <|
  am_fc (ok_ceq dX11_clause_95 (by decide) rfl) <|
  am_fn
set_option maxRecDepth 100000 in
theorem ok_cd_X11_clause_1 (l : Launch) (D : va_G) (ad : Nat → Nat) (b0 : Nat) (Hb : Heap) : ∀ q ∈ cd_X11_clause_1, am_ok l D ad b0 Hb am_If yX11_clause cX11_clause 4 (some .boolean) q.1 q.2 :=
  am_fc (ok_iconst dX11_clause_98 (by decide) rfl) <|
  am_fc (ok_goto dX11_clause_99 (by decide)) <|
  am_fc (ok_iconst dX11_clause_102 (by decide) rfl) <|
  am_fc (ok_putZ cl_10 (by decide) rfl (Or.inl rfl) dX11_clause_103 w4_144 rfl) <|
  am_fc (ok_aload_n dX11_clause_106 rfl rfl) <|
  am_fc (ok_dup dX11_clause_107 rfl) <|
  am_fc (ok_getI cl_10 (by decide) rfl dX11_clause_108 w4_143 rfl) <|
  am_fc (ok_aload_n dX11_clause_111 rfl rfl) <|
  am_fc (ok_getI cl_10 (by decide) rfl dX11_clause_112 w4_144 rfl) <|
  am_fc (ok_ifeq dX11_clause_115 (by decide) rfl) <|
  am_fc (ok_iconst dX11_clause_118 (by decide) rfl) <|
  am_fc (ok_goto dX11_clause_119 (by decide)) <|
  am_fc (ok_iconst dX11_clause_122 (by decide) rfl) <|
  am_fc (ok_iadd dX11_clause_123 rfl) <|
  am_fc (ok_putI cl_10 (by decide) rfl (Or.inl rfl) dX11_clause_124 w4_143 rfl) <|
  am_fc (ok_aload_n dX11_clause_127 rfl rfl) <|
  am_fc (ok_aload_n dX11_clause_128 rfl rfl) <|
  am_fc (ok_bipush dX11_clause_129 (by decide) rfl) <|
  am_fc (ok_invV (i := ii_X11_passes) rfl (Or.inr ⟨_, rfl, by decide, rfl⟩) mm_X11_passes dX11_clause_131 w6_4 rfl) <|
  am_fc (ok_ifeq dX11_clause_134 (by decide) rfl) <|
  am_fc (ok_aload_n dX11_clause_137 rfl rfl) <|
  am_fc (ok_sipush dX11_clause_138 (by decide) rfl) <|
  am_fc (ok_invV (i := ii_X11_number) rfl (Or.inr ⟨_, rfl, by decide, rfl⟩) mm_X11_number dX11_clause_141 w6_14 rfl) <|
  am_fc (ok_goto dX11_clause_144 (by decide)) <|
  am_fc (ok_iconst dX11_clause_147 (by decide) rfl) <|
  am_fc (ok_putI cl_10 (by decide) rfl (Or.inl rfl) dX11_clause_148 w4_149 rfl) <|
  am_fc (ok_iload_n dX11_clause_151 rfl rfl) <|
  am_fc (ok_zret rfl dX11_clause_152) <|
  am_fn
theorem ok_cd_X11_clause (l : Launch) (D : va_G) (ad : Nat → Nat) (b0 : Nat) (Hb : Heap) : ∀ q ∈ cd_X11_clause, am_ok l D ad b0 Hb am_If yX11_clause cX11_clause 4 (some .boolean) q.1 q.2 := am_fa (ok_cd_X11_clause_0 l D ad b0 Hb) (ok_cd_X11_clause_1 l D ad b0 Hb)
set_option maxRecDepth 100000 in
theorem ok_cd_X11_guide_0 (l : Launch) (D : va_G) (ad : Nat → Nat) (b0 : Nat) (Hb : Heap) : ∀ q ∈ cd_X11_guide_0, am_ok l D ad b0 Hb am_If yX11_guide cX11_guide 4 (some .int) q.1 q.2 :=
  am_fc (ok_iconst dX11_guide_0 (by decide) rfl) <|
  am_fc (ok_istore_n dX11_guide_1 rfl rfl) <|
  am_fc (ok_iload_n dX11_guide_2 rfl rfl) <|
  am_fc (ok_aload_n dX11_guide_3 rfl rfl) <|
  am_fc (ok_getI cl_10 (by decide) rfl dX11_guide_4 w4_137 rfl) <|
  am_fc (ok_cge dX11_guide_7 (by decide) rfl) <|
  am_fc (ok_aload_n dX11_guide_10 rfl rfl) <|
  am_fc (ok_getR cl_10 (by decide) rfl dX11_guide_11 w4_138 rfl) <|
  am_fc (ok_iload_n dX11_guide_14 rfl rfl) <|
  am_fc (ok_aload_n dX11_guide_15 rfl rfl) <|
  am_fc (ok_getR cl_10 (by decide) rfl dX11_guide_16 w4_136 rfl) <|
  am_fc (ok_iload_n dX11_guide_19 rfl rfl) <|
  am_fc (ok_iald dX11_guide_20 rfl) <|
  am_fc (ok_iast dX11_guide_21 rfl) <|
  am_fc (ok_iinc dX11_guide_22 (by decide) rfl) <|
  am_fc (ok_goto dX11_guide_25 (by decide)) <|
  am_fc (ok_aload_n dX11_guide_28 rfl rfl) <|
  am_fc (ok_aload_n dX11_guide_29 rfl rfl) <|
  am_fc (ok_getI cl_10 (by decide) rfl dX11_guide_30 w4_137 rfl) <|
  am_fc (ok_putI cl_10 (by decide) rfl (Or.inl rfl) dX11_guide_33 w4_139 rfl) <|
  am_fc (ok_aload_n dX11_guide_36 rfl rfl) <|
  am_fc (ok_iconst dX11_guide_37 (by decide) rfl) <|
  am_fc (ok_putI cl_10 (by decide) rfl (Or.inl rfl) dX11_guide_38 w4_137 rfl) <|
  am_fc (ok_aload_n dX11_guide_41 rfl rfl) <|
  am_fc (ok_iconst dX11_guide_42 (by decide) rfl) <|
  am_fc (ok_putI cl_10 (by decide) rfl (Or.inl rfl) dX11_guide_43 w4_143 rfl) <|
  am_fc (ok_aload_n dX11_guide_46 rfl rfl) <|
  am_fc (ok_iconst dX11_guide_47 (by decide) rfl) <|
  am_fc (ok_putZ cl_10 (by decide) rfl (Or.inl rfl) dX11_guide_48 w4_144 rfl) <|
  am_fc (ok_iconst dX11_guide_51 (by decide) rfl) <|
  am_fc (ok_istore_n dX11_guide_52 rfl rfl) <|
  am_fc (ok_aload_n dX11_guide_53 rfl rfl) <|
  am_fc (ok_invV (i := ii_X11_next) rfl (Or.inr ⟨_, rfl, by decide, rfl⟩) mm_X11_next dX11_guide_54 w5_232 rfl) <|
  am_fc (ok_ifeq dX11_guide_57 (by decide) rfl) <|
  am_fc (ok_iconst dX11_guide_60 (by decide) rfl) <|
  am_fc (ok_goto dX11_guide_61 (by decide)) <|
  am_fc (ok_iconst dX11_guide_64 (by decide) rfl) <|
  am_fc (ok_istore_n dX11_guide_65 rfl rfl) <|
  am_fc (ok_iload_n dX11_guide_66 rfl rfl) <|
  am_fc (ok_ifeq dX11_guide_67 (by decide) rfl) <|
  am_fc (ok_aload_n dX11_guide_70 rfl rfl) <|
  am_fc (ok_iconst dX11_guide_71 (by decide) rfl) <|
  am_fc (ok_invV (i := ii_X11_clause) rfl (Or.inr ⟨_, rfl, by decide, rfl⟩) mm_X11_clause dX11_guide_72 w5_236 rfl) <|
  am_fc (ok_istore_n dX11_guide_75 rfl rfl) <|
  am_fc (ok_iload_n dX11_guide_76 rfl rfl) <|
  am_fc (ok_iload_n dX11_guide_77 rfl rfl) <|
  am_fc (ok_ifeq dX11_guide_78 (by decide) rfl) <|
  am_fc (ok_iconst dX11_guide_81 (by decide) rfl) <|
  am_fc (ok_goto dX11_guide_82 (by decide)) <|
  am_fc (ok_iconst dX11_guide_85 (by decide) rfl) <|
  am_fn
set_option maxRecDepth 100000 in
theorem ok_cd_X11_guide_1 (l : Launch) (D : va_G) (ad : Nat → Nat) (b0 : Nat) (Hb : Heap) : ∀ q ∈ cd_X11_guide_1, am_ok l D ad b0 Hb am_If yX11_guide cX11_guide 4 (some .int) q.1 q.2 :=
  am_fc (ok_iadd dX11_guide_86 rfl) <|
  am_fc (ok_istore_n dX11_guide_87 rfl rfl) <|
  am_fc (ok_iload_n dX11_guide_88 rfl rfl) <|
  am_fc (ok_bipush dX11_guide_89 (by decide) rfl) <|
  am_fc (ok_cge dX11_guide_91 (by decide) rfl) <|
  am_fc (ok_aload_n dX11_guide_94 rfl rfl) <|
  am_fc (ok_bipush dX11_guide_95 (by decide) rfl) <|
  am_fc (ok_invV (i := ii_X11_passes) rfl (Or.inr ⟨_, rfl, by decide, rfl⟩) mm_X11_passes dX11_guide_97 w6_4 rfl) <|
  am_fc (ok_ifeq dX11_guide_100 (by decide) rfl) <|
  am_fc (ok_iconst dX11_guide_103 (by decide) rfl) <|
  am_fc (ok_goto dX11_guide_104 (by decide)) <|
  am_fc (ok_iconst dX11_guide_107 (by decide) rfl) <|
  am_fc (ok_istore_n dX11_guide_108 rfl rfl) <|
  am_fc (ok_goto dX11_guide_109 (by decide)) <|
  am_fc (ok_aload_n dX11_guide_112 rfl rfl) <|
  am_fc (ok_aload_n dX11_guide_113 rfl rfl) <|
  am_fc (ok_getI cl_10 (by decide) rfl dX11_guide_114 w4_144 rfl) <|
  am_fc (ok_ifne dX11_guide_117 (by decide) rfl) <|
  am_fc (ok_aload_n dX11_guide_120 rfl rfl) <|
  am_fc (ok_invV (i := ii_X11_next) rfl (Or.inr ⟨_, rfl, by decide, rfl⟩) mm_X11_next dX11_guide_121 w5_232 rfl) <|
  am_fc (ok_ifeq dX11_guide_124 (by decide) rfl) <|
  am_fc (ok_iconst dX11_guide_127 (by decide) rfl) <|
  am_fc (ok_goto dX11_guide_128 (by decide)) <|
  am_fc (ok_iconst dX11_guide_131 (by decide) rfl) <|
  am_fc (ok_putZ cl_10 (by decide) rfl (Or.inl rfl) dX11_guide_132 w4_144 rfl) <|
  am_fc (ok_aload_n dX11_guide_135 rfl rfl) <|
  am_fc (ok_getI cl_10 (by decide) rfl dX11_guide_136 w4_144 rfl) <|
  am_fc (ok_ifeq dX11_guide_139 (by decide) rfl) <|
  am_fc (ok_bipush dX11_guide_142 (by decide) rfl) <|
  am_fc (ok_aload_n dX11_guide_144 rfl rfl) <|
  am_fc (ok_getI cl_10 (by decide) rfl dX11_guide_145 w4_143 rfl) <|
  am_fc (ok_isub dX11_guide_148 rfl) <|
  am_fc (ok_iret rfl dX11_guide_149) <|
  am_fc (ok_iconst dX11_guide_150 (by decide) rfl) <|
  am_fc (ok_istore_n dX11_guide_151 rfl rfl) <|
  am_fc (ok_iload_n dX11_guide_152 rfl rfl) <|
  am_fc (ok_aload_n dX11_guide_153 rfl rfl) <|
  am_fc (ok_getI cl_10 (by decide) rfl dX11_guide_154 w4_139 rfl) <|
  am_fc (ok_cge dX11_guide_157 (by decide) rfl) <|
  am_fc (ok_aload_n dX11_guide_160 rfl rfl) <|
  am_fc (ok_getR cl_10 (by decide) rfl dX11_guide_161 w4_140 rfl) <|
  am_fc (ok_iload_n dX11_guide_164 rfl rfl) <|
  am_fc (ok_aload_n dX11_guide_165 rfl rfl) <|
  am_fc (ok_getR cl_10 (by decide) rfl dX11_guide_166 w4_138 rfl) <|
  am_fc (ok_iload_n dX11_guide_169 rfl rfl) <|
  am_fc (ok_iald dX11_guide_170 rfl) <|
  am_fc (ok_iast dX11_guide_171 rfl) <|
  am_fc (ok_iinc dX11_guide_172 (by decide) rfl) <|
  am_fc (ok_goto dX11_guide_175 (by decide)) <|
  am_fc (ok_aload_n dX11_guide_178 rfl rfl) <|
  am_fn
set_option maxRecDepth 100000 in
theorem ok_cd_X11_guide_2 (l : Launch) (D : va_G) (ad : Nat → Nat) (b0 : Nat) (Hb : Heap) : ∀ q ∈ cd_X11_guide_2, am_ok l D ad b0 Hb am_If yX11_guide cX11_guide 4 (some .int) q.1 q.2 :=
  am_fc (ok_aload_n dX11_guide_179 rfl rfl) <|
  am_fc (ok_getI cl_10 (by decide) rfl dX11_guide_180 w4_139 rfl) <|
  am_fc (ok_putI cl_10 (by decide) rfl (Or.inl rfl) dX11_guide_183 w4_141 rfl) <|
  am_fc (ok_aload_n dX11_guide_186 rfl rfl) <|
  am_fc (ok_iload_n dX11_guide_187 rfl rfl) <|
  am_fc (ok_putI cl_10 (by decide) rfl (Or.inl rfl) dX11_guide_188 w4_142 rfl) <|
  am_fc (ok_iload_n dX11_guide_191 rfl rfl) <|
  am_fc (ok_iret rfl dX11_guide_192) <|
  am_fn
theorem ok_cd_X11_guide (l : Launch) (D : va_G) (ad : Nat → Nat) (b0 : Nat) (Hb : Heap) : ∀ q ∈ cd_X11_guide, am_ok l D ad b0 Hb am_If yX11_guide cX11_guide 4 (some .int) q.1 q.2 := am_fa (ok_cd_X11_guide_0 l D ad b0 Hb) (am_fa (ok_cd_X11_guide_1 l D ad b0 Hb) (ok_cd_X11_guide_2 l D ad b0 Hb))
set_option maxRecDepth 100000 in
theorem ok_cd_X11_why_0 (l : Launch) (D : va_G) (ad : Nat → Nat) (b0 : Nat) (Hb : Heap) : ∀ q ∈ cd_X11_why_0, am_ok l D ad b0 Hb am_If yX11_why cX11_why 8 (some .int) q.1 q.2 :=
  am_fc (ok_aload_n dX11_why_0 rfl rfl) <|
  am_fc (ok_iload_n dX11_why_1 rfl rfl) <|
  am_fc (ok_invV (i := ii_X11_isSaying) rfl (Or.inr ⟨_, rfl, by decide, rfl⟩) mm_X11_isSaying dX11_why_2 w5_80 rfl) <|
  am_fc (ok_ifeq dX11_why_5 (by decide) rfl) <|
  am_fc (ok_iload_n dX11_why_8 rfl rfl) <|
  am_fc (ok_i2l dX11_why_9 rfl) <|
  am_fc (ok_lconst dX11_why_10 (by decide) rfl) <|
  am_fc (ok_lconst dX11_why_11 (by decide) rfl) <|
  am_fc (ok_invS (i := ii_X11_in) rfl mm_X11_in dX11_why_12 w5_32 rfl) <|
  am_fc (ok_ifne dX11_why_15 (by decide) rfl) <|
  am_fc (ok_iconst dX11_why_18 (by decide) rfl) <|
  am_fc (ok_iret rfl dX11_why_19) <|
  am_fc (ok_iconst dX11_why_20 (by decide) rfl) <|
  am_fc (ok_istore_n dX11_why_21 rfl rfl) <|
  am_fc (ok_iload_n dX11_why_22 rfl rfl) <|
  am_fc (ok_aload_n dX11_why_23 rfl rfl) <|
  am_fc (ok_getI cl_10 (by decide) rfl dX11_why_24 w4_141 rfl) <|
  am_fc (ok_cge dX11_why_27 (by decide) rfl) <|
  am_fc (ok_aload_n dX11_why_30 rfl rfl) <|
  am_fc (ok_getR cl_10 (by decide) rfl dX11_why_31 w4_138 rfl) <|
  am_fc (ok_iload_n dX11_why_34 rfl rfl) <|
  am_fc (ok_aload_n dX11_why_35 rfl rfl) <|
  am_fc (ok_getR cl_10 (by decide) rfl dX11_why_36 w4_140 rfl) <|
  am_fc (ok_iload_n dX11_why_39 rfl rfl) <|
  am_fc (ok_iald dX11_why_40 rfl) <|
  am_fc (ok_iast dX11_why_41 rfl) <|
  am_fc (ok_iinc dX11_why_42 (by decide) rfl) <|
  am_fc (ok_goto dX11_why_45 (by decide)) <|
  am_fc (ok_aload_n dX11_why_48 rfl rfl) <|
  am_fc (ok_aload_n dX11_why_49 rfl rfl) <|
  am_fc (ok_getI cl_10 (by decide) rfl dX11_why_50 w4_141 rfl) <|
  am_fc (ok_putI cl_10 (by decide) rfl (Or.inl rfl) dX11_why_53 w4_139 rfl) <|
  am_fc (ok_aload_n dX11_why_56 rfl rfl) <|
  am_fc (ok_iconst dX11_why_57 (by decide) rfl) <|
  am_fc (ok_putI cl_10 (by decide) rfl (Or.inl rfl) dX11_why_58 w4_143 rfl) <|
  am_fc (ok_aload_n dX11_why_61 rfl rfl) <|
  am_fc (ok_iconst dX11_why_62 (by decide) rfl) <|
  am_fc (ok_putZ cl_10 (by decide) rfl (Or.inl rfl) dX11_why_63 w4_144 rfl) <|
  am_fc (ok_bipush dX11_why_66 (by decide) rfl) <|
  am_fc (ok_istore_n dX11_why_68 rfl rfl) <|
  am_fc (ok_iconst dX11_why_69 (by decide) rfl) <|
  am_fc (ok_istore dX11_why_70 rfl) <|
  am_fc (ok_iload dX11_why_72 rfl) <|
  am_fc (ok_aload_n dX11_why_74 rfl rfl) <|
  am_fc (ok_getI cl_10 (by decide) rfl dX11_why_75 w4_142 rfl) <|
  am_fc (ok_cge dX11_why_78 (by decide) rfl) <|
  am_fc (ok_aload_n dX11_why_81 rfl rfl) <|
  am_fc (ok_aload_n dX11_why_82 rfl rfl) <|
  am_fc (ok_getR cl_10 (by decide) rfl dX11_why_83 w4_119 rfl) <|
  am_fc (ok_iload_n dX11_why_86 rfl rfl) <|
  am_fn
set_option maxRecDepth 100000 in
theorem ok_cd_X11_why_1 (l : Launch) (D : va_G) (ad : Nat → Nat) (b0 : Nat) (Hb : Heap) : ∀ q ∈ cd_X11_why_1, am_ok l D ad b0 Hb am_If yX11_why cX11_why 8 (some .int) q.1 q.2 :=
  am_fc (ok_iald dX11_why_87 rfl) <|
  am_fc (ok_invV (i := ii_X11_clause) rfl (Or.inr ⟨_, rfl, by decide, rfl⟩) mm_X11_clause dX11_why_88 w5_236 rfl) <|
  am_fc (ok_istore dX11_why_91 rfl) <|
  am_fc (ok_iload dX11_why_93 rfl) <|
  am_fc (ok_ifeq dX11_why_95 (by decide) rfl) <|
  am_fc (ok_aload_n dX11_why_98 rfl rfl) <|
  am_fc (ok_getI cl_10 (by decide) rfl dX11_why_99 w4_149 rfl) <|
  am_fc (ok_aload_n dX11_why_102 rfl rfl) <|
  am_fc (ok_getI cl_10 (by decide) rfl dX11_why_103 w4_116 rfl) <|
  am_fc (ok_bipush dX11_why_106 (by decide) rfl) <|
  am_fc (ok_idiv dX11_why_108 rfl) <|
  am_fc (ok_cgt dX11_why_109 (by decide) rfl) <|
  am_fc (ok_iconst dX11_why_112 (by decide) rfl) <|
  am_fc (ok_goto dX11_why_113 (by decide)) <|
  am_fc (ok_iconst dX11_why_116 (by decide) rfl) <|
  am_fc (ok_istore dX11_why_117 rfl) <|
  am_fc (ok_iload dX11_why_119 rfl) <|
  am_fc (ok_ifeq dX11_why_121 (by decide) rfl) <|
  am_fc (ok_iload_n dX11_why_124 rfl rfl) <|
  am_fc (ok_ifne dX11_why_125 (by decide) rfl) <|
  am_fc (ok_iload dX11_why_128 rfl) <|
  am_fc (ok_goto dX11_why_130 (by decide)) <|
  am_fc (ok_aload_n dX11_why_133 rfl rfl) <|
  am_fc (ok_getI cl_10 (by decide) rfl dX11_why_134 w4_148 rfl) <|
  am_fc (ok_goto dX11_why_137 (by decide)) <|
  am_fc (ok_iload_n dX11_why_140 rfl rfl) <|
  am_fc (ok_istore_n dX11_why_141 rfl rfl) <|
  am_fc (ok_aload_n dX11_why_142 rfl rfl) <|
  am_fc (ok_bipush dX11_why_143 (by decide) rfl) <|
  am_fc (ok_invV (i := ii_X11_passes) rfl (Or.inr ⟨_, rfl, by decide, rfl⟩) mm_X11_passes dX11_why_145 w6_4 rfl) <|
  am_fc (ok_istore dX11_why_148 rfl) <|
  am_fc (ok_aload_n dX11_why_150 rfl rfl) <|
  am_fc (ok_aload_n dX11_why_151 rfl rfl) <|
  am_fc (ok_getI cl_10 (by decide) rfl dX11_why_152 w4_144 rfl) <|
  am_fc (ok_ifeq dX11_why_155 (by decide) rfl) <|
  am_fc (ok_iload dX11_why_158 rfl) <|
  am_fc (ok_ifeq dX11_why_160 (by decide) rfl) <|
  am_fc (ok_iconst dX11_why_163 (by decide) rfl) <|
  am_fc (ok_goto dX11_why_164 (by decide)) <|
  am_fc (ok_iconst dX11_why_167 (by decide) rfl) <|
  am_fc (ok_putZ cl_10 (by decide) rfl (Or.inl rfl) dX11_why_168 w4_144 rfl) <|
  am_fc (ok_iinc dX11_why_171 (by decide) rfl) <|
  am_fc (ok_goto dX11_why_174 (by decide)) <|
  am_fc (ok_iload_n dX11_why_177 rfl rfl) <|
  am_fc (ok_iret rfl dX11_why_178) <|
  am_fn
theorem ok_cd_X11_why (l : Launch) (D : va_G) (ad : Nat → Nat) (b0 : Nat) (Hb : Heap) : ∀ q ∈ cd_X11_why, am_ok l D ad b0 Hb am_If yX11_why cX11_why 8 (some .int) q.1 q.2 := am_fa (ok_cd_X11_why_0 l D ad b0 Hb) (ok_cd_X11_why_1 l D ad b0 Hb)
set_option maxRecDepth 100000 in
theorem ok_cd_X11_looks_0 (l : Launch) (D : va_G) (ad : Nat → Nat) (b0 : Nat) (Hb : Heap) : ∀ q ∈ cd_X11_looks_0, am_ok l D ad b0 Hb am_If yX11_looks cX11_looks 7 (none) q.1 q.2 :=
  am_fc (ok_aload_n dX11_looks_0 rfl rfl) <|
  am_fc (ok_iconst dX11_looks_1 (by decide) rfl) <|
  am_fc (ok_putI cl_10 (by decide) rfl (Or.inl rfl) dX11_looks_2 w4_151 rfl) <|
  am_fc (ok_iconst dX11_looks_5 (by decide) rfl) <|
  am_fc (ok_istore_n dX11_looks_6 rfl rfl) <|
  am_fc (ok_iconst dX11_looks_7 (by decide) rfl) <|
  am_fc (ok_istore_n dX11_looks_8 rfl rfl) <|
  am_fc (ok_iload_n dX11_looks_9 rfl rfl) <|
  am_fc (ok_ifeq dX11_looks_10 (by decide) rfl) <|
  am_fc (ok_aload_n dX11_looks_13 rfl rfl) <|
  am_fc (ok_getI cl_10 (by decide) rfl dX11_looks_14 w4_151 rfl) <|
  am_fc (ok_bipush dX11_looks_17 (by decide) rfl) <|
  am_fc (ok_cge dX11_looks_19 (by decide) rfl) <|
  am_fc (ok_sipush dX11_looks_22 (by decide) rfl) <|
  am_fc (ok_istore dX11_looks_25 rfl) <|
  am_fc (ok_iconst dX11_looks_27 (by decide) rfl) <|
  am_fc (ok_istore dX11_looks_28 rfl) <|
  am_fc (ok_iload dX11_looks_30 rfl) <|
  am_fc (ok_aload_n dX11_looks_32 rfl rfl) <|
  am_fc (ok_getI cl_10 (by decide) rfl dX11_looks_33 w4_113 rfl) <|
  am_fc (ok_cge dX11_looks_36 (by decide) rfl) <|
  am_fc (ok_bipush dX11_looks_39 (by decide) rfl) <|
  am_fc (ok_iload dX11_looks_41 rfl) <|
  am_fc (ok_imul dX11_looks_43 rfl) <|
  am_fc (ok_iload_n dX11_looks_44 rfl rfl) <|
  am_fc (ok_iadd dX11_looks_45 rfl) <|
  am_fc (ok_istore dX11_looks_46 rfl) <|
  am_fc (ok_aload_n dX11_looks_48 rfl rfl) <|
  am_fc (ok_getR cl_10 (by decide) rfl dX11_looks_49 w4_125 rfl) <|
  am_fc (ok_iload dX11_looks_52 rfl) <|
  am_fc (ok_iald dX11_looks_54 rfl) <|
  am_fc (ok_ifeq dX11_looks_55 (by decide) rfl) <|
  am_fc (ok_aload_n dX11_looks_58 rfl rfl) <|
  am_fc (ok_getR cl_10 (by decide) rfl dX11_looks_59 w4_127 rfl) <|
  am_fc (ok_iload dX11_looks_62 rfl) <|
  am_fc (ok_iald dX11_looks_64 rfl) <|
  am_fc (ok_iload_n dX11_looks_65 rfl rfl) <|
  am_fc (ok_cle dX11_looks_66 (by decide) rfl) <|
  am_fc (ok_aload_n dX11_looks_69 rfl rfl) <|
  am_fc (ok_getR cl_10 (by decide) rfl dX11_looks_70 w4_127 rfl) <|
  am_fc (ok_iload dX11_looks_73 rfl) <|
  am_fc (ok_iald dX11_looks_75 rfl) <|
  am_fc (ok_iload dX11_looks_76 rfl) <|
  am_fc (ok_cge dX11_looks_78 (by decide) rfl) <|
  am_fc (ok_aload_n dX11_looks_81 rfl rfl) <|
  am_fc (ok_getR cl_10 (by decide) rfl dX11_looks_82 w4_127 rfl) <|
  am_fc (ok_iload dX11_looks_85 rfl) <|
  am_fc (ok_iald dX11_looks_87 rfl) <|
  am_fc (ok_goto dX11_looks_88 (by decide)) <|
  am_fc (ok_iload dX11_looks_91 rfl) <|
  am_fn
set_option maxRecDepth 100000 in
theorem ok_cd_X11_looks_1 (l : Launch) (D : va_G) (ad : Nat → Nat) (b0 : Nat) (Hb : Heap) : ∀ q ∈ cd_X11_looks_1, am_ok l D ad b0 Hb am_If yX11_looks cX11_looks 7 (none) q.1 q.2 :=
  am_fc (ok_istore dX11_looks_93 rfl) <|
  am_fc (ok_iinc dX11_looks_95 (by decide) rfl) <|
  am_fc (ok_goto dX11_looks_98 (by decide)) <|
  am_fc (ok_iload dX11_looks_101 rfl) <|
  am_fc (ok_sipush dX11_looks_103 (by decide) rfl) <|
  am_fc (ok_cge dX11_looks_106 (by decide) rfl) <|
  am_fc (ok_iconst dX11_looks_109 (by decide) rfl) <|
  am_fc (ok_goto dX11_looks_110 (by decide)) <|
  am_fc (ok_iconst dX11_looks_113 (by decide) rfl) <|
  am_fc (ok_istore_n dX11_looks_114 rfl rfl) <|
  am_fc (ok_iload_n dX11_looks_115 rfl rfl) <|
  am_fc (ok_ifeq dX11_looks_116 (by decide) rfl) <|
  am_fc (ok_aload_n dX11_looks_119 rfl rfl) <|
  am_fc (ok_getR cl_10 (by decide) rfl dX11_looks_120 w4_150 rfl) <|
  am_fc (ok_aload_n dX11_looks_123 rfl rfl) <|
  am_fc (ok_getI cl_10 (by decide) rfl dX11_looks_124 w4_151 rfl) <|
  am_fc (ok_iload dX11_looks_127 rfl) <|
  am_fc (ok_iast dX11_looks_129 rfl) <|
  am_fc (ok_aload_n dX11_looks_130 rfl rfl) <|
  am_fc (ok_dup dX11_looks_131 rfl) <|
  am_fc (ok_getI cl_10 (by decide) rfl dX11_looks_132 w4_151 rfl) <|
  am_fc (ok_iconst dX11_looks_135 (by decide) rfl) <|
  am_fc (ok_iadd dX11_looks_136 rfl) <|
  am_fc (ok_putI cl_10 (by decide) rfl (Or.inl rfl) dX11_looks_137 w4_151 rfl) <|
  am_fc (ok_iload dX11_looks_140 rfl) <|
  am_fc (ok_istore_n dX11_looks_142 rfl rfl) <|
  am_fc (ok_goto dX11_looks_143 (by decide)) <|
  am_fc (ok_vret rfl dX11_looks_146) <|
  am_fn
theorem ok_cd_X11_looks (l : Launch) (D : va_G) (ad : Nat → Nat) (b0 : Nat) (Hb : Heap) : ∀ q ∈ cd_X11_looks, am_ok l D ad b0 Hb am_If yX11_looks cX11_looks 7 (none) q.1 q.2 := am_fa (ok_cd_X11_looks_0 l D ad b0 Hb) (ok_cd_X11_looks_1 l D ad b0 Hb)
