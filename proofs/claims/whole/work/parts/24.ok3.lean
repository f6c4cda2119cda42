set_option maxRecDepth 100000 in
theorem ok_cd_X10_isSheet_0 (l : Launch) (D : va_G) (ad : Nat → Nat) (b0 : Nat) (Hb : Heap) : ∀ q ∈ cd_X10_isSheet_0, am_ok l D ad b0 Hb am_If yX10_isSheet cX10_isSheet 1 (some .boolean) q.1 q.2 :=
  am_fc (ok_iload_n dX10_isSheet_0 rfl rfl) <|
  am_fc (ok_iconst dX10_isSheet_1 (by decide) rfl) <|
  am_fc (ok_invS (i := ii_X10_within) rfl mm_X10_within dX10_isSheet_2 w2_45 rfl) <|
  am_fc (ok_zret rfl dX10_isSheet_5) <|
  am_fn
theorem ok_cd_X10_isSheet (l : Launch) (D : va_G) (ad : Nat → Nat) (b0 : Nat) (Hb : Heap) : ∀ q ∈ cd_X10_isSheet, am_ok l D ad b0 Hb am_If yX10_isSheet cX10_isSheet 1 (some .boolean) q.1 q.2 := ok_cd_X10_isSheet_0 l D ad b0 Hb
set_option maxRecDepth 100000 in
theorem ok_cd_X10_isPerson_0 (l : Launch) (D : va_G) (ad : Nat → Nat) (b0 : Nat) (Hb : Heap) : ∀ q ∈ cd_X10_isPerson_0, am_ok l D ad b0 Hb am_If yX10_isPerson cX10_isPerson 2 (some .boolean) q.1 q.2 :=
  am_fc (ok_iload_n dX10_isPerson_0 rfl rfl) <|
  am_fc (ok_aload_n dX10_isPerson_1 rfl rfl) <|
  am_fc (ok_getR cl_9 (by decide) rfl dX10_isPerson_2 w2_4 rfl) <|
  am_fc (ok_getI cl_8 (by decide) rfl dX10_isPerson_5 w1_41 rfl) <|
  am_fc (ok_iconst dX10_isPerson_8 (by decide) rfl) <|
  am_fc (ok_isub dX10_isPerson_9 rfl) <|
  am_fc (ok_invS (i := ii_X10_within) rfl mm_X10_within dX10_isPerson_10 w2_45 rfl) <|
  am_fc (ok_zret rfl dX10_isPerson_13) <|
  am_fn
theorem ok_cd_X10_isPerson (l : Launch) (D : va_G) (ad : Nat → Nat) (b0 : Nat) (Hb : Heap) : ∀ q ∈ cd_X10_isPerson, am_ok l D ad b0 Hb am_If yX10_isPerson cX10_isPerson 2 (some .boolean) q.1 q.2 := ok_cd_X10_isPerson_0 l D ad b0 Hb
set_option maxRecDepth 100000 in
theorem ok_cd_X10_isSaying_0 (l : Launch) (D : va_G) (ad : Nat → Nat) (b0 : Nat) (Hb : Heap) : ∀ q ∈ cd_X10_isSaying_0, am_ok l D ad b0 Hb am_If yX10_isSaying cX10_isSaying 2 (some .boolean) q.1 q.2 :=
  am_fc (ok_iload_n dX10_isSaying_0 rfl rfl) <|
  am_fc (ok_aload_n dX10_isSaying_1 rfl rfl) <|
  am_fc (ok_getI cl_9 (by decide) rfl dX10_isSaying_2 w2_14 rfl) <|
  am_fc (ok_iconst dX10_isSaying_5 (by decide) rfl) <|
  am_fc (ok_isub dX10_isSaying_6 rfl) <|
  am_fc (ok_invS (i := ii_X10_within) rfl mm_X10_within dX10_isSaying_7 w2_45 rfl) <|
  am_fc (ok_zret rfl dX10_isSaying_10) <|
  am_fn
theorem ok_cd_X10_isSaying (l : Launch) (D : va_G) (ad : Nat → Nat) (b0 : Nat) (Hb : Heap) : ∀ q ∈ cd_X10_isSaying, am_ok l D ad b0 Hb am_If yX10_isSaying cX10_isSaying 2 (some .boolean) q.1 q.2 := ok_cd_X10_isSaying_0 l D ad b0 Hb
set_option maxRecDepth 100000 in
theorem ok_cd_X10_comeUp_0 (l : Launch) (D : va_G) (ad : Nat → Nat) (b0 : Nat) (Hb : Heap) : ∀ q ∈ cd_X10_comeUp_0, am_ok l D ad b0 Hb am_If yX10_comeUp cX10_comeUp 4 (some .int) q.1 q.2 :=
  am_fc (ok_aload_n dX10_comeUp_0 rfl rfl) <|
  am_fc (ok_getI cl_9 (by decide) rfl dX10_comeUp_1 w2_14 rfl) <|
  am_fc (ok_bipush dX10_comeUp_4 (by decide) rfl) <|
  am_fc (ok_clt dX10_comeUp_6 (by decide) rfl) <|
  am_fc (ok_bipush dX10_comeUp_9 (by decide) rfl) <|
  am_fc (ok_iret rfl dX10_comeUp_11) <|
  am_fc (ok_aload_n dX10_comeUp_12 rfl rfl) <|
  am_fc (ok_getR cl_9 (by decide) rfl dX10_comeUp_13 w2_5 rfl) <|
  am_fc (ok_aload_n dX10_comeUp_16 rfl rfl) <|
  am_fc (ok_getI cl_9 (by decide) rfl dX10_comeUp_17 w2_14 rfl) <|
  am_fc (ok_aald (by decide) (by decide) dX10_comeUp_20 rfl) <|
  am_fc (ok_astore_n dX10_comeUp_21 rfl rfl) <|
  am_fc (ok_aload_n dX10_comeUp_22 rfl rfl) <|
  am_fc (ok_iload_n dX10_comeUp_23 rfl rfl) <|
  am_fc (ok_putI cl_4 (by decide) rfl (Or.inl rfl) dX10_comeUp_24 w1_204 rfl) <|
  am_fc (ok_aload_n dX10_comeUp_27 rfl rfl) <|
  am_fc (ok_iload_n dX10_comeUp_28 rfl rfl) <|
  am_fc (ok_putI cl_4 (by decide) rfl (Or.inl rfl) dX10_comeUp_29 w1_205 rfl) <|
  am_fc (ok_aload_n dX10_comeUp_32 rfl rfl) <|
  am_fc (ok_dup dX10_comeUp_33 rfl) <|
  am_fc (ok_getI cl_9 (by decide) rfl dX10_comeUp_34 w2_14 rfl) <|
  am_fc (ok_iconst dX10_comeUp_37 (by decide) rfl) <|
  am_fc (ok_iadd dX10_comeUp_38 rfl) <|
  am_fc (ok_putI cl_9 (by decide) rfl (Or.inl rfl) dX10_comeUp_39 w2_14 rfl) <|
  am_fc (ok_aload_n dX10_comeUp_42 rfl rfl) <|
  am_fc (ok_getI cl_9 (by decide) rfl dX10_comeUp_43 w2_14 rfl) <|
  am_fc (ok_iconst dX10_comeUp_46 (by decide) rfl) <|
  am_fc (ok_isub dX10_comeUp_47 rfl) <|
  am_fc (ok_iret rfl dX10_comeUp_48) <|
  am_fn
theorem ok_cd_X10_comeUp (l : Launch) (D : va_G) (ad : Nat → Nat) (b0 : Nat) (Hb : Heap) : ∀ q ∈ cd_X10_comeUp, am_ok l D ad b0 Hb am_If yX10_comeUp cX10_comeUp 4 (some .int) q.1 q.2 := ok_cd_X10_comeUp_0 l D ad b0 Hb
set_option maxRecDepth 100000 in
theorem ok_cd_X10_harmAhead_0 (l : Launch) (D : va_G) (ad : Nat → Nat) (b0 : Nat) (Hb : Heap) : ∀ q ∈ cd_X10_harmAhead_0, am_ok l D ad b0 Hb am_If yX10_harmAhead cX10_harmAhead 5 (some .int) q.1 q.2 :=
  am_fc (ok_aload_n dX10_harmAhead_0 rfl rfl) <|
  am_fc (ok_getR cl_9 (by decide) rfl dX10_harmAhead_1 w2_5 rfl) <|
  am_fc (ok_iload_n dX10_harmAhead_4 rfl rfl) <|
  am_fc (ok_aald (by decide) (by decide) dX10_harmAhead_5 rfl) <|
  am_fc (ok_astore dX10_harmAhead_6 rfl) <|
  am_fc (ok_aload dX10_harmAhead_8 rfl) <|
  am_fc (ok_getI cl_4 (by decide) rfl dX10_harmAhead_10 w1_204 rfl) <|
  am_fc (ok_iconst dX10_harmAhead_13 (by decide) rfl) <|
  am_fc (ok_cne dX10_harmAhead_14 (by decide) rfl) <|
  am_fc (ok_iconst dX10_harmAhead_17 (by decide) rfl) <|
  am_fc (ok_iret rfl dX10_harmAhead_18) <|
  am_fc (ok_aload_n dX10_harmAhead_19 rfl rfl) <|
  am_fc (ok_getR cl_9 (by decide) rfl dX10_harmAhead_20 w2_6 rfl) <|
  am_fc (ok_aload dX10_harmAhead_23 rfl) <|
  am_fc (ok_getR cl_4 (by decide) rfl dX10_harmAhead_25 w1_202 rfl) <|
  am_fc (ok_invV (i := ii_X7_becomeLike) rfl (Or.inr ⟨_, rfl, by decide, rfl⟩) mm_X7_becomeLike dX10_harmAhead_28 w3_2 rfl) <|
  am_fc (ok_iload_n dX10_harmAhead_31 rfl rfl) <|
  am_fc (ok_iconst dX10_harmAhead_32 (by decide) rfl) <|
  am_fc (ok_ceq dX10_harmAhead_33 (by decide) rfl) <|
  am_fc (ok_aload_n dX10_harmAhead_36 rfl rfl) <|
  am_fc (ok_getR cl_9 (by decide) rfl dX10_harmAhead_37 w2_4 rfl) <|
  am_fc (ok_aload_n dX10_harmAhead_40 rfl rfl) <|
  am_fc (ok_getR cl_9 (by decide) rfl dX10_harmAhead_41 w2_6 rfl) <|
  am_fc (ok_aload dX10_harmAhead_44 rfl) <|
  am_fc (ok_getI cl_4 (by decide) rfl dX10_harmAhead_46 w1_205 rfl) <|
  am_fc (ok_iload_n dX10_harmAhead_49 rfl rfl) <|
  am_fc (ok_aload_n dX10_harmAhead_50 rfl rfl) <|
  am_fc (ok_getI cl_9 (by decide) rfl dX10_harmAhead_51 w2_15 rfl) <|
  am_fc (ok_invV (i := ii_X9_print) rfl (Or.inr ⟨_, rfl, by decide, rfl⟩) mm_X9_print dX10_harmAhead_54 w2_213 rfl) <|
  am_fc (ok_pop dX10_harmAhead_57 rfl) <|
  am_fc (ok_aload_n dX10_harmAhead_58 rfl rfl) <|
  am_fc (ok_getR cl_9 (by decide) rfl dX10_harmAhead_59 w2_4 rfl) <|
  am_fc (ok_aload_n dX10_harmAhead_62 rfl rfl) <|
  am_fc (ok_getR cl_9 (by decide) rfl dX10_harmAhead_63 w2_6 rfl) <|
  am_fc (ok_aload_n dX10_harmAhead_66 rfl rfl) <|
  am_fc (ok_getI cl_9 (by decide) rfl dX10_harmAhead_67 w2_15 rfl) <|
  am_fc (ok_iload_n dX10_harmAhead_70 rfl rfl) <|
  am_fc (ok_invV (i := ii_X9_passHours) rfl (Or.inr ⟨_, rfl, by decide, rfl⟩) mm_X9_passHours dX10_harmAhead_71 w2_149 rfl) <|
  am_fc (ok_aload_n dX10_harmAhead_74 rfl rfl) <|
  am_fc (ok_getR cl_9 (by decide) rfl dX10_harmAhead_75 w2_4 rfl) <|
  am_fc (ok_aload_n dX10_harmAhead_78 rfl rfl) <|
  am_fc (ok_getR cl_9 (by decide) rfl dX10_harmAhead_79 w2_6 rfl) <|
  am_fc (ok_invV (i := ii_X9_harmOf) rfl (Or.inr ⟨_, rfl, by decide, rfl⟩) mm_X9_harmOf dX10_harmAhead_82 w2_201 rfl) <|
  am_fc (ok_iret rfl dX10_harmAhead_85) <|
  am_fn
theorem ok_cd_X10_harmAhead (l : Launch) (D : va_G) (ad : Nat → Nat) (b0 : Nat) (Hb : Heap) : ∀ q ∈ cd_X10_harmAhead, am_ok l D ad b0 Hb am_If yX10_harmAhead cX10_harmAhead 5 (some .int) q.1 q.2 := ok_cd_X10_harmAhead_0 l D ad b0 Hb
set_option maxRecDepth 100000 in
theorem ok_cd_X10_agreesAtSomeHour_0 (l : Launch) (D : va_G) (ad : Nat → Nat) (b0 : Nat) (Hb : Heap) : ∀ q ∈ cd_X10_agreesAtSomeHour_0, am_ok l D ad b0 Hb am_If yX10_agreesAtSomeHour cX10_agreesAtSomeHour 4 (some .boolean) q.1 q.2 :=
  am_fc (ok_iconst dX10_agreesAtSomeHour_0 (by decide) rfl) <|
  am_fc (ok_istore_n dX10_agreesAtSomeHour_1 rfl rfl) <|
  am_fc (ok_iload_n dX10_agreesAtSomeHour_2 rfl rfl) <|
  am_fc (ok_bipush dX10_agreesAtSomeHour_3 (by decide) rfl) <|
  am_fc (ok_cge dX10_agreesAtSomeHour_5 (by decide) rfl) <|
  am_fc (ok_aload_n dX10_agreesAtSomeHour_8 rfl rfl) <|
  am_fc (ok_iload_n dX10_agreesAtSomeHour_9 rfl rfl) <|
  am_fc (ok_iload_n dX10_agreesAtSomeHour_10 rfl rfl) <|
  am_fc (ok_iload_n dX10_agreesAtSomeHour_11 rfl rfl) <|
  am_fc (ok_invV (i := ii_X10_agrees) rfl (Or.inr ⟨_, rfl, by decide, rfl⟩) mm_X10_agrees dX10_agreesAtSomeHour_12 w4_11 rfl) <|
  am_fc (ok_ifeq dX10_agreesAtSomeHour_15 (by decide) rfl) <|
  am_fc (ok_iconst dX10_agreesAtSomeHour_18 (by decide) rfl) <|
  am_fc (ok_zret rfl dX10_agreesAtSomeHour_19) <|
  am_fc (ok_iinc dX10_agreesAtSomeHour_20 (by decide) rfl) <|
  am_fc (ok_goto dX10_agreesAtSomeHour_23 (by decide)) <|
  am_fc (ok_iconst dX10_agreesAtSomeHour_26 (by decide) rfl) <|
  am_fc (ok_zret rfl dX10_agreesAtSomeHour_27) <|
  am_fn
theorem ok_cd_X10_agreesAtSomeHour (l : Launch) (D : va_G) (ad : Nat → Nat) (b0 : Nat) (Hb : Heap) : ∀ q ∈ cd_X10_agreesAtSomeHour, am_ok l D ad b0 Hb am_If yX10_agreesAtSomeHour cX10_agreesAtSomeHour 4 (some .boolean) q.1 q.2 := ok_cd_X10_agreesAtSomeHour_0 l D ad b0 Hb
set_option maxRecDepth 100000 in
theorem ok_cd_X10_agrees_0 (l : Launch) (D : va_G) (ad : Nat → Nat) (b0 : Nat) (Hb : Heap) : ∀ q ∈ cd_X10_agrees_0, am_ok l D ad b0 Hb am_If yX10_agrees cX10_agrees 5 (some .boolean) q.1 q.2 :=
  am_fc (ok_iconst dX10_agrees_0 (by decide) rfl) <|
  am_fc (ok_istore dX10_agrees_1 rfl) <|
  am_fc (ok_iload dX10_agrees_3 rfl) <|
  am_fc (ok_iload_n dX10_agrees_5 rfl rfl) <|
  am_fc (ok_cge dX10_agrees_6 (by decide) rfl) <|
  am_fc (ok_aload_n dX10_agrees_9 rfl rfl) <|
  am_fc (ok_getR cl_9 (by decide) rfl dX10_agrees_10 w2_9 rfl) <|
  am_fc (ok_iload dX10_agrees_13 rfl) <|
  am_fc (ok_iconst dX10_agrees_15 (by decide) rfl) <|
  am_fc (ok_invV (i := ii_X4_agreeWith) rfl (Or.inr ⟨_, rfl, by decide, rfl⟩) mm_X4_agreeWith dX10_agrees_16 w4_15 rfl) <|
  am_fc (ok_ifne dX10_agrees_19 (by decide) rfl) <|
  am_fc (ok_iconst dX10_agrees_22 (by decide) rfl) <|
  am_fc (ok_zret rfl dX10_agrees_23) <|
  am_fc (ok_iinc dX10_agrees_24 (by decide) rfl) <|
  am_fc (ok_goto dX10_agrees_27 (by decide)) <|
  am_fc (ok_aload_n dX10_agrees_30 rfl rfl) <|
  am_fc (ok_getR cl_9 (by decide) rfl dX10_agrees_31 w2_6 rfl) <|
  am_fc (ok_invV (i := ii_X7_empty) rfl (Or.inr ⟨_, rfl, by decide, rfl⟩) mm_X7_empty dX10_agrees_34 w4_19 rfl) <|
  am_fc (ok_aload_n dX10_agrees_37 rfl rfl) <|
  am_fc (ok_getR cl_9 (by decide) rfl dX10_agrees_38 w2_6 rfl) <|
  am_fc (ok_iload_n dX10_agrees_41 rfl rfl) <|
  am_fc (ok_iload_n dX10_agrees_42 rfl rfl) <|
  am_fc (ok_iload_n dX10_agrees_43 rfl rfl) <|
  am_fc (ok_invV (i := ii_X7_start) rfl (Or.inr ⟨_, rfl, by decide, rfl⟩) mm_X7_start dX10_agrees_44 w2_125 rfl) <|
  am_fc (ok_iload_n dX10_agrees_47 rfl rfl) <|
  am_fc (ok_istore dX10_agrees_48 rfl) <|
  am_fc (ok_iload dX10_agrees_50 rfl) <|
  am_fc (ok_aload_n dX10_agrees_52 rfl rfl) <|
  am_fc (ok_getR cl_9 (by decide) rfl dX10_agrees_53 w2_9 rfl) <|
  am_fc (ok_getI cl_3 (by decide) rfl dX10_agrees_56 w1_141 rfl) <|
  am_fc (ok_cgt dX10_agrees_59 (by decide) rfl) <|
  am_fc (ok_aload_n dX10_agrees_62 rfl rfl) <|
  am_fc (ok_getR cl_9 (by decide) rfl dX10_agrees_63 w2_9 rfl) <|
  am_fc (ok_iload dX10_agrees_66 rfl) <|
  am_fc (ok_aload_n dX10_agrees_68 rfl rfl) <|
  am_fc (ok_getR cl_9 (by decide) rfl dX10_agrees_69 w2_4 rfl) <|
  am_fc (ok_aload_n dX10_agrees_72 rfl rfl) <|
  am_fc (ok_getR cl_9 (by decide) rfl dX10_agrees_73 w2_6 rfl) <|
  am_fc (ok_iload dX10_agrees_76 rfl) <|
  am_fc (ok_invV (i := ii_X9_passHour) rfl (Or.inr ⟨_, rfl, by decide, rfl⟩) mm_X9_passHour dX10_agrees_78 w4_23 rfl) <|
  am_fc (ok_invV (i := ii_X4_agreeWith) rfl (Or.inr ⟨_, rfl, by decide, rfl⟩) mm_X4_agreeWith dX10_agrees_81 w4_15 rfl) <|
  am_fc (ok_ifne dX10_agrees_84 (by decide) rfl) <|
  am_fc (ok_iconst dX10_agrees_87 (by decide) rfl) <|
  am_fc (ok_zret rfl dX10_agrees_88) <|
  am_fc (ok_iinc dX10_agrees_89 (by decide) rfl) <|
  am_fc (ok_goto dX10_agrees_92 (by decide)) <|
  am_fc (ok_iconst dX10_agrees_95 (by decide) rfl) <|
  am_fc (ok_zret rfl dX10_agrees_96) <|
  am_fn
theorem ok_cd_X10_agrees (l : Launch) (D : va_G) (ad : Nat → Nat) (b0 : Nat) (Hb : Heap) : ∀ q ∈ cd_X10_agrees, am_ok l D ad b0 Hb am_If yX10_agrees cX10_agrees 5 (some .boolean) q.1 q.2 := ok_cd_X10_agrees_0 l D ad b0 Hb
set_option maxRecDepth 100000 in
theorem ok_cd_X11_in_0 (l : Launch) (D : va_G) (ad : Nat → Nat) (b0 : Nat) (Hb : Heap) : ∀ q ∈ cd_X11_in_0, am_ok l D ad b0 Hb am_If yX11_in cX11_in 6 (some .boolean) q.1 q.2 :=
  am_fc (ok_lload_n dX11_in_0 rfl rfl) <|
  am_fc (ok_lload_n dX11_in_1 rfl rfl) <|
  am_fc (ok_lcmp dX11_in_2 rfl) <|
  am_fc (ok_iflt dX11_in_3 (by decide) rfl) <|
  am_fc (ok_lload_n dX11_in_6 rfl rfl) <|
  am_fc (ok_lload dX11_in_7 rfl) <|
  am_fc (ok_lcmp dX11_in_9 rfl) <|
  am_fc (ok_ifgt dX11_in_10 (by decide) rfl) <|
  am_fc (ok_iconst dX11_in_13 (by decide) rfl) <|
  am_fc (ok_goto dX11_in_14 (by decide)) <|
  am_fc (ok_iconst dX11_in_17 (by decide) rfl) <|
  am_fc (ok_zret rfl dX11_in_18) <|
  am_fn
theorem ok_cd_X11_in (l : Launch) (D : va_G) (ad : Nat → Nat) (b0 : Nat) (Hb : Heap) : ∀ q ∈ cd_X11_in, am_ok l D ad b0 Hb am_If yX11_in cX11_in 6 (some .boolean) q.1 q.2 := ok_cd_X11_in_0 l D ad b0 Hb
set_option maxRecDepth 100000 in
theorem ok_cd_X11_init_0 (l : Launch) (D : va_G) (ad : Nat → Nat) (b0 : Nat) (Hb : Heap) : ∀ q ∈ cd_X11_init_0, am_ok l D ad b0 Hb am_If yX11_init cX11_init 2 (none) q.1 q.2 :=
  am_fc (ok_aload_n dX11_init_0 rfl rfl) <|
  am_fc (ok_obj dX11_init_1 w4_112 w1_27 w1_28 rfl) <|
  am_fc (ok_aload_n dX11_init_4 rfl rfl) <|
  am_fc (ok_bipush dX11_init_5 (by decide) rfl) <|
  am_fc (ok_newai rfl dX11_init_7 w1_56 rfl) <|
  am_fc (ok_putR cl_10 (by decide) rfl (Or.inr ⟨rfl, rfl, rfl⟩) dX11_init_9 w4_114 rfl) <|
  am_fc (ok_aload_n dX11_init_12 rfl rfl) <|
  am_fc (ok_bipush dX11_init_13 (by decide) rfl) <|
  am_fc (ok_newai rfl dX11_init_15 w1_56 rfl) <|
  am_fc (ok_putR cl_10 (by decide) rfl (Or.inr ⟨rfl, rfl, rfl⟩) dX11_init_17 w4_115 rfl) <|
  am_fc (ok_aload_n dX11_init_20 rfl rfl) <|
  am_fc (ok_bipush dX11_init_21 (by decide) rfl) <|
  am_fc (ok_newai rfl dX11_init_23 w1_56 rfl) <|
  am_fc (ok_putR cl_10 (by decide) rfl (Or.inr ⟨rfl, rfl, rfl⟩) dX11_init_25 w4_118 rfl) <|
  am_fc (ok_aload_n dX11_init_28 rfl rfl) <|
  am_fc (ok_bipush dX11_init_29 (by decide) rfl) <|
  am_fc (ok_newai rfl dX11_init_31 w1_56 rfl) <|
  am_fc (ok_putR cl_10 (by decide) rfl (Or.inr ⟨rfl, rfl, rfl⟩) dX11_init_33 w4_119 rfl) <|
  am_fc (ok_aload_n dX11_init_36 rfl rfl) <|
  am_fc (ok_bipush dX11_init_37 (by decide) rfl) <|
  am_fc (ok_newai rfl dX11_init_39 w1_56 rfl) <|
  am_fc (ok_putR cl_10 (by decide) rfl (Or.inr ⟨rfl, rfl, rfl⟩) dX11_init_41 w4_120 rfl) <|
  am_fc (ok_aload_n dX11_init_44 rfl rfl) <|
  am_fc (ok_bipush dX11_init_45 (by decide) rfl) <|
  am_fc (ok_newai rfl dX11_init_47 w1_56 rfl) <|
  am_fc (ok_putR cl_10 (by decide) rfl (Or.inr ⟨rfl, rfl, rfl⟩) dX11_init_49 w4_121 rfl) <|
  am_fc (ok_aload_n dX11_init_52 rfl rfl) <|
  am_fc (ok_bipush dX11_init_53 (by decide) rfl) <|
  am_fc (ok_newaz rfl dX11_init_55 w1_131 rfl) <|
  am_fc (ok_putR cl_10 (by decide) rfl (Or.inr ⟨rfl, rfl, rfl⟩) dX11_init_57 w4_122 rfl) <|
  am_fc (ok_aload_n dX11_init_60 rfl rfl) <|
  am_fc (ok_bipush dX11_init_61 (by decide) rfl) <|
  am_fc (ok_newai rfl dX11_init_63 w1_56 rfl) <|
  am_fc (ok_putR cl_10 (by decide) rfl (Or.inr ⟨rfl, rfl, rfl⟩) dX11_init_65 w4_123 rfl) <|
  am_fc (ok_aload_n dX11_init_68 rfl rfl) <|
  am_fc (ok_bipush dX11_init_69 (by decide) rfl) <|
  am_fc (ok_newai rfl dX11_init_71 w1_56 rfl) <|
  am_fc (ok_putR cl_10 (by decide) rfl (Or.inr ⟨rfl, rfl, rfl⟩) dX11_init_73 w4_124 rfl) <|
  am_fc (ok_aload_n dX11_init_76 rfl rfl) <|
  am_fc (ok_sipush dX11_init_77 (by decide) rfl) <|
  am_fc (ok_newai rfl dX11_init_80 w1_56 rfl) <|
  am_fc (ok_putR cl_10 (by decide) rfl (Or.inr ⟨rfl, rfl, rfl⟩) dX11_init_82 w4_125 rfl) <|
  am_fc (ok_aload_n dX11_init_85 rfl rfl) <|
  am_fc (ok_sipush dX11_init_86 (by decide) rfl) <|
  am_fc (ok_newai rfl dX11_init_89 w1_56 rfl) <|
  am_fc (ok_putR cl_10 (by decide) rfl (Or.inr ⟨rfl, rfl, rfl⟩) dX11_init_91 w4_126 rfl) <|
  am_fc (ok_aload_n dX11_init_94 rfl rfl) <|
  am_fc (ok_sipush dX11_init_95 (by decide) rfl) <|
  am_fc (ok_newai rfl dX11_init_98 w1_56 rfl) <|
  am_fc (ok_putR cl_10 (by decide) rfl (Or.inr ⟨rfl, rfl, rfl⟩) dX11_init_100 w4_127 rfl) <|
  am_fn
set_option maxRecDepth 100000 in
theorem ok_cd_X11_init_1 (l : Launch) (D : va_G) (ad : Nat → Nat) (b0 : Nat) (Hb : Heap) : ∀ q ∈ cd_X11_init_1, am_ok l D ad b0 Hb am_If yX11_init cX11_init 2 (none) q.1 q.2 :=
  am_fc (ok_aload_n dX11_init_103 rfl rfl) <|
  am_fc (ok_sipush dX11_init_104 (by decide) rfl) <|
  am_fc (ok_newai rfl dX11_init_107 w1_56 rfl) <|
  am_fc (ok_putR cl_10 (by decide) rfl (Or.inr ⟨rfl, rfl, rfl⟩) dX11_init_109 w4_128 rfl) <|
  am_fc (ok_aload_n dX11_init_112 rfl rfl) <|
  am_fc (ok_sipush dX11_init_113 (by decide) rfl) <|
  am_fc (ok_newai rfl dX11_init_116 w1_56 rfl) <|
  am_fc (ok_putR cl_10 (by decide) rfl (Or.inr ⟨rfl, rfl, rfl⟩) dX11_init_118 w4_129 rfl) <|
  am_fc (ok_aload_n dX11_init_121 rfl rfl) <|
  am_fc (ok_bipush dX11_init_122 (by decide) rfl) <|
  am_fc (ok_newaz rfl dX11_init_124 w1_131 rfl) <|
  am_fc (ok_putR cl_10 (by decide) rfl (Or.inr ⟨rfl, rfl, rfl⟩) dX11_init_126 w4_130 rfl) <|
  am_fc (ok_aload_n dX11_init_129 rfl rfl) <|
  am_fc (ok_bipush dX11_init_130 (by decide) rfl) <|
  am_fc (ok_newai rfl dX11_init_132 w1_56 rfl) <|
  am_fc (ok_putR cl_10 (by decide) rfl (Or.inr ⟨rfl, rfl, rfl⟩) dX11_init_134 w4_131 rfl) <|
  am_fc (ok_aload_n dX11_init_137 rfl rfl) <|
  am_fc (ok_bipush dX11_init_138 (by decide) rfl) <|
  am_fc (ok_newai rfl dX11_init_140 w1_56 rfl) <|
  am_fc (ok_putR cl_10 (by decide) rfl (Or.inr ⟨rfl, rfl, rfl⟩) dX11_init_142 w4_132 rfl) <|
  am_fc (ok_aload_n dX11_init_145 rfl rfl) <|
  am_fc (ok_sipush dX11_init_146 (by decide) rfl) <|
  am_fc (ok_newai rfl dX11_init_149 w1_56 rfl) <|
  am_fc (ok_putR cl_10 (by decide) rfl (Or.inr ⟨rfl, rfl, rfl⟩) dX11_init_151 w4_133 rfl) <|
  am_fc (ok_aload_n dX11_init_154 rfl rfl) <|
  am_fc (ok_bipush dX11_init_155 (by decide) rfl) <|
  am_fc (ok_newai rfl dX11_init_157 w1_56 rfl) <|
  am_fc (ok_putR cl_10 (by decide) rfl (Or.inr ⟨rfl, rfl, rfl⟩) dX11_init_159 w4_134 rfl) <|
  am_fc (ok_aload_n dX11_init_162 rfl rfl) <|
  am_fc (ok_bipush dX11_init_163 (by decide) rfl) <|
  am_fc (ok_newai rfl dX11_init_165 w1_56 rfl) <|
  am_fc (ok_putR cl_10 (by decide) rfl (Or.inr ⟨rfl, rfl, rfl⟩) dX11_init_167 w4_136 rfl) <|
  am_fc (ok_aload_n dX11_init_170 rfl rfl) <|
  am_fc (ok_bipush dX11_init_171 (by decide) rfl) <|
  am_fc (ok_newai rfl dX11_init_173 w1_56 rfl) <|
  am_fc (ok_putR cl_10 (by decide) rfl (Or.inr ⟨rfl, rfl, rfl⟩) dX11_init_175 w4_138 rfl) <|
  am_fc (ok_aload_n dX11_init_178 rfl rfl) <|
  am_fc (ok_bipush dX11_init_179 (by decide) rfl) <|
  am_fc (ok_newai rfl dX11_init_181 w1_56 rfl) <|
  am_fc (ok_putR cl_10 (by decide) rfl (Or.inr ⟨rfl, rfl, rfl⟩) dX11_init_183 w4_140 rfl) <|
  am_fc (ok_aload_n dX11_init_186 rfl rfl) <|
  am_fc (ok_bipush dX11_init_187 (by decide) rfl) <|
  am_fc (ok_newaz rfl dX11_init_189 w1_131 rfl) <|
  am_fc (ok_putR cl_10 (by decide) rfl (Or.inr ⟨rfl, rfl, rfl⟩) dX11_init_191 w4_145 rfl) <|
  am_fc (ok_aload_n dX11_init_194 rfl rfl) <|
  am_fc (ok_bipush dX11_init_195 (by decide) rfl) <|
  am_fc (ok_newaz rfl dX11_init_197 w1_131 rfl) <|
  am_fc (ok_putR cl_10 (by decide) rfl (Or.inr ⟨rfl, rfl, rfl⟩) dX11_init_199 w4_146 rfl) <|
  am_fc (ok_aload_n dX11_init_202 rfl rfl) <|
  am_fc (ok_bipush dX11_init_203 (by decide) rfl) <|
  am_fn
set_option maxRecDepth 100000 in
theorem ok_cd_X11_init_2 (l : Launch) (D : va_G) (ad : Nat → Nat) (b0 : Nat) (Hb : Heap) : ∀ q ∈ cd_X11_init_2, am_ok l D ad b0 Hb am_If yX11_init cX11_init 2 (none) q.1 q.2 :=
  am_fc (ok_newaz rfl dX11_init_205 w1_131 rfl) <|
  am_fc (ok_putR cl_10 (by decide) rfl (Or.inr ⟨rfl, rfl, rfl⟩) dX11_init_207 w4_147 rfl) <|
  am_fc (ok_aload_n dX11_init_210 rfl rfl) <|
  am_fc (ok_bipush dX11_init_211 (by decide) rfl) <|
  am_fc (ok_newai rfl dX11_init_213 w1_56 rfl) <|
  am_fc (ok_putR cl_10 (by decide) rfl (Or.inr ⟨rfl, rfl, rfl⟩) dX11_init_215 w4_150 rfl) <|
  am_fc (ok_aload_n dX11_init_218 rfl rfl) <|
  am_fc (ok_bipush dX11_init_219 (by decide) rfl) <|
  am_fc (ok_newai rfl dX11_init_221 w1_56 rfl) <|
  am_fc (ok_putR cl_10 (by decide) rfl (Or.inr ⟨rfl, rfl, rfl⟩) dX11_init_223 w4_152 rfl) <|
  am_fc (ok_aload_n dX11_init_226 rfl rfl) <|
  am_fc (ok_bipush dX11_init_227 (by decide) rfl) <|
  am_fc (ok_newai rfl dX11_init_229 w1_56 rfl) <|
  am_fc (ok_putR cl_10 (by decide) rfl (Or.inr ⟨rfl, rfl, rfl⟩) dX11_init_231 w4_155 rfl) <|
  am_fc (ok_aload_n dX11_init_234 rfl rfl) <|
  am_fc (ok_bipush dX11_init_235 (by decide) rfl) <|
  am_fc (ok_newai rfl dX11_init_237 w1_56 rfl) <|
  am_fc (ok_putR cl_10 (by decide) rfl (Or.inr ⟨rfl, rfl, rfl⟩) dX11_init_239 w4_156 rfl) <|
  am_fc (ok_aload_n dX11_init_242 rfl rfl) <|
  am_fc (ok_bipush dX11_init_243 (by decide) rfl) <|
  am_fc (ok_newaz rfl dX11_init_245 w1_131 rfl) <|
  am_fc (ok_putR cl_10 (by decide) rfl (Or.inr ⟨rfl, rfl, rfl⟩) dX11_init_247 w4_157 rfl) <|
  am_fc (ok_aload_n dX11_init_250 rfl rfl) <|
  am_fc (ok_bipush dX11_init_251 (by decide) rfl) <|
  am_fc (ok_newai rfl dX11_init_253 w1_56 rfl) <|
  am_fc (ok_putR cl_10 (by decide) rfl (Or.inr ⟨rfl, rfl, rfl⟩) dX11_init_255 w4_158 rfl) <|
  am_fc (ok_aload_n dX11_init_258 rfl rfl) <|
  am_fc (ok_iconst dX11_init_259 (by decide) rfl) <|
  am_fc (ok_newai rfl dX11_init_260 w1_56 rfl) <|
  am_fc (ok_putR cl_10 (by decide) rfl (Or.inr ⟨rfl, rfl, rfl⟩) dX11_init_262 w4_159 rfl) <|
  am_fc (ok_aload_n dX11_init_265 rfl rfl) <|
  am_fc (ok_iconst dX11_init_266 (by decide) rfl) <|
  am_fc (ok_newai rfl dX11_init_267 w1_56 rfl) <|
  am_fc (ok_putR cl_10 (by decide) rfl (Or.inr ⟨rfl, rfl, rfl⟩) dX11_init_269 w4_160 rfl) <|
  am_fc (ok_aload_n dX11_init_272 rfl rfl) <|
  am_fc (ok_sipush dX11_init_273 (by decide) rfl) <|
  am_fc (ok_newai rfl dX11_init_276 w1_56 rfl) <|
  am_fc (ok_putR cl_10 (by decide) rfl (Or.inr ⟨rfl, rfl, rfl⟩) dX11_init_278 w4_161 rfl) <|
  am_fc (ok_aload_n dX11_init_281 rfl rfl) <|
  am_fc (ok_bipush dX11_init_282 (by decide) rfl) <|
  am_fc (ok_newai rfl dX11_init_284 w1_56 rfl) <|
  am_fc (ok_putR cl_10 (by decide) rfl (Or.inr ⟨rfl, rfl, rfl⟩) dX11_init_286 w4_162 rfl) <|
  am_fc (ok_iconst dX11_init_289 (by decide) rfl) <|
  am_fc (ok_istore_n dX11_init_290 rfl rfl) <|
  am_fc (ok_iload_n dX11_init_291 rfl rfl) <|
  am_fc (ok_iconst dX11_init_292 (by decide) rfl) <|
  am_fc (ok_cge dX11_init_293 (by decide) rfl) <|
  am_fc (ok_aload_n dX11_init_296 rfl rfl) <|
  am_fc (ok_getR cl_10 (by decide) rfl dX11_init_297 w4_159 rfl) <|
  am_fc (ok_iload_n dX11_init_300 rfl rfl) <|
  am_fn
set_option maxRecDepth 100000 in
theorem ok_cd_X11_init_3 (l : Launch) (D : va_G) (ad : Nat → Nat) (b0 : Nat) (Hb : Heap) : ∀ q ∈ cd_X11_init_3, am_ok l D ad b0 Hb am_If yX11_init cX11_init 2 (none) q.1 q.2 :=
  am_fc (ok_iconst dX11_init_301 (by decide) rfl) <|
  am_fc (ok_iast dX11_init_302 rfl) <|
  am_fc (ok_iinc dX11_init_303 (by decide) rfl) <|
  am_fc (ok_goto dX11_init_306 (by decide)) <|
  am_fc (ok_iconst dX11_init_309 (by decide) rfl) <|
  am_fc (ok_istore_n dX11_init_310 rfl rfl) <|
  am_fc (ok_iload_n dX11_init_311 rfl rfl) <|
  am_fc (ok_bipush dX11_init_312 (by decide) rfl) <|
  am_fc (ok_cge dX11_init_314 (by decide) rfl) <|
  am_fc (ok_aload_n dX11_init_317 rfl rfl) <|
  am_fc (ok_getR cl_10 (by decide) rfl dX11_init_318 w4_124 rfl) <|
  am_fc (ok_iload_n dX11_init_321 rfl rfl) <|
  am_fc (ok_iconst dX11_init_322 (by decide) rfl) <|
  am_fc (ok_iast dX11_init_323 rfl) <|
  am_fc (ok_iinc dX11_init_324 (by decide) rfl) <|
  am_fc (ok_goto dX11_init_327 (by decide)) <|
  am_fc (ok_vret rfl dX11_init_330) <|
  am_fn
theorem ok_cd_X11_init (l : Launch) (D : va_G) (ad : Nat → Nat) (b0 : Nat) (Hb : Heap) : ∀ q ∈ cd_X11_init, am_ok l D ad b0 Hb am_If yX11_init cX11_init 2 (none) q.1 q.2 := am_fa (ok_cd_X11_init_0 l D ad b0 Hb) (am_fa (ok_cd_X11_init_1 l D ad b0 Hb) (am_fa (ok_cd_X11_init_2 l D ad b0 Hb) (ok_cd_X11_init_3 l D ad b0 Hb)))
set_option maxRecDepth 100000 in
theorem ok_cd_X11_isPerson_0 (l : Launch) (D : va_G) (ad : Nat → Nat) (b0 : Nat) (Hb : Heap) : ∀ q ∈ cd_X11_isPerson_0, am_ok l D ad b0 Hb am_If yX11_isPerson cX11_isPerson 2 (some .boolean) q.1 q.2 :=
  am_fc (ok_iload_n dX11_isPerson_0 rfl rfl) <|
  am_fc (ok_i2l dX11_isPerson_1 rfl) <|
  am_fc (ok_lconst dX11_isPerson_2 (by decide) rfl) <|
  am_fc (ok_aload_n dX11_isPerson_3 rfl rfl) <|
  am_fc (ok_getI cl_10 (by decide) rfl dX11_isPerson_4 w4_113 rfl) <|
  am_fc (ok_iconst dX11_isPerson_7 (by decide) rfl) <|
  am_fc (ok_isub dX11_isPerson_8 rfl) <|
  am_fc (ok_i2l dX11_isPerson_9 rfl) <|
  am_fc (ok_invS (i := ii_X11_in) rfl mm_X11_in dX11_isPerson_10 w5_32 rfl) <|
  am_fc (ok_zret rfl dX11_isPerson_13) <|
  am_fn
theorem ok_cd_X11_isPerson (l : Launch) (D : va_G) (ad : Nat → Nat) (b0 : Nat) (Hb : Heap) : ∀ q ∈ cd_X11_isPerson, am_ok l D ad b0 Hb am_If yX11_isPerson cX11_isPerson 2 (some .boolean) q.1 q.2 := ok_cd_X11_isPerson_0 l D ad b0 Hb
set_option maxRecDepth 100000 in
theorem ok_cd_X11_isPlace_0 (l : Launch) (D : va_G) (ad : Nat → Nat) (b0 : Nat) (Hb : Heap) : ∀ q ∈ cd_X11_isPlace_0, am_ok l D ad b0 Hb am_If yX11_isPlace cX11_isPlace 1 (some .boolean) q.1 q.2 :=
  am_fc (ok_iload_n dX11_isPlace_0 rfl rfl) <|
  am_fc (ok_i2l dX11_isPlace_1 rfl) <|
  am_fc (ok_lconst dX11_isPlace_2 (by decide) rfl) <|
  am_fc (ok_ldc2 dX11_isPlace_3 w5_31 rfl) <|
  am_fc (ok_invS (i := ii_X11_in) rfl mm_X11_in dX11_isPlace_6 w5_32 rfl) <|
  am_fc (ok_zret rfl dX11_isPlace_9) <|
  am_fn
theorem ok_cd_X11_isPlace (l : Launch) (D : va_G) (ad : Nat → Nat) (b0 : Nat) (Hb : Heap) : ∀ q ∈ cd_X11_isPlace, am_ok l D ad b0 Hb am_If yX11_isPlace cX11_isPlace 1 (some .boolean) q.1 q.2 := ok_cd_X11_isPlace_0 l D ad b0 Hb
set_option maxRecDepth 100000 in
theorem ok_cd_X11_most_0 (l : Launch) (D : va_G) (ad : Nat → Nat) (b0 : Nat) (Hb : Heap) : ∀ q ∈ cd_X11_most_0, am_ok l D ad b0 Hb am_If yX11_most cX11_most 1 (some .int) q.1 q.2 :=
  am_fc (ok_iload_n dX11_most_0 rfl rfl) <|
  am_fc (ok_ifne dX11_most_1 (by decide) rfl) <|
  am_fc (ok_bipush dX11_most_4 (by decide) rfl) <|
  am_fc (ok_goto dX11_most_6 (by decide)) <|
  am_fc (ok_iload_n dX11_most_9 rfl rfl) <|
  am_fc (ok_iconst dX11_most_10 (by decide) rfl) <|
  am_fc (ok_cne dX11_most_11 (by decide) rfl) <|
  am_fc (ok_iconst dX11_most_14 (by decide) rfl) <|
  am_fc (ok_goto dX11_most_15 (by decide)) <|
  am_fc (ok_iload_n dX11_most_18 rfl rfl) <|
  am_fc (ok_iconst dX11_most_19 (by decide) rfl) <|
  am_fc (ok_cne dX11_most_20 (by decide) rfl) <|
  am_fc (ok_iconst dX11_most_23 (by decide) rfl) <|
  am_fc (ok_goto dX11_most_24 (by decide)) <|
  am_fc (ok_iload_n dX11_most_27 rfl rfl) <|
  am_fc (ok_iconst dX11_most_28 (by decide) rfl) <|
  am_fc (ok_cne dX11_most_29 (by decide) rfl) <|
  am_fc (ok_bipush dX11_most_32 (by decide) rfl) <|
  am_fc (ok_goto dX11_most_34 (by decide)) <|
  am_fc (ok_bipush dX11_most_37 (by decide) rfl) <|
  am_fc (ok_iret rfl dX11_most_39) <|
  am_fn
theorem ok_cd_X11_most (l : Launch) (D : va_G) (ad : Nat → Nat) (b0 : Nat) (Hb : Heap) : ∀ q ∈ cd_X11_most, am_ok l D ad b0 Hb am_If yX11_most cX11_most 1 (some .int) q.1 q.2 := ok_cd_X11_most_0 l D ad b0 Hb
set_option maxRecDepth 100000 in
theorem ok_cd_X11_person_0 (l : Launch) (D : va_G) (ad : Nat → Nat) (b0 : Nat) (Hb : Heap) : ∀ q ∈ cd_X11_person_0, am_ok l D ad b0 Hb am_If yX11_person cX11_person 6 (some .int) q.1 q.2 :=
  am_fc (ok_iload_n dX11_person_0 rfl rfl) <|
  am_fc (ok_invS (i := ii_X11_isPlace) rfl mm_X11_isPlace dX11_person_1 w5_28 rfl) <|
  am_fc (ok_ifeq dX11_person_4 (by decide) rfl) <|
  am_fc (ok_iload_n dX11_person_7 rfl rfl) <|
  am_fc (ok_invS (i := ii_X11_isPlace) rfl mm_X11_isPlace dX11_person_8 w5_28 rfl) <|
  am_fc (ok_ifeq dX11_person_11 (by decide) rfl) <|
  am_fc (ok_iload_n dX11_person_14 rfl rfl) <|
  am_fc (ok_invS (i := ii_X11_isPlace) rfl mm_X11_isPlace dX11_person_15 w5_28 rfl) <|
  am_fc (ok_ifeq dX11_person_18 (by decide) rfl) <|
  am_fc (ok_iload dX11_person_21 rfl) <|
  am_fc (ok_i2l dX11_person_23 rfl) <|
  am_fc (ok_lconst dX11_person_24 (by decide) rfl) <|
  am_fc (ok_ldc2 dX11_person_25 w5_35 rfl) <|
  am_fc (ok_invS (i := ii_X11_in) rfl mm_X11_in dX11_person_28 w5_32 rfl) <|
  am_fc (ok_ifeq dX11_person_31 (by decide) rfl) <|
  am_fc (ok_iload dX11_person_34 rfl) <|
  am_fc (ok_i2l dX11_person_36 rfl) <|
  am_fc (ok_lconst dX11_person_37 (by decide) rfl) <|
  am_fc (ok_ldc2 dX11_person_38 w5_36 rfl) <|
  am_fc (ok_invS (i := ii_X11_in) rfl mm_X11_in dX11_person_41 w5_32 rfl) <|
  am_fc (ok_ifne dX11_person_44 (by decide) rfl) <|
  am_fc (ok_iconst dX11_person_47 (by decide) rfl) <|
  am_fc (ok_iret rfl dX11_person_48) <|
  am_fc (ok_aload_n dX11_person_49 rfl rfl) <|
  am_fc (ok_getI cl_10 (by decide) rfl dX11_person_50 w4_113 rfl) <|
  am_fc (ok_bipush dX11_person_53 (by decide) rfl) <|
  am_fc (ok_cne dX11_person_55 (by decide) rfl) <|
  am_fc (ok_bipush dX11_person_58 (by decide) rfl) <|
  am_fc (ok_iret rfl dX11_person_60) <|
  am_fc (ok_aload_n dX11_person_61 rfl rfl) <|
  am_fc (ok_getR cl_10 (by decide) rfl dX11_person_62 w4_114 rfl) <|
  am_fc (ok_iconst dX11_person_65 (by decide) rfl) <|
  am_fc (ok_aload_n dX11_person_66 rfl rfl) <|
  am_fc (ok_getI cl_10 (by decide) rfl dX11_person_67 w4_113 rfl) <|
  am_fc (ok_imul dX11_person_70 rfl) <|
  am_fc (ok_iload_n dX11_person_71 rfl rfl) <|
  am_fc (ok_iast dX11_person_72 rfl) <|
  am_fc (ok_aload_n dX11_person_73 rfl rfl) <|
  am_fc (ok_getR cl_10 (by decide) rfl dX11_person_74 w4_114 rfl) <|
  am_fc (ok_iconst dX11_person_77 (by decide) rfl) <|
  am_fc (ok_aload_n dX11_person_78 rfl rfl) <|
  am_fc (ok_getI cl_10 (by decide) rfl dX11_person_79 w4_113 rfl) <|
  am_fc (ok_imul dX11_person_82 rfl) <|
  am_fc (ok_iconst dX11_person_83 (by decide) rfl) <|
  am_fc (ok_iadd dX11_person_84 rfl) <|
  am_fc (ok_iload_n dX11_person_85 rfl rfl) <|
  am_fc (ok_iast dX11_person_86 rfl) <|
  am_fc (ok_aload_n dX11_person_87 rfl rfl) <|
  am_fc (ok_getR cl_10 (by decide) rfl dX11_person_88 w4_114 rfl) <|
  am_fc (ok_iconst dX11_person_91 (by decide) rfl) <|
  am_fn
set_option maxRecDepth 100000 in
theorem ok_cd_X11_person_1 (l : Launch) (D : va_G) (ad : Nat → Nat) (b0 : Nat) (Hb : Heap) : ∀ q ∈ cd_X11_person_1, am_ok l D ad b0 Hb am_If yX11_person cX11_person 6 (some .int) q.1 q.2 :=
  am_fc (ok_aload_n dX11_person_92 rfl rfl) <|
  am_fc (ok_getI cl_10 (by decide) rfl dX11_person_93 w4_113 rfl) <|
  am_fc (ok_imul dX11_person_96 rfl) <|
  am_fc (ok_iconst dX11_person_97 (by decide) rfl) <|
  am_fc (ok_iadd dX11_person_98 rfl) <|
  am_fc (ok_iload_n dX11_person_99 rfl rfl) <|
  am_fc (ok_iast dX11_person_100 rfl) <|
  am_fc (ok_aload_n dX11_person_101 rfl rfl) <|
  am_fc (ok_getR cl_10 (by decide) rfl dX11_person_102 w4_115 rfl) <|
  am_fc (ok_iconst dX11_person_105 (by decide) rfl) <|
  am_fc (ok_aload_n dX11_person_106 rfl rfl) <|
  am_fc (ok_getI cl_10 (by decide) rfl dX11_person_107 w4_113 rfl) <|
  am_fc (ok_imul dX11_person_110 rfl) <|
  am_fc (ok_bipush dX11_person_111 (by decide) rfl) <|
  am_fc (ok_iast dX11_person_113 rfl) <|
  am_fc (ok_aload_n dX11_person_114 rfl rfl) <|
  am_fc (ok_getR cl_10 (by decide) rfl dX11_person_115 w4_115 rfl) <|
  am_fc (ok_iconst dX11_person_118 (by decide) rfl) <|
  am_fc (ok_aload_n dX11_person_119 rfl rfl) <|
  am_fc (ok_getI cl_10 (by decide) rfl dX11_person_120 w4_113 rfl) <|
  am_fc (ok_imul dX11_person_123 rfl) <|
  am_fc (ok_iconst dX11_person_124 (by decide) rfl) <|
  am_fc (ok_iadd dX11_person_125 rfl) <|
  am_fc (ok_iconst dX11_person_126 (by decide) rfl) <|
  am_fc (ok_iast dX11_person_127 rfl) <|
  am_fc (ok_aload_n dX11_person_128 rfl rfl) <|
  am_fc (ok_getR cl_10 (by decide) rfl dX11_person_129 w4_115 rfl) <|
  am_fc (ok_iconst dX11_person_132 (by decide) rfl) <|
  am_fc (ok_aload_n dX11_person_133 rfl rfl) <|
  am_fc (ok_getI cl_10 (by decide) rfl dX11_person_134 w4_113 rfl) <|
  am_fc (ok_imul dX11_person_137 rfl) <|
  am_fc (ok_iconst dX11_person_138 (by decide) rfl) <|
  am_fc (ok_iadd dX11_person_139 rfl) <|
  am_fc (ok_iconst dX11_person_140 (by decide) rfl) <|
  am_fc (ok_iast dX11_person_141 rfl) <|
  am_fc (ok_aload_n dX11_person_142 rfl rfl) <|
  am_fc (ok_getR cl_10 (by decide) rfl dX11_person_143 w4_115 rfl) <|
  am_fc (ok_iconst dX11_person_146 (by decide) rfl) <|
  am_fc (ok_aload_n dX11_person_147 rfl rfl) <|
  am_fc (ok_getI cl_10 (by decide) rfl dX11_person_148 w4_113 rfl) <|
  am_fc (ok_imul dX11_person_151 rfl) <|
  am_fc (ok_iconst dX11_person_152 (by decide) rfl) <|
  am_fc (ok_iadd dX11_person_153 rfl) <|
  am_fc (ok_iload dX11_person_154 rfl) <|
  am_fc (ok_iast dX11_person_156 rfl) <|
  am_fc (ok_aload_n dX11_person_157 rfl rfl) <|
  am_fc (ok_getR cl_10 (by decide) rfl dX11_person_158 w4_115 rfl) <|
  am_fc (ok_iconst dX11_person_161 (by decide) rfl) <|
  am_fc (ok_aload_n dX11_person_162 rfl rfl) <|
  am_fc (ok_getI cl_10 (by decide) rfl dX11_person_163 w4_113 rfl) <|
  am_fn
set_option maxRecDepth 100000 in
theorem ok_cd_X11_person_2 (l : Launch) (D : va_G) (ad : Nat → Nat) (b0 : Nat) (Hb : Heap) : ∀ q ∈ cd_X11_person_2, am_ok l D ad b0 Hb am_If yX11_person cX11_person 6 (some .int) q.1 q.2 :=
  am_fc (ok_imul dX11_person_166 rfl) <|
  am_fc (ok_iconst dX11_person_167 (by decide) rfl) <|
  am_fc (ok_iadd dX11_person_168 rfl) <|
  am_fc (ok_iload dX11_person_169 rfl) <|
  am_fc (ok_iast dX11_person_171 rfl) <|
  am_fc (ok_aload_n dX11_person_172 rfl rfl) <|
  am_fc (ok_dup dX11_person_173 rfl) <|
  am_fc (ok_getI cl_10 (by decide) rfl dX11_person_174 w4_113 rfl) <|
  am_fc (ok_iconst dX11_person_177 (by decide) rfl) <|
  am_fc (ok_iadd dX11_person_178 rfl) <|
  am_fc (ok_putI cl_10 (by decide) rfl (Or.inl rfl) dX11_person_179 w4_113 rfl) <|
  am_fc (ok_aload_n dX11_person_182 rfl rfl) <|
  am_fc (ok_getI cl_10 (by decide) rfl dX11_person_183 w4_113 rfl) <|
  am_fc (ok_iconst dX11_person_186 (by decide) rfl) <|
  am_fc (ok_isub dX11_person_187 rfl) <|
  am_fc (ok_iret rfl dX11_person_188) <|
  am_fn
theorem ok_cd_X11_person (l : Launch) (D : va_G) (ad : Nat → Nat) (b0 : Nat) (Hb : Heap) : ∀ q ∈ cd_X11_person, am_ok l D ad b0 Hb am_If yX11_person cX11_person 6 (some .int) q.1 q.2 := am_fa (ok_cd_X11_person_0 l D ad b0 Hb) (am_fa (ok_cd_X11_person_1 l D ad b0 Hb) (ok_cd_X11_person_2 l D ad b0 Hb))
set_option maxRecDepth 100000 in
theorem ok_cd_X11_set_0 (l : Launch) (D : va_G) (ad : Nat → Nat) (b0 : Nat) (Hb : Heap) : ∀ q ∈ cd_X11_set_0, am_ok l D ad b0 Hb am_If yX11_set cX11_set 5 (some .int) q.1 q.2 :=
  am_fc (ok_aload_n dX11_set_0 rfl rfl) <|
  am_fc (ok_iload_n dX11_set_1 rfl rfl) <|
  am_fc (ok_invV (i := ii_X11_isPerson) rfl (Or.inr ⟨_, rfl, by decide, rfl⟩) mm_X11_isPerson dX11_set_2 w5_41 rfl) <|
  am_fc (ok_ifeq dX11_set_5 (by decide) rfl) <|
  am_fc (ok_iload_n dX11_set_8 rfl rfl) <|
  am_fc (ok_i2l dX11_set_9 rfl) <|
  am_fc (ok_lconst dX11_set_10 (by decide) rfl) <|
  am_fc (ok_ldc2 dX11_set_11 w5_45 rfl) <|
  am_fc (ok_invS (i := ii_X11_in) rfl mm_X11_in dX11_set_14 w5_32 rfl) <|
  am_fc (ok_ifeq dX11_set_17 (by decide) rfl) <|
  am_fc (ok_iload_n dX11_set_20 rfl rfl) <|
  am_fc (ok_i2l dX11_set_21 rfl) <|
  am_fc (ok_lconst dX11_set_22 (by decide) rfl) <|
  am_fc (ok_iload_n dX11_set_23 rfl rfl) <|
  am_fc (ok_invS (i := ii_X11_most) rfl mm_X11_most dX11_set_24 w5_46 rfl) <|
  am_fc (ok_i2l dX11_set_27 rfl) <|
  am_fc (ok_invS (i := ii_X11_in) rfl mm_X11_in dX11_set_28 w5_32 rfl) <|
  am_fc (ok_ifne dX11_set_31 (by decide) rfl) <|
  am_fc (ok_iconst dX11_set_34 (by decide) rfl) <|
  am_fc (ok_iret rfl dX11_set_35) <|
  am_fc (ok_aload_n dX11_set_36 rfl rfl) <|
  am_fc (ok_getR cl_10 (by decide) rfl dX11_set_37 w4_115 rfl) <|
  am_fc (ok_iconst dX11_set_40 (by decide) rfl) <|
  am_fc (ok_iload_n dX11_set_41 rfl rfl) <|
  am_fc (ok_imul dX11_set_42 rfl) <|
  am_fc (ok_iload_n dX11_set_43 rfl rfl) <|
  am_fc (ok_iadd dX11_set_44 rfl) <|
  am_fc (ok_iald dX11_set_45 rfl) <|
  am_fc (ok_istore dX11_set_46 rfl) <|
  am_fc (ok_aload_n dX11_set_48 rfl rfl) <|
  am_fc (ok_getR cl_10 (by decide) rfl dX11_set_49 w4_115 rfl) <|
  am_fc (ok_iconst dX11_set_52 (by decide) rfl) <|
  am_fc (ok_iload_n dX11_set_53 rfl rfl) <|
  am_fc (ok_imul dX11_set_54 rfl) <|
  am_fc (ok_iload_n dX11_set_55 rfl rfl) <|
  am_fc (ok_iadd dX11_set_56 rfl) <|
  am_fc (ok_iload_n dX11_set_57 rfl rfl) <|
  am_fc (ok_iast dX11_set_58 rfl) <|
  am_fc (ok_iload dX11_set_59 rfl) <|
  am_fc (ok_iret rfl dX11_set_61) <|
  am_fn
theorem ok_cd_X11_set (l : Launch) (D : va_G) (ad : Nat → Nat) (b0 : Nat) (Hb : Heap) : ∀ q ∈ cd_X11_set, am_ok l D ad b0 Hb am_If yX11_set cX11_set 5 (some .int) q.1 q.2 := ok_cd_X11_set_0 l D ad b0 Hb
set_option maxRecDepth 100000 in
theorem ok_cd_X11_placeOf_0 (l : Launch) (D : va_G) (ad : Nat → Nat) (b0 : Nat) (Hb : Heap) : ∀ q ∈ cd_X11_placeOf_0, am_ok l D ad b0 Hb am_If yX11_placeOf cX11_placeOf 4 (some .int) q.1 q.2 :=
  am_fc (ok_iload_n dX11_placeOf_0 rfl rfl) <|
  am_fc (ok_bipush dX11_placeOf_1 (by decide) rfl) <|
  am_fc (ok_irem dX11_placeOf_3 rfl) <|
  am_fc (ok_istore_n dX11_placeOf_4 rfl rfl) <|
  am_fc (ok_aload_n dX11_placeOf_5 rfl rfl) <|
  am_fc (ok_getR cl_10 (by decide) rfl dX11_placeOf_6 w4_114 rfl) <|
  am_fc (ok_iconst dX11_placeOf_9 (by decide) rfl) <|
  am_fc (ok_iload_n dX11_placeOf_10 rfl rfl) <|
  am_fc (ok_imul dX11_placeOf_11 rfl) <|
  am_fc (ok_iload_n dX11_placeOf_12 rfl rfl) <|
  am_fc (ok_i2l dX11_placeOf_13 rfl) <|
  am_fc (ok_ldc2 dX11_placeOf_14 w5_58 rfl) <|
  am_fc (ok_ldc2 dX11_placeOf_17 w5_59 rfl) <|
  am_fc (ok_invS (i := ii_X11_in) rfl mm_X11_in dX11_placeOf_20 w5_32 rfl) <|
  am_fc (ok_ifeq dX11_placeOf_23 (by decide) rfl) <|
  am_fc (ok_iconst dX11_placeOf_26 (by decide) rfl) <|
  am_fc (ok_goto dX11_placeOf_27 (by decide)) <|
  am_fc (ok_iload_n dX11_placeOf_30 rfl rfl) <|
  am_fc (ok_i2l dX11_placeOf_31 rfl) <|
  am_fc (ok_ldc2 dX11_placeOf_32 w5_60 rfl) <|
  am_fc (ok_ldc2 dX11_placeOf_35 w5_61 rfl) <|
  am_fc (ok_invS (i := ii_X11_in) rfl mm_X11_in dX11_placeOf_38 w5_32 rfl) <|
  am_fc (ok_ifeq dX11_placeOf_41 (by decide) rfl) <|
  am_fc (ok_iconst dX11_placeOf_44 (by decide) rfl) <|
  am_fc (ok_goto dX11_placeOf_45 (by decide)) <|
  am_fc (ok_iconst dX11_placeOf_48 (by decide) rfl) <|
  am_fc (ok_iadd dX11_placeOf_49 rfl) <|
  am_fc (ok_iald dX11_placeOf_50 rfl) <|
  am_fc (ok_iret rfl dX11_placeOf_51) <|
  am_fn
theorem ok_cd_X11_placeOf (l : Launch) (D : va_G) (ad : Nat → Nat) (b0 : Nat) (Hb : Heap) : ∀ q ∈ cd_X11_placeOf, am_ok l D ad b0 Hb am_If yX11_placeOf cX11_placeOf 4 (some .int) q.1 q.2 := ok_cd_X11_placeOf_0 l D ad b0 Hb
set_option maxRecDepth 100000 in
theorem ok_cd_X11_where_0 (l : Launch) (D : va_G) (ad : Nat → Nat) (b0 : Nat) (Hb : Heap) : ∀ q ∈ cd_X11_where_0, am_ok l D ad b0 Hb am_If yX11_where cX11_where 3 (some .int) q.1 q.2 :=
  am_fc (ok_aload_n dX11_where_0 rfl rfl) <|
  am_fc (ok_iload_n dX11_where_1 rfl rfl) <|
  am_fc (ok_invV (i := ii_X11_isPerson) rfl (Or.inr ⟨_, rfl, by decide, rfl⟩) mm_X11_isPerson dX11_where_2 w5_41 rfl) <|
  am_fc (ok_ifeq dX11_where_5 (by decide) rfl) <|
  am_fc (ok_iload_n dX11_where_8 rfl rfl) <|
  am_fc (ok_i2l dX11_where_9 rfl) <|
  am_fc (ok_lconst dX11_where_10 (by decide) rfl) <|
  am_fc (ok_ldc2 dX11_where_11 w5_53 rfl) <|
  am_fc (ok_invS (i := ii_X11_in) rfl mm_X11_in dX11_where_14 w5_32 rfl) <|
  am_fc (ok_ifeq dX11_where_17 (by decide) rfl) <|
  am_fc (ok_aload_n dX11_where_20 rfl rfl) <|
  am_fc (ok_iload_n dX11_where_21 rfl rfl) <|
  am_fc (ok_iload_n dX11_where_22 rfl rfl) <|
  am_fc (ok_invV (i := ii_X11_placeOf) rfl (Or.inr ⟨_, rfl, by decide, rfl⟩) mm_X11_placeOf dX11_where_23 w5_54 rfl) <|
  am_fc (ok_goto dX11_where_26 (by decide)) <|
  am_fc (ok_iconst dX11_where_29 (by decide) rfl) <|
  am_fc (ok_iret rfl dX11_where_30) <|
  am_fn
theorem ok_cd_X11_where (l : Launch) (D : va_G) (ad : Nat → Nat) (b0 : Nat) (Hb : Heap) : ∀ q ∈ cd_X11_where, am_ok l D ad b0 Hb am_If yX11_where cX11_where 3 (some .int) q.1 q.2 := ok_cd_X11_where_0 l D ad b0 Hb
set_option maxRecDepth 100000 in
theorem ok_cd_X11_trust_0 (l : Launch) (D : va_G) (ad : Nat → Nat) (b0 : Nat) (Hb : Heap) : ∀ q ∈ cd_X11_trust_0, am_ok l D ad b0 Hb am_If yX11_trust cX11_trust 2 (some .int) q.1 q.2 :=
  am_fc (ok_aload_n dX11_trust_0 rfl rfl) <|
  am_fc (ok_getR cl_10 (by decide) rfl dX11_trust_1 w4_115 rfl) <|
  am_fc (ok_iconst dX11_trust_4 (by decide) rfl) <|
  am_fc (ok_iload_n dX11_trust_5 rfl rfl) <|
  am_fc (ok_imul dX11_trust_6 rfl) <|
  am_fc (ok_iald dX11_trust_7 rfl) <|
  am_fc (ok_iret rfl dX11_trust_8) <|
  am_fn
theorem ok_cd_X11_trust (l : Launch) (D : va_G) (ad : Nat → Nat) (b0 : Nat) (Hb : Heap) : ∀ q ∈ cd_X11_trust, am_ok l D ad b0 Hb am_If yX11_trust cX11_trust 2 (some .int) q.1 q.2 := ok_cd_X11_trust_0 l D ad b0 Hb
set_option maxRecDepth 100000 in
theorem ok_cd_X11_isReader_0 (l : Launch) (D : va_G) (ad : Nat → Nat) (b0 : Nat) (Hb : Heap) : ∀ q ∈ cd_X11_isReader_0, am_ok l D ad b0 Hb am_If yX11_isReader cX11_isReader 2 (some .boolean) q.1 q.2 :=
  am_fc (ok_aload_n dX11_isReader_0 rfl rfl) <|
  am_fc (ok_getR cl_10 (by decide) rfl dX11_isReader_1 w4_115 rfl) <|
  am_fc (ok_iconst dX11_isReader_4 (by decide) rfl) <|
  am_fc (ok_iload_n dX11_isReader_5 rfl rfl) <|
  am_fc (ok_imul dX11_isReader_6 rfl) <|
  am_fc (ok_iconst dX11_isReader_7 (by decide) rfl) <|
  am_fc (ok_iadd dX11_isReader_8 rfl) <|
  am_fc (ok_iald dX11_isReader_9 rfl) <|
  am_fc (ok_iconst dX11_isReader_10 (by decide) rfl) <|
  am_fc (ok_cne dX11_isReader_11 (by decide) rfl) <|
  am_fc (ok_iconst dX11_isReader_14 (by decide) rfl) <|
  am_fc (ok_goto dX11_isReader_15 (by decide)) <|
  am_fc (ok_iconst dX11_isReader_18 (by decide) rfl) <|
  am_fc (ok_zret rfl dX11_isReader_19) <|
  am_fn
theorem ok_cd_X11_isReader (l : Launch) (D : va_G) (ad : Nat → Nat) (b0 : Nat) (Hb : Heap) : ∀ q ∈ cd_X11_isReader, am_ok l D ad b0 Hb am_If yX11_isReader cX11_isReader 2 (some .boolean) q.1 q.2 := ok_cd_X11_isReader_0 l D ad b0 Hb
set_option maxRecDepth 100000 in
theorem ok_cd_X11_fear_0 (l : Launch) (D : va_G) (ad : Nat → Nat) (b0 : Nat) (Hb : Heap) : ∀ q ∈ cd_X11_fear_0, am_ok l D ad b0 Hb am_If yX11_fear cX11_fear 2 (some .int) q.1 q.2 :=
  am_fc (ok_aload_n dX11_fear_0 rfl rfl) <|
  am_fc (ok_getR cl_10 (by decide) rfl dX11_fear_1 w4_115 rfl) <|
  am_fc (ok_iconst dX11_fear_4 (by decide) rfl) <|
  am_fc (ok_iload_n dX11_fear_5 rfl rfl) <|
  am_fc (ok_imul dX11_fear_6 rfl) <|
  am_fc (ok_iconst dX11_fear_7 (by decide) rfl) <|
  am_fc (ok_iadd dX11_fear_8 rfl) <|
  am_fc (ok_iald dX11_fear_9 rfl) <|
  am_fc (ok_iret rfl dX11_fear_10) <|
  am_fn
theorem ok_cd_X11_fear (l : Launch) (D : va_G) (ad : Nat → Nat) (b0 : Nat) (Hb : Heap) : ∀ q ∈ cd_X11_fear, am_ok l D ad b0 Hb am_If yX11_fear cX11_fear 2 (some .int) q.1 q.2 := ok_cd_X11_fear_0 l D ad b0 Hb
set_option maxRecDepth 100000 in
theorem ok_cd_X11_isSaying_0 (l : Launch) (D : va_G) (ad : Nat → Nat) (b0 : Nat) (Hb : Heap) : ∀ q ∈ cd_X11_isSaying_0, am_ok l D ad b0 Hb am_If yX11_isSaying cX11_isSaying 2 (some .boolean) q.1 q.2 :=
  am_fc (ok_iload_n dX11_isSaying_0 rfl rfl) <|
  am_fc (ok_i2l dX11_isSaying_1 rfl) <|
  am_fc (ok_lconst dX11_isSaying_2 (by decide) rfl) <|
  am_fc (ok_aload_n dX11_isSaying_3 rfl rfl) <|
  am_fc (ok_getI cl_10 (by decide) rfl dX11_isSaying_4 w4_117 rfl) <|
  am_fc (ok_iconst dX11_isSaying_7 (by decide) rfl) <|
  am_fc (ok_isub dX11_isSaying_8 rfl) <|
  am_fc (ok_i2l dX11_isSaying_9 rfl) <|
  am_fc (ok_invS (i := ii_X11_in) rfl mm_X11_in dX11_isSaying_10 w5_32 rfl) <|
  am_fc (ok_zret rfl dX11_isSaying_13) <|
  am_fn
theorem ok_cd_X11_isSaying (l : Launch) (D : va_G) (ad : Nat → Nat) (b0 : Nat) (Hb : Heap) : ∀ q ∈ cd_X11_isSaying, am_ok l D ad b0 Hb am_If yX11_isSaying cX11_isSaying 2 (some .boolean) q.1 q.2 := ok_cd_X11_isSaying_0 l D ad b0 Hb
set_option maxRecDepth 100000 in
theorem ok_cd_X11_isDigit_0 (l : Launch) (D : va_G) (ad : Nat → Nat) (b0 : Nat) (Hb : Heap) : ∀ q ∈ cd_X11_isDigit_0, am_ok l D ad b0 Hb am_If yX11_isDigit cX11_isDigit 1 (some .boolean) q.1 q.2 :=
  am_fc (ok_iload_n dX11_isDigit_0 rfl rfl) <|
  am_fc (ok_i2l dX11_isDigit_1 rfl) <|
  am_fc (ok_lconst dX11_isDigit_2 (by decide) rfl) <|
  am_fc (ok_ldc2 dX11_isDigit_3 w5_35 rfl) <|
  am_fc (ok_invS (i := ii_X11_in) rfl mm_X11_in dX11_isDigit_6 w5_32 rfl) <|
  am_fc (ok_zret rfl dX11_isDigit_9) <|
  am_fn
theorem ok_cd_X11_isDigit (l : Launch) (D : va_G) (ad : Nat → Nat) (b0 : Nat) (Hb : Heap) : ∀ q ∈ cd_X11_isDigit, am_ok l D ad b0 Hb am_If yX11_isDigit cX11_isDigit 1 (some .boolean) q.1 q.2 := ok_cd_X11_isDigit_0 l D ad b0 Hb
set_option maxRecDepth 100000 in
theorem ok_cd_X11_unit_0 (l : Launch) (D : va_G) (ad : Nat → Nat) (b0 : Nat) (Hb : Heap) : ∀ q ∈ cd_X11_unit_0, am_ok l D ad b0 Hb am_If yX11_unit cX11_unit 1 (some .int) q.1 q.2 :=
  am_fc (ok_iload_n dX11_unit_0 rfl rfl) <|
  am_fc (ok_iconst dX11_unit_1 (by decide) rfl) <|
  am_fc (ok_cne dX11_unit_2 (by decide) rfl) <|
  am_fc (ok_sipush dX11_unit_5 (by decide) rfl) <|
  am_fc (ok_goto dX11_unit_8 (by decide)) <|
  am_fc (ok_iload_n dX11_unit_11 rfl rfl) <|
  am_fc (ok_iconst dX11_unit_12 (by decide) rfl) <|
  am_fc (ok_cne dX11_unit_13 (by decide) rfl) <|
  am_fc (ok_bipush dX11_unit_16 (by decide) rfl) <|
  am_fc (ok_goto dX11_unit_18 (by decide)) <|
  am_fc (ok_iload_n dX11_unit_21 rfl rfl) <|
  am_fc (ok_iconst dX11_unit_22 (by decide) rfl) <|
  am_fc (ok_cne dX11_unit_23 (by decide) rfl) <|
  am_fc (ok_bipush dX11_unit_26 (by decide) rfl) <|
  am_fc (ok_goto dX11_unit_28 (by decide)) <|
  am_fc (ok_iconst dX11_unit_31 (by decide) rfl) <|
  am_fc (ok_iret rfl dX11_unit_32) <|
  am_fn
theorem ok_cd_X11_unit (l : Launch) (D : va_G) (ad : Nat → Nat) (b0 : Nat) (Hb : Heap) : ∀ q ∈ cd_X11_unit, am_ok l D ad b0 Hb am_If yX11_unit cX11_unit 1 (some .int) q.1 q.2 := ok_cd_X11_unit_0 l D ad b0 Hb
set_option maxRecDepth 100000 in
theorem ok_cd_X11_partOf_0 (l : Launch) (D : va_G) (ad : Nat → Nat) (b0 : Nat) (Hb : Heap) : ∀ q ∈ cd_X11_partOf_0, am_ok l D ad b0 Hb am_If yX11_partOf cX11_partOf 2 (some .int) q.1 q.2 :=
  am_fc (ok_iload_n dX11_partOf_0 rfl rfl) <|
  am_fc (ok_iload_n dX11_partOf_1 rfl rfl) <|
  am_fc (ok_invS (i := ii_X11_unit) rfl mm_X11_unit dX11_partOf_2 w5_87 rfl) <|
  am_fc (ok_idiv dX11_partOf_5 rfl) <|
  am_fc (ok_bipush dX11_partOf_6 (by decide) rfl) <|
  am_fc (ok_irem dX11_partOf_8 rfl) <|
  am_fc (ok_iret rfl dX11_partOf_9) <|
  am_fn
theorem ok_cd_X11_partOf (l : Launch) (D : va_G) (ad : Nat → Nat) (b0 : Nat) (Hb : Heap) : ∀ q ∈ cd_X11_partOf, am_ok l D ad b0 Hb am_If yX11_partOf cX11_partOf 2 (some .int) q.1 q.2 := ok_cd_X11_partOf_0 l D ad b0 Hb
set_option maxRecDepth 100000 in
theorem ok_cd_X11_comes_0 (l : Launch) (D : va_G) (ad : Nat → Nat) (b0 : Nat) (Hb : Heap) : ∀ q ∈ cd_X11_comes_0, am_ok l D ad b0 Hb am_If yX11_comes cX11_comes 6 (some .int) q.1 q.2 :=
  am_fc (ok_aload_n dX11_comes_0 rfl rfl) <|
  am_fc (ok_getI cl_10 (by decide) rfl dX11_comes_1 w4_117 rfl) <|
  am_fc (ok_bipush dX11_comes_4 (by decide) rfl) <|
  am_fc (ok_cne dX11_comes_6 (by decide) rfl) <|
  am_fc (ok_bipush dX11_comes_9 (by decide) rfl) <|
  am_fc (ok_iret rfl dX11_comes_11) <|
  am_fc (ok_aload_n dX11_comes_12 rfl rfl) <|
  am_fc (ok_getR cl_10 (by decide) rfl dX11_comes_13 w4_118 rfl) <|
  am_fc (ok_aload_n dX11_comes_16 rfl rfl) <|
  am_fc (ok_getI cl_10 (by decide) rfl dX11_comes_17 w4_117 rfl) <|
  am_fc (ok_iload_n dX11_comes_20 rfl rfl) <|
  am_fc (ok_iast dX11_comes_21 rfl) <|
  am_fc (ok_aload_n dX11_comes_22 rfl rfl) <|
  am_fc (ok_getR cl_10 (by decide) rfl dX11_comes_23 w4_119 rfl) <|
  am_fc (ok_aload_n dX11_comes_26 rfl rfl) <|
  am_fc (ok_getI cl_10 (by decide) rfl dX11_comes_27 w4_117 rfl) <|
  am_fc (ok_iload_n dX11_comes_30 rfl rfl) <|
  am_fc (ok_iast dX11_comes_31 rfl) <|
  am_fc (ok_aload_n dX11_comes_32 rfl rfl) <|
  am_fc (ok_getR cl_10 (by decide) rfl dX11_comes_33 w4_120 rfl) <|
  am_fc (ok_aload_n dX11_comes_36 rfl rfl) <|
  am_fc (ok_getI cl_10 (by decide) rfl dX11_comes_37 w4_117 rfl) <|
  am_fc (ok_iload_n dX11_comes_40 rfl rfl) <|
  am_fc (ok_iast dX11_comes_41 rfl) <|
  am_fc (ok_aload_n dX11_comes_42 rfl rfl) <|
  am_fc (ok_getR cl_10 (by decide) rfl dX11_comes_43 w4_121 rfl) <|
  am_fc (ok_aload_n dX11_comes_46 rfl rfl) <|
  am_fc (ok_getI cl_10 (by decide) rfl dX11_comes_47 w4_117 rfl) <|
  am_fc (ok_iload dX11_comes_50 rfl) <|
  am_fc (ok_iast dX11_comes_52 rfl) <|
  am_fc (ok_aload_n dX11_comes_53 rfl rfl) <|
  am_fc (ok_getR cl_10 (by decide) rfl dX11_comes_54 w4_122 rfl) <|
  am_fc (ok_aload_n dX11_comes_57 rfl rfl) <|
  am_fc (ok_getI cl_10 (by decide) rfl dX11_comes_58 w4_117 rfl) <|
  am_fc (ok_iload dX11_comes_61 rfl) <|
  am_fc (ok_zast dX11_comes_63 rfl) <|
  am_fc (ok_aload_n dX11_comes_64 rfl rfl) <|
  am_fc (ok_getR cl_10 (by decide) rfl dX11_comes_65 w4_123 rfl) <|
  am_fc (ok_aload_n dX11_comes_68 rfl rfl) <|
  am_fc (ok_getI cl_10 (by decide) rfl dX11_comes_69 w4_117 rfl) <|
  am_fc (ok_iconst dX11_comes_72 (by decide) rfl) <|
  am_fc (ok_iast dX11_comes_73 rfl) <|
  am_fc (ok_aload_n dX11_comes_74 rfl rfl) <|
  am_fc (ok_dup dX11_comes_75 rfl) <|
  am_fc (ok_getI cl_10 (by decide) rfl dX11_comes_76 w4_117 rfl) <|
  am_fc (ok_iconst dX11_comes_79 (by decide) rfl) <|
  am_fc (ok_iadd dX11_comes_80 rfl) <|
  am_fc (ok_putI cl_10 (by decide) rfl (Or.inl rfl) dX11_comes_81 w4_117 rfl) <|
  am_fc (ok_aload_n dX11_comes_84 rfl rfl) <|
  am_fc (ok_getI cl_10 (by decide) rfl dX11_comes_85 w4_117 rfl) <|
  am_fn
set_option maxRecDepth 100000 in
theorem ok_cd_X11_comes_1 (l : Launch) (D : va_G) (ad : Nat → Nat) (b0 : Nat) (Hb : Heap) : ∀ q ∈ cd_X11_comes_1, am_ok l D ad b0 Hb am_If yX11_comes cX11_comes 6 (some .int) q.1 q.2 :=
  am_fc (ok_iconst dX11_comes_88 (by decide) rfl) <|
  am_fc (ok_isub dX11_comes_89 rfl) <|
  am_fc (ok_iret rfl dX11_comes_90) <|
  am_fn
theorem ok_cd_X11_comes (l : Launch) (D : va_G) (ad : Nat → Nat) (b0 : Nat) (Hb : Heap) : ∀ q ∈ cd_X11_comes, am_ok l D ad b0 Hb am_If yX11_comes cX11_comes 6 (some .int) q.1 q.2 := am_fa (ok_cd_X11_comes_0 l D ad b0 Hb) (ok_cd_X11_comes_1 l D ad b0 Hb)
set_option maxRecDepth 100000 in
theorem ok_cd_X11_areParts_0 (l : Launch) (D : va_G) (ad : Nat → Nat) (b0 : Nat) (Hb : Heap) : ∀ q ∈ cd_X11_areParts_0, am_ok l D ad b0 Hb am_If yX11_areParts cX11_areParts 4 (some .boolean) q.1 q.2 :=
  am_fc (ok_iload_n dX11_areParts_0 rfl rfl) <|
  am_fc (ok_invS (i := ii_X11_isDigit) rfl mm_X11_isDigit dX11_areParts_1 w5_69 rfl) <|
  am_fc (ok_ifeq dX11_areParts_4 (by decide) rfl) <|
  am_fc (ok_iload_n dX11_areParts_7 rfl rfl) <|
  am_fc (ok_invS (i := ii_X11_isDigit) rfl mm_X11_isDigit dX11_areParts_8 w5_69 rfl) <|
  am_fc (ok_ifeq dX11_areParts_11 (by decide) rfl) <|
  am_fc (ok_iload_n dX11_areParts_14 rfl rfl) <|
  am_fc (ok_invS (i := ii_X11_isDigit) rfl mm_X11_isDigit dX11_areParts_15 w5_69 rfl) <|
  am_fc (ok_ifeq dX11_areParts_18 (by decide) rfl) <|
  am_fc (ok_iload_n dX11_areParts_21 rfl rfl) <|
  am_fc (ok_invS (i := ii_X11_isDigit) rfl mm_X11_isDigit dX11_areParts_22 w5_69 rfl) <|
  am_fc (ok_ifeq dX11_areParts_25 (by decide) rfl) <|
  am_fc (ok_iconst dX11_areParts_28 (by decide) rfl) <|
  am_fc (ok_goto dX11_areParts_29 (by decide)) <|
  am_fc (ok_iconst dX11_areParts_32 (by decide) rfl) <|
  am_fc (ok_zret rfl dX11_areParts_33) <|
  am_fn
theorem ok_cd_X11_areParts (l : Launch) (D : va_G) (ad : Nat → Nat) (b0 : Nat) (Hb : Heap) : ∀ q ∈ cd_X11_areParts, am_ok l D ad b0 Hb am_If yX11_areParts cX11_areParts 4 (some .boolean) q.1 q.2 := ok_cd_X11_areParts_0 l D ad b0 Hb
set_option maxRecDepth 100000 in
theorem ok_cd_X11_plain_0 (l : Launch) (D : va_G) (ad : Nat → Nat) (b0 : Nat) (Hb : Heap) : ∀ q ∈ cd_X11_plain_0, am_ok l D ad b0 Hb am_If yX11_plain cX11_plain 5 (some .int) q.1 q.2 :=
  am_fc (ok_iload_n dX11_plain_0 rfl rfl) <|
  am_fc (ok_iload_n dX11_plain_1 rfl rfl) <|
  am_fc (ok_iload_n dX11_plain_2 rfl rfl) <|
  am_fc (ok_iload dX11_plain_3 rfl) <|
  am_fc (ok_invS (i := ii_X11_areParts) rfl mm_X11_areParts dX11_plain_5 w5_66 rfl) <|
  am_fc (ok_ifeq dX11_plain_8 (by decide) rfl) <|
  am_fc (ok_aload_n dX11_plain_11 rfl rfl) <|
  am_fc (ok_iconst dX11_plain_12 (by decide) rfl) <|
  am_fc (ok_sipush dX11_plain_13 (by decide) rfl) <|
  am_fc (ok_iload_n dX11_plain_16 rfl rfl) <|
  am_fc (ok_imul dX11_plain_17 rfl) <|
  am_fc (ok_bipush dX11_plain_18 (by decide) rfl) <|
  am_fc (ok_iload_n dX11_plain_20 rfl rfl) <|
  am_fc (ok_imul dX11_plain_21 rfl) <|
  am_fc (ok_iadd dX11_plain_22 rfl) <|
  am_fc (ok_bipush dX11_plain_23 (by decide) rfl) <|
  am_fc (ok_iload_n dX11_plain_25 rfl rfl) <|
  am_fc (ok_imul dX11_plain_26 rfl) <|
  am_fc (ok_iadd dX11_plain_27 rfl) <|
  am_fc (ok_iload dX11_plain_28 rfl) <|
  am_fc (ok_iadd dX11_plain_30 rfl) <|
  am_fc (ok_iconst dX11_plain_31 (by decide) rfl) <|
  am_fc (ok_iconst dX11_plain_32 (by decide) rfl) <|
  am_fc (ok_iconst dX11_plain_33 (by decide) rfl) <|
  am_fc (ok_invV (i := ii_X11_comes) rfl (Or.inr ⟨_, rfl, by decide, rfl⟩) mm_X11_comes dX11_plain_34 w5_72 rfl) <|
  am_fc (ok_goto dX11_plain_37 (by decide)) <|
  am_fc (ok_iconst dX11_plain_40 (by decide) rfl) <|
  am_fc (ok_iret rfl dX11_plain_41) <|
  am_fn
theorem ok_cd_X11_plain (l : Launch) (D : va_G) (ad : Nat → Nat) (b0 : Nat) (Hb : Heap) : ∀ q ∈ cd_X11_plain, am_ok l D ad b0 Hb am_If yX11_plain cX11_plain 5 (some .int) q.1 q.2 := ok_cd_X11_plain_0 l D ad b0 Hb
set_option maxRecDepth 100000 in
theorem ok_cd_X11_changed_0 (l : Launch) (D : va_G) (ad : Nat → Nat) (b0 : Nat) (Hb : Heap) : ∀ q ∈ cd_X11_changed_0, am_ok l D ad b0 Hb am_If yX11_changed cX11_changed 5 (some .int) q.1 q.2 :=
  am_fc (ok_aload_n dX11_changed_0 rfl rfl) <|
  am_fc (ok_iload_n dX11_changed_1 rfl rfl) <|
  am_fc (ok_invV (i := ii_X11_isSaying) rfl (Or.inr ⟨_, rfl, by decide, rfl⟩) mm_X11_isSaying dX11_changed_2 w5_80 rfl) <|
  am_fc (ok_ifeq dX11_changed_5 (by decide) rfl) <|
  am_fc (ok_iload_n dX11_changed_8 rfl rfl) <|
  am_fc (ok_i2l dX11_changed_9 rfl) <|
  am_fc (ok_lconst dX11_changed_10 (by decide) rfl) <|
  am_fc (ok_ldc2 dX11_changed_11 w5_45 rfl) <|
  am_fc (ok_invS (i := ii_X11_in) rfl mm_X11_in dX11_changed_14 w5_32 rfl) <|
  am_fc (ok_ifeq dX11_changed_17 (by decide) rfl) <|
  am_fc (ok_iload_n dX11_changed_20 rfl rfl) <|
  am_fc (ok_invS (i := ii_X11_isDigit) rfl mm_X11_isDigit dX11_changed_21 w5_69 rfl) <|
  am_fc (ok_ifne dX11_changed_24 (by decide) rfl) <|
  am_fc (ok_iconst dX11_changed_27 (by decide) rfl) <|
  am_fc (ok_iret rfl dX11_changed_28) <|
  am_fc (ok_aload_n dX11_changed_29 rfl rfl) <|
  am_fc (ok_getR cl_10 (by decide) rfl dX11_changed_30 w4_119 rfl) <|
  am_fc (ok_iload_n dX11_changed_33 rfl rfl) <|
  am_fc (ok_iald dX11_changed_34 rfl) <|
  am_fc (ok_iload_n dX11_changed_35 rfl rfl) <|
  am_fc (ok_invS (i := ii_X11_partOf) rfl mm_X11_partOf dX11_changed_36 w5_84 rfl) <|
  am_fc (ok_istore dX11_changed_39 rfl) <|
  am_fc (ok_iload dX11_changed_41 rfl) <|
  am_fc (ok_iload_n dX11_changed_43 rfl rfl) <|
  am_fc (ok_cne dX11_changed_44 (by decide) rfl) <|
  am_fc (ok_bipush dX11_changed_47 (by decide) rfl) <|
  am_fc (ok_goto dX11_changed_49 (by decide)) <|
  am_fc (ok_aload_n dX11_changed_52 rfl rfl) <|
  am_fc (ok_iconst dX11_changed_53 (by decide) rfl) <|
  am_fc (ok_aload_n dX11_changed_54 rfl rfl) <|
  am_fc (ok_getR cl_10 (by decide) rfl dX11_changed_55 w4_119 rfl) <|
  am_fc (ok_iload_n dX11_changed_58 rfl rfl) <|
  am_fc (ok_iald dX11_changed_59 rfl) <|
  am_fc (ok_iload_n dX11_changed_60 rfl rfl) <|
  am_fc (ok_iload dX11_changed_61 rfl) <|
  am_fc (ok_isub dX11_changed_63 rfl) <|
  am_fc (ok_iload_n dX11_changed_64 rfl rfl) <|
  am_fc (ok_invS (i := ii_X11_unit) rfl mm_X11_unit dX11_changed_65 w5_87 rfl) <|
  am_fc (ok_imul dX11_changed_68 rfl) <|
  am_fc (ok_iadd dX11_changed_69 rfl) <|
  am_fc (ok_iload_n dX11_changed_70 rfl rfl) <|
  am_fc (ok_iconst dX11_changed_71 (by decide) rfl) <|
  am_fc (ok_iconst dX11_changed_72 (by decide) rfl) <|
  am_fc (ok_invV (i := ii_X11_comes) rfl (Or.inr ⟨_, rfl, by decide, rfl⟩) mm_X11_comes dX11_changed_73 w5_72 rfl) <|
  am_fc (ok_iret rfl dX11_changed_76) <|
  am_fn
theorem ok_cd_X11_changed (l : Launch) (D : va_G) (ad : Nat → Nat) (b0 : Nat) (Hb : Heap) : ∀ q ∈ cd_X11_changed, am_ok l D ad b0 Hb am_If yX11_changed cX11_changed 5 (some .int) q.1 q.2 := ok_cd_X11_changed_0 l D ad b0 Hb
set_option maxRecDepth 100000 in
theorem ok_cd_X11_planted_0 (l : Launch) (D : va_G) (ad : Nat → Nat) (b0 : Nat) (Hb : Heap) : ∀ q ∈ cd_X11_planted_0, am_ok l D ad b0 Hb am_If yX11_planted cX11_planted 3 (some .int) q.1 q.2 :=
  am_fc (ok_aload_n dX11_planted_0 rfl rfl) <|
  am_fc (ok_iload_n dX11_planted_1 rfl rfl) <|
  am_fc (ok_invV (i := ii_X11_isSaying) rfl (Or.inr ⟨_, rfl, by decide, rfl⟩) mm_X11_isSaying dX11_planted_2 w5_80 rfl) <|
  am_fc (ok_ifeq dX11_planted_5 (by decide) rfl) <|
  am_fc (ok_iload_n dX11_planted_8 rfl rfl) <|
  am_fc (ok_i2l dX11_planted_9 rfl) <|
  am_fc (ok_lconst dX11_planted_10 (by decide) rfl) <|
  am_fc (ok_ldc2 dX11_planted_11 w5_53 rfl) <|
  am_fc (ok_invS (i := ii_X11_in) rfl mm_X11_in dX11_planted_14 w5_32 rfl) <|
  am_fc (ok_ifeq dX11_planted_17 (by decide) rfl) <|
  am_fc (ok_aload_n dX11_planted_20 rfl rfl) <|
  am_fc (ok_iconst dX11_planted_21 (by decide) rfl) <|
  am_fc (ok_aload_n dX11_planted_22 rfl rfl) <|
  am_fc (ok_getR cl_10 (by decide) rfl dX11_planted_23 w4_119 rfl) <|
  am_fc (ok_iload_n dX11_planted_26 rfl rfl) <|
  am_fc (ok_iald dX11_planted_27 rfl) <|
  am_fc (ok_iload_n dX11_planted_28 rfl rfl) <|
  am_fc (ok_iload_n dX11_planted_29 rfl rfl) <|
  am_fc (ok_iconst dX11_planted_30 (by decide) rfl) <|
  am_fc (ok_invV (i := ii_X11_comes) rfl (Or.inr ⟨_, rfl, by decide, rfl⟩) mm_X11_comes dX11_planted_31 w5_72 rfl) <|
  am_fc (ok_goto dX11_planted_34 (by decide)) <|
  am_fc (ok_iconst dX11_planted_37 (by decide) rfl) <|
  am_fc (ok_iret rfl dX11_planted_38) <|
  am_fn
theorem ok_cd_X11_planted (l : Launch) (D : va_G) (ad : Nat → Nat) (b0 : Nat) (Hb : Heap) : ∀ q ∈ cd_X11_planted, am_ok l D ad b0 Hb am_If yX11_planted cX11_planted 3 (some .int) q.1 q.2 := ok_cd_X11_planted_0 l D ad b0 Hb
set_option maxRecDepth 100000 in
theorem ok_cd_X11_real_0 (l : Launch) (D : va_G) (ad : Nat → Nat) (b0 : Nat) (Hb : Heap) : ∀ q ∈ cd_X11_real_0, am_ok l D ad b0 Hb am_If yX11_real cX11_real 6 (some .int) q.1 q.2 :=
  am_fc (ok_iload_n dX11_real_0 rfl rfl) <|
  am_fc (ok_iload_n dX11_real_1 rfl rfl) <|
  am_fc (ok_iload_n dX11_real_2 rfl rfl) <|
  am_fc (ok_iload dX11_real_3 rfl) <|
  am_fc (ok_invS (i := ii_X11_areParts) rfl mm_X11_areParts dX11_real_5 w5_66 rfl) <|
  am_fc (ok_ifeq dX11_real_8 (by decide) rfl) <|
  am_fc (ok_aload_n dX11_real_11 rfl rfl) <|
  am_fc (ok_iconst dX11_real_12 (by decide) rfl) <|
  am_fc (ok_sipush dX11_real_13 (by decide) rfl) <|
  am_fc (ok_iload_n dX11_real_16 rfl rfl) <|
  am_fc (ok_imul dX11_real_17 rfl) <|
  am_fc (ok_bipush dX11_real_18 (by decide) rfl) <|
  am_fc (ok_iload_n dX11_real_20 rfl rfl) <|
  am_fc (ok_imul dX11_real_21 rfl) <|
  am_fc (ok_iadd dX11_real_22 rfl) <|
  am_fc (ok_bipush dX11_real_23 (by decide) rfl) <|
  am_fc (ok_iload_n dX11_real_25 rfl rfl) <|
  am_fc (ok_imul dX11_real_26 rfl) <|
  am_fc (ok_iadd dX11_real_27 rfl) <|
  am_fc (ok_iload dX11_real_28 rfl) <|
  am_fc (ok_iadd dX11_real_30 rfl) <|
  am_fc (ok_iconst dX11_real_31 (by decide) rfl) <|
  am_fc (ok_iconst dX11_real_32 (by decide) rfl) <|
  am_fc (ok_iload dX11_real_33 rfl) <|
  am_fc (ok_invV (i := ii_X11_comes) rfl (Or.inr ⟨_, rfl, by decide, rfl⟩) mm_X11_comes dX11_real_35 w5_72 rfl) <|
  am_fc (ok_goto dX11_real_38 (by decide)) <|
  am_fc (ok_iconst dX11_real_41 (by decide) rfl) <|
  am_fc (ok_iret rfl dX11_real_42) <|
  am_fn
theorem ok_cd_X11_real (l : Launch) (D : va_G) (ad : Nat → Nat) (b0 : Nat) (Hb : Heap) : ∀ q ∈ cd_X11_real, am_ok l D ad b0 Hb am_If yX11_real cX11_real 6 (some .int) q.1 q.2 := ok_cd_X11_real_0 l D ad b0 Hb
set_option maxRecDepth 100000 in
theorem ok_cd_X11_told_0 (l : Launch) (D : va_G) (ad : Nat → Nat) (b0 : Nat) (Hb : Heap) : ∀ q ∈ cd_X11_told_0, am_ok l D ad b0 Hb am_If yX11_told cX11_told 4 (some .int) q.1 q.2 :=
  am_fc (ok_aload_n dX11_told_0 rfl rfl) <|
  am_fc (ok_iload_n dX11_told_1 rfl rfl) <|
  am_fc (ok_invV (i := ii_X11_isSaying) rfl (Or.inr ⟨_, rfl, by decide, rfl⟩) mm_X11_isSaying dX11_told_2 w5_80 rfl) <|
  am_fc (ok_ifeq dX11_told_5 (by decide) rfl) <|
  am_fc (ok_iload_n dX11_told_8 rfl rfl) <|
  am_fc (ok_i2l dX11_told_9 rfl) <|
  am_fc (ok_lconst dX11_told_10 (by decide) rfl) <|
  am_fc (ok_ldc2 dX11_told_11 w5_58 rfl) <|
  am_fc (ok_invS (i := ii_X11_in) rfl mm_X11_in dX11_told_14 w5_32 rfl) <|
  am_fc (ok_ifne dX11_told_17 (by decide) rfl) <|
  am_fc (ok_iconst dX11_told_20 (by decide) rfl) <|
  am_fc (ok_iret rfl dX11_told_21) <|
  am_fc (ok_aload_n dX11_told_22 rfl rfl) <|
  am_fc (ok_getR cl_10 (by decide) rfl dX11_told_23 w4_118 rfl) <|
  am_fc (ok_iload_n dX11_told_26 rfl rfl) <|
  am_fc (ok_iald dX11_told_27 rfl) <|
  am_fc (ok_istore_n dX11_told_28 rfl rfl) <|
  am_fc (ok_iload_n dX11_told_29 rfl rfl) <|
  am_fc (ok_table dX11_told_30 (by decide) (by decide) (am_tab _ _ _ (by decide))) <|
  am_fc (ok_iload_n dX11_told_80 rfl rfl) <|
  am_fc (ok_iret rfl dX11_told_81) <|
  am_fc (ok_iload_n dX11_told_82 rfl rfl) <|
  am_fc (ok_iconst dX11_told_83 (by decide) rfl) <|
  am_fc (ok_ceq dX11_told_84 (by decide) rfl) <|
  am_fc (ok_iload_n dX11_told_87 rfl rfl) <|
  am_fc (ok_iconst dX11_told_88 (by decide) rfl) <|
  am_fc (ok_cne dX11_told_89 (by decide) rfl) <|
  am_fc (ok_aload_n dX11_told_92 rfl rfl) <|
  am_fc (ok_getR cl_10 (by decide) rfl dX11_told_93 w4_120 rfl) <|
  am_fc (ok_iload_n dX11_told_96 rfl rfl) <|
  am_fc (ok_iald dX11_told_97 rfl) <|
  am_fc (ok_goto dX11_told_98 (by decide)) <|
  am_fc (ok_bipush dX11_told_101 (by decide) rfl) <|
  am_fc (ok_iret rfl dX11_told_103) <|
  am_fc (ok_iload_n dX11_told_104 rfl rfl) <|
  am_fc (ok_iconst dX11_told_105 (by decide) rfl) <|
  am_fc (ok_cne dX11_told_106 (by decide) rfl) <|
  am_fc (ok_aload_n dX11_told_109 rfl rfl) <|
  am_fc (ok_getR cl_10 (by decide) rfl dX11_told_110 w4_121 rfl) <|
  am_fc (ok_iload_n dX11_told_113 rfl rfl) <|
  am_fc (ok_iald dX11_told_114 rfl) <|
  am_fc (ok_goto dX11_told_115 (by decide)) <|
  am_fc (ok_bipush dX11_told_118 (by decide) rfl) <|
  am_fc (ok_iret rfl dX11_told_120) <|
  am_fc (ok_iload_n dX11_told_121 rfl rfl) <|
  am_fc (ok_iconst dX11_told_122 (by decide) rfl) <|
  am_fc (ok_ceq dX11_told_123 (by decide) rfl) <|
  am_fc (ok_bipush dX11_told_126 (by decide) rfl) <|
  am_fc (ok_goto dX11_told_128 (by decide)) <|
  am_fc (ok_aload_n dX11_told_131 rfl rfl) <|
  am_fn
set_option maxRecDepth 100000 in
theorem ok_cd_X11_told_1 (l : Launch) (D : va_G) (ad : Nat → Nat) (b0 : Nat) (Hb : Heap) : ∀ q ∈ cd_X11_told_1, am_ok l D ad b0 Hb am_If yX11_told cX11_told 4 (some .int) q.1 q.2 :=
  am_fc (ok_getR cl_10 (by decide) rfl dX11_told_132 w4_122 rfl) <|
  am_fc (ok_iload_n dX11_told_135 rfl rfl) <|
  am_fc (ok_zald dX11_told_136 rfl) <|
  am_fc (ok_ifeq dX11_told_137 (by decide) rfl) <|
  am_fc (ok_iconst dX11_told_140 (by decide) rfl) <|
  am_fc (ok_goto dX11_told_141 (by decide)) <|
  am_fc (ok_iconst dX11_told_144 (by decide) rfl) <|
  am_fc (ok_iret rfl dX11_told_145) <|
  am_fc (ok_aload_n dX11_told_146 rfl rfl) <|
  am_fc (ok_getR cl_10 (by decide) rfl dX11_told_147 w4_123 rfl) <|
  am_fc (ok_iload_n dX11_told_150 rfl rfl) <|
  am_fc (ok_iald dX11_told_151 rfl) <|
  am_fc (ok_iret rfl dX11_told_152) <|
  am_fc (ok_aload_n dX11_told_153 rfl rfl) <|
  am_fc (ok_getR cl_10 (by decide) rfl dX11_told_154 w4_119 rfl) <|
  am_fc (ok_iload_n dX11_told_157 rfl rfl) <|
  am_fc (ok_iald dX11_told_158 rfl) <|
  am_fc (ok_iload_n dX11_told_159 rfl rfl) <|
  am_fc (ok_invS (i := ii_X11_partOf) rfl mm_X11_partOf dX11_told_160 w5_84 rfl) <|
  am_fc (ok_iret rfl dX11_told_163) <|
  am_fn
theorem ok_cd_X11_told (l : Launch) (D : va_G) (ad : Nat → Nat) (b0 : Nat) (Hb : Heap) : ∀ q ∈ cd_X11_told, am_ok l D ad b0 Hb am_If yX11_told cX11_told 4 (some .int) q.1 q.2 := am_fa (ok_cd_X11_told_0 l D ad b0 Hb) (ok_cd_X11_told_1 l D ad b0 Hb)
set_option maxRecDepth 100000 in
theorem ok_cd_X11_weight_0 (l : Launch) (D : va_G) (ad : Nat → Nat) (b0 : Nat) (Hb : Heap) : ∀ q ∈ cd_X11_weight_0, am_ok l D ad b0 Hb am_If yX11_weight cX11_weight 4 (some .int) q.1 q.2 :=
  am_fc (ok_iload_n dX11_weight_0 rfl rfl) <|
  am_fc (ok_invS (i := ii_X11_isDigit) rfl mm_X11_isDigit dX11_weight_1 w5_69 rfl) <|
  am_fc (ok_ifeq dX11_weight_4 (by decide) rfl) <|
  am_fc (ok_iload_n dX11_weight_7 rfl rfl) <|
  am_fc (ok_invS (i := ii_X11_isDigit) rfl mm_X11_isDigit dX11_weight_8 w5_69 rfl) <|
  am_fc (ok_ifne dX11_weight_11 (by decide) rfl) <|
  am_fc (ok_iconst dX11_weight_14 (by decide) rfl) <|
  am_fc (ok_iret rfl dX11_weight_15) <|
  am_fc (ok_aload_n dX11_weight_16 rfl rfl) <|
  am_fc (ok_getR cl_10 (by decide) rfl dX11_weight_17 w4_124 rfl) <|
  am_fc (ok_iload_n dX11_weight_20 rfl rfl) <|
  am_fc (ok_iald dX11_weight_21 rfl) <|
  am_fc (ok_istore_n dX11_weight_22 rfl rfl) <|
  am_fc (ok_aload_n dX11_weight_23 rfl rfl) <|
  am_fc (ok_getR cl_10 (by decide) rfl dX11_weight_24 w4_124 rfl) <|
  am_fc (ok_iload_n dX11_weight_27 rfl rfl) <|
  am_fc (ok_iload_n dX11_weight_28 rfl rfl) <|
  am_fc (ok_iast dX11_weight_29 rfl) <|
  am_fc (ok_iload_n dX11_weight_30 rfl rfl) <|
  am_fc (ok_iret rfl dX11_weight_31) <|
  am_fn
theorem ok_cd_X11_weight (l : Launch) (D : va_G) (ad : Nat → Nat) (b0 : Nat) (Hb : Heap) : ∀ q ∈ cd_X11_weight, am_ok l D ad b0 Hb am_If yX11_weight cX11_weight 4 (some .int) q.1 q.2 := ok_cd_X11_weight_0 l D ad b0 Hb
set_option maxRecDepth 100000 in
theorem ok_cd_X11_takes_0 (l : Launch) (D : va_G) (ad : Nat → Nat) (b0 : Nat) (Hb : Heap) : ∀ q ∈ cd_X11_takes_0, am_ok l D ad b0 Hb am_If yX11_takes cX11_takes 5 (none) q.1 q.2 :=
  am_fc (ok_aload_n dX11_takes_0 rfl rfl) <|
  am_fc (ok_getR cl_10 (by decide) rfl dX11_takes_1 w4_125 rfl) <|
  am_fc (ok_iload_n dX11_takes_4 rfl rfl) <|
  am_fc (ok_iload_n dX11_takes_5 rfl rfl) <|
  am_fc (ok_iast dX11_takes_6 rfl) <|
  am_fc (ok_aload_n dX11_takes_7 rfl rfl) <|
  am_fc (ok_getR cl_10 (by decide) rfl dX11_takes_8 w4_126 rfl) <|
  am_fc (ok_iload_n dX11_takes_11 rfl rfl) <|
  am_fc (ok_aload_n dX11_takes_12 rfl rfl) <|
  am_fc (ok_getI cl_10 (by decide) rfl dX11_takes_13 w4_116 rfl) <|
  am_fc (ok_iast dX11_takes_16 rfl) <|
  am_fc (ok_aload_n dX11_takes_17 rfl rfl) <|
  am_fc (ok_getR cl_10 (by decide) rfl dX11_takes_18 w4_127 rfl) <|
  am_fc (ok_iload_n dX11_takes_21 rfl rfl) <|
  am_fc (ok_iload_n dX11_takes_22 rfl rfl) <|
  am_fc (ok_iast dX11_takes_23 rfl) <|
  am_fc (ok_aload_n dX11_takes_24 rfl rfl) <|
  am_fc (ok_getR cl_10 (by decide) rfl dX11_takes_25 w4_128 rfl) <|
  am_fc (ok_iload_n dX11_takes_28 rfl rfl) <|
  am_fc (ok_iload dX11_takes_29 rfl) <|
  am_fc (ok_iast dX11_takes_31 rfl) <|
  am_fc (ok_aload_n dX11_takes_32 rfl rfl) <|
  am_fc (ok_getR cl_10 (by decide) rfl dX11_takes_33 w4_129 rfl) <|
  am_fc (ok_iload_n dX11_takes_36 rfl rfl) <|
  am_fc (ok_aload_n dX11_takes_37 rfl rfl) <|
  am_fc (ok_getI cl_10 (by decide) rfl dX11_takes_38 w4_116 rfl) <|
  am_fc (ok_iast dX11_takes_41 rfl) <|
  am_fc (ok_vret rfl dX11_takes_42) <|
  am_fn
theorem ok_cd_X11_takes (l : Launch) (D : va_G) (ad : Nat → Nat) (b0 : Nat) (Hb : Heap) : ∀ q ∈ cd_X11_takes, am_ok l D ad b0 Hb am_If yX11_takes cX11_takes 5 (none) q.1 q.2 := ok_cd_X11_takes_0 l D ad b0 Hb
set_option maxRecDepth 100000 in
theorem ok_cd_X11_becomes_0 (l : Launch) (D : va_G) (ad : Nat → Nat) (b0 : Nat) (Hb : Heap) : ∀ q ∈ cd_X11_becomes_0, am_ok l D ad b0 Hb am_If yX11_becomes cX11_becomes 3 (none) q.1 q.2 :=
  am_fc (ok_aload_n dX11_becomes_0 rfl rfl) <|
  am_fc (ok_getR cl_10 (by decide) rfl dX11_becomes_1 w4_126 rfl) <|
  am_fc (ok_iload_n dX11_becomes_4 rfl rfl) <|
  am_fc (ok_aload_n dX11_becomes_5 rfl rfl) <|
  am_fc (ok_getR cl_10 (by decide) rfl dX11_becomes_6 w4_125 rfl) <|
  am_fc (ok_iload_n dX11_becomes_9 rfl rfl) <|
  am_fc (ok_iald dX11_becomes_10 rfl) <|
  am_fc (ok_iload_n dX11_becomes_11 rfl rfl) <|
  am_fc (ok_cne dX11_becomes_12 (by decide) rfl) <|
  am_fc (ok_aload_n dX11_becomes_15 rfl rfl) <|
  am_fc (ok_getR cl_10 (by decide) rfl dX11_becomes_16 w4_126 rfl) <|
  am_fc (ok_iload_n dX11_becomes_19 rfl rfl) <|
  am_fc (ok_iald dX11_becomes_20 rfl) <|
  am_fc (ok_goto dX11_becomes_21 (by decide)) <|
  am_fc (ok_aload_n dX11_becomes_24 rfl rfl) <|
  am_fc (ok_getI cl_10 (by decide) rfl dX11_becomes_25 w4_116 rfl) <|
  am_fc (ok_iast dX11_becomes_28 rfl) <|
  am_fc (ok_aload_n dX11_becomes_29 rfl rfl) <|
  am_fc (ok_getR cl_10 (by decide) rfl dX11_becomes_30 w4_125 rfl) <|
  am_fc (ok_iload_n dX11_becomes_33 rfl rfl) <|
  am_fc (ok_iload_n dX11_becomes_34 rfl rfl) <|
  am_fc (ok_iast dX11_becomes_35 rfl) <|
  am_fc (ok_vret rfl dX11_becomes_36) <|
  am_fn
theorem ok_cd_X11_becomes (l : Launch) (D : va_G) (ad : Nat → Nat) (b0 : Nat) (Hb : Heap) : ∀ q ∈ cd_X11_becomes, am_ok l D ad b0 Hb am_If yX11_becomes cX11_becomes 3 (none) q.1 q.2 := ok_cd_X11_becomes_0 l D ad b0 Hb
set_option maxRecDepth 100000 in
theorem ok_cd_X11_begin_0 (l : Launch) (D : va_G) (ad : Nat → Nat) (b0 : Nat) (Hb : Heap) : ∀ q ∈ cd_X11_begin_0, am_ok l D ad b0 Hb am_If yX11_begin cX11_begin 5 (some .int) q.1 q.2 :=
  am_fc (ok_aload_n dX11_begin_0 rfl rfl) <|
  am_fc (ok_iload_n dX11_begin_1 rfl rfl) <|
  am_fc (ok_invV (i := ii_X11_isPerson) rfl (Or.inr ⟨_, rfl, by decide, rfl⟩) mm_X11_isPerson dX11_begin_2 w5_41 rfl) <|
  am_fc (ok_ifeq dX11_begin_5 (by decide) rfl) <|
  am_fc (ok_aload_n dX11_begin_8 rfl rfl) <|
  am_fc (ok_iload_n dX11_begin_9 rfl rfl) <|
  am_fc (ok_invV (i := ii_X11_isSaying) rfl (Or.inr ⟨_, rfl, by decide, rfl⟩) mm_X11_isSaying dX11_begin_10 w5_80 rfl) <|
  am_fc (ok_ifne dX11_begin_13 (by decide) rfl) <|
  am_fc (ok_iconst dX11_begin_16 (by decide) rfl) <|
  am_fc (ok_iret rfl dX11_begin_17) <|
  am_fc (ok_aload_n dX11_begin_18 rfl rfl) <|
  am_fc (ok_getR cl_10 (by decide) rfl dX11_begin_19 w4_118 rfl) <|
  am_fc (ok_iload_n dX11_begin_22 rfl rfl) <|
  am_fc (ok_iald dX11_begin_23 rfl) <|
  am_fc (ok_iconst dX11_begin_24 (by decide) rfl) <|
  am_fc (ok_cne dX11_begin_25 (by decide) rfl) <|
  am_fc (ok_aload_n dX11_begin_28 rfl rfl) <|
  am_fc (ok_getI cl_10 (by decide) rfl dX11_begin_29 w4_116 rfl) <|
  am_fc (ok_aload_n dX11_begin_32 rfl rfl) <|
  am_fc (ok_getR cl_10 (by decide) rfl dX11_begin_33 w4_121 rfl) <|
  am_fc (ok_iload_n dX11_begin_36 rfl rfl) <|
  am_fc (ok_iald dX11_begin_37 rfl) <|
  am_fc (ok_cge dX11_begin_38 (by decide) rfl) <|
  am_fc (ok_bipush dX11_begin_41 (by decide) rfl) <|
  am_fc (ok_iret rfl dX11_begin_43) <|
  am_fc (ok_bipush dX11_begin_44 (by decide) rfl) <|
  am_fc (ok_iload_n dX11_begin_46 rfl rfl) <|
  am_fc (ok_imul dX11_begin_47 rfl) <|
  am_fc (ok_iload_n dX11_begin_48 rfl rfl) <|
  am_fc (ok_iadd dX11_begin_49 rfl) <|
  am_fc (ok_istore_n dX11_begin_50 rfl rfl) <|
  am_fc (ok_aload_n dX11_begin_51 rfl rfl) <|
  am_fc (ok_getR cl_10 (by decide) rfl dX11_begin_52 w4_125 rfl) <|
  am_fc (ok_iload_n dX11_begin_55 rfl rfl) <|
  am_fc (ok_iald dX11_begin_56 rfl) <|
  am_fc (ok_istore dX11_begin_57 rfl) <|
  am_fc (ok_aload_n dX11_begin_59 rfl rfl) <|
  am_fc (ok_iload_n dX11_begin_60 rfl rfl) <|
  am_fc (ok_iconst dX11_begin_61 (by decide) rfl) <|
  am_fc (ok_aload_n dX11_begin_62 rfl rfl) <|
  am_fc (ok_getR cl_10 (by decide) rfl dX11_begin_63 w4_119 rfl) <|
  am_fc (ok_iload_n dX11_begin_66 rfl rfl) <|
  am_fc (ok_iald dX11_begin_67 rfl) <|
  am_fc (ok_bipush dX11_begin_68 (by decide) rfl) <|
  am_fc (ok_invV (i := ii_X11_takes) rfl (Or.inr ⟨_, rfl, by decide, rfl⟩) mm_X11_takes dX11_begin_70 w5_110 rfl) <|
  am_fc (ok_iload dX11_begin_73 rfl) <|
  am_fc (ok_iret rfl dX11_begin_75) <|
  am_fn
theorem ok_cd_X11_begin (l : Launch) (D : va_G) (ad : Nat → Nat) (b0 : Nat) (Hb : Heap) : ∀ q ∈ cd_X11_begin, am_ok l D ad b0 Hb am_If yX11_begin cX11_begin 5 (some .int) q.1 q.2 := ok_cd_X11_begin_0 l D ad b0 Hb
set_option maxRecDepth 100000 in
theorem ok_cd_X11_knows_0 (l : Launch) (D : va_G) (ad : Nat → Nat) (b0 : Nat) (Hb : Heap) : ∀ q ∈ cd_X11_knows_0, am_ok l D ad b0 Hb am_If yX11_knows cX11_knows 5 (some .int) q.1 q.2 :=
  am_fc (ok_aload_n dX11_knows_0 rfl rfl) <|
  am_fc (ok_iload_n dX11_knows_1 rfl rfl) <|
  am_fc (ok_invV (i := ii_X11_isPerson) rfl (Or.inr ⟨_, rfl, by decide, rfl⟩) mm_X11_isPerson dX11_knows_2 w5_41 rfl) <|
  am_fc (ok_ifeq dX11_knows_5 (by decide) rfl) <|
  am_fc (ok_aload_n dX11_knows_8 rfl rfl) <|
  am_fc (ok_iload_n dX11_knows_9 rfl rfl) <|
  am_fc (ok_invV (i := ii_X11_isSaying) rfl (Or.inr ⟨_, rfl, by decide, rfl⟩) mm_X11_isSaying dX11_knows_10 w5_80 rfl) <|
  am_fc (ok_ifeq dX11_knows_13 (by decide) rfl) <|
  am_fc (ok_iload_n dX11_knows_16 rfl rfl) <|
  am_fc (ok_i2l dX11_knows_17 rfl) <|
  am_fc (ok_lconst dX11_knows_18 (by decide) rfl) <|
  am_fc (ok_ldc2 dX11_knows_19 w5_45 rfl) <|
  am_fc (ok_invS (i := ii_X11_in) rfl mm_X11_in dX11_knows_22 w5_32 rfl) <|
  am_fc (ok_ifne dX11_knows_25 (by decide) rfl) <|
  am_fc (ok_iconst dX11_knows_28 (by decide) rfl) <|
  am_fc (ok_iret rfl dX11_knows_29) <|
  am_fc (ok_bipush dX11_knows_30 (by decide) rfl) <|
  am_fc (ok_iload_n dX11_knows_32 rfl rfl) <|
  am_fc (ok_imul dX11_knows_33 rfl) <|
  am_fc (ok_iload_n dX11_knows_34 rfl rfl) <|
  am_fc (ok_iadd dX11_knows_35 rfl) <|
  am_fc (ok_istore dX11_knows_36 rfl) <|
  am_fc (ok_iload_n dX11_knows_38 rfl rfl) <|
  am_fc (ok_ifle dX11_knows_39 (by decide) rfl) <|
  am_fc (ok_aload_n dX11_knows_42 rfl rfl) <|
  am_fc (ok_getR cl_10 (by decide) rfl dX11_knows_43 w4_125 rfl) <|
  am_fc (ok_iload dX11_knows_46 rfl) <|
  am_fc (ok_iald dX11_knows_48 rfl) <|
  am_fc (ok_ifne dX11_knows_49 (by decide) rfl) <|
  am_fc (ok_bipush dX11_knows_52 (by decide) rfl) <|
  am_fc (ok_iret rfl dX11_knows_54) <|
  am_fc (ok_iload_n dX11_knows_55 rfl rfl) <|
  am_fc (ok_ifne dX11_knows_56 (by decide) rfl) <|
  am_fc (ok_aload_n dX11_knows_59 rfl rfl) <|
  am_fc (ok_getR cl_10 (by decide) rfl dX11_knows_60 w4_125 rfl) <|
  am_fc (ok_iload dX11_knows_63 rfl) <|
  am_fc (ok_iald dX11_knows_65 rfl) <|
  am_fc (ok_goto dX11_knows_66 (by decide)) <|
  am_fc (ok_iload_n dX11_knows_69 rfl rfl) <|
  am_fc (ok_iconst dX11_knows_70 (by decide) rfl) <|
  am_fc (ok_cne dX11_knows_71 (by decide) rfl) <|
  am_fc (ok_aload_n dX11_knows_74 rfl rfl) <|
  am_fc (ok_getR cl_10 (by decide) rfl dX11_knows_75 w4_126 rfl) <|
  am_fc (ok_iload dX11_knows_78 rfl) <|
  am_fc (ok_iald dX11_knows_80 rfl) <|
  am_fc (ok_goto dX11_knows_81 (by decide)) <|
  am_fc (ok_iload_n dX11_knows_84 rfl rfl) <|
  am_fc (ok_iconst dX11_knows_85 (by decide) rfl) <|
  am_fc (ok_cne dX11_knows_86 (by decide) rfl) <|
  am_fc (ok_aload_n dX11_knows_89 rfl rfl) <|
  am_fn
set_option maxRecDepth 100000 in
theorem ok_cd_X11_knows_1 (l : Launch) (D : va_G) (ad : Nat → Nat) (b0 : Nat) (Hb : Heap) : ∀ q ∈ cd_X11_knows_1, am_ok l D ad b0 Hb am_If yX11_knows cX11_knows 5 (some .int) q.1 q.2 :=
  am_fc (ok_getR cl_10 (by decide) rfl dX11_knows_90 w4_127 rfl) <|
  am_fc (ok_iload dX11_knows_93 rfl) <|
  am_fc (ok_iald dX11_knows_95 rfl) <|
  am_fc (ok_goto dX11_knows_96 (by decide)) <|
  am_fc (ok_iload_n dX11_knows_99 rfl rfl) <|
  am_fc (ok_iconst dX11_knows_100 (by decide) rfl) <|
  am_fc (ok_cne dX11_knows_101 (by decide) rfl) <|
  am_fc (ok_aload_n dX11_knows_104 rfl rfl) <|
  am_fc (ok_getR cl_10 (by decide) rfl dX11_knows_105 w4_128 rfl) <|
  am_fc (ok_iload dX11_knows_108 rfl) <|
  am_fc (ok_iald dX11_knows_110 rfl) <|
  am_fc (ok_goto dX11_knows_111 (by decide)) <|
  am_fc (ok_aload_n dX11_knows_114 rfl rfl) <|
  am_fc (ok_getR cl_10 (by decide) rfl dX11_knows_115 w4_129 rfl) <|
  am_fc (ok_iload dX11_knows_118 rfl) <|
  am_fc (ok_iald dX11_knows_120 rfl) <|
  am_fc (ok_iret rfl dX11_knows_121) <|
  am_fn
theorem ok_cd_X11_knows (l : Launch) (D : va_G) (ad : Nat → Nat) (b0 : Nat) (Hb : Heap) : ∀ q ∈ cd_X11_knows, am_ok l D ad b0 Hb am_If yX11_knows cX11_knows 5 (some .int) q.1 q.2 := am_fa (ok_cd_X11_knows_0 l D ad b0 Hb) (ok_cd_X11_knows_1 l D ad b0 Hb)
set_option maxRecDepth 100000 in
theorem ok_cd_X11_count_0 (l : Launch) (D : va_G) (ad : Nat → Nat) (b0 : Nat) (Hb : Heap) : ∀ q ∈ cd_X11_count_0, am_ok l D ad b0 Hb am_If yX11_count cX11_count 2 (some .int) q.1 q.2 :=
  am_fc (ok_iload_n dX11_count_0 rfl rfl) <|
  am_fc (ok_table dX11_count_1 (by decide) (by decide) (am_tab _ _ _ (by decide))) <|
  am_fc (ok_aload_n dX11_count_36 rfl rfl) <|
  am_fc (ok_getI cl_10 (by decide) rfl dX11_count_37 w4_113 rfl) <|
  am_fc (ok_iret rfl dX11_count_40) <|
  am_fc (ok_aload_n dX11_count_41 rfl rfl) <|
  am_fc (ok_getI cl_10 (by decide) rfl dX11_count_42 w4_117 rfl) <|
  am_fc (ok_iret rfl dX11_count_45) <|
  am_fc (ok_aload_n dX11_count_46 rfl rfl) <|
  am_fc (ok_getI cl_10 (by decide) rfl dX11_count_47 w4_142 rfl) <|
  am_fc (ok_iret rfl dX11_count_50) <|
  am_fc (ok_aload_n dX11_count_51 rfl rfl) <|
  am_fc (ok_getI cl_10 (by decide) rfl dX11_count_52 w4_154 rfl) <|
  am_fc (ok_iret rfl dX11_count_55) <|
  am_fc (ok_aload_n dX11_count_56 rfl rfl) <|
  am_fc (ok_getI cl_10 (by decide) rfl dX11_count_57 w4_116 rfl) <|
  am_fc (ok_iret rfl dX11_count_60) <|
  am_fc (ok_iconst dX11_count_61 (by decide) rfl) <|
  am_fc (ok_iret rfl dX11_count_62) <|
  am_fn
theorem ok_cd_X11_count (l : Launch) (D : va_G) (ad : Nat → Nat) (b0 : Nat) (Hb : Heap) : ∀ q ∈ cd_X11_count, am_ok l D ad b0 Hb am_If yX11_count cX11_count 2 (some .int) q.1 q.2 := ok_cd_X11_count_0 l D ad b0 Hb
set_option maxRecDepth 100000 in
theorem ok_cd_X11_isLoud_0 (l : Launch) (D : va_G) (ad : Nat → Nat) (b0 : Nat) (Hb : Heap) : ∀ q ∈ cd_X11_isLoud_0, am_ok l D ad b0 Hb am_If yX11_isLoud cX11_isLoud 4 (some .boolean) q.1 q.2 :=
  am_fc (ok_bipush dX11_isLoud_0 (by decide) rfl) <|
  am_fc (ok_iload_n dX11_isLoud_2 rfl rfl) <|
  am_fc (ok_imul dX11_isLoud_3 rfl) <|
  am_fc (ok_iload_n dX11_isLoud_4 rfl rfl) <|
  am_fc (ok_iadd dX11_isLoud_5 rfl) <|
  am_fc (ok_istore_n dX11_isLoud_6 rfl rfl) <|
  am_fc (ok_aload_n dX11_isLoud_7 rfl rfl) <|
  am_fc (ok_getR cl_10 (by decide) rfl dX11_isLoud_8 w4_125 rfl) <|
  am_fc (ok_iload_n dX11_isLoud_11 rfl rfl) <|
  am_fc (ok_iald dX11_isLoud_12 rfl) <|
  am_fc (ok_iconst dX11_isLoud_13 (by decide) rfl) <|
  am_fc (ok_cne dX11_isLoud_14 (by decide) rfl) <|
  am_fc (ok_aload_n dX11_isLoud_17 rfl rfl) <|
  am_fc (ok_iload_n dX11_isLoud_18 rfl rfl) <|
  am_fc (ok_invV (i := ii_X11_fear) rfl (Or.inr ⟨_, rfl, by decide, rfl⟩) mm_X11_fear dX11_isLoud_19 w5_139 rfl) <|
  am_fc (ok_aload_n dX11_isLoud_22 rfl rfl) <|
  am_fc (ok_getR cl_10 (by decide) rfl dX11_isLoud_23 w4_124 rfl) <|
  am_fc (ok_aload_n dX11_isLoud_26 rfl rfl) <|
  am_fc (ok_getR cl_10 (by decide) rfl dX11_isLoud_27 w4_127 rfl) <|
  am_fc (ok_iload_n dX11_isLoud_30 rfl rfl) <|
  am_fc (ok_iald dX11_isLoud_31 rfl) <|
  am_fc (ok_iconst dX11_isLoud_32 (by decide) rfl) <|
  am_fc (ok_invS (i := ii_X11_partOf) rfl mm_X11_partOf dX11_isLoud_33 w5_84 rfl) <|
  am_fc (ok_iald dX11_isLoud_36 rfl) <|
  am_fc (ok_imul dX11_isLoud_37 rfl) <|
  am_fc (ok_bipush dX11_isLoud_38 (by decide) rfl) <|
  am_fc (ok_clt dX11_isLoud_40 (by decide) rfl) <|
  am_fc (ok_iconst dX11_isLoud_43 (by decide) rfl) <|
  am_fc (ok_goto dX11_isLoud_44 (by decide)) <|
  am_fc (ok_iconst dX11_isLoud_47 (by decide) rfl) <|
  am_fc (ok_zret rfl dX11_isLoud_48) <|
  am_fn
theorem ok_cd_X11_isLoud (l : Launch) (D : va_G) (ad : Nat → Nat) (b0 : Nat) (Hb : Heap) : ∀ q ∈ cd_X11_isLoud, am_ok l D ad b0 Hb am_If yX11_isLoud cX11_isLoud 4 (some .boolean) q.1 q.2 := ok_cd_X11_isLoud_0 l D ad b0 Hb
set_option maxRecDepth 100000 in
theorem ok_cd_X11_hears_0 (l : Launch) (D : va_G) (ad : Nat → Nat) (b0 : Nat) (Hb : Heap) : ∀ q ∈ cd_X11_hears_0, am_ok l D ad b0 Hb am_If yX11_hears cX11_hears 7 (none) q.1 q.2 :=
  am_fc (ok_bipush dX11_hears_0 (by decide) rfl) <|
  am_fc (ok_iload_n dX11_hears_2 rfl rfl) <|
  am_fc (ok_imul dX11_hears_3 rfl) <|
  am_fc (ok_iload_n dX11_hears_4 rfl rfl) <|
  am_fc (ok_iadd dX11_hears_5 rfl) <|
  am_fc (ok_istore dX11_hears_6 rfl) <|
  am_fc (ok_aload_n dX11_hears_8 rfl rfl) <|
  am_fc (ok_iload_n dX11_hears_9 rfl rfl) <|
  am_fc (ok_invV (i := ii_X11_fear) rfl (Or.inr ⟨_, rfl, by decide, rfl⟩) mm_X11_fear dX11_hears_10 w5_139 rfl) <|
  am_fc (ok_iconst dX11_hears_13 (by decide) rfl) <|
  am_fc (ok_iload_n dX11_hears_14 rfl rfl) <|
  am_fc (ok_imul dX11_hears_15 rfl) <|
  am_fc (ok_iadd dX11_hears_16 rfl) <|
  am_fc (ok_aload_n dX11_hears_17 rfl rfl) <|
  am_fc (ok_getR cl_10 (by decide) rfl dX11_hears_18 w4_115 rfl) <|
  am_fc (ok_iconst dX11_hears_21 (by decide) rfl) <|
  am_fc (ok_iload_n dX11_hears_22 rfl rfl) <|
  am_fc (ok_imul dX11_hears_23 rfl) <|
  am_fc (ok_iconst dX11_hears_24 (by decide) rfl) <|
  am_fc (ok_iadd dX11_hears_25 rfl) <|
  am_fc (ok_iald dX11_hears_26 rfl) <|
  am_fc (ok_cle dX11_hears_27 (by decide) rfl) <|
  am_fc (ok_iconst dX11_hears_30 (by decide) rfl) <|
  am_fc (ok_goto dX11_hears_31 (by decide)) <|
  am_fc (ok_iconst dX11_hears_34 (by decide) rfl) <|
  am_fc (ok_istore dX11_hears_35 rfl) <|
  am_fc (ok_aload_n dX11_hears_37 rfl rfl) <|
  am_fc (ok_getR cl_10 (by decide) rfl dX11_hears_38 w4_125 rfl) <|
  am_fc (ok_iload dX11_hears_41 rfl) <|
  am_fc (ok_iald dX11_hears_43 rfl) <|
  am_fc (ok_ifeq dX11_hears_44 (by decide) rfl) <|
  am_fc (ok_aload_n dX11_hears_47 rfl rfl) <|
  am_fc (ok_getR cl_10 (by decide) rfl dX11_hears_48 w4_125 rfl) <|
  am_fc (ok_iload dX11_hears_51 rfl) <|
  am_fc (ok_iald dX11_hears_53 rfl) <|
  am_fc (ok_iconst dX11_hears_54 (by decide) rfl) <|
  am_fc (ok_cne dX11_hears_55 (by decide) rfl) <|
  am_fc (ok_aload_n dX11_hears_58 rfl rfl) <|
  am_fc (ok_iload dX11_hears_59 rfl) <|
  am_fc (ok_iload dX11_hears_61 rfl) <|
  am_fc (ok_ifeq dX11_hears_63 (by decide) rfl) <|
  am_fc (ok_iconst dX11_hears_66 (by decide) rfl) <|
  am_fc (ok_goto dX11_hears_67 (by decide)) <|
  am_fc (ok_iconst dX11_hears_70 (by decide) rfl) <|
  am_fc (ok_aload_n dX11_hears_71 rfl rfl) <|
  am_fc (ok_getR cl_10 (by decide) rfl dX11_hears_72 w4_131 rfl) <|
  am_fc (ok_iload dX11_hears_75 rfl) <|
  am_fc (ok_iald dX11_hears_77 rfl) <|
  am_fc (ok_iload dX11_hears_78 rfl) <|
  am_fc (ok_invV (i := ii_X11_takes) rfl (Or.inr ⟨_, rfl, by decide, rfl⟩) mm_X11_takes dX11_hears_80 w5_110 rfl) <|
  am_fn
set_option maxRecDepth 100000 in
theorem ok_cd_X11_hears_1 (l : Launch) (D : va_G) (ad : Nat → Nat) (b0 : Nat) (Hb : Heap) : ∀ q ∈ cd_X11_hears_1, am_ok l D ad b0 Hb am_If yX11_hears cX11_hears 7 (none) q.1 q.2 :=
  am_fc (ok_goto dX11_hears_83 (by decide)) <|
  am_fc (ok_aload_n dX11_hears_86 rfl rfl) <|
  am_fc (ok_getR cl_10 (by decide) rfl dX11_hears_87 w4_125 rfl) <|
  am_fc (ok_iload dX11_hears_90 rfl) <|
  am_fc (ok_iald dX11_hears_92 rfl) <|
  am_fc (ok_iconst dX11_hears_93 (by decide) rfl) <|
  am_fc (ok_cne dX11_hears_94 (by decide) rfl) <|
  am_fc (ok_iload dX11_hears_97 rfl) <|
  am_fc (ok_ifeq dX11_hears_99 (by decide) rfl) <|
  am_fc (ok_aload_n dX11_hears_102 rfl rfl) <|
  am_fc (ok_iload dX11_hears_103 rfl) <|
  am_fc (ok_iconst dX11_hears_105 (by decide) rfl) <|
  am_fc (ok_invV (i := ii_X11_becomes) rfl (Or.inr ⟨_, rfl, by decide, rfl⟩) mm_X11_becomes dX11_hears_106 w5_147 rfl) <|
  am_fc (ok_aload_n dX11_hears_109 rfl rfl) <|
  am_fc (ok_getR cl_10 (by decide) rfl dX11_hears_110 w4_129 rfl) <|
  am_fc (ok_iload dX11_hears_113 rfl) <|
  am_fc (ok_aload_n dX11_hears_115 rfl rfl) <|
  am_fc (ok_getI cl_10 (by decide) rfl dX11_hears_116 w4_116 rfl) <|
  am_fc (ok_iast dX11_hears_119 rfl) <|
  am_fc (ok_vret rfl dX11_hears_120) <|
  am_fn
theorem ok_cd_X11_hears (l : Launch) (D : va_G) (ad : Nat → Nat) (b0 : Nat) (Hb : Heap) : ∀ q ∈ cd_X11_hears, am_ok l D ad b0 Hb am_If yX11_hears cX11_hears 7 (none) q.1 q.2 := am_fa (ok_cd_X11_hears_0 l D ad b0 Hb) (ok_cd_X11_hears_1 l D ad b0 Hb)
set_option maxRecDepth 100000 in
theorem ok_cd_X11_hourOf_0 (l : Launch) (D : va_G) (ad : Nat → Nat) (b0 : Nat) (Hb : Heap) : ∀ q ∈ cd_X11_hourOf_0, am_ok l D ad b0 Hb am_If yX11_hourOf cX11_hourOf 7 (none) q.1 q.2 :=
  am_fc (ok_iconst dX11_hourOf_0 (by decide) rfl) <|
  am_fc (ok_istore_n dX11_hourOf_1 rfl rfl) <|
  am_fc (ok_iload_n dX11_hourOf_2 rfl rfl) <|
  am_fc (ok_aload_n dX11_hourOf_3 rfl rfl) <|
  am_fc (ok_getI cl_10 (by decide) rfl dX11_hourOf_4 w4_113 rfl) <|
  am_fc (ok_cge dX11_hourOf_7 (by decide) rfl) <|
  am_fc (ok_aload_n dX11_hourOf_10 rfl rfl) <|
  am_fc (ok_getR cl_10 (by decide) rfl dX11_hourOf_11 w4_130 rfl) <|
  am_fc (ok_iload_n dX11_hourOf_14 rfl rfl) <|
  am_fc (ok_aload_n dX11_hourOf_15 rfl rfl) <|
  am_fc (ok_iload_n dX11_hourOf_16 rfl rfl) <|
  am_fc (ok_iload_n dX11_hourOf_17 rfl rfl) <|
  am_fc (ok_invV (i := ii_X11_isLoud) rfl (Or.inr ⟨_, rfl, by decide, rfl⟩) mm_X11_isLoud dX11_hourOf_18 w5_135 rfl) <|
  am_fc (ok_zast dX11_hourOf_21 rfl) <|
  am_fc (ok_aload_n dX11_hourOf_22 rfl rfl) <|
  am_fc (ok_getR cl_10 (by decide) rfl dX11_hourOf_23 w4_132 rfl) <|
  am_fc (ok_iload_n dX11_hourOf_26 rfl rfl) <|
  am_fc (ok_aload_n dX11_hourOf_27 rfl rfl) <|
  am_fc (ok_iload_n dX11_hourOf_28 rfl rfl) <|
  am_fc (ok_aload_n dX11_hourOf_29 rfl rfl) <|
  am_fc (ok_getI cl_10 (by decide) rfl dX11_hourOf_30 w4_116 rfl) <|
  am_fc (ok_invV (i := ii_X11_placeOf) rfl (Or.inr ⟨_, rfl, by decide, rfl⟩) mm_X11_placeOf dX11_hourOf_33 w5_54 rfl) <|
  am_fc (ok_iast dX11_hourOf_36 rfl) <|
  am_fc (ok_aload_n dX11_hourOf_37 rfl rfl) <|
  am_fc (ok_getR cl_10 (by decide) rfl dX11_hourOf_38 w4_127 rfl) <|
  am_fc (ok_bipush dX11_hourOf_41 (by decide) rfl) <|
  am_fc (ok_iload_n dX11_hourOf_43 rfl rfl) <|
  am_fc (ok_imul dX11_hourOf_44 rfl) <|
  am_fc (ok_iload_n dX11_hourOf_45 rfl rfl) <|
  am_fc (ok_iadd dX11_hourOf_46 rfl) <|
  am_fc (ok_iald dX11_hourOf_47 rfl) <|
  am_fc (ok_istore_n dX11_hourOf_48 rfl rfl) <|
  am_fc (ok_aload_n dX11_hourOf_49 rfl rfl) <|
  am_fc (ok_getR cl_10 (by decide) rfl dX11_hourOf_50 w4_115 rfl) <|
  am_fc (ok_iconst dX11_hourOf_53 (by decide) rfl) <|
  am_fc (ok_iload_n dX11_hourOf_54 rfl rfl) <|
  am_fc (ok_imul dX11_hourOf_55 rfl) <|
  am_fc (ok_iconst dX11_hourOf_56 (by decide) rfl) <|
  am_fc (ok_iadd dX11_hourOf_57 rfl) <|
  am_fc (ok_iald dX11_hourOf_58 rfl) <|
  am_fc (ok_istore dX11_hourOf_59 rfl) <|
  am_fc (ok_iload dX11_hourOf_61 rfl) <|
  am_fc (ok_ifne dX11_hourOf_63 (by decide) rfl) <|
  am_fc (ok_iconst dX11_hourOf_66 (by decide) rfl) <|
  am_fc (ok_goto dX11_hourOf_67 (by decide)) <|
  am_fc (ok_iload_n dX11_hourOf_70 rfl rfl) <|
  am_fc (ok_iload dX11_hourOf_71 rfl) <|
  am_fc (ok_invS (i := ii_X11_partOf) rfl mm_X11_partOf dX11_hourOf_73 w5_84 rfl) <|
  am_fc (ok_istore dX11_hourOf_76 rfl) <|
  am_fc (ok_aload_n dX11_hourOf_78 rfl rfl) <|
  am_fn
set_option maxRecDepth 100000 in
theorem ok_cd_X11_hourOf_1 (l : Launch) (D : va_G) (ad : Nat → Nat) (b0 : Nat) (Hb : Heap) : ∀ q ∈ cd_X11_hourOf_1, am_ok l D ad b0 Hb am_If yX11_hourOf cX11_hourOf 7 (none) q.1 q.2 :=
  am_fc (ok_getR cl_10 (by decide) rfl dX11_hourOf_79 w4_131 rfl) <|
  am_fc (ok_iload_n dX11_hourOf_82 rfl rfl) <|
  am_fc (ok_iload dX11_hourOf_83 rfl) <|
  am_fc (ok_ifne dX11_hourOf_85 (by decide) rfl) <|
  am_fc (ok_iload_n dX11_hourOf_88 rfl rfl) <|
  am_fc (ok_goto dX11_hourOf_89 (by decide)) <|
  am_fc (ok_iload dX11_hourOf_92 rfl) <|
  am_fc (ok_bipush dX11_hourOf_94 (by decide) rfl) <|
  am_fc (ok_cne dX11_hourOf_96 (by decide) rfl) <|
  am_fc (ok_iload_n dX11_hourOf_99 rfl rfl) <|
  am_fc (ok_bipush dX11_hourOf_100 (by decide) rfl) <|
  am_fc (ok_iload dX11_hourOf_102 rfl) <|
  am_fc (ok_invS (i := ii_X11_unit) rfl mm_X11_unit dX11_hourOf_104 w5_87 rfl) <|
  am_fc (ok_imul dX11_hourOf_107 rfl) <|
  am_fc (ok_isub dX11_hourOf_108 rfl) <|
  am_fc (ok_goto dX11_hourOf_109 (by decide)) <|
  am_fc (ok_iload_n dX11_hourOf_112 rfl rfl) <|
  am_fc (ok_iload dX11_hourOf_113 rfl) <|
  am_fc (ok_invS (i := ii_X11_unit) rfl mm_X11_unit dX11_hourOf_115 w5_87 rfl) <|
  am_fc (ok_iadd dX11_hourOf_118 rfl) <|
  am_fc (ok_iast dX11_hourOf_119 rfl) <|
  am_fc (ok_iinc dX11_hourOf_120 (by decide) rfl) <|
  am_fc (ok_goto dX11_hourOf_123 (by decide)) <|
  am_fc (ok_iconst dX11_hourOf_126 (by decide) rfl) <|
  am_fc (ok_istore_n dX11_hourOf_127 rfl rfl) <|
  am_fc (ok_iload_n dX11_hourOf_128 rfl rfl) <|
  am_fc (ok_aload_n dX11_hourOf_129 rfl rfl) <|
  am_fc (ok_getI cl_10 (by decide) rfl dX11_hourOf_130 w4_113 rfl) <|
  am_fc (ok_cge dX11_hourOf_133 (by decide) rfl) <|
  am_fc (ok_iconst dX11_hourOf_136 (by decide) rfl) <|
  am_fc (ok_istore_n dX11_hourOf_137 rfl rfl) <|
  am_fc (ok_bipush dX11_hourOf_138 (by decide) rfl) <|
  am_fc (ok_istore dX11_hourOf_140 rfl) <|
  am_fc (ok_aload_n dX11_hourOf_142 rfl rfl) <|
  am_fc (ok_getI cl_10 (by decide) rfl dX11_hourOf_143 w4_113 rfl) <|
  am_fc (ok_iconst dX11_hourOf_146 (by decide) rfl) <|
  am_fc (ok_isub dX11_hourOf_147 rfl) <|
  am_fc (ok_istore dX11_hourOf_148 rfl) <|
  am_fc (ok_iload dX11_hourOf_150 rfl) <|
  am_fc (ok_iflt dX11_hourOf_152 (by decide) rfl) <|
  am_fc (ok_iload dX11_hourOf_155 rfl) <|
  am_fc (ok_iload_n dX11_hourOf_157 rfl rfl) <|
  am_fc (ok_ceq dX11_hourOf_158 (by decide) rfl) <|
  am_fc (ok_aload_n dX11_hourOf_161 rfl rfl) <|
  am_fc (ok_getR cl_10 (by decide) rfl dX11_hourOf_162 w4_130 rfl) <|
  am_fc (ok_iload dX11_hourOf_165 rfl) <|
  am_fc (ok_zald dX11_hourOf_167 rfl) <|
  am_fc (ok_ifeq dX11_hourOf_168 (by decide) rfl) <|
  am_fc (ok_aload_n dX11_hourOf_171 rfl rfl) <|
  am_fc (ok_getR cl_10 (by decide) rfl dX11_hourOf_172 w4_132 rfl) <|
  am_fn
set_option maxRecDepth 100000 in
theorem ok_cd_X11_hourOf_2 (l : Launch) (D : va_G) (ad : Nat → Nat) (b0 : Nat) (Hb : Heap) : ∀ q ∈ cd_X11_hourOf_2, am_ok l D ad b0 Hb am_If yX11_hourOf cX11_hourOf 7 (none) q.1 q.2 :=
  am_fc (ok_iload dX11_hourOf_175 rfl) <|
  am_fc (ok_iald dX11_hourOf_177 rfl) <|
  am_fc (ok_aload_n dX11_hourOf_178 rfl rfl) <|
  am_fc (ok_getR cl_10 (by decide) rfl dX11_hourOf_179 w4_132 rfl) <|
  am_fc (ok_iload_n dX11_hourOf_182 rfl rfl) <|
  am_fc (ok_iald dX11_hourOf_183 rfl) <|
  am_fc (ok_cne dX11_hourOf_184 (by decide) rfl) <|
  am_fc (ok_iconst dX11_hourOf_187 (by decide) rfl) <|
  am_fc (ok_goto dX11_hourOf_188 (by decide)) <|
  am_fc (ok_iconst dX11_hourOf_191 (by decide) rfl) <|
  am_fc (ok_istore dX11_hourOf_192 rfl) <|
  am_fc (ok_iload_n dX11_hourOf_194 rfl rfl) <|
  am_fc (ok_iload dX11_hourOf_195 rfl) <|
  am_fc (ok_ifeq dX11_hourOf_197 (by decide) rfl) <|
  am_fc (ok_iconst dX11_hourOf_200 (by decide) rfl) <|
  am_fc (ok_goto dX11_hourOf_201 (by decide)) <|
  am_fc (ok_iconst dX11_hourOf_204 (by decide) rfl) <|
  am_fc (ok_iadd dX11_hourOf_205 rfl) <|
  am_fc (ok_istore_n dX11_hourOf_206 rfl rfl) <|
  am_fc (ok_iload dX11_hourOf_207 rfl) <|
  am_fc (ok_ifeq dX11_hourOf_209 (by decide) rfl) <|
  am_fc (ok_iload dX11_hourOf_212 rfl) <|
  am_fc (ok_goto dX11_hourOf_214 (by decide)) <|
  am_fc (ok_iload dX11_hourOf_217 rfl) <|
  am_fc (ok_istore dX11_hourOf_219 rfl) <|
  am_fc (ok_iinc dX11_hourOf_221 (by decide) rfl) <|
  am_fc (ok_goto dX11_hourOf_224 (by decide)) <|
  am_fc (ok_bipush dX11_hourOf_227 (by decide) rfl) <|
  am_fc (ok_iload_n dX11_hourOf_229 rfl rfl) <|
  am_fc (ok_imul dX11_hourOf_230 rfl) <|
  am_fc (ok_iload_n dX11_hourOf_231 rfl rfl) <|
  am_fc (ok_iadd dX11_hourOf_232 rfl) <|
  am_fc (ok_istore dX11_hourOf_233 rfl) <|
  am_fc (ok_iload_n dX11_hourOf_235 rfl rfl) <|
  am_fc (ok_ifle dX11_hourOf_236 (by decide) rfl) <|
  am_fc (ok_aload_n dX11_hourOf_239 rfl rfl) <|
  am_fc (ok_iload_n dX11_hourOf_240 rfl rfl) <|
  am_fc (ok_iload_n dX11_hourOf_241 rfl rfl) <|
  am_fc (ok_iload_n dX11_hourOf_242 rfl rfl) <|
  am_fc (ok_iload dX11_hourOf_243 rfl) <|
  am_fc (ok_invV (i := ii_X11_hears) rfl (Or.inr ⟨_, rfl, by decide, rfl⟩) mm_X11_hears dX11_hourOf_245 w5_143 rfl) <|
  am_fc (ok_goto dX11_hourOf_248 (by decide)) <|
  am_fc (ok_aload_n dX11_hourOf_251 rfl rfl) <|
  am_fc (ok_getR cl_10 (by decide) rfl dX11_hourOf_252 w4_125 rfl) <|
  am_fc (ok_iload dX11_hourOf_255 rfl) <|
  am_fc (ok_iald dX11_hourOf_257 rfl) <|
  am_fc (ok_iconst dX11_hourOf_258 (by decide) rfl) <|
  am_fc (ok_ceq dX11_hourOf_259 (by decide) rfl) <|
  am_fc (ok_aload_n dX11_hourOf_262 rfl rfl) <|
  am_fc (ok_getR cl_10 (by decide) rfl dX11_hourOf_263 w4_125 rfl) <|
  am_fn
set_option maxRecDepth 100000 in
theorem ok_cd_X11_hourOf_3 (l : Launch) (D : va_G) (ad : Nat → Nat) (b0 : Nat) (Hb : Heap) : ∀ q ∈ cd_X11_hourOf_3, am_ok l D ad b0 Hb am_If yX11_hourOf cX11_hourOf 7 (none) q.1 q.2 :=
  am_fc (ok_iload dX11_hourOf_266 rfl) <|
  am_fc (ok_iald dX11_hourOf_268 rfl) <|
  am_fc (ok_iconst dX11_hourOf_269 (by decide) rfl) <|
  am_fc (ok_cne dX11_hourOf_270 (by decide) rfl) <|
  am_fc (ok_aload_n dX11_hourOf_273 rfl rfl) <|
  am_fc (ok_getI cl_10 (by decide) rfl dX11_hourOf_274 w4_116 rfl) <|
  am_fc (ok_aload_n dX11_hourOf_277 rfl rfl) <|
  am_fc (ok_getR cl_10 (by decide) rfl dX11_hourOf_278 w4_129 rfl) <|
  am_fc (ok_iload dX11_hourOf_281 rfl) <|
  am_fc (ok_iald dX11_hourOf_283 rfl) <|
  am_fc (ok_isub dX11_hourOf_284 rfl) <|
  am_fc (ok_bipush dX11_hourOf_285 (by decide) rfl) <|
  am_fc (ok_clt dX11_hourOf_287 (by decide) rfl) <|
  am_fc (ok_aload_n dX11_hourOf_290 rfl rfl) <|
  am_fc (ok_iload dX11_hourOf_291 rfl) <|
  am_fc (ok_iconst dX11_hourOf_293 (by decide) rfl) <|
  am_fc (ok_invV (i := ii_X11_becomes) rfl (Or.inr ⟨_, rfl, by decide, rfl⟩) mm_X11_becomes dX11_hourOf_294 w5_147 rfl) <|
  am_fc (ok_iinc dX11_hourOf_297 (by decide) rfl) <|
  am_fc (ok_goto dX11_hourOf_300 (by decide)) <|
  am_fc (ok_vret rfl dX11_hourOf_303) <|
  am_fn
theorem ok_cd_X11_hourOf (l : Launch) (D : va_G) (ad : Nat → Nat) (b0 : Nat) (Hb : Heap) : ∀ q ∈ cd_X11_hourOf, am_ok l D ad b0 Hb am_If yX11_hourOf cX11_hourOf 7 (none) q.1 q.2 := am_fa (ok_cd_X11_hourOf_0 l D ad b0 Hb) (am_fa (ok_cd_X11_hourOf_1 l D ad b0 Hb) (am_fa (ok_cd_X11_hourOf_2 l D ad b0 Hb) (ok_cd_X11_hourOf_3 l D ad b0 Hb)))
set_option maxRecDepth 100000 in
theorem ok_cd_X11_hour_0 (l : Launch) (D : va_G) (ad : Nat → Nat) (b0 : Nat) (Hb : Heap) : ∀ q ∈ cd_X11_hour_0, am_ok l D ad b0 Hb am_If yX11_hour cX11_hour 2 (none) q.1 q.2 :=
  am_fc (ok_iconst dX11_hour_0 (by decide) rfl) <|
  am_fc (ok_istore_n dX11_hour_1 rfl rfl) <|
  am_fc (ok_iload_n dX11_hour_2 rfl rfl) <|
  am_fc (ok_aload_n dX11_hour_3 rfl rfl) <|
  am_fc (ok_getI cl_10 (by decide) rfl dX11_hour_4 w4_117 rfl) <|
  am_fc (ok_cge dX11_hour_7 (by decide) rfl) <|
  am_fc (ok_aload_n dX11_hour_10 rfl rfl) <|
  am_fc (ok_iload_n dX11_hour_11 rfl rfl) <|
  am_fc (ok_invV (i := ii_X11_hourOf) rfl (Or.inr ⟨_, rfl, by decide, rfl⟩) mm_X11_hourOf dX11_hour_12 w5_131 rfl) <|
  am_fc (ok_iinc dX11_hour_15 (by decide) rfl) <|
  am_fc (ok_goto dX11_hour_18 (by decide)) <|
  am_fc (ok_aload_n dX11_hour_21 rfl rfl) <|
  am_fc (ok_dup dX11_hour_22 rfl) <|
  am_fc (ok_getI cl_10 (by decide) rfl dX11_hour_23 w4_116 rfl) <|
  am_fc (ok_iconst dX11_hour_26 (by decide) rfl) <|
  am_fc (ok_iadd dX11_hour_27 rfl) <|
  am_fc (ok_putI cl_10 (by decide) rfl (Or.inl rfl) dX11_hour_28 w4_116 rfl) <|
  am_fc (ok_vret rfl dX11_hour_31) <|
  am_fn
theorem ok_cd_X11_hour (l : Launch) (D : va_G) (ad : Nat → Nat) (b0 : Nat) (Hb : Heap) : ∀ q ∈ cd_X11_hour, am_ok l D ad b0 Hb am_If yX11_hour cX11_hour 2 (none) q.1 q.2 := ok_cd_X11_hour_0 l D ad b0 Hb
set_option maxRecDepth 100000 in
theorem ok_cd_X11_hours_0 (l : Launch) (D : va_G) (ad : Nat → Nat) (b0 : Nat) (Hb : Heap) : ∀ q ∈ cd_X11_hours_0, am_ok l D ad b0 Hb am_If yX11_hours cX11_hours 3 (some .int) q.1 q.2 :=
  am_fc (ok_iload_n dX11_hours_0 rfl rfl) <|
  am_fc (ok_i2l dX11_hours_1 rfl) <|
  am_fc (ok_lconst dX11_hours_2 (by decide) rfl) <|
  am_fc (ok_ldc2 dX11_hours_3 w5_126 rfl) <|
  am_fc (ok_invS (i := ii_X11_in) rfl mm_X11_in dX11_hours_6 w5_32 rfl) <|
  am_fc (ok_ifne dX11_hours_9 (by decide) rfl) <|
  am_fc (ok_iconst dX11_hours_12 (by decide) rfl) <|
  am_fc (ok_iret rfl dX11_hours_13) <|
  am_fc (ok_aload_n dX11_hours_14 rfl rfl) <|
  am_fc (ok_getI cl_10 (by decide) rfl dX11_hours_15 w4_116 rfl) <|
  am_fc (ok_iload_n dX11_hours_18 rfl rfl) <|
  am_fc (ok_iadd dX11_hours_19 rfl) <|
  am_fc (ok_sipush dX11_hours_20 (by decide) rfl) <|
  am_fc (ok_cle dX11_hours_23 (by decide) rfl) <|
  am_fc (ok_bipush dX11_hours_26 (by decide) rfl) <|
  am_fc (ok_iret rfl dX11_hours_28) <|
  am_fc (ok_iconst dX11_hours_29 (by decide) rfl) <|
  am_fc (ok_istore_n dX11_hours_30 rfl rfl) <|
  am_fc (ok_iload_n dX11_hours_31 rfl rfl) <|
  am_fc (ok_iload_n dX11_hours_32 rfl rfl) <|
  am_fc (ok_cge dX11_hours_33 (by decide) rfl) <|
  am_fc (ok_aload_n dX11_hours_36 rfl rfl) <|
  am_fc (ok_invV (i := ii_X11_hour) rfl (Or.inr ⟨_, rfl, by decide, rfl⟩) mm_X11_hour dX11_hours_37 w5_127 rfl) <|
  am_fc (ok_iinc dX11_hours_40 (by decide) rfl) <|
  am_fc (ok_goto dX11_hours_43 (by decide)) <|
  am_fc (ok_aload_n dX11_hours_46 rfl rfl) <|
  am_fc (ok_getI cl_10 (by decide) rfl dX11_hours_47 w4_116 rfl) <|
  am_fc (ok_iret rfl dX11_hours_50) <|
  am_fn
theorem ok_cd_X11_hours (l : Launch) (D : va_G) (ad : Nat → Nat) (b0 : Nat) (Hb : Heap) : ∀ q ∈ cd_X11_hours, am_ok l D ad b0 Hb am_If yX11_hours cX11_hours 3 (some .int) q.1 q.2 := ok_cd_X11_hours_0 l D ad b0 Hb
set_option maxRecDepth 100000 in
theorem ok_cd_X11_stateMany_0 (l : Launch) (D : va_G) (ad : Nat → Nat) (b0 : Nat) (Hb : Heap) : ∀ q ∈ cd_X11_stateMany_0, am_ok l D ad b0 Hb am_If yX11_stateMany cX11_stateMany 5 (some .int) q.1 q.2 :=
  am_fc (ok_iconst dX11_stateMany_0 (by decide) rfl) <|
  am_fc (ok_istore_n dX11_stateMany_1 rfl rfl) <|
  am_fc (ok_iconst dX11_stateMany_2 (by decide) rfl) <|
  am_fc (ok_istore dX11_stateMany_3 rfl) <|
  am_fc (ok_iload dX11_stateMany_5 rfl) <|
  am_fc (ok_aload_n dX11_stateMany_7 rfl rfl) <|
  am_fc (ok_getI cl_10 (by decide) rfl dX11_stateMany_8 w4_113 rfl) <|
  am_fc (ok_cge dX11_stateMany_11 (by decide) rfl) <|
  am_fc (ok_iload_n dX11_stateMany_14 rfl rfl) <|
  am_fc (ok_aload_n dX11_stateMany_15 rfl rfl) <|
  am_fc (ok_getR cl_10 (by decide) rfl dX11_stateMany_16 w4_125 rfl) <|
  am_fc (ok_bipush dX11_stateMany_19 (by decide) rfl) <|
  am_fc (ok_iload dX11_stateMany_21 rfl) <|
  am_fc (ok_imul dX11_stateMany_23 rfl) <|
  am_fc (ok_iload_n dX11_stateMany_24 rfl rfl) <|
  am_fc (ok_iadd dX11_stateMany_25 rfl) <|
  am_fc (ok_iald dX11_stateMany_26 rfl) <|
  am_fc (ok_iload_n dX11_stateMany_27 rfl rfl) <|
  am_fc (ok_cne dX11_stateMany_28 (by decide) rfl) <|
  am_fc (ok_iconst dX11_stateMany_31 (by decide) rfl) <|
  am_fc (ok_goto dX11_stateMany_32 (by decide)) <|
  am_fc (ok_iconst dX11_stateMany_35 (by decide) rfl) <|
  am_fc (ok_iadd dX11_stateMany_36 rfl) <|
  am_fc (ok_istore_n dX11_stateMany_37 rfl rfl) <|
  am_fc (ok_iinc dX11_stateMany_38 (by decide) rfl) <|
  am_fc (ok_goto dX11_stateMany_41 (by decide)) <|
  am_fc (ok_iload_n dX11_stateMany_44 rfl rfl) <|
  am_fc (ok_iret rfl dX11_stateMany_45) <|
  am_fn
theorem ok_cd_X11_stateMany (l : Launch) (D : va_G) (ad : Nat → Nat) (b0 : Nat) (Hb : Heap) : ∀ q ∈ cd_X11_stateMany, am_ok l D ad b0 Hb am_If yX11_stateMany cX11_stateMany 5 (some .int) q.1 q.2 := ok_cd_X11_stateMany_0 l D ad b0 Hb
set_option maxRecDepth 100000 in
theorem ok_cd_X11_reach_0 (l : Launch) (D : va_G) (ad : Nat → Nat) (b0 : Nat) (Hb : Heap) : ∀ q ∈ cd_X11_reach_0, am_ok l D ad b0 Hb am_If yX11_reach cX11_reach 3 (some .int) q.1 q.2 :=
  am_fc (ok_aload_n dX11_reach_0 rfl rfl) <|
  am_fc (ok_iload_n dX11_reach_1 rfl rfl) <|
  am_fc (ok_invV (i := ii_X11_isSaying) rfl (Or.inr ⟨_, rfl, by decide, rfl⟩) mm_X11_isSaying dX11_reach_2 w5_80 rfl) <|
  am_fc (ok_ifeq dX11_reach_5 (by decide) rfl) <|
  am_fc (ok_iload_n dX11_reach_8 rfl rfl) <|
  am_fc (ok_i2l dX11_reach_9 rfl) <|
  am_fc (ok_lconst dX11_reach_10 (by decide) rfl) <|
  am_fc (ok_ldc2 dX11_reach_11 w5_155 rfl) <|
  am_fc (ok_invS (i := ii_X11_in) rfl mm_X11_in dX11_reach_14 w5_32 rfl) <|
  am_fc (ok_ifeq dX11_reach_17 (by decide) rfl) <|
  am_fc (ok_aload_n dX11_reach_20 rfl rfl) <|
  am_fc (ok_iload_n dX11_reach_21 rfl rfl) <|
  am_fc (ok_iload_n dX11_reach_22 rfl rfl) <|
  am_fc (ok_invV (i := ii_X11_stateMany) rfl (Or.inr ⟨_, rfl, by decide, rfl⟩) mm_X11_stateMany dX11_reach_23 w5_156 rfl) <|
  am_fc (ok_goto dX11_reach_26 (by decide)) <|
  am_fc (ok_iconst dX11_reach_29 (by decide) rfl) <|
  am_fc (ok_iret rfl dX11_reach_30) <|
  am_fn
theorem ok_cd_X11_reach (l : Launch) (D : va_G) (ad : Nat → Nat) (b0 : Nat) (Hb : Heap) : ∀ q ∈ cd_X11_reach, am_ok l D ad b0 Hb am_If yX11_reach cX11_reach 3 (some .int) q.1 q.2 := ok_cd_X11_reach_0 l D ad b0 Hb
set_option maxRecDepth 100000 in
theorem ok_cd_X11_harmOf_0 (l : Launch) (D : va_G) (ad : Nat → Nat) (b0 : Nat) (Hb : Heap) : ∀ q ∈ cd_X11_harmOf_0, am_ok l D ad b0 Hb am_If yX11_harmOf cX11_harmOf 4 (some .int) q.1 q.2 :=
  am_fc (ok_iconst dX11_harmOf_0 (by decide) rfl) <|
  am_fc (ok_istore_n dX11_harmOf_1 rfl rfl) <|
  am_fc (ok_iconst dX11_harmOf_2 (by decide) rfl) <|
  am_fc (ok_istore_n dX11_harmOf_3 rfl rfl) <|
  am_fc (ok_iload_n dX11_harmOf_4 rfl rfl) <|
  am_fc (ok_aload_n dX11_harmOf_5 rfl rfl) <|
  am_fc (ok_getI cl_10 (by decide) rfl dX11_harmOf_6 w4_113 rfl) <|
  am_fc (ok_cge dX11_harmOf_9 (by decide) rfl) <|
  am_fc (ok_aload_n dX11_harmOf_12 rfl rfl) <|
  am_fc (ok_getR cl_10 (by decide) rfl dX11_harmOf_13 w4_118 rfl) <|
  am_fc (ok_iload_n dX11_harmOf_16 rfl rfl) <|
  am_fc (ok_iald dX11_harmOf_17 rfl) <|
  am_fc (ok_iconst dX11_harmOf_18 (by decide) rfl) <|
  am_fc (ok_ceq dX11_harmOf_19 (by decide) rfl) <|
  am_fc (ok_iload_n dX11_harmOf_22 rfl rfl) <|
  am_fc (ok_aload_n dX11_harmOf_23 rfl rfl) <|
  am_fc (ok_getR cl_10 (by decide) rfl dX11_harmOf_24 w4_125 rfl) <|
  am_fc (ok_bipush dX11_harmOf_27 (by decide) rfl) <|
  am_fc (ok_iload_n dX11_harmOf_29 rfl rfl) <|
  am_fc (ok_imul dX11_harmOf_30 rfl) <|
  am_fc (ok_iload_n dX11_harmOf_31 rfl rfl) <|
  am_fc (ok_iadd dX11_harmOf_32 rfl) <|
  am_fc (ok_iald dX11_harmOf_33 rfl) <|
  am_fc (ok_iconst dX11_harmOf_34 (by decide) rfl) <|
  am_fc (ok_cne dX11_harmOf_35 (by decide) rfl) <|
  am_fc (ok_aload_n dX11_harmOf_38 rfl rfl) <|
  am_fc (ok_getR cl_10 (by decide) rfl dX11_harmOf_39 w4_124 rfl) <|
  am_fc (ok_aload_n dX11_harmOf_42 rfl rfl) <|
  am_fc (ok_getR cl_10 (by decide) rfl dX11_harmOf_43 w4_127 rfl) <|
  am_fc (ok_bipush dX11_harmOf_46 (by decide) rfl) <|
  am_fc (ok_iload_n dX11_harmOf_48 rfl rfl) <|
  am_fc (ok_imul dX11_harmOf_49 rfl) <|
  am_fc (ok_iload_n dX11_harmOf_50 rfl rfl) <|
  am_fc (ok_iadd dX11_harmOf_51 rfl) <|
  am_fc (ok_iald dX11_harmOf_52 rfl) <|
  am_fc (ok_iconst dX11_harmOf_53 (by decide) rfl) <|
  am_fc (ok_invS (i := ii_X11_partOf) rfl mm_X11_partOf dX11_harmOf_54 w5_84 rfl) <|
  am_fc (ok_iald dX11_harmOf_57 rfl) <|
  am_fc (ok_goto dX11_harmOf_58 (by decide)) <|
  am_fc (ok_iconst dX11_harmOf_61 (by decide) rfl) <|
  am_fc (ok_iadd dX11_harmOf_62 rfl) <|
  am_fc (ok_istore_n dX11_harmOf_63 rfl rfl) <|
  am_fc (ok_iinc dX11_harmOf_64 (by decide) rfl) <|
  am_fc (ok_goto dX11_harmOf_67 (by decide)) <|
  am_fc (ok_iload_n dX11_harmOf_70 rfl rfl) <|
  am_fc (ok_iret rfl dX11_harmOf_71) <|
  am_fn
theorem ok_cd_X11_harmOf (l : Launch) (D : va_G) (ad : Nat → Nat) (b0 : Nat) (Hb : Heap) : ∀ q ∈ cd_X11_harmOf, am_ok l D ad b0 Hb am_If yX11_harmOf cX11_harmOf 4 (some .int) q.1 q.2 := ok_cd_X11_harmOf_0 l D ad b0 Hb
