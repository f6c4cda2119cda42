set_option maxRecDepth 100000 in
theorem ok_cd_X1_joinNearest_0 (l : Launch) (D : va_G) (ad : Nat → Nat) (b0 : Nat) (Hb : Heap) : ∀ q ∈ cd_X1_joinNearest_0, am_ok l D ad b0 Hb am_If yX1_joinNearest cX1_joinNearest 6 (some .int) q.1 q.2 :=
  am_fc (ok_iconst dX1_joinNearest_0 (by decide) rfl) <|
  am_fc (ok_istore_n dX1_joinNearest_1 rfl rfl) <|
  am_fc (ok_iconst dX1_joinNearest_2 (by decide) rfl) <|
  am_fc (ok_istore_n dX1_joinNearest_3 rfl rfl) <|
  am_fc (ok_iconst dX1_joinNearest_4 (by decide) rfl) <|
  am_fc (ok_istore_n dX1_joinNearest_5 rfl rfl) <|
  am_fc (ok_iconst dX1_joinNearest_6 (by decide) rfl) <|
  am_fc (ok_istore dX1_joinNearest_7 rfl) <|
  am_fc (ok_iload dX1_joinNearest_9 rfl) <|
  am_fc (ok_aload_n dX1_joinNearest_11 rfl rfl) <|
  am_fc (ok_getI cl_1 (by decide) rfl dX1_joinNearest_12 w1_119 rfl) <|
  am_fc (ok_cge dX1_joinNearest_15 (by decide) rfl) <|
  am_fc (ok_iconst dX1_joinNearest_18 (by decide) rfl) <|
  am_fc (ok_istore dX1_joinNearest_19 rfl) <|
  am_fc (ok_iload dX1_joinNearest_21 rfl) <|
  am_fc (ok_aload_n dX1_joinNearest_23 rfl rfl) <|
  am_fc (ok_getI cl_1 (by decide) rfl dX1_joinNearest_24 w1_119 rfl) <|
  am_fc (ok_cge dX1_joinNearest_27 (by decide) rfl) <|
  am_fc (ok_aload_n dX1_joinNearest_30 rfl rfl) <|
  am_fc (ok_getR cl_1 (by decide) rfl dX1_joinNearest_31 w1_121 rfl) <|
  am_fc (ok_iload dX1_joinNearest_34 rfl) <|
  am_fc (ok_zald dX1_joinNearest_36 rfl) <|
  am_fc (ok_ifne dX1_joinNearest_37 (by decide) rfl) <|
  am_fc (ok_aload_n dX1_joinNearest_40 rfl rfl) <|
  am_fc (ok_getR cl_1 (by decide) rfl dX1_joinNearest_41 w1_121 rfl) <|
  am_fc (ok_iload dX1_joinNearest_44 rfl) <|
  am_fc (ok_zald dX1_joinNearest_46 rfl) <|
  am_fc (ok_ifeq dX1_joinNearest_47 (by decide) rfl) <|
  am_fc (ok_aload_n dX1_joinNearest_50 rfl rfl) <|
  am_fc (ok_getR cl_1 (by decide) rfl dX1_joinNearest_51 w1_115 rfl) <|
  am_fc (ok_iload dX1_joinNearest_54 rfl) <|
  am_fc (ok_iald dX1_joinNearest_56 rfl) <|
  am_fc (ok_aload_n dX1_joinNearest_57 rfl rfl) <|
  am_fc (ok_getR cl_1 (by decide) rfl dX1_joinNearest_58 w1_115 rfl) <|
  am_fc (ok_iload dX1_joinNearest_61 rfl) <|
  am_fc (ok_iald dX1_joinNearest_63 rfl) <|
  am_fc (ok_invS (i := ii_X2_distance) rfl mm_X2_distance dX1_joinNearest_64 w3_223 rfl) <|
  am_fc (ok_iload_n dX1_joinNearest_67 rfl rfl) <|
  am_fc (ok_cge dX1_joinNearest_68 (by decide) rfl) <|
  am_fc (ok_aload_n dX1_joinNearest_71 rfl rfl) <|
  am_fc (ok_getR cl_1 (by decide) rfl dX1_joinNearest_72 w1_115 rfl) <|
  am_fc (ok_iload dX1_joinNearest_75 rfl) <|
  am_fc (ok_iald dX1_joinNearest_77 rfl) <|
  am_fc (ok_aload_n dX1_joinNearest_78 rfl rfl) <|
  am_fc (ok_getR cl_1 (by decide) rfl dX1_joinNearest_79 w1_115 rfl) <|
  am_fc (ok_iload dX1_joinNearest_82 rfl) <|
  am_fc (ok_iald dX1_joinNearest_84 rfl) <|
  am_fc (ok_invS (i := ii_X2_distance) rfl mm_X2_distance dX1_joinNearest_85 w3_223 rfl) <|
  am_fc (ok_istore_n dX1_joinNearest_88 rfl rfl) <|
  am_fc (ok_iload dX1_joinNearest_89 rfl) <|
  am_fn
set_option maxRecDepth 100000 in
theorem ok_cd_X1_joinNearest_1 (l : Launch) (D : va_G) (ad : Nat → Nat) (b0 : Nat) (Hb : Heap) : ∀ q ∈ cd_X1_joinNearest_1, am_ok l D ad b0 Hb am_If yX1_joinNearest cX1_joinNearest 6 (some .int) q.1 q.2 :=
  am_fc (ok_istore_n dX1_joinNearest_91 rfl rfl) <|
  am_fc (ok_iload dX1_joinNearest_92 rfl) <|
  am_fc (ok_istore_n dX1_joinNearest_94 rfl rfl) <|
  am_fc (ok_iinc dX1_joinNearest_95 (by decide) rfl) <|
  am_fc (ok_goto dX1_joinNearest_98 (by decide)) <|
  am_fc (ok_iinc dX1_joinNearest_101 (by decide) rfl) <|
  am_fc (ok_goto dX1_joinNearest_104 (by decide)) <|
  am_fc (ok_aload_n dX1_joinNearest_107 rfl rfl) <|
  am_fc (ok_getR cl_1 (by decide) rfl dX1_joinNearest_108 w1_121 rfl) <|
  am_fc (ok_iload_n dX1_joinNearest_111 rfl rfl) <|
  am_fc (ok_iconst dX1_joinNearest_112 (by decide) rfl) <|
  am_fc (ok_zast dX1_joinNearest_113 rfl) <|
  am_fc (ok_aload_n dX1_joinNearest_114 rfl rfl) <|
  am_fc (ok_getR cl_1 (by decide) rfl dX1_joinNearest_115 w1_117 rfl) <|
  am_fc (ok_iload_n dX1_joinNearest_118 rfl rfl) <|
  am_fc (ok_iload_n dX1_joinNearest_119 rfl rfl) <|
  am_fc (ok_iast dX1_joinNearest_120 rfl) <|
  am_fc (ok_iload_n dX1_joinNearest_121 rfl rfl) <|
  am_fc (ok_iret rfl dX1_joinNearest_122) <|
  am_fn
theorem ok_cd_X1_joinNearest (l : Launch) (D : va_G) (ad : Nat → Nat) (b0 : Nat) (Hb : Heap) : ∀ q ∈ cd_X1_joinNearest, am_ok l D ad b0 Hb am_If yX1_joinNearest cX1_joinNearest 6 (some .int) q.1 q.2 := am_fa (ok_cd_X1_joinNearest_0 l D ad b0 Hb) (ok_cd_X1_joinNearest_1 l D ad b0 Hb)
set_option maxRecDepth 100000 in
theorem ok_cd_X2_together_0 (l : Launch) (D : va_G) (ad : Nat → Nat) (b0 : Nat) (Hb : Heap) : ∀ q ∈ cd_X2_together_0, am_ok l D ad b0 Hb am_If yX2_together cX2_together 4 (some .int) q.1 q.2 :=
  am_fc (ok_sipush dX2_together_0 (by decide) rfl) <|
  am_fc (ok_iload_n dX2_together_3 rfl rfl) <|
  am_fc (ok_imul dX2_together_4 rfl) <|
  am_fc (ok_bipush dX2_together_5 (by decide) rfl) <|
  am_fc (ok_iload_n dX2_together_7 rfl rfl) <|
  am_fc (ok_imul dX2_together_8 rfl) <|
  am_fc (ok_iadd dX2_together_9 rfl) <|
  am_fc (ok_bipush dX2_together_10 (by decide) rfl) <|
  am_fc (ok_iload_n dX2_together_12 rfl rfl) <|
  am_fc (ok_imul dX2_together_13 rfl) <|
  am_fc (ok_iadd dX2_together_14 rfl) <|
  am_fc (ok_iload_n dX2_together_15 rfl rfl) <|
  am_fc (ok_iadd dX2_together_16 rfl) <|
  am_fc (ok_iret rfl dX2_together_17) <|
  am_fn
theorem ok_cd_X2_together (l : Launch) (D : va_G) (ad : Nat → Nat) (b0 : Nat) (Hb : Heap) : ∀ q ∈ cd_X2_together, am_ok l D ad b0 Hb am_If yX2_together cX2_together 4 (some .int) q.1 q.2 := ok_cd_X2_together_0 l D ad b0 Hb
set_option maxRecDepth 100000 in
theorem ok_cd_X2_at_0 (l : Launch) (D : va_G) (ad : Nat → Nat) (b0 : Nat) (Hb : Heap) : ∀ q ∈ cd_X2_at_0, am_ok l D ad b0 Hb am_If yX2_at cX2_at 2 (some .int) q.1 q.2 :=
  am_fc (ok_iload_n dX2_at_0 rfl rfl) <|
  am_fc (ok_gets (fun _ hU => hU.2.1.2.1) dX2_at_1 w2_99 rfl) <|
  am_fc (ok_iload_n dX2_at_4 rfl rfl) <|
  am_fc (ok_iald dX2_at_5 rfl) <|
  am_fc (ok_idiv dX2_at_6 rfl) <|
  am_fc (ok_bipush dX2_at_7 (by decide) rfl) <|
  am_fc (ok_irem dX2_at_9 rfl) <|
  am_fc (ok_iret rfl dX2_at_10) <|
  am_fn
theorem ok_cd_X2_at (l : Launch) (D : va_G) (ad : Nat → Nat) (b0 : Nat) (Hb : Heap) : ∀ q ∈ cd_X2_at, am_ok l D ad b0 Hb am_If yX2_at cX2_at 2 (some .int) q.1 q.2 := ok_cd_X2_at_0 l D ad b0 Hb
set_option maxRecDepth 100000 in
theorem ok_cd_X2_with_0 (l : Launch) (D : va_G) (ad : Nat → Nat) (b0 : Nat) (Hb : Heap) : ∀ q ∈ cd_X2_with_0, am_ok l D ad b0 Hb am_If yX2_with cX2_with 3 (some .int) q.1 q.2 :=
  am_fc (ok_iload_n dX2_with_0 rfl rfl) <|
  am_fc (ok_iload_n dX2_with_1 rfl rfl) <|
  am_fc (ok_iload_n dX2_with_2 rfl rfl) <|
  am_fc (ok_iload_n dX2_with_3 rfl rfl) <|
  am_fc (ok_invS (i := ii_X2_at) rfl mm_X2_at dX2_with_4 w2_104 rfl) <|
  am_fc (ok_isub dX2_with_7 rfl) <|
  am_fc (ok_gets (fun _ hU => hU.2.1.2.1) dX2_with_8 w2_99 rfl) <|
  am_fc (ok_iload_n dX2_with_11 rfl rfl) <|
  am_fc (ok_iald dX2_with_12 rfl) <|
  am_fc (ok_imul dX2_with_13 rfl) <|
  am_fc (ok_iadd dX2_with_14 rfl) <|
  am_fc (ok_iret rfl dX2_with_15) <|
  am_fn
theorem ok_cd_X2_with (l : Launch) (D : va_G) (ad : Nat → Nat) (b0 : Nat) (Hb : Heap) : ∀ q ∈ cd_X2_with, am_ok l D ad b0 Hb am_If yX2_with cX2_with 3 (some .int) q.1 q.2 := ok_cd_X2_with_0 l D ad b0 Hb
set_option maxRecDepth 100000 in
theorem ok_cd_X2_asTold_0 (l : Launch) (D : va_G) (ad : Nat → Nat) (b0 : Nat) (Hb : Heap) : ∀ q ∈ cd_X2_asTold_0, am_ok l D ad b0 Hb am_If yX2_asTold cX2_asTold 3 (some .int) q.1 q.2 :=
  am_fc (ok_iload_n dX2_asTold_0 rfl rfl) <|
  am_fc (ok_ifne dX2_asTold_1 (by decide) rfl) <|
  am_fc (ok_iload_n dX2_asTold_4 rfl rfl) <|
  am_fc (ok_iret rfl dX2_asTold_5) <|
  am_fc (ok_gets (fun _ hU => hU.2.1.2.1) dX2_asTold_6 w2_99 rfl) <|
  am_fc (ok_iload_n dX2_asTold_9 rfl rfl) <|
  am_fc (ok_iconst dX2_asTold_10 (by decide) rfl) <|
  am_fc (ok_isub dX2_asTold_11 rfl) <|
  am_fc (ok_iald dX2_asTold_12 rfl) <|
  am_fc (ok_istore_n dX2_asTold_13 rfl rfl) <|
  am_fc (ok_iload_n dX2_asTold_14 rfl rfl) <|
  am_fc (ok_iload_n dX2_asTold_15 rfl rfl) <|
  am_fc (ok_idiv dX2_asTold_16 rfl) <|
  am_fc (ok_bipush dX2_asTold_17 (by decide) rfl) <|
  am_fc (ok_irem dX2_asTold_19 rfl) <|
  am_fc (ok_bipush dX2_asTold_20 (by decide) rfl) <|
  am_fc (ok_cne dX2_asTold_22 (by decide) rfl) <|
  am_fc (ok_iload_n dX2_asTold_25 rfl rfl) <|
  am_fc (ok_bipush dX2_asTold_26 (by decide) rfl) <|
  am_fc (ok_iload_n dX2_asTold_28 rfl rfl) <|
  am_fc (ok_imul dX2_asTold_29 rfl) <|
  am_fc (ok_isub dX2_asTold_30 rfl) <|
  am_fc (ok_goto dX2_asTold_31 (by decide)) <|
  am_fc (ok_iload_n dX2_asTold_34 rfl rfl) <|
  am_fc (ok_iload_n dX2_asTold_35 rfl rfl) <|
  am_fc (ok_iadd dX2_asTold_36 rfl) <|
  am_fc (ok_iret rfl dX2_asTold_37) <|
  am_fn
theorem ok_cd_X2_asTold (l : Launch) (D : va_G) (ad : Nat → Nat) (b0 : Nat) (Hb : Heap) : ∀ q ∈ cd_X2_asTold, am_ok l D ad b0 Hb am_If yX2_asTold cX2_asTold 3 (some .int) q.1 q.2 := ok_cd_X2_asTold_0 l D ad b0 Hb
set_option maxRecDepth 100000 in
theorem ok_cd_X2_distance_0 (l : Launch) (D : va_G) (ad : Nat → Nat) (b0 : Nat) (Hb : Heap) : ∀ q ∈ cd_X2_distance_0, am_ok l D ad b0 Hb am_If yX2_distance cX2_distance 4 (some .int) q.1 q.2 :=
  am_fc (ok_iconst dX2_distance_0 (by decide) rfl) <|
  am_fc (ok_istore_n dX2_distance_1 rfl rfl) <|
  am_fc (ok_iconst dX2_distance_2 (by decide) rfl) <|
  am_fc (ok_istore_n dX2_distance_3 rfl rfl) <|
  am_fc (ok_iload_n dX2_distance_4 rfl rfl) <|
  am_fc (ok_iconst dX2_distance_5 (by decide) rfl) <|
  am_fc (ok_cge dX2_distance_6 (by decide) rfl) <|
  am_fc (ok_iload_n dX2_distance_9 rfl rfl) <|
  am_fc (ok_iload_n dX2_distance_10 rfl rfl) <|
  am_fc (ok_invS (i := ii_X2_at) rfl mm_X2_at dX2_distance_11 w2_104 rfl) <|
  am_fc (ok_iload_n dX2_distance_14 rfl rfl) <|
  am_fc (ok_iload_n dX2_distance_15 rfl rfl) <|
  am_fc (ok_invS (i := ii_X2_at) rfl mm_X2_at dX2_distance_16 w2_104 rfl) <|
  am_fc (ok_ceq dX2_distance_19 (by decide) rfl) <|
  am_fc (ok_iinc dX2_distance_22 (by decide) rfl) <|
  am_fc (ok_iinc dX2_distance_25 (by decide) rfl) <|
  am_fc (ok_goto dX2_distance_28 (by decide)) <|
  am_fc (ok_iload_n dX2_distance_31 rfl rfl) <|
  am_fc (ok_iret rfl dX2_distance_32) <|
  am_fn
theorem ok_cd_X2_distance (l : Launch) (D : va_G) (ad : Nat → Nat) (b0 : Nat) (Hb : Heap) : ∀ q ∈ cd_X2_distance, am_ok l D ad b0 Hb am_If yX2_distance cX2_distance 4 (some .int) q.1 q.2 := ok_cd_X2_distance_0 l D ad b0 Hb
set_option maxRecDepth 100000 in
theorem ok_cd_X3_init_0 (l : Launch) (D : va_G) (ad : Nat → Nat) (b0 : Nat) (Hb : Heap) : ∀ q ∈ cd_X3_init_0, am_ok l D ad b0 Hb am_If yX3_init cX3_init 1 (none) q.1 q.2 :=
  am_fc (ok_aload_n dX3_init_0 rfl rfl) <|
  am_fc (ok_obj dX3_init_1 w1_158 w1_27 w1_28 rfl) <|
  am_fc (ok_aload_n dX3_init_4 rfl rfl) <|
  am_fc (ok_bipush dX3_init_5 (by decide) rfl) <|
  am_fc (ok_bipush dX3_init_7 (by decide) rfl) <|
  am_fc (ok_mna dX3_init_9 w1_159 w1_56 rfl) <|
  am_fc (ok_putR cl_2 (by decide) rfl (Or.inr ⟨rfl, rfl, rfl⟩) dX3_init_13 w1_160 rfl) <|
  am_fc (ok_vret rfl dX3_init_16) <|
  am_fn
theorem ok_cd_X3_init (l : Launch) (D : va_G) (ad : Nat → Nat) (b0 : Nat) (Hb : Heap) : ∀ q ∈ cd_X3_init, am_ok l D ad b0 Hb am_If yX3_init cX3_init 1 (none) q.1 q.2 := ok_cd_X3_init_0 l D ad b0 Hb
set_option maxRecDepth 100000 in
theorem ok_cd_X3_awaitSaying_0 (l : Launch) (D : va_G) (ad : Nat → Nat) (b0 : Nat) (Hb : Heap) : ∀ q ∈ cd_X3_awaitSaying_0, am_ok l D ad b0 Hb am_If yX3_awaitSaying cX3_awaitSaying 3 (none) q.1 q.2 :=
  am_fc (ok_iconst dX3_awaitSaying_0 (by decide) rfl) <|
  am_fc (ok_istore_n dX3_awaitSaying_1 rfl rfl) <|
  am_fc (ok_iload_n dX3_awaitSaying_2 rfl rfl) <|
  am_fc (ok_bipush dX3_awaitSaying_3 (by decide) rfl) <|
  am_fc (ok_cge dX3_awaitSaying_5 (by decide) rfl) <|
  am_fc (ok_aload_n dX3_awaitSaying_8 rfl rfl) <|
  am_fc (ok_getR cl_2 (by decide) rfl dX3_awaitSaying_9 w1_160 rfl) <|
  am_fc (ok_iload_n dX3_awaitSaying_12 rfl rfl) <|
  am_fc (ok_aald (by decide) (by decide) dX3_awaitSaying_13 rfl) <|
  am_fc (ok_iload_n dX3_awaitSaying_14 rfl rfl) <|
  am_fc (ok_bipush dX3_awaitSaying_15 (by decide) rfl) <|
  am_fc (ok_iast dX3_awaitSaying_17 rfl) <|
  am_fc (ok_iinc dX3_awaitSaying_18 (by decide) rfl) <|
  am_fc (ok_goto dX3_awaitSaying_21 (by decide)) <|
  am_fc (ok_vret rfl dX3_awaitSaying_24) <|
  am_fn
theorem ok_cd_X3_awaitSaying (l : Launch) (D : va_G) (ad : Nat → Nat) (b0 : Nat) (Hb : Heap) : ∀ q ∈ cd_X3_awaitSaying, am_ok l D ad b0 Hb am_If yX3_awaitSaying cX3_awaitSaying 3 (none) q.1 q.2 := ok_cd_X3_awaitSaying_0 l D ad b0 Hb
set_option maxRecDepth 100000 in
theorem ok_cd_X3_hear_0 (l : Launch) (D : va_G) (ad : Nat → Nat) (b0 : Nat) (Hb : Heap) : ∀ q ∈ cd_X3_hear_0, am_ok l D ad b0 Hb am_If yX3_hear cX3_hear 5 (none) q.1 q.2 :=
  am_fc (ok_iconst dX3_hear_0 (by decide) rfl) <|
  am_fc (ok_istore dX3_hear_1 rfl) <|
  am_fc (ok_iload dX3_hear_3 rfl) <|
  am_fc (ok_bipush dX3_hear_5 (by decide) rfl) <|
  am_fc (ok_cge dX3_hear_7 (by decide) rfl) <|
  am_fc (ok_iload_n dX3_hear_10 rfl rfl) <|
  am_fc (ok_iload dX3_hear_11 rfl) <|
  am_fc (ok_invSN (i := ii_X10_has) rfl mm_X10_has dX3_hear_13 w4_44 rfl) <|
  am_fc (ok_ifeq dX3_hear_16 (by decide) rfl) <|
  am_fc (ok_aload_n dX3_hear_19 rfl rfl) <|
  am_fc (ok_getR cl_2 (by decide) rfl dX3_hear_20 w1_160 rfl) <|
  am_fc (ok_iload_n dX3_hear_23 rfl rfl) <|
  am_fc (ok_aald (by decide) (by decide) dX3_hear_24 rfl) <|
  am_fc (ok_iload dX3_hear_25 rfl) <|
  am_fc (ok_aload_n dX3_hear_27 rfl rfl) <|
  am_fc (ok_getR cl_2 (by decide) rfl dX3_hear_28 w1_160 rfl) <|
  am_fc (ok_iload_n dX3_hear_31 rfl rfl) <|
  am_fc (ok_aald (by decide) (by decide) dX3_hear_32 rfl) <|
  am_fc (ok_iload dX3_hear_33 rfl) <|
  am_fc (ok_iald dX3_hear_35 rfl) <|
  am_fc (ok_iload_n dX3_hear_36 rfl rfl) <|
  am_fc (ok_mmin dX3_hear_37 w4_45 w3_108 w1_14 w3_109 rfl) <|
  am_fc (ok_iast dX3_hear_40 rfl) <|
  am_fc (ok_iinc dX3_hear_41 (by decide) rfl) <|
  am_fc (ok_goto dX3_hear_44 (by decide)) <|
  am_fc (ok_vret rfl dX3_hear_47) <|
  am_fn
theorem ok_cd_X3_hear (l : Launch) (D : va_G) (ad : Nat → Nat) (b0 : Nat) (Hb : Heap) : ∀ q ∈ cd_X3_hear, am_ok l D ad b0 Hb am_If yX3_hear cX3_hear 5 (none) q.1 q.2 := ok_cd_X3_hear_0 l D ad b0 Hb
set_option maxRecDepth 100000 in
theorem ok_cd_X3_choose_0 (l : Launch) (D : va_G) (ad : Nat → Nat) (b0 : Nat) (Hb : Heap) : ∀ q ∈ cd_X3_choose_0, am_ok l D ad b0 Hb am_If yX3_choose cX3_choose 6 (some .int) q.1 q.2 :=
  am_fc (ok_iconst dX3_choose_0 (by decide) rfl) <|
  am_fc (ok_istore_n dX3_choose_1 rfl rfl) <|
  am_fc (ok_sipush dX3_choose_2 (by decide) rfl) <|
  am_fc (ok_istore dX3_choose_5 rfl) <|
  am_fc (ok_iconst dX3_choose_7 (by decide) rfl) <|
  am_fc (ok_istore dX3_choose_8 rfl) <|
  am_fc (ok_iload dX3_choose_10 rfl) <|
  am_fc (ok_bipush dX3_choose_12 (by decide) rfl) <|
  am_fc (ok_cge dX3_choose_14 (by decide) rfl) <|
  am_fc (ok_iload dX3_choose_17 rfl) <|
  am_fc (ok_invS (i := ii_J6_bitCount_0f7a4) rfl mm_J6_bitCount_0f7a4 dX3_choose_19 w4_50 rfl) <|
  am_fc (ok_iload_n dX3_choose_22 rfl rfl) <|
  am_fc (ok_cne dX3_choose_23 (by decide) rfl) <|
  am_fc (ok_aload_n dX3_choose_26 rfl rfl) <|
  am_fc (ok_iload dX3_choose_27 rfl) <|
  am_fc (ok_iload_n dX3_choose_29 rfl rfl) <|
  am_fc (ok_invV (i := ii_X3_sumOf) rfl (Or.inr ⟨_, rfl, by decide, rfl⟩) mm_X3_sumOf dX3_choose_30 w4_51 rfl) <|
  am_fc (ok_iload dX3_choose_33 rfl) <|
  am_fc (ok_cge dX3_choose_35 (by decide) rfl) <|
  am_fc (ok_aload_n dX3_choose_38 rfl rfl) <|
  am_fc (ok_iload dX3_choose_39 rfl) <|
  am_fc (ok_iload_n dX3_choose_41 rfl rfl) <|
  am_fc (ok_invV (i := ii_X3_sumOf) rfl (Or.inr ⟨_, rfl, by decide, rfl⟩) mm_X3_sumOf dX3_choose_42 w4_51 rfl) <|
  am_fc (ok_istore dX3_choose_45 rfl) <|
  am_fc (ok_iload dX3_choose_47 rfl) <|
  am_fc (ok_istore_n dX3_choose_49 rfl rfl) <|
  am_fc (ok_iinc dX3_choose_50 (by decide) rfl) <|
  am_fc (ok_goto dX3_choose_53 (by decide)) <|
  am_fc (ok_iload_n dX3_choose_56 rfl rfl) <|
  am_fc (ok_iret rfl dX3_choose_57) <|
  am_fn
theorem ok_cd_X3_choose (l : Launch) (D : va_G) (ad : Nat → Nat) (b0 : Nat) (Hb : Heap) : ∀ q ∈ cd_X3_choose, am_ok l D ad b0 Hb am_If yX3_choose cX3_choose 6 (some .int) q.1 q.2 := ok_cd_X3_choose_0 l D ad b0 Hb
set_option maxRecDepth 100000 in
theorem ok_cd_X3_sumOf_0 (l : Launch) (D : va_G) (ad : Nat → Nat) (b0 : Nat) (Hb : Heap) : ∀ q ∈ cd_X3_sumOf_0, am_ok l D ad b0 Hb am_If yX3_sumOf cX3_sumOf 7 (some .int) q.1 q.2 :=
  am_fc (ok_iconst dX3_sumOf_0 (by decide) rfl) <|
  am_fc (ok_istore_n dX3_sumOf_1 rfl rfl) <|
  am_fc (ok_iconst dX3_sumOf_2 (by decide) rfl) <|
  am_fc (ok_istore dX3_sumOf_3 rfl) <|
  am_fc (ok_iload dX3_sumOf_5 rfl) <|
  am_fc (ok_iload_n dX3_sumOf_7 rfl rfl) <|
  am_fc (ok_cge dX3_sumOf_8 (by decide) rfl) <|
  am_fc (ok_bipush dX3_sumOf_11 (by decide) rfl) <|
  am_fc (ok_istore dX3_sumOf_13 rfl) <|
  am_fc (ok_iconst dX3_sumOf_15 (by decide) rfl) <|
  am_fc (ok_istore dX3_sumOf_16 rfl) <|
  am_fc (ok_iload dX3_sumOf_18 rfl) <|
  am_fc (ok_bipush dX3_sumOf_20 (by decide) rfl) <|
  am_fc (ok_cge dX3_sumOf_22 (by decide) rfl) <|
  am_fc (ok_iload_n dX3_sumOf_25 rfl rfl) <|
  am_fc (ok_iload dX3_sumOf_26 rfl) <|
  am_fc (ok_invSN (i := ii_X10_has) rfl mm_X10_has dX3_sumOf_28 w4_44 rfl) <|
  am_fc (ok_ifeq dX3_sumOf_31 (by decide) rfl) <|
  am_fc (ok_iload dX3_sumOf_34 rfl) <|
  am_fc (ok_aload_n dX3_sumOf_36 rfl rfl) <|
  am_fc (ok_getR cl_2 (by decide) rfl dX3_sumOf_37 w1_160 rfl) <|
  am_fc (ok_iload dX3_sumOf_40 rfl) <|
  am_fc (ok_aald (by decide) (by decide) dX3_sumOf_42 rfl) <|
  am_fc (ok_iload dX3_sumOf_43 rfl) <|
  am_fc (ok_iald dX3_sumOf_45 rfl) <|
  am_fc (ok_mmin dX3_sumOf_46 w4_45 w3_108 w1_14 w3_109 rfl) <|
  am_fc (ok_istore dX3_sumOf_49 rfl) <|
  am_fc (ok_iinc dX3_sumOf_51 (by decide) rfl) <|
  am_fc (ok_goto dX3_sumOf_54 (by decide)) <|
  am_fc (ok_iload_n dX3_sumOf_57 rfl rfl) <|
  am_fc (ok_iload dX3_sumOf_58 rfl) <|
  am_fc (ok_iadd dX3_sumOf_60 rfl) <|
  am_fc (ok_istore_n dX3_sumOf_61 rfl rfl) <|
  am_fc (ok_iinc dX3_sumOf_62 (by decide) rfl) <|
  am_fc (ok_goto dX3_sumOf_65 (by decide)) <|
  am_fc (ok_iload_n dX3_sumOf_68 rfl rfl) <|
  am_fc (ok_iret rfl dX3_sumOf_69) <|
  am_fn
theorem ok_cd_X3_sumOf (l : Launch) (D : va_G) (ad : Nat → Nat) (b0 : Nat) (Hb : Heap) : ∀ q ∈ cd_X3_sumOf, am_ok l D ad b0 Hb am_If yX3_sumOf cX3_sumOf 7 (some .int) q.1 q.2 := ok_cd_X3_sumOf_0 l D ad b0 Hb
set_option maxRecDepth 100000 in
theorem ok_cd_X4_init_0 (l : Launch) (D : va_G) (ad : Nat → Nat) (b0 : Nat) (Hb : Heap) : ∀ q ∈ cd_X4_init_0, am_ok l D ad b0 Hb am_If yX4_init cX4_init 1 (none) q.1 q.2 :=
  am_fc (ok_aload_n dX4_init_0 rfl rfl) <|
  am_fc (ok_obj dX4_init_1 w1_137 w1_27 w1_28 rfl) <|
  am_fc (ok_aload_n dX4_init_4 rfl rfl) <|
  am_fc (ok_bipush dX4_init_5 (by decide) rfl) <|
  am_fc (ok_putI cl_3 (by decide) rfl (Or.inl rfl) dX4_init_7 w1_140 rfl) <|
  am_fc (ok_aload_n dX4_init_10 rfl rfl) <|
  am_fc (ok_bipush dX4_init_11 (by decide) rfl) <|
  am_fc (ok_newai rfl dX4_init_13 w1_56 rfl) <|
  am_fc (ok_putR cl_3 (by decide) rfl (Or.inr ⟨rfl, rfl, rfl⟩) dX4_init_15 w1_142 rfl) <|
  am_fc (ok_aload_n dX4_init_18 rfl rfl) <|
  am_fc (ok_bipush dX4_init_19 (by decide) rfl) <|
  am_fc (ok_newai rfl dX4_init_21 w1_56 rfl) <|
  am_fc (ok_putR cl_3 (by decide) rfl (Or.inr ⟨rfl, rfl, rfl⟩) dX4_init_23 w1_143 rfl) <|
  am_fc (ok_vret rfl dX4_init_26) <|
  am_fn
theorem ok_cd_X4_init (l : Launch) (D : va_G) (ad : Nat → Nat) (b0 : Nat) (Hb : Heap) : ∀ q ∈ cd_X4_init, am_ok l D ad b0 Hb am_If yX4_init cX4_init 1 (none) q.1 q.2 := ok_cd_X4_init_0 l D ad b0 Hb
set_option maxRecDepth 100000 in
theorem ok_cd_X4_take_0 (l : Launch) (D : va_G) (ad : Nat → Nat) (b0 : Nat) (Hb : Heap) : ∀ q ∈ cd_X4_take_0, am_ok l D ad b0 Hb am_If yX4_take cX4_take 4 (some .int) q.1 q.2 :=
  am_fc (ok_iload_n dX4_take_0 rfl rfl) <|
  am_fc (ok_ifeq dX4_take_1 (by decide) rfl) <|
  am_fc (ok_aload_n dX4_take_4 rfl rfl) <|
  am_fc (ok_getR cl_3 (by decide) rfl dX4_take_5 w1_142 rfl) <|
  am_fc (ok_iload_n dX4_take_8 rfl rfl) <|
  am_fc (ok_dup2 dX4_take_9 rfl) <|
  am_fc (ok_iald dX4_take_10 rfl) <|
  am_fc (ok_iconst dX4_take_11 (by decide) rfl) <|
  am_fc (ok_iload_n dX4_take_12 rfl rfl) <|
  am_fc (ok_ishl dX4_take_13 rfl) <|
  am_fc (ok_ior dX4_take_14 rfl) <|
  am_fc (ok_iast dX4_take_15 rfl) <|
  am_fc (ok_goto dX4_take_16 (by decide)) <|
  am_fc (ok_aload_n dX4_take_19 rfl rfl) <|
  am_fc (ok_getR cl_3 (by decide) rfl dX4_take_20 w1_143 rfl) <|
  am_fc (ok_iload_n dX4_take_23 rfl rfl) <|
  am_fc (ok_dup2 dX4_take_24 rfl) <|
  am_fc (ok_iald dX4_take_25 rfl) <|
  am_fc (ok_iconst dX4_take_26 (by decide) rfl) <|
  am_fc (ok_iload_n dX4_take_27 rfl rfl) <|
  am_fc (ok_ishl dX4_take_28 rfl) <|
  am_fc (ok_ior dX4_take_29 rfl) <|
  am_fc (ok_iast dX4_take_30 rfl) <|
  am_fc (ok_aload_n dX4_take_31 rfl rfl) <|
  am_fc (ok_aload_n dX4_take_32 rfl rfl) <|
  am_fc (ok_getI cl_3 (by decide) rfl dX4_take_33 w1_140 rfl) <|
  am_fc (ok_iload_n dX4_take_36 rfl rfl) <|
  am_fc (ok_mmax dX4_take_37 w3_238 w2_232 w1_14 w2_233 rfl) <|
  am_fc (ok_putI cl_3 (by decide) rfl (Or.inl rfl) dX4_take_40 w1_140 rfl) <|
  am_fc (ok_aload_n dX4_take_43 rfl rfl) <|
  am_fc (ok_dup dX4_take_44 rfl) <|
  am_fc (ok_getI cl_3 (by decide) rfl dX4_take_45 w1_138 rfl) <|
  am_fc (ok_iconst dX4_take_48 (by decide) rfl) <|
  am_fc (ok_iadd dX4_take_49 rfl) <|
  am_fc (ok_putI cl_3 (by decide) rfl (Or.inl rfl) dX4_take_50 w1_138 rfl) <|
  am_fc (ok_aload_n dX4_take_53 rfl rfl) <|
  am_fc (ok_getI cl_3 (by decide) rfl dX4_take_54 w1_138 rfl) <|
  am_fc (ok_iconst dX4_take_57 (by decide) rfl) <|
  am_fc (ok_isub dX4_take_58 rfl) <|
  am_fc (ok_iret rfl dX4_take_59) <|
  am_fn
theorem ok_cd_X4_take (l : Launch) (D : va_G) (ad : Nat → Nat) (b0 : Nat) (Hb : Heap) : ∀ q ∈ cd_X4_take, am_ok l D ad b0 Hb am_If yX4_take cX4_take 4 (some .int) q.1 q.2 := ok_cd_X4_take_0 l D ad b0 Hb
set_option maxRecDepth 100000 in
theorem ok_cd_X4_forget_0 (l : Launch) (D : va_G) (ad : Nat → Nat) (b0 : Nat) (Hb : Heap) : ∀ q ∈ cd_X4_forget_0, am_ok l D ad b0 Hb am_If yX4_forget cX4_forget 2 (some .int) q.1 q.2 :=
  am_fc (ok_iconst dX4_forget_0 (by decide) rfl) <|
  am_fc (ok_istore_n dX4_forget_1 rfl rfl) <|
  am_fc (ok_iload_n dX4_forget_2 rfl rfl) <|
  am_fc (ok_bipush dX4_forget_3 (by decide) rfl) <|
  am_fc (ok_cge dX4_forget_5 (by decide) rfl) <|
  am_fc (ok_aload_n dX4_forget_8 rfl rfl) <|
  am_fc (ok_getR cl_3 (by decide) rfl dX4_forget_9 w1_142 rfl) <|
  am_fc (ok_iload_n dX4_forget_12 rfl rfl) <|
  am_fc (ok_iconst dX4_forget_13 (by decide) rfl) <|
  am_fc (ok_iast dX4_forget_14 rfl) <|
  am_fc (ok_aload_n dX4_forget_15 rfl rfl) <|
  am_fc (ok_getR cl_3 (by decide) rfl dX4_forget_16 w1_143 rfl) <|
  am_fc (ok_iload_n dX4_forget_19 rfl rfl) <|
  am_fc (ok_iconst dX4_forget_20 (by decide) rfl) <|
  am_fc (ok_iast dX4_forget_21 rfl) <|
  am_fc (ok_iinc dX4_forget_22 (by decide) rfl) <|
  am_fc (ok_goto dX4_forget_25 (by decide)) <|
  am_fc (ok_aload_n dX4_forget_28 rfl rfl) <|
  am_fc (ok_getI cl_3 (by decide) rfl dX4_forget_29 w1_138 rfl) <|
  am_fc (ok_istore_n dX4_forget_32 rfl rfl) <|
  am_fc (ok_aload_n dX4_forget_33 rfl rfl) <|
  am_fc (ok_iconst dX4_forget_34 (by decide) rfl) <|
  am_fc (ok_putI cl_3 (by decide) rfl (Or.inl rfl) dX4_forget_35 w1_138 rfl) <|
  am_fc (ok_aload_n dX4_forget_38 rfl rfl) <|
  am_fc (ok_bipush dX4_forget_39 (by decide) rfl) <|
  am_fc (ok_putI cl_3 (by decide) rfl (Or.inl rfl) dX4_forget_41 w1_140 rfl) <|
  am_fc (ok_iload_n dX4_forget_44 rfl rfl) <|
  am_fc (ok_iret rfl dX4_forget_45) <|
  am_fn
theorem ok_cd_X4_forget (l : Launch) (D : va_G) (ad : Nat → Nat) (b0 : Nat) (Hb : Heap) : ∀ q ∈ cd_X4_forget, am_ok l D ad b0 Hb am_If yX4_forget cX4_forget 2 (some .int) q.1 q.2 := ok_cd_X4_forget_0 l D ad b0 Hb
set_option maxRecDepth 100000 in
theorem ok_cd_X4_agreeWith_0 (l : Launch) (D : va_G) (ad : Nat → Nat) (b0 : Nat) (Hb : Heap) : ∀ q ∈ cd_X4_agreeWith_0, am_ok l D ad b0 Hb am_If yX4_agreeWith cX4_agreeWith 3 (some .boolean) q.1 q.2 :=
  am_fc (ok_aload_n dX4_agreeWith_0 rfl rfl) <|
  am_fc (ok_getR cl_3 (by decide) rfl dX4_agreeWith_1 w1_142 rfl) <|
  am_fc (ok_iload_n dX4_agreeWith_4 rfl rfl) <|
  am_fc (ok_iald dX4_agreeWith_5 rfl) <|
  am_fc (ok_iload_n dX4_agreeWith_6 rfl rfl) <|
  am_fc (ok_iconst dX4_agreeWith_7 (by decide) rfl) <|
  am_fc (ok_ixor dX4_agreeWith_8 rfl) <|
  am_fc (ok_iand dX4_agreeWith_9 rfl) <|
  am_fc (ok_ifne dX4_agreeWith_10 (by decide) rfl) <|
  am_fc (ok_aload_n dX4_agreeWith_13 rfl rfl) <|
  am_fc (ok_getR cl_3 (by decide) rfl dX4_agreeWith_14 w1_143 rfl) <|
  am_fc (ok_iload_n dX4_agreeWith_17 rfl rfl) <|
  am_fc (ok_iald dX4_agreeWith_18 rfl) <|
  am_fc (ok_iload_n dX4_agreeWith_19 rfl rfl) <|
  am_fc (ok_iand dX4_agreeWith_20 rfl) <|
  am_fc (ok_ifne dX4_agreeWith_21 (by decide) rfl) <|
  am_fc (ok_iconst dX4_agreeWith_24 (by decide) rfl) <|
  am_fc (ok_goto dX4_agreeWith_25 (by decide)) <|
  am_fc (ok_iconst dX4_agreeWith_28 (by decide) rfl) <|
  am_fc (ok_zret rfl dX4_agreeWith_29) <|
  am_fn
theorem ok_cd_X4_agreeWith (l : Launch) (D : va_G) (ad : Nat → Nat) (b0 : Nat) (Hb : Heap) : ∀ q ∈ cd_X4_agreeWith, am_ok l D ad b0 Hb am_If yX4_agreeWith cX4_agreeWith 3 (some .boolean) q.1 q.2 := ok_cd_X4_agreeWith_0 l D ad b0 Hb
set_option maxRecDepth 100000 in
theorem ok_cd_X5_init_0 (l : Launch) (D : va_G) (ad : Nat → Nat) (b0 : Nat) (Hb : Heap) : ∀ q ∈ cd_X5_init_0, am_ok l D ad b0 Hb am_If yX5_init cX5_init 1 (none) q.1 q.2 :=
  am_fc (ok_aload_n dX5_init_0 rfl rfl) <|
  am_fc (ok_obj dX5_init_1 w1_198 w1_27 w1_28 rfl) <|
  am_fc (ok_aload_n dX5_init_4 rfl rfl) <|
  am_fc (ok_new cl_6 df_6 dX5_init_5 w1_199 w1_60 w1_3 rfl) <|
  am_fc (ok_dup dX5_init_8 rfl) <|
  am_fc (ok_invI (i := ii_X7_init) rfl mm_X7_init dX5_init_9 (Or.inr ⟨_, w1_200⟩) rfl) <|
  am_fc (ok_putR cl_4 (by decide) rfl (Or.inr ⟨rfl, rfl, rfl⟩) dX5_init_12 w1_201 rfl) <|
  am_fc (ok_vret rfl dX5_init_15) <|
  am_fn
theorem ok_cd_X5_init (l : Launch) (D : va_G) (ad : Nat → Nat) (b0 : Nat) (Hb : Heap) : ∀ q ∈ cd_X5_init, am_ok l D ad b0 Hb am_If yX5_init cX5_init 1 (none) q.1 q.2 := ok_cd_X5_init_0 l D ad b0 Hb
set_option maxRecDepth 100000 in
theorem ok_cd_X5_isSecret_0 (l : Launch) (D : va_G) (ad : Nat → Nat) (b0 : Nat) (Hb : Heap) : ∀ q ∈ cd_X5_isSecret_0, am_ok l D ad b0 Hb am_If yX5_isSecret cX5_isSecret 1 (some .boolean) q.1 q.2 :=
  am_fc (ok_aload_n dX5_isSecret_0 rfl rfl) <|
  am_fc (ok_getI cl_4 (by decide) rfl dX5_isSecret_1 w1_203 rfl) <|
  am_fc (ok_iconst dX5_isSecret_4 (by decide) rfl) <|
  am_fc (ok_cne dX5_isSecret_5 (by decide) rfl) <|
  am_fc (ok_aload_n dX5_isSecret_8 rfl rfl) <|
  am_fc (ok_getI cl_4 (by decide) rfl dX5_isSecret_9 w1_208 rfl) <|
  am_fc (ok_ifne dX5_isSecret_12 (by decide) rfl) <|
  am_fc (ok_iconst dX5_isSecret_15 (by decide) rfl) <|
  am_fc (ok_goto dX5_isSecret_16 (by decide)) <|
  am_fc (ok_iconst dX5_isSecret_19 (by decide) rfl) <|
  am_fc (ok_zret rfl dX5_isSecret_20) <|
  am_fn
theorem ok_cd_X5_isSecret (l : Launch) (D : va_G) (ad : Nat → Nat) (b0 : Nat) (Hb : Heap) : ∀ q ∈ cd_X5_isSecret, am_ok l D ad b0 Hb am_If yX5_isSecret cX5_isSecret 1 (some .boolean) q.1 q.2 := ok_cd_X5_isSecret_0 l D ad b0 Hb
set_option maxRecDepth 100000 in
theorem ok_cd_X6_init_0 (l : Launch) (D : va_G) (ad : Nat → Nat) (b0 : Nat) (Hb : Heap) : ∀ q ∈ cd_X6_init_0, am_ok l D ad b0 Hb am_If yX6_init cX6_init 1 (none) q.1 q.2 :=
  am_fc (ok_aload_n dX6_init_0 rfl rfl) <|
  am_fc (ok_obj dX6_init_1 w1_230 w1_27 w1_28 rfl) <|
  am_fc (ok_aload_n dX6_init_4 rfl rfl) <|
  am_fc (ok_bipush dX6_init_5 (by decide) rfl) <|
  am_fc (ok_newai rfl dX6_init_7 w1_56 rfl) <|
  am_fc (ok_putR cl_5 (by decide) rfl (Or.inr ⟨rfl, rfl, rfl⟩) dX6_init_9 w1_231 rfl) <|
  am_fc (ok_aload_n dX6_init_12 rfl rfl) <|
  am_fc (ok_iconst dX6_init_13 (by decide) rfl) <|
  am_fc (ok_putI cl_5 (by decide) rfl (Or.inl rfl) dX6_init_14 w1_233 rfl) <|
  am_fc (ok_vret rfl dX6_init_17) <|
  am_fn
theorem ok_cd_X6_init (l : Launch) (D : va_G) (ad : Nat → Nat) (b0 : Nat) (Hb : Heap) : ∀ q ∈ cd_X6_init, am_ok l D ad b0 Hb am_If yX6_init cX6_init 1 (none) q.1 q.2 := ok_cd_X6_init_0 l D ad b0 Hb
set_option maxRecDepth 100000 in
theorem ok_cd_X6_isMissing_0 (l : Launch) (D : va_G) (ad : Nat → Nat) (b0 : Nat) (Hb : Heap) : ∀ q ∈ cd_X6_isMissing_0, am_ok l D ad b0 Hb am_If yX6_isMissing cX6_isMissing 1 (some .boolean) q.1 q.2 :=
  am_fc (ok_aload_n dX6_isMissing_0 rfl rfl) <|
  am_fc (ok_getI cl_5 (by decide) rfl dX6_isMissing_1 w1_233 rfl) <|
  am_fc (ok_iconst dX6_isMissing_4 (by decide) rfl) <|
  am_fc (ok_cne dX6_isMissing_5 (by decide) rfl) <|
  am_fc (ok_iconst dX6_isMissing_8 (by decide) rfl) <|
  am_fc (ok_goto dX6_isMissing_9 (by decide)) <|
  am_fc (ok_iconst dX6_isMissing_12 (by decide) rfl) <|
  am_fc (ok_zret rfl dX6_isMissing_13) <|
  am_fn
theorem ok_cd_X6_isMissing (l : Launch) (D : va_G) (ad : Nat → Nat) (b0 : Nat) (Hb : Heap) : ∀ q ∈ cd_X6_isMissing, am_ok l D ad b0 Hb am_If yX6_isMissing cX6_isMissing 1 (some .boolean) q.1 q.2 := ok_cd_X6_isMissing_0 l D ad b0 Hb
set_option maxRecDepth 100000 in
theorem ok_cd_X6_hold_0 (l : Launch) (D : va_G) (ad : Nat → Nat) (b0 : Nat) (Hb : Heap) : ∀ q ∈ cd_X6_hold_0, am_ok l D ad b0 Hb am_If yX6_hold cX6_hold 4 (none) q.1 q.2 :=
  am_fc (ok_aload_n dX6_hold_0 rfl rfl) <|
  am_fc (ok_iload_n dX6_hold_1 rfl rfl) <|
  am_fc (ok_putI cl_5 (by decide) rfl (Or.inl rfl) dX6_hold_2 w1_233 rfl) <|
  am_fc (ok_aload_n dX6_hold_5 rfl rfl) <|
  am_fc (ok_iload_n dX6_hold_6 rfl rfl) <|
  am_fc (ok_putI cl_5 (by decide) rfl (Or.inl rfl) dX6_hold_7 w1_235 rfl) <|
  am_fc (ok_iconst dX6_hold_10 (by decide) rfl) <|
  am_fc (ok_istore_n dX6_hold_11 rfl rfl) <|
  am_fc (ok_iload_n dX6_hold_12 rfl rfl) <|
  am_fc (ok_bipush dX6_hold_13 (by decide) rfl) <|
  am_fc (ok_cge dX6_hold_15 (by decide) rfl) <|
  am_fc (ok_aload_n dX6_hold_18 rfl rfl) <|
  am_fc (ok_getR cl_5 (by decide) rfl dX6_hold_19 w1_231 rfl) <|
  am_fc (ok_iload_n dX6_hold_22 rfl rfl) <|
  am_fc (ok_iconst dX6_hold_23 (by decide) rfl) <|
  am_fc (ok_iast dX6_hold_24 rfl) <|
  am_fc (ok_iinc dX6_hold_25 (by decide) rfl) <|
  am_fc (ok_goto dX6_hold_28 (by decide)) <|
  am_fc (ok_vret rfl dX6_hold_31) <|
  am_fn
theorem ok_cd_X6_hold (l : Launch) (D : va_G) (ad : Nat → Nat) (b0 : Nat) (Hb : Heap) : ∀ q ∈ cd_X6_hold, am_ok l D ad b0 Hb am_If yX6_hold cX6_hold 4 (none) q.1 q.2 := ok_cd_X6_hold_0 l D ad b0 Hb
set_option maxRecDepth 100000 in
theorem ok_cd_X6_spans_0 (l : Launch) (D : va_G) (ad : Nat → Nat) (b0 : Nat) (Hb : Heap) : ∀ q ∈ cd_X6_spans_0, am_ok l D ad b0 Hb am_If yX6_spans cX6_spans 3 (some .boolean) q.1 q.2 :=
  am_fc (ok_iload_n dX6_spans_0 rfl rfl) <|
  am_fc (ok_iflt dX6_spans_1 (by decide) rfl) <|
  am_fc (ok_iload_n dX6_spans_4 rfl rfl) <|
  am_fc (ok_aload_n dX6_spans_5 rfl rfl) <|
  am_fc (ok_getI cl_5 (by decide) rfl dX6_spans_6 w1_235 rfl) <|
  am_fc (ok_cgt dX6_spans_9 (by decide) rfl) <|
  am_fc (ok_iload_n dX6_spans_12 rfl rfl) <|
  am_fc (ok_aload_n dX6_spans_13 rfl rfl) <|
  am_fc (ok_getI cl_5 (by decide) rfl dX6_spans_14 w1_235 rfl) <|
  am_fc (ok_iload_n dX6_spans_17 rfl rfl) <|
  am_fc (ok_isub dX6_spans_18 rfl) <|
  am_fc (ok_cgt dX6_spans_19 (by decide) rfl) <|
  am_fc (ok_iconst dX6_spans_22 (by decide) rfl) <|
  am_fc (ok_goto dX6_spans_23 (by decide)) <|
  am_fc (ok_iconst dX6_spans_26 (by decide) rfl) <|
  am_fc (ok_zret rfl dX6_spans_27) <|
  am_fn
theorem ok_cd_X6_spans (l : Launch) (D : va_G) (ad : Nat → Nat) (b0 : Nat) (Hb : Heap) : ∀ q ∈ cd_X6_spans, am_ok l D ad b0 Hb am_If yX6_spans cX6_spans 3 (some .boolean) q.1 q.2 := ok_cd_X6_spans_0 l D ad b0 Hb
set_option maxRecDepth 100000 in
theorem ok_cd_X6_faultFor_0 (l : Launch) (D : va_G) (ad : Nat → Nat) (b0 : Nat) (Hb : Heap) : ∀ q ∈ cd_X6_faultFor_0, am_ok l D ad b0 Hb am_If yX6_faultFor cX6_faultFor 4 (some .int) q.1 q.2 :=
  am_fc (ok_aload_n dX6_faultFor_0 rfl rfl) <|
  am_fc (ok_invV (i := ii_X6_isMissing) rfl (Or.inr ⟨_, rfl, by decide, rfl⟩) mm_X6_isMissing dX6_faultFor_1 w4_67 rfl) <|
  am_fc (ok_ifeq dX6_faultFor_4 (by decide) rfl) <|
  am_fc (ok_bipush dX6_faultFor_7 (by decide) rfl) <|
  am_fc (ok_iret rfl dX6_faultFor_9) <|
  am_fc (ok_aload_n dX6_faultFor_10 rfl rfl) <|
  am_fc (ok_getI cl_5 (by decide) rfl dX6_faultFor_11 w1_233 rfl) <|
  am_fc (ok_iload_n dX6_faultFor_14 rfl rfl) <|
  am_fc (ok_ceq dX6_faultFor_15 (by decide) rfl) <|
  am_fc (ok_bipush dX6_faultFor_18 (by decide) rfl) <|
  am_fc (ok_iret rfl dX6_faultFor_20) <|
  am_fc (ok_aload_n dX6_faultFor_21 rfl rfl) <|
  am_fc (ok_iload_n dX6_faultFor_22 rfl rfl) <|
  am_fc (ok_iload_n dX6_faultFor_23 rfl rfl) <|
  am_fc (ok_invV (i := ii_X6_spans) rfl (Or.inr ⟨_, rfl, by decide, rfl⟩) mm_X6_spans dX6_faultFor_24 w4_71 rfl) <|
  am_fc (ok_ifeq dX6_faultFor_27 (by decide) rfl) <|
  am_fc (ok_iconst dX6_faultFor_30 (by decide) rfl) <|
  am_fc (ok_goto dX6_faultFor_31 (by decide)) <|
  am_fc (ok_bipush dX6_faultFor_34 (by decide) rfl) <|
  am_fc (ok_iret rfl dX6_faultFor_36) <|
  am_fn
theorem ok_cd_X6_faultFor (l : Launch) (D : va_G) (ad : Nat → Nat) (b0 : Nat) (Hb : Heap) : ∀ q ∈ cd_X6_faultFor, am_ok l D ad b0 Hb am_If yX6_faultFor cX6_faultFor 4 (some .int) q.1 q.2 := ok_cd_X6_faultFor_0 l D ad b0 Hb
set_option maxRecDepth 100000 in
theorem ok_cd_X6_asItem_0 (l : Launch) (D : va_G) (ad : Nat → Nat) (b0 : Nat) (Hb : Heap) : ∀ q ∈ cd_X6_asItem_0, am_ok l D ad b0 Hb am_If yX6_asItem cX6_asItem 2 (some .int) q.1 q.2 :=
  am_fc (ok_iload_n dX6_asItem_0 rfl rfl) <|
  am_fc (ok_ifne dX6_asItem_1 (by decide) rfl) <|
  am_fc (ok_iload_n dX6_asItem_4 rfl rfl) <|
  am_fc (ok_ifeq dX6_asItem_5 (by decide) rfl) <|
  am_fc (ok_iconst dX6_asItem_8 (by decide) rfl) <|
  am_fc (ok_goto dX6_asItem_9 (by decide)) <|
  am_fc (ok_iconst dX6_asItem_12 (by decide) rfl) <|
  am_fc (ok_iret rfl dX6_asItem_13) <|
  am_fc (ok_iload_n dX6_asItem_14 rfl rfl) <|
  am_fc (ok_iconst dX6_asItem_15 (by decide) rfl) <|
  am_fc (ok_cne dX6_asItem_16 (by decide) rfl) <|
  am_fc (ok_iload_n dX6_asItem_19 rfl rfl) <|
  am_fc (ok_i2b dX6_asItem_20 rfl) <|
  am_fc (ok_goto dX6_asItem_21 (by decide)) <|
  am_fc (ok_iload_n dX6_asItem_24 rfl rfl) <|
  am_fc (ok_iret rfl dX6_asItem_25) <|
  am_fn
theorem ok_cd_X6_asItem (l : Launch) (D : va_G) (ad : Nat → Nat) (b0 : Nat) (Hb : Heap) : ∀ q ∈ cd_X6_asItem, am_ok l D ad b0 Hb am_If yX6_asItem cX6_asItem 2 (some .int) q.1 q.2 := ok_cd_X6_asItem_0 l D ad b0 Hb
set_option maxRecDepth 100000 in
theorem ok_cd_X7_init_0 (l : Launch) (D : va_G) (ad : Nat → Nat) (b0 : Nat) (Hb : Heap) : ∀ q ∈ cd_X7_init_0, am_ok l D ad b0 Hb am_If yX7_init cX7_init 1 (none) q.1 q.2 :=
  am_fc (ok_aload_n dX7_init_0 rfl rfl) <|
  am_fc (ok_obj dX7_init_1 w1_64 w1_27 w1_28 rfl) <|
  am_fc (ok_aload_n dX7_init_4 rfl rfl) <|
  am_fc (ok_bipush dX7_init_5 (by decide) rfl) <|
  am_fc (ok_newai rfl dX7_init_7 w1_56 rfl) <|
  am_fc (ok_putR cl_6 (by decide) rfl (Or.inr ⟨rfl, rfl, rfl⟩) dX7_init_9 w1_65 rfl) <|
  am_fc (ok_aload_n dX7_init_12 rfl rfl) <|
  am_fc (ok_bipush dX7_init_13 (by decide) rfl) <|
  am_fc (ok_newai rfl dX7_init_15 w1_56 rfl) <|
  am_fc (ok_putR cl_6 (by decide) rfl (Or.inr ⟨rfl, rfl, rfl⟩) dX7_init_17 w1_69 rfl) <|
  am_fc (ok_aload_n dX7_init_20 rfl rfl) <|
  am_fc (ok_bipush dX7_init_21 (by decide) rfl) <|
  am_fc (ok_newai rfl dX7_init_23 w1_56 rfl) <|
  am_fc (ok_putR cl_6 (by decide) rfl (Or.inr ⟨rfl, rfl, rfl⟩) dX7_init_25 w1_71 rfl) <|
  am_fc (ok_aload_n dX7_init_28 rfl rfl) <|
  am_fc (ok_bipush dX7_init_29 (by decide) rfl) <|
  am_fc (ok_newai rfl dX7_init_31 w1_56 rfl) <|
  am_fc (ok_putR cl_6 (by decide) rfl (Or.inr ⟨rfl, rfl, rfl⟩) dX7_init_33 w1_75 rfl) <|
  am_fc (ok_aload_n dX7_init_36 rfl rfl) <|
  am_fc (ok_bipush dX7_init_37 (by decide) rfl) <|
  am_fc (ok_newai rfl dX7_init_39 w1_56 rfl) <|
  am_fc (ok_putR cl_6 (by decide) rfl (Or.inr ⟨rfl, rfl, rfl⟩) dX7_init_41 w1_77 rfl) <|
  am_fc (ok_vret rfl dX7_init_44) <|
  am_fn
theorem ok_cd_X7_init (l : Launch) (D : va_G) (ad : Nat → Nat) (b0 : Nat) (Hb : Heap) : ∀ q ∈ cd_X7_init, am_ok l D ad b0 Hb am_If yX7_init cX7_init 1 (none) q.1 q.2 := ok_cd_X7_init_0 l D ad b0 Hb
set_option maxRecDepth 100000 in
theorem ok_cd_X7_empty_0 (l : Launch) (D : va_G) (ad : Nat → Nat) (b0 : Nat) (Hb : Heap) : ∀ q ∈ cd_X7_empty_0, am_ok l D ad b0 Hb am_If yX7_empty cX7_empty 2 (none) q.1 q.2 :=
  am_fc (ok_iconst dX7_empty_0 (by decide) rfl) <|
  am_fc (ok_istore_n dX7_empty_1 rfl rfl) <|
  am_fc (ok_iload_n dX7_empty_2 rfl rfl) <|
  am_fc (ok_bipush dX7_empty_3 (by decide) rfl) <|
  am_fc (ok_cge dX7_empty_5 (by decide) rfl) <|
  am_fc (ok_aload_n dX7_empty_8 rfl rfl) <|
  am_fc (ok_getR cl_6 (by decide) rfl dX7_empty_9 w1_65 rfl) <|
  am_fc (ok_iload_n dX7_empty_12 rfl rfl) <|
  am_fc (ok_iconst dX7_empty_13 (by decide) rfl) <|
  am_fc (ok_iast dX7_empty_14 rfl) <|
  am_fc (ok_iinc dX7_empty_15 (by decide) rfl) <|
  am_fc (ok_goto dX7_empty_18 (by decide)) <|
  am_fc (ok_vret rfl dX7_empty_21) <|
  am_fn
theorem ok_cd_X7_empty (l : Launch) (D : va_G) (ad : Nat → Nat) (b0 : Nat) (Hb : Heap) : ∀ q ∈ cd_X7_empty, am_ok l D ad b0 Hb am_If yX7_empty cX7_empty 2 (none) q.1 q.2 := ok_cd_X7_empty_0 l D ad b0 Hb
set_option maxRecDepth 100000 in
theorem ok_cd_X7_becomeLike_0 (l : Launch) (D : va_G) (ad : Nat → Nat) (b0 : Nat) (Hb : Heap) : ∀ q ∈ cd_X7_becomeLike_0, am_ok l D ad b0 Hb am_If yX7_becomeLike cX7_becomeLike 3 (none) q.1 q.2 :=
  am_fc (ok_iconst dX7_becomeLike_0 (by decide) rfl) <|
  am_fc (ok_istore_n dX7_becomeLike_1 rfl rfl) <|
  am_fc (ok_iload_n dX7_becomeLike_2 rfl rfl) <|
  am_fc (ok_bipush dX7_becomeLike_3 (by decide) rfl) <|
  am_fc (ok_cge dX7_becomeLike_5 (by decide) rfl) <|
  am_fc (ok_aload_n dX7_becomeLike_8 rfl rfl) <|
  am_fc (ok_getR cl_6 (by decide) rfl dX7_becomeLike_9 w1_65 rfl) <|
  am_fc (ok_iload_n dX7_becomeLike_12 rfl rfl) <|
  am_fc (ok_aload_n dX7_becomeLike_13 rfl rfl) <|
  am_fc (ok_getR cl_6 (by decide) rfl dX7_becomeLike_14 w1_65 rfl) <|
  am_fc (ok_iload_n dX7_becomeLike_17 rfl rfl) <|
  am_fc (ok_iald dX7_becomeLike_18 rfl) <|
  am_fc (ok_iast dX7_becomeLike_19 rfl) <|
  am_fc (ok_aload_n dX7_becomeLike_20 rfl rfl) <|
  am_fc (ok_getR cl_6 (by decide) rfl dX7_becomeLike_21 w1_69 rfl) <|
  am_fc (ok_iload_n dX7_becomeLike_24 rfl rfl) <|
  am_fc (ok_aload_n dX7_becomeLike_25 rfl rfl) <|
  am_fc (ok_getR cl_6 (by decide) rfl dX7_becomeLike_26 w1_69 rfl) <|
  am_fc (ok_iload_n dX7_becomeLike_29 rfl rfl) <|
  am_fc (ok_iald dX7_becomeLike_30 rfl) <|
  am_fc (ok_iast dX7_becomeLike_31 rfl) <|
  am_fc (ok_aload_n dX7_becomeLike_32 rfl rfl) <|
  am_fc (ok_getR cl_6 (by decide) rfl dX7_becomeLike_33 w1_71 rfl) <|
  am_fc (ok_iload_n dX7_becomeLike_36 rfl rfl) <|
  am_fc (ok_aload_n dX7_becomeLike_37 rfl rfl) <|
  am_fc (ok_getR cl_6 (by decide) rfl dX7_becomeLike_38 w1_71 rfl) <|
  am_fc (ok_iload_n dX7_becomeLike_41 rfl rfl) <|
  am_fc (ok_iald dX7_becomeLike_42 rfl) <|
  am_fc (ok_iast dX7_becomeLike_43 rfl) <|
  am_fc (ok_aload_n dX7_becomeLike_44 rfl rfl) <|
  am_fc (ok_getR cl_6 (by decide) rfl dX7_becomeLike_45 w1_75 rfl) <|
  am_fc (ok_iload_n dX7_becomeLike_48 rfl rfl) <|
  am_fc (ok_aload_n dX7_becomeLike_49 rfl rfl) <|
  am_fc (ok_getR cl_6 (by decide) rfl dX7_becomeLike_50 w1_75 rfl) <|
  am_fc (ok_iload_n dX7_becomeLike_53 rfl rfl) <|
  am_fc (ok_iald dX7_becomeLike_54 rfl) <|
  am_fc (ok_iast dX7_becomeLike_55 rfl) <|
  am_fc (ok_aload_n dX7_becomeLike_56 rfl rfl) <|
  am_fc (ok_getR cl_6 (by decide) rfl dX7_becomeLike_57 w1_77 rfl) <|
  am_fc (ok_iload_n dX7_becomeLike_60 rfl rfl) <|
  am_fc (ok_aload_n dX7_becomeLike_61 rfl rfl) <|
  am_fc (ok_getR cl_6 (by decide) rfl dX7_becomeLike_62 w1_77 rfl) <|
  am_fc (ok_iload_n dX7_becomeLike_65 rfl rfl) <|
  am_fc (ok_iald dX7_becomeLike_66 rfl) <|
  am_fc (ok_iast dX7_becomeLike_67 rfl) <|
  am_fc (ok_iinc dX7_becomeLike_68 (by decide) rfl) <|
  am_fc (ok_goto dX7_becomeLike_71 (by decide)) <|
  am_fc (ok_vret rfl dX7_becomeLike_74) <|
  am_fn
theorem ok_cd_X7_becomeLike (l : Launch) (D : va_G) (ad : Nat → Nat) (b0 : Nat) (Hb : Heap) : ∀ q ∈ cd_X7_becomeLike, am_ok l D ad b0 Hb am_If yX7_becomeLike cX7_becomeLike 3 (none) q.1 q.2 := ok_cd_X7_becomeLike_0 l D ad b0 Hb
set_option maxRecDepth 100000 in
theorem ok_cd_X7_turn_0 (l : Launch) (D : va_G) (ad : Nat → Nat) (b0 : Nat) (Hb : Heap) : ∀ q ∈ cd_X7_turn_0, am_ok l D ad b0 Hb am_If yX7_turn cX7_turn 4 (none) q.1 q.2 :=
  am_fc (ok_aload_n dX7_turn_0 rfl rfl) <|
  am_fc (ok_getR cl_6 (by decide) rfl dX7_turn_1 w1_65 rfl) <|
  am_fc (ok_iload_n dX7_turn_4 rfl rfl) <|
  am_fc (ok_iload_n dX7_turn_5 rfl rfl) <|
  am_fc (ok_iast dX7_turn_6 rfl) <|
  am_fc (ok_aload_n dX7_turn_7 rfl rfl) <|
  am_fc (ok_getR cl_6 (by decide) rfl dX7_turn_8 w1_69 rfl) <|
  am_fc (ok_iload_n dX7_turn_11 rfl rfl) <|
  am_fc (ok_iload_n dX7_turn_12 rfl rfl) <|
  am_fc (ok_iast dX7_turn_13 rfl) <|
  am_fc (ok_vret rfl dX7_turn_14) <|
  am_fn
theorem ok_cd_X7_turn (l : Launch) (D : va_G) (ad : Nat → Nat) (b0 : Nat) (Hb : Heap) : ∀ q ∈ cd_X7_turn, am_ok l D ad b0 Hb am_If yX7_turn cX7_turn 4 (none) q.1 q.2 := ok_cd_X7_turn_0 l D ad b0 Hb
set_option maxRecDepth 100000 in
theorem ok_cd_X7_take_0 (l : Launch) (D : va_G) (ad : Nat → Nat) (b0 : Nat) (Hb : Heap) : ∀ q ∈ cd_X7_take_0, am_ok l D ad b0 Hb am_If yX7_take cX7_take 4 (none) q.1 q.2 :=
  am_fc (ok_aload_n dX7_take_0 rfl rfl) <|
  am_fc (ok_getR cl_6 (by decide) rfl dX7_take_1 w1_71 rfl) <|
  am_fc (ok_iload_n dX7_take_4 rfl rfl) <|
  am_fc (ok_iload_n dX7_take_5 rfl rfl) <|
  am_fc (ok_iast dX7_take_6 rfl) <|
  am_fc (ok_aload_n dX7_take_7 rfl rfl) <|
  am_fc (ok_getR cl_6 (by decide) rfl dX7_take_8 w1_75 rfl) <|
  am_fc (ok_iload_n dX7_take_11 rfl rfl) <|
  am_fc (ok_iload_n dX7_take_12 rfl rfl) <|
  am_fc (ok_iast dX7_take_13 rfl) <|
  am_fc (ok_vret rfl dX7_take_14) <|
  am_fn
theorem ok_cd_X7_take (l : Launch) (D : va_G) (ad : Nat → Nat) (b0 : Nat) (Hb : Heap) : ∀ q ∈ cd_X7_take, am_ok l D ad b0 Hb am_If yX7_take cX7_take 4 (none) q.1 q.2 := ok_cd_X7_take_0 l D ad b0 Hb
set_option maxRecDepth 100000 in
theorem ok_cd_X7_start_0 (l : Launch) (D : va_G) (ad : Nat → Nat) (b0 : Nat) (Hb : Heap) : ∀ q ∈ cd_X7_start_0, am_ok l D ad b0 Hb am_If yX7_start cX7_start 4 (none) q.1 q.2 :=
  am_fc (ok_aload_n dX7_start_0 rfl rfl) <|
  am_fc (ok_iload_n dX7_start_1 rfl rfl) <|
  am_fc (ok_iconst dX7_start_2 (by decide) rfl) <|
  am_fc (ok_iload_n dX7_start_3 rfl rfl) <|
  am_fc (ok_invV (i := ii_X7_turn) rfl (Or.inr ⟨_, rfl, by decide, rfl⟩) mm_X7_turn dX7_start_4 w2_129 rfl) <|
  am_fc (ok_aload_n dX7_start_7 rfl rfl) <|
  am_fc (ok_iload_n dX7_start_8 rfl rfl) <|
  am_fc (ok_iload_n dX7_start_9 rfl rfl) <|
  am_fc (ok_bipush dX7_start_10 (by decide) rfl) <|
  am_fc (ok_invV (i := ii_X7_take) rfl (Or.inr ⟨_, rfl, by decide, rfl⟩) mm_X7_take dX7_start_12 w2_133 rfl) <|
  am_fc (ok_aload_n dX7_start_15 rfl rfl) <|
  am_fc (ok_getR cl_6 (by decide) rfl dX7_start_16 w1_77 rfl) <|
  am_fc (ok_iload_n dX7_start_19 rfl rfl) <|
  am_fc (ok_iload_n dX7_start_20 rfl rfl) <|
  am_fc (ok_iast dX7_start_21 rfl) <|
  am_fc (ok_vret rfl dX7_start_22) <|
  am_fn
theorem ok_cd_X7_start (l : Launch) (D : va_G) (ad : Nat → Nat) (b0 : Nat) (Hb : Heap) : ∀ q ∈ cd_X7_start, am_ok l D ad b0 Hb am_If yX7_start cX7_start 4 (none) q.1 q.2 := ok_cd_X7_start_0 l D ad b0 Hb
set_option maxRecDepth 100000 in
theorem ok_cd_X7_isNewTo_0 (l : Launch) (D : va_G) (ad : Nat → Nat) (b0 : Nat) (Hb : Heap) : ∀ q ∈ cd_X7_isNewTo_0, am_ok l D ad b0 Hb am_If yX7_isNewTo cX7_isNewTo 2 (some .boolean) q.1 q.2 :=
  am_fc (ok_aload_n dX7_isNewTo_0 rfl rfl) <|
  am_fc (ok_getR cl_6 (by decide) rfl dX7_isNewTo_1 w1_65 rfl) <|
  am_fc (ok_iload_n dX7_isNewTo_4 rfl rfl) <|
  am_fc (ok_iald dX7_isNewTo_5 rfl) <|
  am_fc (ok_ifeq dX7_isNewTo_6 (by decide) rfl) <|
  am_fc (ok_aload_n dX7_isNewTo_9 rfl rfl) <|
  am_fc (ok_getR cl_6 (by decide) rfl dX7_isNewTo_10 w1_65 rfl) <|
  am_fc (ok_iload_n dX7_isNewTo_13 rfl rfl) <|
  am_fc (ok_iald dX7_isNewTo_14 rfl) <|
  am_fc (ok_iconst dX7_isNewTo_15 (by decide) rfl) <|
  am_fc (ok_cne dX7_isNewTo_16 (by decide) rfl) <|
  am_fc (ok_iconst dX7_isNewTo_19 (by decide) rfl) <|
  am_fc (ok_goto dX7_isNewTo_20 (by decide)) <|
  am_fc (ok_iconst dX7_isNewTo_23 (by decide) rfl) <|
  am_fc (ok_zret rfl dX7_isNewTo_24) <|
  am_fn
theorem ok_cd_X7_isNewTo (l : Launch) (D : va_G) (ad : Nat → Nat) (b0 : Nat) (Hb : Heap) : ∀ q ∈ cd_X7_isNewTo, am_ok l D ad b0 Hb am_If yX7_isNewTo cX7_isNewTo 2 (some .boolean) q.1 q.2 := ok_cd_X7_isNewTo_0 l D ad b0 Hb
set_option maxRecDepth 100000 in
theorem ok_cd_X8_init_0 (l : Launch) (D : va_G) (ad : Nat → Nat) (b0 : Nat) (Hb : Heap) : ∀ q ∈ cd_X8_init_0, am_ok l D ad b0 Hb am_If yX8_init cX8_init 1 (none) q.1 q.2 :=
  am_fc (ok_aload_n dX8_init_0 rfl rfl) <|
  am_fc (ok_obj dX8_init_1 w1_96 w1_27 w1_28 rfl) <|
  am_fc (ok_aload_n dX8_init_4 rfl rfl) <|
  am_fc (ok_bipush dX8_init_5 (by decide) rfl) <|
  am_fc (ok_newac rfl dX8_init_7 w1_108 rfl) <|
  am_fc (ok_putR cl_7 (by decide) rfl (Or.inr ⟨rfl, rfl, rfl⟩) dX8_init_9 w1_99 rfl) <|
  am_fc (ok_vret rfl dX8_init_12) <|
  am_fn
theorem ok_cd_X8_init (l : Launch) (D : va_G) (ad : Nat → Nat) (b0 : Nat) (Hb : Heap) : ∀ q ∈ cd_X8_init, am_ok l D ad b0 Hb am_If yX8_init cX8_init 1 (none) q.1 q.2 := ok_cd_X8_init_0 l D ad b0 Hb
set_option maxRecDepth 100000 in
theorem ok_cd_X8_append_0 (l : Launch) (D : va_G) (ad : Nat → Nat) (b0 : Nat) (Hb : Heap) : ∀ q ∈ cd_X8_append_0, am_ok l D ad b0 Hb am_If yX8_append cX8_append 2 (none) q.1 q.2 :=
  am_fc (ok_aload_n dX8_append_0 rfl rfl) <|
  am_fc (ok_getI cl_7 (by decide) rfl dX8_append_1 w1_97 rfl) <|
  am_fc (ok_bipush dX8_append_4 (by decide) rfl) <|
  am_fc (ok_cge dX8_append_6 (by decide) rfl) <|
  am_fc (ok_aload_n dX8_append_9 rfl rfl) <|
  am_fc (ok_getR cl_7 (by decide) rfl dX8_append_10 w1_99 rfl) <|
  am_fc (ok_aload_n dX8_append_13 rfl rfl) <|
  am_fc (ok_getI cl_7 (by decide) rfl dX8_append_14 w1_97 rfl) <|
  am_fc (ok_iload_n dX8_append_17 rfl rfl) <|
  am_fc (ok_cast dX8_append_18 rfl) <|
  am_fc (ok_aload_n dX8_append_19 rfl rfl) <|
  am_fc (ok_dup dX8_append_20 rfl) <|
  am_fc (ok_getI cl_7 (by decide) rfl dX8_append_21 w1_97 rfl) <|
  am_fc (ok_iconst dX8_append_24 (by decide) rfl) <|
  am_fc (ok_iadd dX8_append_25 rfl) <|
  am_fc (ok_putI cl_7 (by decide) rfl (Or.inl rfl) dX8_append_26 w1_97 rfl) <|
  am_fc (ok_vret rfl dX8_append_29) <|
  am_fn
theorem ok_cd_X8_append (l : Launch) (D : va_G) (ad : Nat → Nat) (b0 : Nat) (Hb : Heap) : ∀ q ∈ cd_X8_append, am_ok l D ad b0 Hb am_If yX8_append cX8_append 2 (none) q.1 q.2 := ok_cd_X8_append_0 l D ad b0 Hb
set_option maxRecDepth 100000 in
theorem ok_cd_X8_readInto_0 (l : Launch) (D : va_G) (ad : Nat → Nat) (b0 : Nat) (Hb : Heap) : ∀ q ∈ cd_X8_readInto_0, am_ok l D ad b0 Hb am_If yX8_readInto cX8_readInto 2 (some .int) q.1 q.2 :=
  am_fc (ok_aload_n dX8_readInto_0 rfl rfl) <|
  am_fc (ok_invV (i := ii_X0_empty) rfl (Or.inr ⟨_, rfl, by decide, rfl⟩) mm_X0_empty dX8_readInto_1 w3_37 rfl) <|
  am_fc (ok_aload_n dX8_readInto_4 rfl rfl) <|
  am_fc (ok_iconst dX8_readInto_5 (by decide) rfl) <|
  am_fc (ok_putI cl_7 (by decide) rfl (Or.inl rfl) dX8_readInto_6 w1_100 rfl) <|
  am_fc (ok_aload_n dX8_readInto_9 rfl rfl) <|
  am_fc (ok_invV (i := ii_X8_next) rfl (Or.inr ⟨_, rfl, by decide, rfl⟩) mm_X8_next dX8_readInto_10 w3_41 rfl) <|
  am_fc (ok_iconst dX8_readInto_13 (by decide) rfl) <|
  am_fc (ok_ceq dX8_readInto_14 (by decide) rfl) <|
  am_fc (ok_aload_n dX8_readInto_17 rfl rfl) <|
  am_fc (ok_aload_n dX8_readInto_18 rfl rfl) <|
  am_fc (ok_invV (i := ii_X8_readClauses) rfl (Or.inr ⟨_, rfl, by decide, rfl⟩) mm_X8_readClauses dX8_readInto_19 w3_45 rfl) <|
  am_fc (ok_ifne dX8_readInto_22 (by decide) rfl) <|
  am_fc (ok_bipush dX8_readInto_25 (by decide) rfl) <|
  am_fc (ok_aload_n dX8_readInto_27 rfl rfl) <|
  am_fc (ok_getI cl_7 (by decide) rfl dX8_readInto_28 w1_100 rfl) <|
  am_fc (ok_isub dX8_readInto_31 rfl) <|
  am_fc (ok_iret rfl dX8_readInto_32) <|
  am_fc (ok_aload_n dX8_readInto_33 rfl rfl) <|
  am_fc (ok_getI cl_0 (by decide) rfl dX8_readInto_34 w1_175 rfl) <|
  am_fc (ok_iret rfl dX8_readInto_37) <|
  am_fn
theorem ok_cd_X8_readInto (l : Launch) (D : va_G) (ad : Nat → Nat) (b0 : Nat) (Hb : Heap) : ∀ q ∈ cd_X8_readInto, am_ok l D ad b0 Hb am_If yX8_readInto cX8_readInto 2 (some .int) q.1 q.2 := ok_cd_X8_readInto_0 l D ad b0 Hb
set_option maxRecDepth 100000 in
theorem ok_cd_X8_readClauses_0 (l : Launch) (D : va_G) (ad : Nat → Nat) (b0 : Nat) (Hb : Heap) : ∀ q ∈ cd_X8_readClauses_0, am_ok l D ad b0 Hb am_If yX8_readClauses cX8_readClauses 3 (some .boolean) q.1 q.2 :=
  am_fc (ok_aload_n dX8_readClauses_0 rfl rfl) <|
  am_fc (ok_aload_n dX8_readClauses_1 rfl rfl) <|
  am_fc (ok_invV (i := ii_X8_readClause) rfl (Or.inr ⟨_, rfl, by decide, rfl⟩) mm_X8_readClause dX8_readClauses_2 w3_49 rfl) <|
  am_fc (ok_ifne dX8_readClauses_5 (by decide) rfl) <|
  am_fc (ok_iconst dX8_readClauses_8 (by decide) rfl) <|
  am_fc (ok_zret rfl dX8_readClauses_9) <|
  am_fc (ok_iconst dX8_readClauses_10 (by decide) rfl) <|
  am_fc (ok_istore_n dX8_readClauses_11 rfl rfl) <|
  am_fc (ok_iload_n dX8_readClauses_12 rfl rfl) <|
  am_fc (ok_bipush dX8_readClauses_13 (by decide) rfl) <|
  am_fc (ok_cge dX8_readClauses_15 (by decide) rfl) <|
  am_fc (ok_aload_n dX8_readClauses_18 rfl rfl) <|
  am_fc (ok_bipush dX8_readClauses_19 (by decide) rfl) <|
  am_fc (ok_invV (i := ii_X8_takes) rfl (Or.inr ⟨_, rfl, by decide, rfl⟩) mm_X8_takes dX8_readClauses_21 w3_65 rfl) <|
  am_fc (ok_ifeq dX8_readClauses_24 (by decide) rfl) <|
  am_fc (ok_aload_n dX8_readClauses_27 rfl rfl) <|
  am_fc (ok_aload_n dX8_readClauses_28 rfl rfl) <|
  am_fc (ok_invV (i := ii_X8_readClause) rfl (Or.inr ⟨_, rfl, by decide, rfl⟩) mm_X8_readClause dX8_readClauses_29 w3_49 rfl) <|
  am_fc (ok_ifne dX8_readClauses_32 (by decide) rfl) <|
  am_fc (ok_iconst dX8_readClauses_35 (by decide) rfl) <|
  am_fc (ok_zret rfl dX8_readClauses_36) <|
  am_fc (ok_iinc dX8_readClauses_37 (by decide) rfl) <|
  am_fc (ok_goto dX8_readClauses_40 (by decide)) <|
  am_fc (ok_aload_n dX8_readClauses_43 rfl rfl) <|
  am_fc (ok_invV (i := ii_X8_next) rfl (Or.inr ⟨_, rfl, by decide, rfl⟩) mm_X8_next dX8_readClauses_44 w3_41 rfl) <|
  am_fc (ok_iconst dX8_readClauses_47 (by decide) rfl) <|
  am_fc (ok_cne dX8_readClauses_48 (by decide) rfl) <|
  am_fc (ok_iconst dX8_readClauses_51 (by decide) rfl) <|
  am_fc (ok_goto dX8_readClauses_52 (by decide)) <|
  am_fc (ok_iconst dX8_readClauses_55 (by decide) rfl) <|
  am_fc (ok_zret rfl dX8_readClauses_56) <|
  am_fn
theorem ok_cd_X8_readClauses (l : Launch) (D : va_G) (ad : Nat → Nat) (b0 : Nat) (Hb : Heap) : ∀ q ∈ cd_X8_readClauses, am_ok l D ad b0 Hb am_If yX8_readClauses cX8_readClauses 3 (some .boolean) q.1 q.2 := ok_cd_X8_readClauses_0 l D ad b0 Hb
set_option maxRecDepth 100000 in
theorem ok_cd_X8_readClause_0 (l : Launch) (D : va_G) (ad : Nat → Nat) (b0 : Nat) (Hb : Heap) : ∀ q ∈ cd_X8_readClause_0, am_ok l D ad b0 Hb am_If yX8_readClause cX8_readClause 4 (some .boolean) q.1 q.2 :=
  am_fc (ok_aload_n dX8_readClause_0 rfl rfl) <|
  am_fc (ok_aload_n dX8_readClause_1 rfl rfl) <|
  am_fc (ok_iconst dX8_readClause_2 (by decide) rfl) <|
  am_fc (ok_invV (i := ii_X8_readTest) rfl (Or.inr ⟨_, rfl, by decide, rfl⟩) mm_X8_readTest dX8_readClause_3 w3_53 rfl) <|
  am_fc (ok_ifeq dX8_readClause_6 (by decide) rfl) <|
  am_fc (ok_aload_n dX8_readClause_9 rfl rfl) <|
  am_fc (ok_bipush dX8_readClause_10 (by decide) rfl) <|
  am_fc (ok_invV (i := ii_X8_takes) rfl (Or.inr ⟨_, rfl, by decide, rfl⟩) mm_X8_takes dX8_readClause_12 w3_65 rfl) <|
  am_fc (ok_ifne dX8_readClause_15 (by decide) rfl) <|
  am_fc (ok_iconst dX8_readClause_18 (by decide) rfl) <|
  am_fc (ok_zret rfl dX8_readClause_19) <|
  am_fc (ok_aload_n dX8_readClause_20 rfl rfl) <|
  am_fc (ok_ldcS (fun _ hU => hU.2.2.1.2.2.2) dX8_readClause_21 rfl) <|
  am_fc (ok_invV (i := ii_X8_takesOneOf) rfl (Or.inr ⟨_, rfl, by decide, rfl⟩) mm_X8_takesOneOf dX8_readClause_23 w3_74 rfl) <|
  am_fc (ok_istore_n dX8_readClause_26 rfl rfl) <|
  am_fc (ok_iload_n dX8_readClause_27 rfl rfl) <|
  am_fc (ok_ifge dX8_readClause_28 (by decide) rfl) <|
  am_fc (ok_iconst dX8_readClause_31 (by decide) rfl) <|
  am_fc (ok_zret rfl dX8_readClause_32) <|
  am_fc (ok_aload_n dX8_readClause_33 rfl rfl) <|
  am_fc (ok_bipush dX8_readClause_34 (by decide) rfl) <|
  am_fc (ok_invV (i := ii_X8_takes) rfl (Or.inr ⟨_, rfl, by decide, rfl⟩) mm_X8_takes dX8_readClause_36 w3_65 rfl) <|
  am_fc (ok_ifeq dX8_readClause_39 (by decide) rfl) <|
  am_fc (ok_aload_n dX8_readClause_42 rfl rfl) <|
  am_fc (ok_invV (i := ii_X8_readDay) rfl (Or.inr ⟨_, rfl, by decide, rfl⟩) mm_X8_readDay dX8_readClause_43 w3_172 rfl) <|
  am_fc (ok_goto dX8_readClause_46 (by decide)) <|
  am_fc (ok_iconst dX8_readClause_49 (by decide) rfl) <|
  am_fc (ok_istore_n dX8_readClause_50 rfl rfl) <|
  am_fc (ok_iload_n dX8_readClause_51 rfl rfl) <|
  am_fc (ok_ifge dX8_readClause_52 (by decide) rfl) <|
  am_fc (ok_iconst dX8_readClause_55 (by decide) rfl) <|
  am_fc (ok_zret rfl dX8_readClause_56) <|
  am_fc (ok_aload_n dX8_readClause_57 rfl rfl) <|
  am_fc (ok_iload_n dX8_readClause_58 rfl rfl) <|
  am_fc (ok_iload_n dX8_readClause_59 rfl rfl) <|
  am_fc (ok_invV (i := ii_X0_endClause) rfl (Or.inr ⟨_, rfl, by decide, rfl⟩) mm_X0_endClause dX8_readClause_60 w3_177 rfl) <|
  am_fc (ok_iconst dX8_readClause_63 (by decide) rfl) <|
  am_fc (ok_zret rfl dX8_readClause_64) <|
  am_fn
theorem ok_cd_X8_readClause (l : Launch) (D : va_G) (ad : Nat → Nat) (b0 : Nat) (Hb : Heap) : ∀ q ∈ cd_X8_readClause, am_ok l D ad b0 Hb am_If yX8_readClause cX8_readClause 4 (some .boolean) q.1 q.2 := ok_cd_X8_readClause_0 l D ad b0 Hb
set_option maxRecDepth 100000 in
theorem ok_cd_X8_readDay_0 (l : Launch) (D : va_G) (ad : Nat → Nat) (b0 : Nat) (Hb : Heap) : ∀ q ∈ cd_X8_readDay_0, am_ok l D ad b0 Hb am_If yX8_readDay cX8_readDay 3 (some .int) q.1 q.2 :=
  am_fc (ok_aload_n dX8_readDay_0 rfl rfl) <|
  am_fc (ok_invV (i := ii_X8_next) rfl (Or.inr ⟨_, rfl, by decide, rfl⟩) mm_X8_next dX8_readDay_1 w3_41 rfl) <|
  am_fc (ok_pop dX8_readDay_4 rfl) <|
  am_fc (ok_aload_n dX8_readDay_5 rfl rfl) <|
  am_fc (ok_getI cl_7 (by decide) rfl dX8_readDay_6 w1_100 rfl) <|
  am_fc (ok_istore_n dX8_readDay_9 rfl rfl) <|
  am_fc (ok_iconst dX8_readDay_10 (by decide) rfl) <|
  am_fc (ok_istore_n dX8_readDay_11 rfl rfl) <|
  am_fc (ok_aload_n dX8_readDay_12 rfl rfl) <|
  am_fc (ok_getI cl_7 (by decide) rfl dX8_readDay_13 w1_100 rfl) <|
  am_fc (ok_aload_n dX8_readDay_16 rfl rfl) <|
  am_fc (ok_getI cl_7 (by decide) rfl dX8_readDay_17 w1_97 rfl) <|
  am_fc (ok_cge dX8_readDay_20 (by decide) rfl) <|
  am_fc (ok_aload_n dX8_readDay_23 rfl rfl) <|
  am_fc (ok_getR cl_7 (by decide) rfl dX8_readDay_24 w1_99 rfl) <|
  am_fc (ok_aload_n dX8_readDay_27 rfl rfl) <|
  am_fc (ok_getI cl_7 (by decide) rfl dX8_readDay_28 w1_100 rfl) <|
  am_fc (ok_cald dX8_readDay_31 rfl) <|
  am_fc (ok_bipush dX8_readDay_32 (by decide) rfl) <|
  am_fc (ok_clt dX8_readDay_34 (by decide) rfl) <|
  am_fc (ok_aload_n dX8_readDay_37 rfl rfl) <|
  am_fc (ok_getR cl_7 (by decide) rfl dX8_readDay_38 w1_99 rfl) <|
  am_fc (ok_aload_n dX8_readDay_41 rfl rfl) <|
  am_fc (ok_getI cl_7 (by decide) rfl dX8_readDay_42 w1_100 rfl) <|
  am_fc (ok_cald dX8_readDay_45 rfl) <|
  am_fc (ok_bipush dX8_readDay_46 (by decide) rfl) <|
  am_fc (ok_cgt dX8_readDay_48 (by decide) rfl) <|
  am_fc (ok_bipush dX8_readDay_51 (by decide) rfl) <|
  am_fc (ok_iload_n dX8_readDay_53 rfl rfl) <|
  am_fc (ok_imul dX8_readDay_54 rfl) <|
  am_fc (ok_aload_n dX8_readDay_55 rfl rfl) <|
  am_fc (ok_getR cl_7 (by decide) rfl dX8_readDay_56 w1_99 rfl) <|
  am_fc (ok_aload_n dX8_readDay_59 rfl rfl) <|
  am_fc (ok_getI cl_7 (by decide) rfl dX8_readDay_60 w1_100 rfl) <|
  am_fc (ok_cald dX8_readDay_63 rfl) <|
  am_fc (ok_iadd dX8_readDay_64 rfl) <|
  am_fc (ok_bipush dX8_readDay_65 (by decide) rfl) <|
  am_fc (ok_isub dX8_readDay_67 rfl) <|
  am_fc (ok_sipush dX8_readDay_68 (by decide) rfl) <|
  am_fc (ok_mmin dX8_readDay_71 w3_176 w3_108 w1_14 w3_109 rfl) <|
  am_fc (ok_istore_n dX8_readDay_74 rfl rfl) <|
  am_fc (ok_aload_n dX8_readDay_75 rfl rfl) <|
  am_fc (ok_dup dX8_readDay_76 rfl) <|
  am_fc (ok_getI cl_7 (by decide) rfl dX8_readDay_77 w1_100 rfl) <|
  am_fc (ok_iconst dX8_readDay_80 (by decide) rfl) <|
  am_fc (ok_iadd dX8_readDay_81 rfl) <|
  am_fc (ok_putI cl_7 (by decide) rfl (Or.inl rfl) dX8_readDay_82 w1_100 rfl) <|
  am_fc (ok_goto dX8_readDay_85 (by decide)) <|
  am_fc (ok_aload_n dX8_readDay_88 rfl rfl) <|
  am_fc (ok_getI cl_7 (by decide) rfl dX8_readDay_89 w1_100 rfl) <|
  am_fn
set_option maxRecDepth 100000 in
theorem ok_cd_X8_readDay_1 (l : Launch) (D : va_G) (ad : Nat → Nat) (b0 : Nat) (Hb : Heap) : ∀ q ∈ cd_X8_readDay_1, am_ok l D ad b0 Hb am_If yX8_readDay cX8_readDay 3 (some .int) q.1 q.2 :=
  am_fc (ok_iload_n dX8_readDay_92 rfl rfl) <|
  am_fc (ok_ceq dX8_readDay_93 (by decide) rfl) <|
  am_fc (ok_iload_n dX8_readDay_96 rfl rfl) <|
  am_fc (ok_sipush dX8_readDay_97 (by decide) rfl) <|
  am_fc (ok_cle dX8_readDay_100 (by decide) rfl) <|
  am_fc (ok_aload_n dX8_readDay_103 rfl rfl) <|
  am_fc (ok_iload_n dX8_readDay_104 rfl rfl) <|
  am_fc (ok_putI cl_7 (by decide) rfl (Or.inl rfl) dX8_readDay_105 w1_100 rfl) <|
  am_fc (ok_bipush dX8_readDay_108 (by decide) rfl) <|
  am_fc (ok_iret rfl dX8_readDay_110) <|
  am_fc (ok_iload_n dX8_readDay_111 rfl rfl) <|
  am_fc (ok_iret rfl dX8_readDay_112) <|
  am_fn
theorem ok_cd_X8_readDay (l : Launch) (D : va_G) (ad : Nat → Nat) (b0 : Nat) (Hb : Heap) : ∀ q ∈ cd_X8_readDay, am_ok l D ad b0 Hb am_If yX8_readDay cX8_readDay 3 (some .int) q.1 q.2 := am_fa (ok_cd_X8_readDay_0 l D ad b0 Hb) (ok_cd_X8_readDay_1 l D ad b0 Hb)
set_option maxRecDepth 100000 in
theorem ok_cd_X8_readTest_0 (l : Launch) (D : va_G) (ad : Nat → Nat) (b0 : Nat) (Hb : Heap) : ∀ q ∈ cd_X8_readTest_0, am_ok l D ad b0 Hb am_If yX8_readTest cX8_readTest 4 (some .boolean) q.1 q.2 :=
  am_fc (ok_aload_n dX8_readTest_0 rfl rfl) <|
  am_fc (ok_aload_n dX8_readTest_1 rfl rfl) <|
  am_fc (ok_iload_n dX8_readTest_2 rfl rfl) <|
  am_fc (ok_invV (i := ii_X8_readCase) rfl (Or.inr ⟨_, rfl, by decide, rfl⟩) mm_X8_readCase dX8_readTest_3 w3_57 rfl) <|
  am_fc (ok_ifne dX8_readTest_6 (by decide) rfl) <|
  am_fc (ok_iconst dX8_readTest_9 (by decide) rfl) <|
  am_fc (ok_zret rfl dX8_readTest_10) <|
  am_fc (ok_iconst dX8_readTest_11 (by decide) rfl) <|
  am_fc (ok_istore_n dX8_readTest_12 rfl rfl) <|
  am_fc (ok_iload_n dX8_readTest_13 rfl rfl) <|
  am_fc (ok_bipush dX8_readTest_14 (by decide) rfl) <|
  am_fc (ok_cge dX8_readTest_16 (by decide) rfl) <|
  am_fc (ok_aload_n dX8_readTest_19 rfl rfl) <|
  am_fc (ok_bipush dX8_readTest_20 (by decide) rfl) <|
  am_fc (ok_invV (i := ii_X8_takes) rfl (Or.inr ⟨_, rfl, by decide, rfl⟩) mm_X8_takes dX8_readTest_22 w3_65 rfl) <|
  am_fc (ok_ifeq dX8_readTest_25 (by decide) rfl) <|
  am_fc (ok_aload_n dX8_readTest_28 rfl rfl) <|
  am_fc (ok_aload_n dX8_readTest_29 rfl rfl) <|
  am_fc (ok_iload_n dX8_readTest_30 rfl rfl) <|
  am_fc (ok_invV (i := ii_X8_readCase) rfl (Or.inr ⟨_, rfl, by decide, rfl⟩) mm_X8_readCase dX8_readTest_31 w3_57 rfl) <|
  am_fc (ok_ifne dX8_readTest_34 (by decide) rfl) <|
  am_fc (ok_iconst dX8_readTest_37 (by decide) rfl) <|
  am_fc (ok_zret rfl dX8_readTest_38) <|
  am_fc (ok_aload_n dX8_readTest_39 rfl rfl) <|
  am_fc (ok_bipush dX8_readTest_40 (by decide) rfl) <|
  am_fc (ok_invV (i := ii_X0_add) rfl (Or.inr ⟨_, rfl, by decide, rfl⟩) mm_X0_add dX8_readTest_42 w3_167 rfl) <|
  am_fc (ok_iinc dX8_readTest_45 (by decide) rfl) <|
  am_fc (ok_goto dX8_readTest_48 (by decide)) <|
  am_fc (ok_iconst dX8_readTest_51 (by decide) rfl) <|
  am_fc (ok_zret rfl dX8_readTest_52) <|
  am_fn
theorem ok_cd_X8_readTest (l : Launch) (D : va_G) (ad : Nat → Nat) (b0 : Nat) (Hb : Heap) : ∀ q ∈ cd_X8_readTest, am_ok l D ad b0 Hb am_If yX8_readTest cX8_readTest 4 (some .boolean) q.1 q.2 := ok_cd_X8_readTest_0 l D ad b0 Hb
set_option maxRecDepth 100000 in
theorem ok_cd_X8_readCase_0 (l : Launch) (D : va_G) (ad : Nat → Nat) (b0 : Nat) (Hb : Heap) : ∀ q ∈ cd_X8_readCase_0, am_ok l D ad b0 Hb am_If yX8_readCase cX8_readCase 4 (some .boolean) q.1 q.2 :=
  am_fc (ok_aload_n dX8_readCase_0 rfl rfl) <|
  am_fc (ok_aload_n dX8_readCase_1 rfl rfl) <|
  am_fc (ok_iload_n dX8_readCase_2 rfl rfl) <|
  am_fc (ok_invV (i := ii_X8_readClaim) rfl (Or.inr ⟨_, rfl, by decide, rfl⟩) mm_X8_readClaim dX8_readCase_3 w3_61 rfl) <|
  am_fc (ok_ifne dX8_readCase_6 (by decide) rfl) <|
  am_fc (ok_iconst dX8_readCase_9 (by decide) rfl) <|
  am_fc (ok_zret rfl dX8_readCase_10) <|
  am_fc (ok_iconst dX8_readCase_11 (by decide) rfl) <|
  am_fc (ok_istore_n dX8_readCase_12 rfl rfl) <|
  am_fc (ok_iload_n dX8_readCase_13 rfl rfl) <|
  am_fc (ok_bipush dX8_readCase_14 (by decide) rfl) <|
  am_fc (ok_cge dX8_readCase_16 (by decide) rfl) <|
  am_fc (ok_aload_n dX8_readCase_19 rfl rfl) <|
  am_fc (ok_bipush dX8_readCase_20 (by decide) rfl) <|
  am_fc (ok_invV (i := ii_X8_takes) rfl (Or.inr ⟨_, rfl, by decide, rfl⟩) mm_X8_takes dX8_readCase_22 w3_65 rfl) <|
  am_fc (ok_ifeq dX8_readCase_25 (by decide) rfl) <|
  am_fc (ok_aload_n dX8_readCase_28 rfl rfl) <|
  am_fc (ok_aload_n dX8_readCase_29 rfl rfl) <|
  am_fc (ok_iload_n dX8_readCase_30 rfl rfl) <|
  am_fc (ok_invV (i := ii_X8_readClaim) rfl (Or.inr ⟨_, rfl, by decide, rfl⟩) mm_X8_readClaim dX8_readCase_31 w3_61 rfl) <|
  am_fc (ok_ifne dX8_readCase_34 (by decide) rfl) <|
  am_fc (ok_iconst dX8_readCase_37 (by decide) rfl) <|
  am_fc (ok_zret rfl dX8_readCase_38) <|
  am_fc (ok_aload_n dX8_readCase_39 rfl rfl) <|
  am_fc (ok_iconst dX8_readCase_40 (by decide) rfl) <|
  am_fc (ok_invV (i := ii_X0_add) rfl (Or.inr ⟨_, rfl, by decide, rfl⟩) mm_X0_add dX8_readCase_41 w3_167 rfl) <|
  am_fc (ok_iinc dX8_readCase_44 (by decide) rfl) <|
  am_fc (ok_goto dX8_readCase_47 (by decide)) <|
  am_fc (ok_iconst dX8_readCase_50 (by decide) rfl) <|
  am_fc (ok_zret rfl dX8_readCase_51) <|
  am_fn
theorem ok_cd_X8_readCase (l : Launch) (D : va_G) (ad : Nat → Nat) (b0 : Nat) (Hb : Heap) : ∀ q ∈ cd_X8_readCase, am_ok l D ad b0 Hb am_If yX8_readCase cX8_readCase 4 (some .boolean) q.1 q.2 := ok_cd_X8_readCase_0 l D ad b0 Hb
set_option maxRecDepth 100000 in
theorem ok_cd_X8_readClaim_0 (l : Launch) (D : va_G) (ad : Nat → Nat) (b0 : Nat) (Hb : Heap) : ∀ q ∈ cd_X8_readClaim_0, am_ok l D ad b0 Hb am_If yX8_readClaim cX8_readClaim 5 (some .boolean) q.1 q.2 :=
  am_fc (ok_aload_n dX8_readClaim_0 rfl rfl) <|
  am_fc (ok_bipush dX8_readClaim_1 (by decide) rfl) <|
  am_fc (ok_invV (i := ii_X8_takes) rfl (Or.inr ⟨_, rfl, by decide, rfl⟩) mm_X8_takes dX8_readClaim_3 w3_65 rfl) <|
  am_fc (ok_istore_n dX8_readClaim_6 rfl rfl) <|
  am_fc (ok_iload_n dX8_readClaim_7 rfl rfl) <|
  am_fc (ok_iconst dX8_readClaim_8 (by decide) rfl) <|
  am_fc (ok_cge dX8_readClaim_9 (by decide) rfl) <|
  am_fc (ok_aload_n dX8_readClaim_12 rfl rfl) <|
  am_fc (ok_bipush dX8_readClaim_13 (by decide) rfl) <|
  am_fc (ok_invV (i := ii_X8_takes) rfl (Or.inr ⟨_, rfl, by decide, rfl⟩) mm_X8_takes dX8_readClaim_15 w3_65 rfl) <|
  am_fc (ok_ifeq dX8_readClaim_18 (by decide) rfl) <|
  am_fc (ok_aload_n dX8_readClaim_21 rfl rfl) <|
  am_fc (ok_aload_n dX8_readClaim_22 rfl rfl) <|
  am_fc (ok_iload_n dX8_readClaim_23 rfl rfl) <|
  am_fc (ok_iconst dX8_readClaim_24 (by decide) rfl) <|
  am_fc (ok_iadd dX8_readClaim_25 rfl) <|
  am_fc (ok_invV (i := ii_X8_readTest) rfl (Or.inr ⟨_, rfl, by decide, rfl⟩) mm_X8_readTest dX8_readClaim_26 w3_53 rfl) <|
  am_fc (ok_ifeq dX8_readClaim_29 (by decide) rfl) <|
  am_fc (ok_aload_n dX8_readClaim_32 rfl rfl) <|
  am_fc (ok_bipush dX8_readClaim_33 (by decide) rfl) <|
  am_fc (ok_invV (i := ii_X8_takes) rfl (Or.inr ⟨_, rfl, by decide, rfl⟩) mm_X8_takes dX8_readClaim_35 w3_65 rfl) <|
  am_fc (ok_ifeq dX8_readClaim_38 (by decide) rfl) <|
  am_fc (ok_iconst dX8_readClaim_41 (by decide) rfl) <|
  am_fc (ok_goto dX8_readClaim_42 (by decide)) <|
  am_fc (ok_iconst dX8_readClaim_45 (by decide) rfl) <|
  am_fc (ok_istore dX8_readClaim_46 rfl) <|
  am_fc (ok_goto dX8_readClaim_48 (by decide)) <|
  am_fc (ok_aload_n dX8_readClaim_51 rfl rfl) <|
  am_fc (ok_aload_n dX8_readClaim_52 rfl rfl) <|
  am_fc (ok_invV (i := ii_X8_readComparison) rfl (Or.inr ⟨_, rfl, by decide, rfl⟩) mm_X8_readComparison dX8_readClaim_53 w3_69 rfl) <|
  am_fc (ok_istore dX8_readClaim_56 rfl) <|
  am_fc (ok_iload dX8_readClaim_58 rfl) <|
  am_fc (ok_ifeq dX8_readClaim_60 (by decide) rfl) <|
  am_fc (ok_iload_n dX8_readClaim_63 rfl rfl) <|
  am_fc (ok_ifeq dX8_readClaim_64 (by decide) rfl) <|
  am_fc (ok_aload_n dX8_readClaim_67 rfl rfl) <|
  am_fc (ok_bipush dX8_readClaim_68 (by decide) rfl) <|
  am_fc (ok_invV (i := ii_X0_add) rfl (Or.inr ⟨_, rfl, by decide, rfl⟩) mm_X0_add dX8_readClaim_70 w3_167 rfl) <|
  am_fc (ok_iload dX8_readClaim_73 rfl) <|
  am_fc (ok_zret rfl dX8_readClaim_75) <|
  am_fn
theorem ok_cd_X8_readClaim (l : Launch) (D : va_G) (ad : Nat → Nat) (b0 : Nat) (Hb : Heap) : ∀ q ∈ cd_X8_readClaim, am_ok l D ad b0 Hb am_If yX8_readClaim cX8_readClaim 5 (some .boolean) q.1 q.2 := ok_cd_X8_readClaim_0 l D ad b0 Hb
set_option maxRecDepth 100000 in
theorem ok_cd_X8_readComparison_0 (l : Launch) (D : va_G) (ad : Nat → Nat) (b0 : Nat) (Hb : Heap) : ∀ q ∈ cd_X8_readComparison_0, am_ok l D ad b0 Hb am_If yX8_readComparison cX8_readComparison 5 (some .boolean) q.1 q.2 :=
  am_fc (ok_aload_n dX8_readComparison_0 rfl rfl) <|
  am_fc (ok_ldcS (fun _ hU => hU.2.2.1.1) dX8_readComparison_1 rfl) <|
  am_fc (ok_invV (i := ii_X8_takesOneOf) rfl (Or.inr ⟨_, rfl, by decide, rfl⟩) mm_X8_takesOneOf dX8_readComparison_3 w3_74 rfl) <|
  am_fc (ok_istore_n dX8_readComparison_6 rfl rfl) <|
  am_fc (ok_iload_n dX8_readComparison_7 rfl rfl) <|
  am_fc (ok_ifge dX8_readComparison_8 (by decide) rfl) <|
  am_fc (ok_iconst dX8_readComparison_11 (by decide) rfl) <|
  am_fc (ok_zret rfl dX8_readComparison_12) <|
  am_fc (ok_aload_n dX8_readComparison_13 rfl rfl) <|
  am_fc (ok_ldcS (fun _ hU => hU.2.2.1.2.1) dX8_readComparison_14 rfl) <|
  am_fc (ok_invV (i := ii_X8_takesOneOf) rfl (Or.inr ⟨_, rfl, by decide, rfl⟩) mm_X8_takesOneOf dX8_readComparison_16 w3_74 rfl) <|
  am_fc (ok_istore_n dX8_readComparison_19 rfl rfl) <|
  am_fc (ok_iload_n dX8_readComparison_20 rfl rfl) <|
  am_fc (ok_ifge dX8_readComparison_21 (by decide) rfl) <|
  am_fc (ok_iconst dX8_readComparison_24 (by decide) rfl) <|
  am_fc (ok_zret rfl dX8_readComparison_25) <|
  am_fc (ok_aload_n dX8_readComparison_26 rfl rfl) <|
  am_fc (ok_ldcS (fun _ hU => hU.2.2.1.2.2.1) dX8_readComparison_27 rfl) <|
  am_fc (ok_invV (i := ii_X8_takesOneOf) rfl (Or.inr ⟨_, rfl, by decide, rfl⟩) mm_X8_takesOneOf dX8_readComparison_29 w3_74 rfl) <|
  am_fc (ok_istore dX8_readComparison_32 rfl) <|
  am_fc (ok_iload dX8_readComparison_34 rfl) <|
  am_fc (ok_ifge dX8_readComparison_36 (by decide) rfl) <|
  am_fc (ok_iconst dX8_readComparison_39 (by decide) rfl) <|
  am_fc (ok_zret rfl dX8_readComparison_40) <|
  am_fc (ok_aload_n dX8_readComparison_41 rfl rfl) <|
  am_fc (ok_iload_n dX8_readComparison_42 rfl rfl) <|
  am_fc (ok_iload_n dX8_readComparison_43 rfl rfl) <|
  am_fc (ok_iload dX8_readComparison_44 rfl) <|
  am_fc (ok_invS (i := ii_X0_comparison) rfl mm_X0_comparison dX8_readComparison_46 w3_164 rfl) <|
  am_fc (ok_invV (i := ii_X0_add) rfl (Or.inr ⟨_, rfl, by decide, rfl⟩) mm_X0_add dX8_readComparison_49 w3_167 rfl) <|
  am_fc (ok_iconst dX8_readComparison_52 (by decide) rfl) <|
  am_fc (ok_zret rfl dX8_readComparison_53) <|
  am_fn
theorem ok_cd_X8_readComparison (l : Launch) (D : va_G) (ad : Nat → Nat) (b0 : Nat) (Hb : Heap) : ∀ q ∈ cd_X8_readComparison, am_ok l D ad b0 Hb am_If yX8_readComparison cX8_readComparison 5 (some .boolean) q.1 q.2 := ok_cd_X8_readComparison_0 l D ad b0 Hb
set_option maxRecDepth 100000 in
theorem ok_cd_X8_next_0 (l : Launch) (D : va_G) (ad : Nat → Nat) (b0 : Nat) (Hb : Heap) : ∀ q ∈ cd_X8_next_0, am_ok l D ad b0 Hb am_If yX8_next cX8_next 1 (some .char) q.1 q.2 :=
  am_fc (ok_aload_n dX8_next_0 rfl rfl) <|
  am_fc (ok_getI cl_7 (by decide) rfl dX8_next_1 w1_100 rfl) <|
  am_fc (ok_aload_n dX8_next_4 rfl rfl) <|
  am_fc (ok_getI cl_7 (by decide) rfl dX8_next_5 w1_97 rfl) <|
  am_fc (ok_cge dX8_next_8 (by decide) rfl) <|
  am_fc (ok_aload_n dX8_next_11 rfl rfl) <|
  am_fc (ok_getR cl_7 (by decide) rfl dX8_next_12 w1_99 rfl) <|
  am_fc (ok_aload_n dX8_next_15 rfl rfl) <|
  am_fc (ok_getI cl_7 (by decide) rfl dX8_next_16 w1_100 rfl) <|
  am_fc (ok_cald dX8_next_19 rfl) <|
  am_fc (ok_bipush dX8_next_20 (by decide) rfl) <|
  am_fc (ok_cne dX8_next_22 (by decide) rfl) <|
  am_fc (ok_aload_n dX8_next_25 rfl rfl) <|
  am_fc (ok_dup dX8_next_26 rfl) <|
  am_fc (ok_getI cl_7 (by decide) rfl dX8_next_27 w1_100 rfl) <|
  am_fc (ok_iconst dX8_next_30 (by decide) rfl) <|
  am_fc (ok_iadd dX8_next_31 rfl) <|
  am_fc (ok_putI cl_7 (by decide) rfl (Or.inl rfl) dX8_next_32 w1_100 rfl) <|
  am_fc (ok_goto dX8_next_35 (by decide)) <|
  am_fc (ok_aload_n dX8_next_38 rfl rfl) <|
  am_fc (ok_getI cl_7 (by decide) rfl dX8_next_39 w1_100 rfl) <|
  am_fc (ok_aload_n dX8_next_42 rfl rfl) <|
  am_fc (ok_getI cl_7 (by decide) rfl dX8_next_43 w1_97 rfl) <|
  am_fc (ok_cge dX8_next_46 (by decide) rfl) <|
  am_fc (ok_aload_n dX8_next_49 rfl rfl) <|
  am_fc (ok_getR cl_7 (by decide) rfl dX8_next_50 w1_99 rfl) <|
  am_fc (ok_aload_n dX8_next_53 rfl rfl) <|
  am_fc (ok_getI cl_7 (by decide) rfl dX8_next_54 w1_100 rfl) <|
  am_fc (ok_cald dX8_next_57 rfl) <|
  am_fc (ok_goto dX8_next_58 (by decide)) <|
  am_fc (ok_iconst dX8_next_61 (by decide) rfl) <|
  am_fc (ok_cret rfl dX8_next_62) <|
  am_fn
theorem ok_cd_X8_next (l : Launch) (D : va_G) (ad : Nat → Nat) (b0 : Nat) (Hb : Heap) : ∀ q ∈ cd_X8_next, am_ok l D ad b0 Hb am_If yX8_next cX8_next 1 (some .char) q.1 q.2 := ok_cd_X8_next_0 l D ad b0 Hb
set_option maxRecDepth 100000 in
theorem ok_cd_X8_takes_0 (l : Launch) (D : va_G) (ad : Nat → Nat) (b0 : Nat) (Hb : Heap) : ∀ q ∈ cd_X8_takes_0, am_ok l D ad b0 Hb am_If yX8_takes cX8_takes 2 (some .boolean) q.1 q.2 :=
  am_fc (ok_aload_n dX8_takes_0 rfl rfl) <|
  am_fc (ok_invV (i := ii_X8_next) rfl (Or.inr ⟨_, rfl, by decide, rfl⟩) mm_X8_next dX8_takes_1 w3_41 rfl) <|
  am_fc (ok_iload_n dX8_takes_4 rfl rfl) <|
  am_fc (ok_ceq dX8_takes_5 (by decide) rfl) <|
  am_fc (ok_iconst dX8_takes_8 (by decide) rfl) <|
  am_fc (ok_zret rfl dX8_takes_9) <|
  am_fc (ok_aload_n dX8_takes_10 rfl rfl) <|
  am_fc (ok_dup dX8_takes_11 rfl) <|
  am_fc (ok_getI cl_7 (by decide) rfl dX8_takes_12 w1_100 rfl) <|
  am_fc (ok_iconst dX8_takes_15 (by decide) rfl) <|
  am_fc (ok_iadd dX8_takes_16 rfl) <|
  am_fc (ok_putI cl_7 (by decide) rfl (Or.inl rfl) dX8_takes_17 w1_100 rfl) <|
  am_fc (ok_iconst dX8_takes_20 (by decide) rfl) <|
  am_fc (ok_zret rfl dX8_takes_21) <|
  am_fn
theorem ok_cd_X8_takes (l : Launch) (D : va_G) (ad : Nat → Nat) (b0 : Nat) (Hb : Heap) : ∀ q ∈ cd_X8_takes, am_ok l D ad b0 Hb am_If yX8_takes cX8_takes 2 (some .boolean) q.1 q.2 := ok_cd_X8_takes_0 l D ad b0 Hb
set_option maxRecDepth 100000 in
theorem ok_cd_X8_takesOneOf_0 (l : Launch) (D : va_G) (ad : Nat → Nat) (b0 : Nat) (Hb : Heap) : ∀ q ∈ cd_X8_takesOneOf_0, am_ok l D ad b0 Hb am_If yX8_takesOneOf cX8_takesOneOf 3 (some .int) q.1 q.2 :=
  am_fc (ok_aload_n dX8_takesOneOf_0 rfl rfl) <|
  am_fc (ok_aload_n dX8_takesOneOf_1 rfl rfl) <|
  am_fc (ok_invV (i := ii_X8_next) rfl (Or.inr ⟨_, rfl, by decide, rfl⟩) mm_X8_next dX8_takesOneOf_2 w3_41 rfl) <|
  am_fc (ok_invV (i := ii_J0_indexOf_0f7a4) rfl (Or.inl ⟨rfl, rfl⟩) mm_J0_indexOf_0f7a4 dX8_takesOneOf_5 w3_78 rfl) <|
  am_fc (ok_istore_n dX8_takesOneOf_8 rfl rfl) <|
  am_fc (ok_iload_n dX8_takesOneOf_9 rfl rfl) <|
  am_fc (ok_iflt dX8_takesOneOf_10 (by decide) rfl) <|
  am_fc (ok_aload_n dX8_takesOneOf_13 rfl rfl) <|
  am_fc (ok_dup dX8_takesOneOf_14 rfl) <|
  am_fc (ok_getI cl_7 (by decide) rfl dX8_takesOneOf_15 w1_100 rfl) <|
  am_fc (ok_iconst dX8_takesOneOf_18 (by decide) rfl) <|
  am_fc (ok_iadd dX8_takesOneOf_19 rfl) <|
  am_fc (ok_putI cl_7 (by decide) rfl (Or.inl rfl) dX8_takesOneOf_20 w1_100 rfl) <|
  am_fc (ok_iload_n dX8_takesOneOf_23 rfl rfl) <|
  am_fc (ok_iret rfl dX8_takesOneOf_24) <|
  am_fn
theorem ok_cd_X8_takesOneOf (l : Launch) (D : va_G) (ad : Nat → Nat) (b0 : Nat) (Hb : Heap) : ∀ q ∈ cd_X8_takesOneOf, am_ok l D ad b0 Hb am_If yX8_takesOneOf cX8_takesOneOf 3 (some .int) q.1 q.2 := ok_cd_X8_takesOneOf_0 l D ad b0 Hb
set_option maxRecDepth 100000 in
theorem ok_cd_X9_init_0 (l : Launch) (D : va_G) (ad : Nat → Nat) (b0 : Nat) (Hb : Heap) : ∀ q ∈ cd_X9_init_0, am_ok l D ad b0 Hb am_If yX9_init cX9_init 2 (none) q.1 q.2 :=
  am_fc (ok_aload_n dX9_init_0 rfl rfl) <|
  am_fc (ok_obj dX9_init_1 w1_34 w1_27 w1_28 rfl) <|
  am_fc (ok_aload_n dX9_init_4 rfl rfl) <|
  am_fc (ok_iconst dX9_init_5 (by decide) rfl) <|
  am_fc (ok_bipush dX9_init_6 (by decide) rfl) <|
  am_fc (ok_mna dX9_init_8 w1_35 w1_56 rfl) <|
  am_fc (ok_putR cl_8 (by decide) rfl (Or.inr ⟨rfl, rfl, rfl⟩) dX9_init_12 w1_37 rfl) <|
  am_fc (ok_aload_n dX9_init_15 rfl rfl) <|
  am_fc (ok_bipush dX9_init_16 (by decide) rfl) <|
  am_fc (ok_newai rfl dX9_init_18 w1_56 rfl) <|
  am_fc (ok_putR cl_8 (by decide) rfl (Or.inr ⟨rfl, rfl, rfl⟩) dX9_init_20 w1_39 rfl) <|
  am_fc (ok_aload_n dX9_init_23 rfl rfl) <|
  am_fc (ok_iconst dX9_init_24 (by decide) rfl) <|
  am_fc (ok_bipush dX9_init_25 (by decide) rfl) <|
  am_fc (ok_mna dX9_init_27 w1_35 w1_56 rfl) <|
  am_fc (ok_putR cl_8 (by decide) rfl (Or.inr ⟨rfl, rfl, rfl⟩) dX9_init_31 w1_43 rfl) <|
  am_fc (ok_aload_n dX9_init_34 rfl rfl) <|
  am_fc (ok_bipush dX9_init_35 (by decide) rfl) <|
  am_fc (ok_newai rfl dX9_init_37 w1_56 rfl) <|
  am_fc (ok_putR cl_8 (by decide) rfl (Or.inr ⟨rfl, rfl, rfl⟩) dX9_init_39 w1_44 rfl) <|
  am_fc (ok_iconst dX9_init_42 (by decide) rfl) <|
  am_fc (ok_istore_n dX9_init_43 rfl rfl) <|
  am_fc (ok_iload_n dX9_init_44 rfl rfl) <|
  am_fc (ok_bipush dX9_init_45 (by decide) rfl) <|
  am_fc (ok_cge dX9_init_47 (by decide) rfl) <|
  am_fc (ok_aload_n dX9_init_50 rfl rfl) <|
  am_fc (ok_getR cl_8 (by decide) rfl dX9_init_51 w1_39 rfl) <|
  am_fc (ok_iload_n dX9_init_54 rfl rfl) <|
  am_fc (ok_iconst dX9_init_55 (by decide) rfl) <|
  am_fc (ok_iast dX9_init_56 rfl) <|
  am_fc (ok_iinc dX9_init_57 (by decide) rfl) <|
  am_fc (ok_goto dX9_init_60 (by decide)) <|
  am_fc (ok_vret rfl dX9_init_63) <|
  am_fn
theorem ok_cd_X9_init (l : Launch) (D : va_G) (ad : Nat → Nat) (b0 : Nat) (Hb : Heap) : ∀ q ∈ cd_X9_init, am_ok l D ad b0 Hb am_If yX9_init cX9_init 2 (none) q.1 q.2 := ok_cd_X9_init_0 l D ad b0 Hb
set_option maxRecDepth 100000 in
theorem ok_cd_X9_mayBe_0 (l : Launch) (D : va_G) (ad : Nat → Nat) (b0 : Nat) (Hb : Heap) : ∀ q ∈ cd_X9_mayBe_0, am_ok l D ad b0 Hb am_If yX9_mayBe cX9_mayBe 2 (some .boolean) q.1 q.2 :=
  am_fc (ok_iload_n dX9_mayBe_0 rfl rfl) <|
  am_fc (ok_iconst dX9_mayBe_1 (by decide) rfl) <|
  am_fc (ok_invSN (i := ii_X10_within) rfl mm_X10_within dX9_mayBe_2 w2_51 rfl) <|
  am_fc (ok_ifeq dX9_mayBe_5 (by decide) rfl) <|
  am_fc (ok_iload_n dX9_mayBe_8 rfl rfl) <|
  am_fc (ok_gets (fun _ hU => hU.2.1.1) dX9_mayBe_9 w2_52 rfl) <|
  am_fc (ok_iload_n dX9_mayBe_12 rfl rfl) <|
  am_fc (ok_iald dX9_mayBe_13 rfl) <|
  am_fc (ok_invSN (i := ii_X10_within) rfl mm_X10_within dX9_mayBe_14 w2_51 rfl) <|
  am_fc (ok_ifeq dX9_mayBe_17 (by decide) rfl) <|
  am_fc (ok_iconst dX9_mayBe_20 (by decide) rfl) <|
  am_fc (ok_goto dX9_mayBe_21 (by decide)) <|
  am_fc (ok_iconst dX9_mayBe_24 (by decide) rfl) <|
  am_fc (ok_zret rfl dX9_mayBe_25) <|
  am_fn
theorem ok_cd_X9_mayBe (l : Launch) (D : va_G) (ad : Nat → Nat) (b0 : Nat) (Hb : Heap) : ∀ q ∈ cd_X9_mayBe, am_ok l D ad b0 Hb am_If yX9_mayBe cX9_mayBe 2 (some .boolean) q.1 q.2 := ok_cd_X9_mayBe_0 l D ad b0 Hb
set_option maxRecDepth 100000 in
theorem ok_cd_X9_settle_0 (l : Launch) (D : va_G) (ad : Nat → Nat) (b0 : Nat) (Hb : Heap) : ∀ q ∈ cd_X9_settle_0, am_ok l D ad b0 Hb am_If yX9_settle cX9_settle 6 (some .int) q.1 q.2 :=
  am_fc (ok_aload_n dX9_settle_0 rfl rfl) <|
  am_fc (ok_getR cl_8 (by decide) rfl dX9_settle_1 w1_43 rfl) <|
  am_fc (ok_iconst dX9_settle_4 (by decide) rfl) <|
  am_fc (ok_aald (by decide) (by decide) dX9_settle_5 rfl) <|
  am_fc (ok_aload_n dX9_settle_6 rfl rfl) <|
  am_fc (ok_getI cl_8 (by decide) rfl dX9_settle_7 w1_42 rfl) <|
  am_fc (ok_iload_n dX9_settle_10 rfl rfl) <|
  am_fc (ok_iast dX9_settle_11 rfl) <|
  am_fc (ok_aload_n dX9_settle_12 rfl rfl) <|
  am_fc (ok_getR cl_8 (by decide) rfl dX9_settle_13 w1_43 rfl) <|
  am_fc (ok_iconst dX9_settle_16 (by decide) rfl) <|
  am_fc (ok_aald (by decide) (by decide) dX9_settle_17 rfl) <|
  am_fc (ok_aload_n dX9_settle_18 rfl rfl) <|
  am_fc (ok_getI cl_8 (by decide) rfl dX9_settle_19 w1_42 rfl) <|
  am_fc (ok_iload_n dX9_settle_22 rfl rfl) <|
  am_fc (ok_iast dX9_settle_23 rfl) <|
  am_fc (ok_aload_n dX9_settle_24 rfl rfl) <|
  am_fc (ok_getR cl_8 (by decide) rfl dX9_settle_25 w1_43 rfl) <|
  am_fc (ok_iconst dX9_settle_28 (by decide) rfl) <|
  am_fc (ok_aald (by decide) (by decide) dX9_settle_29 rfl) <|
  am_fc (ok_aload_n dX9_settle_30 rfl rfl) <|
  am_fc (ok_getI cl_8 (by decide) rfl dX9_settle_31 w1_42 rfl) <|
  am_fc (ok_iload_n dX9_settle_34 rfl rfl) <|
  am_fc (ok_iast dX9_settle_35 rfl) <|
  am_fc (ok_aload_n dX9_settle_36 rfl rfl) <|
  am_fc (ok_getR cl_8 (by decide) rfl dX9_settle_37 w1_37 rfl) <|
  am_fc (ok_iconst dX9_settle_40 (by decide) rfl) <|
  am_fc (ok_aald (by decide) (by decide) dX9_settle_41 rfl) <|
  am_fc (ok_aload_n dX9_settle_42 rfl rfl) <|
  am_fc (ok_getI cl_8 (by decide) rfl dX9_settle_43 w1_42 rfl) <|
  am_fc (ok_iload dX9_settle_46 rfl) <|
  am_fc (ok_iast dX9_settle_48 rfl) <|
  am_fc (ok_aload_n dX9_settle_49 rfl rfl) <|
  am_fc (ok_getR cl_8 (by decide) rfl dX9_settle_50 w1_37 rfl) <|
  am_fc (ok_iconst dX9_settle_53 (by decide) rfl) <|
  am_fc (ok_aald (by decide) (by decide) dX9_settle_54 rfl) <|
  am_fc (ok_aload_n dX9_settle_55 rfl rfl) <|
  am_fc (ok_getI cl_8 (by decide) rfl dX9_settle_56 w1_42 rfl) <|
  am_fc (ok_iload dX9_settle_59 rfl) <|
  am_fc (ok_iast dX9_settle_61 rfl) <|
  am_fc (ok_aload_n dX9_settle_62 rfl rfl) <|
  am_fc (ok_getR cl_8 (by decide) rfl dX9_settle_63 w1_37 rfl) <|
  am_fc (ok_iconst dX9_settle_66 (by decide) rfl) <|
  am_fc (ok_aald (by decide) (by decide) dX9_settle_67 rfl) <|
  am_fc (ok_aload_n dX9_settle_68 rfl rfl) <|
  am_fc (ok_getI cl_8 (by decide) rfl dX9_settle_69 w1_42 rfl) <|
  am_fc (ok_bipush dX9_settle_72 (by decide) rfl) <|
  am_fc (ok_iast dX9_settle_74 rfl) <|
  am_fc (ok_aload_n dX9_settle_75 rfl rfl) <|
  am_fc (ok_dup dX9_settle_76 rfl) <|
  am_fn
set_option maxRecDepth 100000 in
theorem ok_cd_X9_settle_1 (l : Launch) (D : va_G) (ad : Nat → Nat) (b0 : Nat) (Hb : Heap) : ∀ q ∈ cd_X9_settle_1, am_ok l D ad b0 Hb am_If yX9_settle cX9_settle 6 (some .int) q.1 q.2 :=
  am_fc (ok_getI cl_8 (by decide) rfl dX9_settle_77 w1_42 rfl) <|
  am_fc (ok_iconst dX9_settle_80 (by decide) rfl) <|
  am_fc (ok_iadd dX9_settle_81 rfl) <|
  am_fc (ok_putI cl_8 (by decide) rfl (Or.inl rfl) dX9_settle_82 w1_42 rfl) <|
  am_fc (ok_aload_n dX9_settle_85 rfl rfl) <|
  am_fc (ok_getI cl_8 (by decide) rfl dX9_settle_86 w1_42 rfl) <|
  am_fc (ok_iconst dX9_settle_89 (by decide) rfl) <|
  am_fc (ok_isub dX9_settle_90 rfl) <|
  am_fc (ok_iret rfl dX9_settle_91) <|
  am_fn
theorem ok_cd_X9_settle (l : Launch) (D : va_G) (ad : Nat → Nat) (b0 : Nat) (Hb : Heap) : ∀ q ∈ cd_X9_settle, am_ok l D ad b0 Hb am_If yX9_settle cX9_settle 6 (some .int) q.1 q.2 := am_fa (ok_cd_X9_settle_0 l D ad b0 Hb) (ok_cd_X9_settle_1 l D ad b0 Hb)
set_option maxRecDepth 100000 in
theorem ok_cd_X9_placesAt_0 (l : Launch) (D : va_G) (ad : Nat → Nat) (b0 : Nat) (Hb : Heap) : ∀ q ∈ cd_X9_placesAt_0, am_ok l D ad b0 Hb am_If yX9_placesAt cX9_placesAt 3 (some ((.array .int))) q.1 q.2 :=
  am_fc (ok_iload_n dX9_placesAt_0 rfl rfl) <|
  am_fc (ok_bipush dX9_placesAt_1 (by decide) rfl) <|
  am_fc (ok_irem dX9_placesAt_3 rfl) <|
  am_fc (ok_istore_n dX9_placesAt_4 rfl rfl) <|
  am_fc (ok_iload_n dX9_placesAt_5 rfl rfl) <|
  am_fc (ok_bipush dX9_placesAt_6 (by decide) rfl) <|
  am_fc (ok_clt dX9_placesAt_8 (by decide) rfl) <|
  am_fc (ok_iload_n dX9_placesAt_11 rfl rfl) <|
  am_fc (ok_bipush dX9_placesAt_12 (by decide) rfl) <|
  am_fc (ok_cgt dX9_placesAt_14 (by decide) rfl) <|
  am_fc (ok_aload_n dX9_placesAt_17 rfl rfl) <|
  am_fc (ok_getR cl_8 (by decide) rfl dX9_placesAt_18 w1_43 rfl) <|
  am_fc (ok_iconst dX9_placesAt_21 (by decide) rfl) <|
  am_fc (ok_aald (by decide) (by decide) dX9_placesAt_22 rfl) <|
  am_fc (ok_aret rfl dX9_placesAt_23) <|
  am_fc (ok_iload_n dX9_placesAt_24 rfl rfl) <|
  am_fc (ok_bipush dX9_placesAt_25 (by decide) rfl) <|
  am_fc (ok_clt dX9_placesAt_27 (by decide) rfl) <|
  am_fc (ok_iload_n dX9_placesAt_30 rfl rfl) <|
  am_fc (ok_bipush dX9_placesAt_31 (by decide) rfl) <|
  am_fc (ok_cgt dX9_placesAt_33 (by decide) rfl) <|
  am_fc (ok_aload_n dX9_placesAt_36 rfl rfl) <|
  am_fc (ok_getR cl_8 (by decide) rfl dX9_placesAt_37 w1_43 rfl) <|
  am_fc (ok_iconst dX9_placesAt_40 (by decide) rfl) <|
  am_fc (ok_aald (by decide) (by decide) dX9_placesAt_41 rfl) <|
  am_fc (ok_goto dX9_placesAt_42 (by decide)) <|
  am_fc (ok_aload_n dX9_placesAt_45 rfl rfl) <|
  am_fc (ok_getR cl_8 (by decide) rfl dX9_placesAt_46 w1_43 rfl) <|
  am_fc (ok_iconst dX9_placesAt_49 (by decide) rfl) <|
  am_fc (ok_aald (by decide) (by decide) dX9_placesAt_50 rfl) <|
  am_fc (ok_aret rfl dX9_placesAt_51) <|
  am_fn
theorem ok_cd_X9_placesAt (l : Launch) (D : va_G) (ad : Nat → Nat) (b0 : Nat) (Hb : Heap) : ∀ q ∈ cd_X9_placesAt, am_ok l D ad b0 Hb am_If yX9_placesAt cX9_placesAt 3 (some ((.array .int))) q.1 q.2 := ok_cd_X9_placesAt_0 l D ad b0 Hb
set_option maxRecDepth 100000 in
theorem ok_cd_X9_passHours_0 (l : Launch) (D : va_G) (ad : Nat → Nat) (b0 : Nat) (Hb : Heap) : ∀ q ∈ cd_X9_passHours_0, am_ok l D ad b0 Hb am_If yX9_passHours cX9_passHours 5 (none) q.1 q.2 :=
  am_fc (ok_iconst dX9_passHours_0 (by decide) rfl) <|
  am_fc (ok_istore dX9_passHours_1 rfl) <|
  am_fc (ok_iload dX9_passHours_3 rfl) <|
  am_fc (ok_iload_n dX9_passHours_5 rfl rfl) <|
  am_fc (ok_cge dX9_passHours_6 (by decide) rfl) <|
  am_fc (ok_aload_n dX9_passHours_9 rfl rfl) <|
  am_fc (ok_aload_n dX9_passHours_10 rfl rfl) <|
  am_fc (ok_iload_n dX9_passHours_11 rfl rfl) <|
  am_fc (ok_iload dX9_passHours_12 rfl) <|
  am_fc (ok_iadd dX9_passHours_14 rfl) <|
  am_fc (ok_invV (i := ii_X9_passHour) rfl (Or.inr ⟨_, rfl, by decide, rfl⟩) mm_X9_passHour dX9_passHours_15 w2_153 rfl) <|
  am_fc (ok_pop dX9_passHours_18 rfl) <|
  am_fc (ok_iinc dX9_passHours_19 (by decide) rfl) <|
  am_fc (ok_goto dX9_passHours_22 (by decide)) <|
  am_fc (ok_vret rfl dX9_passHours_25) <|
  am_fn
theorem ok_cd_X9_passHours (l : Launch) (D : va_G) (ad : Nat → Nat) (b0 : Nat) (Hb : Heap) : ∀ q ∈ cd_X9_passHours, am_ok l D ad b0 Hb am_If yX9_passHours cX9_passHours 5 (none) q.1 q.2 := ok_cd_X9_passHours_0 l D ad b0 Hb
set_option maxRecDepth 100000 in
theorem ok_cd_X9_passHour_0 (l : Launch) (D : va_G) (ad : Nat → Nat) (b0 : Nat) (Hb : Heap) : ∀ q ∈ cd_X9_passHour_0, am_ok l D ad b0 Hb am_If yX9_passHour cX9_passHour 7 (some .int) q.1 q.2 :=
  am_fc (ok_aload_n dX9_passHour_0 rfl rfl) <|
  am_fc (ok_iload_n dX9_passHour_1 rfl rfl) <|
  am_fc (ok_invV (i := ii_X9_placesAt) rfl (Or.inr ⟨_, rfl, by decide, rfl⟩) mm_X9_placesAt dX9_passHour_2 w2_157 rfl) <|
  am_fc (ok_astore_n dX9_passHour_5 rfl rfl) <|
  am_fc (ok_aload_n dX9_passHour_6 rfl rfl) <|
  am_fc (ok_aload_n dX9_passHour_7 rfl rfl) <|
  am_fc (ok_aload_n dX9_passHour_8 rfl rfl) <|
  am_fc (ok_invV (i := ii_X9_listen) rfl (Or.inr ⟨_, rfl, by decide, rfl⟩) mm_X9_listen dX9_passHour_9 w2_158 rfl) <|
  am_fc (ok_istore dX9_passHour_12 rfl) <|
  am_fc (ok_iconst dX9_passHour_14 (by decide) rfl) <|
  am_fc (ok_istore dX9_passHour_15 rfl) <|
  am_fc (ok_iload dX9_passHour_17 rfl) <|
  am_fc (ok_aload_n dX9_passHour_19 rfl rfl) <|
  am_fc (ok_getI cl_8 (by decide) rfl dX9_passHour_20 w1_42 rfl) <|
  am_fc (ok_cge dX9_passHour_23 (by decide) rfl) <|
  am_fc (ok_aload_n dX9_passHour_26 rfl rfl) <|
  am_fc (ok_getR cl_8 (by decide) rfl dX9_passHour_27 w1_44 rfl) <|
  am_fc (ok_aload_n dX9_passHour_30 rfl rfl) <|
  am_fc (ok_iload dX9_passHour_31 rfl) <|
  am_fc (ok_iald dX9_passHour_33 rfl) <|
  am_fc (ok_iald dX9_passHour_34 rfl) <|
  am_fc (ok_iconst dX9_passHour_35 (by decide) rfl) <|
  am_fc (ok_iload dX9_passHour_36 rfl) <|
  am_fc (ok_ishl dX9_passHour_38 rfl) <|
  am_fc (ok_iconst dX9_passHour_39 (by decide) rfl) <|
  am_fc (ok_ixor dX9_passHour_40 rfl) <|
  am_fc (ok_iand dX9_passHour_41 rfl) <|
  am_fc (ok_istore dX9_passHour_42 rfl) <|
  am_fc (ok_iload dX9_passHour_44 rfl) <|
  am_fc (ok_ifeq dX9_passHour_46 (by decide) rfl) <|
  am_fc (ok_aload_n dX9_passHour_49 rfl rfl) <|
  am_fc (ok_aload_n dX9_passHour_50 rfl rfl) <|
  am_fc (ok_iload dX9_passHour_51 rfl) <|
  am_fc (ok_iload dX9_passHour_53 rfl) <|
  am_fc (ok_iload_n dX9_passHour_55 rfl rfl) <|
  am_fc (ok_invV (i := ii_X9_hear) rfl (Or.inr ⟨_, rfl, by decide, rfl⟩) mm_X9_hear dX9_passHour_56 w2_167 rfl) <|
  am_fc (ok_goto dX9_passHour_59 (by decide)) <|
  am_fc (ok_aload_n dX9_passHour_62 rfl rfl) <|
  am_fc (ok_aload_n dX9_passHour_63 rfl rfl) <|
  am_fc (ok_iload dX9_passHour_64 rfl) <|
  am_fc (ok_iload_n dX9_passHour_66 rfl rfl) <|
  am_fc (ok_invV (i := ii_X9_fade) rfl (Or.inr ⟨_, rfl, by decide, rfl⟩) mm_X9_fade dX9_passHour_67 w2_189 rfl) <|
  am_fc (ok_iinc dX9_passHour_70 (by decide) rfl) <|
  am_fc (ok_goto dX9_passHour_73 (by decide)) <|
  am_fc (ok_iload dX9_passHour_76 rfl) <|
  am_fc (ok_iret rfl dX9_passHour_78) <|
  am_fn
theorem ok_cd_X9_passHour (l : Launch) (D : va_G) (ad : Nat → Nat) (b0 : Nat) (Hb : Heap) : ∀ q ∈ cd_X9_passHour, am_ok l D ad b0 Hb am_If yX9_passHour cX9_passHour 7 (some .int) q.1 q.2 := ok_cd_X9_passHour_0 l D ad b0 Hb
set_option maxRecDepth 100000 in
theorem ok_cd_X9_listen_0 (l : Launch) (D : va_G) (ad : Nat → Nat) (b0 : Nat) (Hb : Heap) : ∀ q ∈ cd_X9_listen_0, am_ok l D ad b0 Hb am_If yX9_listen cX9_listen 5 (some .int) q.1 q.2 :=
  am_fc (ok_iconst dX9_listen_0 (by decide) rfl) <|
  am_fc (ok_istore_n dX9_listen_1 rfl rfl) <|
  am_fc (ok_iload_n dX9_listen_2 rfl rfl) <|
  am_fc (ok_bipush dX9_listen_3 (by decide) rfl) <|
  am_fc (ok_cge dX9_listen_5 (by decide) rfl) <|
  am_fc (ok_aload_n dX9_listen_8 rfl rfl) <|
  am_fc (ok_getR cl_8 (by decide) rfl dX9_listen_9 w1_44 rfl) <|
  am_fc (ok_iload_n dX9_listen_12 rfl rfl) <|
  am_fc (ok_iconst dX9_listen_13 (by decide) rfl) <|
  am_fc (ok_iast dX9_listen_14 rfl) <|
  am_fc (ok_iinc dX9_listen_15 (by decide) rfl) <|
  am_fc (ok_goto dX9_listen_18 (by decide)) <|
  am_fc (ok_iconst dX9_listen_21 (by decide) rfl) <|
  am_fc (ok_istore_n dX9_listen_22 rfl rfl) <|
  am_fc (ok_iconst dX9_listen_23 (by decide) rfl) <|
  am_fc (ok_istore dX9_listen_24 rfl) <|
  am_fc (ok_iload dX9_listen_26 rfl) <|
  am_fc (ok_aload_n dX9_listen_28 rfl rfl) <|
  am_fc (ok_getI cl_8 (by decide) rfl dX9_listen_29 w1_42 rfl) <|
  am_fc (ok_cge dX9_listen_32 (by decide) rfl) <|
  am_fc (ok_aload_n dX9_listen_35 rfl rfl) <|
  am_fc (ok_getR cl_6 (by decide) rfl dX9_listen_36 w1_67 rfl) <|
  am_fc (ok_iload dX9_listen_39 rfl) <|
  am_fc (ok_iald dX9_listen_41 rfl) <|
  am_fc (ok_iconst dX9_listen_42 (by decide) rfl) <|
  am_fc (ok_cne dX9_listen_43 (by decide) rfl) <|
  am_fc (ok_aload_n dX9_listen_46 rfl rfl) <|
  am_fc (ok_getR cl_8 (by decide) rfl dX9_listen_47 w1_37 rfl) <|
  am_fc (ok_iconst dX9_listen_50 (by decide) rfl) <|
  am_fc (ok_aald (by decide) (by decide) dX9_listen_51 rfl) <|
  am_fc (ok_iload dX9_listen_52 rfl) <|
  am_fc (ok_iald dX9_listen_54 rfl) <|
  am_fc (ok_aload_n dX9_listen_55 rfl rfl) <|
  am_fc (ok_aload_n dX9_listen_56 rfl rfl) <|
  am_fc (ok_getR cl_6 (by decide) rfl dX9_listen_57 w1_73 rfl) <|
  am_fc (ok_iload dX9_listen_60 rfl) <|
  am_fc (ok_iald dX9_listen_62 rfl) <|
  am_fc (ok_invV (i := ii_X9_weightOf) rfl (Or.inr ⟨_, rfl, by decide, rfl⟩) mm_X9_weightOf dX9_listen_63 w2_162 rfl) <|
  am_fc (ok_imul dX9_listen_66 rfl) <|
  am_fc (ok_bipush dX9_listen_67 (by decide) rfl) <|
  am_fc (ok_clt dX9_listen_69 (by decide) rfl) <|
  am_fc (ok_aload_n dX9_listen_72 rfl rfl) <|
  am_fc (ok_getR cl_8 (by decide) rfl dX9_listen_73 w1_44 rfl) <|
  am_fc (ok_aload_n dX9_listen_76 rfl rfl) <|
  am_fc (ok_iload dX9_listen_77 rfl) <|
  am_fc (ok_iald dX9_listen_79 rfl) <|
  am_fc (ok_dup2 dX9_listen_80 rfl) <|
  am_fc (ok_iald dX9_listen_81 rfl) <|
  am_fc (ok_iconst dX9_listen_82 (by decide) rfl) <|
  am_fc (ok_iload dX9_listen_83 rfl) <|
  am_fn
set_option maxRecDepth 100000 in
theorem ok_cd_X9_listen_1 (l : Launch) (D : va_G) (ad : Nat → Nat) (b0 : Nat) (Hb : Heap) : ∀ q ∈ cd_X9_listen_1, am_ok l D ad b0 Hb am_If yX9_listen cX9_listen 5 (some .int) q.1 q.2 :=
  am_fc (ok_ishl dX9_listen_85 rfl) <|
  am_fc (ok_ior dX9_listen_86 rfl) <|
  am_fc (ok_iast dX9_listen_87 rfl) <|
  am_fc (ok_iload_n dX9_listen_88 rfl rfl) <|
  am_fc (ok_iconst dX9_listen_89 (by decide) rfl) <|
  am_fc (ok_aload_n dX9_listen_90 rfl rfl) <|
  am_fc (ok_iload dX9_listen_91 rfl) <|
  am_fc (ok_iald dX9_listen_93 rfl) <|
  am_fc (ok_ishl dX9_listen_94 rfl) <|
  am_fc (ok_ior dX9_listen_95 rfl) <|
  am_fc (ok_istore_n dX9_listen_96 rfl rfl) <|
  am_fc (ok_iinc dX9_listen_97 (by decide) rfl) <|
  am_fc (ok_goto dX9_listen_100 (by decide)) <|
  am_fc (ok_iload_n dX9_listen_103 rfl rfl) <|
  am_fc (ok_iret rfl dX9_listen_104) <|
  am_fn
theorem ok_cd_X9_listen (l : Launch) (D : va_G) (ad : Nat → Nat) (b0 : Nat) (Hb : Heap) : ∀ q ∈ cd_X9_listen, am_ok l D ad b0 Hb am_If yX9_listen cX9_listen 5 (some .int) q.1 q.2 := am_fa (ok_cd_X9_listen_0 l D ad b0 Hb) (ok_cd_X9_listen_1 l D ad b0 Hb)
set_option maxRecDepth 100000 in
theorem ok_cd_X9_hear_0 (l : Launch) (D : va_G) (ad : Nat → Nat) (b0 : Nat) (Hb : Heap) : ∀ q ∈ cd_X9_hear_0, am_ok l D ad b0 Hb am_If yX9_hear cX9_hear 7 (none) q.1 q.2 :=
  am_fc (ok_aload_n dX9_hear_0 rfl rfl) <|
  am_fc (ok_getR cl_6 (by decide) rfl dX9_hear_1 w1_78 rfl) <|
  am_fc (ok_iload_n dX9_hear_4 rfl rfl) <|
  am_fc (ok_iload dX9_hear_5 rfl) <|
  am_fc (ok_iast dX9_hear_7 rfl) <|
  am_fc (ok_aload_n dX9_hear_8 rfl rfl) <|
  am_fc (ok_getR cl_6 (by decide) rfl dX9_hear_9 w1_67 rfl) <|
  am_fc (ok_iload_n dX9_hear_12 rfl rfl) <|
  am_fc (ok_iald dX9_hear_13 rfl) <|
  am_fc (ok_iconst dX9_hear_14 (by decide) rfl) <|
  am_fc (ok_cne dX9_hear_15 (by decide) rfl) <|
  am_fc (ok_vret rfl dX9_hear_18) <|
  am_fc (ok_aload_n dX9_hear_19 rfl rfl) <|
  am_fc (ok_getR cl_8 (by decide) rfl dX9_hear_20 w1_37 rfl) <|
  am_fc (ok_iconst dX9_hear_23 (by decide) rfl) <|
  am_fc (ok_aald (by decide) (by decide) dX9_hear_24 rfl) <|
  am_fc (ok_iload_n dX9_hear_25 rfl rfl) <|
  am_fc (ok_iald dX9_hear_26 rfl) <|
  am_fc (ok_iconst dX9_hear_27 (by decide) rfl) <|
  am_fc (ok_iload_n dX9_hear_28 rfl rfl) <|
  am_fc (ok_invS (i := ii_J6_bitCount_0f7a4) rfl mm_J6_bitCount_0f7a4 dX9_hear_29 w2_171 rfl) <|
  am_fc (ok_imul dX9_hear_32 rfl) <|
  am_fc (ok_iadd dX9_hear_33 rfl) <|
  am_fc (ok_aload_n dX9_hear_34 rfl rfl) <|
  am_fc (ok_getR cl_8 (by decide) rfl dX9_hear_35 w1_37 rfl) <|
  am_fc (ok_iconst dX9_hear_38 (by decide) rfl) <|
  am_fc (ok_aald (by decide) (by decide) dX9_hear_39 rfl) <|
  am_fc (ok_iload_n dX9_hear_40 rfl rfl) <|
  am_fc (ok_iald dX9_hear_41 rfl) <|
  am_fc (ok_cle dX9_hear_42 (by decide) rfl) <|
  am_fc (ok_iconst dX9_hear_45 (by decide) rfl) <|
  am_fc (ok_goto dX9_hear_46 (by decide)) <|
  am_fc (ok_iconst dX9_hear_49 (by decide) rfl) <|
  am_fc (ok_istore dX9_hear_50 rfl) <|
  am_fc (ok_aload_n dX9_hear_52 rfl rfl) <|
  am_fc (ok_iload_n dX9_hear_53 rfl rfl) <|
  am_fc (ok_invV (i := ii_X7_isNewTo) rfl (Or.inr ⟨_, rfl, by decide, rfl⟩) mm_X7_isNewTo dX9_hear_54 w2_177 rfl) <|
  am_fc (ok_ifeq dX9_hear_57 (by decide) rfl) <|
  am_fc (ok_iload_n dX9_hear_60 rfl rfl) <|
  am_fc (ok_invS (i := ii_X9_leastOf) rfl mm_X9_leastOf dX9_hear_61 w2_181 rfl) <|
  am_fc (ok_istore dX9_hear_64 rfl) <|
  am_fc (ok_aload_n dX9_hear_66 rfl rfl) <|
  am_fc (ok_iload_n dX9_hear_67 rfl rfl) <|
  am_fc (ok_aload_n dX9_hear_68 rfl rfl) <|
  am_fc (ok_getR cl_6 (by decide) rfl dX9_hear_69 w1_73 rfl) <|
  am_fc (ok_iload dX9_hear_72 rfl) <|
  am_fc (ok_iald dX9_hear_74 rfl) <|
  am_fc (ok_aload_n dX9_hear_75 rfl rfl) <|
  am_fc (ok_getR cl_8 (by decide) rfl dX9_hear_76 w1_37 rfl) <|
  am_fc (ok_iconst dX9_hear_79 (by decide) rfl) <|
  am_fn
set_option maxRecDepth 100000 in
theorem ok_cd_X9_hear_1 (l : Launch) (D : va_G) (ad : Nat → Nat) (b0 : Nat) (Hb : Heap) : ∀ q ∈ cd_X9_hear_1, am_ok l D ad b0 Hb am_If yX9_hear cX9_hear 7 (none) q.1 q.2 :=
  am_fc (ok_aald (by decide) (by decide) dX9_hear_80 rfl) <|
  am_fc (ok_iload dX9_hear_81 rfl) <|
  am_fc (ok_iald dX9_hear_83 rfl) <|
  am_fc (ok_invS (i := ii_X2_asTold) rfl mm_X2_asTold dX9_hear_84 w2_184 rfl) <|
  am_fc (ok_iload dX9_hear_87 rfl) <|
  am_fc (ok_invV (i := ii_X7_take) rfl (Or.inr ⟨_, rfl, by decide, rfl⟩) mm_X7_take dX9_hear_89 w2_187 rfl) <|
  am_fc (ok_aload_n dX9_hear_92 rfl rfl) <|
  am_fc (ok_iload_n dX9_hear_93 rfl rfl) <|
  am_fc (ok_iload dX9_hear_94 rfl) <|
  am_fc (ok_ifeq dX9_hear_96 (by decide) rfl) <|
  am_fc (ok_iconst dX9_hear_99 (by decide) rfl) <|
  am_fc (ok_goto dX9_hear_100 (by decide)) <|
  am_fc (ok_iconst dX9_hear_103 (by decide) rfl) <|
  am_fc (ok_iload dX9_hear_104 rfl) <|
  am_fc (ok_invV (i := ii_X7_turn) rfl (Or.inr ⟨_, rfl, by decide, rfl⟩) mm_X7_turn dX9_hear_106 w2_188 rfl) <|
  am_fc (ok_goto dX9_hear_109 (by decide)) <|
  am_fc (ok_iload dX9_hear_112 rfl) <|
  am_fc (ok_ifeq dX9_hear_114 (by decide) rfl) <|
  am_fc (ok_aload_n dX9_hear_117 rfl rfl) <|
  am_fc (ok_iload_n dX9_hear_118 rfl rfl) <|
  am_fc (ok_iconst dX9_hear_119 (by decide) rfl) <|
  am_fc (ok_iload dX9_hear_120 rfl) <|
  am_fc (ok_invV (i := ii_X7_turn) rfl (Or.inr ⟨_, rfl, by decide, rfl⟩) mm_X7_turn dX9_hear_122 w2_188 rfl) <|
  am_fc (ok_vret rfl dX9_hear_125) <|
  am_fn
theorem ok_cd_X9_hear (l : Launch) (D : va_G) (ad : Nat → Nat) (b0 : Nat) (Hb : Heap) : ∀ q ∈ cd_X9_hear, am_ok l D ad b0 Hb am_If yX9_hear cX9_hear 7 (none) q.1 q.2 := am_fa (ok_cd_X9_hear_0 l D ad b0 Hb) (ok_cd_X9_hear_1 l D ad b0 Hb)
set_option maxRecDepth 100000 in
theorem ok_cd_X9_fade_0 (l : Launch) (D : va_G) (ad : Nat → Nat) (b0 : Nat) (Hb : Heap) : ∀ q ∈ cd_X9_fade_0, am_ok l D ad b0 Hb am_If yX9_fade cX9_fade 4 (none) q.1 q.2 :=
  am_fc (ok_aload_n dX9_fade_0 rfl rfl) <|
  am_fc (ok_iload_n dX9_fade_1 rfl rfl) <|
  am_fc (ok_invV (i := ii_X7_isNewTo) rfl (Or.inr ⟨_, rfl, by decide, rfl⟩) mm_X7_isNewTo dX9_fade_2 w2_177 rfl) <|
  am_fc (ok_ifne dX9_fade_5 (by decide) rfl) <|
  am_fc (ok_iload_n dX9_fade_8 rfl rfl) <|
  am_fc (ok_aload_n dX9_fade_9 rfl rfl) <|
  am_fc (ok_getR cl_6 (by decide) rfl dX9_fade_10 w1_78 rfl) <|
  am_fc (ok_iload_n dX9_fade_13 rfl rfl) <|
  am_fc (ok_iald dX9_fade_14 rfl) <|
  am_fc (ok_isub dX9_fade_15 rfl) <|
  am_fc (ok_bipush dX9_fade_16 (by decide) rfl) <|
  am_fc (ok_clt dX9_fade_18 (by decide) rfl) <|
  am_fc (ok_aload_n dX9_fade_21 rfl rfl) <|
  am_fc (ok_iload_n dX9_fade_22 rfl rfl) <|
  am_fc (ok_iconst dX9_fade_23 (by decide) rfl) <|
  am_fc (ok_iload_n dX9_fade_24 rfl rfl) <|
  am_fc (ok_invV (i := ii_X7_turn) rfl (Or.inr ⟨_, rfl, by decide, rfl⟩) mm_X7_turn dX9_fade_25 w2_188 rfl) <|
  am_fc (ok_vret rfl dX9_fade_28) <|
  am_fn
theorem ok_cd_X9_fade (l : Launch) (D : va_G) (ad : Nat → Nat) (b0 : Nat) (Hb : Heap) : ∀ q ∈ cd_X9_fade, am_ok l D ad b0 Hb am_If yX9_fade cX9_fade 4 (none) q.1 q.2 := ok_cd_X9_fade_0 l D ad b0 Hb
set_option maxRecDepth 100000 in
theorem ok_cd_X9_leastOf_0 (l : Launch) (D : va_G) (ad : Nat → Nat) (b0 : Nat) (Hb : Heap) : ∀ q ∈ cd_X9_leastOf_0, am_ok l D ad b0 Hb am_If yX9_leastOf cX9_leastOf 1 (some .int) q.1 q.2 :=
  am_fc (ok_iload_n dX9_leastOf_0 rfl rfl) <|
  am_fc (ok_iload_n dX9_leastOf_1 rfl rfl) <|
  am_fc (ok_ineg dX9_leastOf_2 rfl) <|
  am_fc (ok_iand dX9_leastOf_3 rfl) <|
  am_fc (ok_iconst dX9_leastOf_4 (by decide) rfl) <|
  am_fc (ok_isub dX9_leastOf_5 rfl) <|
  am_fc (ok_invS (i := ii_J6_bitCount_0f7a4) rfl mm_J6_bitCount_0f7a4 dX9_leastOf_6 w2_171 rfl) <|
  am_fc (ok_iret rfl dX9_leastOf_9) <|
  am_fn
theorem ok_cd_X9_leastOf (l : Launch) (D : va_G) (ad : Nat → Nat) (b0 : Nat) (Hb : Heap) : ∀ q ∈ cd_X9_leastOf, am_ok l D ad b0 Hb am_If yX9_leastOf cX9_leastOf 1 (some .int) q.1 q.2 := ok_cd_X9_leastOf_0 l D ad b0 Hb
set_option maxRecDepth 100000 in
theorem ok_cd_X9_weightOf_0 (l : Launch) (D : va_G) (ad : Nat → Nat) (b0 : Nat) (Hb : Heap) : ∀ q ∈ cd_X9_weightOf_0, am_ok l D ad b0 Hb am_If yX9_weightOf cX9_weightOf 2 (some .int) q.1 q.2 :=
  am_fc (ok_aload_n dX9_weightOf_0 rfl rfl) <|
  am_fc (ok_getR cl_8 (by decide) rfl dX9_weightOf_1 w1_39 rfl) <|
  am_fc (ok_iload_n dX9_weightOf_4 rfl rfl) <|
  am_fc (ok_iconst dX9_weightOf_5 (by decide) rfl) <|
  am_fc (ok_invS (i := ii_X2_at) rfl mm_X2_at dX9_weightOf_6 w2_166 rfl) <|
  am_fc (ok_iald dX9_weightOf_9 rfl) <|
  am_fc (ok_iret rfl dX9_weightOf_10) <|
  am_fn
theorem ok_cd_X9_weightOf (l : Launch) (D : va_G) (ad : Nat → Nat) (b0 : Nat) (Hb : Heap) : ∀ q ∈ cd_X9_weightOf, am_ok l D ad b0 Hb am_If yX9_weightOf cX9_weightOf 2 (some .int) q.1 q.2 := ok_cd_X9_weightOf_0 l D ad b0 Hb
set_option maxRecDepth 100000 in
theorem ok_cd_X9_harmOf_0 (l : Launch) (D : va_G) (ad : Nat → Nat) (b0 : Nat) (Hb : Heap) : ∀ q ∈ cd_X9_harmOf_0, am_ok l D ad b0 Hb am_If yX9_harmOf cX9_harmOf 4 (some .int) q.1 q.2 :=
  am_fc (ok_iconst dX9_harmOf_0 (by decide) rfl) <|
  am_fc (ok_istore_n dX9_harmOf_1 rfl rfl) <|
  am_fc (ok_iconst dX9_harmOf_2 (by decide) rfl) <|
  am_fc (ok_istore_n dX9_harmOf_3 rfl rfl) <|
  am_fc (ok_iload_n dX9_harmOf_4 rfl rfl) <|
  am_fc (ok_aload_n dX9_harmOf_5 rfl rfl) <|
  am_fc (ok_getI cl_8 (by decide) rfl dX9_harmOf_6 w1_42 rfl) <|
  am_fc (ok_cge dX9_harmOf_9 (by decide) rfl) <|
  am_fc (ok_aload_n dX9_harmOf_12 rfl rfl) <|
  am_fc (ok_getR cl_6 (by decide) rfl dX9_harmOf_13 w1_67 rfl) <|
  am_fc (ok_iload_n dX9_harmOf_16 rfl rfl) <|
  am_fc (ok_iald dX9_harmOf_17 rfl) <|
  am_fc (ok_iconst dX9_harmOf_18 (by decide) rfl) <|
  am_fc (ok_cne dX9_harmOf_19 (by decide) rfl) <|
  am_fc (ok_iload_n dX9_harmOf_22 rfl rfl) <|
  am_fc (ok_aload_n dX9_harmOf_23 rfl rfl) <|
  am_fc (ok_aload_n dX9_harmOf_24 rfl rfl) <|
  am_fc (ok_getR cl_6 (by decide) rfl dX9_harmOf_25 w1_73 rfl) <|
  am_fc (ok_iload_n dX9_harmOf_28 rfl rfl) <|
  am_fc (ok_iald dX9_harmOf_29 rfl) <|
  am_fc (ok_invV (i := ii_X9_weightOf) rfl (Or.inr ⟨_, rfl, by decide, rfl⟩) mm_X9_weightOf dX9_harmOf_30 w2_162 rfl) <|
  am_fc (ok_iadd dX9_harmOf_33 rfl) <|
  am_fc (ok_istore_n dX9_harmOf_34 rfl rfl) <|
  am_fc (ok_iinc dX9_harmOf_35 (by decide) rfl) <|
  am_fc (ok_goto dX9_harmOf_38 (by decide)) <|
  am_fc (ok_iload_n dX9_harmOf_41 rfl rfl) <|
  am_fc (ok_iret rfl dX9_harmOf_42) <|
  am_fn
theorem ok_cd_X9_harmOf (l : Launch) (D : va_G) (ad : Nat → Nat) (b0 : Nat) (Hb : Heap) : ∀ q ∈ cd_X9_harmOf, am_ok l D ad b0 Hb am_If yX9_harmOf cX9_harmOf 4 (some .int) q.1 q.2 := ok_cd_X9_harmOf_0 l D ad b0 Hb
set_option maxRecDepth 100000 in
theorem ok_cd_X9_print_0 (l : Launch) (D : va_G) (ad : Nat → Nat) (b0 : Nat) (Hb : Heap) : ∀ q ∈ cd_X9_print_0, am_ok l D ad b0 Hb am_If yX9_print cX9_print 9 (some .int) q.1 q.2 :=
  am_fc (ok_iconst dX9_print_0 (by decide) rfl) <|
  am_fc (ok_istore dX9_print_1 rfl) <|
  am_fc (ok_iconst dX9_print_3 (by decide) rfl) <|
  am_fc (ok_istore dX9_print_4 rfl) <|
  am_fc (ok_iload dX9_print_6 rfl) <|
  am_fc (ok_aload_n dX9_print_8 rfl rfl) <|
  am_fc (ok_getI cl_8 (by decide) rfl dX9_print_9 w1_42 rfl) <|
  am_fc (ok_cge dX9_print_12 (by decide) rfl) <|
  am_fc (ok_iload_n dX9_print_15 rfl rfl) <|
  am_fc (ok_iconst dX9_print_16 (by decide) rfl) <|
  am_fc (ok_cne dX9_print_17 (by decide) rfl) <|
  am_fc (ok_aload_n dX9_print_20 rfl rfl) <|
  am_fc (ok_iload dX9_print_21 rfl) <|
  am_fc (ok_invV (i := ii_X7_isNewTo) rfl (Or.inr ⟨_, rfl, by decide, rfl⟩) mm_X7_isNewTo dX9_print_23 w2_177 rfl) <|
  am_fc (ok_ifeq dX9_print_26 (by decide) rfl) <|
  am_fc (ok_iconst dX9_print_29 (by decide) rfl) <|
  am_fc (ok_goto dX9_print_30 (by decide)) <|
  am_fc (ok_iconst dX9_print_33 (by decide) rfl) <|
  am_fc (ok_istore dX9_print_34 rfl) <|
  am_fc (ok_aload_n dX9_print_36 rfl rfl) <|
  am_fc (ok_getR cl_8 (by decide) rfl dX9_print_37 w1_37 rfl) <|
  am_fc (ok_iconst dX9_print_40 (by decide) rfl) <|
  am_fc (ok_aald (by decide) (by decide) dX9_print_41 rfl) <|
  am_fc (ok_iload dX9_print_42 rfl) <|
  am_fc (ok_iald dX9_print_44 rfl) <|
  am_fc (ok_iconst dX9_print_45 (by decide) rfl) <|
  am_fc (ok_cne dX9_print_46 (by decide) rfl) <|
  am_fc (ok_iload dX9_print_49 rfl) <|
  am_fc (ok_ifne dX9_print_51 (by decide) rfl) <|
  am_fc (ok_aload_n dX9_print_54 rfl rfl) <|
  am_fc (ok_getR cl_6 (by decide) rfl dX9_print_55 w1_67 rfl) <|
  am_fc (ok_iload dX9_print_58 rfl) <|
  am_fc (ok_iald dX9_print_60 rfl) <|
  am_fc (ok_istore dX9_print_61 rfl) <|
  am_fc (ok_aload_n dX9_print_63 rfl rfl) <|
  am_fc (ok_aload_n dX9_print_64 rfl rfl) <|
  am_fc (ok_iload dX9_print_65 rfl) <|
  am_fc (ok_iload_n dX9_print_67 rfl rfl) <|
  am_fc (ok_gets (fun _ hU => hU.2.1.2.2.1) dX9_print_68 w2_217 rfl) <|
  am_fc (ok_iload_n dX9_print_71 rfl rfl) <|
  am_fc (ok_iald dX9_print_72 rfl) <|
  am_fc (ok_iload dX9_print_73 rfl) <|
  am_fc (ok_invV (i := ii_X9_readDenial) rfl (Or.inr ⟨_, rfl, by decide, rfl⟩) mm_X9_readDenial dX9_print_75 w2_219 rfl) <|
  am_fc (ok_aload_n dX9_print_78 rfl rfl) <|
  am_fc (ok_getR cl_6 (by decide) rfl dX9_print_79 w1_67 rfl) <|
  am_fc (ok_iload dX9_print_82 rfl) <|
  am_fc (ok_iald dX9_print_84 rfl) <|
  am_fc (ok_iload dX9_print_85 rfl) <|
  am_fc (ok_ceq dX9_print_87 (by decide) rfl) <|
  am_fc (ok_iinc dX9_print_90 (by decide) rfl) <|
  am_fn
set_option maxRecDepth 100000 in
theorem ok_cd_X9_print_1 (l : Launch) (D : va_G) (ad : Nat → Nat) (b0 : Nat) (Hb : Heap) : ∀ q ∈ cd_X9_print_1, am_ok l D ad b0 Hb am_If yX9_print cX9_print 9 (some .int) q.1 q.2 :=
  am_fc (ok_iinc dX9_print_93 (by decide) rfl) <|
  am_fc (ok_goto dX9_print_96 (by decide)) <|
  am_fc (ok_iload dX9_print_99 rfl) <|
  am_fc (ok_iret rfl dX9_print_101) <|
  am_fn
theorem ok_cd_X9_print (l : Launch) (D : va_G) (ad : Nat → Nat) (b0 : Nat) (Hb : Heap) : ∀ q ∈ cd_X9_print, am_ok l D ad b0 Hb am_If yX9_print cX9_print 9 (some .int) q.1 q.2 := am_fa (ok_cd_X9_print_0 l D ad b0 Hb) (ok_cd_X9_print_1 l D ad b0 Hb)
set_option maxRecDepth 100000 in
theorem ok_cd_X9_readDenial_0 (l : Launch) (D : va_G) (ad : Nat → Nat) (b0 : Nat) (Hb : Heap) : ∀ q ∈ cd_X9_readDenial_0, am_ok l D ad b0 Hb am_If yX9_readDenial cX9_readDenial 8 (none) q.1 q.2 :=
  am_fc (ok_aload_n dX9_readDenial_0 rfl rfl) <|
  am_fc (ok_getR cl_8 (by decide) rfl dX9_readDenial_1 w1_37 rfl) <|
  am_fc (ok_iconst dX9_readDenial_4 (by decide) rfl) <|
  am_fc (ok_aald (by decide) (by decide) dX9_readDenial_5 rfl) <|
  am_fc (ok_iload_n dX9_readDenial_6 rfl rfl) <|
  am_fc (ok_iald dX9_readDenial_7 rfl) <|
  am_fc (ok_istore dX9_readDenial_8 rfl) <|
  am_fc (ok_aload_n dX9_readDenial_10 rfl rfl) <|
  am_fc (ok_getR cl_8 (by decide) rfl dX9_readDenial_11 w1_37 rfl) <|
  am_fc (ok_iconst dX9_readDenial_14 (by decide) rfl) <|
  am_fc (ok_aald (by decide) (by decide) dX9_readDenial_15 rfl) <|
  am_fc (ok_iload_n dX9_readDenial_16 rfl rfl) <|
  am_fc (ok_iald dX9_readDenial_17 rfl) <|
  am_fc (ok_istore dX9_readDenial_18 rfl) <|
  am_fc (ok_aload_n dX9_readDenial_20 rfl rfl) <|
  am_fc (ok_getR cl_6 (by decide) rfl dX9_readDenial_21 w1_78 rfl) <|
  am_fc (ok_iload_n dX9_readDenial_24 rfl rfl) <|
  am_fc (ok_iload dX9_readDenial_25 rfl) <|
  am_fc (ok_iast dX9_readDenial_27 rfl) <|
  am_fc (ok_aload_n dX9_readDenial_28 rfl rfl) <|
  am_fc (ok_iload_n dX9_readDenial_29 rfl rfl) <|
  am_fc (ok_invV (i := ii_X7_isNewTo) rfl (Or.inr ⟨_, rfl, by decide, rfl⟩) mm_X7_isNewTo dX9_readDenial_30 w2_177 rfl) <|
  am_fc (ok_ifeq dX9_readDenial_33 (by decide) rfl) <|
  am_fc (ok_aload_n dX9_readDenial_36 rfl rfl) <|
  am_fc (ok_iload_n dX9_readDenial_37 rfl rfl) <|
  am_fc (ok_iload_n dX9_readDenial_38 rfl rfl) <|
  am_fc (ok_bipush dX9_readDenial_39 (by decide) rfl) <|
  am_fc (ok_invV (i := ii_X7_take) rfl (Or.inr ⟨_, rfl, by decide, rfl⟩) mm_X7_take dX9_readDenial_41 w2_187 rfl) <|
  am_fc (ok_aload_n dX9_readDenial_44 rfl rfl) <|
  am_fc (ok_iload_n dX9_readDenial_45 rfl rfl) <|
  am_fc (ok_bipush dX9_readDenial_46 (by decide) rfl) <|
  am_fc (ok_iload dX9_readDenial_48 rfl) <|
  am_fc (ok_imul dX9_readDenial_50 rfl) <|
  am_fc (ok_iload dX9_readDenial_51 rfl) <|
  am_fc (ok_cle dX9_readDenial_53 (by decide) rfl) <|
  am_fc (ok_iconst dX9_readDenial_56 (by decide) rfl) <|
  am_fc (ok_goto dX9_readDenial_57 (by decide)) <|
  am_fc (ok_iconst dX9_readDenial_60 (by decide) rfl) <|
  am_fc (ok_iload dX9_readDenial_61 rfl) <|
  am_fc (ok_invV (i := ii_X7_turn) rfl (Or.inr ⟨_, rfl, by decide, rfl⟩) mm_X7_turn dX9_readDenial_63 w2_188 rfl) <|
  am_fc (ok_goto dX9_readDenial_66 (by decide)) <|
  am_fc (ok_aload_n dX9_readDenial_69 rfl rfl) <|
  am_fc (ok_getR cl_6 (by decide) rfl dX9_readDenial_70 w1_67 rfl) <|
  am_fc (ok_iload_n dX9_readDenial_73 rfl rfl) <|
  am_fc (ok_iald dX9_readDenial_74 rfl) <|
  am_fc (ok_iconst dX9_readDenial_75 (by decide) rfl) <|
  am_fc (ok_cne dX9_readDenial_76 (by decide) rfl) <|
  am_fc (ok_iload dX9_readDenial_79 rfl) <|
  am_fc (ok_iload dX9_readDenial_81 rfl) <|
  am_fc (ok_imul dX9_readDenial_83 rfl) <|
  am_fn
set_option maxRecDepth 100000 in
theorem ok_cd_X9_readDenial_1 (l : Launch) (D : va_G) (ad : Nat → Nat) (b0 : Nat) (Hb : Heap) : ∀ q ∈ cd_X9_readDenial_1, am_ok l D ad b0 Hb am_If yX9_readDenial cX9_readDenial 8 (none) q.1 q.2 :=
  am_fc (ok_bipush dX9_readDenial_84 (by decide) rfl) <|
  am_fc (ok_iload dX9_readDenial_86 rfl) <|
  am_fc (ok_imul dX9_readDenial_88 rfl) <|
  am_fc (ok_cle dX9_readDenial_89 (by decide) rfl) <|
  am_fc (ok_aload_n dX9_readDenial_92 rfl rfl) <|
  am_fc (ok_iload_n dX9_readDenial_93 rfl rfl) <|
  am_fc (ok_iconst dX9_readDenial_94 (by decide) rfl) <|
  am_fc (ok_iload dX9_readDenial_95 rfl) <|
  am_fc (ok_invV (i := ii_X7_turn) rfl (Or.inr ⟨_, rfl, by decide, rfl⟩) mm_X7_turn dX9_readDenial_97 w2_188 rfl) <|
  am_fc (ok_vret rfl dX9_readDenial_100) <|
  am_fn
theorem ok_cd_X9_readDenial (l : Launch) (D : va_G) (ad : Nat → Nat) (b0 : Nat) (Hb : Heap) : ∀ q ∈ cd_X9_readDenial, am_ok l D ad b0 Hb am_If yX9_readDenial cX9_readDenial 8 (none) q.1 q.2 := am_fa (ok_cd_X9_readDenial_0 l D ad b0 Hb) (ok_cd_X9_readDenial_1 l D ad b0 Hb)
set_option maxRecDepth 100000 in
theorem ok_cd_X9_loseTrust_0 (l : Launch) (D : va_G) (ad : Nat → Nat) (b0 : Nat) (Hb : Heap) : ∀ q ∈ cd_X9_loseTrust_0, am_ok l D ad b0 Hb am_If yX9_loseTrust cX9_loseTrust 3 (none) q.1 q.2 :=
  am_fc (ok_iconst dX9_loseTrust_0 (by decide) rfl) <|
  am_fc (ok_istore_n dX9_loseTrust_1 rfl rfl) <|
  am_fc (ok_iload_n dX9_loseTrust_2 rfl rfl) <|
  am_fc (ok_aload_n dX9_loseTrust_3 rfl rfl) <|
  am_fc (ok_getI cl_8 (by decide) rfl dX9_loseTrust_4 w1_42 rfl) <|
  am_fc (ok_cge dX9_loseTrust_7 (by decide) rfl) <|
  am_fc (ok_aload_n dX9_loseTrust_10 rfl rfl) <|
  am_fc (ok_getR cl_8 (by decide) rfl dX9_loseTrust_11 w1_37 rfl) <|
  am_fc (ok_iconst dX9_loseTrust_14 (by decide) rfl) <|
  am_fc (ok_aald (by decide) (by decide) dX9_loseTrust_15 rfl) <|
  am_fc (ok_iload_n dX9_loseTrust_16 rfl rfl) <|
  am_fc (ok_iald dX9_loseTrust_17 rfl) <|
  am_fc (ok_iconst dX9_loseTrust_18 (by decide) rfl) <|
  am_fc (ok_cne dX9_loseTrust_19 (by decide) rfl) <|
  am_fc (ok_aload_n dX9_loseTrust_22 rfl rfl) <|
  am_fc (ok_getR cl_8 (by decide) rfl dX9_loseTrust_23 w1_37 rfl) <|
  am_fc (ok_iconst dX9_loseTrust_26 (by decide) rfl) <|
  am_fc (ok_aald (by decide) (by decide) dX9_loseTrust_27 rfl) <|
  am_fc (ok_iload_n dX9_loseTrust_28 rfl rfl) <|
  am_fc (ok_iconst dX9_loseTrust_29 (by decide) rfl) <|
  am_fc (ok_aload_n dX9_loseTrust_30 rfl rfl) <|
  am_fc (ok_getR cl_8 (by decide) rfl dX9_loseTrust_31 w1_37 rfl) <|
  am_fc (ok_iconst dX9_loseTrust_34 (by decide) rfl) <|
  am_fc (ok_aald (by decide) (by decide) dX9_loseTrust_35 rfl) <|
  am_fc (ok_iload_n dX9_loseTrust_36 rfl rfl) <|
  am_fc (ok_iald dX9_loseTrust_37 rfl) <|
  am_fc (ok_bipush dX9_loseTrust_38 (by decide) rfl) <|
  am_fc (ok_iload_n dX9_loseTrust_40 rfl rfl) <|
  am_fc (ok_imul dX9_loseTrust_41 rfl) <|
  am_fc (ok_isub dX9_loseTrust_42 rfl) <|
  am_fc (ok_mmax dX9_loseTrust_43 w2_231 w2_232 w1_14 w2_233 rfl) <|
  am_fc (ok_iast dX9_loseTrust_46 rfl) <|
  am_fc (ok_iinc dX9_loseTrust_47 (by decide) rfl) <|
  am_fc (ok_goto dX9_loseTrust_50 (by decide)) <|
  am_fc (ok_vret rfl dX9_loseTrust_53) <|
  am_fn
theorem ok_cd_X9_loseTrust (l : Launch) (D : va_G) (ad : Nat → Nat) (b0 : Nat) (Hb : Heap) : ∀ q ∈ cd_X9_loseTrust, am_ok l D ad b0 Hb am_If yX9_loseTrust cX9_loseTrust 3 (none) q.1 q.2 := ok_cd_X9_loseTrust_0 l D ad b0 Hb
