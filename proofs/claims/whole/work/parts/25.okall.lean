set_option maxRecDepth 100000 in
theorem am_all_ok (l : Launch) (D : va_G) (ad : Nat → Nat) (b0 : Nat) (Hb : Heap) : ∀ z ∈ am_all, ∀ q ∈ z.2, am_ok l D ad b0 Hb am_If z.1.1 z.1.2.1 z.1.2.2.1 z.1.2.2.2 q.1 q.2 :=
  am_fc (ok_cd_L_law l D ad b0 Hb) <|
  am_fc (ok_cd_X0_init l D ad b0 Hb) <|
  am_fc (ok_cd_X0_comparison l D ad b0 Hb) <|
  am_fc (ok_cd_X0_empty l D ad b0 Hb) <|
  am_fc (ok_cd_X0_add l D ad b0 Hb) <|
  am_fc (ok_cd_X0_endClause l D ad b0 Hb) <|
  am_fc (ok_cd_X0_lastThatHolds l D ad b0 Hb) <|
  am_fc (ok_cd_X0_holds l D ad b0 Hb) <|
  am_fc (ok_cd_X0_compares l D ad b0 Hb) <|
  am_fc (ok_cd_X1_init l D ad b0 Hb) <|
  am_fc (ok_cd_X1_look l D ad b0 Hb) <|
  am_fc (ok_cd_X1_sortIn l D ad b0 Hb) <|
  am_fc (ok_cd_X1_join l D ad b0 Hb) <|
  am_fc (ok_cd_X1_joinNearest l D ad b0 Hb) <|
  am_fc (ok_cd_X2_together l D ad b0 Hb) <|
  am_fc (ok_cd_X2_at l D ad b0 Hb) <|
  am_fc (ok_cd_X2_with l D ad b0 Hb) <|
  am_fc (ok_cd_X2_asTold l D ad b0 Hb) <|
  am_fc (ok_cd_X2_distance l D ad b0 Hb) <|
  am_fc (ok_cd_X3_init l D ad b0 Hb) <|
  am_fc (ok_cd_X3_awaitSaying l D ad b0 Hb) <|
  am_fc (ok_cd_X3_hear l D ad b0 Hb) <|
  am_fc (ok_cd_X3_choose l D ad b0 Hb) <|
  am_fc (ok_cd_X3_sumOf l D ad b0 Hb) <|
  am_fc (ok_cd_X4_init l D ad b0 Hb) <|
  am_fc (ok_cd_X4_take l D ad b0 Hb) <|
  am_fc (ok_cd_X4_forget l D ad b0 Hb) <|
  am_fc (ok_cd_X4_agreeWith l D ad b0 Hb) <|
  am_fc (ok_cd_X5_init l D ad b0 Hb) <|
  am_fc (ok_cd_X5_isSecret l D ad b0 Hb) <|
  am_fc (ok_cd_X6_init l D ad b0 Hb) <|
  am_fc (ok_cd_X6_isMissing l D ad b0 Hb) <|
  am_fc (ok_cd_X6_hold l D ad b0 Hb) <|
  am_fc (ok_cd_X6_spans l D ad b0 Hb) <|
  am_fc (ok_cd_X6_faultFor l D ad b0 Hb) <|
  am_fc (ok_cd_X6_asItem l D ad b0 Hb) <|
  am_fc (ok_cd_X7_init l D ad b0 Hb) <|
  am_fc (ok_cd_X7_empty l D ad b0 Hb) <|
  am_fc (ok_cd_X7_becomeLike l D ad b0 Hb) <|
  am_fc (ok_cd_X7_turn l D ad b0 Hb) <|
  am_fc (ok_cd_X7_take l D ad b0 Hb) <|
  am_fc (ok_cd_X7_start l D ad b0 Hb) <|
  am_fc (ok_cd_X7_isNewTo l D ad b0 Hb) <|
  am_fc (ok_cd_X8_init l D ad b0 Hb) <|
  am_fc (ok_cd_X8_append l D ad b0 Hb) <|
  am_fc (ok_cd_X8_readInto l D ad b0 Hb) <|
  am_fc (ok_cd_X8_readClauses l D ad b0 Hb) <|
  am_fc (ok_cd_X8_readClause l D ad b0 Hb) <|
  am_fc (ok_cd_X8_readDay l D ad b0 Hb) <|
  am_fc (ok_cd_X8_readTest l D ad b0 Hb) <|
  am_fc (ok_cd_X8_readCase l D ad b0 Hb) <|
  am_fc (ok_cd_X8_readClaim l D ad b0 Hb) <|
  am_fc (ok_cd_X8_readComparison l D ad b0 Hb) <|
  am_fc (ok_cd_X8_next l D ad b0 Hb) <|
  am_fc (ok_cd_X8_takes l D ad b0 Hb) <|
  am_fc (ok_cd_X8_takesOneOf l D ad b0 Hb) <|
  am_fc (ok_cd_X9_init l D ad b0 Hb) <|
  am_fc (ok_cd_X9_mayBe l D ad b0 Hb) <|
  am_fc (ok_cd_X9_settle l D ad b0 Hb) <|
  am_fc (ok_cd_X9_placesAt l D ad b0 Hb) <|
  am_fc (ok_cd_X9_passHours l D ad b0 Hb) <|
  am_fc (ok_cd_X9_passHour l D ad b0 Hb) <|
  am_fc (ok_cd_X9_listen l D ad b0 Hb) <|
  am_fc (ok_cd_X9_hear l D ad b0 Hb) <|
  am_fc (ok_cd_X9_fade l D ad b0 Hb) <|
  am_fc (ok_cd_X9_leastOf l D ad b0 Hb) <|
  am_fc (ok_cd_X9_weightOf l D ad b0 Hb) <|
  am_fc (ok_cd_X9_harmOf l D ad b0 Hb) <|
  am_fc (ok_cd_X9_print l D ad b0 Hb) <|
  am_fc (ok_cd_X9_readDenial l D ad b0 Hb) <|
  am_fc (ok_cd_X9_loseTrust l D ad b0 Hb) <|
  am_fc (ok_cd_X10_init l D ad b0 Hb) <|
  am_fc (ok_cd_X10_person l D ad b0 Hb) <|
  am_fc (ok_cd_X10_set l D ad b0 Hb) <|
  am_fc (ok_cd_X10_where l D ad b0 Hb) <|
  am_fc (ok_cd_X10_plain l D ad b0 Hb) <|
  am_fc (ok_cd_X10_changed l D ad b0 Hb) <|
  am_fc (ok_cd_X10_planted l D ad b0 Hb) <|
  am_fc (ok_cd_X10_real l D ad b0 Hb) <|
  am_fc (ok_cd_X10_told l D ad b0 Hb) <|
  am_fc (ok_cd_X10_weight l D ad b0 Hb) <|
  am_fc (ok_cd_X10_begin l D ad b0 Hb) <|
  am_fc (ok_cd_X10_knows l D ad b0 Hb) <|
  am_fc (ok_cd_X10_count l D ad b0 Hb) <|
  am_fc (ok_cd_X10_hours l D ad b0 Hb) <|
  am_fc (ok_cd_X10_reach l D ad b0 Hb) <|
  am_fc (ok_cd_X10_harm l D ad b0 Hb) <|
  am_fc (ok_cd_X10_deny l D ad b0 Hb) <|
  am_fc (ok_cd_X10_found l D ad b0 Hb) <|
  am_fc (ok_cd_X10_foretold l D ad b0 Hb) <|
  am_fc (ok_cd_X10_wording l D ad b0 Hb) <|
  am_fc (ok_cd_X10_plan l D ad b0 Hb) <|
  am_fc (ok_cd_X10_type l D ad b0 Hb) <|
  am_fc (ok_cd_X10_guide l D ad b0 Hb) <|
  am_fc (ok_cd_X10_why l D ad b0 Hb) <|
  am_fc (ok_cd_X10_versions l D ad b0 Hb) <|
  am_fc (ok_cd_X10_version l D ad b0 Hb) <|
  am_fc (ok_cd_X10_kin l D ad b0 Hb) <|
  am_fc (ok_cd_X10_report l D ad b0 Hb) <|
  am_fc (ok_cd_X10_clear l D ad b0 Hb) <|
  am_fc (ok_cd_X10_could l D ad b0 Hb) <|
  am_fc (ok_cd_X10_first l D ad b0 Hb) <|
  am_fc (ok_cd_X10_posts l D ad b0 Hb) <|
  am_fc (ok_cd_X10_check l D ad b0 Hb) <|
  am_fc (ok_cd_X10_sheet l D ad b0 Hb) <|
  am_fc (ok_cd_X10_drop l D ad b0 Hb) <|
  am_fc (ok_cd_X10_item l D ad b0 Hb) <|
  am_fc (ok_cd_X10_copy l D ad b0 Hb) <|
  am_fc (ok_cd_X10_reads l D ad b0 Hb) <|
  am_fc (ok_cd_X10_within l D ad b0 Hb) <|
  am_fc (ok_cd_X10_has l D ad b0 Hb) <|
  am_fc (ok_cd_X10_byteOf l D ad b0 Hb) <|
  am_fc (ok_cd_X10_areParts l D ad b0 Hb) <|
  am_fc (ok_cd_X10_isSheet l D ad b0 Hb) <|
  am_fc (ok_cd_X10_isPerson l D ad b0 Hb) <|
  am_fc (ok_cd_X10_isSaying l D ad b0 Hb) <|
  am_fc (ok_cd_X10_comeUp l D ad b0 Hb) <|
  am_fc (ok_cd_X10_harmAhead l D ad b0 Hb) <|
  am_fc (ok_cd_X10_agreesAtSomeHour l D ad b0 Hb) <|
  am_fc (ok_cd_X10_agrees l D ad b0 Hb) <|
  am_fc (ok_cd_X11_in l D ad b0 Hb) <|
  am_fc (ok_cd_X11_init l D ad b0 Hb) <|
  am_fc (ok_cd_X11_isPerson l D ad b0 Hb) <|
  am_fc (ok_cd_X11_isPlace l D ad b0 Hb) <|
  am_fc (ok_cd_X11_most l D ad b0 Hb) <|
  am_fc (ok_cd_X11_person l D ad b0 Hb) <|
  am_fc (ok_cd_X11_set l D ad b0 Hb) <|
  am_fc (ok_cd_X11_placeOf l D ad b0 Hb) <|
  am_fc (ok_cd_X11_where l D ad b0 Hb) <|
  am_fc (ok_cd_X11_trust l D ad b0 Hb) <|
  am_fc (ok_cd_X11_isReader l D ad b0 Hb) <|
  am_fc (ok_cd_X11_fear l D ad b0 Hb) <|
  am_fc (ok_cd_X11_isSaying l D ad b0 Hb) <|
  am_fc (ok_cd_X11_isDigit l D ad b0 Hb) <|
  am_fc (ok_cd_X11_unit l D ad b0 Hb) <|
  am_fc (ok_cd_X11_partOf l D ad b0 Hb) <|
  am_fc (ok_cd_X11_comes l D ad b0 Hb) <|
  am_fc (ok_cd_X11_areParts l D ad b0 Hb) <|
  am_fc (ok_cd_X11_plain l D ad b0 Hb) <|
  am_fc (ok_cd_X11_changed l D ad b0 Hb) <|
  am_fc (ok_cd_X11_planted l D ad b0 Hb) <|
  am_fc (ok_cd_X11_real l D ad b0 Hb) <|
  am_fc (ok_cd_X11_told l D ad b0 Hb) <|
  am_fc (ok_cd_X11_weight l D ad b0 Hb) <|
  am_fc (ok_cd_X11_takes l D ad b0 Hb) <|
  am_fc (ok_cd_X11_becomes l D ad b0 Hb) <|
  am_fc (ok_cd_X11_begin l D ad b0 Hb) <|
  am_fc (ok_cd_X11_knows l D ad b0 Hb) <|
  am_fc (ok_cd_X11_count l D ad b0 Hb) <|
  am_fc (ok_cd_X11_isLoud l D ad b0 Hb) <|
  am_fc (ok_cd_X11_hears l D ad b0 Hb) <|
  am_fc (ok_cd_X11_hourOf l D ad b0 Hb) <|
  am_fc (ok_cd_X11_hour l D ad b0 Hb) <|
  am_fc (ok_cd_X11_hours l D ad b0 Hb) <|
  am_fc (ok_cd_X11_stateMany l D ad b0 Hb) <|
  am_fc (ok_cd_X11_reach l D ad b0 Hb) <|
  am_fc (ok_cd_X11_harmOf l D ad b0 Hb) <|
  am_fc (ok_cd_X11_harm l D ad b0 Hb) <|
  am_fc (ok_cd_X11_denies l D ad b0 Hb) <|
  am_fc (ok_cd_X11_mayBeDenied l D ad b0 Hb) <|
  am_fc (ok_cd_X11_deny l D ad b0 Hb) <|
  am_fc (ok_cd_X11_found l D ad b0 Hb) <|
  am_fc (ok_cd_X11_keeps l D ad b0 Hb) <|
  am_fc (ok_cd_X11_returns l D ad b0 Hb) <|
  am_fc (ok_cd_X11_harmBy l D ad b0 Hb) <|
  am_fc (ok_cd_X11_foretold l D ad b0 Hb) <|
  am_fc (ok_cd_X11_wording l D ad b0 Hb) <|
  am_fc (ok_cd_X11_size l D ad b0 Hb) <|
  am_fc (ok_cd_X11_plan l D ad b0 Hb) <|
  am_fc (ok_cd_X11_type l D ad b0 Hb) <|
  am_fc (ok_cd_X11_next l D ad b0 Hb) <|
  am_fc (ok_cd_X11_passes l D ad b0 Hb) <|
  am_fc (ok_cd_X11_claim l D ad b0 Hb) <|
  am_fc (ok_cd_X11_test l D ad b0 Hb) <|
  am_fc (ok_cd_X11_number l D ad b0 Hb) <|
  am_fc (ok_cd_X11_clause l D ad b0 Hb) <|
  am_fc (ok_cd_X11_guide l D ad b0 Hb) <|
  am_fc (ok_cd_X11_why l D ad b0 Hb) <|
  am_fc (ok_cd_X11_looks l D ad b0 Hb) <|
  am_fc (ok_cd_X11_far l D ad b0 Hb) <|
  am_fc (ok_cd_X11_joins l D ad b0 Hb) <|
  am_fc (ok_cd_X11_versions l D ad b0 Hb) <|
  am_fc (ok_cd_X11_version l D ad b0 Hb) <|
  am_fc (ok_cd_X11_kin l D ad b0 Hb) <|
  am_fc (ok_cd_X11_report l D ad b0 Hb) <|
  am_fc (ok_cd_X11_clear l D ad b0 Hb) <|
  am_fc (ok_cd_X11_isHeard l D ad b0 Hb) <|
  am_fc (ok_cd_X11_agrees l D ad b0 Hb) <|
  am_fc (ok_cd_X11_couldBe l D ad b0 Hb) <|
  am_fc (ok_cd_X11_could l D ad b0 Hb) <|
  am_fc (ok_cd_X11_first l D ad b0 Hb) <|
  am_fc (ok_cd_X11_sumAt l D ad b0 Hb) <|
  am_fc (ok_cd_X11_posts l D ad b0 Hb) <|
  am_fc (ok_cd_X11_check l D ad b0 Hb) <|
  am_fc (ok_cd_X11_isSheet l D ad b0 Hb) <|
  am_fc (ok_cd_X11_isLane l D ad b0 Hb) <|
  am_fc (ok_cd_X11_finds l D ad b0 Hb) <|
  am_fc (ok_cd_X11_sheet l D ad b0 Hb) <|
  am_fc (ok_cd_X11_drop l D ad b0 Hb) <|
  am_fc (ok_cd_X11_item l D ad b0 Hb) <|
  am_fc (ok_cd_X11_copy l D ad b0 Hb) <|
  am_fc (ok_cd_X11_reads l D ad b0 Hb) <|
  am_fc (ok_cd_J6_bitCount_0f7a4 l D ad b0 Hb) <|
  am_fc (ok_cd_J0_indexOf_0f7a4 l D ad b0 Hb) <|
  am_fc (ok_cd_J0_indexOf_7cf53 l D ad b0 Hb) <|
  am_fc (ok_cd_J0_isLatin1_aae02 l D ad b0 Hb) <|
  am_fc (ok_cd_J0_length_8abf5 l D ad b0 Hb) <|
  am_fc (ok_cd_J0_coder_7d493 l D ad b0 Hb) <|
  am_fc (ok_cd_J1_canEncode_9a6ad l D ad b0 Hb) <|
  am_fc (ok_cd_J1_indexOf_4cfef l D ad b0 Hb) <|
  am_fc (ok_cd_J1_indexOfChar_4cfef l D ad b0 Hb) <|
  am_fn
theorem am_at_mem : ∀ {c : List (Nat × am_O)} {pc : Nat} {op : am_O}, am_at c pc = some op → (pc, op) ∈ c
  | [], pc, op, h => by simp [am_at] at h
  | q :: t, pc, op, h => by
    unfold am_at at h
    split at h
    · rename_i hb
      have e := Nat.eq_of_beq_eq_true hb
      cases h
      subst e
      exact List.mem_cons_self
    · exact List.mem_cons_of_mem _ (am_at_mem h)
theorem PP_ok (l : Launch) (D : va_G) (ad : Nat → Nat) (b0 : Nat) (Hb : Heap) : ∀ y pc op, PP.1 y pc = some op → am_ok l D ad b0 Hb am_If (am_If y).1 (am_If y).2.1 (am_If y).2.2.1 (am_If y).2.2.2 pc op := by
  intro y pc op h
  have h1 : (pc, op) ∈ (am_all.getD y (ii_L_law, [])).2 := am_at_mem h
  unfold am_If
  rw [List.getD_eq_getElem?_getD] at h1 ⊢
  cases hz : am_all[y]? with
  | none =>
    rw [hz] at h1
    cases h1
  | some z =>
    rw [hz] at h1
    exact am_all_ok l D ad b0 Hb z (List.mem_of_getElem? hz) (pc, op) h1
theorem pl_RL : plainName RL = true := by decide
theorem pl_RX0 : plainName RX0 = true := by decide
theorem pl_RX1 : plainName RX1 = true := by decide
theorem pl_RX2 : plainName RX2 = true := by decide
theorem pl_RX3 : plainName RX3 = true := by decide
theorem pl_RX4 : plainName RX4 = true := by decide
theorem pl_RX5 : plainName RX5 = true := by decide
theorem pl_RX6 : plainName RX6 = true := by decide
theorem pl_RX7 : plainName RX7 = true := by decide
theorem pl_RX8 : plainName RX8 = true := by decide
theorem pl_RX9 : plainName RX9 = true := by decide
theorem pl_RX10 : plainName RX10 = true := by decide
theorem pl_RX11 : plainName RX11 = true := by decide
theorem pl_RJ6 : plainName RJ6 = true := by decide
theorem pl_RJ0 : plainName RJ0 = true := by decide
theorem pl_RJ1 : plainName RJ1 = true := by decide
set_option maxRecDepth 100000 in
theorem PP_pl : ∀ z ∈ am_all, plainName z.1.1.cls = true :=
  am_fc pl_RL <|
  am_fc pl_RX0 <|
  am_fc pl_RX0 <|
  am_fc pl_RX0 <|
  am_fc pl_RX0 <|
  am_fc pl_RX0 <|
  am_fc pl_RX0 <|
  am_fc pl_RX0 <|
  am_fc pl_RX0 <|
  am_fc pl_RX1 <|
  am_fc pl_RX1 <|
  am_fc pl_RX1 <|
  am_fc pl_RX1 <|
  am_fc pl_RX1 <|
  am_fc pl_RX2 <|
  am_fc pl_RX2 <|
  am_fc pl_RX2 <|
  am_fc pl_RX2 <|
  am_fc pl_RX2 <|
  am_fc pl_RX3 <|
  am_fc pl_RX3 <|
  am_fc pl_RX3 <|
  am_fc pl_RX3 <|
  am_fc pl_RX3 <|
  am_fc pl_RX4 <|
  am_fc pl_RX4 <|
  am_fc pl_RX4 <|
  am_fc pl_RX4 <|
  am_fc pl_RX5 <|
  am_fc pl_RX5 <|
  am_fc pl_RX6 <|
  am_fc pl_RX6 <|
  am_fc pl_RX6 <|
  am_fc pl_RX6 <|
  am_fc pl_RX6 <|
  am_fc pl_RX6 <|
  am_fc pl_RX7 <|
  am_fc pl_RX7 <|
  am_fc pl_RX7 <|
  am_fc pl_RX7 <|
  am_fc pl_RX7 <|
  am_fc pl_RX7 <|
  am_fc pl_RX7 <|
  am_fc pl_RX8 <|
  am_fc pl_RX8 <|
  am_fc pl_RX8 <|
  am_fc pl_RX8 <|
  am_fc pl_RX8 <|
  am_fc pl_RX8 <|
  am_fc pl_RX8 <|
  am_fc pl_RX8 <|
  am_fc pl_RX8 <|
  am_fc pl_RX8 <|
  am_fc pl_RX8 <|
  am_fc pl_RX8 <|
  am_fc pl_RX8 <|
  am_fc pl_RX9 <|
  am_fc pl_RX9 <|
  am_fc pl_RX9 <|
  am_fc pl_RX9 <|
  am_fc pl_RX9 <|
  am_fc pl_RX9 <|
  am_fc pl_RX9 <|
  am_fc pl_RX9 <|
  am_fc pl_RX9 <|
  am_fc pl_RX9 <|
  am_fc pl_RX9 <|
  am_fc pl_RX9 <|
  am_fc pl_RX9 <|
  am_fc pl_RX9 <|
  am_fc pl_RX9 <|
  am_fc pl_RX10 <|
  am_fc pl_RX10 <|
  am_fc pl_RX10 <|
  am_fc pl_RX10 <|
  am_fc pl_RX10 <|
  am_fc pl_RX10 <|
  am_fc pl_RX10 <|
  am_fc pl_RX10 <|
  am_fc pl_RX10 <|
  am_fc pl_RX10 <|
  am_fc pl_RX10 <|
  am_fc pl_RX10 <|
  am_fc pl_RX10 <|
  am_fc pl_RX10 <|
  am_fc pl_RX10 <|
  am_fc pl_RX10 <|
  am_fc pl_RX10 <|
  am_fc pl_RX10 <|
  am_fc pl_RX10 <|
  am_fc pl_RX10 <|
  am_fc pl_RX10 <|
  am_fc pl_RX10 <|
  am_fc pl_RX10 <|
  am_fc pl_RX10 <|
  am_fc pl_RX10 <|
  am_fc pl_RX10 <|
  am_fc pl_RX10 <|
  am_fc pl_RX10 <|
  am_fc pl_RX10 <|
  am_fc pl_RX10 <|
  am_fc pl_RX10 <|
  am_fc pl_RX10 <|
  am_fc pl_RX10 <|
  am_fc pl_RX10 <|
  am_fc pl_RX10 <|
  am_fc pl_RX10 <|
  am_fc pl_RX10 <|
  am_fc pl_RX10 <|
  am_fc pl_RX10 <|
  am_fc pl_RX10 <|
  am_fc pl_RX10 <|
  am_fc pl_RX10 <|
  am_fc pl_RX10 <|
  am_fc pl_RX10 <|
  am_fc pl_RX10 <|
  am_fc pl_RX10 <|
  am_fc pl_RX10 <|
  am_fc pl_RX10 <|
  am_fc pl_RX10 <|
  am_fc pl_RX11 <|
  am_fc pl_RX11 <|
  am_fc pl_RX11 <|
  am_fc pl_RX11 <|
  am_fc pl_RX11 <|
  am_fc pl_RX11 <|
  am_fc pl_RX11 <|
  am_fc pl_RX11 <|
  am_fc pl_RX11 <|
  am_fc pl_RX11 <|
  am_fc pl_RX11 <|
  am_fc pl_RX11 <|
  am_fc pl_RX11 <|
  am_fc pl_RX11 <|
  am_fc pl_RX11 <|
  am_fc pl_RX11 <|
  am_fc pl_RX11 <|
  am_fc pl_RX11 <|
  am_fc pl_RX11 <|
  am_fc pl_RX11 <|
  am_fc pl_RX11 <|
  am_fc pl_RX11 <|
  am_fc pl_RX11 <|
  am_fc pl_RX11 <|
  am_fc pl_RX11 <|
  am_fc pl_RX11 <|
  am_fc pl_RX11 <|
  am_fc pl_RX11 <|
  am_fc pl_RX11 <|
  am_fc pl_RX11 <|
  am_fc pl_RX11 <|
  am_fc pl_RX11 <|
  am_fc pl_RX11 <|
  am_fc pl_RX11 <|
  am_fc pl_RX11 <|
  am_fc pl_RX11 <|
  am_fc pl_RX11 <|
  am_fc pl_RX11 <|
  am_fc pl_RX11 <|
  am_fc pl_RX11 <|
  am_fc pl_RX11 <|
  am_fc pl_RX11 <|
  am_fc pl_RX11 <|
  am_fc pl_RX11 <|
  am_fc pl_RX11 <|
  am_fc pl_RX11 <|
  am_fc pl_RX11 <|
  am_fc pl_RX11 <|
  am_fc pl_RX11 <|
  am_fc pl_RX11 <|
  am_fc pl_RX11 <|
  am_fc pl_RX11 <|
  am_fc pl_RX11 <|
  am_fc pl_RX11 <|
  am_fc pl_RX11 <|
  am_fc pl_RX11 <|
  am_fc pl_RX11 <|
  am_fc pl_RX11 <|
  am_fc pl_RX11 <|
  am_fc pl_RX11 <|
  am_fc pl_RX11 <|
  am_fc pl_RX11 <|
  am_fc pl_RX11 <|
  am_fc pl_RX11 <|
  am_fc pl_RX11 <|
  am_fc pl_RX11 <|
  am_fc pl_RX11 <|
  am_fc pl_RX11 <|
  am_fc pl_RX11 <|
  am_fc pl_RX11 <|
  am_fc pl_RX11 <|
  am_fc pl_RX11 <|
  am_fc pl_RX11 <|
  am_fc pl_RX11 <|
  am_fc pl_RX11 <|
  am_fc pl_RX11 <|
  am_fc pl_RX11 <|
  am_fc pl_RX11 <|
  am_fc pl_RX11 <|
  am_fc pl_RX11 <|
  am_fc pl_RX11 <|
  am_fc pl_RX11 <|
  am_fc pl_RJ6 <|
  am_fc pl_RJ0 <|
  am_fc pl_RJ0 <|
  am_fc pl_RJ0 <|
  am_fc pl_RJ0 <|
  am_fc pl_RJ0 <|
  am_fc pl_RJ1 <|
  am_fc pl_RJ1 <|
  am_fc pl_RJ1 <|
  am_fn
theorem PP_plain (y : Nat) : plainName (am_If y).1.cls = true := by
  unfold am_If
  rw [List.getD_eq_getElem?_getD]
  cases hz : am_all[y]? with
  | none => exact pl_RL
  | some z => exact PP_pl z (List.mem_of_getElem? hz)
