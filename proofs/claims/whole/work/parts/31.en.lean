theorem cdn_L_law : am_cd 0 = cd_L_law := rfl
theorem en_L_law {d : Nat} {h : am_H} {Q : Option Value → am_H → Prop} {k0 : Nat} : CALL d 0 [.ref (k0 : Nat)] h Q = AW d 0 0 [some (.ref (k0 : Nat)), none, none, none] [] h Q := rfl
theorem cdn_X0_init : am_cd 1 = cd_X0_init := rfl
theorem en_X0_init {d : Nat} {h : am_H} {Q : Option Value → am_H → Prop} {k0 : Nat} : CALL d 1 [.ref (k0 : Nat)] h Q = AW d 1 0 [some (.ref (k0 : Nat))] [] h Q := rfl
theorem cdn_X0_comparison : am_cd 2 = cd_X0_comparison := rfl
theorem en_X0_comparison {d : Nat} {h : am_H} {Q : Option Value → am_H → Prop} {x0 : Int32} {x1 : Int32} {x2 : Int32} : CALL d 2 [.int x0, .int x1, .int x2] h Q = AW d 2 0 [some (.int x0), some (.int x1), some (.int x2)] [] h Q := rfl
theorem cdn_X0_empty : am_cd 3 = cd_X0_empty := rfl
theorem en_X0_empty {d : Nat} {h : am_H} {Q : Option Value → am_H → Prop} {k0 : Nat} : CALL d 3 [.ref (k0 : Nat)] h Q = AW d 3 0 [some (.ref (k0 : Nat))] [] h Q := rfl
theorem cdn_X0_add : am_cd 4 = cd_X0_add := rfl
theorem en_X0_add {d : Nat} {h : am_H} {Q : Option Value → am_H → Prop} {k0 : Nat} {x1 : Int32} : CALL d 4 [.ref (k0 : Nat), .int x1] h Q = AW d 4 0 [some (.ref (k0 : Nat)), some (.int x1)] [] h Q := rfl
theorem cdn_X0_endClause : am_cd 5 = cd_X0_endClause := rfl
theorem en_X0_endClause {d : Nat} {h : am_H} {Q : Option Value → am_H → Prop} {k0 : Nat} {x1 : Int32} {x2 : Int32} : CALL d 5 [.ref (k0 : Nat), .int x1, .int x2] h Q = AW d 5 0 [some (.ref (k0 : Nat)), some (.int x1), some (.int x2)] [] h Q := rfl
theorem cdn_X0_lastThatHolds : am_cd 6 = cd_X0_lastThatHolds := rfl
theorem en_X0_lastThatHolds {d : Nat} {h : am_H} {Q : Option Value → am_H → Prop} {k0 : Nat} {x1 : Int32} {x2 : Int32} : CALL d 6 [.ref (k0 : Nat), .int x1, .int x2] h Q = AW d 6 0 [some (.ref (k0 : Nat)), some (.int x1), some (.int x2), none] [] h Q := rfl
theorem cdn_X0_holds : am_cd 7 = cd_X0_holds := rfl
theorem en_X0_holds {d : Nat} {h : am_H} {Q : Option Value → am_H → Prop} {k0 : Nat} {x1 : Int32} {x2 : Int32} : CALL d 7 [.ref (k0 : Nat), .int x1, .int x2] h Q = AW d 7 0 [some (.ref (k0 : Nat)), some (.int x1), some (.int x2), none, none, none, none] [] h Q := rfl
theorem cdn_X0_compares : am_cd 8 = cd_X0_compares := rfl
theorem en_X0_compares {d : Nat} {h : am_H} {Q : Option Value → am_H → Prop} {x0 : Int32} {x1 : Int32} : CALL d 8 [.int x0, .int x1] h Q = AW d 8 0 [some (.int x0), some (.int x1), none, none, none] [] h Q := rfl
theorem cdn_X1_init : am_cd 9 = cd_X1_init := rfl
theorem en_X1_init {d : Nat} {h : am_H} {Q : Option Value → am_H → Prop} {k0 : Nat} : CALL d 9 [.ref (k0 : Nat)] h Q = AW d 9 0 [some (.ref (k0 : Nat))] [] h Q := rfl
theorem cdn_X1_look : am_cd 10 = cd_X1_look := rfl
theorem en_X1_look {d : Nat} {h : am_H} {Q : Option Value → am_H → Prop} {k0 : Nat} {k1 : Nat} {x2 : Int32} : CALL d 10 [.ref (k0 : Nat), .ref (k1 : Nat), .int x2] h Q = AW d 10 0 [some (.ref (k0 : Nat)), some (.ref (k1 : Nat)), some (.int x2), none] [] h Q := rfl
theorem cdn_X1_sortIn : am_cd 11 = cd_X1_sortIn := rfl
theorem en_X1_sortIn {d : Nat} {h : am_H} {Q : Option Value → am_H → Prop} {k0 : Nat} {x1 : Int32} : CALL d 11 [.ref (k0 : Nat), .int x1] h Q = AW d 11 0 [some (.ref (k0 : Nat)), some (.int x1), none, none] [] h Q := rfl
theorem cdn_X1_join : am_cd 12 = cd_X1_join := rfl
theorem en_X1_join {d : Nat} {h : am_H} {Q : Option Value → am_H → Prop} {k0 : Nat} : CALL d 12 [.ref (k0 : Nat)] h Q = AW d 12 0 [some (.ref (k0 : Nat)), none, none] [] h Q := rfl
theorem cdn_X1_joinNearest : am_cd 13 = cd_X1_joinNearest := rfl
theorem en_X1_joinNearest {d : Nat} {h : am_H} {Q : Option Value → am_H → Prop} {k0 : Nat} : CALL d 13 [.ref (k0 : Nat)] h Q = AW d 13 0 [some (.ref (k0 : Nat)), none, none, none, none, none] [] h Q := rfl
theorem cdn_X2_together : am_cd 14 = cd_X2_together := rfl
theorem en_X2_together {d : Nat} {h : am_H} {Q : Option Value → am_H → Prop} {x0 : Int32} {x1 : Int32} {x2 : Int32} {x3 : Int32} : CALL d 14 [.int x0, .int x1, .int x2, .int x3] h Q = AW d 14 0 [some (.int x0), some (.int x1), some (.int x2), some (.int x3)] [] h Q := rfl
theorem cdn_X2_at : am_cd 15 = cd_X2_at := rfl
theorem en_X2_at {d : Nat} {h : am_H} {Q : Option Value → am_H → Prop} {x0 : Int32} {x1 : Int32} : CALL d 15 [.int x0, .int x1] h Q = AW d 15 0 [some (.int x0), some (.int x1)] [] h Q := rfl
theorem cdn_X2_with : am_cd 16 = cd_X2_with := rfl
theorem en_X2_with {d : Nat} {h : am_H} {Q : Option Value → am_H → Prop} {x0 : Int32} {x1 : Int32} {x2 : Int32} : CALL d 16 [.int x0, .int x1, .int x2] h Q = AW d 16 0 [some (.int x0), some (.int x1), some (.int x2)] [] h Q := rfl
theorem cdn_X2_asTold : am_cd 17 = cd_X2_asTold := rfl
theorem en_X2_asTold {d : Nat} {h : am_H} {Q : Option Value → am_H → Prop} {x0 : Int32} {x1 : Int32} : CALL d 17 [.int x0, .int x1] h Q = AW d 17 0 [some (.int x0), some (.int x1), none] [] h Q := rfl
theorem cdn_X2_distance : am_cd 18 = cd_X2_distance := rfl
theorem en_X2_distance {d : Nat} {h : am_H} {Q : Option Value → am_H → Prop} {x0 : Int32} {x1 : Int32} : CALL d 18 [.int x0, .int x1] h Q = AW d 18 0 [some (.int x0), some (.int x1), none, none] [] h Q := rfl
theorem cdn_X3_init : am_cd 19 = cd_X3_init := rfl
theorem en_X3_init {d : Nat} {h : am_H} {Q : Option Value → am_H → Prop} {k0 : Nat} : CALL d 19 [.ref (k0 : Nat)] h Q = AW d 19 0 [some (.ref (k0 : Nat))] [] h Q := rfl
theorem cdn_X3_awaitSaying : am_cd 20 = cd_X3_awaitSaying := rfl
theorem en_X3_awaitSaying {d : Nat} {h : am_H} {Q : Option Value → am_H → Prop} {k0 : Nat} {x1 : Int32} : CALL d 20 [.ref (k0 : Nat), .int x1] h Q = AW d 20 0 [some (.ref (k0 : Nat)), some (.int x1), none] [] h Q := rfl
theorem cdn_X3_hear : am_cd 21 = cd_X3_hear := rfl
theorem en_X3_hear {d : Nat} {h : am_H} {Q : Option Value → am_H → Prop} {k0 : Nat} {x1 : Int32} {x2 : Int32} {x3 : Int32} : CALL d 21 [.ref (k0 : Nat), .int x1, .int x2, .int x3] h Q = AW d 21 0 [some (.ref (k0 : Nat)), some (.int x1), some (.int x2), some (.int x3), none] [] h Q := rfl
theorem cdn_X3_choose : am_cd 22 = cd_X3_choose := rfl
theorem en_X3_choose {d : Nat} {h : am_H} {Q : Option Value → am_H → Prop} {k0 : Nat} {x1 : Int32} {x2 : Int32} : CALL d 22 [.ref (k0 : Nat), .int x1, .int x2] h Q = AW d 22 0 [some (.ref (k0 : Nat)), some (.int x1), some (.int x2), none, none, none] [] h Q := rfl
theorem cdn_X3_sumOf : am_cd 23 = cd_X3_sumOf := rfl
theorem en_X3_sumOf {d : Nat} {h : am_H} {Q : Option Value → am_H → Prop} {k0 : Nat} {x1 : Int32} {x2 : Int32} : CALL d 23 [.ref (k0 : Nat), .int x1, .int x2] h Q = AW d 23 0 [some (.ref (k0 : Nat)), some (.int x1), some (.int x2), none, none, none, none] [] h Q := rfl
theorem cdn_X4_init : am_cd 24 = cd_X4_init := rfl
theorem en_X4_init {d : Nat} {h : am_H} {Q : Option Value → am_H → Prop} {k0 : Nat} : CALL d 24 [.ref (k0 : Nat)] h Q = AW d 24 0 [some (.ref (k0 : Nat))] [] h Q := rfl
theorem cdn_X4_take : am_cd 25 = cd_X4_take := rfl
theorem en_X4_take {d : Nat} {h : am_H} {Q : Option Value → am_H → Prop} {k0 : Nat} {x1 : Int32} {x2 : Int32} {x3 : Int32} : CALL d 25 [.ref (k0 : Nat), .int x1, .int x2, .int x3] h Q = AW d 25 0 [some (.ref (k0 : Nat)), some (.int x1), some (.int x2), some (.int x3)] [] h Q := rfl
theorem cdn_X4_forget : am_cd 26 = cd_X4_forget := rfl
theorem en_X4_forget {d : Nat} {h : am_H} {Q : Option Value → am_H → Prop} {k0 : Nat} : CALL d 26 [.ref (k0 : Nat)] h Q = AW d 26 0 [some (.ref (k0 : Nat)), none] [] h Q := rfl
theorem cdn_X4_agreeWith : am_cd 27 = cd_X4_agreeWith := rfl
theorem en_X4_agreeWith {d : Nat} {h : am_H} {Q : Option Value → am_H → Prop} {k0 : Nat} {x1 : Int32} {x2 : Int32} : CALL d 27 [.ref (k0 : Nat), .int x1, .int x2] h Q = AW d 27 0 [some (.ref (k0 : Nat)), some (.int x1), some (.int x2)] [] h Q := rfl
theorem cdn_X5_init : am_cd 28 = cd_X5_init := rfl
theorem en_X5_init {d : Nat} {h : am_H} {Q : Option Value → am_H → Prop} {k0 : Nat} : CALL d 28 [.ref (k0 : Nat)] h Q = AW d 28 0 [some (.ref (k0 : Nat))] [] h Q := rfl
theorem cdn_X5_isSecret : am_cd 29 = cd_X5_isSecret := rfl
theorem en_X5_isSecret {d : Nat} {h : am_H} {Q : Option Value → am_H → Prop} {k0 : Nat} : CALL d 29 [.ref (k0 : Nat)] h Q = AW d 29 0 [some (.ref (k0 : Nat))] [] h Q := rfl
theorem cdn_X6_init : am_cd 30 = cd_X6_init := rfl
theorem en_X6_init {d : Nat} {h : am_H} {Q : Option Value → am_H → Prop} {k0 : Nat} : CALL d 30 [.ref (k0 : Nat)] h Q = AW d 30 0 [some (.ref (k0 : Nat))] [] h Q := rfl
theorem cdn_X6_isMissing : am_cd 31 = cd_X6_isMissing := rfl
theorem en_X6_isMissing {d : Nat} {h : am_H} {Q : Option Value → am_H → Prop} {k0 : Nat} : CALL d 31 [.ref (k0 : Nat)] h Q = AW d 31 0 [some (.ref (k0 : Nat))] [] h Q := rfl
theorem cdn_X6_hold : am_cd 32 = cd_X6_hold := rfl
theorem en_X6_hold {d : Nat} {h : am_H} {Q : Option Value → am_H → Prop} {k0 : Nat} {x1 : Int32} {x2 : Int32} : CALL d 32 [.ref (k0 : Nat), .int x1, .int x2] h Q = AW d 32 0 [some (.ref (k0 : Nat)), some (.int x1), some (.int x2), none] [] h Q := rfl
theorem cdn_X6_spans : am_cd 33 = cd_X6_spans := rfl
theorem en_X6_spans {d : Nat} {h : am_H} {Q : Option Value → am_H → Prop} {k0 : Nat} {x1 : Int32} {x2 : Int32} : CALL d 33 [.ref (k0 : Nat), .int x1, .int x2] h Q = AW d 33 0 [some (.ref (k0 : Nat)), some (.int x1), some (.int x2)] [] h Q := rfl
theorem cdn_X6_faultFor : am_cd 34 = cd_X6_faultFor := rfl
theorem en_X6_faultFor {d : Nat} {h : am_H} {Q : Option Value → am_H → Prop} {k0 : Nat} {x1 : Int32} {x2 : Int32} {x3 : Int32} : CALL d 34 [.ref (k0 : Nat), .int x1, .int x2, .int x3] h Q = AW d 34 0 [some (.ref (k0 : Nat)), some (.int x1), some (.int x2), some (.int x3)] [] h Q := rfl
theorem cdn_X6_asItem : am_cd 35 = cd_X6_asItem := rfl
theorem en_X6_asItem {d : Nat} {h : am_H} {Q : Option Value → am_H → Prop} {x0 : Int32} {x1 : Int32} : CALL d 35 [.int x0, .int x1] h Q = AW d 35 0 [some (.int x0), some (.int x1)] [] h Q := rfl
theorem cdn_X7_init : am_cd 36 = cd_X7_init := rfl
theorem en_X7_init {d : Nat} {h : am_H} {Q : Option Value → am_H → Prop} {k0 : Nat} : CALL d 36 [.ref (k0 : Nat)] h Q = AW d 36 0 [some (.ref (k0 : Nat))] [] h Q := rfl
theorem cdn_X7_empty : am_cd 37 = cd_X7_empty := rfl
theorem en_X7_empty {d : Nat} {h : am_H} {Q : Option Value → am_H → Prop} {k0 : Nat} : CALL d 37 [.ref (k0 : Nat)] h Q = AW d 37 0 [some (.ref (k0 : Nat)), none] [] h Q := rfl
theorem cdn_X7_becomeLike : am_cd 38 = cd_X7_becomeLike := rfl
theorem en_X7_becomeLike {d : Nat} {h : am_H} {Q : Option Value → am_H → Prop} {k0 : Nat} {k1 : Nat} : CALL d 38 [.ref (k0 : Nat), .ref (k1 : Nat)] h Q = AW d 38 0 [some (.ref (k0 : Nat)), some (.ref (k1 : Nat)), none] [] h Q := rfl
theorem cdn_X7_turn : am_cd 39 = cd_X7_turn := rfl
theorem en_X7_turn {d : Nat} {h : am_H} {Q : Option Value → am_H → Prop} {k0 : Nat} {x1 : Int32} {x2 : Int32} {x3 : Int32} : CALL d 39 [.ref (k0 : Nat), .int x1, .int x2, .int x3] h Q = AW d 39 0 [some (.ref (k0 : Nat)), some (.int x1), some (.int x2), some (.int x3)] [] h Q := rfl
theorem cdn_X7_take : am_cd 40 = cd_X7_take := rfl
theorem en_X7_take {d : Nat} {h : am_H} {Q : Option Value → am_H → Prop} {k0 : Nat} {x1 : Int32} {x2 : Int32} {x3 : Int32} : CALL d 40 [.ref (k0 : Nat), .int x1, .int x2, .int x3] h Q = AW d 40 0 [some (.ref (k0 : Nat)), some (.int x1), some (.int x2), some (.int x3)] [] h Q := rfl
theorem cdn_X7_start : am_cd 41 = cd_X7_start := rfl
theorem en_X7_start {d : Nat} {h : am_H} {Q : Option Value → am_H → Prop} {k0 : Nat} {x1 : Int32} {x2 : Int32} {x3 : Int32} : CALL d 41 [.ref (k0 : Nat), .int x1, .int x2, .int x3] h Q = AW d 41 0 [some (.ref (k0 : Nat)), some (.int x1), some (.int x2), some (.int x3)] [] h Q := rfl
theorem cdn_X7_isNewTo : am_cd 42 = cd_X7_isNewTo := rfl
theorem en_X7_isNewTo {d : Nat} {h : am_H} {Q : Option Value → am_H → Prop} {k0 : Nat} {x1 : Int32} : CALL d 42 [.ref (k0 : Nat), .int x1] h Q = AW d 42 0 [some (.ref (k0 : Nat)), some (.int x1)] [] h Q := rfl
theorem cdn_X8_init : am_cd 43 = cd_X8_init := rfl
theorem en_X8_init {d : Nat} {h : am_H} {Q : Option Value → am_H → Prop} {k0 : Nat} : CALL d 43 [.ref (k0 : Nat)] h Q = AW d 43 0 [some (.ref (k0 : Nat))] [] h Q := rfl
theorem cdn_X8_append : am_cd 44 = cd_X8_append := rfl
theorem en_X8_append {d : Nat} {h : am_H} {Q : Option Value → am_H → Prop} {k0 : Nat} {x1 : Int32} : CALL d 44 [.ref (k0 : Nat), .int x1] h Q = AW d 44 0 [some (.ref (k0 : Nat)), some (.int x1)] [] h Q := rfl
theorem cdn_X8_readInto : am_cd 45 = cd_X8_readInto := rfl
theorem en_X8_readInto {d : Nat} {h : am_H} {Q : Option Value → am_H → Prop} {k0 : Nat} {k1 : Nat} : CALL d 45 [.ref (k0 : Nat), .ref (k1 : Nat)] h Q = AW d 45 0 [some (.ref (k0 : Nat)), some (.ref (k1 : Nat))] [] h Q := rfl
theorem cdn_X8_readClauses : am_cd 46 = cd_X8_readClauses := rfl
theorem en_X8_readClauses {d : Nat} {h : am_H} {Q : Option Value → am_H → Prop} {k0 : Nat} {k1 : Nat} : CALL d 46 [.ref (k0 : Nat), .ref (k1 : Nat)] h Q = AW d 46 0 [some (.ref (k0 : Nat)), some (.ref (k1 : Nat)), none] [] h Q := rfl
theorem cdn_X8_readClause : am_cd 47 = cd_X8_readClause := rfl
theorem en_X8_readClause {d : Nat} {h : am_H} {Q : Option Value → am_H → Prop} {k0 : Nat} {k1 : Nat} : CALL d 47 [.ref (k0 : Nat), .ref (k1 : Nat)] h Q = AW d 47 0 [some (.ref (k0 : Nat)), some (.ref (k1 : Nat)), none, none] [] h Q := rfl
theorem cdn_X8_readDay : am_cd 48 = cd_X8_readDay := rfl
theorem en_X8_readDay {d : Nat} {h : am_H} {Q : Option Value → am_H → Prop} {k0 : Nat} : CALL d 48 [.ref (k0 : Nat)] h Q = AW d 48 0 [some (.ref (k0 : Nat)), none, none] [] h Q := rfl
theorem cdn_X8_readTest : am_cd 49 = cd_X8_readTest := rfl
theorem en_X8_readTest {d : Nat} {h : am_H} {Q : Option Value → am_H → Prop} {k0 : Nat} {k1 : Nat} {x2 : Int32} : CALL d 49 [.ref (k0 : Nat), .ref (k1 : Nat), .int x2] h Q = AW d 49 0 [some (.ref (k0 : Nat)), some (.ref (k1 : Nat)), some (.int x2), none] [] h Q := rfl
theorem cdn_X8_readCase : am_cd 50 = cd_X8_readCase := rfl
theorem en_X8_readCase {d : Nat} {h : am_H} {Q : Option Value → am_H → Prop} {k0 : Nat} {k1 : Nat} {x2 : Int32} : CALL d 50 [.ref (k0 : Nat), .ref (k1 : Nat), .int x2] h Q = AW d 50 0 [some (.ref (k0 : Nat)), some (.ref (k1 : Nat)), some (.int x2), none] [] h Q := rfl
theorem cdn_X8_readClaim : am_cd 51 = cd_X8_readClaim := rfl
theorem en_X8_readClaim {d : Nat} {h : am_H} {Q : Option Value → am_H → Prop} {k0 : Nat} {k1 : Nat} {x2 : Int32} : CALL d 51 [.ref (k0 : Nat), .ref (k1 : Nat), .int x2] h Q = AW d 51 0 [some (.ref (k0 : Nat)), some (.ref (k1 : Nat)), some (.int x2), none, none] [] h Q := rfl
theorem cdn_X8_readComparison : am_cd 52 = cd_X8_readComparison := rfl
theorem en_X8_readComparison {d : Nat} {h : am_H} {Q : Option Value → am_H → Prop} {k0 : Nat} {k1 : Nat} : CALL d 52 [.ref (k0 : Nat), .ref (k1 : Nat)] h Q = AW d 52 0 [some (.ref (k0 : Nat)), some (.ref (k1 : Nat)), none, none, none] [] h Q := rfl
theorem cdn_X8_next : am_cd 53 = cd_X8_next := rfl
theorem en_X8_next {d : Nat} {h : am_H} {Q : Option Value → am_H → Prop} {k0 : Nat} : CALL d 53 [.ref (k0 : Nat)] h Q = AW d 53 0 [some (.ref (k0 : Nat))] [] h Q := rfl
theorem cdn_X8_takes : am_cd 54 = cd_X8_takes := rfl
theorem en_X8_takes {d : Nat} {h : am_H} {Q : Option Value → am_H → Prop} {k0 : Nat} {x1 : Int32} : CALL d 54 [.ref (k0 : Nat), .int x1] h Q = AW d 54 0 [some (.ref (k0 : Nat)), some (.int x1)] [] h Q := rfl
theorem cdn_X8_takesOneOf : am_cd 55 = cd_X8_takesOneOf := rfl
theorem en_X8_takesOneOf {d : Nat} {h : am_H} {Q : Option Value → am_H → Prop} {k0 : Nat} {k1 : Nat} : CALL d 55 [.ref (k0 : Nat), .ref (k1 : Nat)] h Q = AW d 55 0 [some (.ref (k0 : Nat)), some (.ref (k1 : Nat)), none] [] h Q := rfl
theorem cdn_X9_init : am_cd 56 = cd_X9_init := rfl
theorem en_X9_init {d : Nat} {h : am_H} {Q : Option Value → am_H → Prop} {k0 : Nat} : CALL d 56 [.ref (k0 : Nat)] h Q = AW d 56 0 [some (.ref (k0 : Nat)), none] [] h Q := rfl
theorem cdn_X9_mayBe : am_cd 57 = cd_X9_mayBe := rfl
theorem en_X9_mayBe {d : Nat} {h : am_H} {Q : Option Value → am_H → Prop} {x0 : Int32} {x1 : Int32} : CALL d 57 [.int x0, .int x1] h Q = AW d 57 0 [some (.int x0), some (.int x1)] [] h Q := rfl
theorem cdn_X9_settle : am_cd 58 = cd_X9_settle := rfl
theorem en_X9_settle {d : Nat} {h : am_H} {Q : Option Value → am_H → Prop} {k0 : Nat} {x1 : Int32} {x2 : Int32} {x3 : Int32} {x4 : Int32} {x5 : Int32} : CALL d 58 [.ref (k0 : Nat), .int x1, .int x2, .int x3, .int x4, .int x5] h Q = AW d 58 0 [some (.ref (k0 : Nat)), some (.int x1), some (.int x2), some (.int x3), some (.int x4), some (.int x5)] [] h Q := rfl
theorem cdn_X9_placesAt : am_cd 59 = cd_X9_placesAt := rfl
theorem en_X9_placesAt {d : Nat} {h : am_H} {Q : Option Value → am_H → Prop} {k0 : Nat} {x1 : Int32} : CALL d 59 [.ref (k0 : Nat), .int x1] h Q = AW d 59 0 [some (.ref (k0 : Nat)), some (.int x1), none] [] h Q := rfl
theorem cdn_X9_passHours : am_cd 60 = cd_X9_passHours := rfl
theorem en_X9_passHours {d : Nat} {h : am_H} {Q : Option Value → am_H → Prop} {k0 : Nat} {k1 : Nat} {x2 : Int32} {x3 : Int32} : CALL d 60 [.ref (k0 : Nat), .ref (k1 : Nat), .int x2, .int x3] h Q = AW d 60 0 [some (.ref (k0 : Nat)), some (.ref (k1 : Nat)), some (.int x2), some (.int x3), none] [] h Q := rfl
theorem cdn_X9_passHour : am_cd 61 = cd_X9_passHour := rfl
theorem en_X9_passHour {d : Nat} {h : am_H} {Q : Option Value → am_H → Prop} {k0 : Nat} {k1 : Nat} {x2 : Int32} : CALL d 61 [.ref (k0 : Nat), .ref (k1 : Nat), .int x2] h Q = AW d 61 0 [some (.ref (k0 : Nat)), some (.ref (k1 : Nat)), some (.int x2), none, none, none, none] [] h Q := rfl
theorem cdn_X9_listen : am_cd 62 = cd_X9_listen := rfl
theorem en_X9_listen {d : Nat} {h : am_H} {Q : Option Value → am_H → Prop} {k0 : Nat} {k1 : Nat} {k2 : Nat} : CALL d 62 [.ref (k0 : Nat), .ref (k1 : Nat), .ref (k2 : Nat)] h Q = AW d 62 0 [some (.ref (k0 : Nat)), some (.ref (k1 : Nat)), some (.ref (k2 : Nat)), none, none] [] h Q := rfl
theorem cdn_X9_hear : am_cd 63 = cd_X9_hear := rfl
theorem en_X9_hear {d : Nat} {h : am_H} {Q : Option Value → am_H → Prop} {k0 : Nat} {k1 : Nat} {x2 : Int32} {x3 : Int32} {x4 : Int32} : CALL d 63 [.ref (k0 : Nat), .ref (k1 : Nat), .int x2, .int x3, .int x4] h Q = AW d 63 0 [some (.ref (k0 : Nat)), some (.ref (k1 : Nat)), some (.int x2), some (.int x3), some (.int x4), none, none] [] h Q := rfl
theorem cdn_X9_fade : am_cd 64 = cd_X9_fade := rfl
theorem en_X9_fade {d : Nat} {h : am_H} {Q : Option Value → am_H → Prop} {k0 : Nat} {k1 : Nat} {x2 : Int32} {x3 : Int32} : CALL d 64 [.ref (k0 : Nat), .ref (k1 : Nat), .int x2, .int x3] h Q = AW d 64 0 [some (.ref (k0 : Nat)), some (.ref (k1 : Nat)), some (.int x2), some (.int x3)] [] h Q := rfl
theorem cdn_X9_leastOf : am_cd 65 = cd_X9_leastOf := rfl
theorem en_X9_leastOf {d : Nat} {h : am_H} {Q : Option Value → am_H → Prop} {x0 : Int32} : CALL d 65 [.int x0] h Q = AW d 65 0 [some (.int x0)] [] h Q := rfl
theorem cdn_X9_weightOf : am_cd 66 = cd_X9_weightOf := rfl
theorem en_X9_weightOf {d : Nat} {h : am_H} {Q : Option Value → am_H → Prop} {k0 : Nat} {x1 : Int32} : CALL d 66 [.ref (k0 : Nat), .int x1] h Q = AW d 66 0 [some (.ref (k0 : Nat)), some (.int x1)] [] h Q := rfl
theorem cdn_X9_harmOf : am_cd 67 = cd_X9_harmOf := rfl
theorem en_X9_harmOf {d : Nat} {h : am_H} {Q : Option Value → am_H → Prop} {k0 : Nat} {k1 : Nat} : CALL d 67 [.ref (k0 : Nat), .ref (k1 : Nat)] h Q = AW d 67 0 [some (.ref (k0 : Nat)), some (.ref (k1 : Nat)), none, none] [] h Q := rfl
theorem cdn_X9_print : am_cd 68 = cd_X9_print := rfl
theorem en_X9_print {d : Nat} {h : am_H} {Q : Option Value → am_H → Prop} {k0 : Nat} {k1 : Nat} {x2 : Int32} {x3 : Int32} {x4 : Int32} : CALL d 68 [.ref (k0 : Nat), .ref (k1 : Nat), .int x2, .int x3, .int x4] h Q = AW d 68 0 [some (.ref (k0 : Nat)), some (.ref (k1 : Nat)), some (.int x2), some (.int x3), some (.int x4), none, none, none, none] [] h Q := rfl
theorem cdn_X9_readDenial : am_cd 69 = cd_X9_readDenial := rfl
theorem en_X9_readDenial {d : Nat} {h : am_H} {Q : Option Value → am_H → Prop} {k0 : Nat} {k1 : Nat} {x2 : Int32} {x3 : Int32} {x4 : Int32} {x5 : Int32} : CALL d 69 [.ref (k0 : Nat), .ref (k1 : Nat), .int x2, .int x3, .int x4, .int x5] h Q = AW d 69 0 [some (.ref (k0 : Nat)), some (.ref (k1 : Nat)), some (.int x2), some (.int x3), some (.int x4), some (.int x5), none, none] [] h Q := rfl
theorem cdn_X9_loseTrust : am_cd 70 = cd_X9_loseTrust := rfl
theorem en_X9_loseTrust {d : Nat} {h : am_H} {Q : Option Value → am_H → Prop} {k0 : Nat} {x1 : Int32} : CALL d 70 [.ref (k0 : Nat), .int x1] h Q = AW d 70 0 [some (.ref (k0 : Nat)), some (.int x1), none] [] h Q := rfl
theorem cdn_X10_init : am_cd 71 = cd_X10_init := rfl
theorem en_X10_init {d : Nat} {h : am_H} {Q : Option Value → am_H → Prop} {k0 : Nat} : CALL d 71 [.ref (k0 : Nat)] h Q = AW d 71 0 [some (.ref (k0 : Nat)), none] [] h Q := rfl
theorem cdn_X10_person : am_cd 72 = cd_X10_person := rfl
theorem en_X10_person {d : Nat} {h : am_H} {Q : Option Value → am_H → Prop} {k0 : Nat} {x1 : Int32} {x2 : Int32} {x3 : Int32} {x4 : Int32} {x5 : Int32} : CALL d 72 [.ref (k0 : Nat), .int x1, .int x2, .int x3, .int x4, .int x5] h Q = AW d 72 0 [some (.ref (k0 : Nat)), some (.int x1), some (.int x2), some (.int x3), some (.int x4), some (.int x5)] [] h Q := rfl
theorem cdn_X10_set : am_cd 73 = cd_X10_set := rfl
theorem en_X10_set {d : Nat} {h : am_H} {Q : Option Value → am_H → Prop} {k0 : Nat} {x1 : Int32} {x2 : Int32} {x3 : Int32} : CALL d 73 [.ref (k0 : Nat), .int x1, .int x2, .int x3] h Q = AW d 73 0 [some (.ref (k0 : Nat)), some (.int x1), some (.int x2), some (.int x3), none] [] h Q := rfl
theorem cdn_X10_where : am_cd 74 = cd_X10_where := rfl
theorem en_X10_where {d : Nat} {h : am_H} {Q : Option Value → am_H → Prop} {k0 : Nat} {x1 : Int32} {x2 : Int32} : CALL d 74 [.ref (k0 : Nat), .int x1, .int x2] h Q = AW d 74 0 [some (.ref (k0 : Nat)), some (.int x1), some (.int x2)] [] h Q := rfl
theorem cdn_X10_plain : am_cd 75 = cd_X10_plain := rfl
theorem en_X10_plain {d : Nat} {h : am_H} {Q : Option Value → am_H → Prop} {k0 : Nat} {x1 : Int32} {x2 : Int32} {x3 : Int32} {x4 : Int32} : CALL d 75 [.ref (k0 : Nat), .int x1, .int x2, .int x3, .int x4] h Q = AW d 75 0 [some (.ref (k0 : Nat)), some (.int x1), some (.int x2), some (.int x3), some (.int x4)] [] h Q := rfl
theorem cdn_X10_changed : am_cd 76 = cd_X10_changed := rfl
theorem en_X10_changed {d : Nat} {h : am_H} {Q : Option Value → am_H → Prop} {k0 : Nat} {x1 : Int32} {x2 : Int32} {x3 : Int32} : CALL d 76 [.ref (k0 : Nat), .int x1, .int x2, .int x3] h Q = AW d 76 0 [some (.ref (k0 : Nat)), some (.int x1), some (.int x2), some (.int x3), none, none] [] h Q := rfl
theorem cdn_X10_planted : am_cd 77 = cd_X10_planted := rfl
theorem en_X10_planted {d : Nat} {h : am_H} {Q : Option Value → am_H → Prop} {k0 : Nat} {x1 : Int32} {x2 : Int32} : CALL d 77 [.ref (k0 : Nat), .int x1, .int x2] h Q = AW d 77 0 [some (.ref (k0 : Nat)), some (.int x1), some (.int x2), none] [] h Q := rfl
theorem cdn_X10_real : am_cd 78 = cd_X10_real := rfl
theorem en_X10_real {d : Nat} {h : am_H} {Q : Option Value → am_H → Prop} {k0 : Nat} {x1 : Int32} {x2 : Int32} {x3 : Int32} {x4 : Int32} {x5 : Int32} : CALL d 78 [.ref (k0 : Nat), .int x1, .int x2, .int x3, .int x4, .int x5] h Q = AW d 78 0 [some (.ref (k0 : Nat)), some (.int x1), some (.int x2), some (.int x3), some (.int x4), some (.int x5), none] [] h Q := rfl
theorem cdn_X10_told : am_cd 79 = cd_X10_told := rfl
theorem en_X10_told {d : Nat} {h : am_H} {Q : Option Value → am_H → Prop} {k0 : Nat} {x1 : Int32} {x2 : Int32} : CALL d 79 [.ref (k0 : Nat), .int x1, .int x2] h Q = AW d 79 0 [some (.ref (k0 : Nat)), some (.int x1), some (.int x2), none] [] h Q := rfl
theorem cdn_X10_weight : am_cd 80 = cd_X10_weight := rfl
theorem en_X10_weight {d : Nat} {h : am_H} {Q : Option Value → am_H → Prop} {k0 : Nat} {x1 : Int32} {x2 : Int32} : CALL d 80 [.ref (k0 : Nat), .int x1, .int x2] h Q = AW d 80 0 [some (.ref (k0 : Nat)), some (.int x1), some (.int x2), none] [] h Q := rfl
theorem cdn_X10_begin : am_cd 81 = cd_X10_begin := rfl
theorem en_X10_begin {d : Nat} {h : am_H} {Q : Option Value → am_H → Prop} {k0 : Nat} {x1 : Int32} {x2 : Int32} : CALL d 81 [.ref (k0 : Nat), .int x1, .int x2] h Q = AW d 81 0 [some (.ref (k0 : Nat)), some (.int x1), some (.int x2), none, none] [] h Q := rfl
theorem cdn_X10_knows : am_cd 82 = cd_X10_knows := rfl
theorem en_X10_knows {d : Nat} {h : am_H} {Q : Option Value → am_H → Prop} {k0 : Nat} {x1 : Int32} {x2 : Int32} {x3 : Int32} : CALL d 82 [.ref (k0 : Nat), .int x1, .int x2, .int x3] h Q = AW d 82 0 [some (.ref (k0 : Nat)), some (.int x1), some (.int x2), some (.int x3), none, none] [] h Q := rfl
theorem cdn_X10_count : am_cd 83 = cd_X10_count := rfl
theorem en_X10_count {d : Nat} {h : am_H} {Q : Option Value → am_H → Prop} {k0 : Nat} {x1 : Int32} : CALL d 83 [.ref (k0 : Nat), .int x1] h Q = AW d 83 0 [some (.ref (k0 : Nat)), some (.int x1)] [] h Q := rfl
theorem cdn_X10_hours : am_cd 84 = cd_X10_hours := rfl
theorem en_X10_hours {d : Nat} {h : am_H} {Q : Option Value → am_H → Prop} {k0 : Nat} {x1 : Int32} : CALL d 84 [.ref (k0 : Nat), .int x1] h Q = AW d 84 0 [some (.ref (k0 : Nat)), some (.int x1), none] [] h Q := rfl
theorem cdn_X10_reach : am_cd 85 = cd_X10_reach := rfl
theorem en_X10_reach {d : Nat} {h : am_H} {Q : Option Value → am_H → Prop} {k0 : Nat} {x1 : Int32} {x2 : Int32} : CALL d 85 [.ref (k0 : Nat), .int x1, .int x2] h Q = AW d 85 0 [some (.ref (k0 : Nat)), some (.int x1), some (.int x2), none, none, none] [] h Q := rfl
theorem cdn_X10_harm : am_cd 86 = cd_X10_harm := rfl
theorem en_X10_harm {d : Nat} {h : am_H} {Q : Option Value → am_H → Prop} {k0 : Nat} {x1 : Int32} : CALL d 86 [.ref (k0 : Nat), .int x1] h Q = AW d 86 0 [some (.ref (k0 : Nat)), some (.int x1), none] [] h Q := rfl
theorem cdn_X10_deny : am_cd 87 = cd_X10_deny := rfl
theorem en_X10_deny {d : Nat} {h : am_H} {Q : Option Value → am_H → Prop} {k0 : Nat} {x1 : Int32} {x2 : Int32} : CALL d 87 [.ref (k0 : Nat), .int x1, .int x2] h Q = AW d 87 0 [some (.ref (k0 : Nat)), some (.int x1), some (.int x2), none] [] h Q := rfl
theorem cdn_X10_found : am_cd 88 = cd_X10_found := rfl
theorem en_X10_found {d : Nat} {h : am_H} {Q : Option Value → am_H → Prop} {k0 : Nat} {x1 : Int32} : CALL d 88 [.ref (k0 : Nat), .int x1] h Q = AW d 88 0 [some (.ref (k0 : Nat)), some (.int x1), none, none] [] h Q := rfl
theorem cdn_X10_foretold : am_cd 89 = cd_X10_foretold := rfl
theorem en_X10_foretold {d : Nat} {h : am_H} {Q : Option Value → am_H → Prop} {k0 : Nat} {x1 : Int32} : CALL d 89 [.ref (k0 : Nat), .int x1] h Q = AW d 89 0 [some (.ref (k0 : Nat)), some (.int x1), none, none] [] h Q := rfl
theorem cdn_X10_wording : am_cd 90 = cd_X10_wording := rfl
theorem en_X10_wording {d : Nat} {h : am_H} {Q : Option Value → am_H → Prop} {k0 : Nat} {x1 : Int32} {x2 : Int32} : CALL d 90 [.ref (k0 : Nat), .int x1, .int x2] h Q = AW d 90 0 [some (.ref (k0 : Nat)), some (.int x1), some (.int x2), none, none, none, none] [] h Q := rfl
theorem cdn_X10_plan : am_cd 91 = cd_X10_plan := rfl
theorem en_X10_plan {d : Nat} {h : am_H} {Q : Option Value → am_H → Prop} {k0 : Nat} {x1 : Int32} {x2 : Int32} : CALL d 91 [.ref (k0 : Nat), .int x1, .int x2] h Q = AW d 91 0 [some (.ref (k0 : Nat)), some (.int x1), some (.int x2), none, none] [] h Q := rfl
theorem cdn_X10_type : am_cd 92 = cd_X10_type := rfl
theorem en_X10_type {d : Nat} {h : am_H} {Q : Option Value → am_H → Prop} {k0 : Nat} {w1 : Int64} {x2 : Int32} : CALL d 92 [.ref (k0 : Nat), .long w1, .int x2] h Q = AW d 92 0 [some (.ref (k0 : Nat)), some (.long w1), none, some (.int x2), none, none] [] h Q := rfl
theorem cdn_X10_guide : am_cd 93 = cd_X10_guide := rfl
theorem en_X10_guide {d : Nat} {h : am_H} {Q : Option Value → am_H → Prop} {k0 : Nat} : CALL d 93 [.ref (k0 : Nat)] h Q = AW d 93 0 [some (.ref (k0 : Nat)), none, none] [] h Q := rfl
theorem cdn_X10_why : am_cd 94 = cd_X10_why := rfl
theorem en_X10_why {d : Nat} {h : am_H} {Q : Option Value → am_H → Prop} {k0 : Nat} {x1 : Int32} {x2 : Int32} : CALL d 94 [.ref (k0 : Nat), .int x1, .int x2] h Q = AW d 94 0 [some (.ref (k0 : Nat)), some (.int x1), some (.int x2), none] [] h Q := rfl
theorem cdn_X10_versions : am_cd 95 = cd_X10_versions := rfl
theorem en_X10_versions {d : Nat} {h : am_H} {Q : Option Value → am_H → Prop} {k0 : Nat} {x1 : Int32} : CALL d 95 [.ref (k0 : Nat), .int x1] h Q = AW d 95 0 [some (.ref (k0 : Nat)), some (.int x1)] [] h Q := rfl
theorem cdn_X10_version : am_cd 96 = cd_X10_version := rfl
theorem en_X10_version {d : Nat} {h : am_H} {Q : Option Value → am_H → Prop} {k0 : Nat} {x1 : Int32} {x2 : Int32} {x3 : Int32} : CALL d 96 [.ref (k0 : Nat), .int x1, .int x2, .int x3] h Q = AW d 96 0 [some (.ref (k0 : Nat)), some (.int x1), some (.int x2), some (.int x3)] [] h Q := rfl
theorem cdn_X10_kin : am_cd 97 = cd_X10_kin := rfl
theorem en_X10_kin {d : Nat} {h : am_H} {Q : Option Value → am_H → Prop} {k0 : Nat} {x1 : Int32} : CALL d 97 [.ref (k0 : Nat), .int x1] h Q = AW d 97 0 [some (.ref (k0 : Nat)), some (.int x1)] [] h Q := rfl
theorem cdn_X10_report : am_cd 98 = cd_X10_report := rfl
theorem en_X10_report {d : Nat} {h : am_H} {Q : Option Value → am_H → Prop} {k0 : Nat} {x1 : Int32} {x2 : Int32} {x3 : Int32} : CALL d 98 [.ref (k0 : Nat), .int x1, .int x2, .int x3] h Q = AW d 98 0 [some (.ref (k0 : Nat)), some (.int x1), some (.int x2), some (.int x3)] [] h Q := rfl
theorem cdn_X10_clear : am_cd 99 = cd_X10_clear := rfl
theorem en_X10_clear {d : Nat} {h : am_H} {Q : Option Value → am_H → Prop} {k0 : Nat} : CALL d 99 [.ref (k0 : Nat)] h Q = AW d 99 0 [some (.ref (k0 : Nat))] [] h Q := rfl
theorem cdn_X10_could : am_cd 100 = cd_X10_could := rfl
theorem en_X10_could {d : Nat} {h : am_H} {Q : Option Value → am_H → Prop} {k0 : Nat} {x1 : Int32} {x2 : Int32} {x3 : Int32} : CALL d 100 [.ref (k0 : Nat), .int x1, .int x2, .int x3] h Q = AW d 100 0 [some (.ref (k0 : Nat)), some (.int x1), some (.int x2), some (.int x3)] [] h Q := rfl
theorem cdn_X10_first : am_cd 101 = cd_X10_first := rfl
theorem en_X10_first {d : Nat} {h : am_H} {Q : Option Value → am_H → Prop} {k0 : Nat} {x1 : Int32} : CALL d 101 [.ref (k0 : Nat), .int x1] h Q = AW d 101 0 [some (.ref (k0 : Nat)), some (.int x1), none, none] [] h Q := rfl
theorem cdn_X10_posts : am_cd 102 = cd_X10_posts := rfl
theorem en_X10_posts {d : Nat} {h : am_H} {Q : Option Value → am_H → Prop} {k0 : Nat} {x1 : Int32} {x2 : Int32} : CALL d 102 [.ref (k0 : Nat), .int x1, .int x2] h Q = AW d 102 0 [some (.ref (k0 : Nat)), some (.int x1), some (.int x2), none, none] [] h Q := rfl
theorem cdn_X10_check : am_cd 103 = cd_X10_check := rfl
theorem en_X10_check {d : Nat} {h : am_H} {Q : Option Value → am_H → Prop} {k0 : Nat} {x1 : Int32} {x2 : Int32} {x3 : Int32} {x4 : Int32} {x5 : Int32} : CALL d 103 [.ref (k0 : Nat), .int x1, .int x2, .int x3, .int x4, .int x5] h Q = AW d 103 0 [some (.ref (k0 : Nat)), some (.int x1), some (.int x2), some (.int x3), some (.int x4), some (.int x5), none, none, none] [] h Q := rfl
theorem cdn_X10_sheet : am_cd 104 = cd_X10_sheet := rfl
theorem en_X10_sheet {d : Nat} {h : am_H} {Q : Option Value → am_H → Prop} {k0 : Nat} {x1 : Int32} {x2 : Int32} {x3 : Int32} : CALL d 104 [.ref (k0 : Nat), .int x1, .int x2, .int x3] h Q = AW d 104 0 [some (.ref (k0 : Nat)), some (.int x1), some (.int x2), some (.int x3)] [] h Q := rfl
theorem cdn_X10_drop : am_cd 105 = cd_X10_drop := rfl
theorem en_X10_drop {d : Nat} {h : am_H} {Q : Option Value → am_H → Prop} {k0 : Nat} {x1 : Int32} : CALL d 105 [.ref (k0 : Nat), .int x1] h Q = AW d 105 0 [some (.ref (k0 : Nat)), some (.int x1), none] [] h Q := rfl
theorem cdn_X10_item : am_cd 106 = cd_X10_item := rfl
theorem en_X10_item {d : Nat} {h : am_H} {Q : Option Value → am_H → Prop} {k0 : Nat} {x1 : Int32} {x2 : Int32} {x3 : Int32} {x4 : Int32} : CALL d 106 [.ref (k0 : Nat), .int x1, .int x2, .int x3, .int x4] h Q = AW d 106 0 [some (.ref (k0 : Nat)), some (.int x1), some (.int x2), some (.int x3), some (.int x4), none, none] [] h Q := rfl
theorem cdn_X10_copy : am_cd 107 = cd_X10_copy := rfl
theorem en_X10_copy {d : Nat} {h : am_H} {Q : Option Value → am_H → Prop} {k0 : Nat} {x1 : Int32} {x2 : Int32} {x3 : Int32} {x4 : Int32} {x5 : Int32} : CALL d 107 [.ref (k0 : Nat), .int x1, .int x2, .int x3, .int x4, .int x5] h Q = AW d 107 0 [some (.ref (k0 : Nat)), some (.int x1), some (.int x2), some (.int x3), some (.int x4), some (.int x5), none, none] [] h Q := rfl
theorem cdn_X10_reads : am_cd 108 = cd_X10_reads := rfl
theorem en_X10_reads {d : Nat} {h : am_H} {Q : Option Value → am_H → Prop} {k0 : Nat} {x1 : Int32} {x2 : Int32} : CALL d 108 [.ref (k0 : Nat), .int x1, .int x2] h Q = AW d 108 0 [some (.ref (k0 : Nat)), some (.int x1), some (.int x2), none, none, none, none] [] h Q := rfl
theorem cdn_X10_within : am_cd 109 = cd_X10_within := rfl
theorem en_X10_within {d : Nat} {h : am_H} {Q : Option Value → am_H → Prop} {x0 : Int32} {x1 : Int32} : CALL d 109 [.int x0, .int x1] h Q = AW d 109 0 [some (.int x0), some (.int x1)] [] h Q := rfl
theorem cdn_X10_has : am_cd 110 = cd_X10_has := rfl
theorem en_X10_has {d : Nat} {h : am_H} {Q : Option Value → am_H → Prop} {x0 : Int32} {x1 : Int32} : CALL d 110 [.int x0, .int x1] h Q = AW d 110 0 [some (.int x0), some (.int x1)] [] h Q := rfl
theorem cdn_X10_byteOf : am_cd 111 = cd_X10_byteOf := rfl
theorem en_X10_byteOf {d : Nat} {h : am_H} {Q : Option Value → am_H → Prop} {w0 : Int64} {x1 : Int32} : CALL d 111 [.long w0, .int x1] h Q = AW d 111 0 [some (.long w0), none, some (.int x1)] [] h Q := rfl
theorem cdn_X10_areParts : am_cd 112 = cd_X10_areParts := rfl
theorem en_X10_areParts {d : Nat} {h : am_H} {Q : Option Value → am_H → Prop} {x0 : Int32} {x1 : Int32} {x2 : Int32} {x3 : Int32} : CALL d 112 [.int x0, .int x1, .int x2, .int x3] h Q = AW d 112 0 [some (.int x0), some (.int x1), some (.int x2), some (.int x3)] [] h Q := rfl
theorem cdn_X10_isSheet : am_cd 113 = cd_X10_isSheet := rfl
theorem en_X10_isSheet {d : Nat} {h : am_H} {Q : Option Value → am_H → Prop} {x0 : Int32} : CALL d 113 [.int x0] h Q = AW d 113 0 [some (.int x0)] [] h Q := rfl
theorem cdn_X10_isPerson : am_cd 114 = cd_X10_isPerson := rfl
theorem en_X10_isPerson {d : Nat} {h : am_H} {Q : Option Value → am_H → Prop} {k0 : Nat} {x1 : Int32} : CALL d 114 [.ref (k0 : Nat), .int x1] h Q = AW d 114 0 [some (.ref (k0 : Nat)), some (.int x1)] [] h Q := rfl
theorem cdn_X10_isSaying : am_cd 115 = cd_X10_isSaying := rfl
theorem en_X10_isSaying {d : Nat} {h : am_H} {Q : Option Value → am_H → Prop} {k0 : Nat} {x1 : Int32} : CALL d 115 [.ref (k0 : Nat), .int x1] h Q = AW d 115 0 [some (.ref (k0 : Nat)), some (.int x1)] [] h Q := rfl
theorem cdn_X10_comeUp : am_cd 116 = cd_X10_comeUp := rfl
theorem en_X10_comeUp {d : Nat} {h : am_H} {Q : Option Value → am_H → Prop} {k0 : Nat} {x1 : Int32} {x2 : Int32} : CALL d 116 [.ref (k0 : Nat), .int x1, .int x2] h Q = AW d 116 0 [some (.ref (k0 : Nat)), some (.int x1), some (.int x2), none] [] h Q := rfl
theorem cdn_X10_harmAhead : am_cd 117 = cd_X10_harmAhead := rfl
theorem en_X10_harmAhead {d : Nat} {h : am_H} {Q : Option Value → am_H → Prop} {k0 : Nat} {x1 : Int32} {x2 : Int32} {x3 : Int32} : CALL d 117 [.ref (k0 : Nat), .int x1, .int x2, .int x3] h Q = AW d 117 0 [some (.ref (k0 : Nat)), some (.int x1), some (.int x2), some (.int x3), none] [] h Q := rfl
theorem cdn_X10_agreesAtSomeHour : am_cd 118 = cd_X10_agreesAtSomeHour := rfl
theorem en_X10_agreesAtSomeHour {d : Nat} {h : am_H} {Q : Option Value → am_H → Prop} {k0 : Nat} {x1 : Int32} {x2 : Int32} : CALL d 118 [.ref (k0 : Nat), .int x1, .int x2] h Q = AW d 118 0 [some (.ref (k0 : Nat)), some (.int x1), some (.int x2), none] [] h Q := rfl
theorem cdn_X10_agrees : am_cd 119 = cd_X10_agrees := rfl
theorem en_X10_agrees {d : Nat} {h : am_H} {Q : Option Value → am_H → Prop} {k0 : Nat} {x1 : Int32} {x2 : Int32} {x3 : Int32} : CALL d 119 [.ref (k0 : Nat), .int x1, .int x2, .int x3] h Q = AW d 119 0 [some (.ref (k0 : Nat)), some (.int x1), some (.int x2), some (.int x3), none] [] h Q := rfl
theorem cdn_X11_in : am_cd 120 = cd_X11_in := rfl
theorem en_X11_in {d : Nat} {h : am_H} {Q : Option Value → am_H → Prop} {w0 : Int64} {w1 : Int64} {w2 : Int64} : CALL d 120 [.long w0, .long w1, .long w2] h Q = AW d 120 0 [some (.long w0), none, some (.long w1), none, some (.long w2), none] [] h Q := rfl
theorem cdn_X11_init : am_cd 121 = cd_X11_init := rfl
theorem en_X11_init {d : Nat} {h : am_H} {Q : Option Value → am_H → Prop} {k0 : Nat} : CALL d 121 [.ref (k0 : Nat)] h Q = AW d 121 0 [some (.ref (k0 : Nat)), none] [] h Q := rfl
theorem cdn_X11_isPerson : am_cd 122 = cd_X11_isPerson := rfl
theorem en_X11_isPerson {d : Nat} {h : am_H} {Q : Option Value → am_H → Prop} {k0 : Nat} {x1 : Int32} : CALL d 122 [.ref (k0 : Nat), .int x1] h Q = AW d 122 0 [some (.ref (k0 : Nat)), some (.int x1)] [] h Q := rfl
theorem cdn_X11_isPlace : am_cd 123 = cd_X11_isPlace := rfl
theorem en_X11_isPlace {d : Nat} {h : am_H} {Q : Option Value → am_H → Prop} {x0 : Int32} : CALL d 123 [.int x0] h Q = AW d 123 0 [some (.int x0)] [] h Q := rfl
theorem cdn_X11_most : am_cd 124 = cd_X11_most := rfl
theorem en_X11_most {d : Nat} {h : am_H} {Q : Option Value → am_H → Prop} {x0 : Int32} : CALL d 124 [.int x0] h Q = AW d 124 0 [some (.int x0)] [] h Q := rfl
theorem cdn_X11_person : am_cd 125 = cd_X11_person := rfl
theorem en_X11_person {d : Nat} {h : am_H} {Q : Option Value → am_H → Prop} {k0 : Nat} {x1 : Int32} {x2 : Int32} {x3 : Int32} {x4 : Int32} {x5 : Int32} : CALL d 125 [.ref (k0 : Nat), .int x1, .int x2, .int x3, .int x4, .int x5] h Q = AW d 125 0 [some (.ref (k0 : Nat)), some (.int x1), some (.int x2), some (.int x3), some (.int x4), some (.int x5)] [] h Q := rfl
theorem cdn_X11_set : am_cd 126 = cd_X11_set := rfl
theorem en_X11_set {d : Nat} {h : am_H} {Q : Option Value → am_H → Prop} {k0 : Nat} {x1 : Int32} {x2 : Int32} {x3 : Int32} : CALL d 126 [.ref (k0 : Nat), .int x1, .int x2, .int x3] h Q = AW d 126 0 [some (.ref (k0 : Nat)), some (.int x1), some (.int x2), some (.int x3), none] [] h Q := rfl
theorem cdn_X11_placeOf : am_cd 127 = cd_X11_placeOf := rfl
theorem en_X11_placeOf {d : Nat} {h : am_H} {Q : Option Value → am_H → Prop} {k0 : Nat} {x1 : Int32} {x2 : Int32} : CALL d 127 [.ref (k0 : Nat), .int x1, .int x2] h Q = AW d 127 0 [some (.ref (k0 : Nat)), some (.int x1), some (.int x2), none] [] h Q := rfl
theorem cdn_X11_where : am_cd 128 = cd_X11_where := rfl
theorem en_X11_where {d : Nat} {h : am_H} {Q : Option Value → am_H → Prop} {k0 : Nat} {x1 : Int32} {x2 : Int32} : CALL d 128 [.ref (k0 : Nat), .int x1, .int x2] h Q = AW d 128 0 [some (.ref (k0 : Nat)), some (.int x1), some (.int x2)] [] h Q := rfl
theorem cdn_X11_trust : am_cd 129 = cd_X11_trust := rfl
theorem en_X11_trust {d : Nat} {h : am_H} {Q : Option Value → am_H → Prop} {k0 : Nat} {x1 : Int32} : CALL d 129 [.ref (k0 : Nat), .int x1] h Q = AW d 129 0 [some (.ref (k0 : Nat)), some (.int x1)] [] h Q := rfl
theorem cdn_X11_isReader : am_cd 130 = cd_X11_isReader := rfl
theorem en_X11_isReader {d : Nat} {h : am_H} {Q : Option Value → am_H → Prop} {k0 : Nat} {x1 : Int32} : CALL d 130 [.ref (k0 : Nat), .int x1] h Q = AW d 130 0 [some (.ref (k0 : Nat)), some (.int x1)] [] h Q := rfl
theorem cdn_X11_fear : am_cd 131 = cd_X11_fear := rfl
theorem en_X11_fear {d : Nat} {h : am_H} {Q : Option Value → am_H → Prop} {k0 : Nat} {x1 : Int32} : CALL d 131 [.ref (k0 : Nat), .int x1] h Q = AW d 131 0 [some (.ref (k0 : Nat)), some (.int x1)] [] h Q := rfl
theorem cdn_X11_isSaying : am_cd 132 = cd_X11_isSaying := rfl
theorem en_X11_isSaying {d : Nat} {h : am_H} {Q : Option Value → am_H → Prop} {k0 : Nat} {x1 : Int32} : CALL d 132 [.ref (k0 : Nat), .int x1] h Q = AW d 132 0 [some (.ref (k0 : Nat)), some (.int x1)] [] h Q := rfl
theorem cdn_X11_isDigit : am_cd 133 = cd_X11_isDigit := rfl
theorem en_X11_isDigit {d : Nat} {h : am_H} {Q : Option Value → am_H → Prop} {x0 : Int32} : CALL d 133 [.int x0] h Q = AW d 133 0 [some (.int x0)] [] h Q := rfl
theorem cdn_X11_unit : am_cd 134 = cd_X11_unit := rfl
theorem en_X11_unit {d : Nat} {h : am_H} {Q : Option Value → am_H → Prop} {x0 : Int32} : CALL d 134 [.int x0] h Q = AW d 134 0 [some (.int x0)] [] h Q := rfl
theorem cdn_X11_partOf : am_cd 135 = cd_X11_partOf := rfl
theorem en_X11_partOf {d : Nat} {h : am_H} {Q : Option Value → am_H → Prop} {x0 : Int32} {x1 : Int32} : CALL d 135 [.int x0, .int x1] h Q = AW d 135 0 [some (.int x0), some (.int x1)] [] h Q := rfl
theorem cdn_X11_comes : am_cd 136 = cd_X11_comes := rfl
theorem en_X11_comes {d : Nat} {h : am_H} {Q : Option Value → am_H → Prop} {k0 : Nat} {x1 : Int32} {x2 : Int32} {x3 : Int32} {x4 : Int32} {x5 : Int32} : CALL d 136 [.ref (k0 : Nat), .int x1, .int x2, .int x3, .int x4, .int x5] h Q = AW d 136 0 [some (.ref (k0 : Nat)), some (.int x1), some (.int x2), some (.int x3), some (.int x4), some (.int x5)] [] h Q := rfl
theorem cdn_X11_areParts : am_cd 137 = cd_X11_areParts := rfl
theorem en_X11_areParts {d : Nat} {h : am_H} {Q : Option Value → am_H → Prop} {x0 : Int32} {x1 : Int32} {x2 : Int32} {x3 : Int32} : CALL d 137 [.int x0, .int x1, .int x2, .int x3] h Q = AW d 137 0 [some (.int x0), some (.int x1), some (.int x2), some (.int x3)] [] h Q := rfl
theorem cdn_X11_plain : am_cd 138 = cd_X11_plain := rfl
theorem en_X11_plain {d : Nat} {h : am_H} {Q : Option Value → am_H → Prop} {k0 : Nat} {x1 : Int32} {x2 : Int32} {x3 : Int32} {x4 : Int32} : CALL d 138 [.ref (k0 : Nat), .int x1, .int x2, .int x3, .int x4] h Q = AW d 138 0 [some (.ref (k0 : Nat)), some (.int x1), some (.int x2), some (.int x3), some (.int x4)] [] h Q := rfl
theorem cdn_X11_changed : am_cd 139 = cd_X11_changed := rfl
theorem en_X11_changed {d : Nat} {h : am_H} {Q : Option Value → am_H → Prop} {k0 : Nat} {x1 : Int32} {x2 : Int32} {x3 : Int32} : CALL d 139 [.ref (k0 : Nat), .int x1, .int x2, .int x3] h Q = AW d 139 0 [some (.ref (k0 : Nat)), some (.int x1), some (.int x2), some (.int x3), none] [] h Q := rfl
theorem cdn_X11_planted : am_cd 140 = cd_X11_planted := rfl
theorem en_X11_planted {d : Nat} {h : am_H} {Q : Option Value → am_H → Prop} {k0 : Nat} {x1 : Int32} {x2 : Int32} : CALL d 140 [.ref (k0 : Nat), .int x1, .int x2] h Q = AW d 140 0 [some (.ref (k0 : Nat)), some (.int x1), some (.int x2)] [] h Q := rfl
theorem cdn_X11_real : am_cd 141 = cd_X11_real := rfl
theorem en_X11_real {d : Nat} {h : am_H} {Q : Option Value → am_H → Prop} {k0 : Nat} {x1 : Int32} {x2 : Int32} {x3 : Int32} {x4 : Int32} {x5 : Int32} : CALL d 141 [.ref (k0 : Nat), .int x1, .int x2, .int x3, .int x4, .int x5] h Q = AW d 141 0 [some (.ref (k0 : Nat)), some (.int x1), some (.int x2), some (.int x3), some (.int x4), some (.int x5)] [] h Q := rfl
theorem cdn_X11_told : am_cd 142 = cd_X11_told := rfl
theorem en_X11_told {d : Nat} {h : am_H} {Q : Option Value → am_H → Prop} {k0 : Nat} {x1 : Int32} {x2 : Int32} : CALL d 142 [.ref (k0 : Nat), .int x1, .int x2] h Q = AW d 142 0 [some (.ref (k0 : Nat)), some (.int x1), some (.int x2), none] [] h Q := rfl
theorem cdn_X11_weight : am_cd 143 = cd_X11_weight := rfl
theorem en_X11_weight {d : Nat} {h : am_H} {Q : Option Value → am_H → Prop} {k0 : Nat} {x1 : Int32} {x2 : Int32} : CALL d 143 [.ref (k0 : Nat), .int x1, .int x2] h Q = AW d 143 0 [some (.ref (k0 : Nat)), some (.int x1), some (.int x2), none] [] h Q := rfl
theorem cdn_X11_takes : am_cd 144 = cd_X11_takes := rfl
theorem en_X11_takes {d : Nat} {h : am_H} {Q : Option Value → am_H → Prop} {k0 : Nat} {x1 : Int32} {x2 : Int32} {x3 : Int32} {x4 : Int32} : CALL d 144 [.ref (k0 : Nat), .int x1, .int x2, .int x3, .int x4] h Q = AW d 144 0 [some (.ref (k0 : Nat)), some (.int x1), some (.int x2), some (.int x3), some (.int x4)] [] h Q := rfl
theorem cdn_X11_becomes : am_cd 145 = cd_X11_becomes := rfl
theorem en_X11_becomes {d : Nat} {h : am_H} {Q : Option Value → am_H → Prop} {k0 : Nat} {x1 : Int32} {x2 : Int32} : CALL d 145 [.ref (k0 : Nat), .int x1, .int x2] h Q = AW d 145 0 [some (.ref (k0 : Nat)), some (.int x1), some (.int x2)] [] h Q := rfl
theorem cdn_X11_begin : am_cd 146 = cd_X11_begin := rfl
theorem en_X11_begin {d : Nat} {h : am_H} {Q : Option Value → am_H → Prop} {k0 : Nat} {x1 : Int32} {x2 : Int32} : CALL d 146 [.ref (k0 : Nat), .int x1, .int x2] h Q = AW d 146 0 [some (.ref (k0 : Nat)), some (.int x1), some (.int x2), none, none] [] h Q := rfl
theorem cdn_X11_knows : am_cd 147 = cd_X11_knows := rfl
theorem en_X11_knows {d : Nat} {h : am_H} {Q : Option Value → am_H → Prop} {k0 : Nat} {x1 : Int32} {x2 : Int32} {x3 : Int32} : CALL d 147 [.ref (k0 : Nat), .int x1, .int x2, .int x3] h Q = AW d 147 0 [some (.ref (k0 : Nat)), some (.int x1), some (.int x2), some (.int x3), none] [] h Q := rfl
theorem cdn_X11_count : am_cd 148 = cd_X11_count := rfl
theorem en_X11_count {d : Nat} {h : am_H} {Q : Option Value → am_H → Prop} {k0 : Nat} {x1 : Int32} : CALL d 148 [.ref (k0 : Nat), .int x1] h Q = AW d 148 0 [some (.ref (k0 : Nat)), some (.int x1)] [] h Q := rfl
theorem cdn_X11_isLoud : am_cd 149 = cd_X11_isLoud := rfl
theorem en_X11_isLoud {d : Nat} {h : am_H} {Q : Option Value → am_H → Prop} {k0 : Nat} {x1 : Int32} {x2 : Int32} : CALL d 149 [.ref (k0 : Nat), .int x1, .int x2] h Q = AW d 149 0 [some (.ref (k0 : Nat)), some (.int x1), some (.int x2), none] [] h Q := rfl
theorem cdn_X11_hears : am_cd 150 = cd_X11_hears := rfl
theorem en_X11_hears {d : Nat} {h : am_H} {Q : Option Value → am_H → Prop} {k0 : Nat} {x1 : Int32} {x2 : Int32} {x3 : Int32} {x4 : Int32} : CALL d 150 [.ref (k0 : Nat), .int x1, .int x2, .int x3, .int x4] h Q = AW d 150 0 [some (.ref (k0 : Nat)), some (.int x1), some (.int x2), some (.int x3), some (.int x4), none, none] [] h Q := rfl
theorem cdn_X11_hourOf : am_cd 151 = cd_X11_hourOf := rfl
theorem en_X11_hourOf {d : Nat} {h : am_H} {Q : Option Value → am_H → Prop} {k0 : Nat} {x1 : Int32} : CALL d 151 [.ref (k0 : Nat), .int x1] h Q = AW d 151 0 [some (.ref (k0 : Nat)), some (.int x1), none, none, none, none, none] [] h Q := rfl
theorem cdn_X11_hour : am_cd 152 = cd_X11_hour := rfl
theorem en_X11_hour {d : Nat} {h : am_H} {Q : Option Value → am_H → Prop} {k0 : Nat} : CALL d 152 [.ref (k0 : Nat)] h Q = AW d 152 0 [some (.ref (k0 : Nat)), none] [] h Q := rfl
theorem cdn_X11_hours : am_cd 153 = cd_X11_hours := rfl
theorem en_X11_hours {d : Nat} {h : am_H} {Q : Option Value → am_H → Prop} {k0 : Nat} {x1 : Int32} : CALL d 153 [.ref (k0 : Nat), .int x1] h Q = AW d 153 0 [some (.ref (k0 : Nat)), some (.int x1), none] [] h Q := rfl
theorem cdn_X11_stateMany : am_cd 154 = cd_X11_stateMany := rfl
theorem en_X11_stateMany {d : Nat} {h : am_H} {Q : Option Value → am_H → Prop} {k0 : Nat} {x1 : Int32} {x2 : Int32} : CALL d 154 [.ref (k0 : Nat), .int x1, .int x2] h Q = AW d 154 0 [some (.ref (k0 : Nat)), some (.int x1), some (.int x2), none, none] [] h Q := rfl
theorem cdn_X11_reach : am_cd 155 = cd_X11_reach := rfl
theorem en_X11_reach {d : Nat} {h : am_H} {Q : Option Value → am_H → Prop} {k0 : Nat} {x1 : Int32} {x2 : Int32} : CALL d 155 [.ref (k0 : Nat), .int x1, .int x2] h Q = AW d 155 0 [some (.ref (k0 : Nat)), some (.int x1), some (.int x2)] [] h Q := rfl
theorem cdn_X11_harmOf : am_cd 156 = cd_X11_harmOf := rfl
theorem en_X11_harmOf {d : Nat} {h : am_H} {Q : Option Value → am_H → Prop} {k0 : Nat} {x1 : Int32} : CALL d 156 [.ref (k0 : Nat), .int x1] h Q = AW d 156 0 [some (.ref (k0 : Nat)), some (.int x1), none, none] [] h Q := rfl
theorem cdn_X11_harm : am_cd 157 = cd_X11_harm := rfl
theorem en_X11_harm {d : Nat} {h : am_H} {Q : Option Value → am_H → Prop} {k0 : Nat} {x1 : Int32} : CALL d 157 [.ref (k0 : Nat), .int x1] h Q = AW d 157 0 [some (.ref (k0 : Nat)), some (.int x1)] [] h Q := rfl
theorem cdn_X11_denies : am_cd 158 = cd_X11_denies := rfl
theorem en_X11_denies {d : Nat} {h : am_H} {Q : Option Value → am_H → Prop} {k0 : Nat} {x1 : Int32} {x2 : Int32} : CALL d 158 [.ref (k0 : Nat), .int x1, .int x2] h Q = AW d 158 0 [some (.ref (k0 : Nat)), some (.int x1), some (.int x2), none, none, none, none, none, none] [] h Q := rfl
theorem cdn_X11_mayBeDenied : am_cd 159 = cd_X11_mayBeDenied := rfl
theorem en_X11_mayBeDenied {d : Nat} {h : am_H} {Q : Option Value → am_H → Prop} {k0 : Nat} {x1 : Int32} : CALL d 159 [.ref (k0 : Nat), .int x1] h Q = AW d 159 0 [some (.ref (k0 : Nat)), some (.int x1)] [] h Q := rfl
theorem cdn_X11_deny : am_cd 160 = cd_X11_deny := rfl
theorem en_X11_deny {d : Nat} {h : am_H} {Q : Option Value → am_H → Prop} {k0 : Nat} {x1 : Int32} {x2 : Int32} : CALL d 160 [.ref (k0 : Nat), .int x1, .int x2] h Q = AW d 160 0 [some (.ref (k0 : Nat)), some (.int x1), some (.int x2)] [] h Q := rfl
theorem cdn_X11_found : am_cd 161 = cd_X11_found := rfl
theorem en_X11_found {d : Nat} {h : am_H} {Q : Option Value → am_H → Prop} {k0 : Nat} {x1 : Int32} : CALL d 161 [.ref (k0 : Nat), .int x1] h Q = AW d 161 0 [some (.ref (k0 : Nat)), some (.int x1), none, none, none] [] h Q := rfl
theorem cdn_X11_keeps : am_cd 162 = cd_X11_keeps := rfl
theorem en_X11_keeps {d : Nat} {h : am_H} {Q : Option Value → am_H → Prop} {k0 : Nat} : CALL d 162 [.ref (k0 : Nat)] h Q = AW d 162 0 [some (.ref (k0 : Nat)), none] [] h Q := rfl
theorem cdn_X11_returns : am_cd 163 = cd_X11_returns := rfl
theorem en_X11_returns {d : Nat} {h : am_H} {Q : Option Value → am_H → Prop} {k0 : Nat} : CALL d 163 [.ref (k0 : Nat)] h Q = AW d 163 0 [some (.ref (k0 : Nat)), none] [] h Q := rfl
theorem cdn_X11_harmBy : am_cd 164 = cd_X11_harmBy := rfl
theorem en_X11_harmBy {d : Nat} {h : am_H} {Q : Option Value → am_H → Prop} {k0 : Nat} {x1 : Int32} {x2 : Int32} {x3 : Int32} : CALL d 164 [.ref (k0 : Nat), .int x1, .int x2, .int x3] h Q = AW d 164 0 [some (.ref (k0 : Nat)), some (.int x1), some (.int x2), some (.int x3), none, none] [] h Q := rfl
theorem cdn_X11_foretold : am_cd 165 = cd_X11_foretold := rfl
theorem en_X11_foretold {d : Nat} {h : am_H} {Q : Option Value → am_H → Prop} {k0 : Nat} {x1 : Int32} : CALL d 165 [.ref (k0 : Nat), .int x1] h Q = AW d 165 0 [some (.ref (k0 : Nat)), some (.int x1)] [] h Q := rfl
theorem cdn_X11_wording : am_cd 166 = cd_X11_wording := rfl
theorem en_X11_wording {d : Nat} {h : am_H} {Q : Option Value → am_H → Prop} {k0 : Nat} {x1 : Int32} {x2 : Int32} : CALL d 166 [.ref (k0 : Nat), .int x1, .int x2] h Q = AW d 166 0 [some (.ref (k0 : Nat)), some (.int x1), some (.int x2), none, none, none, none] [] h Q := rfl
theorem cdn_X11_size : am_cd 167 = cd_X11_size := rfl
theorem en_X11_size {d : Nat} {h : am_H} {Q : Option Value → am_H → Prop} {x0 : Int32} : CALL d 167 [.int x0] h Q = AW d 167 0 [some (.int x0), none, none] [] h Q := rfl
theorem cdn_X11_plan : am_cd 168 = cd_X11_plan := rfl
theorem en_X11_plan {d : Nat} {h : am_H} {Q : Option Value → am_H → Prop} {k0 : Nat} {x1 : Int32} {x2 : Int32} : CALL d 168 [.ref (k0 : Nat), .int x1, .int x2] h Q = AW d 168 0 [some (.ref (k0 : Nat)), some (.int x1), some (.int x2), none, none, none, none, none] [] h Q := rfl
theorem cdn_X11_type : am_cd 169 = cd_X11_type := rfl
theorem en_X11_type {d : Nat} {h : am_H} {Q : Option Value → am_H → Prop} {k0 : Nat} {w1 : Int64} {x2 : Int32} : CALL d 169 [.ref (k0 : Nat), .long w1, .int x2] h Q = AW d 169 0 [some (.ref (k0 : Nat)), some (.long w1), none, some (.int x2), none] [] h Q := rfl
theorem cdn_X11_next : am_cd 170 = cd_X11_next := rfl
theorem en_X11_next {d : Nat} {h : am_H} {Q : Option Value → am_H → Prop} {k0 : Nat} : CALL d 170 [.ref (k0 : Nat)] h Q = AW d 170 0 [some (.ref (k0 : Nat))] [] h Q := rfl
theorem cdn_X11_passes : am_cd 171 = cd_X11_passes := rfl
theorem en_X11_passes {d : Nat} {h : am_H} {Q : Option Value → am_H → Prop} {k0 : Nat} {x1 : Int32} : CALL d 171 [.ref (k0 : Nat), .int x1] h Q = AW d 171 0 [some (.ref (k0 : Nat)), some (.int x1), none] [] h Q := rfl
theorem cdn_X11_claim : am_cd 172 = cd_X11_claim := rfl
theorem en_X11_claim {d : Nat} {h : am_H} {Q : Option Value → am_H → Prop} {k0 : Nat} {x1 : Int32} : CALL d 172 [.ref (k0 : Nat), .int x1] h Q = AW d 172 0 [some (.ref (k0 : Nat)), some (.int x1), none, none, none, none, none] [] h Q := rfl
theorem cdn_X11_test : am_cd 173 = cd_X11_test := rfl
theorem en_X11_test {d : Nat} {h : am_H} {Q : Option Value → am_H → Prop} {k0 : Nat} {x1 : Int32} : CALL d 173 [.ref (k0 : Nat), .int x1] h Q = AW d 173 0 [some (.ref (k0 : Nat)), some (.int x1), none, none, none, none] [] h Q := rfl
theorem cdn_X11_number : am_cd 174 = cd_X11_number := rfl
theorem en_X11_number {d : Nat} {h : am_H} {Q : Option Value → am_H → Prop} {k0 : Nat} {x1 : Int32} : CALL d 174 [.ref (k0 : Nat), .int x1] h Q = AW d 174 0 [some (.ref (k0 : Nat)), some (.int x1), none, none] [] h Q := rfl
theorem cdn_X11_clause : am_cd 175 = cd_X11_clause := rfl
theorem en_X11_clause {d : Nat} {h : am_H} {Q : Option Value → am_H → Prop} {k0 : Nat} {x1 : Int32} : CALL d 175 [.ref (k0 : Nat), .int x1] h Q = AW d 175 0 [some (.ref (k0 : Nat)), some (.int x1), none, none] [] h Q := rfl
theorem cdn_X11_guide : am_cd 176 = cd_X11_guide := rfl
theorem en_X11_guide {d : Nat} {h : am_H} {Q : Option Value → am_H → Prop} {k0 : Nat} : CALL d 176 [.ref (k0 : Nat)] h Q = AW d 176 0 [some (.ref (k0 : Nat)), none, none, none] [] h Q := rfl
theorem cdn_X11_why : am_cd 177 = cd_X11_why := rfl
theorem en_X11_why {d : Nat} {h : am_H} {Q : Option Value → am_H → Prop} {k0 : Nat} {x1 : Int32} {x2 : Int32} : CALL d 177 [.ref (k0 : Nat), .int x1, .int x2] h Q = AW d 177 0 [some (.ref (k0 : Nat)), some (.int x1), some (.int x2), none, none, none, none, none] [] h Q := rfl
theorem cdn_X11_looks : am_cd 178 = cd_X11_looks := rfl
theorem en_X11_looks {d : Nat} {h : am_H} {Q : Option Value → am_H → Prop} {k0 : Nat} {x1 : Int32} : CALL d 178 [.ref (k0 : Nat), .int x1] h Q = AW d 178 0 [some (.ref (k0 : Nat)), some (.int x1), none, none, none, none, none] [] h Q := rfl
theorem cdn_X11_far : am_cd 179 = cd_X11_far := rfl
theorem en_X11_far {d : Nat} {h : am_H} {Q : Option Value → am_H → Prop} {x0 : Int32} {x1 : Int32} : CALL d 179 [.int x0, .int x1] h Q = AW d 179 0 [some (.int x0), some (.int x1), none, none] [] h Q := rfl
theorem cdn_X11_joins : am_cd 180 = cd_X11_joins := rfl
theorem en_X11_joins {d : Nat} {h : am_H} {Q : Option Value → am_H → Prop} {k0 : Nat} {x1 : Int32} : CALL d 180 [.ref (k0 : Nat), .int x1] h Q = AW d 180 0 [some (.ref (k0 : Nat)), some (.int x1), none, none, none, none, none, none, none, none] [] h Q := rfl
theorem cdn_X11_versions : am_cd 181 = cd_X11_versions := rfl
theorem en_X11_versions {d : Nat} {h : am_H} {Q : Option Value → am_H → Prop} {k0 : Nat} {x1 : Int32} : CALL d 181 [.ref (k0 : Nat), .int x1] h Q = AW d 181 0 [some (.ref (k0 : Nat)), some (.int x1)] [] h Q := rfl
theorem cdn_X11_version : am_cd 182 = cd_X11_version := rfl
theorem en_X11_version {d : Nat} {h : am_H} {Q : Option Value → am_H → Prop} {k0 : Nat} {x1 : Int32} {x2 : Int32} {x3 : Int32} : CALL d 182 [.ref (k0 : Nat), .int x1, .int x2, .int x3] h Q = AW d 182 0 [some (.ref (k0 : Nat)), some (.int x1), some (.int x2), some (.int x3)] [] h Q := rfl
theorem cdn_X11_kin : am_cd 183 = cd_X11_kin := rfl
theorem en_X11_kin {d : Nat} {h : am_H} {Q : Option Value → am_H → Prop} {k0 : Nat} {x1 : Int32} : CALL d 183 [.ref (k0 : Nat), .int x1] h Q = AW d 183 0 [some (.ref (k0 : Nat)), some (.int x1)] [] h Q := rfl
theorem cdn_X11_report : am_cd 184 = cd_X11_report := rfl
theorem en_X11_report {d : Nat} {h : am_H} {Q : Option Value → am_H → Prop} {k0 : Nat} {x1 : Int32} {x2 : Int32} {x3 : Int32} : CALL d 184 [.ref (k0 : Nat), .int x1, .int x2, .int x3] h Q = AW d 184 0 [some (.ref (k0 : Nat)), some (.int x1), some (.int x2), some (.int x3)] [] h Q := rfl
theorem cdn_X11_clear : am_cd 185 = cd_X11_clear := rfl
theorem en_X11_clear {d : Nat} {h : am_H} {Q : Option Value → am_H → Prop} {k0 : Nat} : CALL d 185 [.ref (k0 : Nat)] h Q = AW d 185 0 [some (.ref (k0 : Nat)), none] [] h Q := rfl
theorem cdn_X11_isHeard : am_cd 186 = cd_X11_isHeard := rfl
theorem en_X11_isHeard {d : Nat} {h : am_H} {Q : Option Value → am_H → Prop} {k0 : Nat} {x1 : Int32} {x2 : Int32} : CALL d 186 [.ref (k0 : Nat), .int x1, .int x2] h Q = AW d 186 0 [some (.ref (k0 : Nat)), some (.int x1), some (.int x2), none, none] [] h Q := rfl
theorem cdn_X11_agrees : am_cd 187 = cd_X11_agrees := rfl
theorem en_X11_agrees {d : Nat} {h : am_H} {Q : Option Value → am_H → Prop} {k0 : Nat} {x1 : Int32} {x2 : Int32} {x3 : Int32} : CALL d 187 [.ref (k0 : Nat), .int x1, .int x2, .int x3] h Q = AW d 187 0 [some (.ref (k0 : Nat)), some (.int x1), some (.int x2), some (.int x3), none, none, none] [] h Q := rfl
theorem cdn_X11_couldBe : am_cd 188 = cd_X11_couldBe := rfl
theorem en_X11_couldBe {d : Nat} {h : am_H} {Q : Option Value → am_H → Prop} {k0 : Nat} {x1 : Int32} {x2 : Int32} {x3 : Int32} : CALL d 188 [.ref (k0 : Nat), .int x1, .int x2, .int x3] h Q = AW d 188 0 [some (.ref (k0 : Nat)), some (.int x1), some (.int x2), some (.int x3), none, none] [] h Q := rfl
theorem cdn_X11_could : am_cd 189 = cd_X11_could := rfl
theorem en_X11_could {d : Nat} {h : am_H} {Q : Option Value → am_H → Prop} {k0 : Nat} {x1 : Int32} {x2 : Int32} {x3 : Int32} : CALL d 189 [.ref (k0 : Nat), .int x1, .int x2, .int x3] h Q = AW d 189 0 [some (.ref (k0 : Nat)), some (.int x1), some (.int x2), some (.int x3)] [] h Q := rfl
theorem cdn_X11_first : am_cd 190 = cd_X11_first := rfl
theorem en_X11_first {d : Nat} {h : am_H} {Q : Option Value → am_H → Prop} {k0 : Nat} {x1 : Int32} : CALL d 190 [.ref (k0 : Nat), .int x1] h Q = AW d 190 0 [some (.ref (k0 : Nat)), some (.int x1), none, none, none] [] h Q := rfl
theorem cdn_X11_sumAt : am_cd 191 = cd_X11_sumAt := rfl
theorem en_X11_sumAt {d : Nat} {h : am_H} {Q : Option Value → am_H → Prop} {k0 : Nat} {x1 : Int32} : CALL d 191 [.ref (k0 : Nat), .int x1] h Q = AW d 191 0 [some (.ref (k0 : Nat)), some (.int x1), none, none, none, none] [] h Q := rfl
theorem cdn_X11_posts : am_cd 192 = cd_X11_posts := rfl
theorem en_X11_posts {d : Nat} {h : am_H} {Q : Option Value → am_H → Prop} {k0 : Nat} {x1 : Int32} {x2 : Int32} : CALL d 192 [.ref (k0 : Nat), .int x1, .int x2] h Q = AW d 192 0 [some (.ref (k0 : Nat)), some (.int x1), some (.int x2), none, none, none] [] h Q := rfl
theorem cdn_X11_check : am_cd 193 = cd_X11_check := rfl
theorem en_X11_check {d : Nat} {h : am_H} {Q : Option Value → am_H → Prop} {k0 : Nat} {x1 : Int32} {x2 : Int32} {x3 : Int32} {x4 : Int32} {x5 : Int32} : CALL d 193 [.ref (k0 : Nat), .int x1, .int x2, .int x3, .int x4, .int x5] h Q = AW d 193 0 [some (.ref (k0 : Nat)), some (.int x1), some (.int x2), some (.int x3), some (.int x4), some (.int x5), none, none, none] [] h Q := rfl
theorem cdn_X11_isSheet : am_cd 194 = cd_X11_isSheet := rfl
theorem en_X11_isSheet {d : Nat} {h : am_H} {Q : Option Value → am_H → Prop} {x0 : Int32} : CALL d 194 [.int x0] h Q = AW d 194 0 [some (.int x0)] [] h Q := rfl
theorem cdn_X11_isLane : am_cd 195 = cd_X11_isLane := rfl
theorem en_X11_isLane {d : Nat} {h : am_H} {Q : Option Value → am_H → Prop} {x0 : Int32} : CALL d 195 [.int x0] h Q = AW d 195 0 [some (.int x0)] [] h Q := rfl
theorem cdn_X11_finds : am_cd 196 = cd_X11_finds := rfl
theorem en_X11_finds {d : Nat} {h : am_H} {Q : Option Value → am_H → Prop} {k0 : Nat} {x1 : Int32} {x2 : Int32} {x3 : Int32} {x4 : Int32} : CALL d 196 [.ref (k0 : Nat), .int x1, .int x2, .int x3, .int x4] h Q = AW d 196 0 [some (.ref (k0 : Nat)), some (.int x1), some (.int x2), some (.int x3), some (.int x4)] [] h Q := rfl
theorem cdn_X11_sheet : am_cd 197 = cd_X11_sheet := rfl
theorem en_X11_sheet {d : Nat} {h : am_H} {Q : Option Value → am_H → Prop} {k0 : Nat} {x1 : Int32} {x2 : Int32} {x3 : Int32} : CALL d 197 [.ref (k0 : Nat), .int x1, .int x2, .int x3] h Q = AW d 197 0 [some (.ref (k0 : Nat)), some (.int x1), some (.int x2), some (.int x3), none] [] h Q := rfl
theorem cdn_X11_drop : am_cd 198 = cd_X11_drop := rfl
theorem en_X11_drop {d : Nat} {h : am_H} {Q : Option Value → am_H → Prop} {k0 : Nat} {x1 : Int32} : CALL d 198 [.ref (k0 : Nat), .int x1] h Q = AW d 198 0 [some (.ref (k0 : Nat)), some (.int x1)] [] h Q := rfl
theorem cdn_X11_item : am_cd 199 = cd_X11_item := rfl
theorem en_X11_item {d : Nat} {h : am_H} {Q : Option Value → am_H → Prop} {k0 : Nat} {x1 : Int32} {x2 : Int32} {x3 : Int32} {x4 : Int32} : CALL d 199 [.ref (k0 : Nat), .int x1, .int x2, .int x3, .int x4] h Q = AW d 199 0 [some (.ref (k0 : Nat)), some (.int x1), some (.int x2), some (.int x3), some (.int x4), none] [] h Q := rfl
theorem cdn_X11_copy : am_cd 200 = cd_X11_copy := rfl
theorem en_X11_copy {d : Nat} {h : am_H} {Q : Option Value → am_H → Prop} {k0 : Nat} {x1 : Int32} {x2 : Int32} {x3 : Int32} {x4 : Int32} {x5 : Int32} : CALL d 200 [.ref (k0 : Nat), .int x1, .int x2, .int x3, .int x4, .int x5] h Q = AW d 200 0 [some (.ref (k0 : Nat)), some (.int x1), some (.int x2), some (.int x3), some (.int x4), some (.int x5), none] [] h Q := rfl
theorem cdn_X11_reads : am_cd 201 = cd_X11_reads := rfl
theorem en_X11_reads {d : Nat} {h : am_H} {Q : Option Value → am_H → Prop} {k0 : Nat} {x1 : Int32} {x2 : Int32} : CALL d 201 [.ref (k0 : Nat), .int x1, .int x2] h Q = AW d 201 0 [some (.ref (k0 : Nat)), some (.int x1), some (.int x2), none, none, none] [] h Q := rfl
theorem cdn_J6_bitCount_0f7a4 : am_cd 202 = cd_J6_bitCount_0f7a4 := rfl
theorem en_J6_bitCount_0f7a4 {d : Nat} {h : am_H} {Q : Option Value → am_H → Prop} {x0 : Int32} : CALL d 202 [.int x0] h Q = AW d 202 0 [some (.int x0)] [] h Q := rfl
theorem cdn_J0_indexOf_0f7a4 : am_cd 203 = cd_J0_indexOf_0f7a4 := rfl
theorem en_J0_indexOf_0f7a4 {d : Nat} {h : am_H} {Q : Option Value → am_H → Prop} {k0 : Nat} {x1 : Int32} : CALL d 203 [.ref (k0 : Nat), .int x1] h Q = AW d 203 0 [some (.ref (k0 : Nat)), some (.int x1)] [] h Q := rfl
theorem cdn_J0_indexOf_7cf53 : am_cd 204 = cd_J0_indexOf_7cf53 := rfl
theorem en_J0_indexOf_7cf53 {d : Nat} {h : am_H} {Q : Option Value → am_H → Prop} {k0 : Nat} {x1 : Int32} {x2 : Int32} : CALL d 204 [.ref (k0 : Nat), .int x1, .int x2] h Q = AW d 204 0 [some (.ref (k0 : Nat)), some (.int x1), some (.int x2)] [] h Q := rfl
theorem cdn_J0_isLatin1_aae02 : am_cd 205 = cd_J0_isLatin1_aae02 := rfl
theorem en_J0_isLatin1_aae02 {d : Nat} {h : am_H} {Q : Option Value → am_H → Prop} {k0 : Nat} : CALL d 205 [.ref (k0 : Nat)] h Q = AW d 205 0 [some (.ref (k0 : Nat))] [] h Q := rfl
theorem cdn_J0_length_8abf5 : am_cd 206 = cd_J0_length_8abf5 := rfl
theorem en_J0_length_8abf5 {d : Nat} {h : am_H} {Q : Option Value → am_H → Prop} {k0 : Nat} : CALL d 206 [.ref (k0 : Nat)] h Q = AW d 206 0 [some (.ref (k0 : Nat))] [] h Q := rfl
theorem cdn_J0_coder_7d493 : am_cd 207 = cd_J0_coder_7d493 := rfl
theorem en_J0_coder_7d493 {d : Nat} {h : am_H} {Q : Option Value → am_H → Prop} {k0 : Nat} : CALL d 207 [.ref (k0 : Nat)] h Q = AW d 207 0 [some (.ref (k0 : Nat))] [] h Q := rfl
theorem cdn_J1_canEncode_9a6ad : am_cd 208 = cd_J1_canEncode_9a6ad := rfl
theorem en_J1_canEncode_9a6ad {d : Nat} {h : am_H} {Q : Option Value → am_H → Prop} {x0 : Int32} : CALL d 208 [.int x0] h Q = AW d 208 0 [some (.int x0)] [] h Q := rfl
theorem cdn_J1_indexOf_4cfef : am_cd 209 = cd_J1_indexOf_4cfef := rfl
theorem en_J1_indexOf_4cfef {d : Nat} {h : am_H} {Q : Option Value → am_H → Prop} {k0 : Nat} {x1 : Int32} {x2 : Int32} {x3 : Int32} : CALL d 209 [.ref (k0 : Nat), .int x1, .int x2, .int x3] h Q = AW d 209 0 [some (.ref (k0 : Nat)), some (.int x1), some (.int x2), some (.int x3)] [] h Q := rfl
theorem cdn_J1_indexOfChar_4cfef : am_cd 210 = cd_J1_indexOfChar_4cfef := rfl
theorem en_J1_indexOfChar_4cfef {d : Nat} {h : am_H} {Q : Option Value → am_H → Prop} {k0 : Nat} {x1 : Int32} {x2 : Int32} {x3 : Int32} : CALL d 210 [.ref (k0 : Nat), .int x1, .int x2, .int x3] h Q = AW d 210 0 [some (.ref (k0 : Nat)), some (.int x1), some (.int x2), some (.int x3), none, none] [] h Q := rfl
