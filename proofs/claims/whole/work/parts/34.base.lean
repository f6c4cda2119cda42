/-! plain facts for the runs -/
theorem tc_0 : (0 : Int32).toNatClampNeg = 0 := rfl
theorem tc_1 : (1 : Int32).toNatClampNeg = 1 := rfl
theorem tc_2 : (2 : Int32).toNatClampNeg = 2 := rfl
theorem tc_3 : (3 : Int32).toNatClampNeg = 3 := rfl
theorem tc_4 : (4 : Int32).toNatClampNeg = 4 := rfl
theorem tc_5 : (5 : Int32).toNatClampNeg = 5 := rfl
theorem tc_6 : (6 : Int32).toNatClampNeg = 6 := rfl
theorem tc_7 : (7 : Int32).toNatClampNeg = 7 := rfl
theorem tc_8 : (8 : Int32).toNatClampNeg = 8 := rfl
theorem tc_9 : (9 : Int32).toNatClampNeg = 9 := rfl
theorem il_14_0 {L : Nat} : inb 0 (am_len (CT L) 14) := ib_14 (p := 0) (by decide)
theorem il_14_1 {L : Nat} : inb 1 (am_len (CT L) 14) := ib_14 (p := 1) (by decide)
theorem il_14_2 {L : Nat} : inb 2 (am_len (CT L) 14) := ib_14 (p := 2) (by decide)
theorem il_14_3 {L : Nat} : inb 3 (am_len (CT L) 14) := ib_14 (p := 3) (by decide)
theorem il_14_4 {L : Nat} : inb 4 (am_len (CT L) 14) := ib_14 (p := 4) (by decide)
theorem il_21_0 {L : Nat} : inb 0 (am_len (CT L) 21) := ib_21 (p := 0) (by decide)
theorem il_21_1 {L : Nat} : inb 1 (am_len (CT L) 21) := ib_21 (p := 1) (by decide)
theorem il_21_2 {L : Nat} : inb 2 (am_len (CT L) 21) := ib_21 (p := 2) (by decide)
theorem inb_nI {p n : Nat} (h : p < n) (hn : n < 2 ^ 31) : inb (nI p) n := nI_in h hn
def bi (b : Bool) : Int32 := if b then 1 else 0
theorem bi_eq0 {b : Bool} : (bi b = 0) = (b = false) := by cases b <;> simp [bi]
theorem bi_01 (b : Bool) : bi b = 0 ∨ bi b = 1 := by cases b <;> simp [bi]
theorem bi_t : bi true = 1 := rfl
theorem bi_f : bi false = 0 := rfl
theorem bf_tf : (true = false) = False := by simp
theorem bf_ft : (false = false) = True := by simp
theorem am_nlI {x : Int32} : am_nl (some (.int x)) = some (.int x) := rfl
theorem am_nlR {x : Nat} : am_nl (some (.ref x)) = some (.ref x) := rfl
theorem am_nlN : am_nl none = none := rfl
/-- v is 0 .. top -/
def win (v top : Int32) : Bool := decide (¬ v < 0 ∧ ¬ top < v)
set_option maxRecDepth 100000 in
theorem sp_within {d : Nat} {h : am_H} {Q : Option Value → am_H → Prop} {v top : Int32} : CALL d 109 [.int v, .int top] h Q = Q (some (.int (bi (win v top)))) h := by
  simp (disch := (first | assumption | exact tg_12 | exact tg_13 | exact tg_2 | exact tg_20 | exact tg_14 | exact tg_15 | exact tg_16 | exact tg_17 | exact tg_18 | exact tg_19 | exact tg_21 | exact tg_22 | exact tg_23 | exact tg_24 | exact tg_25 | exact tg_26 | exact tg_33 | exact tg_34 | exact tg_35 | exact tg_36 | exact tg_37 | exact tg_38 | exact tg_39 | exact tg_40 | exact tg_41 | exact tg_42 | exact tg_43 | exact tg_52 | exact tg_1 | exact tg_3 | exact (show _ from rfl) | exact Nat.le_of_ble_eq_true rfl | exact bi_01 _ | exact Or.inl rfl | exact Or.inr rfl | exact ib_2 (by first | assumption | omega) | exact ib_20 (by first | assumption | omega) | exact ib_14 (by first | assumption | omega) | exact ib_15 (by first | assumption | omega) | exact ib_16 (by first | assumption | omega) | exact ib_17 (by first | assumption | omega) | exact ib_18 (by first | assumption | omega) | exact ib_19 (by first | assumption | omega) | exact ib_21 (by first | assumption | omega) | exact ib_22 (by first | assumption | omega) | exact ib_23 (by first | assumption | omega) | exact ib_24 (by first | assumption | omega) | exact ib_25 (by first | assumption | omega) | exact ib_26 (by first | assumption | omega) | exact ib_34 (by first | assumption | omega) | exact ib_36 (by first | assumption | omega) | exact ib_37 (by first | assumption | omega) | exact ib_38 (by first | assumption | omega) | exact ib_40 (by first | assumption | omega) | exact ib_41 (by first | assumption | omega) | exact ib_43 (by first | assumption | omega) | exact ib_52 (by first | assumption | omega) | exact ib_1 (by first | assumption | omega) | exact ib_3 (by first | assumption | omega) | omega | decide | exact il_14_0 | exact il_14_1 | exact il_14_2 | exact il_14_3 | exact il_14_4 | exact il_21_0 | exact il_21_1 | exact il_21_2)) only [en_X10_within, st_X10_within_0, st_X10_within_1, st_X10_within_4, st_X10_within_5, st_X10_within_6, st_X10_within_9, st_X10_within_10, st_X10_within_13, st_X10_within_14]
  by_cases h1 : v < 0
  · simp [win, h1, bi]
  · by_cases h2 : top < v <;> simp [win, h1, h2, bi]
/-- the units of the parts; a part of a version -/
def un (j : Nat) : Int32 := match j with
  | 0 => 1000
  | 1 => 100
  | 2 => 10
  | _ => 1
theorem un_ne {j : Nat} : un j ≠ 0 := by unfold un; split <;> decide
def dg (v : Int32) (j : Nat) : Int32 := v / un j - v / un j / 10 * 10
/-- what was there before, as the cells have it -/
def OLD (a : Nat → Nat → Int32) : Prop := (∀ j, j < 5 → a 1 j = ([99, 4, 1, 9, 19] : List Int32).getD j 0) ∧ (∀ j, j < 4 → a 2 j = un j) ∧ (∀ j, j < 3 → a 3 j = ([3, 5, 1] : List Int32).getD j 0) ∧ a 8 = (hi0 (fun _ => 0)) 8 ∧ a 9 = (hi0 (fun _ => 0)) 9 ∧ a 10 = (hi0 (fun _ => 0)) 10 ∧ a 11 = (hi0 (fun _ => 0)) 11 ∧ (∀ k, 4 ≤ k → k < 8 → a k 1 = 0)
set_option maxRecDepth 100000 in
theorem sp_at {d L j : Nat} {b : Bool} {a : Nat → Nat → Int32} {Q : Option Value → am_H → Prop} {v : Int32} (hO : OLD a) (hj : j < 4) : CALL d 15 [.int v, .int (nI j)] (CT L, a, RR b) Q = Q (some (.int (dg v j))) (CT L, a, RR b) := by
  have hc : (nI j).toNatClampNeg = j := nI_clamp (by omega)
  have hu : a 2 j = un j := hO.2.1 j hj
  have hz : un j ≠ 0 := un_ne
  simp (disch := (first | assumption | exact tg_12 | exact tg_13 | exact tg_2 | exact tg_20 | exact tg_14 | exact tg_15 | exact tg_16 | exact tg_17 | exact tg_18 | exact tg_19 | exact tg_21 | exact tg_22 | exact tg_23 | exact tg_24 | exact tg_25 | exact tg_26 | exact tg_33 | exact tg_34 | exact tg_35 | exact tg_36 | exact tg_37 | exact tg_38 | exact tg_39 | exact tg_40 | exact tg_41 | exact tg_42 | exact tg_43 | exact tg_52 | exact tg_1 | exact tg_3 | exact (show _ from rfl) | exact Nat.le_of_ble_eq_true rfl | exact bi_01 _ | exact Or.inl rfl | exact Or.inr rfl | exact ib_2 (by first | assumption | omega) | exact ib_20 (by first | assumption | omega) | exact ib_14 (by first | assumption | omega) | exact ib_15 (by first | assumption | omega) | exact ib_16 (by first | assumption | omega) | exact ib_17 (by first | assumption | omega) | exact ib_18 (by first | assumption | omega) | exact ib_19 (by first | assumption | omega) | exact ib_21 (by first | assumption | omega) | exact ib_22 (by first | assumption | omega) | exact ib_23 (by first | assumption | omega) | exact ib_24 (by first | assumption | omega) | exact ib_25 (by first | assumption | omega) | exact ib_26 (by first | assumption | omega) | exact ib_34 (by first | assumption | omega) | exact ib_36 (by first | assumption | omega) | exact ib_37 (by first | assumption | omega) | exact ib_38 (by first | assumption | omega) | exact ib_40 (by first | assumption | omega) | exact ib_41 (by first | assumption | omega) | exact ib_43 (by first | assumption | omega) | exact ib_52 (by first | assumption | omega) | exact ib_1 (by first | assumption | omega) | exact ib_3 (by first | assumption | omega) | omega | decide | exact il_14_0 | exact il_14_1 | exact il_14_2 | exact il_14_3 | exact il_14_4 | exact il_21_0 | exact il_21_1 | exact il_21_2)) only [en_X2_at, st_X2_at_0, st_X2_at_1, st_X2_at_4, st_X2_at_5, st_X2_at_6, st_X2_at_7, st_X2_at_9, st_X2_at_10, hc, hu, dg]
set_option maxRecDepth 100000 in
theorem sp_weightOf {d L : Nat} {b : Bool} {a : Nat → Nat → Int32} {Q : Option Value → am_H → Prop} {v : Int32} {w : Nat} (hO : OLD a) (hv : dg v 1 = nI w) (hw : w < 10) : CALL (d + 1) 66 [.ref (13 : Nat), .int v] (CT L, a, RR b) Q = Q (some (.int (a 20 w))) (CT L, a, RR b) := by
  have hc : (nI w).toNatClampNeg = w := nI_clamp (by omega)
  have e1 : (1 : Int32) = nI 1 := rfl
  simp (disch := (first | assumption | exact tg_12 | exact tg_13 | exact tg_2 | exact tg_20 | exact tg_14 | exact tg_15 | exact tg_16 | exact tg_17 | exact tg_18 | exact tg_19 | exact tg_21 | exact tg_22 | exact tg_23 | exact tg_24 | exact tg_25 | exact tg_26 | exact tg_33 | exact tg_34 | exact tg_35 | exact tg_36 | exact tg_37 | exact tg_38 | exact tg_39 | exact tg_40 | exact tg_41 | exact tg_42 | exact tg_43 | exact tg_52 | exact tg_1 | exact tg_3 | exact (show _ from rfl) | exact Nat.le_of_ble_eq_true rfl | exact bi_01 _ | exact Or.inl rfl | exact Or.inr rfl | exact ib_2 (by first | assumption | omega) | exact ib_20 (by first | assumption | omega) | exact ib_14 (by first | assumption | omega) | exact ib_15 (by first | assumption | omega) | exact ib_16 (by first | assumption | omega) | exact ib_17 (by first | assumption | omega) | exact ib_18 (by first | assumption | omega) | exact ib_19 (by first | assumption | omega) | exact ib_21 (by first | assumption | omega) | exact ib_22 (by first | assumption | omega) | exact ib_23 (by first | assumption | omega) | exact ib_24 (by first | assumption | omega) | exact ib_25 (by first | assumption | omega) | exact ib_26 (by first | assumption | omega) | exact ib_34 (by first | assumption | omega) | exact ib_36 (by first | assumption | omega) | exact ib_37 (by first | assumption | omega) | exact ib_38 (by first | assumption | omega) | exact ib_40 (by first | assumption | omega) | exact ib_41 (by first | assumption | omega) | exact ib_43 (by first | assumption | omega) | exact ib_52 (by first | assumption | omega) | exact ib_1 (by first | assumption | omega) | exact ib_3 (by first | assumption | omega) | omega | decide | exact il_14_0 | exact il_14_1 | exact il_14_2 | exact il_14_3 | exact il_14_4 | exact il_21_0 | exact il_21_1 | exact il_21_2)) only [en_X9_weightOf, st_X9_weightOf_0, st_X9_weightOf_1, st_X9_weightOf_4, st_X9_weightOf_5, st_X9_weightOf_6, st_X9_weightOf_9, st_X9_weightOf_10, rr_12_0, rr_12_1, rr_12_2, rr_12_3, rr_12_4, rr_12_5, rr_12_6, rr_12_7, rr_12_8, rr_12_9, rr_13_0, rr_13_1, rr_13_3, rr_13_4, rr_14_0, rr_14_1, rr_14_2, rr_14_3, rr_14_4, rr_21_0, rr_21_1, rr_21_2, rr_33_1, rr_35_0, rr_35_1, rr_35_3, rr_39_2, rr_39_3, rr_42_0, tc_0, tc_1, tc_2, tc_3, tc_4, tc_5, tc_6, tc_7, tc_8, tc_9, Option.toList_some, Option.toList_none, List.cons_append, List.nil_append, Option.getD_some, am_nlI, am_nlR, am_nlN, bi_eq0, if_true, if_false, bf_tf, bf_ft, e1, sp_at, hv, hc]
