/-! the constructors, a theorem a call (wip/gen/ctor.py) -/
theorem tn_0 : Int32.toNatClampNeg 0 = 0 := rfl
theorem ia_0 : (0 : Int32) + 1 = 1 := rfl
theorem tn_1 : Int32.toNatClampNeg 1 = 1 := rfl
theorem ia_1 : (1 : Int32) + 1 = 2 := rfl
theorem tn_2 : Int32.toNatClampNeg 2 = 2 := rfl
theorem ia_2 : (2 : Int32) + 1 = 3 := rfl
theorem tn_3 : Int32.toNatClampNeg 3 = 3 := rfl
theorem ia_3 : (3 : Int32) + 1 = 4 := rfl
theorem tn_4 : Int32.toNatClampNeg 4 = 4 := rfl
theorem ia_4 : (4 : Int32) + 1 = 5 := rfl
theorem tn_5 : Int32.toNatClampNeg 5 = 5 := rfl
theorem ia_5 : (5 : Int32) + 1 = 6 := rfl
theorem tn_6 : Int32.toNatClampNeg 6 = 6 := rfl
theorem ia_6 : (6 : Int32) + 1 = 7 := rfl
theorem tn_7 : Int32.toNatClampNeg 7 = 7 := rfl
theorem ia_7 : (7 : Int32) + 1 = 8 := rfl
theorem tn_8 : Int32.toNatClampNeg 8 = 8 := rfl
theorem ia_8 : (8 : Int32) + 1 = 9 := rfl
theorem tn_9 : Int32.toNatClampNeg 9 = 9 := rfl
theorem ia_9 : (9 : Int32) + 1 = 10 := rfl
theorem tn_10 : Int32.toNatClampNeg 10 = 10 := rfl
theorem ia_10 : (10 : Int32) + 1 = 11 := rfl
theorem il_0_4_lt : ((0 : Int32) < 4) = True := eq_true (by decide)
theorem il_1_4_lt : ((1 : Int32) < 4) = True := eq_true (by decide)
theorem il_2_4_lt : ((2 : Int32) < 4) = True := eq_true (by decide)
theorem il_3_4_lt : ((3 : Int32) < 4) = True := eq_true (by decide)
theorem il_4_4_lt : ((4 : Int32) < 4) = False := eq_false (by decide)
theorem il_0_8_lt : ((0 : Int32) < 8) = True := eq_true (by decide)
theorem il_1_8_lt : ((1 : Int32) < 8) = True := eq_true (by decide)
theorem il_2_8_lt : ((2 : Int32) < 8) = True := eq_true (by decide)
theorem il_3_8_lt : ((3 : Int32) < 8) = True := eq_true (by decide)
theorem il_4_8_lt : ((4 : Int32) < 8) = True := eq_true (by decide)
theorem il_5_8_lt : ((5 : Int32) < 8) = True := eq_true (by decide)
theorem il_6_8_lt : ((6 : Int32) < 8) = True := eq_true (by decide)
theorem il_7_8_lt : ((7 : Int32) < 8) = True := eq_true (by decide)
theorem il_8_8_lt : ((8 : Int32) < 8) = False := eq_false (by decide)
theorem il_0_10_lt : ((0 : Int32) < 10) = True := eq_true (by decide)
theorem il_1_10_lt : ((1 : Int32) < 10) = True := eq_true (by decide)
theorem il_2_10_lt : ((2 : Int32) < 10) = True := eq_true (by decide)
theorem il_3_10_lt : ((3 : Int32) < 10) = True := eq_true (by decide)
theorem il_4_10_lt : ((4 : Int32) < 10) = True := eq_true (by decide)
theorem il_5_10_lt : ((5 : Int32) < 10) = True := eq_true (by decide)
theorem il_6_10_lt : ((6 : Int32) < 10) = True := eq_true (by decide)
theorem il_7_10_lt : ((7 : Int32) < 10) = True := eq_true (by decide)
theorem il_8_10_lt : ((8 : Int32) < 10) = True := eq_true (by decide)
theorem il_9_10_lt : ((9 : Int32) < 10) = True := eq_true (by decide)
theorem il_10_10_lt : ((10 : Int32) < 10) = False := eq_false (by decide)
def RL0 : List (List (Option Nat)) := [[], [], [], [], [some 8], [some 9], [some 10], [some 11]]
theorem zl_0 : RL0.length ≤ 12 := by decide
theorem RL0_e : hr0 = qdR RL0 := by
  funext k j
  match k with
  | 0 => rfl
  | 1 => rfl
  | 2 => rfl
  | 3 => rfl
  | 4 => cases j <;> rfl
  | 5 => cases j <;> rfl
  | 6 => cases j <;> rfl
  | 7 => cases j <;> rfl
  | k + 8 => rfl
def AS0 (xs : Nat → Int32) : Nat → Nat → Int32 := hi0 xs
theorem az_0 {xs : Nat → Int32} : ∀ q, 12 ≤ q → AS0 xs q = fun _ => 0 := fun q h => hi0_z h
theorem rz_0_12 : am_rowR (qdR RL0) 12 (fun _ => none) = qdR RL0 := rowR0 (Nat.le_trans zl_0 (by decide))
theorem ra_0_12 {xs : Nat → Int32} : am_row (AS0 xs) 12 (fun _ => 0) = AS0 xs := row0 (az_0 12 (by decide))
theorem rz_0_13 : am_rowR (qdR RL0) 13 (fun _ => none) = qdR RL0 := rowR0 (Nat.le_trans zl_0 (by decide))
theorem ra_0_13 {xs : Nat → Int32} : am_row (AS0 xs) 13 (fun _ => 0) = AS0 xs := row0 (az_0 13 (by decide))
def RL1 : List (List (Option Nat)) := qrow RL0 14 ((List.range 5).map (fun j => some (14 + 1 + j)))
theorem zl_1 : RL1.length ≤ 15 := qrow_len _ _ _ _ (by decide) (Nat.le_trans zl_0 (by decide))
theorem mn_0 {L d : Nat} {xs : Nat → Int32} {l : am_L} {S : List Value} {Q : Option Value → am_H → Prop} : AW d 56 8 l (.int 16 :: .int 5 :: S) (List.take 14 (CT L), AS0 xs, qdR RL0) Q = AW d 56 12 l (.ref (14 : Nat) :: S) (List.take 20 (CT L), AS0 xs, qdR RL1) Q := by
  refine Eq.trans (st_X9_init_8 (nwl rfl)) ?_
  rw [tkl (by decide)]
  exact congrArg (fun z => AW d 56 12 l (.ref (14 : Nat) :: S) z Q) (Prod.ext rfl (Prod.ext (mnA (fun q h => az_0 q (Nat.le_trans (by decide) h))) (mnR (n := 14) (m := 5) (Nat.le_trans zl_0 (by decide)))))
def RL2 : List (List (Option Nat)) := qls2 RL1 13 0 (some 14)
theorem zl_2 : RL2.length ≤ 15 := qls2_len (by decide) (Nat.le_trans zl_1 (by decide))
theorem nu_1 : am_upR (qdR RL1) 13 0 (some 14) = qdR RL2 := upR_dR
theorem rz_2_20 : am_rowR (qdR RL2) 20 (fun _ => none) = qdR RL2 := rowR0 (Nat.le_trans zl_2 (by decide))
theorem ra_0_20 {xs : Nat → Int32} : am_row (AS0 xs) 20 (fun _ => 0) = AS0 xs := row0 (az_0 20 (by decide))
def RL3 : List (List (Option Nat)) := qls2 RL2 13 1 (some 20)
theorem zl_3 : RL3.length ≤ 15 := qls2_len (by decide) (Nat.le_trans zl_2 (by decide))
theorem nu_2 : am_upR (qdR RL2) 13 1 (some 20) = qdR RL3 := upR_dR
def RL4 : List (List (Option Nat)) := qrow RL3 21 ((List.range 3).map (fun j => some (21 + 1 + j)))
theorem zl_4 : RL4.length ≤ 22 := qrow_len _ _ _ _ (by decide) (Nat.le_trans zl_3 (by decide))
theorem mn_3 {L d : Nat} {xs : Nat → Int32} {l : am_L} {S : List Value} {Q : Option Value → am_H → Prop} : AW d 56 27 l (.int 16 :: .int 3 :: S) (List.take 21 (CT L), AS0 xs, qdR RL3) Q = AW d 56 31 l (.ref (21 : Nat) :: S) (List.take 25 (CT L), AS0 xs, qdR RL4) Q := by
  refine Eq.trans (st_X9_init_27 (nwl rfl)) ?_
  rw [tkl (by decide)]
  exact congrArg (fun z => AW d 56 31 l (.ref (21 : Nat) :: S) z Q) (Prod.ext rfl (Prod.ext (mnA (fun q h => az_0 q (Nat.le_trans (by decide) h))) (mnR (n := 21) (m := 3) (Nat.le_trans zl_3 (by decide)))))
def RL5 : List (List (Option Nat)) := qls2 RL4 13 3 (some 21)
theorem zl_5 : RL5.length ≤ 22 := qls2_len (by decide) (Nat.le_trans zl_4 (by decide))
theorem nu_4 : am_upR (qdR RL4) 13 3 (some 21) = qdR RL5 := upR_dR
theorem rz_5_25 : am_rowR (qdR RL5) 25 (fun _ => none) = qdR RL5 := rowR0 (Nat.le_trans zl_5 (by decide))
theorem ra_0_25 {xs : Nat → Int32} : am_row (AS0 xs) 25 (fun _ => 0) = AS0 xs := row0 (az_0 25 (by decide))
def RL6 : List (List (Option Nat)) := qls2 RL5 13 4 (some 25)
theorem zl_6 : RL6.length ≤ 22 := qls2_len (by decide) (Nat.le_trans zl_5 (by decide))
theorem nu_5 : am_upR (qdR RL5) 13 4 (some 25) = qdR RL6 := upR_dR
theorem rg_6_13_1 : qdR RL6 13 1 = some 20 := by decide +kernel
def AS1 (xs : Nat → Int32) : Nat → Nat → Int32 := am_up (AS0 xs) 20 0 5
theorem az_1 {xs : Nat → Int32} : ∀ q, 21 ≤ q → AS1 xs q = fun _ => 0 := fun q h => am_up_z (n := 21) (fun q h => az_0 q (by omega)) (by decide) h
theorem na_0 {xs : Nat → Int32} : am_up (AS0 xs) 20 0 5 = AS1 xs := rfl
def AS2 (xs : Nat → Int32) : Nat → Nat → Int32 := am_up (AS1 xs) 20 1 5
theorem az_2 {xs : Nat → Int32} : ∀ q, 21 ≤ q → AS2 xs q = fun _ => 0 := fun q h => am_up_z (n := 21) (fun q h => az_1 q (by omega)) (by decide) h
theorem na_1 {xs : Nat → Int32} : am_up (AS1 xs) 20 1 5 = AS2 xs := rfl
def AS3 (xs : Nat → Int32) : Nat → Nat → Int32 := am_up (AS2 xs) 20 2 5
theorem az_3 {xs : Nat → Int32} : ∀ q, 21 ≤ q → AS3 xs q = fun _ => 0 := fun q h => am_up_z (n := 21) (fun q h => az_2 q (by omega)) (by decide) h
theorem na_2 {xs : Nat → Int32} : am_up (AS2 xs) 20 2 5 = AS3 xs := rfl
def AS4 (xs : Nat → Int32) : Nat → Nat → Int32 := am_up (AS3 xs) 20 3 5
theorem az_4 {xs : Nat → Int32} : ∀ q, 21 ≤ q → AS4 xs q = fun _ => 0 := fun q h => am_up_z (n := 21) (fun q h => az_3 q (by omega)) (by decide) h
theorem na_3 {xs : Nat → Int32} : am_up (AS3 xs) 20 3 5 = AS4 xs := rfl
def AS5 (xs : Nat → Int32) : Nat → Nat → Int32 := am_up (AS4 xs) 20 4 5
theorem az_5 {xs : Nat → Int32} : ∀ q, 21 ≤ q → AS5 xs q = fun _ => 0 := fun q h => am_up_z (n := 21) (fun q h => az_4 q (by omega)) (by decide) h
theorem na_4 {xs : Nat → Int32} : am_up (AS4 xs) 20 4 5 = AS5 xs := rfl
def AS6 (xs : Nat → Int32) : Nat → Nat → Int32 := am_up (AS5 xs) 20 5 5
theorem az_6 {xs : Nat → Int32} : ∀ q, 21 ≤ q → AS6 xs q = fun _ => 0 := fun q h => am_up_z (n := 21) (fun q h => az_5 q (by omega)) (by decide) h
theorem na_5 {xs : Nat → Int32} : am_up (AS5 xs) 20 5 5 = AS6 xs := rfl
def AS7 (xs : Nat → Int32) : Nat → Nat → Int32 := am_up (AS6 xs) 20 6 5
theorem az_7 {xs : Nat → Int32} : ∀ q, 21 ≤ q → AS7 xs q = fun _ => 0 := fun q h => am_up_z (n := 21) (fun q h => az_6 q (by omega)) (by decide) h
theorem na_6 {xs : Nat → Int32} : am_up (AS6 xs) 20 6 5 = AS7 xs := rfl
def AS8 (xs : Nat → Int32) : Nat → Nat → Int32 := am_up (AS7 xs) 20 7 5
theorem az_8 {xs : Nat → Int32} : ∀ q, 21 ≤ q → AS8 xs q = fun _ => 0 := fun q h => am_up_z (n := 21) (fun q h => az_7 q (by omega)) (by decide) h
theorem na_7 {xs : Nat → Int32} : am_up (AS7 xs) 20 7 5 = AS8 xs := rfl
def AS9 (xs : Nat → Int32) : Nat → Nat → Int32 := am_up (AS8 xs) 20 8 5
theorem az_9 {xs : Nat → Int32} : ∀ q, 21 ≤ q → AS9 xs q = fun _ => 0 := fun q h => am_up_z (n := 21) (fun q h => az_8 q (by omega)) (by decide) h
theorem na_8 {xs : Nat → Int32} : am_up (AS8 xs) 20 8 5 = AS9 xs := rfl
def AS10 (xs : Nat → Int32) : Nat → Nat → Int32 := am_up (AS9 xs) 20 9 5
theorem az_10 {xs : Nat → Int32} : ∀ q, 21 ≤ q → AS10 xs q = fun _ => 0 := fun q h => am_up_z (n := 21) (fun q h => az_9 q (by omega)) (by decide) h
theorem na_9 {xs : Nat → Int32} : am_up (AS9 xs) 20 9 5 = AS10 xs := rfl
set_option maxRecDepth 100000 in
set_option maxHeartbeats 4000000 in
theorem ci_0 {L d : Nat} {xs : Nat → Int32} {Q : Option Value → am_H → Prop} : CALL d 56 [.ref (13 : Nat)] (List.take 14 (CT L), AS0 xs, qdR RL0) Q = Q none (List.take 26 (CT L), AS10 xs, qdR RL6) := by
  rw [en_X9_init]
  simp (disch := (first | exact (show _ from rfl) | exact Nat.le_of_ble_eq_true rfl | exact nwl rfl | exact inb_of 10 rfl rfl | exact inb_of 8 rfl rfl | exact inb_of 4 rfl rfl)) only [st_X9_init_0, st_X9_init_1, st_X9_init_4, st_X9_init_5, st_X9_init_6, st_X9_init_12, st_X9_init_15, st_X9_init_16, st_X9_init_18, st_X9_init_20, st_X9_init_23, st_X9_init_24, st_X9_init_25, st_X9_init_31, st_X9_init_34, st_X9_init_35, st_X9_init_37, st_X9_init_39, st_X9_init_42, st_X9_init_43, st_X9_init_44, st_X9_init_45, st_X9_init_47, st_X9_init_50, st_X9_init_51, st_X9_init_54, st_X9_init_55, st_X9_init_56, st_X9_init_57, st_X9_init_60, st_X9_init_63, Option.toList_some, Option.toList_none, List.cons_append, List.nil_append, Option.getD_some, am_nlI, am_nlR, am_nlN, bi_eq0, if_true, if_false, bf_tf, bf_ft, tkl, tka, Nat.reduceAdd, ↓reduceIte, mn_0, nu_1, rz_2_20, ra_0_20, nu_2, mn_3, nu_4, rz_5_25, ra_0_25, nu_5, rg_6_13_1, na_0, na_1, na_2, na_3, na_4, na_5, na_6, na_7, na_8, na_9, tn_0, ia_0, tn_1, ia_1, tn_2, ia_2, tn_3, ia_3, tn_4, ia_4, tn_5, ia_5, tn_6, ia_6, tn_7, ia_7, tn_8, ia_8, tn_9, ia_9, tn_10, ia_10, il_0_4_lt, il_1_4_lt, il_2_4_lt, il_3_4_lt, il_4_4_lt, il_0_8_lt, il_1_8_lt, il_2_8_lt, il_3_8_lt, il_4_8_lt, il_5_8_lt, il_6_8_lt, il_7_8_lt, il_8_8_lt, il_0_10_lt, il_1_10_lt, il_2_10_lt, il_3_10_lt, il_4_10_lt, il_5_10_lt, il_6_10_lt, il_7_10_lt, il_8_10_lt, il_9_10_lt, il_10_10_lt, Option.isSome_some]
def RL7 : List (List (Option Nat)) := qls2 RL6 12 0 (some 13)
theorem zl_7 : RL7.length ≤ 22 := qls2_len (by decide) (Nat.le_trans zl_6 (by decide))
theorem nu_6 : am_upR (qdR RL6) 12 0 (some 13) = qdR RL7 := upR_dR
theorem rz_7_26 : am_rowR (qdR RL7) 26 (fun _ => none) = qdR RL7 := rowR0 (Nat.le_trans zl_7 (by decide))
theorem ra_10_26 {xs : Nat → Int32} : am_row (AS10 xs) 26 (fun _ => 0) = AS10 xs := row0 (az_10 26 (by decide))
def RL8 : List (List (Option Nat)) := qls2 RL7 12 1 (some 26)
theorem zl_8 : RL8.length ≤ 22 := qls2_len (by decide) (Nat.le_trans zl_7 (by decide))
theorem nu_7 : am_upR (qdR RL7) 12 1 (some 26) = qdR RL8 := upR_dR
theorem rz_8_27 : am_rowR (qdR RL8) 27 (fun _ => none) = qdR RL8 := rowR0 (Nat.le_trans zl_8 (by decide))
theorem ra_10_27 {xs : Nat → Int32} : am_row (AS10 xs) 27 (fun _ => 0) = AS10 xs := row0 (az_10 27 (by decide))
theorem rz_8_28 : am_rowR (qdR RL8) 28 (fun _ => none) = qdR RL8 := rowR0 (Nat.le_trans zl_8 (by decide))
theorem ra_10_28 {xs : Nat → Int32} : am_row (AS10 xs) 28 (fun _ => 0) = AS10 xs := row0 (az_10 28 (by decide))
def RL9 : List (List (Option Nat)) := qls2 RL8 27 0 (some 28)
theorem zl_9 : RL9.length ≤ 28 := qls2_len (by decide) (Nat.le_trans zl_8 (by decide))
theorem nu_8 : am_upR (qdR RL8) 27 0 (some 28) = qdR RL9 := upR_dR
theorem rz_9_29 : am_rowR (qdR RL9) 29 (fun _ => none) = qdR RL9 := rowR0 (Nat.le_trans zl_9 (by decide))
theorem ra_10_29 {xs : Nat → Int32} : am_row (AS10 xs) 29 (fun _ => 0) = AS10 xs := row0 (az_10 29 (by decide))
def RL10 : List (List (Option Nat)) := qls2 RL9 27 1 (some 29)
theorem zl_10 : RL10.length ≤ 28 := qls2_len (by decide) (Nat.le_trans zl_9 (by decide))
theorem nu_9 : am_upR (qdR RL9) 27 1 (some 29) = qdR RL10 := upR_dR
theorem rz_10_30 : am_rowR (qdR RL10) 30 (fun _ => none) = qdR RL10 := rowR0 (Nat.le_trans zl_10 (by decide))
theorem ra_10_30 {xs : Nat → Int32} : am_row (AS10 xs) 30 (fun _ => 0) = AS10 xs := row0 (az_10 30 (by decide))
def RL11 : List (List (Option Nat)) := qls2 RL10 27 2 (some 30)
theorem zl_11 : RL11.length ≤ 28 := qls2_len (by decide) (Nat.le_trans zl_10 (by decide))
theorem nu_10 : am_upR (qdR RL10) 27 2 (some 30) = qdR RL11 := upR_dR
theorem rz_11_31 : am_rowR (qdR RL11) 31 (fun _ => none) = qdR RL11 := rowR0 (Nat.le_trans zl_11 (by decide))
theorem ra_10_31 {xs : Nat → Int32} : am_row (AS10 xs) 31 (fun _ => 0) = AS10 xs := row0 (az_10 31 (by decide))
def RL12 : List (List (Option Nat)) := qls2 RL11 27 3 (some 31)
theorem zl_12 : RL12.length ≤ 28 := qls2_len (by decide) (Nat.le_trans zl_11 (by decide))
theorem nu_11 : am_upR (qdR RL11) 27 3 (some 31) = qdR RL12 := upR_dR
theorem rz_12_32 : am_rowR (qdR RL12) 32 (fun _ => none) = qdR RL12 := rowR0 (Nat.le_trans zl_12 (by decide))
theorem ra_10_32 {xs : Nat → Int32} : am_row (AS10 xs) 32 (fun _ => 0) = AS10 xs := row0 (az_10 32 (by decide))
def RL13 : List (List (Option Nat)) := qls2 RL12 27 4 (some 32)
theorem zl_13 : RL13.length ≤ 28 := qls2_len (by decide) (Nat.le_trans zl_12 (by decide))
theorem nu_12 : am_upR (qdR RL12) 27 4 (some 32) = qdR RL13 := upR_dR
set_option maxRecDepth 100000 in
set_option maxHeartbeats 4000000 in
theorem ci_1 {L d : Nat} {xs : Nat → Int32} {Q : Option Value → am_H → Prop} : CALL d 36 [.ref (27 : Nat)] (List.take 28 (CT L), AS10 xs, qdR RL8) Q = Q none (List.take 33 (CT L), AS10 xs, qdR RL13) := by
  rw [en_X7_init]
  simp (disch := (first | exact (show _ from rfl) | exact Nat.le_of_ble_eq_true rfl | exact nwl rfl | exact inb_of 10 rfl rfl | exact inb_of 8 rfl rfl | exact inb_of 4 rfl rfl)) only [st_X7_init_0, st_X7_init_1, st_X7_init_4, st_X7_init_5, st_X7_init_7, st_X7_init_9, st_X7_init_12, st_X7_init_13, st_X7_init_15, st_X7_init_17, st_X7_init_20, st_X7_init_21, st_X7_init_23, st_X7_init_25, st_X7_init_28, st_X7_init_29, st_X7_init_31, st_X7_init_33, st_X7_init_36, st_X7_init_37, st_X7_init_39, st_X7_init_41, st_X7_init_44, Option.toList_some, Option.toList_none, List.cons_append, List.nil_append, Option.getD_some, am_nlI, am_nlR, am_nlN, bi_eq0, if_true, if_false, bf_tf, bf_ft, tkl, tka, Nat.reduceAdd, ↓reduceIte, rz_8_28, ra_10_28, nu_8, rz_9_29, ra_10_29, nu_9, rz_10_30, ra_10_30, nu_10, rz_11_31, ra_10_31, nu_11, rz_12_32, ra_10_32, nu_12, tn_0, ia_0, tn_1, ia_1, tn_2, ia_2, tn_3, ia_3, tn_4, ia_4, tn_5, ia_5, tn_6, ia_6, tn_7, ia_7, tn_8, ia_8, tn_9, ia_9, tn_10, ia_10, il_0_4_lt, il_1_4_lt, il_2_4_lt, il_3_4_lt, il_4_4_lt, il_0_8_lt, il_1_8_lt, il_2_8_lt, il_3_8_lt, il_4_8_lt, il_5_8_lt, il_6_8_lt, il_7_8_lt, il_8_8_lt, il_0_10_lt, il_1_10_lt, il_2_10_lt, il_3_10_lt, il_4_10_lt, il_5_10_lt, il_6_10_lt, il_7_10_lt, il_8_10_lt, il_9_10_lt, il_10_10_lt, Option.isSome_some]
def RL14 : List (List (Option Nat)) := qls2 RL13 12 2 (some 27)
theorem zl_14 : RL14.length ≤ 28 := qls2_len (by decide) (Nat.le_trans zl_13 (by decide))
theorem nu_13 : am_upR (qdR RL13) 12 2 (some 27) = qdR RL14 := upR_dR
theorem rz_14_33 : am_rowR (qdR RL14) 33 (fun _ => none) = qdR RL14 := rowR0 (Nat.le_trans zl_14 (by decide))
theorem ra_10_33 {xs : Nat → Int32} : am_row (AS10 xs) 33 (fun _ => 0) = AS10 xs := row0 (az_10 33 (by decide))
theorem rz_14_34 : am_rowR (qdR RL14) 34 (fun _ => none) = qdR RL14 := rowR0 (Nat.le_trans zl_14 (by decide))
theorem ra_10_34 {xs : Nat → Int32} : am_row (AS10 xs) 34 (fun _ => 0) = AS10 xs := row0 (az_10 34 (by decide))
def RL15 : List (List (Option Nat)) := qls2 RL14 33 1 (some 34)
theorem zl_15 : RL15.length ≤ 34 := qls2_len (by decide) (Nat.le_trans zl_14 (by decide))
theorem nu_14 : am_upR (qdR RL14) 33 1 (some 34) = qdR RL15 := upR_dR
set_option maxRecDepth 100000 in
set_option maxHeartbeats 4000000 in
theorem ci_2 {L d : Nat} {xs : Nat → Int32} {Q : Option Value → am_H → Prop} : CALL d 43 [.ref (33 : Nat)] (List.take 34 (CT L), AS10 xs, qdR RL14) Q = Q none (List.take 35 (CT L), AS10 xs, qdR RL15) := by
  rw [en_X8_init]
  simp (disch := (first | exact (show _ from rfl) | exact Nat.le_of_ble_eq_true rfl | exact nwl rfl | exact inb_of 10 rfl rfl | exact inb_of 8 rfl rfl | exact inb_of 4 rfl rfl)) only [st_X8_init_0, st_X8_init_1, st_X8_init_4, st_X8_init_5, st_X8_init_7, st_X8_init_9, st_X8_init_12, Option.toList_some, Option.toList_none, List.cons_append, List.nil_append, Option.getD_some, am_nlI, am_nlR, am_nlN, bi_eq0, if_true, if_false, bf_tf, bf_ft, tkl, tka, Nat.reduceAdd, ↓reduceIte, rz_14_34, ra_10_34, nu_14, tn_0, ia_0, tn_1, ia_1, tn_2, ia_2, tn_3, ia_3, tn_4, ia_4, tn_5, ia_5, tn_6, ia_6, tn_7, ia_7, tn_8, ia_8, tn_9, ia_9, tn_10, ia_10, il_0_4_lt, il_1_4_lt, il_2_4_lt, il_3_4_lt, il_4_4_lt, il_0_8_lt, il_1_8_lt, il_2_8_lt, il_3_8_lt, il_4_8_lt, il_5_8_lt, il_6_8_lt, il_7_8_lt, il_8_8_lt, il_0_10_lt, il_1_10_lt, il_2_10_lt, il_3_10_lt, il_4_10_lt, il_5_10_lt, il_6_10_lt, il_7_10_lt, il_8_10_lt, il_9_10_lt, il_10_10_lt, Option.isSome_some]
def RL16 : List (List (Option Nat)) := qls2 RL15 12 3 (some 33)
theorem zl_16 : RL16.length ≤ 34 := qls2_len (by decide) (Nat.le_trans zl_15 (by decide))
theorem nu_15 : am_upR (qdR RL15) 12 3 (some 33) = qdR RL16 := upR_dR
theorem rz_16_35 : am_rowR (qdR RL16) 35 (fun _ => none) = qdR RL16 := rowR0 (Nat.le_trans zl_16 (by decide))
theorem ra_10_35 {xs : Nat → Int32} : am_row (AS10 xs) 35 (fun _ => 0) = AS10 xs := row0 (az_10 35 (by decide))
theorem rz_16_36 : am_rowR (qdR RL16) 36 (fun _ => none) = qdR RL16 := rowR0 (Nat.le_trans zl_16 (by decide))
theorem ra_10_36 {xs : Nat → Int32} : am_row (AS10 xs) 36 (fun _ => 0) = AS10 xs := row0 (az_10 36 (by decide))
def RL17 : List (List (Option Nat)) := qls2 RL16 35 0 (some 36)
theorem zl_17 : RL17.length ≤ 36 := qls2_len (by decide) (Nat.le_trans zl_16 (by decide))
theorem nu_16 : am_upR (qdR RL16) 35 0 (some 36) = qdR RL17 := upR_dR
theorem rz_17_37 : am_rowR (qdR RL17) 37 (fun _ => none) = qdR RL17 := rowR0 (Nat.le_trans zl_17 (by decide))
theorem ra_10_37 {xs : Nat → Int32} : am_row (AS10 xs) 37 (fun _ => 0) = AS10 xs := row0 (az_10 37 (by decide))
def RL18 : List (List (Option Nat)) := qls2 RL17 35 1 (some 37)
theorem zl_18 : RL18.length ≤ 36 := qls2_len (by decide) (Nat.le_trans zl_17 (by decide))
theorem nu_17 : am_upR (qdR RL17) 35 1 (some 37) = qdR RL18 := upR_dR
theorem rz_18_38 : am_rowR (qdR RL18) 38 (fun _ => none) = qdR RL18 := rowR0 (Nat.le_trans zl_18 (by decide))
theorem ra_10_38 {xs : Nat → Int32} : am_row (AS10 xs) 38 (fun _ => 0) = AS10 xs := row0 (az_10 38 (by decide))
def RL19 : List (List (Option Nat)) := qls2 RL18 35 3 (some 38)
theorem zl_19 : RL19.length ≤ 36 := qls2_len (by decide) (Nat.le_trans zl_18 (by decide))
theorem nu_18 : am_upR (qdR RL18) 35 3 (some 38) = qdR RL19 := upR_dR
set_option maxRecDepth 100000 in
set_option maxHeartbeats 4000000 in
theorem ci_3 {L d : Nat} {xs : Nat → Int32} {Q : Option Value → am_H → Prop} : CALL d 9 [.ref (35 : Nat)] (List.take 36 (CT L), AS10 xs, qdR RL16) Q = Q none (List.take 39 (CT L), AS10 xs, qdR RL19) := by
  rw [en_X1_init]
  simp (disch := (first | exact (show _ from rfl) | exact Nat.le_of_ble_eq_true rfl | exact nwl rfl | exact inb_of 10 rfl rfl | exact inb_of 8 rfl rfl | exact inb_of 4 rfl rfl)) only [st_X1_init_0, st_X1_init_1, st_X1_init_4, st_X1_init_5, st_X1_init_7, st_X1_init_9, st_X1_init_12, st_X1_init_13, st_X1_init_15, st_X1_init_17, st_X1_init_20, st_X1_init_21, st_X1_init_23, st_X1_init_25, st_X1_init_28, Option.toList_some, Option.toList_none, List.cons_append, List.nil_append, Option.getD_some, am_nlI, am_nlR, am_nlN, bi_eq0, if_true, if_false, bf_tf, bf_ft, tkl, tka, Nat.reduceAdd, ↓reduceIte, rz_16_36, ra_10_36, nu_16, rz_17_37, ra_10_37, nu_17, rz_18_38, ra_10_38, nu_18, tn_0, ia_0, tn_1, ia_1, tn_2, ia_2, tn_3, ia_3, tn_4, ia_4, tn_5, ia_5, tn_6, ia_6, tn_7, ia_7, tn_8, ia_8, tn_9, ia_9, tn_10, ia_10, il_0_4_lt, il_1_4_lt, il_2_4_lt, il_3_4_lt, il_4_4_lt, il_0_8_lt, il_1_8_lt, il_2_8_lt, il_3_8_lt, il_4_8_lt, il_5_8_lt, il_6_8_lt, il_7_8_lt, il_8_8_lt, il_0_10_lt, il_1_10_lt, il_2_10_lt, il_3_10_lt, il_4_10_lt, il_5_10_lt, il_6_10_lt, il_7_10_lt, il_8_10_lt, il_9_10_lt, il_10_10_lt, Option.isSome_some]
def RL20 : List (List (Option Nat)) := qls2 RL19 12 4 (some 35)
theorem zl_20 : RL20.length ≤ 36 := qls2_len (by decide) (Nat.le_trans zl_19 (by decide))
theorem nu_19 : am_upR (qdR RL19) 12 4 (some 35) = qdR RL20 := upR_dR
theorem rz_20_39 : am_rowR (qdR RL20) 39 (fun _ => none) = qdR RL20 := rowR0 (Nat.le_trans zl_20 (by decide))
theorem ra_10_39 {xs : Nat → Int32} : am_row (AS10 xs) 39 (fun _ => 0) = AS10 xs := row0 (az_10 39 (by decide))
def AS11 (xs : Nat → Int32) : Nat → Nat → Int32 := am_up (AS10 xs) 39 1 (-4)
theorem az_11 {xs : Nat → Int32} : ∀ q, 40 ≤ q → AS11 xs q = fun _ => 0 := fun q h => am_up_z (n := 40) (fun q h => az_10 q (by omega)) (by decide) h
theorem na_10 {xs : Nat → Int32} : am_up (AS10 xs) 39 1 (-4) = AS11 xs := rfl
theorem rz_20_40 : am_rowR (qdR RL20) 40 (fun _ => none) = qdR RL20 := rowR0 (Nat.le_trans zl_20 (by decide))
theorem ra_11_40 {xs : Nat → Int32} : am_row (AS11 xs) 40 (fun _ => 0) = AS11 xs := row0 (az_11 40 (by decide))
def RL21 : List (List (Option Nat)) := qls2 RL20 39 2 (some 40)
theorem zl_21 : RL21.length ≤ 40 := qls2_len (by decide) (Nat.le_trans zl_20 (by decide))
theorem nu_20 : am_upR (qdR RL20) 39 2 (some 40) = qdR RL21 := upR_dR
theorem rz_21_41 : am_rowR (qdR RL21) 41 (fun _ => none) = qdR RL21 := rowR0 (Nat.le_trans zl_21 (by decide))
theorem ra_11_41 {xs : Nat → Int32} : am_row (AS11 xs) 41 (fun _ => 0) = AS11 xs := row0 (az_11 41 (by decide))
def RL22 : List (List (Option Nat)) := qls2 RL21 39 3 (some 41)
theorem zl_22 : RL22.length ≤ 40 := qls2_len (by decide) (Nat.le_trans zl_21 (by decide))
theorem nu_21 : am_upR (qdR RL21) 39 3 (some 41) = qdR RL22 := upR_dR
set_option maxRecDepth 100000 in
set_option maxHeartbeats 4000000 in
theorem ci_4 {L d : Nat} {xs : Nat → Int32} {Q : Option Value → am_H → Prop} : CALL d 24 [.ref (39 : Nat)] (List.take 40 (CT L), AS10 xs, qdR RL20) Q = Q none (List.take 42 (CT L), AS11 xs, qdR RL22) := by
  rw [en_X4_init]
  simp (disch := (first | exact (show _ from rfl) | exact Nat.le_of_ble_eq_true rfl | exact nwl rfl | exact inb_of 10 rfl rfl | exact inb_of 8 rfl rfl | exact inb_of 4 rfl rfl)) only [st_X4_init_0, st_X4_init_1, st_X4_init_4, st_X4_init_5, st_X4_init_7, st_X4_init_10, st_X4_init_11, st_X4_init_13, st_X4_init_15, st_X4_init_18, st_X4_init_19, st_X4_init_21, st_X4_init_23, st_X4_init_26, Option.toList_some, Option.toList_none, List.cons_append, List.nil_append, Option.getD_some, am_nlI, am_nlR, am_nlN, bi_eq0, if_true, if_false, bf_tf, bf_ft, tkl, tka, Nat.reduceAdd, ↓reduceIte, na_10, rz_20_40, ra_11_40, nu_20, rz_21_41, ra_11_41, nu_21, tn_0, ia_0, tn_1, ia_1, tn_2, ia_2, tn_3, ia_3, tn_4, ia_4, tn_5, ia_5, tn_6, ia_6, tn_7, ia_7, tn_8, ia_8, tn_9, ia_9, tn_10, ia_10, il_0_4_lt, il_1_4_lt, il_2_4_lt, il_3_4_lt, il_4_4_lt, il_0_8_lt, il_1_8_lt, il_2_8_lt, il_3_8_lt, il_4_8_lt, il_5_8_lt, il_6_8_lt, il_7_8_lt, il_8_8_lt, il_0_10_lt, il_1_10_lt, il_2_10_lt, il_3_10_lt, il_4_10_lt, il_5_10_lt, il_6_10_lt, il_7_10_lt, il_8_10_lt, il_9_10_lt, il_10_10_lt, Option.isSome_some]
def RL23 : List (List (Option Nat)) := qls2 RL22 12 5 (some 39)
theorem zl_23 : RL23.length ≤ 40 := qls2_len (by decide) (Nat.le_trans zl_22 (by decide))
theorem nu_22 : am_upR (qdR RL22) 12 5 (some 39) = qdR RL23 := upR_dR
theorem rz_23_42 : am_rowR (qdR RL23) 42 (fun _ => none) = qdR RL23 := rowR0 (Nat.le_trans zl_23 (by decide))
theorem ra_11_42 {xs : Nat → Int32} : am_row (AS11 xs) 42 (fun _ => 0) = AS11 xs := row0 (az_11 42 (by decide))
def RL24 : List (List (Option Nat)) := qrow RL23 43 ((List.range 8).map (fun j => some (43 + 1 + j)))
theorem zl_24 : RL24.length ≤ 44 := qrow_len _ _ _ _ (by decide) (Nat.le_trans zl_23 (by decide))
theorem mn_23 {L d : Nat} {xs : Nat → Int32} {l : am_L} {S : List Value} {Q : Option Value → am_H → Prop} : AW d 19 9 l (.int 6 :: .int 8 :: S) (List.take 43 (CT L), AS11 xs, qdR RL23) Q = AW d 19 13 l (.ref (43 : Nat) :: S) (List.take 52 (CT L), AS11 xs, qdR RL24) Q := by
  refine Eq.trans (st_X3_init_9 (nwl rfl)) ?_
  rw [tkl (by decide)]
  exact congrArg (fun z => AW d 19 13 l (.ref (43 : Nat) :: S) z Q) (Prod.ext rfl (Prod.ext (mnA (fun q h => az_11 q (Nat.le_trans (by decide) h))) (mnR (n := 43) (m := 8) (Nat.le_trans zl_23 (by decide)))))
def RL25 : List (List (Option Nat)) := qls2 RL24 42 0 (some 43)
theorem zl_25 : RL25.length ≤ 44 := qls2_len (by decide) (Nat.le_trans zl_24 (by decide))
theorem nu_24 : am_upR (qdR RL24) 42 0 (some 43) = qdR RL25 := upR_dR
set_option maxRecDepth 100000 in
set_option maxHeartbeats 4000000 in
theorem ci_5 {L d : Nat} {xs : Nat → Int32} {Q : Option Value → am_H → Prop} : CALL d 19 [.ref (42 : Nat)] (List.take 43 (CT L), AS11 xs, qdR RL23) Q = Q none (List.take 52 (CT L), AS11 xs, qdR RL25) := by
  rw [en_X3_init]
  simp (disch := (first | exact (show _ from rfl) | exact Nat.le_of_ble_eq_true rfl | exact nwl rfl | exact inb_of 10 rfl rfl | exact inb_of 8 rfl rfl | exact inb_of 4 rfl rfl)) only [st_X3_init_0, st_X3_init_1, st_X3_init_4, st_X3_init_5, st_X3_init_7, st_X3_init_13, st_X3_init_16, Option.toList_some, Option.toList_none, List.cons_append, List.nil_append, Option.getD_some, am_nlI, am_nlR, am_nlN, bi_eq0, if_true, if_false, bf_tf, bf_ft, tkl, tka, Nat.reduceAdd, ↓reduceIte, mn_23, nu_24, tn_0, ia_0, tn_1, ia_1, tn_2, ia_2, tn_3, ia_3, tn_4, ia_4, tn_5, ia_5, tn_6, ia_6, tn_7, ia_7, tn_8, ia_8, tn_9, ia_9, tn_10, ia_10, il_0_4_lt, il_1_4_lt, il_2_4_lt, il_3_4_lt, il_4_4_lt, il_0_8_lt, il_1_8_lt, il_2_8_lt, il_3_8_lt, il_4_8_lt, il_5_8_lt, il_6_8_lt, il_7_8_lt, il_8_8_lt, il_0_10_lt, il_1_10_lt, il_2_10_lt, il_3_10_lt, il_4_10_lt, il_5_10_lt, il_6_10_lt, il_7_10_lt, il_8_10_lt, il_9_10_lt, il_10_10_lt, Option.isSome_some]
def RL26 : List (List (Option Nat)) := qls2 RL25 12 6 (some 42)
theorem zl_26 : RL26.length ≤ 44 := qls2_len (by decide) (Nat.le_trans zl_25 (by decide))
theorem nu_25 : am_upR (qdR RL25) 12 6 (some 42) = qdR RL26 := upR_dR
theorem rz_26_52 : am_rowR (qdR RL26) 52 (fun _ => none) = qdR RL26 := rowR0 (Nat.le_trans zl_26 (by decide))
theorem ra_11_52 {xs : Nat → Int32} : am_row (AS11 xs) 52 (fun _ => 0) = AS11 xs := row0 (az_11 52 (by decide))
def RL27 : List (List (Option Nat)) := qls2 RL26 12 7 (some 52)
theorem zl_27 : RL27.length ≤ 44 := qls2_len (by decide) (Nat.le_trans zl_26 (by decide))
theorem nu_26 : am_upR (qdR RL26) 12 7 (some 52) = qdR RL27 := upR_dR
theorem rz_27_53 : am_rowR (qdR RL27) 53 (fun _ => none) = qdR RL27 := rowR0 (Nat.le_trans zl_27 (by decide))
theorem ra_11_53 {xs : Nat → Int32} : am_row (AS11 xs) 53 (fun _ => 0) = AS11 xs := row0 (az_11 53 (by decide))
theorem rz_27_54 : am_rowR (qdR RL27) 54 (fun _ => none) = qdR RL27 := rowR0 (Nat.le_trans zl_27 (by decide))
theorem ra_11_54 {xs : Nat → Int32} : am_row (AS11 xs) 54 (fun _ => 0) = AS11 xs := row0 (az_11 54 (by decide))
def RL28 : List (List (Option Nat)) := qls2 RL27 53 0 (some 54)
theorem zl_28 : RL28.length ≤ 54 := qls2_len (by decide) (Nat.le_trans zl_27 (by decide))
theorem nu_27 : am_upR (qdR RL27) 53 0 (some 54) = qdR RL28 := upR_dR
theorem rz_28_55 : am_rowR (qdR RL28) 55 (fun _ => none) = qdR RL28 := rowR0 (Nat.le_trans zl_28 (by decide))
theorem ra_11_55 {xs : Nat → Int32} : am_row (AS11 xs) 55 (fun _ => 0) = AS11 xs := row0 (az_11 55 (by decide))
def RL29 : List (List (Option Nat)) := qls2 RL28 53 2 (some 55)
theorem zl_29 : RL29.length ≤ 54 := qls2_len (by decide) (Nat.le_trans zl_28 (by decide))
theorem nu_28 : am_upR (qdR RL28) 53 2 (some 55) = qdR RL29 := upR_dR
theorem rz_29_56 : am_rowR (qdR RL29) 56 (fun _ => none) = qdR RL29 := rowR0 (Nat.le_trans zl_29 (by decide))
theorem ra_11_56 {xs : Nat → Int32} : am_row (AS11 xs) 56 (fun _ => 0) = AS11 xs := row0 (az_11 56 (by decide))
def RL30 : List (List (Option Nat)) := qls2 RL29 53 3 (some 56)
theorem zl_30 : RL30.length ≤ 54 := qls2_len (by decide) (Nat.le_trans zl_29 (by decide))
theorem nu_29 : am_upR (qdR RL29) 53 3 (some 56) = qdR RL30 := upR_dR
theorem rz_30_57 : am_rowR (qdR RL30) 57 (fun _ => none) = qdR RL30 := rowR0 (Nat.le_trans zl_30 (by decide))
theorem ra_11_57 {xs : Nat → Int32} : am_row (AS11 xs) 57 (fun _ => 0) = AS11 xs := row0 (az_11 57 (by decide))
def RL31 : List (List (Option Nat)) := qls2 RL30 53 4 (some 57)
theorem zl_31 : RL31.length ≤ 54 := qls2_len (by decide) (Nat.le_trans zl_30 (by decide))
theorem nu_30 : am_upR (qdR RL30) 53 4 (some 57) = qdR RL31 := upR_dR
set_option maxRecDepth 100000 in
set_option maxHeartbeats 4000000 in
theorem ci_6 {L d : Nat} {xs : Nat → Int32} {Q : Option Value → am_H → Prop} : CALL d 1 [.ref (53 : Nat)] (List.take 54 (CT L), AS11 xs, qdR RL27) Q = Q none (List.take 58 (CT L), AS11 xs, qdR RL31) := by
  rw [en_X0_init]
  simp (disch := (first | exact (show _ from rfl) | exact Nat.le_of_ble_eq_true rfl | exact nwl rfl | exact inb_of 10 rfl rfl | exact inb_of 8 rfl rfl | exact inb_of 4 rfl rfl)) only [st_X0_init_0, st_X0_init_1, st_X0_init_4, st_X0_init_5, st_X0_init_7, st_X0_init_9, st_X0_init_12, st_X0_init_13, st_X0_init_15, st_X0_init_17, st_X0_init_20, st_X0_init_21, st_X0_init_23, st_X0_init_25, st_X0_init_28, st_X0_init_29, st_X0_init_31, st_X0_init_33, st_X0_init_36, Option.toList_some, Option.toList_none, List.cons_append, List.nil_append, Option.getD_some, am_nlI, am_nlR, am_nlN, bi_eq0, if_true, if_false, bf_tf, bf_ft, tkl, tka, Nat.reduceAdd, ↓reduceIte, rz_27_54, ra_11_54, nu_27, rz_28_55, ra_11_55, nu_28, rz_29_56, ra_11_56, nu_29, rz_30_57, ra_11_57, nu_30, tn_0, ia_0, tn_1, ia_1, tn_2, ia_2, tn_3, ia_3, tn_4, ia_4, tn_5, ia_5, tn_6, ia_6, tn_7, ia_7, tn_8, ia_8, tn_9, ia_9, tn_10, ia_10, il_0_4_lt, il_1_4_lt, il_2_4_lt, il_3_4_lt, il_4_4_lt, il_0_8_lt, il_1_8_lt, il_2_8_lt, il_3_8_lt, il_4_8_lt, il_5_8_lt, il_6_8_lt, il_7_8_lt, il_8_8_lt, il_0_10_lt, il_1_10_lt, il_2_10_lt, il_3_10_lt, il_4_10_lt, il_5_10_lt, il_6_10_lt, il_7_10_lt, il_8_10_lt, il_9_10_lt, il_10_10_lt, Option.isSome_some]
def RL32 : List (List (Option Nat)) := qls2 RL31 12 8 (some 53)
theorem zl_32 : RL32.length ≤ 54 := qls2_len (by decide) (Nat.le_trans zl_31 (by decide))
theorem nu_31 : am_upR (qdR RL31) 12 8 (some 53) = qdR RL32 := upR_dR
theorem rz_32_58 : am_rowR (qdR RL32) 58 (fun _ => none) = qdR RL32 := rowR0 (Nat.le_trans zl_32 (by decide))
theorem ra_11_58 {xs : Nat → Int32} : am_row (AS11 xs) 58 (fun _ => 0) = AS11 xs := row0 (az_11 58 (by decide))
theorem rz_32_59 : am_rowR (qdR RL32) 59 (fun _ => none) = qdR RL32 := rowR0 (Nat.le_trans zl_32 (by decide))
theorem ra_11_59 {xs : Nat → Int32} : am_row (AS11 xs) 59 (fun _ => 0) = AS11 xs := row0 (az_11 59 (by decide))
def RL33 : List (List (Option Nat)) := qls2 RL32 58 0 (some 59)
theorem zl_33 : RL33.length ≤ 59 := qls2_len (by decide) (Nat.le_trans zl_32 (by decide))
theorem nu_32 : am_upR (qdR RL32) 58 0 (some 59) = qdR RL33 := upR_dR
theorem rz_33_60 : am_rowR (qdR RL33) 60 (fun _ => none) = qdR RL33 := rowR0 (Nat.le_trans zl_33 (by decide))
theorem ra_11_60 {xs : Nat → Int32} : am_row (AS11 xs) 60 (fun _ => 0) = AS11 xs := row0 (az_11 60 (by decide))
def RL34 : List (List (Option Nat)) := qls2 RL33 58 2 (some 60)
theorem zl_34 : RL34.length ≤ 59 := qls2_len (by decide) (Nat.le_trans zl_33 (by decide))
theorem nu_33 : am_upR (qdR RL33) 58 2 (some 60) = qdR RL34 := upR_dR
theorem rz_34_61 : am_rowR (qdR RL34) 61 (fun _ => none) = qdR RL34 := rowR0 (Nat.le_trans zl_34 (by decide))
theorem ra_11_61 {xs : Nat → Int32} : am_row (AS11 xs) 61 (fun _ => 0) = AS11 xs := row0 (az_11 61 (by decide))
def RL35 : List (List (Option Nat)) := qls2 RL34 58 3 (some 61)
theorem zl_35 : RL35.length ≤ 59 := qls2_len (by decide) (Nat.le_trans zl_34 (by decide))
theorem nu_34 : am_upR (qdR RL34) 58 3 (some 61) = qdR RL35 := upR_dR
theorem rz_35_62 : am_rowR (qdR RL35) 62 (fun _ => none) = qdR RL35 := rowR0 (Nat.le_trans zl_35 (by decide))
theorem ra_11_62 {xs : Nat → Int32} : am_row (AS11 xs) 62 (fun _ => 0) = AS11 xs := row0 (az_11 62 (by decide))
def RL36 : List (List (Option Nat)) := qls2 RL35 58 4 (some 62)
theorem zl_36 : RL36.length ≤ 59 := qls2_len (by decide) (Nat.le_trans zl_35 (by decide))
theorem nu_35 : am_upR (qdR RL35) 58 4 (some 62) = qdR RL36 := upR_dR
set_option maxRecDepth 100000 in
set_option maxHeartbeats 4000000 in
theorem ci_7 {L d : Nat} {xs : Nat → Int32} {Q : Option Value → am_H → Prop} : CALL d 1 [.ref (58 : Nat)] (List.take 59 (CT L), AS11 xs, qdR RL32) Q = Q none (List.take 63 (CT L), AS11 xs, qdR RL36) := by
  rw [en_X0_init]
  simp (disch := (first | exact (show _ from rfl) | exact Nat.le_of_ble_eq_true rfl | exact nwl rfl | exact inb_of 10 rfl rfl | exact inb_of 8 rfl rfl | exact inb_of 4 rfl rfl)) only [st_X0_init_0, st_X0_init_1, st_X0_init_4, st_X0_init_5, st_X0_init_7, st_X0_init_9, st_X0_init_12, st_X0_init_13, st_X0_init_15, st_X0_init_17, st_X0_init_20, st_X0_init_21, st_X0_init_23, st_X0_init_25, st_X0_init_28, st_X0_init_29, st_X0_init_31, st_X0_init_33, st_X0_init_36, Option.toList_some, Option.toList_none, List.cons_append, List.nil_append, Option.getD_some, am_nlI, am_nlR, am_nlN, bi_eq0, if_true, if_false, bf_tf, bf_ft, tkl, tka, Nat.reduceAdd, ↓reduceIte, rz_32_59, ra_11_59, nu_32, rz_33_60, ra_11_60, nu_33, rz_34_61, ra_11_61, nu_34, rz_35_62, ra_11_62, nu_35, tn_0, ia_0, tn_1, ia_1, tn_2, ia_2, tn_3, ia_3, tn_4, ia_4, tn_5, ia_5, tn_6, ia_6, tn_7, ia_7, tn_8, ia_8, tn_9, ia_9, tn_10, ia_10, il_0_4_lt, il_1_4_lt, il_2_4_lt, il_3_4_lt, il_4_4_lt, il_0_8_lt, il_1_8_lt, il_2_8_lt, il_3_8_lt, il_4_8_lt, il_5_8_lt, il_6_8_lt, il_7_8_lt, il_8_8_lt, il_0_10_lt, il_1_10_lt, il_2_10_lt, il_3_10_lt, il_4_10_lt, il_5_10_lt, il_6_10_lt, il_7_10_lt, il_8_10_lt, il_9_10_lt, il_10_10_lt, Option.isSome_some]
def RL37 : List (List (Option Nat)) := qls2 RL36 12 9 (some 58)
theorem zl_37 : RL37.length ≤ 59 := qls2_len (by decide) (Nat.le_trans zl_36 (by decide))
theorem nu_36 : am_upR (qdR RL36) 12 9 (some 58) = qdR RL37 := upR_dR
theorem rg_37_12_1 : qdR RL37 12 1 = some 26 := by decide +kernel
theorem rz_37_63 : am_rowR (qdR RL37) 63 (fun _ => none) = qdR RL37 := rowR0 (Nat.le_trans zl_37 (by decide))
theorem ra_11_63 {xs : Nat → Int32} : am_row (AS11 xs) 63 (fun _ => 0) = AS11 xs := row0 (az_11 63 (by decide))
theorem rz_37_64 : am_rowR (qdR RL37) 64 (fun _ => none) = qdR RL37 := rowR0 (Nat.le_trans zl_37 (by decide))
theorem ra_11_64 {xs : Nat → Int32} : am_row (AS11 xs) 64 (fun _ => 0) = AS11 xs := row0 (az_11 64 (by decide))
theorem rz_37_65 : am_rowR (qdR RL37) 65 (fun _ => none) = qdR RL37 := rowR0 (Nat.le_trans zl_37 (by decide))
theorem ra_11_65 {xs : Nat → Int32} : am_row (AS11 xs) 65 (fun _ => 0) = AS11 xs := row0 (az_11 65 (by decide))
def RL38 : List (List (Option Nat)) := qls2 RL37 64 0 (some 65)
theorem zl_38 : RL38.length ≤ 65 := qls2_len (by decide) (Nat.le_trans zl_37 (by decide))
theorem nu_37 : am_upR (qdR RL37) 64 0 (some 65) = qdR RL38 := upR_dR
theorem rz_38_66 : am_rowR (qdR RL38) 66 (fun _ => none) = qdR RL38 := rowR0 (Nat.le_trans zl_38 (by decide))
theorem ra_11_66 {xs : Nat → Int32} : am_row (AS11 xs) 66 (fun _ => 0) = AS11 xs := row0 (az_11 66 (by decide))
def RL39 : List (List (Option Nat)) := qls2 RL38 64 1 (some 66)
theorem zl_39 : RL39.length ≤ 65 := qls2_len (by decide) (Nat.le_trans zl_38 (by decide))
theorem nu_38 : am_upR (qdR RL38) 64 1 (some 66) = qdR RL39 := upR_dR
theorem rz_39_67 : am_rowR (qdR RL39) 67 (fun _ => none) = qdR RL39 := rowR0 (Nat.le_trans zl_39 (by decide))
theorem ra_11_67 {xs : Nat → Int32} : am_row (AS11 xs) 67 (fun _ => 0) = AS11 xs := row0 (az_11 67 (by decide))
def RL40 : List (List (Option Nat)) := qls2 RL39 64 2 (some 67)
theorem zl_40 : RL40.length ≤ 65 := qls2_len (by decide) (Nat.le_trans zl_39 (by decide))
theorem nu_39 : am_upR (qdR RL39) 64 2 (some 67) = qdR RL40 := upR_dR
theorem rz_40_68 : am_rowR (qdR RL40) 68 (fun _ => none) = qdR RL40 := rowR0 (Nat.le_trans zl_40 (by decide))
theorem ra_11_68 {xs : Nat → Int32} : am_row (AS11 xs) 68 (fun _ => 0) = AS11 xs := row0 (az_11 68 (by decide))
def RL41 : List (List (Option Nat)) := qls2 RL40 64 3 (some 68)
theorem zl_41 : RL41.length ≤ 65 := qls2_len (by decide) (Nat.le_trans zl_40 (by decide))
theorem nu_40 : am_upR (qdR RL40) 64 3 (some 68) = qdR RL41 := upR_dR
theorem rz_41_69 : am_rowR (qdR RL41) 69 (fun _ => none) = qdR RL41 := rowR0 (Nat.le_trans zl_41 (by decide))
theorem ra_11_69 {xs : Nat → Int32} : am_row (AS11 xs) 69 (fun _ => 0) = AS11 xs := row0 (az_11 69 (by decide))
def RL42 : List (List (Option Nat)) := qls2 RL41 64 4 (some 69)
theorem zl_42 : RL42.length ≤ 65 := qls2_len (by decide) (Nat.le_trans zl_41 (by decide))
theorem nu_41 : am_upR (qdR RL41) 64 4 (some 69) = qdR RL42 := upR_dR
set_option maxRecDepth 100000 in
set_option maxHeartbeats 4000000 in
theorem ci_8 {L d : Nat} {xs : Nat → Int32} {Q : Option Value → am_H → Prop} : CALL d 36 [.ref (64 : Nat)] (List.take 65 (CT L), AS11 xs, qdR RL37) Q = Q none (List.take 70 (CT L), AS11 xs, qdR RL42) := by
  rw [en_X7_init]
  simp (disch := (first | exact (show _ from rfl) | exact Nat.le_of_ble_eq_true rfl | exact nwl rfl | exact inb_of 10 rfl rfl | exact inb_of 8 rfl rfl | exact inb_of 4 rfl rfl)) only [st_X7_init_0, st_X7_init_1, st_X7_init_4, st_X7_init_5, st_X7_init_7, st_X7_init_9, st_X7_init_12, st_X7_init_13, st_X7_init_15, st_X7_init_17, st_X7_init_20, st_X7_init_21, st_X7_init_23, st_X7_init_25, st_X7_init_28, st_X7_init_29, st_X7_init_31, st_X7_init_33, st_X7_init_36, st_X7_init_37, st_X7_init_39, st_X7_init_41, st_X7_init_44, Option.toList_some, Option.toList_none, List.cons_append, List.nil_append, Option.getD_some, am_nlI, am_nlR, am_nlN, bi_eq0, if_true, if_false, bf_tf, bf_ft, tkl, tka, Nat.reduceAdd, ↓reduceIte, rz_37_65, ra_11_65, nu_37, rz_38_66, ra_11_66, nu_38, rz_39_67, ra_11_67, nu_39, rz_40_68, ra_11_68, nu_40, rz_41_69, ra_11_69, nu_41, tn_0, ia_0, tn_1, ia_1, tn_2, ia_2, tn_3, ia_3, tn_4, ia_4, tn_5, ia_5, tn_6, ia_6, tn_7, ia_7, tn_8, ia_8, tn_9, ia_9, tn_10, ia_10, il_0_4_lt, il_1_4_lt, il_2_4_lt, il_3_4_lt, il_4_4_lt, il_0_8_lt, il_1_8_lt, il_2_8_lt, il_3_8_lt, il_4_8_lt, il_5_8_lt, il_6_8_lt, il_7_8_lt, il_8_8_lt, il_0_10_lt, il_1_10_lt, il_2_10_lt, il_3_10_lt, il_4_10_lt, il_5_10_lt, il_6_10_lt, il_7_10_lt, il_8_10_lt, il_9_10_lt, il_10_10_lt, Option.isSome_some]
def RL43 : List (List (Option Nat)) := qls2 RL42 63 0 (some 64)
theorem zl_43 : RL43.length ≤ 65 := qls2_len (by decide) (Nat.le_trans zl_42 (by decide))
theorem nu_42 : am_upR (qdR RL42) 63 0 (some 64) = qdR RL43 := upR_dR
set_option maxRecDepth 100000 in
set_option maxHeartbeats 4000000 in
theorem ci_9 {L d : Nat} {xs : Nat → Int32} {Q : Option Value → am_H → Prop} : CALL (d + 1) 28 [.ref (63 : Nat)] (List.take 64 (CT L), AS11 xs, qdR RL37) Q = Q none (List.take 70 (CT L), AS11 xs, qdR RL43) := by
  rw [en_X5_init]
  simp (disch := (first | exact (show _ from rfl) | exact Nat.le_of_ble_eq_true rfl | exact nwl rfl | exact inb_of 10 rfl rfl | exact inb_of 8 rfl rfl | exact inb_of 4 rfl rfl)) only [st_X5_init_0, st_X5_init_1, st_X5_init_4, st_X5_init_5, st_X5_init_8, st_X5_init_9, st_X5_init_12, st_X5_init_15, Option.toList_some, Option.toList_none, List.cons_append, List.nil_append, Option.getD_some, am_nlI, am_nlR, am_nlN, bi_eq0, if_true, if_false, bf_tf, bf_ft, tkl, tka, Nat.reduceAdd, ↓reduceIte, rz_37_64, ra_11_64, ci_8, nu_42, tn_0, ia_0, tn_1, ia_1, tn_2, ia_2, tn_3, ia_3, tn_4, ia_4, tn_5, ia_5, tn_6, ia_6, tn_7, ia_7, tn_8, ia_8, tn_9, ia_9, tn_10, ia_10, il_0_4_lt, il_1_4_lt, il_2_4_lt, il_3_4_lt, il_4_4_lt, il_0_8_lt, il_1_8_lt, il_2_8_lt, il_3_8_lt, il_4_8_lt, il_5_8_lt, il_6_8_lt, il_7_8_lt, il_8_8_lt, il_0_10_lt, il_1_10_lt, il_2_10_lt, il_3_10_lt, il_4_10_lt, il_5_10_lt, il_6_10_lt, il_7_10_lt, il_8_10_lt, il_9_10_lt, il_10_10_lt, Option.isSome_some]
def RL44 : List (List (Option Nat)) := qls2 RL43 26 0 (some 63)
theorem zl_44 : RL44.length ≤ 65 := qls2_len (by decide) (Nat.le_trans zl_43 (by decide))
theorem nu_43 : am_upR (qdR RL43) 26 0 (some 63) = qdR RL44 := upR_dR
theorem rg_44_12_1 : qdR RL44 12 1 = some 26 := by decide +kernel
theorem rz_44_70 : am_rowR (qdR RL44) 70 (fun _ => none) = qdR RL44 := rowR0 (Nat.le_trans zl_44 (by decide))
theorem ra_11_70 {xs : Nat → Int32} : am_row (AS11 xs) 70 (fun _ => 0) = AS11 xs := row0 (az_11 70 (by decide))
theorem rz_44_71 : am_rowR (qdR RL44) 71 (fun _ => none) = qdR RL44 := rowR0 (Nat.le_trans zl_44 (by decide))
theorem ra_11_71 {xs : Nat → Int32} : am_row (AS11 xs) 71 (fun _ => 0) = AS11 xs := row0 (az_11 71 (by decide))
theorem rz_44_72 : am_rowR (qdR RL44) 72 (fun _ => none) = qdR RL44 := rowR0 (Nat.le_trans zl_44 (by decide))
theorem ra_11_72 {xs : Nat → Int32} : am_row (AS11 xs) 72 (fun _ => 0) = AS11 xs := row0 (az_11 72 (by decide))
def RL45 : List (List (Option Nat)) := qls2 RL44 71 0 (some 72)
theorem zl_45 : RL45.length ≤ 72 := qls2_len (by decide) (Nat.le_trans zl_44 (by decide))
theorem nu_44 : am_upR (qdR RL44) 71 0 (some 72) = qdR RL45 := upR_dR
theorem rz_45_73 : am_rowR (qdR RL45) 73 (fun _ => none) = qdR RL45 := rowR0 (Nat.le_trans zl_45 (by decide))
theorem ra_11_73 {xs : Nat → Int32} : am_row (AS11 xs) 73 (fun _ => 0) = AS11 xs := row0 (az_11 73 (by decide))
def RL46 : List (List (Option Nat)) := qls2 RL45 71 1 (some 73)
theorem zl_46 : RL46.length ≤ 72 := qls2_len (by decide) (Nat.le_trans zl_45 (by decide))
theorem nu_45 : am_upR (qdR RL45) 71 1 (some 73) = qdR RL46 := upR_dR
theorem rz_46_74 : am_rowR (qdR RL46) 74 (fun _ => none) = qdR RL46 := rowR0 (Nat.le_trans zl_46 (by decide))
theorem ra_11_74 {xs : Nat → Int32} : am_row (AS11 xs) 74 (fun _ => 0) = AS11 xs := row0 (az_11 74 (by decide))
def RL47 : List (List (Option Nat)) := qls2 RL46 71 2 (some 74)
theorem zl_47 : RL47.length ≤ 72 := qls2_len (by decide) (Nat.le_trans zl_46 (by decide))
theorem nu_46 : am_upR (qdR RL46) 71 2 (some 74) = qdR RL47 := upR_dR
theorem rz_47_75 : am_rowR (qdR RL47) 75 (fun _ => none) = qdR RL47 := rowR0 (Nat.le_trans zl_47 (by decide))
theorem ra_11_75 {xs : Nat → Int32} : am_row (AS11 xs) 75 (fun _ => 0) = AS11 xs := row0 (az_11 75 (by decide))
def RL48 : List (List (Option Nat)) := qls2 RL47 71 3 (some 75)
theorem zl_48 : RL48.length ≤ 72 := qls2_len (by decide) (Nat.le_trans zl_47 (by decide))
theorem nu_47 : am_upR (qdR RL47) 71 3 (some 75) = qdR RL48 := upR_dR
theorem rz_48_76 : am_rowR (qdR RL48) 76 (fun _ => none) = qdR RL48 := rowR0 (Nat.le_trans zl_48 (by decide))
theorem ra_11_76 {xs : Nat → Int32} : am_row (AS11 xs) 76 (fun _ => 0) = AS11 xs := row0 (az_11 76 (by decide))
def RL49 : List (List (Option Nat)) := qls2 RL48 71 4 (some 76)
theorem zl_49 : RL49.length ≤ 72 := qls2_len (by decide) (Nat.le_trans zl_48 (by decide))
theorem nu_48 : am_upR (qdR RL48) 71 4 (some 76) = qdR RL49 := upR_dR
set_option maxRecDepth 100000 in
set_option maxHeartbeats 4000000 in
theorem ci_10 {L d : Nat} {xs : Nat → Int32} {Q : Option Value → am_H → Prop} : CALL d 36 [.ref (71 : Nat)] (List.take 72 (CT L), AS11 xs, qdR RL44) Q = Q none (List.take 77 (CT L), AS11 xs, qdR RL49) := by
  rw [en_X7_init]
  simp (disch := (first | exact (show _ from rfl) | exact Nat.le_of_ble_eq_true rfl | exact nwl rfl | exact inb_of 10 rfl rfl | exact inb_of 8 rfl rfl | exact inb_of 4 rfl rfl)) only [st_X7_init_0, st_X7_init_1, st_X7_init_4, st_X7_init_5, st_X7_init_7, st_X7_init_9, st_X7_init_12, st_X7_init_13, st_X7_init_15, st_X7_init_17, st_X7_init_20, st_X7_init_21, st_X7_init_23, st_X7_init_25, st_X7_init_28, st_X7_init_29, st_X7_init_31, st_X7_init_33, st_X7_init_36, st_X7_init_37, st_X7_init_39, st_X7_init_41, st_X7_init_44, Option.toList_some, Option.toList_none, List.cons_append, List.nil_append, Option.getD_some, am_nlI, am_nlR, am_nlN, bi_eq0, if_true, if_false, bf_tf, bf_ft, tkl, tka, Nat.reduceAdd, ↓reduceIte, rz_44_72, ra_11_72, nu_44, rz_45_73, ra_11_73, nu_45, rz_46_74, ra_11_74, nu_46, rz_47_75, ra_11_75, nu_47, rz_48_76, ra_11_76, nu_48, tn_0, ia_0, tn_1, ia_1, tn_2, ia_2, tn_3, ia_3, tn_4, ia_4, tn_5, ia_5, tn_6, ia_6, tn_7, ia_7, tn_8, ia_8, tn_9, ia_9, tn_10, ia_10, il_0_4_lt, il_1_4_lt, il_2_4_lt, il_3_4_lt, il_4_4_lt, il_0_8_lt, il_1_8_lt, il_2_8_lt, il_3_8_lt, il_4_8_lt, il_5_8_lt, il_6_8_lt, il_7_8_lt, il_8_8_lt, il_0_10_lt, il_1_10_lt, il_2_10_lt, il_3_10_lt, il_4_10_lt, il_5_10_lt, il_6_10_lt, il_7_10_lt, il_8_10_lt, il_9_10_lt, il_10_10_lt, Option.isSome_some]
def RL50 : List (List (Option Nat)) := qls2 RL49 70 0 (some 71)
theorem zl_50 : RL50.length ≤ 72 := qls2_len (by decide) (Nat.le_trans zl_49 (by decide))
theorem nu_49 : am_upR (qdR RL49) 70 0 (some 71) = qdR RL50 := upR_dR
set_option maxRecDepth 100000 in
set_option maxHeartbeats 4000000 in
theorem ci_11 {L d : Nat} {xs : Nat → Int32} {Q : Option Value → am_H → Prop} : CALL (d + 1) 28 [.ref (70 : Nat)] (List.take 71 (CT L), AS11 xs, qdR RL44) Q = Q none (List.take 77 (CT L), AS11 xs, qdR RL50) := by
  rw [en_X5_init]
  simp (disch := (first | exact (show _ from rfl) | exact Nat.le_of_ble_eq_true rfl | exact nwl rfl | exact inb_of 10 rfl rfl | exact inb_of 8 rfl rfl | exact inb_of 4 rfl rfl)) only [st_X5_init_0, st_X5_init_1, st_X5_init_4, st_X5_init_5, st_X5_init_8, st_X5_init_9, st_X5_init_12, st_X5_init_15, Option.toList_some, Option.toList_none, List.cons_append, List.nil_append, Option.getD_some, am_nlI, am_nlR, am_nlN, bi_eq0, if_true, if_false, bf_tf, bf_ft, tkl, tka, Nat.reduceAdd, ↓reduceIte, rz_44_71, ra_11_71, ci_10, nu_49, tn_0, ia_0, tn_1, ia_1, tn_2, ia_2, tn_3, ia_3, tn_4, ia_4, tn_5, ia_5, tn_6, ia_6, tn_7, ia_7, tn_8, ia_8, tn_9, ia_9, tn_10, ia_10, il_0_4_lt, il_1_4_lt, il_2_4_lt, il_3_4_lt, il_4_4_lt, il_0_8_lt, il_1_8_lt, il_2_8_lt, il_3_8_lt, il_4_8_lt, il_5_8_lt, il_6_8_lt, il_7_8_lt, il_8_8_lt, il_0_10_lt, il_1_10_lt, il_2_10_lt, il_3_10_lt, il_4_10_lt, il_5_10_lt, il_6_10_lt, il_7_10_lt, il_8_10_lt, il_9_10_lt, il_10_10_lt, Option.isSome_some]
def RL51 : List (List (Option Nat)) := qls2 RL50 26 1 (some 70)
theorem zl_51 : RL51.length ≤ 72 := qls2_len (by decide) (Nat.le_trans zl_50 (by decide))
theorem nu_50 : am_upR (qdR RL50) 26 1 (some 70) = qdR RL51 := upR_dR
theorem rg_51_12_1 : qdR RL51 12 1 = some 26 := by decide +kernel
theorem rz_51_77 : am_rowR (qdR RL51) 77 (fun _ => none) = qdR RL51 := rowR0 (Nat.le_trans zl_51 (by decide))
theorem ra_11_77 {xs : Nat → Int32} : am_row (AS11 xs) 77 (fun _ => 0) = AS11 xs := row0 (az_11 77 (by decide))
theorem rz_51_78 : am_rowR (qdR RL51) 78 (fun _ => none) = qdR RL51 := rowR0 (Nat.le_trans zl_51 (by decide))
theorem ra_11_78 {xs : Nat → Int32} : am_row (AS11 xs) 78 (fun _ => 0) = AS11 xs := row0 (az_11 78 (by decide))
theorem rz_51_79 : am_rowR (qdR RL51) 79 (fun _ => none) = qdR RL51 := rowR0 (Nat.le_trans zl_51 (by decide))
theorem ra_11_79 {xs : Nat → Int32} : am_row (AS11 xs) 79 (fun _ => 0) = AS11 xs := row0 (az_11 79 (by decide))
def RL52 : List (List (Option Nat)) := qls2 RL51 78 0 (some 79)
theorem zl_52 : RL52.length ≤ 79 := qls2_len (by decide) (Nat.le_trans zl_51 (by decide))
theorem nu_51 : am_upR (qdR RL51) 78 0 (some 79) = qdR RL52 := upR_dR
theorem rz_52_80 : am_rowR (qdR RL52) 80 (fun _ => none) = qdR RL52 := rowR0 (Nat.le_trans zl_52 (by decide))
theorem ra_11_80 {xs : Nat → Int32} : am_row (AS11 xs) 80 (fun _ => 0) = AS11 xs := row0 (az_11 80 (by decide))
def RL53 : List (List (Option Nat)) := qls2 RL52 78 1 (some 80)
theorem zl_53 : RL53.length ≤ 79 := qls2_len (by decide) (Nat.le_trans zl_52 (by decide))
theorem nu_52 : am_upR (qdR RL52) 78 1 (some 80) = qdR RL53 := upR_dR
theorem rz_53_81 : am_rowR (qdR RL53) 81 (fun _ => none) = qdR RL53 := rowR0 (Nat.le_trans zl_53 (by decide))
theorem ra_11_81 {xs : Nat → Int32} : am_row (AS11 xs) 81 (fun _ => 0) = AS11 xs := row0 (az_11 81 (by decide))
def RL54 : List (List (Option Nat)) := qls2 RL53 78 2 (some 81)
theorem zl_54 : RL54.length ≤ 79 := qls2_len (by decide) (Nat.le_trans zl_53 (by decide))
theorem nu_53 : am_upR (qdR RL53) 78 2 (some 81) = qdR RL54 := upR_dR
theorem rz_54_82 : am_rowR (qdR RL54) 82 (fun _ => none) = qdR RL54 := rowR0 (Nat.le_trans zl_54 (by decide))
theorem ra_11_82 {xs : Nat → Int32} : am_row (AS11 xs) 82 (fun _ => 0) = AS11 xs := row0 (az_11 82 (by decide))
def RL55 : List (List (Option Nat)) := qls2 RL54 78 3 (some 82)
theorem zl_55 : RL55.length ≤ 79 := qls2_len (by decide) (Nat.le_trans zl_54 (by decide))
theorem nu_54 : am_upR (qdR RL54) 78 3 (some 82) = qdR RL55 := upR_dR
theorem rz_55_83 : am_rowR (qdR RL55) 83 (fun _ => none) = qdR RL55 := rowR0 (Nat.le_trans zl_55 (by decide))
theorem ra_11_83 {xs : Nat → Int32} : am_row (AS11 xs) 83 (fun _ => 0) = AS11 xs := row0 (az_11 83 (by decide))
def RL56 : List (List (Option Nat)) := qls2 RL55 78 4 (some 83)
theorem zl_56 : RL56.length ≤ 79 := qls2_len (by decide) (Nat.le_trans zl_55 (by decide))
theorem nu_55 : am_upR (qdR RL55) 78 4 (some 83) = qdR RL56 := upR_dR
set_option maxRecDepth 100000 in
set_option maxHeartbeats 4000000 in
theorem ci_12 {L d : Nat} {xs : Nat → Int32} {Q : Option Value → am_H → Prop} : CALL d 36 [.ref (78 : Nat)] (List.take 79 (CT L), AS11 xs, qdR RL51) Q = Q none (List.take 84 (CT L), AS11 xs, qdR RL56) := by
  rw [en_X7_init]
  simp (disch := (first | exact (show _ from rfl) | exact Nat.le_of_ble_eq_true rfl | exact nwl rfl | exact inb_of 10 rfl rfl | exact inb_of 8 rfl rfl | exact inb_of 4 rfl rfl)) only [st_X7_init_0, st_X7_init_1, st_X7_init_4, st_X7_init_5, st_X7_init_7, st_X7_init_9, st_X7_init_12, st_X7_init_13, st_X7_init_15, st_X7_init_17, st_X7_init_20, st_X7_init_21, st_X7_init_23, st_X7_init_25, st_X7_init_28, st_X7_init_29, st_X7_init_31, st_X7_init_33, st_X7_init_36, st_X7_init_37, st_X7_init_39, st_X7_init_41, st_X7_init_44, Option.toList_some, Option.toList_none, List.cons_append, List.nil_append, Option.getD_some, am_nlI, am_nlR, am_nlN, bi_eq0, if_true, if_false, bf_tf, bf_ft, tkl, tka, Nat.reduceAdd, ↓reduceIte, rz_51_79, ra_11_79, nu_51, rz_52_80, ra_11_80, nu_52, rz_53_81, ra_11_81, nu_53, rz_54_82, ra_11_82, nu_54, rz_55_83, ra_11_83, nu_55, tn_0, ia_0, tn_1, ia_1, tn_2, ia_2, tn_3, ia_3, tn_4, ia_4, tn_5, ia_5, tn_6, ia_6, tn_7, ia_7, tn_8, ia_8, tn_9, ia_9, tn_10, ia_10, il_0_4_lt, il_1_4_lt, il_2_4_lt, il_3_4_lt, il_4_4_lt, il_0_8_lt, il_1_8_lt, il_2_8_lt, il_3_8_lt, il_4_8_lt, il_5_8_lt, il_6_8_lt, il_7_8_lt, il_8_8_lt, il_0_10_lt, il_1_10_lt, il_2_10_lt, il_3_10_lt, il_4_10_lt, il_5_10_lt, il_6_10_lt, il_7_10_lt, il_8_10_lt, il_9_10_lt, il_10_10_lt, Option.isSome_some]
def RL57 : List (List (Option Nat)) := qls2 RL56 77 0 (some 78)
theorem zl_57 : RL57.length ≤ 79 := qls2_len (by decide) (Nat.le_trans zl_56 (by decide))
theorem nu_56 : am_upR (qdR RL56) 77 0 (some 78) = qdR RL57 := upR_dR
set_option maxRecDepth 100000 in
set_option maxHeartbeats 4000000 in
theorem ci_13 {L d : Nat} {xs : Nat → Int32} {Q : Option Value → am_H → Prop} : CALL (d + 1) 28 [.ref (77 : Nat)] (List.take 78 (CT L), AS11 xs, qdR RL51) Q = Q none (List.take 84 (CT L), AS11 xs, qdR RL57) := by
  rw [en_X5_init]
  simp (disch := (first | exact (show _ from rfl) | exact Nat.le_of_ble_eq_true rfl | exact nwl rfl | exact inb_of 10 rfl rfl | exact inb_of 8 rfl rfl | exact inb_of 4 rfl rfl)) only [st_X5_init_0, st_X5_init_1, st_X5_init_4, st_X5_init_5, st_X5_init_8, st_X5_init_9, st_X5_init_12, st_X5_init_15, Option.toList_some, Option.toList_none, List.cons_append, List.nil_append, Option.getD_some, am_nlI, am_nlR, am_nlN, bi_eq0, if_true, if_false, bf_tf, bf_ft, tkl, tka, Nat.reduceAdd, ↓reduceIte, rz_51_78, ra_11_78, ci_12, nu_56, tn_0, ia_0, tn_1, ia_1, tn_2, ia_2, tn_3, ia_3, tn_4, ia_4, tn_5, ia_5, tn_6, ia_6, tn_7, ia_7, tn_8, ia_8, tn_9, ia_9, tn_10, ia_10, il_0_4_lt, il_1_4_lt, il_2_4_lt, il_3_4_lt, il_4_4_lt, il_0_8_lt, il_1_8_lt, il_2_8_lt, il_3_8_lt, il_4_8_lt, il_5_8_lt, il_6_8_lt, il_7_8_lt, il_8_8_lt, il_0_10_lt, il_1_10_lt, il_2_10_lt, il_3_10_lt, il_4_10_lt, il_5_10_lt, il_6_10_lt, il_7_10_lt, il_8_10_lt, il_9_10_lt, il_10_10_lt, Option.isSome_some]
def RL58 : List (List (Option Nat)) := qls2 RL57 26 2 (some 77)
theorem zl_58 : RL58.length ≤ 79 := qls2_len (by decide) (Nat.le_trans zl_57 (by decide))
theorem nu_57 : am_upR (qdR RL57) 26 2 (some 77) = qdR RL58 := upR_dR
theorem rg_58_12_1 : qdR RL58 12 1 = some 26 := by decide +kernel
theorem rz_58_84 : am_rowR (qdR RL58) 84 (fun _ => none) = qdR RL58 := rowR0 (Nat.le_trans zl_58 (by decide))
theorem ra_11_84 {xs : Nat → Int32} : am_row (AS11 xs) 84 (fun _ => 0) = AS11 xs := row0 (az_11 84 (by decide))
theorem rz_58_85 : am_rowR (qdR RL58) 85 (fun _ => none) = qdR RL58 := rowR0 (Nat.le_trans zl_58 (by decide))
theorem ra_11_85 {xs : Nat → Int32} : am_row (AS11 xs) 85 (fun _ => 0) = AS11 xs := row0 (az_11 85 (by decide))
theorem rz_58_86 : am_rowR (qdR RL58) 86 (fun _ => none) = qdR RL58 := rowR0 (Nat.le_trans zl_58 (by decide))
theorem ra_11_86 {xs : Nat → Int32} : am_row (AS11 xs) 86 (fun _ => 0) = AS11 xs := row0 (az_11 86 (by decide))
def RL59 : List (List (Option Nat)) := qls2 RL58 85 0 (some 86)
theorem zl_59 : RL59.length ≤ 86 := qls2_len (by decide) (Nat.le_trans zl_58 (by decide))
theorem nu_58 : am_upR (qdR RL58) 85 0 (some 86) = qdR RL59 := upR_dR
theorem rz_59_87 : am_rowR (qdR RL59) 87 (fun _ => none) = qdR RL59 := rowR0 (Nat.le_trans zl_59 (by decide))
theorem ra_11_87 {xs : Nat → Int32} : am_row (AS11 xs) 87 (fun _ => 0) = AS11 xs := row0 (az_11 87 (by decide))
def RL60 : List (List (Option Nat)) := qls2 RL59 85 1 (some 87)
theorem zl_60 : RL60.length ≤ 86 := qls2_len (by decide) (Nat.le_trans zl_59 (by decide))
theorem nu_59 : am_upR (qdR RL59) 85 1 (some 87) = qdR RL60 := upR_dR
theorem rz_60_88 : am_rowR (qdR RL60) 88 (fun _ => none) = qdR RL60 := rowR0 (Nat.le_trans zl_60 (by decide))
theorem ra_11_88 {xs : Nat → Int32} : am_row (AS11 xs) 88 (fun _ => 0) = AS11 xs := row0 (az_11 88 (by decide))
def RL61 : List (List (Option Nat)) := qls2 RL60 85 2 (some 88)
theorem zl_61 : RL61.length ≤ 86 := qls2_len (by decide) (Nat.le_trans zl_60 (by decide))
theorem nu_60 : am_upR (qdR RL60) 85 2 (some 88) = qdR RL61 := upR_dR
theorem rz_61_89 : am_rowR (qdR RL61) 89 (fun _ => none) = qdR RL61 := rowR0 (Nat.le_trans zl_61 (by decide))
theorem ra_11_89 {xs : Nat → Int32} : am_row (AS11 xs) 89 (fun _ => 0) = AS11 xs := row0 (az_11 89 (by decide))
def RL62 : List (List (Option Nat)) := qls2 RL61 85 3 (some 89)
theorem zl_62 : RL62.length ≤ 86 := qls2_len (by decide) (Nat.le_trans zl_61 (by decide))
theorem nu_61 : am_upR (qdR RL61) 85 3 (some 89) = qdR RL62 := upR_dR
theorem rz_62_90 : am_rowR (qdR RL62) 90 (fun _ => none) = qdR RL62 := rowR0 (Nat.le_trans zl_62 (by decide))
theorem ra_11_90 {xs : Nat → Int32} : am_row (AS11 xs) 90 (fun _ => 0) = AS11 xs := row0 (az_11 90 (by decide))
def RL63 : List (List (Option Nat)) := qls2 RL62 85 4 (some 90)
theorem zl_63 : RL63.length ≤ 86 := qls2_len (by decide) (Nat.le_trans zl_62 (by decide))
theorem nu_62 : am_upR (qdR RL62) 85 4 (some 90) = qdR RL63 := upR_dR
set_option maxRecDepth 100000 in
set_option maxHeartbeats 4000000 in
theorem ci_14 {L d : Nat} {xs : Nat → Int32} {Q : Option Value → am_H → Prop} : CALL d 36 [.ref (85 : Nat)] (List.take 86 (CT L), AS11 xs, qdR RL58) Q = Q none (List.take 91 (CT L), AS11 xs, qdR RL63) := by
  rw [en_X7_init]
  simp (disch := (first | exact (show _ from rfl) | exact Nat.le_of_ble_eq_true rfl | exact nwl rfl | exact inb_of 10 rfl rfl | exact inb_of 8 rfl rfl | exact inb_of 4 rfl rfl)) only [st_X7_init_0, st_X7_init_1, st_X7_init_4, st_X7_init_5, st_X7_init_7, st_X7_init_9, st_X7_init_12, st_X7_init_13, st_X7_init_15, st_X7_init_17, st_X7_init_20, st_X7_init_21, st_X7_init_23, st_X7_init_25, st_X7_init_28, st_X7_init_29, st_X7_init_31, st_X7_init_33, st_X7_init_36, st_X7_init_37, st_X7_init_39, st_X7_init_41, st_X7_init_44, Option.toList_some, Option.toList_none, List.cons_append, List.nil_append, Option.getD_some, am_nlI, am_nlR, am_nlN, bi_eq0, if_true, if_false, bf_tf, bf_ft, tkl, tka, Nat.reduceAdd, ↓reduceIte, rz_58_86, ra_11_86, nu_58, rz_59_87, ra_11_87, nu_59, rz_60_88, ra_11_88, nu_60, rz_61_89, ra_11_89, nu_61, rz_62_90, ra_11_90, nu_62, tn_0, ia_0, tn_1, ia_1, tn_2, ia_2, tn_3, ia_3, tn_4, ia_4, tn_5, ia_5, tn_6, ia_6, tn_7, ia_7, tn_8, ia_8, tn_9, ia_9, tn_10, ia_10, il_0_4_lt, il_1_4_lt, il_2_4_lt, il_3_4_lt, il_4_4_lt, il_0_8_lt, il_1_8_lt, il_2_8_lt, il_3_8_lt, il_4_8_lt, il_5_8_lt, il_6_8_lt, il_7_8_lt, il_8_8_lt, il_0_10_lt, il_1_10_lt, il_2_10_lt, il_3_10_lt, il_4_10_lt, il_5_10_lt, il_6_10_lt, il_7_10_lt, il_8_10_lt, il_9_10_lt, il_10_10_lt, Option.isSome_some]
def RL64 : List (List (Option Nat)) := qls2 RL63 84 0 (some 85)
theorem zl_64 : RL64.length ≤ 86 := qls2_len (by decide) (Nat.le_trans zl_63 (by decide))
theorem nu_63 : am_upR (qdR RL63) 84 0 (some 85) = qdR RL64 := upR_dR
set_option maxRecDepth 100000 in
set_option maxHeartbeats 4000000 in
theorem ci_15 {L d : Nat} {xs : Nat → Int32} {Q : Option Value → am_H → Prop} : CALL (d + 1) 28 [.ref (84 : Nat)] (List.take 85 (CT L), AS11 xs, qdR RL58) Q = Q none (List.take 91 (CT L), AS11 xs, qdR RL64) := by
  rw [en_X5_init]
  simp (disch := (first | exact (show _ from rfl) | exact Nat.le_of_ble_eq_true rfl | exact nwl rfl | exact inb_of 10 rfl rfl | exact inb_of 8 rfl rfl | exact inb_of 4 rfl rfl)) only [st_X5_init_0, st_X5_init_1, st_X5_init_4, st_X5_init_5, st_X5_init_8, st_X5_init_9, st_X5_init_12, st_X5_init_15, Option.toList_some, Option.toList_none, List.cons_append, List.nil_append, Option.getD_some, am_nlI, am_nlR, am_nlN, bi_eq0, if_true, if_false, bf_tf, bf_ft, tkl, tka, Nat.reduceAdd, ↓reduceIte, rz_58_85, ra_11_85, ci_14, nu_63, tn_0, ia_0, tn_1, ia_1, tn_2, ia_2, tn_3, ia_3, tn_4, ia_4, tn_5, ia_5, tn_6, ia_6, tn_7, ia_7, tn_8, ia_8, tn_9, ia_9, tn_10, ia_10, il_0_4_lt, il_1_4_lt, il_2_4_lt, il_3_4_lt, il_4_4_lt, il_0_8_lt, il_1_8_lt, il_2_8_lt, il_3_8_lt, il_4_8_lt, il_5_8_lt, il_6_8_lt, il_7_8_lt, il_8_8_lt, il_0_10_lt, il_1_10_lt, il_2_10_lt, il_3_10_lt, il_4_10_lt, il_5_10_lt, il_6_10_lt, il_7_10_lt, il_8_10_lt, il_9_10_lt, il_10_10_lt, Option.isSome_some]
def RL65 : List (List (Option Nat)) := qls2 RL64 26 3 (some 84)
theorem zl_65 : RL65.length ≤ 86 := qls2_len (by decide) (Nat.le_trans zl_64 (by decide))
theorem nu_64 : am_upR (qdR RL64) 26 3 (some 84) = qdR RL65 := upR_dR
theorem rg_65_12_1 : qdR RL65 12 1 = some 26 := by decide +kernel
theorem rz_65_91 : am_rowR (qdR RL65) 91 (fun _ => none) = qdR RL65 := rowR0 (Nat.le_trans zl_65 (by decide))
theorem ra_11_91 {xs : Nat → Int32} : am_row (AS11 xs) 91 (fun _ => 0) = AS11 xs := row0 (az_11 91 (by decide))
theorem rz_65_92 : am_rowR (qdR RL65) 92 (fun _ => none) = qdR RL65 := rowR0 (Nat.le_trans zl_65 (by decide))
theorem ra_11_92 {xs : Nat → Int32} : am_row (AS11 xs) 92 (fun _ => 0) = AS11 xs := row0 (az_11 92 (by decide))
theorem rz_65_93 : am_rowR (qdR RL65) 93 (fun _ => none) = qdR RL65 := rowR0 (Nat.le_trans zl_65 (by decide))
theorem ra_11_93 {xs : Nat → Int32} : am_row (AS11 xs) 93 (fun _ => 0) = AS11 xs := row0 (az_11 93 (by decide))
def RL66 : List (List (Option Nat)) := qls2 RL65 92 0 (some 93)
theorem zl_66 : RL66.length ≤ 93 := qls2_len (by decide) (Nat.le_trans zl_65 (by decide))
theorem nu_65 : am_upR (qdR RL65) 92 0 (some 93) = qdR RL66 := upR_dR
theorem rz_66_94 : am_rowR (qdR RL66) 94 (fun _ => none) = qdR RL66 := rowR0 (Nat.le_trans zl_66 (by decide))
theorem ra_11_94 {xs : Nat → Int32} : am_row (AS11 xs) 94 (fun _ => 0) = AS11 xs := row0 (az_11 94 (by decide))
def RL67 : List (List (Option Nat)) := qls2 RL66 92 1 (some 94)
theorem zl_67 : RL67.length ≤ 93 := qls2_len (by decide) (Nat.le_trans zl_66 (by decide))
theorem nu_66 : am_upR (qdR RL66) 92 1 (some 94) = qdR RL67 := upR_dR
theorem rz_67_95 : am_rowR (qdR RL67) 95 (fun _ => none) = qdR RL67 := rowR0 (Nat.le_trans zl_67 (by decide))
theorem ra_11_95 {xs : Nat → Int32} : am_row (AS11 xs) 95 (fun _ => 0) = AS11 xs := row0 (az_11 95 (by decide))
def RL68 : List (List (Option Nat)) := qls2 RL67 92 2 (some 95)
theorem zl_68 : RL68.length ≤ 93 := qls2_len (by decide) (Nat.le_trans zl_67 (by decide))
theorem nu_67 : am_upR (qdR RL67) 92 2 (some 95) = qdR RL68 := upR_dR
theorem rz_68_96 : am_rowR (qdR RL68) 96 (fun _ => none) = qdR RL68 := rowR0 (Nat.le_trans zl_68 (by decide))
theorem ra_11_96 {xs : Nat → Int32} : am_row (AS11 xs) 96 (fun _ => 0) = AS11 xs := row0 (az_11 96 (by decide))
def RL69 : List (List (Option Nat)) := qls2 RL68 92 3 (some 96)
theorem zl_69 : RL69.length ≤ 93 := qls2_len (by decide) (Nat.le_trans zl_68 (by decide))
theorem nu_68 : am_upR (qdR RL68) 92 3 (some 96) = qdR RL69 := upR_dR
theorem rz_69_97 : am_rowR (qdR RL69) 97 (fun _ => none) = qdR RL69 := rowR0 (Nat.le_trans zl_69 (by decide))
theorem ra_11_97 {xs : Nat → Int32} : am_row (AS11 xs) 97 (fun _ => 0) = AS11 xs := row0 (az_11 97 (by decide))
def RL70 : List (List (Option Nat)) := qls2 RL69 92 4 (some 97)
theorem zl_70 : RL70.length ≤ 93 := qls2_len (by decide) (Nat.le_trans zl_69 (by decide))
theorem nu_69 : am_upR (qdR RL69) 92 4 (some 97) = qdR RL70 := upR_dR
set_option maxRecDepth 100000 in
set_option maxHeartbeats 4000000 in
theorem ci_16 {L d : Nat} {xs : Nat → Int32} {Q : Option Value → am_H → Prop} : CALL d 36 [.ref (92 : Nat)] (List.take 93 (CT L), AS11 xs, qdR RL65) Q = Q none (List.take 98 (CT L), AS11 xs, qdR RL70) := by
  rw [en_X7_init]
  simp (disch := (first | exact (show _ from rfl) | exact Nat.le_of_ble_eq_true rfl | exact nwl rfl | exact inb_of 10 rfl rfl | exact inb_of 8 rfl rfl | exact inb_of 4 rfl rfl)) only [st_X7_init_0, st_X7_init_1, st_X7_init_4, st_X7_init_5, st_X7_init_7, st_X7_init_9, st_X7_init_12, st_X7_init_13, st_X7_init_15, st_X7_init_17, st_X7_init_20, st_X7_init_21, st_X7_init_23, st_X7_init_25, st_X7_init_28, st_X7_init_29, st_X7_init_31, st_X7_init_33, st_X7_init_36, st_X7_init_37, st_X7_init_39, st_X7_init_41, st_X7_init_44, Option.toList_some, Option.toList_none, List.cons_append, List.nil_append, Option.getD_some, am_nlI, am_nlR, am_nlN, bi_eq0, if_true, if_false, bf_tf, bf_ft, tkl, tka, Nat.reduceAdd, ↓reduceIte, rz_65_93, ra_11_93, nu_65, rz_66_94, ra_11_94, nu_66, rz_67_95, ra_11_95, nu_67, rz_68_96, ra_11_96, nu_68, rz_69_97, ra_11_97, nu_69, tn_0, ia_0, tn_1, ia_1, tn_2, ia_2, tn_3, ia_3, tn_4, ia_4, tn_5, ia_5, tn_6, ia_6, tn_7, ia_7, tn_8, ia_8, tn_9, ia_9, tn_10, ia_10, il_0_4_lt, il_1_4_lt, il_2_4_lt, il_3_4_lt, il_4_4_lt, il_0_8_lt, il_1_8_lt, il_2_8_lt, il_3_8_lt, il_4_8_lt, il_5_8_lt, il_6_8_lt, il_7_8_lt, il_8_8_lt, il_0_10_lt, il_1_10_lt, il_2_10_lt, il_3_10_lt, il_4_10_lt, il_5_10_lt, il_6_10_lt, il_7_10_lt, il_8_10_lt, il_9_10_lt, il_10_10_lt, Option.isSome_some]
def RL71 : List (List (Option Nat)) := qls2 RL70 91 0 (some 92)
theorem zl_71 : RL71.length ≤ 93 := qls2_len (by decide) (Nat.le_trans zl_70 (by decide))
theorem nu_70 : am_upR (qdR RL70) 91 0 (some 92) = qdR RL71 := upR_dR
set_option maxRecDepth 100000 in
set_option maxHeartbeats 4000000 in
theorem ci_17 {L d : Nat} {xs : Nat → Int32} {Q : Option Value → am_H → Prop} : CALL (d + 1) 28 [.ref (91 : Nat)] (List.take 92 (CT L), AS11 xs, qdR RL65) Q = Q none (List.take 98 (CT L), AS11 xs, qdR RL71) := by
  rw [en_X5_init]
  simp (disch := (first | exact (show _ from rfl) | exact Nat.le_of_ble_eq_true rfl | exact nwl rfl | exact inb_of 10 rfl rfl | exact inb_of 8 rfl rfl | exact inb_of 4 rfl rfl)) only [st_X5_init_0, st_X5_init_1, st_X5_init_4, st_X5_init_5, st_X5_init_8, st_X5_init_9, st_X5_init_12, st_X5_init_15, Option.toList_some, Option.toList_none, List.cons_append, List.nil_append, Option.getD_some, am_nlI, am_nlR, am_nlN, bi_eq0, if_true, if_false, bf_tf, bf_ft, tkl, tka, Nat.reduceAdd, ↓reduceIte, rz_65_92, ra_11_92, ci_16, nu_70, tn_0, ia_0, tn_1, ia_1, tn_2, ia_2, tn_3, ia_3, tn_4, ia_4, tn_5, ia_5, tn_6, ia_6, tn_7, ia_7, tn_8, ia_8, tn_9, ia_9, tn_10, ia_10, il_0_4_lt, il_1_4_lt, il_2_4_lt, il_3_4_lt, il_4_4_lt, il_0_8_lt, il_1_8_lt, il_2_8_lt, il_3_8_lt, il_4_8_lt, il_5_8_lt, il_6_8_lt, il_7_8_lt, il_8_8_lt, il_0_10_lt, il_1_10_lt, il_2_10_lt, il_3_10_lt, il_4_10_lt, il_5_10_lt, il_6_10_lt, il_7_10_lt, il_8_10_lt, il_9_10_lt, il_10_10_lt, Option.isSome_some]
def RL72 : List (List (Option Nat)) := qls2 RL71 26 4 (some 91)
theorem zl_72 : RL72.length ≤ 93 := qls2_len (by decide) (Nat.le_trans zl_71 (by decide))
theorem nu_71 : am_upR (qdR RL71) 26 4 (some 91) = qdR RL72 := upR_dR
theorem rg_72_12_1 : qdR RL72 12 1 = some 26 := by decide +kernel
theorem rz_72_98 : am_rowR (qdR RL72) 98 (fun _ => none) = qdR RL72 := rowR0 (Nat.le_trans zl_72 (by decide))
theorem ra_11_98 {xs : Nat → Int32} : am_row (AS11 xs) 98 (fun _ => 0) = AS11 xs := row0 (az_11 98 (by decide))
theorem rz_72_99 : am_rowR (qdR RL72) 99 (fun _ => none) = qdR RL72 := rowR0 (Nat.le_trans zl_72 (by decide))
theorem ra_11_99 {xs : Nat → Int32} : am_row (AS11 xs) 99 (fun _ => 0) = AS11 xs := row0 (az_11 99 (by decide))
theorem rz_72_100 : am_rowR (qdR RL72) 100 (fun _ => none) = qdR RL72 := rowR0 (Nat.le_trans zl_72 (by decide))
theorem ra_11_100 {xs : Nat → Int32} : am_row (AS11 xs) 100 (fun _ => 0) = AS11 xs := row0 (az_11 100 (by decide))
def RL73 : List (List (Option Nat)) := qls2 RL72 99 0 (some 100)
theorem zl_73 : RL73.length ≤ 100 := qls2_len (by decide) (Nat.le_trans zl_72 (by decide))
theorem nu_72 : am_upR (qdR RL72) 99 0 (some 100) = qdR RL73 := upR_dR
theorem rz_73_101 : am_rowR (qdR RL73) 101 (fun _ => none) = qdR RL73 := rowR0 (Nat.le_trans zl_73 (by decide))
theorem ra_11_101 {xs : Nat → Int32} : am_row (AS11 xs) 101 (fun _ => 0) = AS11 xs := row0 (az_11 101 (by decide))
def RL74 : List (List (Option Nat)) := qls2 RL73 99 1 (some 101)
theorem zl_74 : RL74.length ≤ 100 := qls2_len (by decide) (Nat.le_trans zl_73 (by decide))
theorem nu_73 : am_upR (qdR RL73) 99 1 (some 101) = qdR RL74 := upR_dR
theorem rz_74_102 : am_rowR (qdR RL74) 102 (fun _ => none) = qdR RL74 := rowR0 (Nat.le_trans zl_74 (by decide))
theorem ra_11_102 {xs : Nat → Int32} : am_row (AS11 xs) 102 (fun _ => 0) = AS11 xs := row0 (az_11 102 (by decide))
def RL75 : List (List (Option Nat)) := qls2 RL74 99 2 (some 102)
theorem zl_75 : RL75.length ≤ 100 := qls2_len (by decide) (Nat.le_trans zl_74 (by decide))
theorem nu_74 : am_upR (qdR RL74) 99 2 (some 102) = qdR RL75 := upR_dR
theorem rz_75_103 : am_rowR (qdR RL75) 103 (fun _ => none) = qdR RL75 := rowR0 (Nat.le_trans zl_75 (by decide))
theorem ra_11_103 {xs : Nat → Int32} : am_row (AS11 xs) 103 (fun _ => 0) = AS11 xs := row0 (az_11 103 (by decide))
def RL76 : List (List (Option Nat)) := qls2 RL75 99 3 (some 103)
theorem zl_76 : RL76.length ≤ 100 := qls2_len (by decide) (Nat.le_trans zl_75 (by decide))
theorem nu_75 : am_upR (qdR RL75) 99 3 (some 103) = qdR RL76 := upR_dR
theorem rz_76_104 : am_rowR (qdR RL76) 104 (fun _ => none) = qdR RL76 := rowR0 (Nat.le_trans zl_76 (by decide))
theorem ra_11_104 {xs : Nat → Int32} : am_row (AS11 xs) 104 (fun _ => 0) = AS11 xs := row0 (az_11 104 (by decide))
def RL77 : List (List (Option Nat)) := qls2 RL76 99 4 (some 104)
theorem zl_77 : RL77.length ≤ 100 := qls2_len (by decide) (Nat.le_trans zl_76 (by decide))
theorem nu_76 : am_upR (qdR RL76) 99 4 (some 104) = qdR RL77 := upR_dR
set_option maxRecDepth 100000 in
set_option maxHeartbeats 4000000 in
theorem ci_18 {L d : Nat} {xs : Nat → Int32} {Q : Option Value → am_H → Prop} : CALL d 36 [.ref (99 : Nat)] (List.take 100 (CT L), AS11 xs, qdR RL72) Q = Q none (List.take 105 (CT L), AS11 xs, qdR RL77) := by
  rw [en_X7_init]
  simp (disch := (first | exact (show _ from rfl) | exact Nat.le_of_ble_eq_true rfl | exact nwl rfl | exact inb_of 10 rfl rfl | exact inb_of 8 rfl rfl | exact inb_of 4 rfl rfl)) only [st_X7_init_0, st_X7_init_1, st_X7_init_4, st_X7_init_5, st_X7_init_7, st_X7_init_9, st_X7_init_12, st_X7_init_13, st_X7_init_15, st_X7_init_17, st_X7_init_20, st_X7_init_21, st_X7_init_23, st_X7_init_25, st_X7_init_28, st_X7_init_29, st_X7_init_31, st_X7_init_33, st_X7_init_36, st_X7_init_37, st_X7_init_39, st_X7_init_41, st_X7_init_44, Option.toList_some, Option.toList_none, List.cons_append, List.nil_append, Option.getD_some, am_nlI, am_nlR, am_nlN, bi_eq0, if_true, if_false, bf_tf, bf_ft, tkl, tka, Nat.reduceAdd, ↓reduceIte, rz_72_100, ra_11_100, nu_72, rz_73_101, ra_11_101, nu_73, rz_74_102, ra_11_102, nu_74, rz_75_103, ra_11_103, nu_75, rz_76_104, ra_11_104, nu_76, tn_0, ia_0, tn_1, ia_1, tn_2, ia_2, tn_3, ia_3, tn_4, ia_4, tn_5, ia_5, tn_6, ia_6, tn_7, ia_7, tn_8, ia_8, tn_9, ia_9, tn_10, ia_10, il_0_4_lt, il_1_4_lt, il_2_4_lt, il_3_4_lt, il_4_4_lt, il_0_8_lt, il_1_8_lt, il_2_8_lt, il_3_8_lt, il_4_8_lt, il_5_8_lt, il_6_8_lt, il_7_8_lt, il_8_8_lt, il_0_10_lt, il_1_10_lt, il_2_10_lt, il_3_10_lt, il_4_10_lt, il_5_10_lt, il_6_10_lt, il_7_10_lt, il_8_10_lt, il_9_10_lt, il_10_10_lt, Option.isSome_some]
def RL78 : List (List (Option Nat)) := qls2 RL77 98 0 (some 99)
theorem zl_78 : RL78.length ≤ 100 := qls2_len (by decide) (Nat.le_trans zl_77 (by decide))
theorem nu_77 : am_upR (qdR RL77) 98 0 (some 99) = qdR RL78 := upR_dR
set_option maxRecDepth 100000 in
set_option maxHeartbeats 4000000 in
theorem ci_19 {L d : Nat} {xs : Nat → Int32} {Q : Option Value → am_H → Prop} : CALL (d + 1) 28 [.ref (98 : Nat)] (List.take 99 (CT L), AS11 xs, qdR RL72) Q = Q none (List.take 105 (CT L), AS11 xs, qdR RL78) := by
  rw [en_X5_init]
  simp (disch := (first | exact (show _ from rfl) | exact Nat.le_of_ble_eq_true rfl | exact nwl rfl | exact inb_of 10 rfl rfl | exact inb_of 8 rfl rfl | exact inb_of 4 rfl rfl)) only [st_X5_init_0, st_X5_init_1, st_X5_init_4, st_X5_init_5, st_X5_init_8, st_X5_init_9, st_X5_init_12, st_X5_init_15, Option.toList_some, Option.toList_none, List.cons_append, List.nil_append, Option.getD_some, am_nlI, am_nlR, am_nlN, bi_eq0, if_true, if_false, bf_tf, bf_ft, tkl, tka, Nat.reduceAdd, ↓reduceIte, rz_72_99, ra_11_99, ci_18, nu_77, tn_0, ia_0, tn_1, ia_1, tn_2, ia_2, tn_3, ia_3, tn_4, ia_4, tn_5, ia_5, tn_6, ia_6, tn_7, ia_7, tn_8, ia_8, tn_9, ia_9, tn_10, ia_10, il_0_4_lt, il_1_4_lt, il_2_4_lt, il_3_4_lt, il_4_4_lt, il_0_8_lt, il_1_8_lt, il_2_8_lt, il_3_8_lt, il_4_8_lt, il_5_8_lt, il_6_8_lt, il_7_8_lt, il_8_8_lt, il_0_10_lt, il_1_10_lt, il_2_10_lt, il_3_10_lt, il_4_10_lt, il_5_10_lt, il_6_10_lt, il_7_10_lt, il_8_10_lt, il_9_10_lt, il_10_10_lt, Option.isSome_some]
def RL79 : List (List (Option Nat)) := qls2 RL78 26 5 (some 98)
theorem zl_79 : RL79.length ≤ 100 := qls2_len (by decide) (Nat.le_trans zl_78 (by decide))
theorem nu_78 : am_upR (qdR RL78) 26 5 (some 98) = qdR RL79 := upR_dR
theorem rg_79_12_1 : qdR RL79 12 1 = some 26 := by decide +kernel
theorem rz_79_105 : am_rowR (qdR RL79) 105 (fun _ => none) = qdR RL79 := rowR0 (Nat.le_trans zl_79 (by decide))
theorem ra_11_105 {xs : Nat → Int32} : am_row (AS11 xs) 105 (fun _ => 0) = AS11 xs := row0 (az_11 105 (by decide))
theorem rz_79_106 : am_rowR (qdR RL79) 106 (fun _ => none) = qdR RL79 := rowR0 (Nat.le_trans zl_79 (by decide))
theorem ra_11_106 {xs : Nat → Int32} : am_row (AS11 xs) 106 (fun _ => 0) = AS11 xs := row0 (az_11 106 (by decide))
theorem rz_79_107 : am_rowR (qdR RL79) 107 (fun _ => none) = qdR RL79 := rowR0 (Nat.le_trans zl_79 (by decide))
theorem ra_11_107 {xs : Nat → Int32} : am_row (AS11 xs) 107 (fun _ => 0) = AS11 xs := row0 (az_11 107 (by decide))
def RL80 : List (List (Option Nat)) := qls2 RL79 106 0 (some 107)
theorem zl_80 : RL80.length ≤ 107 := qls2_len (by decide) (Nat.le_trans zl_79 (by decide))
theorem nu_79 : am_upR (qdR RL79) 106 0 (some 107) = qdR RL80 := upR_dR
theorem rz_80_108 : am_rowR (qdR RL80) 108 (fun _ => none) = qdR RL80 := rowR0 (Nat.le_trans zl_80 (by decide))
theorem ra_11_108 {xs : Nat → Int32} : am_row (AS11 xs) 108 (fun _ => 0) = AS11 xs := row0 (az_11 108 (by decide))
def RL81 : List (List (Option Nat)) := qls2 RL80 106 1 (some 108)
theorem zl_81 : RL81.length ≤ 107 := qls2_len (by decide) (Nat.le_trans zl_80 (by decide))
theorem nu_80 : am_upR (qdR RL80) 106 1 (some 108) = qdR RL81 := upR_dR
theorem rz_81_109 : am_rowR (qdR RL81) 109 (fun _ => none) = qdR RL81 := rowR0 (Nat.le_trans zl_81 (by decide))
theorem ra_11_109 {xs : Nat → Int32} : am_row (AS11 xs) 109 (fun _ => 0) = AS11 xs := row0 (az_11 109 (by decide))
def RL82 : List (List (Option Nat)) := qls2 RL81 106 2 (some 109)
theorem zl_82 : RL82.length ≤ 107 := qls2_len (by decide) (Nat.le_trans zl_81 (by decide))
theorem nu_81 : am_upR (qdR RL81) 106 2 (some 109) = qdR RL82 := upR_dR
theorem rz_82_110 : am_rowR (qdR RL82) 110 (fun _ => none) = qdR RL82 := rowR0 (Nat.le_trans zl_82 (by decide))
theorem ra_11_110 {xs : Nat → Int32} : am_row (AS11 xs) 110 (fun _ => 0) = AS11 xs := row0 (az_11 110 (by decide))
def RL83 : List (List (Option Nat)) := qls2 RL82 106 3 (some 110)
theorem zl_83 : RL83.length ≤ 107 := qls2_len (by decide) (Nat.le_trans zl_82 (by decide))
theorem nu_82 : am_upR (qdR RL82) 106 3 (some 110) = qdR RL83 := upR_dR
theorem rz_83_111 : am_rowR (qdR RL83) 111 (fun _ => none) = qdR RL83 := rowR0 (Nat.le_trans zl_83 (by decide))
theorem ra_11_111 {xs : Nat → Int32} : am_row (AS11 xs) 111 (fun _ => 0) = AS11 xs := row0 (az_11 111 (by decide))
def RL84 : List (List (Option Nat)) := qls2 RL83 106 4 (some 111)
theorem zl_84 : RL84.length ≤ 107 := qls2_len (by decide) (Nat.le_trans zl_83 (by decide))
theorem nu_83 : am_upR (qdR RL83) 106 4 (some 111) = qdR RL84 := upR_dR
set_option maxRecDepth 100000 in
set_option maxHeartbeats 4000000 in
theorem ci_20 {L d : Nat} {xs : Nat → Int32} {Q : Option Value → am_H → Prop} : CALL d 36 [.ref (106 : Nat)] (List.take 107 (CT L), AS11 xs, qdR RL79) Q = Q none (List.take 112 (CT L), AS11 xs, qdR RL84) := by
  rw [en_X7_init]
  simp (disch := (first | exact (show _ from rfl) | exact Nat.le_of_ble_eq_true rfl | exact nwl rfl | exact inb_of 10 rfl rfl | exact inb_of 8 rfl rfl | exact inb_of 4 rfl rfl)) only [st_X7_init_0, st_X7_init_1, st_X7_init_4, st_X7_init_5, st_X7_init_7, st_X7_init_9, st_X7_init_12, st_X7_init_13, st_X7_init_15, st_X7_init_17, st_X7_init_20, st_X7_init_21, st_X7_init_23, st_X7_init_25, st_X7_init_28, st_X7_init_29, st_X7_init_31, st_X7_init_33, st_X7_init_36, st_X7_init_37, st_X7_init_39, st_X7_init_41, st_X7_init_44, Option.toList_some, Option.toList_none, List.cons_append, List.nil_append, Option.getD_some, am_nlI, am_nlR, am_nlN, bi_eq0, if_true, if_false, bf_tf, bf_ft, tkl, tka, Nat.reduceAdd, ↓reduceIte, rz_79_107, ra_11_107, nu_79, rz_80_108, ra_11_108, nu_80, rz_81_109, ra_11_109, nu_81, rz_82_110, ra_11_110, nu_82, rz_83_111, ra_11_111, nu_83, tn_0, ia_0, tn_1, ia_1, tn_2, ia_2, tn_3, ia_3, tn_4, ia_4, tn_5, ia_5, tn_6, ia_6, tn_7, ia_7, tn_8, ia_8, tn_9, ia_9, tn_10, ia_10, il_0_4_lt, il_1_4_lt, il_2_4_lt, il_3_4_lt, il_4_4_lt, il_0_8_lt, il_1_8_lt, il_2_8_lt, il_3_8_lt, il_4_8_lt, il_5_8_lt, il_6_8_lt, il_7_8_lt, il_8_8_lt, il_0_10_lt, il_1_10_lt, il_2_10_lt, il_3_10_lt, il_4_10_lt, il_5_10_lt, il_6_10_lt, il_7_10_lt, il_8_10_lt, il_9_10_lt, il_10_10_lt, Option.isSome_some]
def RL85 : List (List (Option Nat)) := qls2 RL84 105 0 (some 106)
theorem zl_85 : RL85.length ≤ 107 := qls2_len (by decide) (Nat.le_trans zl_84 (by decide))
theorem nu_84 : am_upR (qdR RL84) 105 0 (some 106) = qdR RL85 := upR_dR
set_option maxRecDepth 100000 in
set_option maxHeartbeats 4000000 in
theorem ci_21 {L d : Nat} {xs : Nat → Int32} {Q : Option Value → am_H → Prop} : CALL (d + 1) 28 [.ref (105 : Nat)] (List.take 106 (CT L), AS11 xs, qdR RL79) Q = Q none (List.take 112 (CT L), AS11 xs, qdR RL85) := by
  rw [en_X5_init]
  simp (disch := (first | exact (show _ from rfl) | exact Nat.le_of_ble_eq_true rfl | exact nwl rfl | exact inb_of 10 rfl rfl | exact inb_of 8 rfl rfl | exact inb_of 4 rfl rfl)) only [st_X5_init_0, st_X5_init_1, st_X5_init_4, st_X5_init_5, st_X5_init_8, st_X5_init_9, st_X5_init_12, st_X5_init_15, Option.toList_some, Option.toList_none, List.cons_append, List.nil_append, Option.getD_some, am_nlI, am_nlR, am_nlN, bi_eq0, if_true, if_false, bf_tf, bf_ft, tkl, tka, Nat.reduceAdd, ↓reduceIte, rz_79_106, ra_11_106, ci_20, nu_84, tn_0, ia_0, tn_1, ia_1, tn_2, ia_2, tn_3, ia_3, tn_4, ia_4, tn_5, ia_5, tn_6, ia_6, tn_7, ia_7, tn_8, ia_8, tn_9, ia_9, tn_10, ia_10, il_0_4_lt, il_1_4_lt, il_2_4_lt, il_3_4_lt, il_4_4_lt, il_0_8_lt, il_1_8_lt, il_2_8_lt, il_3_8_lt, il_4_8_lt, il_5_8_lt, il_6_8_lt, il_7_8_lt, il_8_8_lt, il_0_10_lt, il_1_10_lt, il_2_10_lt, il_3_10_lt, il_4_10_lt, il_5_10_lt, il_6_10_lt, il_7_10_lt, il_8_10_lt, il_9_10_lt, il_10_10_lt, Option.isSome_some]
def RL86 : List (List (Option Nat)) := qls2 RL85 26 6 (some 105)
theorem zl_86 : RL86.length ≤ 107 := qls2_len (by decide) (Nat.le_trans zl_85 (by decide))
theorem nu_85 : am_upR (qdR RL85) 26 6 (some 105) = qdR RL86 := upR_dR
theorem rg_86_12_1 : qdR RL86 12 1 = some 26 := by decide +kernel
theorem rz_86_112 : am_rowR (qdR RL86) 112 (fun _ => none) = qdR RL86 := rowR0 (Nat.le_trans zl_86 (by decide))
theorem ra_11_112 {xs : Nat → Int32} : am_row (AS11 xs) 112 (fun _ => 0) = AS11 xs := row0 (az_11 112 (by decide))
theorem rz_86_113 : am_rowR (qdR RL86) 113 (fun _ => none) = qdR RL86 := rowR0 (Nat.le_trans zl_86 (by decide))
theorem ra_11_113 {xs : Nat → Int32} : am_row (AS11 xs) 113 (fun _ => 0) = AS11 xs := row0 (az_11 113 (by decide))
theorem rz_86_114 : am_rowR (qdR RL86) 114 (fun _ => none) = qdR RL86 := rowR0 (Nat.le_trans zl_86 (by decide))
theorem ra_11_114 {xs : Nat → Int32} : am_row (AS11 xs) 114 (fun _ => 0) = AS11 xs := row0 (az_11 114 (by decide))
def RL87 : List (List (Option Nat)) := qls2 RL86 113 0 (some 114)
theorem zl_87 : RL87.length ≤ 114 := qls2_len (by decide) (Nat.le_trans zl_86 (by decide))
theorem nu_86 : am_upR (qdR RL86) 113 0 (some 114) = qdR RL87 := upR_dR
theorem rz_87_115 : am_rowR (qdR RL87) 115 (fun _ => none) = qdR RL87 := rowR0 (Nat.le_trans zl_87 (by decide))
theorem ra_11_115 {xs : Nat → Int32} : am_row (AS11 xs) 115 (fun _ => 0) = AS11 xs := row0 (az_11 115 (by decide))
def RL88 : List (List (Option Nat)) := qls2 RL87 113 1 (some 115)
theorem zl_88 : RL88.length ≤ 114 := qls2_len (by decide) (Nat.le_trans zl_87 (by decide))
theorem nu_87 : am_upR (qdR RL87) 113 1 (some 115) = qdR RL88 := upR_dR
theorem rz_88_116 : am_rowR (qdR RL88) 116 (fun _ => none) = qdR RL88 := rowR0 (Nat.le_trans zl_88 (by decide))
theorem ra_11_116 {xs : Nat → Int32} : am_row (AS11 xs) 116 (fun _ => 0) = AS11 xs := row0 (az_11 116 (by decide))
def RL89 : List (List (Option Nat)) := qls2 RL88 113 2 (some 116)
theorem zl_89 : RL89.length ≤ 114 := qls2_len (by decide) (Nat.le_trans zl_88 (by decide))
theorem nu_88 : am_upR (qdR RL88) 113 2 (some 116) = qdR RL89 := upR_dR
theorem rz_89_117 : am_rowR (qdR RL89) 117 (fun _ => none) = qdR RL89 := rowR0 (Nat.le_trans zl_89 (by decide))
theorem ra_11_117 {xs : Nat → Int32} : am_row (AS11 xs) 117 (fun _ => 0) = AS11 xs := row0 (az_11 117 (by decide))
def RL90 : List (List (Option Nat)) := qls2 RL89 113 3 (some 117)
theorem zl_90 : RL90.length ≤ 114 := qls2_len (by decide) (Nat.le_trans zl_89 (by decide))
theorem nu_89 : am_upR (qdR RL89) 113 3 (some 117) = qdR RL90 := upR_dR
theorem rz_90_118 : am_rowR (qdR RL90) 118 (fun _ => none) = qdR RL90 := rowR0 (Nat.le_trans zl_90 (by decide))
theorem ra_11_118 {xs : Nat → Int32} : am_row (AS11 xs) 118 (fun _ => 0) = AS11 xs := row0 (az_11 118 (by decide))
def RL91 : List (List (Option Nat)) := qls2 RL90 113 4 (some 118)
theorem zl_91 : RL91.length ≤ 114 := qls2_len (by decide) (Nat.le_trans zl_90 (by decide))
theorem nu_90 : am_upR (qdR RL90) 113 4 (some 118) = qdR RL91 := upR_dR
set_option maxRecDepth 100000 in
set_option maxHeartbeats 4000000 in
theorem ci_22 {L d : Nat} {xs : Nat → Int32} {Q : Option Value → am_H → Prop} : CALL d 36 [.ref (113 : Nat)] (List.take 114 (CT L), AS11 xs, qdR RL86) Q = Q none (List.take 119 (CT L), AS11 xs, qdR RL91) := by
  rw [en_X7_init]
  simp (disch := (first | exact (show _ from rfl) | exact Nat.le_of_ble_eq_true rfl | exact nwl rfl | exact inb_of 10 rfl rfl | exact inb_of 8 rfl rfl | exact inb_of 4 rfl rfl)) only [st_X7_init_0, st_X7_init_1, st_X7_init_4, st_X7_init_5, st_X7_init_7, st_X7_init_9, st_X7_init_12, st_X7_init_13, st_X7_init_15, st_X7_init_17, st_X7_init_20, st_X7_init_21, st_X7_init_23, st_X7_init_25, st_X7_init_28, st_X7_init_29, st_X7_init_31, st_X7_init_33, st_X7_init_36, st_X7_init_37, st_X7_init_39, st_X7_init_41, st_X7_init_44, Option.toList_some, Option.toList_none, List.cons_append, List.nil_append, Option.getD_some, am_nlI, am_nlR, am_nlN, bi_eq0, if_true, if_false, bf_tf, bf_ft, tkl, tka, Nat.reduceAdd, ↓reduceIte, rz_86_114, ra_11_114, nu_86, rz_87_115, ra_11_115, nu_87, rz_88_116, ra_11_116, nu_88, rz_89_117, ra_11_117, nu_89, rz_90_118, ra_11_118, nu_90, tn_0, ia_0, tn_1, ia_1, tn_2, ia_2, tn_3, ia_3, tn_4, ia_4, tn_5, ia_5, tn_6, ia_6, tn_7, ia_7, tn_8, ia_8, tn_9, ia_9, tn_10, ia_10, il_0_4_lt, il_1_4_lt, il_2_4_lt, il_3_4_lt, il_4_4_lt, il_0_8_lt, il_1_8_lt, il_2_8_lt, il_3_8_lt, il_4_8_lt, il_5_8_lt, il_6_8_lt, il_7_8_lt, il_8_8_lt, il_0_10_lt, il_1_10_lt, il_2_10_lt, il_3_10_lt, il_4_10_lt, il_5_10_lt, il_6_10_lt, il_7_10_lt, il_8_10_lt, il_9_10_lt, il_10_10_lt, Option.isSome_some]
def RL92 : List (List (Option Nat)) := qls2 RL91 112 0 (some 113)
theorem zl_92 : RL92.length ≤ 114 := qls2_len (by decide) (Nat.le_trans zl_91 (by decide))
theorem nu_91 : am_upR (qdR RL91) 112 0 (some 113) = qdR RL92 := upR_dR
set_option maxRecDepth 100000 in
set_option maxHeartbeats 4000000 in
theorem ci_23 {L d : Nat} {xs : Nat → Int32} {Q : Option Value → am_H → Prop} : CALL (d + 1) 28 [.ref (112 : Nat)] (List.take 113 (CT L), AS11 xs, qdR RL86) Q = Q none (List.take 119 (CT L), AS11 xs, qdR RL92) := by
  rw [en_X5_init]
  simp (disch := (first | exact (show _ from rfl) | exact Nat.le_of_ble_eq_true rfl | exact nwl rfl | exact inb_of 10 rfl rfl | exact inb_of 8 rfl rfl | exact inb_of 4 rfl rfl)) only [st_X5_init_0, st_X5_init_1, st_X5_init_4, st_X5_init_5, st_X5_init_8, st_X5_init_9, st_X5_init_12, st_X5_init_15, Option.toList_some, Option.toList_none, List.cons_append, List.nil_append, Option.getD_some, am_nlI, am_nlR, am_nlN, bi_eq0, if_true, if_false, bf_tf, bf_ft, tkl, tka, Nat.reduceAdd, ↓reduceIte, rz_86_113, ra_11_113, ci_22, nu_91, tn_0, ia_0, tn_1, ia_1, tn_2, ia_2, tn_3, ia_3, tn_4, ia_4, tn_5, ia_5, tn_6, ia_6, tn_7, ia_7, tn_8, ia_8, tn_9, ia_9, tn_10, ia_10, il_0_4_lt, il_1_4_lt, il_2_4_lt, il_3_4_lt, il_4_4_lt, il_0_8_lt, il_1_8_lt, il_2_8_lt, il_3_8_lt, il_4_8_lt, il_5_8_lt, il_6_8_lt, il_7_8_lt, il_8_8_lt, il_0_10_lt, il_1_10_lt, il_2_10_lt, il_3_10_lt, il_4_10_lt, il_5_10_lt, il_6_10_lt, il_7_10_lt, il_8_10_lt, il_9_10_lt, il_10_10_lt, Option.isSome_some]
def RL93 : List (List (Option Nat)) := qls2 RL92 26 7 (some 112)
theorem zl_93 : RL93.length ≤ 114 := qls2_len (by decide) (Nat.le_trans zl_92 (by decide))
theorem nu_92 : am_upR (qdR RL92) 26 7 (some 112) = qdR RL93 := upR_dR
theorem rg_93_12_7 : qdR RL93 12 7 = some 52 := by decide +kernel
theorem rz_93_119 : am_rowR (qdR RL93) 119 (fun _ => none) = qdR RL93 := rowR0 (Nat.le_trans zl_93 (by decide))
theorem ra_11_119 {xs : Nat → Int32} : am_row (AS11 xs) 119 (fun _ => 0) = AS11 xs := row0 (az_11 119 (by decide))
theorem rz_93_120 : am_rowR (qdR RL93) 120 (fun _ => none) = qdR RL93 := rowR0 (Nat.le_trans zl_93 (by decide))
theorem ra_11_120 {xs : Nat → Int32} : am_row (AS11 xs) 120 (fun _ => 0) = AS11 xs := row0 (az_11 120 (by decide))
def RL94 : List (List (Option Nat)) := qls2 RL93 119 0 (some 120)
theorem zl_94 : RL94.length ≤ 120 := qls2_len (by decide) (Nat.le_trans zl_93 (by decide))
theorem nu_93 : am_upR (qdR RL93) 119 0 (some 120) = qdR RL94 := upR_dR
def AS12 (xs : Nat → Int32) : Nat → Nat → Int32 := am_up (AS11 xs) 119 1 (-1)
theorem az_12 {xs : Nat → Int32} : ∀ q, 120 ≤ q → AS12 xs q = fun _ => 0 := fun q h => am_up_z (n := 120) (fun q h => az_11 q (by omega)) (by decide) h
theorem na_11 {xs : Nat → Int32} : am_up (AS11 xs) 119 1 (-1) = AS12 xs := rfl
set_option maxRecDepth 100000 in
set_option maxHeartbeats 4000000 in
theorem ci_24 {L d : Nat} {xs : Nat → Int32} {Q : Option Value → am_H → Prop} : CALL d 30 [.ref (119 : Nat)] (List.take 120 (CT L), AS11 xs, qdR RL93) Q = Q none (List.take 121 (CT L), AS12 xs, qdR RL94) := by
  rw [en_X6_init]
  simp (disch := (first | exact (show _ from rfl) | exact Nat.le_of_ble_eq_true rfl | exact nwl rfl | exact inb_of 10 rfl rfl | exact inb_of 8 rfl rfl | exact inb_of 4 rfl rfl)) only [st_X6_init_0, st_X6_init_1, st_X6_init_4, st_X6_init_5, st_X6_init_7, st_X6_init_9, st_X6_init_12, st_X6_init_13, st_X6_init_14, st_X6_init_17, Option.toList_some, Option.toList_none, List.cons_append, List.nil_append, Option.getD_some, am_nlI, am_nlR, am_nlN, bi_eq0, if_true, if_false, bf_tf, bf_ft, tkl, tka, Nat.reduceAdd, ↓reduceIte, rz_93_120, ra_11_120, nu_93, na_11, tn_0, ia_0, tn_1, ia_1, tn_2, ia_2, tn_3, ia_3, tn_4, ia_4, tn_5, ia_5, tn_6, ia_6, tn_7, ia_7, tn_8, ia_8, tn_9, ia_9, tn_10, ia_10, il_0_4_lt, il_1_4_lt, il_2_4_lt, il_3_4_lt, il_4_4_lt, il_0_8_lt, il_1_8_lt, il_2_8_lt, il_3_8_lt, il_4_8_lt, il_5_8_lt, il_6_8_lt, il_7_8_lt, il_8_8_lt, il_0_10_lt, il_1_10_lt, il_2_10_lt, il_3_10_lt, il_4_10_lt, il_5_10_lt, il_6_10_lt, il_7_10_lt, il_8_10_lt, il_9_10_lt, il_10_10_lt, Option.isSome_some]
def RL95 : List (List (Option Nat)) := qls2 RL94 52 0 (some 119)
theorem zl_95 : RL95.length ≤ 120 := qls2_len (by decide) (Nat.le_trans zl_94 (by decide))
theorem nu_94 : am_upR (qdR RL94) 52 0 (some 119) = qdR RL95 := upR_dR
theorem rg_95_12_7 : qdR RL95 12 7 = some 52 := by decide +kernel
theorem rz_95_121 : am_rowR (qdR RL95) 121 (fun _ => none) = qdR RL95 := rowR0 (Nat.le_trans zl_95 (by decide))
theorem ra_12_121 {xs : Nat → Int32} : am_row (AS12 xs) 121 (fun _ => 0) = AS12 xs := row0 (az_12 121 (by decide))
theorem rz_95_122 : am_rowR (qdR RL95) 122 (fun _ => none) = qdR RL95 := rowR0 (Nat.le_trans zl_95 (by decide))
theorem ra_12_122 {xs : Nat → Int32} : am_row (AS12 xs) 122 (fun _ => 0) = AS12 xs := row0 (az_12 122 (by decide))
def RL96 : List (List (Option Nat)) := qls2 RL95 121 0 (some 122)
theorem zl_96 : RL96.length ≤ 122 := qls2_len (by decide) (Nat.le_trans zl_95 (by decide))
theorem nu_95 : am_upR (qdR RL95) 121 0 (some 122) = qdR RL96 := upR_dR
def AS13 (xs : Nat → Int32) : Nat → Nat → Int32 := am_up (AS12 xs) 121 1 (-1)
theorem az_13 {xs : Nat → Int32} : ∀ q, 122 ≤ q → AS13 xs q = fun _ => 0 := fun q h => am_up_z (n := 122) (fun q h => az_12 q (by omega)) (by decide) h
theorem na_12 {xs : Nat → Int32} : am_up (AS12 xs) 121 1 (-1) = AS13 xs := rfl
set_option maxRecDepth 100000 in
set_option maxHeartbeats 4000000 in
theorem ci_25 {L d : Nat} {xs : Nat → Int32} {Q : Option Value → am_H → Prop} : CALL d 30 [.ref (121 : Nat)] (List.take 122 (CT L), AS12 xs, qdR RL95) Q = Q none (List.take 123 (CT L), AS13 xs, qdR RL96) := by
  rw [en_X6_init]
  simp (disch := (first | exact (show _ from rfl) | exact Nat.le_of_ble_eq_true rfl | exact nwl rfl | exact inb_of 10 rfl rfl | exact inb_of 8 rfl rfl | exact inb_of 4 rfl rfl)) only [st_X6_init_0, st_X6_init_1, st_X6_init_4, st_X6_init_5, st_X6_init_7, st_X6_init_9, st_X6_init_12, st_X6_init_13, st_X6_init_14, st_X6_init_17, Option.toList_some, Option.toList_none, List.cons_append, List.nil_append, Option.getD_some, am_nlI, am_nlR, am_nlN, bi_eq0, if_true, if_false, bf_tf, bf_ft, tkl, tka, Nat.reduceAdd, ↓reduceIte, rz_95_122, ra_12_122, nu_95, na_12, tn_0, ia_0, tn_1, ia_1, tn_2, ia_2, tn_3, ia_3, tn_4, ia_4, tn_5, ia_5, tn_6, ia_6, tn_7, ia_7, tn_8, ia_8, tn_9, ia_9, tn_10, ia_10, il_0_4_lt, il_1_4_lt, il_2_4_lt, il_3_4_lt, il_4_4_lt, il_0_8_lt, il_1_8_lt, il_2_8_lt, il_3_8_lt, il_4_8_lt, il_5_8_lt, il_6_8_lt, il_7_8_lt, il_8_8_lt, il_0_10_lt, il_1_10_lt, il_2_10_lt, il_3_10_lt, il_4_10_lt, il_5_10_lt, il_6_10_lt, il_7_10_lt, il_8_10_lt, il_9_10_lt, il_10_10_lt, Option.isSome_some]
def RL97 : List (List (Option Nat)) := qls2 RL96 52 1 (some 121)
theorem zl_97 : RL97.length ≤ 122 := qls2_len (by decide) (Nat.le_trans zl_96 (by decide))
theorem nu_96 : am_upR (qdR RL96) 52 1 (some 121) = qdR RL97 := upR_dR
theorem rg_97_12_7 : qdR RL97 12 7 = some 52 := by decide +kernel
theorem rz_97_123 : am_rowR (qdR RL97) 123 (fun _ => none) = qdR RL97 := rowR0 (Nat.le_trans zl_97 (by decide))
theorem ra_13_123 {xs : Nat → Int32} : am_row (AS13 xs) 123 (fun _ => 0) = AS13 xs := row0 (az_13 123 (by decide))
theorem rz_97_124 : am_rowR (qdR RL97) 124 (fun _ => none) = qdR RL97 := rowR0 (Nat.le_trans zl_97 (by decide))
theorem ra_13_124 {xs : Nat → Int32} : am_row (AS13 xs) 124 (fun _ => 0) = AS13 xs := row0 (az_13 124 (by decide))
def RL98 : List (List (Option Nat)) := qls2 RL97 123 0 (some 124)
theorem zl_98 : RL98.length ≤ 124 := qls2_len (by decide) (Nat.le_trans zl_97 (by decide))
theorem nu_97 : am_upR (qdR RL97) 123 0 (some 124) = qdR RL98 := upR_dR
def AS14 (xs : Nat → Int32) : Nat → Nat → Int32 := am_up (AS13 xs) 123 1 (-1)
theorem az_14 {xs : Nat → Int32} : ∀ q, 124 ≤ q → AS14 xs q = fun _ => 0 := fun q h => am_up_z (n := 124) (fun q h => az_13 q (by omega)) (by decide) h
theorem na_13 {xs : Nat → Int32} : am_up (AS13 xs) 123 1 (-1) = AS14 xs := rfl
set_option maxRecDepth 100000 in
set_option maxHeartbeats 4000000 in
theorem ci_26 {L d : Nat} {xs : Nat → Int32} {Q : Option Value → am_H → Prop} : CALL d 30 [.ref (123 : Nat)] (List.take 124 (CT L), AS13 xs, qdR RL97) Q = Q none (List.take 125 (CT L), AS14 xs, qdR RL98) := by
  rw [en_X6_init]
  simp (disch := (first | exact (show _ from rfl) | exact Nat.le_of_ble_eq_true rfl | exact nwl rfl | exact inb_of 10 rfl rfl | exact inb_of 8 rfl rfl | exact inb_of 4 rfl rfl)) only [st_X6_init_0, st_X6_init_1, st_X6_init_4, st_X6_init_5, st_X6_init_7, st_X6_init_9, st_X6_init_12, st_X6_init_13, st_X6_init_14, st_X6_init_17, Option.toList_some, Option.toList_none, List.cons_append, List.nil_append, Option.getD_some, am_nlI, am_nlR, am_nlN, bi_eq0, if_true, if_false, bf_tf, bf_ft, tkl, tka, Nat.reduceAdd, ↓reduceIte, rz_97_124, ra_13_124, nu_97, na_13, tn_0, ia_0, tn_1, ia_1, tn_2, ia_2, tn_3, ia_3, tn_4, ia_4, tn_5, ia_5, tn_6, ia_6, tn_7, ia_7, tn_8, ia_8, tn_9, ia_9, tn_10, ia_10, il_0_4_lt, il_1_4_lt, il_2_4_lt, il_3_4_lt, il_4_4_lt, il_0_8_lt, il_1_8_lt, il_2_8_lt, il_3_8_lt, il_4_8_lt, il_5_8_lt, il_6_8_lt, il_7_8_lt, il_8_8_lt, il_0_10_lt, il_1_10_lt, il_2_10_lt, il_3_10_lt, il_4_10_lt, il_5_10_lt, il_6_10_lt, il_7_10_lt, il_8_10_lt, il_9_10_lt, il_10_10_lt, Option.isSome_some]
def RL99 : List (List (Option Nat)) := qls2 RL98 52 2 (some 123)
theorem zl_99 : RL99.length ≤ 124 := qls2_len (by decide) (Nat.le_trans zl_98 (by decide))
theorem nu_98 : am_upR (qdR RL98) 52 2 (some 123) = qdR RL99 := upR_dR
theorem rg_99_12_7 : qdR RL99 12 7 = some 52 := by decide +kernel
theorem rz_99_125 : am_rowR (qdR RL99) 125 (fun _ => none) = qdR RL99 := rowR0 (Nat.le_trans zl_99 (by decide))
theorem ra_14_125 {xs : Nat → Int32} : am_row (AS14 xs) 125 (fun _ => 0) = AS14 xs := row0 (az_14 125 (by decide))
theorem rz_99_126 : am_rowR (qdR RL99) 126 (fun _ => none) = qdR RL99 := rowR0 (Nat.le_trans zl_99 (by decide))
theorem ra_14_126 {xs : Nat → Int32} : am_row (AS14 xs) 126 (fun _ => 0) = AS14 xs := row0 (az_14 126 (by decide))
def RL100 : List (List (Option Nat)) := qls2 RL99 125 0 (some 126)
theorem zl_100 : RL100.length ≤ 126 := qls2_len (by decide) (Nat.le_trans zl_99 (by decide))
theorem nu_99 : am_upR (qdR RL99) 125 0 (some 126) = qdR RL100 := upR_dR
def AS15 (xs : Nat → Int32) : Nat → Nat → Int32 := am_up (AS14 xs) 125 1 (-1)
theorem az_15 {xs : Nat → Int32} : ∀ q, 126 ≤ q → AS15 xs q = fun _ => 0 := fun q h => am_up_z (n := 126) (fun q h => az_14 q (by omega)) (by decide) h
theorem na_14 {xs : Nat → Int32} : am_up (AS14 xs) 125 1 (-1) = AS15 xs := rfl
set_option maxRecDepth 100000 in
set_option maxHeartbeats 4000000 in
theorem ci_27 {L d : Nat} {xs : Nat → Int32} {Q : Option Value → am_H → Prop} : CALL d 30 [.ref (125 : Nat)] (List.take 126 (CT L), AS14 xs, qdR RL99) Q = Q none (List.take 127 (CT L), AS15 xs, qdR RL100) := by
  rw [en_X6_init]
  simp (disch := (first | exact (show _ from rfl) | exact Nat.le_of_ble_eq_true rfl | exact nwl rfl | exact inb_of 10 rfl rfl | exact inb_of 8 rfl rfl | exact inb_of 4 rfl rfl)) only [st_X6_init_0, st_X6_init_1, st_X6_init_4, st_X6_init_5, st_X6_init_7, st_X6_init_9, st_X6_init_12, st_X6_init_13, st_X6_init_14, st_X6_init_17, Option.toList_some, Option.toList_none, List.cons_append, List.nil_append, Option.getD_some, am_nlI, am_nlR, am_nlN, bi_eq0, if_true, if_false, bf_tf, bf_ft, tkl, tka, Nat.reduceAdd, ↓reduceIte, rz_99_126, ra_14_126, nu_99, na_14, tn_0, ia_0, tn_1, ia_1, tn_2, ia_2, tn_3, ia_3, tn_4, ia_4, tn_5, ia_5, tn_6, ia_6, tn_7, ia_7, tn_8, ia_8, tn_9, ia_9, tn_10, ia_10, il_0_4_lt, il_1_4_lt, il_2_4_lt, il_3_4_lt, il_4_4_lt, il_0_8_lt, il_1_8_lt, il_2_8_lt, il_3_8_lt, il_4_8_lt, il_5_8_lt, il_6_8_lt, il_7_8_lt, il_8_8_lt, il_0_10_lt, il_1_10_lt, il_2_10_lt, il_3_10_lt, il_4_10_lt, il_5_10_lt, il_6_10_lt, il_7_10_lt, il_8_10_lt, il_9_10_lt, il_10_10_lt, Option.isSome_some]
def RL101 : List (List (Option Nat)) := qls2 RL100 52 3 (some 125)
theorem zl_101 : RL101.length ≤ 126 := qls2_len (by decide) (Nat.le_trans zl_100 (by decide))
theorem nu_100 : am_upR (qdR RL100) 52 3 (some 125) = qdR RL101 := upR_dR
set_option maxRecDepth 100000 in
set_option maxHeartbeats 4000000 in
theorem ci_28 {L d : Nat} {xs : Nat → Int32} {Q : Option Value → am_H → Prop} : CALL (d + 2) 71 [.ref (12 : Nat)] (List.take 13 (CT L), AS0 xs, qdR RL0) Q = Q none (List.take 127 (CT L), AS15 xs, qdR RL101) := by
  rw [en_X10_init]
  simp (disch := (first | exact (show _ from rfl) | exact Nat.le_of_ble_eq_true rfl | exact nwl rfl | exact inb_of 10 rfl rfl | exact inb_of 8 rfl rfl | exact inb_of 4 rfl rfl)) only [st_X10_init_0, st_X10_init_1, st_X10_init_4, st_X10_init_5, st_X10_init_8, st_X10_init_9, st_X10_init_12, st_X10_init_15, st_X10_init_16, st_X10_init_18, st_X10_init_21, st_X10_init_24, st_X10_init_25, st_X10_init_28, st_X10_init_29, st_X10_init_32, st_X10_init_35, st_X10_init_36, st_X10_init_39, st_X10_init_40, st_X10_init_43, st_X10_init_46, st_X10_init_47, st_X10_init_50, st_X10_init_51, st_X10_init_54, st_X10_init_57, st_X10_init_58, st_X10_init_61, st_X10_init_62, st_X10_init_65, st_X10_init_68, st_X10_init_69, st_X10_init_72, st_X10_init_73, st_X10_init_76, st_X10_init_79, st_X10_init_80, st_X10_init_81, st_X10_init_84, st_X10_init_87, st_X10_init_88, st_X10_init_91, st_X10_init_92, st_X10_init_95, st_X10_init_98, st_X10_init_99, st_X10_init_102, st_X10_init_103, st_X10_init_106, st_X10_init_109, st_X10_init_110, st_X10_init_111, st_X10_init_112, st_X10_init_114, st_X10_init_117, st_X10_init_118, st_X10_init_121, st_X10_init_122, st_X10_init_125, st_X10_init_126, st_X10_init_129, st_X10_init_130, st_X10_init_133, st_X10_init_136, st_X10_init_137, st_X10_init_138, st_X10_init_139, st_X10_init_140, st_X10_init_143, st_X10_init_144, st_X10_init_147, st_X10_init_148, st_X10_init_151, st_X10_init_152, st_X10_init_155, st_X10_init_156, st_X10_init_159, st_X10_init_162, Option.toList_some, Option.toList_none, List.cons_append, List.nil_append, Option.getD_some, am_nlI, am_nlR, am_nlN, bi_eq0, if_true, if_false, bf_tf, bf_ft, tkl, tka, Nat.reduceAdd, ↓reduceIte, rz_0_13, ra_0_13, ci_0, nu_6, rz_7_26, ra_10_26, nu_7, rz_8_27, ra_10_27, ci_1, nu_13, rz_14_33, ra_10_33, ci_2, nu_15, rz_16_35, ra_10_35, ci_3, nu_19, rz_20_39, ra_10_39, ci_4, nu_22, rz_23_42, ra_11_42, ci_5, nu_25, rz_26_52, ra_11_52, nu_26, rz_27_53, ra_11_53, ci_6, nu_31, rz_32_58, ra_11_58, ci_7, nu_36, rg_37_12_1, rz_37_63, ra_11_63, ci_9, nu_43, rg_44_12_1, rz_44_70, ra_11_70, ci_11, nu_50, rg_51_12_1, rz_51_77, ra_11_77, ci_13, nu_57, rg_58_12_1, rz_58_84, ra_11_84, ci_15, nu_64, rg_65_12_1, rz_65_91, ra_11_91, ci_17, nu_71, rg_72_12_1, rz_72_98, ra_11_98, ci_19, nu_78, rg_79_12_1, rz_79_105, ra_11_105, ci_21, nu_85, rg_86_12_1, rz_86_112, ra_11_112, ci_23, nu_92, rg_93_12_7, rz_93_119, ra_11_119, ci_24, nu_94, rg_95_12_7, rz_95_121, ra_12_121, ci_25, nu_96, rg_97_12_7, rz_97_123, ra_13_123, ci_26, nu_98, rg_99_12_7, rz_99_125, ra_14_125, ci_27, nu_100, tn_0, ia_0, tn_1, ia_1, tn_2, ia_2, tn_3, ia_3, tn_4, ia_4, tn_5, ia_5, tn_6, ia_6, tn_7, ia_7, tn_8, ia_8, tn_9, ia_9, tn_10, ia_10, il_0_4_lt, il_1_4_lt, il_2_4_lt, il_3_4_lt, il_4_4_lt, il_0_8_lt, il_1_8_lt, il_2_8_lt, il_3_8_lt, il_4_8_lt, il_5_8_lt, il_6_8_lt, il_7_8_lt, il_8_8_lt, il_0_10_lt, il_1_10_lt, il_2_10_lt, il_3_10_lt, il_4_10_lt, il_5_10_lt, il_6_10_lt, il_7_10_lt, il_8_10_lt, il_9_10_lt, il_10_10_lt, Option.isSome_some]
theorem rz_101_127 : am_rowR (qdR RL101) 127 (fun _ => none) = qdR RL101 := rowR0 (Nat.le_trans zl_101 (by decide))
theorem ra_15_127 {xs : Nat → Int32} : am_row (AS15 xs) 127 (fun _ => 0) = AS15 xs := row0 (az_15 127 (by decide))
theorem rz_101_128 : am_rowR (qdR RL101) 128 (fun _ => none) = qdR RL101 := rowR0 (Nat.le_trans zl_101 (by decide))
theorem ra_15_128 {xs : Nat → Int32} : am_row (AS15 xs) 128 (fun _ => 0) = AS15 xs := row0 (az_15 128 (by decide))
def RL102 : List (List (Option Nat)) := qls2 RL101 127 1 (some 128)
theorem zl_102 : RL102.length ≤ 128 := qls2_len (by decide) (Nat.le_trans zl_101 (by decide))
theorem nu_101 : am_upR (qdR RL101) 127 1 (some 128) = qdR RL102 := upR_dR
theorem rz_102_129 : am_rowR (qdR RL102) 129 (fun _ => none) = qdR RL102 := rowR0 (Nat.le_trans zl_102 (by decide))
theorem ra_15_129 {xs : Nat → Int32} : am_row (AS15 xs) 129 (fun _ => 0) = AS15 xs := row0 (az_15 129 (by decide))
def RL103 : List (List (Option Nat)) := qls2 RL102 127 2 (some 129)
theorem zl_103 : RL103.length ≤ 128 := qls2_len (by decide) (Nat.le_trans zl_102 (by decide))
theorem nu_102 : am_upR (qdR RL102) 127 2 (some 129) = qdR RL103 := upR_dR
theorem rz_103_130 : am_rowR (qdR RL103) 130 (fun _ => none) = qdR RL103 := rowR0 (Nat.le_trans zl_103 (by decide))
theorem ra_15_130 {xs : Nat → Int32} : am_row (AS15 xs) 130 (fun _ => 0) = AS15 xs := row0 (az_15 130 (by decide))
def RL104 : List (List (Option Nat)) := qls2 RL103 127 5 (some 130)
theorem zl_104 : RL104.length ≤ 128 := qls2_len (by decide) (Nat.le_trans zl_103 (by decide))
theorem nu_103 : am_upR (qdR RL103) 127 5 (some 130) = qdR RL104 := upR_dR
theorem rz_104_131 : am_rowR (qdR RL104) 131 (fun _ => none) = qdR RL104 := rowR0 (Nat.le_trans zl_104 (by decide))
theorem ra_15_131 {xs : Nat → Int32} : am_row (AS15 xs) 131 (fun _ => 0) = AS15 xs := row0 (az_15 131 (by decide))
def RL105 : List (List (Option Nat)) := qls2 RL104 127 6 (some 131)
theorem zl_105 : RL105.length ≤ 128 := qls2_len (by decide) (Nat.le_trans zl_104 (by decide))
theorem nu_104 : am_upR (qdR RL104) 127 6 (some 131) = qdR RL105 := upR_dR
theorem rz_105_132 : am_rowR (qdR RL105) 132 (fun _ => none) = qdR RL105 := rowR0 (Nat.le_trans zl_105 (by decide))
theorem ra_15_132 {xs : Nat → Int32} : am_row (AS15 xs) 132 (fun _ => 0) = AS15 xs := row0 (az_15 132 (by decide))
def RL106 : List (List (Option Nat)) := qls2 RL105 127 7 (some 132)
theorem zl_106 : RL106.length ≤ 128 := qls2_len (by decide) (Nat.le_trans zl_105 (by decide))
theorem nu_105 : am_upR (qdR RL105) 127 7 (some 132) = qdR RL106 := upR_dR
theorem rz_106_133 : am_rowR (qdR RL106) 133 (fun _ => none) = qdR RL106 := rowR0 (Nat.le_trans zl_106 (by decide))
theorem ra_15_133 {xs : Nat → Int32} : am_row (AS15 xs) 133 (fun _ => 0) = AS15 xs := row0 (az_15 133 (by decide))
def RL107 : List (List (Option Nat)) := qls2 RL106 127 8 (some 133)
theorem zl_107 : RL107.length ≤ 128 := qls2_len (by decide) (Nat.le_trans zl_106 (by decide))
theorem nu_106 : am_upR (qdR RL106) 127 8 (some 133) = qdR RL107 := upR_dR
theorem rz_107_134 : am_rowR (qdR RL107) 134 (fun _ => none) = qdR RL107 := rowR0 (Nat.le_trans zl_107 (by decide))
theorem ra_15_134 {xs : Nat → Int32} : am_row (AS15 xs) 134 (fun _ => 0) = AS15 xs := row0 (az_15 134 (by decide))
def RL108 : List (List (Option Nat)) := qls2 RL107 127 9 (some 134)
theorem zl_108 : RL108.length ≤ 128 := qls2_len (by decide) (Nat.le_trans zl_107 (by decide))
theorem nu_107 : am_upR (qdR RL107) 127 9 (some 134) = qdR RL108 := upR_dR
theorem rz_108_135 : am_rowR (qdR RL108) 135 (fun _ => none) = qdR RL108 := rowR0 (Nat.le_trans zl_108 (by decide))
theorem ra_15_135 {xs : Nat → Int32} : am_row (AS15 xs) 135 (fun _ => 0) = AS15 xs := row0 (az_15 135 (by decide))
def RL109 : List (List (Option Nat)) := qls2 RL108 127 10 (some 135)
theorem zl_109 : RL109.length ≤ 128 := qls2_len (by decide) (Nat.le_trans zl_108 (by decide))
theorem nu_108 : am_upR (qdR RL108) 127 10 (some 135) = qdR RL109 := upR_dR
theorem rz_109_136 : am_rowR (qdR RL109) 136 (fun _ => none) = qdR RL109 := rowR0 (Nat.le_trans zl_109 (by decide))
theorem ra_15_136 {xs : Nat → Int32} : am_row (AS15 xs) 136 (fun _ => 0) = AS15 xs := row0 (az_15 136 (by decide))
def RL110 : List (List (Option Nat)) := qls2 RL109 127 11 (some 136)
theorem zl_110 : RL110.length ≤ 128 := qls2_len (by decide) (Nat.le_trans zl_109 (by decide))
theorem nu_109 : am_upR (qdR RL109) 127 11 (some 136) = qdR RL110 := upR_dR
theorem rz_110_137 : am_rowR (qdR RL110) 137 (fun _ => none) = qdR RL110 := rowR0 (Nat.le_trans zl_110 (by decide))
theorem ra_15_137 {xs : Nat → Int32} : am_row (AS15 xs) 137 (fun _ => 0) = AS15 xs := row0 (az_15 137 (by decide))
def RL111 : List (List (Option Nat)) := qls2 RL110 127 12 (some 137)
theorem zl_111 : RL111.length ≤ 128 := qls2_len (by decide) (Nat.le_trans zl_110 (by decide))
theorem nu_110 : am_upR (qdR RL110) 127 12 (some 137) = qdR RL111 := upR_dR
theorem rz_111_138 : am_rowR (qdR RL111) 138 (fun _ => none) = qdR RL111 := rowR0 (Nat.le_trans zl_111 (by decide))
theorem ra_15_138 {xs : Nat → Int32} : am_row (AS15 xs) 138 (fun _ => 0) = AS15 xs := row0 (az_15 138 (by decide))
def RL112 : List (List (Option Nat)) := qls2 RL111 127 13 (some 138)
theorem zl_112 : RL112.length ≤ 128 := qls2_len (by decide) (Nat.le_trans zl_111 (by decide))
theorem nu_111 : am_upR (qdR RL111) 127 13 (some 138) = qdR RL112 := upR_dR
theorem rz_112_139 : am_rowR (qdR RL112) 139 (fun _ => none) = qdR RL112 := rowR0 (Nat.le_trans zl_112 (by decide))
theorem ra_15_139 {xs : Nat → Int32} : am_row (AS15 xs) 139 (fun _ => 0) = AS15 xs := row0 (az_15 139 (by decide))
def RL113 : List (List (Option Nat)) := qls2 RL112 127 14 (some 139)
theorem zl_113 : RL113.length ≤ 128 := qls2_len (by decide) (Nat.le_trans zl_112 (by decide))
theorem nu_112 : am_upR (qdR RL112) 127 14 (some 139) = qdR RL113 := upR_dR
theorem rz_113_140 : am_rowR (qdR RL113) 140 (fun _ => none) = qdR RL113 := rowR0 (Nat.le_trans zl_113 (by decide))
theorem ra_15_140 {xs : Nat → Int32} : am_row (AS15 xs) 140 (fun _ => 0) = AS15 xs := row0 (az_15 140 (by decide))
def RL114 : List (List (Option Nat)) := qls2 RL113 127 15 (some 140)
theorem zl_114 : RL114.length ≤ 128 := qls2_len (by decide) (Nat.le_trans zl_113 (by decide))
theorem nu_113 : am_upR (qdR RL113) 127 15 (some 140) = qdR RL114 := upR_dR
theorem rz_114_141 : am_rowR (qdR RL114) 141 (fun _ => none) = qdR RL114 := rowR0 (Nat.le_trans zl_114 (by decide))
theorem ra_15_141 {xs : Nat → Int32} : am_row (AS15 xs) 141 (fun _ => 0) = AS15 xs := row0 (az_15 141 (by decide))
def RL115 : List (List (Option Nat)) := qls2 RL114 127 16 (some 141)
theorem zl_115 : RL115.length ≤ 128 := qls2_len (by decide) (Nat.le_trans zl_114 (by decide))
theorem nu_114 : am_upR (qdR RL114) 127 16 (some 141) = qdR RL115 := upR_dR
theorem rz_115_142 : am_rowR (qdR RL115) 142 (fun _ => none) = qdR RL115 := rowR0 (Nat.le_trans zl_115 (by decide))
theorem ra_15_142 {xs : Nat → Int32} : am_row (AS15 xs) 142 (fun _ => 0) = AS15 xs := row0 (az_15 142 (by decide))
def RL116 : List (List (Option Nat)) := qls2 RL115 127 17 (some 142)
theorem zl_116 : RL116.length ≤ 128 := qls2_len (by decide) (Nat.le_trans zl_115 (by decide))
theorem nu_115 : am_upR (qdR RL115) 127 17 (some 142) = qdR RL116 := upR_dR
theorem rz_116_143 : am_rowR (qdR RL116) 143 (fun _ => none) = qdR RL116 := rowR0 (Nat.le_trans zl_116 (by decide))
theorem ra_15_143 {xs : Nat → Int32} : am_row (AS15 xs) 143 (fun _ => 0) = AS15 xs := row0 (az_15 143 (by decide))
def RL117 : List (List (Option Nat)) := qls2 RL116 127 18 (some 143)
theorem zl_117 : RL117.length ≤ 128 := qls2_len (by decide) (Nat.le_trans zl_116 (by decide))
theorem nu_116 : am_upR (qdR RL116) 127 18 (some 143) = qdR RL117 := upR_dR
theorem rz_117_144 : am_rowR (qdR RL117) 144 (fun _ => none) = qdR RL117 := rowR0 (Nat.le_trans zl_117 (by decide))
theorem ra_15_144 {xs : Nat → Int32} : am_row (AS15 xs) 144 (fun _ => 0) = AS15 xs := row0 (az_15 144 (by decide))
def RL118 : List (List (Option Nat)) := qls2 RL117 127 19 (some 144)
theorem zl_118 : RL118.length ≤ 128 := qls2_len (by decide) (Nat.le_trans zl_117 (by decide))
theorem nu_117 : am_upR (qdR RL117) 127 19 (some 144) = qdR RL118 := upR_dR
theorem rz_118_145 : am_rowR (qdR RL118) 145 (fun _ => none) = qdR RL118 := rowR0 (Nat.le_trans zl_118 (by decide))
theorem ra_15_145 {xs : Nat → Int32} : am_row (AS15 xs) 145 (fun _ => 0) = AS15 xs := row0 (az_15 145 (by decide))
def RL119 : List (List (Option Nat)) := qls2 RL118 127 20 (some 145)
theorem zl_119 : RL119.length ≤ 128 := qls2_len (by decide) (Nat.le_trans zl_118 (by decide))
theorem nu_118 : am_upR (qdR RL118) 127 20 (some 145) = qdR RL119 := upR_dR
theorem rz_119_146 : am_rowR (qdR RL119) 146 (fun _ => none) = qdR RL119 := rowR0 (Nat.le_trans zl_119 (by decide))
theorem ra_15_146 {xs : Nat → Int32} : am_row (AS15 xs) 146 (fun _ => 0) = AS15 xs := row0 (az_15 146 (by decide))
def RL120 : List (List (Option Nat)) := qls2 RL119 127 21 (some 146)
theorem zl_120 : RL120.length ≤ 128 := qls2_len (by decide) (Nat.le_trans zl_119 (by decide))
theorem nu_119 : am_upR (qdR RL119) 127 21 (some 146) = qdR RL120 := upR_dR
theorem rz_120_147 : am_rowR (qdR RL120) 147 (fun _ => none) = qdR RL120 := rowR0 (Nat.le_trans zl_120 (by decide))
theorem ra_15_147 {xs : Nat → Int32} : am_row (AS15 xs) 147 (fun _ => 0) = AS15 xs := row0 (az_15 147 (by decide))
def RL121 : List (List (Option Nat)) := qls2 RL120 127 23 (some 147)
theorem zl_121 : RL121.length ≤ 128 := qls2_len (by decide) (Nat.le_trans zl_120 (by decide))
theorem nu_120 : am_upR (qdR RL120) 127 23 (some 147) = qdR RL121 := upR_dR
theorem rz_121_148 : am_rowR (qdR RL121) 148 (fun _ => none) = qdR RL121 := rowR0 (Nat.le_trans zl_121 (by decide))
theorem ra_15_148 {xs : Nat → Int32} : am_row (AS15 xs) 148 (fun _ => 0) = AS15 xs := row0 (az_15 148 (by decide))
def RL122 : List (List (Option Nat)) := qls2 RL121 127 25 (some 148)
theorem zl_122 : RL122.length ≤ 128 := qls2_len (by decide) (Nat.le_trans zl_121 (by decide))
theorem nu_121 : am_upR (qdR RL121) 127 25 (some 148) = qdR RL122 := upR_dR
theorem rz_122_149 : am_rowR (qdR RL122) 149 (fun _ => none) = qdR RL122 := rowR0 (Nat.le_trans zl_122 (by decide))
theorem ra_15_149 {xs : Nat → Int32} : am_row (AS15 xs) 149 (fun _ => 0) = AS15 xs := row0 (az_15 149 (by decide))
def RL123 : List (List (Option Nat)) := qls2 RL122 127 27 (some 149)
theorem zl_123 : RL123.length ≤ 128 := qls2_len (by decide) (Nat.le_trans zl_122 (by decide))
theorem nu_122 : am_upR (qdR RL122) 127 27 (some 149) = qdR RL123 := upR_dR
theorem rz_123_150 : am_rowR (qdR RL123) 150 (fun _ => none) = qdR RL123 := rowR0 (Nat.le_trans zl_123 (by decide))
theorem ra_15_150 {xs : Nat → Int32} : am_row (AS15 xs) 150 (fun _ => 0) = AS15 xs := row0 (az_15 150 (by decide))
def RL124 : List (List (Option Nat)) := qls2 RL123 127 32 (some 150)
theorem zl_124 : RL124.length ≤ 128 := qls2_len (by decide) (Nat.le_trans zl_123 (by decide))
theorem nu_123 : am_upR (qdR RL123) 127 32 (some 150) = qdR RL124 := upR_dR
theorem rz_124_151 : am_rowR (qdR RL124) 151 (fun _ => none) = qdR RL124 := rowR0 (Nat.le_trans zl_124 (by decide))
theorem ra_15_151 {xs : Nat → Int32} : am_row (AS15 xs) 151 (fun _ => 0) = AS15 xs := row0 (az_15 151 (by decide))
def RL125 : List (List (Option Nat)) := qls2 RL124 127 33 (some 151)
theorem zl_125 : RL125.length ≤ 128 := qls2_len (by decide) (Nat.le_trans zl_124 (by decide))
theorem nu_124 : am_upR (qdR RL124) 127 33 (some 151) = qdR RL125 := upR_dR
theorem rz_125_152 : am_rowR (qdR RL125) 152 (fun _ => none) = qdR RL125 := rowR0 (Nat.le_trans zl_125 (by decide))
theorem ra_15_152 {xs : Nat → Int32} : am_row (AS15 xs) 152 (fun _ => 0) = AS15 xs := row0 (az_15 152 (by decide))
def RL126 : List (List (Option Nat)) := qls2 RL125 127 34 (some 152)
theorem zl_126 : RL126.length ≤ 128 := qls2_len (by decide) (Nat.le_trans zl_125 (by decide))
theorem nu_125 : am_upR (qdR RL125) 127 34 (some 152) = qdR RL126 := upR_dR
theorem rz_126_153 : am_rowR (qdR RL126) 153 (fun _ => none) = qdR RL126 := rowR0 (Nat.le_trans zl_126 (by decide))
theorem ra_15_153 {xs : Nat → Int32} : am_row (AS15 xs) 153 (fun _ => 0) = AS15 xs := row0 (az_15 153 (by decide))
def RL127 : List (List (Option Nat)) := qls2 RL126 127 37 (some 153)
theorem zl_127 : RL127.length ≤ 128 := qls2_len (by decide) (Nat.le_trans zl_126 (by decide))
theorem nu_126 : am_upR (qdR RL126) 127 37 (some 153) = qdR RL127 := upR_dR
theorem rz_127_154 : am_rowR (qdR RL127) 154 (fun _ => none) = qdR RL127 := rowR0 (Nat.le_trans zl_127 (by decide))
theorem ra_15_154 {xs : Nat → Int32} : am_row (AS15 xs) 154 (fun _ => 0) = AS15 xs := row0 (az_15 154 (by decide))
def RL128 : List (List (Option Nat)) := qls2 RL127 127 39 (some 154)
theorem zl_128 : RL128.length ≤ 128 := qls2_len (by decide) (Nat.le_trans zl_127 (by decide))
theorem nu_127 : am_upR (qdR RL127) 127 39 (some 154) = qdR RL128 := upR_dR
theorem rz_128_155 : am_rowR (qdR RL128) 155 (fun _ => none) = qdR RL128 := rowR0 (Nat.le_trans zl_128 (by decide))
theorem ra_15_155 {xs : Nat → Int32} : am_row (AS15 xs) 155 (fun _ => 0) = AS15 xs := row0 (az_15 155 (by decide))
def RL129 : List (List (Option Nat)) := qls2 RL128 127 42 (some 155)
theorem zl_129 : RL129.length ≤ 128 := qls2_len (by decide) (Nat.le_trans zl_128 (by decide))
theorem nu_128 : am_upR (qdR RL128) 127 42 (some 155) = qdR RL129 := upR_dR
theorem rz_129_156 : am_rowR (qdR RL129) 156 (fun _ => none) = qdR RL129 := rowR0 (Nat.le_trans zl_129 (by decide))
theorem ra_15_156 {xs : Nat → Int32} : am_row (AS15 xs) 156 (fun _ => 0) = AS15 xs := row0 (az_15 156 (by decide))
def RL130 : List (List (Option Nat)) := qls2 RL129 127 43 (some 156)
theorem zl_130 : RL130.length ≤ 128 := qls2_len (by decide) (Nat.le_trans zl_129 (by decide))
theorem nu_129 : am_upR (qdR RL129) 127 43 (some 156) = qdR RL130 := upR_dR
theorem rz_130_157 : am_rowR (qdR RL130) 157 (fun _ => none) = qdR RL130 := rowR0 (Nat.le_trans zl_130 (by decide))
theorem ra_15_157 {xs : Nat → Int32} : am_row (AS15 xs) 157 (fun _ => 0) = AS15 xs := row0 (az_15 157 (by decide))
def RL131 : List (List (Option Nat)) := qls2 RL130 127 44 (some 157)
theorem zl_131 : RL131.length ≤ 128 := qls2_len (by decide) (Nat.le_trans zl_130 (by decide))
theorem nu_130 : am_upR (qdR RL130) 127 44 (some 157) = qdR RL131 := upR_dR
theorem rz_131_158 : am_rowR (qdR RL131) 158 (fun _ => none) = qdR RL131 := rowR0 (Nat.le_trans zl_131 (by decide))
theorem ra_15_158 {xs : Nat → Int32} : am_row (AS15 xs) 158 (fun _ => 0) = AS15 xs := row0 (az_15 158 (by decide))
def RL132 : List (List (Option Nat)) := qls2 RL131 127 45 (some 158)
theorem zl_132 : RL132.length ≤ 128 := qls2_len (by decide) (Nat.le_trans zl_131 (by decide))
theorem nu_131 : am_upR (qdR RL131) 127 45 (some 158) = qdR RL132 := upR_dR
theorem rz_132_159 : am_rowR (qdR RL132) 159 (fun _ => none) = qdR RL132 := rowR0 (Nat.le_trans zl_132 (by decide))
theorem ra_15_159 {xs : Nat → Int32} : am_row (AS15 xs) 159 (fun _ => 0) = AS15 xs := row0 (az_15 159 (by decide))
def RL133 : List (List (Option Nat)) := qls2 RL132 127 46 (some 159)
theorem zl_133 : RL133.length ≤ 128 := qls2_len (by decide) (Nat.le_trans zl_132 (by decide))
theorem nu_132 : am_upR (qdR RL132) 127 46 (some 159) = qdR RL133 := upR_dR
theorem rz_133_160 : am_rowR (qdR RL133) 160 (fun _ => none) = qdR RL133 := rowR0 (Nat.le_trans zl_133 (by decide))
theorem ra_15_160 {xs : Nat → Int32} : am_row (AS15 xs) 160 (fun _ => 0) = AS15 xs := row0 (az_15 160 (by decide))
def RL134 : List (List (Option Nat)) := qls2 RL133 127 47 (some 160)
theorem zl_134 : RL134.length ≤ 128 := qls2_len (by decide) (Nat.le_trans zl_133 (by decide))
theorem nu_133 : am_upR (qdR RL133) 127 47 (some 160) = qdR RL134 := upR_dR
theorem rz_134_161 : am_rowR (qdR RL134) 161 (fun _ => none) = qdR RL134 := rowR0 (Nat.le_trans zl_134 (by decide))
theorem ra_15_161 {xs : Nat → Int32} : am_row (AS15 xs) 161 (fun _ => 0) = AS15 xs := row0 (az_15 161 (by decide))
def RL135 : List (List (Option Nat)) := qls2 RL134 127 48 (some 161)
theorem zl_135 : RL135.length ≤ 128 := qls2_len (by decide) (Nat.le_trans zl_134 (by decide))
theorem nu_134 : am_upR (qdR RL134) 127 48 (some 161) = qdR RL135 := upR_dR
theorem rz_135_162 : am_rowR (qdR RL135) 162 (fun _ => none) = qdR RL135 := rowR0 (Nat.le_trans zl_135 (by decide))
theorem ra_15_162 {xs : Nat → Int32} : am_row (AS15 xs) 162 (fun _ => 0) = AS15 xs := row0 (az_15 162 (by decide))
def RL136 : List (List (Option Nat)) := qls2 RL135 127 49 (some 162)
theorem zl_136 : RL136.length ≤ 128 := qls2_len (by decide) (Nat.le_trans zl_135 (by decide))
theorem nu_135 : am_upR (qdR RL135) 127 49 (some 162) = qdR RL136 := upR_dR
theorem rg_136_127_46 : qdR RL136 127 46 = some 159 := by decide +kernel
def AS16 (xs : Nat → Int32) : Nat → Nat → Int32 := am_up (AS15 xs) 159 0 (-1)
theorem az_16 {xs : Nat → Int32} : ∀ q, 160 ≤ q → AS16 xs q = fun _ => 0 := fun q h => am_up_z (n := 160) (fun q h => az_15 q (by omega)) (by decide) h
theorem na_15 {xs : Nat → Int32} : am_up (AS15 xs) 159 0 (-1) = AS16 xs := rfl
def AS17 (xs : Nat → Int32) : Nat → Nat → Int32 := am_up (AS16 xs) 159 1 (-1)
theorem az_17 {xs : Nat → Int32} : ∀ q, 160 ≤ q → AS17 xs q = fun _ => 0 := fun q h => am_up_z (n := 160) (fun q h => az_16 q (by omega)) (by decide) h
theorem na_16 {xs : Nat → Int32} : am_up (AS16 xs) 159 1 (-1) = AS17 xs := rfl
def AS18 (xs : Nat → Int32) : Nat → Nat → Int32 := am_up (AS17 xs) 159 2 (-1)
theorem az_18 {xs : Nat → Int32} : ∀ q, 160 ≤ q → AS18 xs q = fun _ => 0 := fun q h => am_up_z (n := 160) (fun q h => az_17 q (by omega)) (by decide) h
theorem na_17 {xs : Nat → Int32} : am_up (AS17 xs) 159 2 (-1) = AS18 xs := rfl
def AS19 (xs : Nat → Int32) : Nat → Nat → Int32 := am_up (AS18 xs) 159 3 (-1)
theorem az_19 {xs : Nat → Int32} : ∀ q, 160 ≤ q → AS19 xs q = fun _ => 0 := fun q h => am_up_z (n := 160) (fun q h => az_18 q (by omega)) (by decide) h
theorem na_18 {xs : Nat → Int32} : am_up (AS18 xs) 159 3 (-1) = AS19 xs := rfl
theorem rg_136_127_11 : qdR RL136 127 11 = some 136 := by decide +kernel
def AS20 (xs : Nat → Int32) : Nat → Nat → Int32 := am_up (AS19 xs) 136 0 5
theorem az_20 {xs : Nat → Int32} : ∀ q, 160 ≤ q → AS20 xs q = fun _ => 0 := fun q h => am_up_z (n := 160) (fun q h => az_19 q (by omega)) (by decide) h
theorem na_19 {xs : Nat → Int32} : am_up (AS19 xs) 136 0 5 = AS20 xs := rfl
def AS21 (xs : Nat → Int32) : Nat → Nat → Int32 := am_up (AS20 xs) 136 1 5
theorem az_21 {xs : Nat → Int32} : ∀ q, 160 ≤ q → AS21 xs q = fun _ => 0 := fun q h => am_up_z (n := 160) (fun q h => az_20 q (by omega)) (by decide) h
theorem na_20 {xs : Nat → Int32} : am_up (AS20 xs) 136 1 5 = AS21 xs := rfl
def AS22 (xs : Nat → Int32) : Nat → Nat → Int32 := am_up (AS21 xs) 136 2 5
theorem az_22 {xs : Nat → Int32} : ∀ q, 160 ≤ q → AS22 xs q = fun _ => 0 := fun q h => am_up_z (n := 160) (fun q h => az_21 q (by omega)) (by decide) h
theorem na_21 {xs : Nat → Int32} : am_up (AS21 xs) 136 2 5 = AS22 xs := rfl
def AS23 (xs : Nat → Int32) : Nat → Nat → Int32 := am_up (AS22 xs) 136 3 5
theorem az_23 {xs : Nat → Int32} : ∀ q, 160 ≤ q → AS23 xs q = fun _ => 0 := fun q h => am_up_z (n := 160) (fun q h => az_22 q (by omega)) (by decide) h
theorem na_22 {xs : Nat → Int32} : am_up (AS22 xs) 136 3 5 = AS23 xs := rfl
def AS24 (xs : Nat → Int32) : Nat → Nat → Int32 := am_up (AS23 xs) 136 4 5
theorem az_24 {xs : Nat → Int32} : ∀ q, 160 ≤ q → AS24 xs q = fun _ => 0 := fun q h => am_up_z (n := 160) (fun q h => az_23 q (by omega)) (by decide) h
theorem na_23 {xs : Nat → Int32} : am_up (AS23 xs) 136 4 5 = AS24 xs := rfl
def AS25 (xs : Nat → Int32) : Nat → Nat → Int32 := am_up (AS24 xs) 136 5 5
theorem az_25 {xs : Nat → Int32} : ∀ q, 160 ≤ q → AS25 xs q = fun _ => 0 := fun q h => am_up_z (n := 160) (fun q h => az_24 q (by omega)) (by decide) h
theorem na_24 {xs : Nat → Int32} : am_up (AS24 xs) 136 5 5 = AS25 xs := rfl
def AS26 (xs : Nat → Int32) : Nat → Nat → Int32 := am_up (AS25 xs) 136 6 5
theorem az_26 {xs : Nat → Int32} : ∀ q, 160 ≤ q → AS26 xs q = fun _ => 0 := fun q h => am_up_z (n := 160) (fun q h => az_25 q (by omega)) (by decide) h
theorem na_25 {xs : Nat → Int32} : am_up (AS25 xs) 136 6 5 = AS26 xs := rfl
def AS27 (xs : Nat → Int32) : Nat → Nat → Int32 := am_up (AS26 xs) 136 7 5
theorem az_27 {xs : Nat → Int32} : ∀ q, 160 ≤ q → AS27 xs q = fun _ => 0 := fun q h => am_up_z (n := 160) (fun q h => az_26 q (by omega)) (by decide) h
theorem na_26 {xs : Nat → Int32} : am_up (AS26 xs) 136 7 5 = AS27 xs := rfl
def AS28 (xs : Nat → Int32) : Nat → Nat → Int32 := am_up (AS27 xs) 136 8 5
theorem az_28 {xs : Nat → Int32} : ∀ q, 160 ≤ q → AS28 xs q = fun _ => 0 := fun q h => am_up_z (n := 160) (fun q h => az_27 q (by omega)) (by decide) h
theorem na_27 {xs : Nat → Int32} : am_up (AS27 xs) 136 8 5 = AS28 xs := rfl
def AS29 (xs : Nat → Int32) : Nat → Nat → Int32 := am_up (AS28 xs) 136 9 5
theorem az_29 {xs : Nat → Int32} : ∀ q, 160 ≤ q → AS29 xs q = fun _ => 0 := fun q h => am_up_z (n := 160) (fun q h => az_28 q (by omega)) (by decide) h
theorem na_28 {xs : Nat → Int32} : am_up (AS28 xs) 136 9 5 = AS29 xs := rfl
set_option maxRecDepth 100000 in
set_option maxHeartbeats 4000000 in
theorem ci_29 {L d : Nat} {xs : Nat → Int32} {Q : Option Value → am_H → Prop} : CALL d 121 [.ref (127 : Nat)] (List.take 128 (CT L), AS15 xs, qdR RL101) Q = Q none (List.take 163 (CT L), AS29 xs, qdR RL136) := by
  rw [en_X11_init]
  simp (disch := (first | exact (show _ from rfl) | exact Nat.le_of_ble_eq_true rfl | exact nwl rfl | exact inb_of 10 rfl rfl | exact inb_of 8 rfl rfl | exact inb_of 4 rfl rfl)) only [st_X11_init_0, st_X11_init_1, st_X11_init_4, st_X11_init_5, st_X11_init_7, st_X11_init_9, st_X11_init_12, st_X11_init_13, st_X11_init_15, st_X11_init_17, st_X11_init_20, st_X11_init_21, st_X11_init_23, st_X11_init_25, st_X11_init_28, st_X11_init_29, st_X11_init_31, st_X11_init_33, st_X11_init_36, st_X11_init_37, st_X11_init_39, st_X11_init_41, st_X11_init_44, st_X11_init_45, st_X11_init_47, st_X11_init_49, st_X11_init_52, st_X11_init_53, st_X11_init_55, st_X11_init_57, st_X11_init_60, st_X11_init_61, st_X11_init_63, st_X11_init_65, st_X11_init_68, st_X11_init_69, st_X11_init_71, st_X11_init_73, st_X11_init_76, st_X11_init_77, st_X11_init_80, st_X11_init_82, st_X11_init_85, st_X11_init_86, st_X11_init_89, st_X11_init_91, st_X11_init_94, st_X11_init_95, st_X11_init_98, st_X11_init_100, st_X11_init_103, st_X11_init_104, st_X11_init_107, st_X11_init_109, st_X11_init_112, st_X11_init_113, st_X11_init_116, st_X11_init_118, st_X11_init_121, st_X11_init_122, st_X11_init_124, st_X11_init_126, st_X11_init_129, st_X11_init_130, st_X11_init_132, st_X11_init_134, st_X11_init_137, st_X11_init_138, st_X11_init_140, st_X11_init_142, st_X11_init_145, st_X11_init_146, st_X11_init_149, st_X11_init_151, st_X11_init_154, st_X11_init_155, st_X11_init_157, st_X11_init_159, st_X11_init_162, st_X11_init_163, st_X11_init_165, st_X11_init_167, st_X11_init_170, st_X11_init_171, st_X11_init_173, st_X11_init_175, st_X11_init_178, st_X11_init_179, st_X11_init_181, st_X11_init_183, st_X11_init_186, st_X11_init_187, st_X11_init_189, st_X11_init_191, st_X11_init_194, st_X11_init_195, st_X11_init_197, st_X11_init_199, st_X11_init_202, st_X11_init_203, st_X11_init_205, st_X11_init_207, st_X11_init_210, st_X11_init_211, st_X11_init_213, st_X11_init_215, st_X11_init_218, st_X11_init_219, st_X11_init_221, st_X11_init_223, st_X11_init_226, st_X11_init_227, st_X11_init_229, st_X11_init_231, st_X11_init_234, st_X11_init_235, st_X11_init_237, st_X11_init_239, st_X11_init_242, st_X11_init_243, st_X11_init_245, st_X11_init_247, st_X11_init_250, st_X11_init_251, st_X11_init_253, st_X11_init_255, st_X11_init_258, st_X11_init_259, st_X11_init_260, st_X11_init_262, st_X11_init_265, st_X11_init_266, st_X11_init_267, st_X11_init_269, st_X11_init_272, st_X11_init_273, st_X11_init_276, st_X11_init_278, st_X11_init_281, st_X11_init_282, st_X11_init_284, st_X11_init_286, st_X11_init_289, st_X11_init_290, st_X11_init_291, st_X11_init_292, st_X11_init_293, st_X11_init_296, st_X11_init_297, st_X11_init_300, st_X11_init_301, st_X11_init_302, st_X11_init_303, st_X11_init_306, st_X11_init_309, st_X11_init_310, st_X11_init_311, st_X11_init_312, st_X11_init_314, st_X11_init_317, st_X11_init_318, st_X11_init_321, st_X11_init_322, st_X11_init_323, st_X11_init_324, st_X11_init_327, st_X11_init_330, Option.toList_some, Option.toList_none, List.cons_append, List.nil_append, Option.getD_some, am_nlI, am_nlR, am_nlN, bi_eq0, if_true, if_false, bf_tf, bf_ft, tkl, tka, Nat.reduceAdd, ↓reduceIte, rz_101_128, ra_15_128, nu_101, rz_102_129, ra_15_129, nu_102, rz_103_130, ra_15_130, nu_103, rz_104_131, ra_15_131, nu_104, rz_105_132, ra_15_132, nu_105, rz_106_133, ra_15_133, nu_106, rz_107_134, ra_15_134, nu_107, rz_108_135, ra_15_135, nu_108, rz_109_136, ra_15_136, nu_109, rz_110_137, ra_15_137, nu_110, rz_111_138, ra_15_138, nu_111, rz_112_139, ra_15_139, nu_112, rz_113_140, ra_15_140, nu_113, rz_114_141, ra_15_141, nu_114, rz_115_142, ra_15_142, nu_115, rz_116_143, ra_15_143, nu_116, rz_117_144, ra_15_144, nu_117, rz_118_145, ra_15_145, nu_118, rz_119_146, ra_15_146, nu_119, rz_120_147, ra_15_147, nu_120, rz_121_148, ra_15_148, nu_121, rz_122_149, ra_15_149, nu_122, rz_123_150, ra_15_150, nu_123, rz_124_151, ra_15_151, nu_124, rz_125_152, ra_15_152, nu_125, rz_126_153, ra_15_153, nu_126, rz_127_154, ra_15_154, nu_127, rz_128_155, ra_15_155, nu_128, rz_129_156, ra_15_156, nu_129, rz_130_157, ra_15_157, nu_130, rz_131_158, ra_15_158, nu_131, rz_132_159, ra_15_159, nu_132, rz_133_160, ra_15_160, nu_133, rz_134_161, ra_15_161, nu_134, rz_135_162, ra_15_162, nu_135, rg_136_127_46, na_15, na_16, na_17, na_18, rg_136_127_11, na_19, na_20, na_21, na_22, na_23, na_24, na_25, na_26, na_27, na_28, tn_0, ia_0, tn_1, ia_1, tn_2, ia_2, tn_3, ia_3, tn_4, ia_4, tn_5, ia_5, tn_6, ia_6, tn_7, ia_7, tn_8, ia_8, tn_9, ia_9, tn_10, ia_10, il_0_4_lt, il_1_4_lt, il_2_4_lt, il_3_4_lt, il_4_4_lt, il_0_8_lt, il_1_8_lt, il_2_8_lt, il_3_8_lt, il_4_8_lt, il_5_8_lt, il_6_8_lt, il_7_8_lt, il_8_8_lt, il_0_10_lt, il_1_10_lt, il_2_10_lt, il_3_10_lt, il_4_10_lt, il_5_10_lt, il_6_10_lt, il_7_10_lt, il_8_10_lt, il_9_10_lt, il_10_10_lt, Option.isSome_some]
-- law: rz_0_12, ra_0_12, ci_28, rz_101_127, ra_15_127, ci_29
