/-! copy of the class -/
section CPY
variable {d L c e l1 l2 j1 j2 n : Nat} {b : Bool} {a : Nat → Nat → Int32} {Q : Option Value → am_H → Prop} {i j x u v : Int32}
theorem spn_nI {j k l : Nat} (hj : j < 2 ^ 31) (h : j + k ≤ l) : spnI (nI j) k l = true := by
  unfold spnI
  rw [nI_toInt hj]
  exact decide_eq_true (by omega)
set_option maxRecDepth 100000 in
theorem sp_copy (hc : c < 4) (he : e < 4) (hl1 : a (119 + 2 * c) 2 = nI l1) (hl2 : a (119 + 2 * e) 2 = nI l2) (h1 : l1 ≤ 32) (h2 : l2 ≤ 32) (m1 : ¬ a (119 + 2 * c) 1 = -1) (m2 : ¬ a (119 + 2 * e) 1 = -1) (hq : a (119 + 2 * c) 1 = a (119 + 2 * e) 1) (g1 : j1 + n ≤ l1) (g2 : j2 + n ≤ l2) : CALL (d + 3) 107 [.ref (12 : Nat), .int (nI c), .int (nI j1), .int (nI e), .int (nI j2), .int (nI n)] (CT L, a, RR b) Q = Q (some (.int (nI n))) (CT L, am_row a (120 + 2 * e) (va_cpy (a (120 + 2 * c)) (a (120 + 2 * e)) j1 j2 n), RR b) := by
  obtain ⟨s1, s2, s3, s4, s5, s6, s7, s8, s9⟩ := SH (L := L) (b := b) hc
  obtain ⟨t1, t2, t3, t4, t5, t6, t7, t8, t9⟩ := SH (L := L) (b := b) he
  have hs : win (nI c) 3 = true := win_nI (n := 3) (by omega) (by decide)
  have ht : win (nI e) 3 = true := win_nI (n := 3) (by omega) (by decide)
  have d1 : decide (a (119 + 2 * c) 1 = -1) = false := decide_eq_false m1
  have d2 : decide (a (119 + 2 * e) 1 = -1) = false := decide_eq_false m2
  have k1 : n < 1000 := by omega
  have k2 : l1 < 1000 := by omega
  have k3 : l2 < 1000 := by omega
  have p1 : spnI (nI j1) n l1 = true := spn_nI (by omega) g1
  have p2 : spnI (nI j2) n l2 = true := spn_nI (by omega) g2
  have n0 : ¬ nI n < 0 := nI_pos (by omega)
  have c1 : (nI j1).toNatClampNeg = j1 := nI_clamp (by omega)
  have c2 : (nI j2).toNatClampNeg = j2 := nI_clamp (by omega)
  have c3 : (nI n).toNatClampNeg = n := nI_clamp (by omega)
  have w1 : 12 ≤ 120 + 2 * c := by omega
  have w2 : 12 ≤ 120 + 2 * e := by omega
  have hb : ¬ (nI n < 0 ∨ nI j2 < 0 ∨ nI j1 < 0 ∨ am_len (CT L) (120 + 2 * c) < (nI j1).toNatClampNeg + (nI n).toNatClampNeg ∨ am_len (CT L) (120 + 2 * e) < (nI j2).toNatClampNeg + (nI n).toNatClampNeg) := by
    rw [s7, t7, c1, c2, c3]
    intro h
    rcases h with h | h | h | h | h
    · exact n0 h
    · exact nI_pos (n := j2) (by omega) h
    · exact nI_pos (n := j1) (by omega) h
    · omega
    · omega
  simp (disch := (first | assumption | exact tg_12 | exact tg_13 | exact tg_2 | exact tg_20 | exact tg_14 | exact tg_15 | exact tg_16 | exact tg_17 | exact tg_18 | exact tg_19 | exact tg_21 | exact tg_22 | exact tg_23 | exact tg_24 | exact tg_25 | exact tg_26 | exact tg_33 | exact tg_34 | exact tg_35 | exact tg_36 | exact tg_37 | exact tg_38 | exact tg_39 | exact tg_40 | exact tg_41 | exact tg_42 | exact tg_43 | exact tg_52 | exact tg_1 | exact tg_3 | exact (show _ from rfl) | exact Nat.le_of_ble_eq_true rfl | exact bi_01 _ | exact Or.inl rfl | exact Or.inr rfl | exact ib_2 (by first | assumption | omega) | exact ib_20 (by first | assumption | omega) | exact ib_14 (by first | assumption | omega) | exact ib_15 (by first | assumption | omega) | exact ib_16 (by first | assumption | omega) | exact ib_17 (by first | assumption | omega) | exact ib_18 (by first | assumption | omega) | exact ib_19 (by first | assumption | omega) | exact ib_21 (by first | assumption | omega) | exact ib_22 (by first | assumption | omega) | exact ib_23 (by first | assumption | omega) | exact ib_24 (by first | assumption | omega) | exact ib_25 (by first | assumption | omega) | exact ib_26 (by first | assumption | omega) | exact ib_34 (by first | assumption | omega) | exact ib_36 (by first | assumption | omega) | exact ib_37 (by first | assumption | omega) | exact ib_38 (by first | assumption | omega) | exact ib_40 (by first | assumption | omega) | exact ib_41 (by first | assumption | omega) | exact ib_43 (by first | assumption | omega) | exact ib_52 (by first | assumption | omega) | exact ib_1 (by first | assumption | omega) | exact ib_3 (by first | assumption | omega) | omega | decide | exact il_14_0 | exact il_14_1 | exact il_14_2 | exact il_14_3 | exact il_14_4 | exact il_21_0 | exact il_21_1 | exact il_21_2)) only [en_X10_copy, st_X10_copy_0, st_X10_copy_1, st_X10_copy_4, st_X10_copy_7, st_X10_copy_8, st_X10_copy_11, st_X10_copy_14, st_X10_copy_15, st_X10_copy_16, st_X10_copy_17, st_X10_copy_20, st_X10_copy_21, st_X10_copy_22, st_X10_copy_24, st_X10_copy_25, st_X10_copy_28, st_X10_copy_29, st_X10_copy_30, st_X10_copy_32, st_X10_copy_34, st_X10_copy_37, st_X10_copy_40, st_X10_copy_42, st_X10_copy_45, st_X10_copy_48, st_X10_copy_50, st_X10_copy_51, st_X10_copy_53, st_X10_copy_56, st_X10_copy_58, st_X10_copy_61, st_X10_copy_64, st_X10_copy_66, st_X10_copy_67, st_X10_copy_69, st_X10_copy_72, st_X10_copy_74, st_X10_copy_75, st_X10_copy_77, st_X10_copy_80, st_X10_copy_83, st_X10_copy_85, st_X10_copy_87, st_X10_copy_89, st_X10_copy_92, st_X10_copy_95, st_X10_copy_97, st_X10_copy_98, st_X10_copy_100, st_X10_copy_103, st_X10_copy_104, st_X10_copy_106, st_X10_copy_109, st_X10_copy_111, st_X10_copy_113, st_X10_copy_116, st_X10_copy_118, rr_12_0, rr_12_1, rr_12_2, rr_12_3, rr_12_4, rr_12_5, rr_12_6, rr_12_7, rr_12_8, rr_12_9, rr_13_0, rr_13_1, rr_13_3, rr_13_4, rr_14_0, rr_14_1, rr_14_2, rr_14_3, rr_14_4, rr_21_0, rr_21_1, rr_21_2, rr_33_1, rr_35_0, rr_35_1, rr_35_3, rr_39_2, rr_39_3, rr_42_0, tc_0, tc_1, tc_2, tc_3, tc_4, tc_5, tc_6, tc_7, tc_8, tc_9, sp_isSheet, hs, ht, s9, s2, s3, t9, t2, t3, sp_isMissing hc, sp_isMissing he, d1, d2, if_pos hq, if_neg n0, sp_spans hc hl1 k1 k2, sp_spans he hl2 k1 k3, p1, p2, c1, c2, c3, Option.toList_some, Option.toList_none, List.cons_append, List.nil_append, Option.getD_some, am_nlI, am_nlR, am_nlN, bi_eq0, if_true, if_false, bf_tf, bf_ft]
end CPY
