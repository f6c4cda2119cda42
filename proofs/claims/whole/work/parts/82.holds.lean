/-! the class: does a clause hold -/
theorem wh_1 : ∀ W, W < 8192 → nI W &&& 1 = nI (W % 2) := fun W h => pk_andN (by omega) (m := 1) 1 (by decide)
theorem wh_r {W : Nat} (h : W < 8192) : nI W >>> ((1 : Int32) &&& 31) = nI (W / 2) := pk_shrN (by omega) _ 1 (by decide)
theorem wh_l {W : Nat} (h : W < 8192) : nI W <<< ((1 : Int32) &&& 31) = nI (W * 2) := pk_shlN _ 1 (by decide) (by omega)
theorem x_or1 (U : Nat) : U ||| 1 = U / 2 * 2 + 1 := by
  apply Nat.eq_of_testBit_eq
  intro i
  cases i with
  | zero =>
    rw [Nat.testBit_or, Nat.testBit_zero, Nat.testBit_zero, Nat.testBit_zero, decide_eq_true (show 1 % 2 = 1 by decide), Bool.or_true, decide_eq_true (by omega)]
  | succ i =>
    rw [Nat.testBit_or, Nat.testBit_succ, Nat.testBit_succ, Nat.testBit_succ, show (U / 2 * 2 + 1) / 2 = U / 2 by omega, show 1 / 2 = 0 by decide, Nat.zero_testBit, Bool.or_false]
theorem x_xor1 (U : Nat) : U ^^^ 1 = if U % 2 = 1 then U - 1 else U + 1 := by
  apply Nat.eq_of_testBit_eq
  intro i
  cases i with
  | zero =>
    rw [Nat.testBit_xor, Nat.testBit_zero, Nat.testBit_zero, Nat.testBit_zero, decide_eq_true (show 1 % 2 = 1 by decide)]
    by_cases c : U % 2 = 1
    · rw [if_pos c, decide_eq_true c, decide_eq_false (by omega)]; rfl
    · rw [if_neg c, decide_eq_false c, decide_eq_true (by omega)]; rfl
  | succ i =>
    rw [Nat.testBit_xor, Nat.testBit_succ, Nat.testBit_succ, Nat.testBit_succ, show (if U % 2 = 1 then U - 1 else U + 1) / 2 = U / 2 by split <;> omega, show 1 / 2 = 0 by decide, Nat.zero_testBit, Bool.xor_false]
theorem x_and2 (U : Nat) (h : U < 8192) : U &&& 4294967294 = U / 2 * 2 := by
  apply Nat.eq_of_testBit_eq
  intro i
  cases i with
  | zero =>
    rw [Nat.testBit_and, Nat.testBit_zero, Nat.testBit_zero, Nat.testBit_zero, decide_eq_false (show ¬ 4294967294 % 2 = 1 by decide), Bool.and_false, decide_eq_false (by omega)]
  | succ i =>
    rw [Nat.testBit_and, Nat.testBit_succ, Nat.testBit_succ, Nat.testBit_succ, show U / 2 * 2 / 2 = U / 2 by omega, show 4294967294 / 2 = 2 ^ 31 - 1 by decide, Nat.testBit_two_pow_sub_one]
    by_cases c : i < 31
    · rw [decide_eq_true c, Bool.and_true]
    · rw [decide_eq_false c, Bool.and_false]
      exact (Nat.testBit_lt_two_pow (Nat.lt_of_lt_of_le (show U / 2 < 2 ^ 31 by omega) (Nat.pow_le_pow_right (n := 2) (by decide) (by omega)))).symm
theorem nI_xor (a b : Nat) : nI a ^^^ nI b = nI (a ^^^ b) := by
  apply Int32.toBitVec_inj.1
  show BitVec.ofNat 32 a ^^^ BitVec.ofNat 32 b = BitVec.ofNat 32 (a ^^^ b)
  exact BitVec.ofNat_xor.symm
theorem wh_n : ∀ W, W < 8192 → nI W ^^^ 1 = nI (if W % 2 = 1 then W - 1 else W + 1) := fun W _ => by
  rw [show (1 : Int32) = nI 1 from rfl, nI_xor, x_xor1]
theorem wh_b : ∀ U, U < 4096 → nI U &&& ((1 : Int32) ||| -2) = nI U ∧ nI U &&& ((0 : Int32) ||| -2) = nI (U / 2 * 2) ∧ nI U ||| 1 = nI (U / 2 * 2 + 1) ∧ nI U ||| 0 = nI U := fun U h => by
  refine ⟨?_, ?_, ?_, Int32.or_zero⟩
  · rw [show ((1 : Int32) ||| -2) = -1 by decide]
    exact Int32.and_neg_one
  · rw [show ((0 : Int32) ||| -2) = nI 4294967294 by decide, nI_and, x_and2 U (by omega)]
  · rw [show (1 : Int32) = nI 1 from rfl, nI_or, x_or1]
theorem wh_p : ∀ U, U < 8192 → nI (U * 2) ||| 1 = nI (2 * U + 1) ∧ nI (U * 2) ||| 0 = nI (2 * U + 0) := fun U _ => by
  refine ⟨?_, ?_⟩
  · rw [show (1 : Int32) = nI 1 from rfl, nI_or, x_or1, show U * 2 / 2 * 2 + 1 = 2 * U + 1 by omega]
  · rw [Int32.or_zero, show U * 2 = 2 * U + 0 by omega]
def CLS (l : List (List Int32 × (Int32 → Bool) × Nat × Nat)) : Prop := ∀ x, x ∈ l → EXB 13 x.1 x.2.1 ∧ x.2.2.1 < 3 ∧ x.2.2.2 ≤ 416
theorem pCl_cls {T : Nat → Nat} {n i : Nat} (hi : i ≤ n) (h : (pCl T n i).1 = true) : EXB 13 (pCl T n i).2.2.1 (pCl T n i).2.2.2.1 ∧ (pCl T n i).2.2.2.2.1 < 3 ∧ (pCl T n i).2.2.2.2.2 ≤ 416 := by
  have ff : ∀ {P : Prop}, false = true → P := fun h => absurd h Bool.false_ne_true
  unfold pCl at h ⊢
  by_cases c1 : (pT T n 5 i).1 = false
  · rw [if_pos c1] at h; exact ff h
  · rw [if_neg c1] at h ⊢
    have c1' : (pT T n 5 i).1 = true := by cases e : (pT T n 5 i).1 with
      | true => rfl
      | false => exact absurd e c1
    have hex := ex_T (T := T) (n := n) 5 i c1'
    have hgd := good_T (T := T) (n := n) 5 i hi
    by_cases c2 : tkp T n (pT T n 5 i).2.1 58 = false
    · rw [if_pos c2] at h; exact ff h
    · rw [if_neg c2] at h ⊢
      by_cases c3 : 3 ≤ acN (nxc T n (tkI T n (pT T n 5 i).2.1 58))
      · rw [if_pos c3] at h; exact ff h
      · rw [if_neg c3] at h ⊢
        by_cases c4 : tkp T n (skp T n (tkI T n (pT T n 5 i).2.1 58) + 1) 64 = false
        · rw [if_pos c4]; exact ⟨hex, by show acN _ < 3; omega, by show 0 ≤ 416; omega⟩
        · rw [if_neg c4] at h ⊢
          by_cases c5 : (pDay T n (tkI T n (skp T n (tkI T n (pT T n 5 i).2.1 58) + 1) 64)).1 = false
          · rw [if_pos c5] at h; exact ff h
          · rw [if_neg c5]
            have k2 := tkI_le (T := T) (n := n) (i := (pT T n 5 i).2.1) (c := 58) hgd.2.1
            have k3 : skp T n (tkI T n (pT T n 5 i).2.1 58) < n := nx_lt (fun h => c3 (by rw [h, acN_0]; decide))
            have k4 := tkI_le (T := T) (n := n) (i := skp T n (tkI T n (pT T n 5 i).2.1 58) + 1) (c := 64) k3
            exact ⟨hex, by show acN _ < 3; omega, (pDay_good k4).2.2⟩
theorem gsT_cls {T : Nat → Nat} {n : Nat} : ∀ k p l, p ≤ n → CLS l → CLS (gsT T n k p l).2.2
  | 0, p, l, _, h => h
  | k + 1, p, l, hp, h => by
    unfold gsT
    cases hc : tkp T n p 59 with
    | false => exact h
    | true =>
      rw [if_pos rfl]
      cases ho : (pCl T n (tkI T n p 59)).1 with
      | false => exact h
      | true =>
        rw [if_pos rfl]
        refine gsT_cls k _ _ (pCl_good (tkI_le hp)).2.1 (fun x hx => ?_)
        rw [List.mem_append] at hx
        rcases hx with hx | hx
        · exact h x hx
        · have : x = (pCl T n (tkI T n p 59)).2.2 := by simpa using hx
          rw [this]
          exact pCl_cls (tkI_le hp) ho
theorem pG_cls {T : Nat → Nat} {n : Nat} : CLS (pG T n).2.2 := by
  have h0 := skp_le (T := T) (n := n) (i := 0) (Nat.zero_le _)
  unfold pG
  by_cases c : skp T n 0 < n
  · rw [if_pos c]
    unfold pGs
    cases ho : (pCl T n (skp T n 0)).1 with
    | false => intro x hx; simp at hx
    | true =>
      rw [if_pos rfl]
      refine gsT_cls 5 _ _ (pCl_good h0).2.1 (fun x hx => ?_)
      have : x = (pCl T n (skp T n 0)).2.2 := by simpa using hx
      rw [this]
      exact pCl_cls h0 ho
  · rw [if_neg c]; intro x hx; simp at hx
theorem catL_take {l : List (List Int32 × (Int32 → Bool) × Nat × Nat)} {c : Nat} {x : List Int32 × (Int32 → Bool) × Nat × Nat} (h : l[c]? = some x) : catL (l.take (c + 1)) = catL (l.take c) ++ x.1 := by
  rw [List.take_add_one, h]
  exact catL_app
theorem catL_all {l : List (List Int32 × (Int32 → Bool) × Nat × Nat)} {c : Nat} : catL l = catL (l.take c) ++ catL (l.drop c) := by
  have : catL (l.take c ++ l.drop c) = catL (l.take c) ++ catL (l.drop c) := by
    unfold catL
    rw [List.map_append, List.flatten_append]
  rw [List.take_append_drop] at this
  exact this
section HLD
variable {d L G c : Nat} {b : Bool} {a : Nat → Nat → Int32} {Q : Option Value → am_H → Prop} {l : List (List Int32 × (Int32 → Bool) × Nat × Nat)} {x : List Int32 × (Int32 → Bool) × Nat × Nat} {v y : Int32}
theorem GLS_step (hL : GLS G a l) (hx : l[c]? = some x) {t : Nat} (ht : t < x.1.length) : a (G + 4) ((catL (l.take c)).length + t) = x.1.getD t 0 ∧ (catL (l.take c)).length + t < (catL l).length := by
  have e1 : catL l = catL (l.take c) ++ (x.1 ++ catL (l.drop (c + 1))) := by
    rw [catL_all (c := c + 1), catL_take hx, List.append_assoc]
  have hlen : (catL (l.take c)).length + t < (catL l).length := by
    rw [e1, List.length_append, List.length_append]
    omega
  refine ⟨?_, hlen⟩
  rw [hL.2.2.2 _ hlen, e1, getD_app, if_neg (by omega), Nat.add_sub_cancel_left, getD_app, if_pos ht]
set_option maxRecDepth 100000 in
theorem sp_compares {p r e : Nat} (hO : OLD a) (hp : p < 4) (hr : r < 3) (he : e < 10) : CALL (d + 1) 8 [.int (nI (100 * p + 10 * r + e)), .int v] (CT L, a, RR b) Q = Q (some (.int (bi (cmV p r e v)))) (CT L, a, RR b) := by
  obtain ⟨d1, d2, d3, d4⟩ := cd_dec p hp r hr e he
  have q1 : nI (100 * p + 10 * r + e) / 100 = nI p := by
    have := pk_div (a := 100 * p + 10 * r + e) (d := 100) (by omega) (by decide) (by decide)
    rw [d1] at this
    exact this
  have q2 : nI (100 * p + 10 * r + e) / 10 = nI ((100 * p + 10 * r + e) / 10) := pk_div (d := 10) (by omega) (by decide) (by decide)
  have q3 : nI ((100 * p + 10 * r + e) / 10) - nI ((100 * p + 10 * r + e) / 10) / 10 * 10 = nI r := by
    have := pk_rem (a := (100 * p + 10 * r + e) / 10) (d := 10) (by omega) (by decide) (by decide)
    rw [d2] at this
    exact this
  have q4 : nI (100 * p + 10 * r + e) - nI ((100 * p + 10 * r + e) / 10) * 10 = nI e := by
    have := pk_rem (a := 100 * p + 10 * r + e) (d := 10) (by omega) (by decide) (by decide)
    rw [d3] at this
    rw [← q2]
    exact this
  have n10 : ¬ (10 : Int32) = 0 := by decide
  have n100 : ¬ (100 : Int32) = 0 := by decide
  generalize 100 * p + 10 * r + e = cd at *
  unfold cmV
  by_cases c0 : r = 0
  · have c0' : nI r = 0 := by rw [c0]; rfl
    rw [if_pos c0]
    by_cases c1 : dg v p = nI e
    · rw [decide_eq_true c1]
      simp (disch := (first | assumption | exact tg_12 | exact tg_13 | exact tg_2 | exact tg_20 | exact tg_14 | exact tg_15 | exact tg_16 | exact tg_17 | exact tg_18 | exact tg_19 | exact tg_21 | exact tg_22 | exact tg_23 | exact tg_24 | exact tg_25 | exact tg_26 | exact tg_33 | exact tg_34 | exact tg_35 | exact tg_36 | exact tg_37 | exact tg_38 | exact tg_39 | exact tg_40 | exact tg_41 | exact tg_42 | exact tg_43 | exact tg_52 | exact tg_1 | exact tg_3 | exact (show _ from rfl) | exact Nat.le_of_ble_eq_true rfl | exact bi_01 _ | exact Or.inl rfl | exact Or.inr rfl | exact ib_2 (by first | assumption | omega) | exact ib_20 (by first | assumption | omega) | exact ib_14 (by first | assumption | omega) | exact ib_15 (by first | assumption | omega) | exact ib_16 (by first | assumption | omega) | exact ib_17 (by first | assumption | omega) | exact ib_18 (by first | assumption | omega) | exact ib_19 (by first | assumption | omega) | exact ib_21 (by first | assumption | omega) | exact ib_22 (by first | assumption | omega) | exact ib_23 (by first | assumption | omega) | exact ib_24 (by first | assumption | omega) | exact ib_25 (by first | assumption | omega) | exact ib_26 (by first | assumption | omega) | exact ib_34 (by first | assumption | omega) | exact ib_36 (by first | assumption | omega) | exact ib_37 (by first | assumption | omega) | exact ib_38 (by first | assumption | omega) | exact ib_40 (by first | assumption | omega) | exact ib_41 (by first | assumption | omega) | exact ib_43 (by first | assumption | omega) | exact ib_52 (by first | assumption | omega) | exact ib_1 (by first | assumption | omega) | exact ib_3 (by first | assumption | omega) | omega | decide | exact il_14_0 | exact il_14_1 | exact il_14_2 | exact il_14_3 | exact il_14_4 | exact il_21_0 | exact il_21_1 | exact il_21_2)) only [en_X0_compares, st_X0_compares_0, st_X0_compares_1, st_X0_compares_2, st_X0_compares_4, st_X0_compares_5, st_X0_compares_8, st_X0_compares_9, st_X0_compares_10, st_X0_compares_12, st_X0_compares_13, st_X0_compares_15, st_X0_compares_16, st_X0_compares_17, st_X0_compares_18, st_X0_compares_20, st_X0_compares_21, st_X0_compares_23, st_X0_compares_24, st_X0_compares_27, st_X0_compares_28, st_X0_compares_30, st_X0_compares_33, st_X0_compares_34, st_X0_compares_37, st_X0_compares_38, st_X0_compares_39, st_X0_compares_40, st_X0_compares_41, st_X0_compares_44, st_X0_compares_45, st_X0_compares_47, st_X0_compares_50, st_X0_compares_51, st_X0_compares_54, st_X0_compares_55, st_X0_compares_58, st_X0_compares_59, st_X0_compares_61, st_X0_compares_64, st_X0_compares_65, st_X0_compares_68, st_X0_compares_69, q1, sp_at hO hp, q2, q3, q4, if_pos c0', if_pos c1, bi_t, Option.toList_some, Option.toList_none, List.cons_append, List.nil_append, Option.getD_some, am_nlI, am_nlR, am_nlN, bi_eq0, if_true, if_false, bf_tf, bf_ft]
    · rw [decide_eq_false c1]
      simp (disch := (first | assumption | exact tg_12 | exact tg_13 | exact tg_2 | exact tg_20 | exact tg_14 | exact tg_15 | exact tg_16 | exact tg_17 | exact tg_18 | exact tg_19 | exact tg_21 | exact tg_22 | exact tg_23 | exact tg_24 | exact tg_25 | exact tg_26 | exact tg_33 | exact tg_34 | exact tg_35 | exact tg_36 | exact tg_37 | exact tg_38 | exact tg_39 | exact tg_40 | exact tg_41 | exact tg_42 | exact tg_43 | exact tg_52 | exact tg_1 | exact tg_3 | exact (show _ from rfl) | exact Nat.le_of_ble_eq_true rfl | exact bi_01 _ | exact Or.inl rfl | exact Or.inr rfl | exact ib_2 (by first | assumption | omega) | exact ib_20 (by first | assumption | omega) | exact ib_14 (by first | assumption | omega) | exact ib_15 (by first | assumption | omega) | exact ib_16 (by first | assumption | omega) | exact ib_17 (by first | assumption | omega) | exact ib_18 (by first | assumption | omega) | exact ib_19 (by first | assumption | omega) | exact ib_21 (by first | assumption | omega) | exact ib_22 (by first | assumption | omega) | exact ib_23 (by first | assumption | omega) | exact ib_24 (by first | assumption | omega) | exact ib_25 (by first | assumption | omega) | exact ib_26 (by first | assumption | omega) | exact ib_34 (by first | assumption | omega) | exact ib_36 (by first | assumption | omega) | exact ib_37 (by first | assumption | omega) | exact ib_38 (by first | assumption | omega) | exact ib_40 (by first | assumption | omega) | exact ib_41 (by first | assumption | omega) | exact ib_43 (by first | assumption | omega) | exact ib_52 (by first | assumption | omega) | exact ib_1 (by first | assumption | omega) | exact ib_3 (by first | assumption | omega) | omega | decide | exact il_14_0 | exact il_14_1 | exact il_14_2 | exact il_14_3 | exact il_14_4 | exact il_21_0 | exact il_21_1 | exact il_21_2)) only [en_X0_compares, st_X0_compares_0, st_X0_compares_1, st_X0_compares_2, st_X0_compares_4, st_X0_compares_5, st_X0_compares_8, st_X0_compares_9, st_X0_compares_10, st_X0_compares_12, st_X0_compares_13, st_X0_compares_15, st_X0_compares_16, st_X0_compares_17, st_X0_compares_18, st_X0_compares_20, st_X0_compares_21, st_X0_compares_23, st_X0_compares_24, st_X0_compares_27, st_X0_compares_28, st_X0_compares_30, st_X0_compares_33, st_X0_compares_34, st_X0_compares_37, st_X0_compares_38, st_X0_compares_39, st_X0_compares_40, st_X0_compares_41, st_X0_compares_44, st_X0_compares_45, st_X0_compares_47, st_X0_compares_50, st_X0_compares_51, st_X0_compares_54, st_X0_compares_55, st_X0_compares_58, st_X0_compares_59, st_X0_compares_61, st_X0_compares_64, st_X0_compares_65, st_X0_compares_68, st_X0_compares_69, q1, sp_at hO hp, q2, q3, q4, if_pos c0', if_neg c1, bi_f, Option.toList_some, Option.toList_none, List.cons_append, List.nil_append, Option.getD_some, am_nlI, am_nlR, am_nlN, bi_eq0, if_true, if_false, bf_tf, bf_ft]
  · have c0' : ¬ nI r = 0 := nI_ne0 (by omega) (by omega)
    rw [if_neg c0]
    by_cases c2 : r = 1
    · have c2' : nI r = 1 := by rw [c2]; rfl
      rw [if_pos c2]
      by_cases c1 : dg v p < nI e
      · rw [decide_eq_true c1]
        simp (disch := (first | assumption | exact tg_12 | exact tg_13 | exact tg_2 | exact tg_20 | exact tg_14 | exact tg_15 | exact tg_16 | exact tg_17 | exact tg_18 | exact tg_19 | exact tg_21 | exact tg_22 | exact tg_23 | exact tg_24 | exact tg_25 | exact tg_26 | exact tg_33 | exact tg_34 | exact tg_35 | exact tg_36 | exact tg_37 | exact tg_38 | exact tg_39 | exact tg_40 | exact tg_41 | exact tg_42 | exact tg_43 | exact tg_52 | exact tg_1 | exact tg_3 | exact (show _ from rfl) | exact Nat.le_of_ble_eq_true rfl | exact bi_01 _ | exact Or.inl rfl | exact Or.inr rfl | exact ib_2 (by first | assumption | omega) | exact ib_20 (by first | assumption | omega) | exact ib_14 (by first | assumption | omega) | exact ib_15 (by first | assumption | omega) | exact ib_16 (by first | assumption | omega) | exact ib_17 (by first | assumption | omega) | exact ib_18 (by first | assumption | omega) | exact ib_19 (by first | assumption | omega) | exact ib_21 (by first | assumption | omega) | exact ib_22 (by first | assumption | omega) | exact ib_23 (by first | assumption | omega) | exact ib_24 (by first | assumption | omega) | exact ib_25 (by first | assumption | omega) | exact ib_26 (by first | assumption | omega) | exact ib_34 (by first | assumption | omega) | exact ib_36 (by first | assumption | omega) | exact ib_37 (by first | assumption | omega) | exact ib_38 (by first | assumption | omega) | exact ib_40 (by first | assumption | omega) | exact ib_41 (by first | assumption | omega) | exact ib_43 (by first | assumption | omega) | exact ib_52 (by first | assumption | omega) | exact ib_1 (by first | assumption | omega) | exact ib_3 (by first | assumption | omega) | omega | decide | exact il_14_0 | exact il_14_1 | exact il_14_2 | exact il_14_3 | exact il_14_4 | exact il_21_0 | exact il_21_1 | exact il_21_2)) only [en_X0_compares, st_X0_compares_0, st_X0_compares_1, st_X0_compares_2, st_X0_compares_4, st_X0_compares_5, st_X0_compares_8, st_X0_compares_9, st_X0_compares_10, st_X0_compares_12, st_X0_compares_13, st_X0_compares_15, st_X0_compares_16, st_X0_compares_17, st_X0_compares_18, st_X0_compares_20, st_X0_compares_21, st_X0_compares_23, st_X0_compares_24, st_X0_compares_27, st_X0_compares_28, st_X0_compares_30, st_X0_compares_33, st_X0_compares_34, st_X0_compares_37, st_X0_compares_38, st_X0_compares_39, st_X0_compares_40, st_X0_compares_41, st_X0_compares_44, st_X0_compares_45, st_X0_compares_47, st_X0_compares_50, st_X0_compares_51, st_X0_compares_54, st_X0_compares_55, st_X0_compares_58, st_X0_compares_59, st_X0_compares_61, st_X0_compares_64, st_X0_compares_65, st_X0_compares_68, st_X0_compares_69, q1, sp_at hO hp, q2, q3, q4, if_neg c0', if_pos c2', if_pos c1, bi_t, Option.toList_some, Option.toList_none, List.cons_append, List.nil_append, Option.getD_some, am_nlI, am_nlR, am_nlN, bi_eq0, if_true, if_false, bf_tf, bf_ft]
      · rw [decide_eq_false c1]
        simp (disch := (first | assumption | exact tg_12 | exact tg_13 | exact tg_2 | exact tg_20 | exact tg_14 | exact tg_15 | exact tg_16 | exact tg_17 | exact tg_18 | exact tg_19 | exact tg_21 | exact tg_22 | exact tg_23 | exact tg_24 | exact tg_25 | exact tg_26 | exact tg_33 | exact tg_34 | exact tg_35 | exact tg_36 | exact tg_37 | exact tg_38 | exact tg_39 | exact tg_40 | exact tg_41 | exact tg_42 | exact tg_43 | exact tg_52 | exact tg_1 | exact tg_3 | exact (show _ from rfl) | exact Nat.le_of_ble_eq_true rfl | exact bi_01 _ | exact Or.inl rfl | exact Or.inr rfl | exact ib_2 (by first | assumption | omega) | exact ib_20 (by first | assumption | omega) | exact ib_14 (by first | assumption | omega) | exact ib_15 (by first | assumption | omega) | exact ib_16 (by first | assumption | omega) | exact ib_17 (by first | assumption | omega) | exact ib_18 (by first | assumption | omega) | exact ib_19 (by first | assumption | omega) | exact ib_21 (by first | assumption | omega) | exact ib_22 (by first | assumption | omega) | exact ib_23 (by first | assumption | omega) | exact ib_24 (by first | assumption | omega) | exact ib_25 (by first | assumption | omega) | exact ib_26 (by first | assumption | omega) | exact ib_34 (by first | assumption | omega) | exact ib_36 (by first | assumption | omega) | exact ib_37 (by first | assumption | omega) | exact ib_38 (by first | assumption | omega) | exact ib_40 (by first | assumption | omega) | exact ib_41 (by first | assumption | omega) | exact ib_43 (by first | assumption | omega) | exact ib_52 (by first | assumption | omega) | exact ib_1 (by first | assumption | omega) | exact ib_3 (by first | assumption | omega) | omega | decide | exact il_14_0 | exact il_14_1 | exact il_14_2 | exact il_14_3 | exact il_14_4 | exact il_21_0 | exact il_21_1 | exact il_21_2)) only [en_X0_compares, st_X0_compares_0, st_X0_compares_1, st_X0_compares_2, st_X0_compares_4, st_X0_compares_5, st_X0_compares_8, st_X0_compares_9, st_X0_compares_10, st_X0_compares_12, st_X0_compares_13, st_X0_compares_15, st_X0_compares_16, st_X0_compares_17, st_X0_compares_18, st_X0_compares_20, st_X0_compares_21, st_X0_compares_23, st_X0_compares_24, st_X0_compares_27, st_X0_compares_28, st_X0_compares_30, st_X0_compares_33, st_X0_compares_34, st_X0_compares_37, st_X0_compares_38, st_X0_compares_39, st_X0_compares_40, st_X0_compares_41, st_X0_compares_44, st_X0_compares_45, st_X0_compares_47, st_X0_compares_50, st_X0_compares_51, st_X0_compares_54, st_X0_compares_55, st_X0_compares_58, st_X0_compares_59, st_X0_compares_61, st_X0_compares_64, st_X0_compares_65, st_X0_compares_68, st_X0_compares_69, q1, sp_at hO hp, q2, q3, q4, if_neg c0', if_pos c2', if_neg c1, bi_f, Option.toList_some, Option.toList_none, List.cons_append, List.nil_append, Option.getD_some, am_nlI, am_nlR, am_nlN, bi_eq0, if_true, if_false, bf_tf, bf_ft]
    · have c2' : ¬ nI r = 1 := fun h => c2 ((nI_eq (b := 1) (by omega) (by omega)).1 h)
      rw [if_neg c2]
      by_cases c1 : nI e < dg v p
      · rw [decide_eq_true c1]
        simp (disch := (first | assumption | exact tg_12 | exact tg_13 | exact tg_2 | exact tg_20 | exact tg_14 | exact tg_15 | exact tg_16 | exact tg_17 | exact tg_18 | exact tg_19 | exact tg_21 | exact tg_22 | exact tg_23 | exact tg_24 | exact tg_25 | exact tg_26 | exact tg_33 | exact tg_34 | exact tg_35 | exact tg_36 | exact tg_37 | exact tg_38 | exact tg_39 | exact tg_40 | exact tg_41 | exact tg_42 | exact tg_43 | exact tg_52 | exact tg_1 | exact tg_3 | exact (show _ from rfl) | exact Nat.le_of_ble_eq_true rfl | exact bi_01 _ | exact Or.inl rfl | exact Or.inr rfl | exact ib_2 (by first | assumption | omega) | exact ib_20 (by first | assumption | omega) | exact ib_14 (by first | assumption | omega) | exact ib_15 (by first | assumption | omega) | exact ib_16 (by first | assumption | omega) | exact ib_17 (by first | assumption | omega) | exact ib_18 (by first | assumption | omega) | exact ib_19 (by first | assumption | omega) | exact ib_21 (by first | assumption | omega) | exact ib_22 (by first | assumption | omega) | exact ib_23 (by first | assumption | omega) | exact ib_24 (by first | assumption | omega) | exact ib_25 (by first | assumption | omega) | exact ib_26 (by first | assumption | omega) | exact ib_34 (by first | assumption | omega) | exact ib_36 (by first | assumption | omega) | exact ib_37 (by first | assumption | omega) | exact ib_38 (by first | assumption | omega) | exact ib_40 (by first | assumption | omega) | exact ib_41 (by first | assumption | omega) | exact ib_43 (by first | assumption | omega) | exact ib_52 (by first | assumption | omega) | exact ib_1 (by first | assumption | omega) | exact ib_3 (by first | assumption | omega) | omega | decide | exact il_14_0 | exact il_14_1 | exact il_14_2 | exact il_14_3 | exact il_14_4 | exact il_21_0 | exact il_21_1 | exact il_21_2)) only [en_X0_compares, st_X0_compares_0, st_X0_compares_1, st_X0_compares_2, st_X0_compares_4, st_X0_compares_5, st_X0_compares_8, st_X0_compares_9, st_X0_compares_10, st_X0_compares_12, st_X0_compares_13, st_X0_compares_15, st_X0_compares_16, st_X0_compares_17, st_X0_compares_18, st_X0_compares_20, st_X0_compares_21, st_X0_compares_23, st_X0_compares_24, st_X0_compares_27, st_X0_compares_28, st_X0_compares_30, st_X0_compares_33, st_X0_compares_34, st_X0_compares_37, st_X0_compares_38, st_X0_compares_39, st_X0_compares_40, st_X0_compares_41, st_X0_compares_44, st_X0_compares_45, st_X0_compares_47, st_X0_compares_50, st_X0_compares_51, st_X0_compares_54, st_X0_compares_55, st_X0_compares_58, st_X0_compares_59, st_X0_compares_61, st_X0_compares_64, st_X0_compares_65, st_X0_compares_68, st_X0_compares_69, q1, sp_at hO hp, q2, q3, q4, if_neg c0', if_neg c2', if_pos c1, bi_t, Option.toList_some, Option.toList_none, List.cons_append, List.nil_append, Option.getD_some, am_nlI, am_nlR, am_nlN, bi_eq0, if_true, if_false, bf_tf, bf_ft]
      · rw [decide_eq_false c1]
        simp (disch := (first | assumption | exact tg_12 | exact tg_13 | exact tg_2 | exact tg_20 | exact tg_14 | exact tg_15 | exact tg_16 | exact tg_17 | exact tg_18 | exact tg_19 | exact tg_21 | exact tg_22 | exact tg_23 | exact tg_24 | exact tg_25 | exact tg_26 | exact tg_33 | exact tg_34 | exact tg_35 | exact tg_36 | exact tg_37 | exact tg_38 | exact tg_39 | exact tg_40 | exact tg_41 | exact tg_42 | exact tg_43 | exact tg_52 | exact tg_1 | exact tg_3 | exact (show _ from rfl) | exact Nat.le_of_ble_eq_true rfl | exact bi_01 _ | exact Or.inl rfl | exact Or.inr rfl | exact ib_2 (by first | assumption | omega) | exact ib_20 (by first | assumption | omega) | exact ib_14 (by first | assumption | omega) | exact ib_15 (by first | assumption | omega) | exact ib_16 (by first | assumption | omega) | exact ib_17 (by first | assumption | omega) | exact ib_18 (by first | assumption | omega) | exact ib_19 (by first | assumption | omega) | exact ib_21 (by first | assumption | omega) | exact ib_22 (by first | assumption | omega) | exact ib_23 (by first | assumption | omega) | exact ib_24 (by first | assumption | omega) | exact ib_25 (by first | assumption | omega) | exact ib_26 (by first | assumption | omega) | exact ib_34 (by first | assumption | omega) | exact ib_36 (by first | assumption | omega) | exact ib_37 (by first | assumption | omega) | exact ib_38 (by first | assumption | omega) | exact ib_40 (by first | assumption | omega) | exact ib_41 (by first | assumption | omega) | exact ib_43 (by first | assumption | omega) | exact ib_52 (by first | assumption | omega) | exact ib_1 (by first | assumption | omega) | exact ib_3 (by first | assumption | omega) | omega | decide | exact il_14_0 | exact il_14_1 | exact il_14_2 | exact il_14_3 | exact il_14_4 | exact il_21_0 | exact il_21_1 | exact il_21_2)) only [en_X0_compares, st_X0_compares_0, st_X0_compares_1, st_X0_compares_2, st_X0_compares_4, st_X0_compares_5, st_X0_compares_8, st_X0_compares_9, st_X0_compares_10, st_X0_compares_12, st_X0_compares_13, st_X0_compares_15, st_X0_compares_16, st_X0_compares_17, st_X0_compares_18, st_X0_compares_20, st_X0_compares_21, st_X0_compares_23, st_X0_compares_24, st_X0_compares_27, st_X0_compares_28, st_X0_compares_30, st_X0_compares_33, st_X0_compares_34, st_X0_compares_37, st_X0_compares_38, st_X0_compares_39, st_X0_compares_40, st_X0_compares_41, st_X0_compares_44, st_X0_compares_45, st_X0_compares_47, st_X0_compares_50, st_X0_compares_51, st_X0_compares_54, st_X0_compares_55, st_X0_compares_58, st_X0_compares_59, st_X0_compares_61, st_X0_compares_64, st_X0_compares_65, st_X0_compares_68, st_X0_compares_69, q1, sp_at hO hp, q2, q3, q4, if_neg c0', if_neg c2', if_neg c1, bi_f, Option.toList_some, Option.toList_none, List.cons_append, List.nil_append, Option.getD_some, am_nlI, am_nlR, am_nlN, bi_eq0, if_true, if_false, bf_tf, bf_ft]
end HLD
