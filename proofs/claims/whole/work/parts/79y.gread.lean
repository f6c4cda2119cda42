/-! the class reads clauses -/
def catL (l : List (List Int32 × (Int32 → Bool) × Nat × Nat)) : List Int32 := (l.map (fun c => c.1)).flatten
theorem catL_app {l : List (List Int32 × (Int32 → Bool) × Nat × Nat)} {c : List Int32 × (Int32 → Bool) × Nat × Nat} : catL (l ++ [c]) = catL l ++ c.1 := by
  unfold catL
  rw [List.map_append, List.flatten_append]
  simp
/-- a guide's clauses as its rows have them -/
def GLS (G : Nat) (a : Nat → Nat → Int32) (l : List (List Int32 × (Int32 → Bool) × Nat × Nat)) : Prop := a G 1 = nI l.length ∧ a G 5 = nI (catL l).length ∧ (∀ c x, l[c]? = some x → a (G + 1) c = nI x.2.2.1 ∧ a (G + 2) c = nI x.2.2.2 ∧ a (G + 3) c = nI (catL (l.take (c + 1))).length) ∧ ∀ j, j < (catL l).length → a (G + 4) j = (catL l).getD j 0
def FRG (G : Nat) (a a' : Nat → Nat → Int32) : Prop := (∀ c, c ≠ 33 → (c < G ∨ G + 4 < c) → a' c = a c) ∧ ∀ j, j ≠ 2 → a' 33 j = a 33 j
section FRS
variable {G n : Nat} {a a' a'' : Nat → Nat → Int32} {T : Nat → Nat}
theorem FRG.refl : FRG G a a := ⟨fun _ _ _ => rfl, fun _ _ => rfl⟩
theorem FRG.trans (h : FRG G a a') (h' : FRG G a' a'') : FRG G a a'' := ⟨fun c h1 h2 => (h'.1 c h1 h2).trans (h.1 c h1 h2), fun j hj => (h'.2 j hj).trans (h.2 j hj)⟩
theorem GSW.fr (h : GSW G a a') : FRG G a a' := ⟨fun c h1 h2 => h.1 c h1 (by omega) (by omega), h.2.1⟩
theorem FRG.at {y : Int32} (h : FRG G a a') : FRG G a (am_up a' 33 2 y) := ⟨fun c h1 h2 => by rw [au_d h1]; exact h.1 c h1 h2, fun j hj => by rw [au_sd hj]; exact h.2 j hj⟩
theorem FRG.old (hG : GC G) (h : FRG G a a') (hO : OLD a) : OLD a' := by
  have hge := hG.ge
  exact OLD_low hO (fun c hc => h.1 c (by omega) (by omega))
theorem FRG.tp (hG : GC G) (h : FRG G a a') (hT : TP a T n) : TP a' T n := by
  have hge := hG.ge
  refine ⟨by rw [h.2 0 (by decide)]; exact hT.1, hT.2.1, fun j hj => ?_⟩
  rw [h.1 34 (by omega) (by omega)]
  exact hT.2.2 j hj
theorem GLS.at {y : Int32} {l : List (List Int32 × (Int32 → Bool) × Nat × Nat)} (hG : GC G) (h : GLS G a l) : GLS G (am_up a 33 2 y) l := by
  have hge := hG.ge
  refine ⟨by rw [au_d (by omega)]; exact h.1, by rw [au_d (by omega)]; exact h.2.1, fun c x hx => ?_, fun j hj => ?_⟩
  · rw [au_d (by omega), au_d (by omega), au_d (by omega)]; exact h.2.2.1 c x hx
  · rw [au_d (by omega)]; exact h.2.2.2 j hj
theorem GLS.fr {l : List (List Int32 × (Int32 → Bool) × Nat × Nat)} (h : GLS G a l) (e : ∀ c, G ≤ c → c ≤ G + 4 → a' c = a c) : GLS G a' l := by
  refine ⟨by rw [e G (by omega) (by omega)]; exact h.1, by rw [e G (by omega) (by omega)]; exact h.2.1, fun c x hx => ?_, fun j hj => ?_⟩
  · rw [e (G + 1) (by omega) (by omega), e (G + 2) (by omega) (by omega), e (G + 3) (by omega) (by omega)]; exact h.2.2.1 c x hx
  · rw [e (G + 4) (by omega) (by omega)]; exact h.2.2.2 j hj
end FRS
section GRD
variable {d L n i G : Nat} {b : Bool} {a : Nat → Nat → Int32} {Q : Option Value → am_H → Prop} {T : Nat → Nat} {l : List (List Int32 × (Int32 → Bool) × Nat × Nat)}
set_option maxRecDepth 100000 in
theorem sp_endClause {c t : Nat} {x y : Int32} (hG : GC G) (h1 : a G 1 = nI c) (hc : c < 6) (h5 : a G 5 = nI t) : CALL d 5 [.ref G, .int x, .int y] (CT L, a, RR b) Q = Q none (CT L, am_up (am_up (am_up (am_up a (G + 1) c x) (G + 2) c y) (G + 3) c (nI t)) G 1 (nI (c + 1)), RR b) := by
  have hge := hG.ge
  obtain ⟨t0, t1, t2, t3, t4, l1, l2, l3, l4⟩ := hG.all (L := L)
  obtain ⟨r0, r2, r3, r4⟩ := hG.rr (b := b)
  obtain ⟨o0, o2, o3, o4⟩ := hG.is (b := b)
  have hlt : nI c < 6 := nI_lt (b := 6) hc (by decide)
  have hcc : (nI c).toNatClampNeg = c := nI_clamp (by omega)
  have ib1 : inb (nI c) (am_len (CT L) (G + 1)) := by rw [l1]; exact inb_nI hc (by decide)
  have ib2 : inb (nI c) (am_len (CT L) (G + 2)) := by rw [l2]; exact inb_nI hc (by decide)
  have ib3 : inb (nI c) (am_len (CT L) (G + 3)) := by rw [l3]; exact inb_nI hc (by decide)
  have g0 : 12 ≤ G := by omega
  have g1 : 12 ≤ G + 1 := by omega
  have g2 : 12 ≤ G + 2 := by omega
  have g3 : 12 ≤ G + 3 := by omega
  have v1 : ∀ u, am_up a (G + 1) c u G = a G := fun u => au_d (by omega)
  have v2 : ∀ (a' : Nat → Nat → Int32) u, am_up a' (G + 2) c u G = a' G := fun a' u => au_d (by omega)
  have v3 : ∀ (a' : Nat → Nat → Int32) u, am_up a' (G + 3) c u G = a' G := fun a' u => au_d (by omega)
  simp (disch := (first | assumption | exact tg_12 | exact tg_13 | exact tg_2 | exact tg_20 | exact tg_14 | exact tg_15 | exact tg_16 | exact tg_17 | exact tg_18 | exact tg_19 | exact tg_21 | exact tg_22 | exact tg_23 | exact tg_24 | exact tg_25 | exact tg_26 | exact tg_33 | exact tg_34 | exact tg_35 | exact tg_36 | exact tg_37 | exact tg_38 | exact tg_39 | exact tg_40 | exact tg_41 | exact tg_42 | exact tg_43 | exact tg_52 | exact tg_1 | exact tg_3 | exact (show _ from rfl) | exact Nat.le_of_ble_eq_true rfl | exact bi_01 _ | exact Or.inl rfl | exact Or.inr rfl | exact ib_2 (by first | assumption | omega) | exact ib_20 (by first | assumption | omega) | exact ib_14 (by first | assumption | omega) | exact ib_15 (by first | assumption | omega) | exact ib_16 (by first | assumption | omega) | exact ib_17 (by first | assumption | omega) | exact ib_18 (by first | assumption | omega) | exact ib_19 (by first | assumption | omega) | exact ib_21 (by first | assumption | omega) | exact ib_22 (by first | assumption | omega) | exact ib_23 (by first | assumption | omega) | exact ib_24 (by first | assumption | omega) | exact ib_25 (by first | assumption | omega) | exact ib_26 (by first | assumption | omega) | exact ib_34 (by first | assumption | omega) | exact ib_36 (by first | assumption | omega) | exact ib_37 (by first | assumption | omega) | exact ib_38 (by first | assumption | omega) | exact ib_40 (by first | assumption | omega) | exact ib_41 (by first | assumption | omega) | exact ib_43 (by first | assumption | omega) | exact ib_52 (by first | assumption | omega) | exact ib_1 (by first | assumption | omega) | exact ib_3 (by first | assumption | omega) | omega | decide | exact il_14_0 | exact il_14_1 | exact il_14_2 | exact il_14_3 | exact il_14_4 | exact il_21_0 | exact il_21_1 | exact il_21_2)) only [en_X0_endClause, st_X0_endClause_0, st_X0_endClause_1, st_X0_endClause_4, st_X0_endClause_6, st_X0_endClause_9, st_X0_endClause_10, st_X0_endClause_13, st_X0_endClause_14, st_X0_endClause_17, st_X0_endClause_18, st_X0_endClause_19, st_X0_endClause_20, st_X0_endClause_23, st_X0_endClause_24, st_X0_endClause_27, st_X0_endClause_28, st_X0_endClause_29, st_X0_endClause_30, st_X0_endClause_33, st_X0_endClause_34, st_X0_endClause_37, st_X0_endClause_38, st_X0_endClause_41, st_X0_endClause_42, st_X0_endClause_43, st_X0_endClause_44, st_X0_endClause_47, st_X0_endClause_48, st_X0_endClause_49, st_X0_endClause_52, h1, if_pos hlt, r0, r2, r3, hcc, v1, v2, v3, h5, nI_1, Option.toList_some, Option.toList_none, List.cons_append, List.nil_append, Option.getD_some, am_nlI, am_nlR, am_nlN, bi_eq0, if_true, if_false, bf_tf, bf_ft]
def cOf (r : Bool × Nat × List Int32 × (Int32 → Bool) × Nat × Nat) : List Int32 × (Int32 → Bool) × Nat × Nat := r.2.2
theorem GLS_end {r st : List Int32} {a1 : Nat → Nat → Int32} {vl : Int32 → Bool} {ac dy : Nat} (hG : GC G) (hL : GLS G a l) (hA : ACC G (catL l).length a st a1) : GLS G (am_up (am_up (am_up (am_up a1 (G + 1) l.length (nI ac)) (G + 2) l.length (nI dy)) (G + 3) l.length (nI ((catL l).length + st.length))) G 1 (nI (l.length + 1))) (l ++ [(st, vl, ac, dy)]) := by
  have hge := hG.ge
  have hcat : catL (l ++ [(st, vl, ac, dy)]) = catL l ++ st := catL_app
  refine ⟨by rw [au_ss, List.length_append]; rfl, ?_, fun c x hx => ?_, fun j hj => ?_⟩
  · rw [au_sd (by decide), au_d (by omega), au_d (by omega), au_d (by omega), hcat, List.length_append]
    exact hA.2.1
  · rw [List.getElem?_append] at hx
    by_cases hc : c < l.length
    · rw [if_pos hc] at hx
      obtain ⟨q1, q2, q3⟩ := hL.2.2.1 c x hx
      have ht : (l ++ [(st, vl, ac, dy)]).take (c + 1) = l.take (c + 1) := List.take_append_of_le_length (by omega)
      rw [ht]
      refine ⟨?_, ?_, ?_⟩
      · rw [au_d (by omega), au_d (by omega), au_d (by omega), au_sd (by omega), hA.1.1 _ (by omega) (by omega) (by omega)]; exact q1
      · rw [au_d (by omega), au_d (by omega), au_sd (by omega), au_d (by omega), hA.1.1 _ (by omega) (by omega) (by omega)]; exact q2
      · rw [au_d (by omega), au_sd (by omega), au_d (by omega), au_d (by omega), hA.1.1 _ (by omega) (by omega) (by omega)]; exact q3
    · rw [if_neg hc] at hx
      have hc2 : c = l.length := by
        have := (List.getElem?_eq_some_iff.1 hx).1
        simp at this
        omega
      subst hc2
      rw [Nat.sub_self] at hx
      have hx2 : (st, vl, ac, dy) = x := by simpa using hx
      subst hx2
      have ht : (l ++ [(st, vl, ac, dy)]).take (l.length + 1) = l ++ [(st, vl, ac, dy)] := List.take_of_length_le (by rw [List.length_append]; exact Nat.le_refl _)
      rw [ht, hcat, List.length_append]
      refine ⟨?_, ?_, ?_⟩
      · rw [au_d (by omega), au_d (by omega), au_d (by omega), au_ss]
      · rw [au_d (by omega), au_d (by omega), au_ss]
      · rw [au_d (by omega), au_ss]
  · rw [hcat] at hj ⊢
    rw [List.length_append] at hj
    rw [au_d (by omega), au_d (by omega), au_d (by omega), au_d (by omega), getD_app]
    by_cases c : j < (catL l).length
    · rw [if_pos c, hA.2.2.1 j c]; exact hL.2.2.2 j c
    · rw [if_neg c]
      have := hA.2.2.2 (j - (catL l).length) (by omega)
      rw [show (catL l).length + (j - (catL l).length) = j by omega] at this
      exact this
set_option maxRecDepth 100000 in
theorem rd_clause (hG : GC G) (hO : OLD a) (hT : TP a T n) (hi : i ≤ n) (ha : a 33 2 = nI i) (hL : GLS G a l) (hl : l.length < 6) (hs : (catL l).length ≤ i)
    (hQ : ∀ a', FRG G a a' → a' 33 2 = nI (pCl T n i).2.1 → ((pCl T n i).1 = true → GLS G a' (l ++ [(pCl T n i).2.2])) → Q (some (.int (bi (pCl T n i).1))) (CT L, a', RR b)) : CALL (d + 24) 47 [.ref (33 : Nat), .ref G] (CT L, a, RR b) Q := by
  have hge := hG.ge
  have tG := (hG.all (L := L)).1
  have hn := hT.2.1
  have neg1 : (-1 : Int32) < 0 := by decide
  have neg4 : (-4 : Int32) < 0 := by decide
  have n00 : ¬ (0 : Int32) < 0 := by decide
  have e58 : (58 : Int32) = nI 58 := rfl
  have e64 : (64 : Int32) = nI 64 := rfl
  have ff : ∀ {P : Prop}, false = true → P := fun h => absurd h Bool.false_ne_true
  obtain ⟨w1, w2, w3⟩ := good_T (T := T) (n := n) 5 i hi
  simp (disch := (first | assumption | exact tg_12 | exact tg_13 | exact tg_2 | exact tg_20 | exact tg_14 | exact tg_15 | exact tg_16 | exact tg_17 | exact tg_18 | exact tg_19 | exact tg_21 | exact tg_22 | exact tg_23 | exact tg_24 | exact tg_25 | exact tg_26 | exact tg_33 | exact tg_34 | exact tg_35 | exact tg_36 | exact tg_37 | exact tg_38 | exact tg_39 | exact tg_40 | exact tg_41 | exact tg_42 | exact tg_43 | exact tg_52 | exact tg_1 | exact tg_3 | exact (show _ from rfl) | exact Nat.le_of_ble_eq_true rfl | exact bi_01 _ | exact Or.inl rfl | exact Or.inr rfl | exact ib_2 (by first | assumption | omega) | exact ib_20 (by first | assumption | omega) | exact ib_14 (by first | assumption | omega) | exact ib_15 (by first | assumption | omega) | exact ib_16 (by first | assumption | omega) | exact ib_17 (by first | assumption | omega) | exact ib_18 (by first | assumption | omega) | exact ib_19 (by first | assumption | omega) | exact ib_21 (by first | assumption | omega) | exact ib_22 (by first | assumption | omega) | exact ib_23 (by first | assumption | omega) | exact ib_24 (by first | assumption | omega) | exact ib_25 (by first | assumption | omega) | exact ib_26 (by first | assumption | omega) | exact ib_34 (by first | assumption | omega) | exact ib_36 (by first | assumption | omega) | exact ib_37 (by first | assumption | omega) | exact ib_38 (by first | assumption | omega) | exact ib_40 (by first | assumption | omega) | exact ib_41 (by first | assumption | omega) | exact ib_43 (by first | assumption | omega) | exact ib_52 (by first | assumption | omega) | exact ib_1 (by first | assumption | omega) | exact ib_3 (by first | assumption | omega) | omega | decide | exact il_14_0 | exact il_14_1 | exact il_14_2 | exact il_14_3 | exact il_14_4 | exact il_21_0 | exact il_21_1 | exact il_21_2)) only [en_X8_readClause, st_X8_readClause_0, st_X8_readClause_1, st_X8_readClause_2, st_X8_readClause_3, st_X8_readClause_6, st_X8_readClause_9, st_X8_readClause_10, st_X8_readClause_12, st_X8_readClause_15, st_X8_readClause_18, st_X8_readClause_19, st_X8_readClause_20, st_X8_readClause_21, st_X8_readClause_23, st_X8_readClause_26, st_X8_readClause_27, st_X8_readClause_28, st_X8_readClause_31, st_X8_readClause_32, st_X8_readClause_33, st_X8_readClause_34, st_X8_readClause_36, st_X8_readClause_39, st_X8_readClause_42, st_X8_readClause_43, st_X8_readClause_46, st_X8_readClause_49, st_X8_readClause_50, st_X8_readClause_51, st_X8_readClause_52, st_X8_readClause_55, st_X8_readClause_56, st_X8_readClause_57, st_X8_readClause_58, st_X8_readClause_59, st_X8_readClause_60, st_X8_readClause_63, st_X8_readClause_64, Option.toList_some, Option.toList_none, List.cons_append, List.nil_append, Option.getD_some, am_nlI, am_nlR, am_nlN, bi_eq0, if_true, if_false, bf_tf, bf_ft]
  refine rd_T (d := d) hG 5 (Nat.le_refl _) a _ i (catL l).length hO hT hi ha hL.2.1 hs (fun a1 hR => ?_)
  unfold pCl at hQ
  generalize pT T n 5 i = r at *
  cases hr : r.1 with
  | false =>
    rw [if_pos hr] at hQ
    have g := hQ a1 hR.1.fr hR.2.1 ff
    simp (disch := (first | assumption | exact tg_12 | exact tg_13 | exact tg_2 | exact tg_20 | exact tg_14 | exact tg_15 | exact tg_16 | exact tg_17 | exact tg_18 | exact tg_19 | exact tg_21 | exact tg_22 | exact tg_23 | exact tg_24 | exact tg_25 | exact tg_26 | exact tg_33 | exact tg_34 | exact tg_35 | exact tg_36 | exact tg_37 | exact tg_38 | exact tg_39 | exact tg_40 | exact tg_41 | exact tg_42 | exact tg_43 | exact tg_52 | exact tg_1 | exact tg_3 | exact (show _ from rfl) | exact Nat.le_of_ble_eq_true rfl | exact bi_01 _ | exact Or.inl rfl | exact Or.inr rfl | exact ib_2 (by first | assumption | omega) | exact ib_20 (by first | assumption | omega) | exact ib_14 (by first | assumption | omega) | exact ib_15 (by first | assumption | omega) | exact ib_16 (by first | assumption | omega) | exact ib_17 (by first | assumption | omega) | exact ib_18 (by first | assumption | omega) | exact ib_19 (by first | assumption | omega) | exact ib_21 (by first | assumption | omega) | exact ib_22 (by first | assumption | omega) | exact ib_23 (by first | assumption | omega) | exact ib_24 (by first | assumption | omega) | exact ib_25 (by first | assumption | omega) | exact ib_26 (by first | assumption | omega) | exact ib_34 (by first | assumption | omega) | exact ib_36 (by first | assumption | omega) | exact ib_37 (by first | assumption | omega) | exact ib_38 (by first | assumption | omega) | exact ib_40 (by first | assumption | omega) | exact ib_41 (by first | assumption | omega) | exact ib_43 (by first | assumption | omega) | exact ib_52 (by first | assumption | omega) | exact ib_1 (by first | assumption | omega) | exact ib_3 (by first | assumption | omega) | omega | decide | exact il_14_0 | exact il_14_1 | exact il_14_2 | exact il_14_3 | exact il_14_4 | exact il_21_0 | exact il_21_1 | exact il_21_2)) only [st_X8_readClause_0, st_X8_readClause_1, st_X8_readClause_2, st_X8_readClause_3, st_X8_readClause_6, st_X8_readClause_9, st_X8_readClause_10, st_X8_readClause_12, st_X8_readClause_15, st_X8_readClause_18, st_X8_readClause_19, st_X8_readClause_20, st_X8_readClause_21, st_X8_readClause_23, st_X8_readClause_26, st_X8_readClause_27, st_X8_readClause_28, st_X8_readClause_31, st_X8_readClause_32, st_X8_readClause_33, st_X8_readClause_34, st_X8_readClause_36, st_X8_readClause_39, st_X8_readClause_42, st_X8_readClause_43, st_X8_readClause_46, st_X8_readClause_49, st_X8_readClause_50, st_X8_readClause_51, st_X8_readClause_52, st_X8_readClause_55, st_X8_readClause_56, st_X8_readClause_57, st_X8_readClause_58, st_X8_readClause_59, st_X8_readClause_60, st_X8_readClause_63, st_X8_readClause_64, Option.toList_some, Option.toList_none, List.cons_append, List.nil_append, Option.getD_some, am_nlI, am_nlR, am_nlN, bi_eq0, if_true, if_false, bf_tf, bf_ft]
    exact g
  | true =>
    rw [if_neg (by rw [hr]; decide)] at hQ
    have hA := hR.2.2 hr
    have htk := fun (d : Nat) (Q : Option Value → am_H → Prop) => sp_takes' (d := d) (L := L) (b := b) (Q := Q) (c := 58) (hR.1.tp hG hT) w2 hR.2.1 (by decide) (by decide)
    cases hc : tkp T n r.2.1 58 with
    | false =>
      rw [if_pos hc] at hQ
      rw [hc, tk_f hc] at htk
      have g := hQ (am_up a1 33 2 (nI (skp T n r.2.1))) hR.1.fr.at au_ss ff
      simp (disch := (first | assumption | exact tg_12 | exact tg_13 | exact tg_2 | exact tg_20 | exact tg_14 | exact tg_15 | exact tg_16 | exact tg_17 | exact tg_18 | exact tg_19 | exact tg_21 | exact tg_22 | exact tg_23 | exact tg_24 | exact tg_25 | exact tg_26 | exact tg_33 | exact tg_34 | exact tg_35 | exact tg_36 | exact tg_37 | exact tg_38 | exact tg_39 | exact tg_40 | exact tg_41 | exact tg_42 | exact tg_43 | exact tg_52 | exact tg_1 | exact tg_3 | exact (show _ from rfl) | exact Nat.le_of_ble_eq_true rfl | exact bi_01 _ | exact Or.inl rfl | exact Or.inr rfl | exact ib_2 (by first | assumption | omega) | exact ib_20 (by first | assumption | omega) | exact ib_14 (by first | assumption | omega) | exact ib_15 (by first | assumption | omega) | exact ib_16 (by first | assumption | omega) | exact ib_17 (by first | assumption | omega) | exact ib_18 (by first | assumption | omega) | exact ib_19 (by first | assumption | omega) | exact ib_21 (by first | assumption | omega) | exact ib_22 (by first | assumption | omega) | exact ib_23 (by first | assumption | omega) | exact ib_24 (by first | assumption | omega) | exact ib_25 (by first | assumption | omega) | exact ib_26 (by first | assumption | omega) | exact ib_34 (by first | assumption | omega) | exact ib_36 (by first | assumption | omega) | exact ib_37 (by first | assumption | omega) | exact ib_38 (by first | assumption | omega) | exact ib_40 (by first | assumption | omega) | exact ib_41 (by first | assumption | omega) | exact ib_43 (by first | assumption | omega) | exact ib_52 (by first | assumption | omega) | exact ib_1 (by first | assumption | omega) | exact ib_3 (by first | assumption | omega) | omega | decide | exact il_14_0 | exact il_14_1 | exact il_14_2 | exact il_14_3 | exact il_14_4 | exact il_21_0 | exact il_21_1 | exact il_21_2)) only [st_X8_readClause_0, st_X8_readClause_1, st_X8_readClause_2, st_X8_readClause_3, st_X8_readClause_6, st_X8_readClause_9, st_X8_readClause_10, st_X8_readClause_12, st_X8_readClause_15, st_X8_readClause_18, st_X8_readClause_19, st_X8_readClause_20, st_X8_readClause_21, st_X8_readClause_23, st_X8_readClause_26, st_X8_readClause_27, st_X8_readClause_28, st_X8_readClause_31, st_X8_readClause_32, st_X8_readClause_33, st_X8_readClause_34, st_X8_readClause_36, st_X8_readClause_39, st_X8_readClause_42, st_X8_readClause_43, st_X8_readClause_46, st_X8_readClause_49, st_X8_readClause_50, st_X8_readClause_51, st_X8_readClause_52, st_X8_readClause_55, st_X8_readClause_56, st_X8_readClause_57, st_X8_readClause_58, st_X8_readClause_59, st_X8_readClause_60, st_X8_readClause_63, st_X8_readClause_64, e58, htk, Option.toList_some, Option.toList_none, List.cons_append, List.nil_append, Option.getD_some, am_nlI, am_nlR, am_nlN, bi_eq0, if_true, if_false, bf_tf, bf_ft]
      exact g
    | true =>
      obtain ⟨t1, t2, t3⟩ := tk_t hc
      rw [if_neg (by rw [hc]; decide), t2] at hQ
      rw [hc, t2] at htk
      have hW2 := hR.1.at (y := nI (skp T n r.2.1 + 1)) hG
      have hac := fun (d : Nat) (Q : Option Value → am_H → Prop) => sp_oneA (d := d) (L := L) (b := b) (Q := Q) (a := a1) (i := skp T n r.2.1 + 1) (hR.1.old hG hO) (hR.1.tp hG hT) t1
      by_cases c3 : 3 ≤ acN (nxc T n (skp T n r.2.1 + 1))
      · rw [if_pos c3] at hQ
        have e3 := fA_cx (T := T) (n := n) (i := skp T n r.2.1 + 1)
        rw [if_pos c3] at e3
        rw [e3] at hac
        simp only [if_pos neg1] at hac
        have g := hQ (am_up a1 33 2 (nI (skp T n (skp T n r.2.1 + 1)))) hR.1.fr.at au_ss ff
        simp (disch := (first | assumption | exact tg_12 | exact tg_13 | exact tg_2 | exact tg_20 | exact tg_14 | exact tg_15 | exact tg_16 | exact tg_17 | exact tg_18 | exact tg_19 | exact tg_21 | exact tg_22 | exact tg_23 | exact tg_24 | exact tg_25 | exact tg_26 | exact tg_33 | exact tg_34 | exact tg_35 | exact tg_36 | exact tg_37 | exact tg_38 | exact tg_39 | exact tg_40 | exact tg_41 | exact tg_42 | exact tg_43 | exact tg_52 | exact tg_1 | exact tg_3 | exact (show _ from rfl) | exact Nat.le_of_ble_eq_true rfl | exact bi_01 _ | exact Or.inl rfl | exact Or.inr rfl | exact ib_2 (by first | assumption | omega) | exact ib_20 (by first | assumption | omega) | exact ib_14 (by first | assumption | omega) | exact ib_15 (by first | assumption | omega) | exact ib_16 (by first | assumption | omega) | exact ib_17 (by first | assumption | omega) | exact ib_18 (by first | assumption | omega) | exact ib_19 (by first | assumption | omega) | exact ib_21 (by first | assumption | omega) | exact ib_22 (by first | assumption | omega) | exact ib_23 (by first | assumption | omega) | exact ib_24 (by first | assumption | omega) | exact ib_25 (by first | assumption | omega) | exact ib_26 (by first | assumption | omega) | exact ib_34 (by first | assumption | omega) | exact ib_36 (by first | assumption | omega) | exact ib_37 (by first | assumption | omega) | exact ib_38 (by first | assumption | omega) | exact ib_40 (by first | assumption | omega) | exact ib_41 (by first | assumption | omega) | exact ib_43 (by first | assumption | omega) | exact ib_52 (by first | assumption | omega) | exact ib_1 (by first | assumption | omega) | exact ib_3 (by first | assumption | omega) | omega | decide | exact il_14_0 | exact il_14_1 | exact il_14_2 | exact il_14_3 | exact il_14_4 | exact il_21_0 | exact il_21_1 | exact il_21_2)) only [st_X8_readClause_0, st_X8_readClause_1, st_X8_readClause_2, st_X8_readClause_3, st_X8_readClause_6, st_X8_readClause_9, st_X8_readClause_10, st_X8_readClause_12, st_X8_readClause_15, st_X8_readClause_18, st_X8_readClause_19, st_X8_readClause_20, st_X8_readClause_21, st_X8_readClause_23, st_X8_readClause_26, st_X8_readClause_27, st_X8_readClause_28, st_X8_readClause_31, st_X8_readClause_32, st_X8_readClause_33, st_X8_readClause_34, st_X8_readClause_36, st_X8_readClause_39, st_X8_readClause_42, st_X8_readClause_43, st_X8_readClause_46, st_X8_readClause_49, st_X8_readClause_50, st_X8_readClause_51, st_X8_readClause_52, st_X8_readClause_55, st_X8_readClause_56, st_X8_readClause_57, st_X8_readClause_58, st_X8_readClause_59, st_X8_readClause_60, st_X8_readClause_63, st_X8_readClause_64, e58, htk, hac, if_pos neg1, Option.toList_some, Option.toList_none, List.cons_append, List.nil_append, Option.getD_some, am_nlI, am_nlR, am_nlN, bi_eq0, if_true, if_false, bf_tf, bf_ft]
        exact g
      · rw [if_neg c3] at hQ
        have e3 := fA_cx (T := T) (n := n) (i := skp T n r.2.1 + 1)
        rw [if_neg c3] at e3
        have p3 : ¬ nI (acN (nxc T n (skp T n r.2.1 + 1))) < 0 := nI_pos (by omega)
        rw [e3] at hac
        simp only [if_neg p3] at hac
        have k3 : skp T n (skp T n r.2.1 + 1) < n := nx_lt (fun h => c3 (by rw [h, acN_0]; decide))
        generalize hj : skp T n (skp T n r.2.1 + 1) + 1 = j at *
        have hjn : j ≤ n := by omega
        have hT3 : TP (am_up a1 33 2 (nI j)) T n := (hR.1.tp hG hT).up
        have htk2 := fun (d : Nat) (Q : Option Value → am_H → Prop) => sp_takes' (d := d) (L := L) (b := b) (Q := Q) (c := 64) (i := j) hT3 hjn au_ss (by decide) (by decide)
        simp only [au_uu] at htk2
        cases hc4 : tkp T n j 64 with
        | false =>
          rw [if_pos hc4] at hQ
          rw [hc4, tk_f hc4] at htk2
          have hA2 := hA.at (y := nI (skp T n j)) hG
          have hec := fun (d : Nat) (Q : Option Value → am_H → Prop) => sp_endClause (d := d) (L := L) (b := b) (Q := Q) (a := am_up a1 33 2 (nI (skp T n j))) (c := l.length) (t := (catL l).length + r.2.2.1.length) (x := nI (acN (nxc T n (skp T n r.2.1 + 1)))) (y := 0) hG (by rw [hA2.1.2.2 1 (by decide)]; exact hL.1) hl hA2.2.1
          have hgl := GLS_end (r := []) (vl := r.2.2.2) (ac := acN (nxc T n (skp T n r.2.1 + 1))) (dy := 0) hG hL hA2
          have g := hQ _ (⟨fun c h1 h2 => by rw [au_d (by omega), au_d (by omega), au_d (by omega), au_d (by omega)]; exact hA2.1.fr.1 c h1 h2, fun j hj => by rw [au_d (by omega), au_d (by omega), au_d (by omega), au_d (by omega)]; exact hA2.1.fr.2 j hj⟩) (by rw [au_d (by omega), au_d (by omega), au_d (by omega), au_d (by omega), au_ss]) (fun _ => hgl)
          simp (disch := (first | assumption | exact tg_12 | exact tg_13 | exact tg_2 | exact tg_20 | exact tg_14 | exact tg_15 | exact tg_16 | exact tg_17 | exact tg_18 | exact tg_19 | exact tg_21 | exact tg_22 | exact tg_23 | exact tg_24 | exact tg_25 | exact tg_26 | exact tg_33 | exact tg_34 | exact tg_35 | exact tg_36 | exact tg_37 | exact tg_38 | exact tg_39 | exact tg_40 | exact tg_41 | exact tg_42 | exact tg_43 | exact tg_52 | exact tg_1 | exact tg_3 | exact (show _ from rfl) | exact Nat.le_of_ble_eq_true rfl | exact bi_01 _ | exact Or.inl rfl | exact Or.inr rfl | exact ib_2 (by first | assumption | omega) | exact ib_20 (by first | assumption | omega) | exact ib_14 (by first | assumption | omega) | exact ib_15 (by first | assumption | omega) | exact ib_16 (by first | assumption | omega) | exact ib_17 (by first | assumption | omega) | exact ib_18 (by first | assumption | omega) | exact ib_19 (by first | assumption | omega) | exact ib_21 (by first | assumption | omega) | exact ib_22 (by first | assumption | omega) | exact ib_23 (by first | assumption | omega) | exact ib_24 (by first | assumption | omega) | exact ib_25 (by first | assumption | omega) | exact ib_26 (by first | assumption | omega) | exact ib_34 (by first | assumption | omega) | exact ib_36 (by first | assumption | omega) | exact ib_37 (by first | assumption | omega) | exact ib_38 (by first | assumption | omega) | exact ib_40 (by first | assumption | omega) | exact ib_41 (by first | assumption | omega) | exact ib_43 (by first | assumption | omega) | exact ib_52 (by first | assumption | omega) | exact ib_1 (by first | assumption | omega) | exact ib_3 (by first | assumption | omega) | omega | decide | exact il_14_0 | exact il_14_1 | exact il_14_2 | exact il_14_3 | exact il_14_4 | exact il_21_0 | exact il_21_1 | exact il_21_2)) only [st_X8_readClause_0, st_X8_readClause_1, st_X8_readClause_2, st_X8_readClause_3, st_X8_readClause_6, st_X8_readClause_9, st_X8_readClause_10, st_X8_readClause_12, st_X8_readClause_15, st_X8_readClause_18, st_X8_readClause_19, st_X8_readClause_20, st_X8_readClause_21, st_X8_readClause_23, st_X8_readClause_26, st_X8_readClause_27, st_X8_readClause_28, st_X8_readClause_31, st_X8_readClause_32, st_X8_readClause_33, st_X8_readClause_34, st_X8_readClause_36, st_X8_readClause_39, st_X8_readClause_42, st_X8_readClause_43, st_X8_readClause_46, st_X8_readClause_49, st_X8_readClause_50, st_X8_readClause_51, st_X8_readClause_52, st_X8_readClause_55, st_X8_readClause_56, st_X8_readClause_57, st_X8_readClause_58, st_X8_readClause_59, st_X8_readClause_60, st_X8_readClause_63, st_X8_readClause_64, e58, htk, hac, if_neg p3, e64, htk2, if_neg n00, hec, Option.toList_some, Option.toList_none, List.cons_append, List.nil_append, Option.getD_some, am_nlI, am_nlR, am_nlN, bi_eq0, if_true, if_false, bf_tf, bf_ft]
          exact g
        | true =>
          obtain ⟨v1, v2, v3⟩ := tk_t hc4
          rw [if_neg (by rw [hc4]; decide), v2] at hQ
          rw [hc4, v2] at htk2
          have hT4 : TP (am_up a1 33 2 (nI (skp T n j + 1))) T n := (hR.1.tp hG hT).up
          have hdy := fun (d : Nat) (Q : Option Value → am_H → Prop) => sp_readDay (d := d) (L := L) (b := b) (Q := Q) (i := skp T n j + 1) hT4 v1 au_ss
          simp only [au_uu] at hdy
          have pg := pDay_good (T := T) (n := n) (i := skp T n j + 1) v1
          generalize pDay T n (skp T n j + 1) = q at *
          cases hq : q.1 with
          | false =>
            rw [if_pos hq] at hQ
            simp only [hq, Bool.false_eq_true, if_false] at hdy
            have g := hQ (am_up a1 33 2 (nI q.2.1)) hR.1.fr.at au_ss ff
            simp (disch := (first | assumption | exact tg_12 | exact tg_13 | exact tg_2 | exact tg_20 | exact tg_14 | exact tg_15 | exact tg_16 | exact tg_17 | exact tg_18 | exact tg_19 | exact tg_21 | exact tg_22 | exact tg_23 | exact tg_24 | exact tg_25 | exact tg_26 | exact tg_33 | exact tg_34 | exact tg_35 | exact tg_36 | exact tg_37 | exact tg_38 | exact tg_39 | exact tg_40 | exact tg_41 | exact tg_42 | exact tg_43 | exact tg_52 | exact tg_1 | exact tg_3 | exact (show _ from rfl) | exact Nat.le_of_ble_eq_true rfl | exact bi_01 _ | exact Or.inl rfl | exact Or.inr rfl | exact ib_2 (by first | assumption | omega) | exact ib_20 (by first | assumption | omega) | exact ib_14 (by first | assumption | omega) | exact ib_15 (by first | assumption | omega) | exact ib_16 (by first | assumption | omega) | exact ib_17 (by first | assumption | omega) | exact ib_18 (by first | assumption | omega) | exact ib_19 (by first | assumption | omega) | exact ib_21 (by first | assumption | omega) | exact ib_22 (by first | assumption | omega) | exact ib_23 (by first | assumption | omega) | exact ib_24 (by first | assumption | omega) | exact ib_25 (by first | assumption | omega) | exact ib_26 (by first | assumption | omega) | exact ib_34 (by first | assumption | omega) | exact ib_36 (by first | assumption | omega) | exact ib_37 (by first | assumption | omega) | exact ib_38 (by first | assumption | omega) | exact ib_40 (by first | assumption | omega) | exact ib_41 (by first | assumption | omega) | exact ib_43 (by first | assumption | omega) | exact ib_52 (by first | assumption | omega) | exact ib_1 (by first | assumption | omega) | exact ib_3 (by first | assumption | omega) | omega | decide | exact il_14_0 | exact il_14_1 | exact il_14_2 | exact il_14_3 | exact il_14_4 | exact il_21_0 | exact il_21_1 | exact il_21_2)) only [st_X8_readClause_0, st_X8_readClause_1, st_X8_readClause_2, st_X8_readClause_3, st_X8_readClause_6, st_X8_readClause_9, st_X8_readClause_10, st_X8_readClause_12, st_X8_readClause_15, st_X8_readClause_18, st_X8_readClause_19, st_X8_readClause_20, st_X8_readClause_21, st_X8_readClause_23, st_X8_readClause_26, st_X8_readClause_27, st_X8_readClause_28, st_X8_readClause_31, st_X8_readClause_32, st_X8_readClause_33, st_X8_readClause_34, st_X8_readClause_36, st_X8_readClause_39, st_X8_readClause_42, st_X8_readClause_43, st_X8_readClause_46, st_X8_readClause_49, st_X8_readClause_50, st_X8_readClause_51, st_X8_readClause_52, st_X8_readClause_55, st_X8_readClause_56, st_X8_readClause_57, st_X8_readClause_58, st_X8_readClause_59, st_X8_readClause_60, st_X8_readClause_63, st_X8_readClause_64, e58, htk, hac, if_neg p3, e64, htk2, hdy, if_pos neg4, Option.toList_some, Option.toList_none, List.cons_append, List.nil_append, Option.getD_some, am_nlI, am_nlR, am_nlN, bi_eq0, if_true, if_false, bf_tf, bf_ft]
            exact g
          | true =>
            rw [if_neg (by rw [hq]; decide)] at hQ
            simp only [hq, if_true] at hdy
            have p4 : ¬ nI q.2.2 < 0 := nI_pos (by omega)
            have hA2 := hA.at (y := nI q.2.1) hG
            have hec := fun (d : Nat) (Q : Option Value → am_H → Prop) => sp_endClause (d := d) (L := L) (b := b) (Q := Q) (a := am_up a1 33 2 (nI q.2.1)) (c := l.length) (t := (catL l).length + r.2.2.1.length) (x := nI (acN (nxc T n (skp T n r.2.1 + 1)))) (y := nI q.2.2) hG (by rw [hA2.1.2.2 1 (by decide)]; exact hL.1) hl hA2.2.1
            have hgl := GLS_end (r := []) (vl := r.2.2.2) (ac := acN (nxc T n (skp T n r.2.1 + 1))) (dy := q.2.2) hG hL hA2
            have g := hQ _ (⟨fun c h1 h2 => by rw [au_d (by omega), au_d (by omega), au_d (by omega), au_d (by omega)]; exact hA2.1.fr.1 c h1 h2, fun j hj => by rw [au_d (by omega), au_d (by omega), au_d (by omega), au_d (by omega)]; exact hA2.1.fr.2 j hj⟩) (by rw [au_d (by omega), au_d (by omega), au_d (by omega), au_d (by omega), au_ss]) (fun _ => hgl)
            simp (disch := (first | assumption | exact tg_12 | exact tg_13 | exact tg_2 | exact tg_20 | exact tg_14 | exact tg_15 | exact tg_16 | exact tg_17 | exact tg_18 | exact tg_19 | exact tg_21 | exact tg_22 | exact tg_23 | exact tg_24 | exact tg_25 | exact tg_26 | exact tg_33 | exact tg_34 | exact tg_35 | exact tg_36 | exact tg_37 | exact tg_38 | exact tg_39 | exact tg_40 | exact tg_41 | exact tg_42 | exact tg_43 | exact tg_52 | exact tg_1 | exact tg_3 | exact (show _ from rfl) | exact Nat.le_of_ble_eq_true rfl | exact bi_01 _ | exact Or.inl rfl | exact Or.inr rfl | exact ib_2 (by first | assumption | omega) | exact ib_20 (by first | assumption | omega) | exact ib_14 (by first | assumption | omega) | exact ib_15 (by first | assumption | omega) | exact ib_16 (by first | assumption | omega) | exact ib_17 (by first | assumption | omega) | exact ib_18 (by first | assumption | omega) | exact ib_19 (by first | assumption | omega) | exact ib_21 (by first | assumption | omega) | exact ib_22 (by first | assumption | omega) | exact ib_23 (by first | assumption | omega) | exact ib_24 (by first | assumption | omega) | exact ib_25 (by first | assumption | omega) | exact ib_26 (by first | assumption | omega) | exact ib_34 (by first | assumption | omega) | exact ib_36 (by first | assumption | omega) | exact ib_37 (by first | assumption | omega) | exact ib_38 (by first | assumption | omega) | exact ib_40 (by first | assumption | omega) | exact ib_41 (by first | assumption | omega) | exact ib_43 (by first | assumption | omega) | exact ib_52 (by first | assumption | omega) | exact ib_1 (by first | assumption | omega) | exact ib_3 (by first | assumption | omega) | omega | decide | exact il_14_0 | exact il_14_1 | exact il_14_2 | exact il_14_3 | exact il_14_4 | exact il_21_0 | exact il_21_1 | exact il_21_2)) only [st_X8_readClause_0, st_X8_readClause_1, st_X8_readClause_2, st_X8_readClause_3, st_X8_readClause_6, st_X8_readClause_9, st_X8_readClause_10, st_X8_readClause_12, st_X8_readClause_15, st_X8_readClause_18, st_X8_readClause_19, st_X8_readClause_20, st_X8_readClause_21, st_X8_readClause_23, st_X8_readClause_26, st_X8_readClause_27, st_X8_readClause_28, st_X8_readClause_31, st_X8_readClause_32, st_X8_readClause_33, st_X8_readClause_34, st_X8_readClause_36, st_X8_readClause_39, st_X8_readClause_42, st_X8_readClause_43, st_X8_readClause_46, st_X8_readClause_49, st_X8_readClause_50, st_X8_readClause_51, st_X8_readClause_52, st_X8_readClause_55, st_X8_readClause_56, st_X8_readClause_57, st_X8_readClause_58, st_X8_readClause_59, st_X8_readClause_60, st_X8_readClause_63, st_X8_readClause_64, e58, htk, hac, if_neg p3, e64, htk2, hdy, if_neg p4, hec, Option.toList_some, Option.toList_none, List.cons_append, List.nil_append, Option.getD_some, am_nlI, am_nlR, am_nlN, bi_eq0, if_true, if_false, bf_tf, bf_ft]
            exact g
end GRD
