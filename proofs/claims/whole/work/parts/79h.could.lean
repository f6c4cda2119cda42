/-! could, first: the class -/
def alF (f : Nat → Bool) : Nat → Bool
  | 0 => true
  | n + 1 => alF f n && f n
theorem alF_t {f : Nat → Bool} : ∀ {n : Nat}, (∀ i, i < n → f i = true) → alF f n = true
  | 0, _ => rfl
  | n + 1, h => by unfold alF; rw [alF_t (fun i hi => h i (by omega)), h n (by omega)]; rfl
theorem alF_f {f : Nat → Bool} {i : Nat} (h : f i = false) : ∀ {n : Nat}, i < n → alF f n = false
  | 0, hi => by omega
  | n + 1, hi => by
    unfold alF
    by_cases e : i = n
    · subst e; rw [h, Bool.and_false]
    · rw [alF_f h (show i < n by omega), Bool.false_and]
def agF (pl hr : Nat → Nat) (td : Nat → Bool) (h : Nat) (g : Nat → Bool) : Nat → Bool
  | 0 => true
  | r + 1 => agF pl hr td h g r && (!decide (hr r = h) || decide (g (pl r) = td r))
def lqF (pl hr : Nat → Nat) (td : Nat → Bool) (z : Bool) (h p : Nat) : Nat → Bool
  | 0 => false
  | r + 1 => lqF pl hr td z h p r || (decide (hr r = h) && (decide (pl r = p) && decide (td r = z)))
theorem agF_iff {pl hr : Nat → Nat} {td : Nat → Bool} {h : Nat} {g : Nat → Bool} : ∀ R, agF pl hr td h g R = true ↔ ∀ r, r < R → hr r = h → g (pl r) = td r
  | 0 => ⟨fun _ r hr => by omega, fun _ => rfl⟩
  | R + 1 => by
    unfold agF
    rw [Bool.and_eq_true, agF_iff R]
    constructor
    · rintro ⟨h1, h2⟩ r hr e
      by_cases e2 : r = R
      · subst e2
        rw [decide_eq_true e] at h2
        simpa using h2
      · exact h1 r (by omega) e
    · intro h1
      refine ⟨fun r hr e => h1 r (by omega) e, ?_⟩
      by_cases e : hr R = h
      · rw [decide_eq_true e, decide_eq_true (h1 R (by omega) e)]; rfl
      · rw [decide_eq_false e]; rfl
theorem lqF_iff {pl hr : Nat → Nat} {td : Nat → Bool} {z : Bool} {h p : Nat} : ∀ R, lqF pl hr td z h p R = true ↔ ∃ r, r < R ∧ hr r = h ∧ pl r = p ∧ td r = z
  | 0 => ⟨fun h => by simp [lqF] at h, fun ⟨r, hr, _⟩ => by omega⟩
  | R + 1 => by
    unfold lqF
    rw [Bool.or_eq_true, lqF_iff R]
    constructor
    · rintro (⟨r, h1, h2⟩ | h1)
      · exact ⟨r, by omega, h2⟩
      · simp at h1
        exact ⟨R, by omega, h1⟩
    · rintro ⟨r, h1, h2, h3, h4⟩
      by_cases e : r = R
      · subst e
        exact Or.inr (by simp [h2, h3, h4])
      · exact Or.inl ⟨r, by omega, h2, h3, h4⟩
theorem mk_and0 {f g : Nat → Bool} {n : Nat} : mk f n &&& mk g n = 0 ↔ ∀ i, i < n → f i = true → g i = false := by
  constructor
  · intro h i hi h1
    have e : (mk f n &&& mk g n).testBit i = false := by rw [h]; exact Nat.zero_testBit i
    rw [Nat.testBit_and, mk_bit, mk_bit, decide_eq_true hi, h1] at e
    simpa using e
  · intro h
    apply Nat.eq_of_testBit_eq
    intro i
    rw [Nat.testBit_and, mk_bit, mk_bit, Nat.zero_testBit]
    by_cases hi : i < n
    · cases h1 : f i with
      | false => simp
      | true => simp [h i hi h1]
    · simp [hi]
/-- the reports as the class has them -/
def RC (a : Nat → Nat → Int32) (pl hr : Nat → Nat) (td : Nat → Bool) (R : Nat) : Prop := ∀ h, h < 24 → a 40 h = nI (mk (fun p => lqF pl hr td true h p R) 6) ∧ a 41 h = nI (mk (fun p => lqF pl hr td false h p R) 6)
def beg (p : Nat) (v t : Int32) : Nat → PS := fun o => if o = p then mkP 1 t v 17 t else mkP 0 0 0 0 0
def gT (E : ENV) (p : Nat) (v : Int32) (h t pl : Nat) : Bool := !decide (t < h) && hdF E (nI h) (beg p v (nI h)) pl (t - h)
def couB (E : ENV) (pl hr : Nat → Nat) (td : Nat → Bool) (R p : Nat) (v : Int32) (h : Nat) : Bool := alF (fun t => agF pl hr td t (gT E p v h t) R) 24
section COU
variable {d L m s R h p l : Nat} {b : Bool} {a : Nat → Nat → Int32} {Q : Option Value → am_H → Prop} {E : ENV} {pl hr : Nat → Nat} {td g : Nat → Bool} {u y z v : Int32}
set_option maxRecDepth 100000 in
theorem sp_agreeWith (hR : RC a pl hr td R) (hpl : ∀ r, r < R → pl r < 6) (hh : h < 24) : CALL d 27 [.ref (39 : Nat), .int (nI h), .int (nI (mk g 6))] (CT L, a, RR b) Q = Q (some (.int (bi (agF pl hr td h g R)))) (CT L, a, RR b) := by
  obtain ⟨h1, h2⟩ := hR h hh
  have hch : (nI h).toNatClampNeg = h := nI_clamp (by omega)
  have l1 : mk (fun p => lqF pl hr td true h p R) 6 < 256 := Nat.lt_of_lt_of_le (mk_lt _ 6) (by decide)
  have l2 : mk (fun p => lqF pl hr td false h p R) 6 < 256 := Nat.lt_of_lt_of_le (mk_lt _ 6) (by decide)
  have l3 : mk g 6 < 256 := Nat.lt_of_lt_of_le (mk_lt _ 6) (by decide)
  have e1 : (nI (mk (fun p => lqF pl hr td true h p R) 6) &&& (nI (mk g 6) ^^^ (-1)) = 0) = (∀ p, p < 6 → lqF pl hr td true h p R = true → g p = true) := by
    rw [sub_iff l1, sbt_iff]
    refine propext ⟨fun H p hp c => ?_, fun H p hp c => ?_⟩
    · have := H p (by omega) (by rw [mk_bit, decide_eq_true hp, c]; rfl)
      rw [mk_bit, decide_eq_true hp] at this
      exact this
    · rw [mk_bit] at c ⊢
      by_cases hp6 : p < 6
      · rw [decide_eq_true hp6, Bool.true_and] at c ⊢
        exact H p hp6 c
      · rw [decide_eq_false hp6] at c
        simp at c
  have l4 : mk (fun p => lqF pl hr td false h p R) 6 &&& mk g 6 < 2 ^ 31 := Nat.lt_of_le_of_lt Nat.and_le_left (by omega)
  have e2 : (nI (mk (fun p => lqF pl hr td false h p R) 6) &&& nI (mk g 6) = 0) = (∀ p, p < 6 → lqF pl hr td false h p R = true → g p = false) := by
    rw [nI_and]
    refine propext ⟨fun H => mk_and0.1 ((nI_eq (b := 0) l4 (by decide)).1 H), fun H => ?_⟩
    rw [mk_and0.2 H]
    rfl
  by_cases c1 : ∀ p, p < 6 → lqF pl hr td true h p R = true → g p = true
  · have c1' : nI (mk (fun p => lqF pl hr td true h p R) 6) &&& (nI (mk g 6) ^^^ (-1)) = 0 := by rw [e1]; exact c1
    by_cases c2 : ∀ p, p < 6 → lqF pl hr td false h p R = true → g p = false
    · have c2' : nI (mk (fun p => lqF pl hr td false h p R) 6) &&& nI (mk g 6) = 0 := by rw [e2]; exact c2
      have hag : agF pl hr td h g R = true := (agF_iff R).2 (fun r hr1 e => by
        cases ht : td r with
        | true => exact c1 (pl r) (hpl r hr1) ((lqF_iff R).2 ⟨r, hr1, e, rfl, ht⟩)
        | false => exact c2 (pl r) (hpl r hr1) ((lqF_iff R).2 ⟨r, hr1, e, rfl, ht⟩))
      simp (disch := (first | assumption | exact tg_12 | exact tg_13 | exact tg_2 | exact tg_20 | exact tg_14 | exact tg_15 | exact tg_16 | exact tg_17 | exact tg_18 | exact tg_19 | exact tg_21 | exact tg_22 | exact tg_23 | exact tg_24 | exact tg_25 | exact tg_26 | exact tg_33 | exact tg_34 | exact tg_35 | exact tg_36 | exact tg_37 | exact tg_38 | exact tg_39 | exact tg_40 | exact tg_41 | exact tg_42 | exact tg_43 | exact tg_52 | exact tg_1 | exact tg_3 | exact (show _ from rfl) | exact Nat.le_of_ble_eq_true rfl | exact bi_01 _ | exact Or.inl rfl | exact Or.inr rfl | exact ib_2 (by first | assumption | omega) | exact ib_20 (by first | assumption | omega) | exact ib_14 (by first | assumption | omega) | exact ib_15 (by first | assumption | omega) | exact ib_16 (by first | assumption | omega) | exact ib_17 (by first | assumption | omega) | exact ib_18 (by first | assumption | omega) | exact ib_19 (by first | assumption | omega) | exact ib_21 (by first | assumption | omega) | exact ib_22 (by first | assumption | omega) | exact ib_23 (by first | assumption | omega) | exact ib_24 (by first | assumption | omega) | exact ib_25 (by first | assumption | omega) | exact ib_26 (by first | assumption | omega) | exact ib_34 (by first | assumption | omega) | exact ib_36 (by first | assumption | omega) | exact ib_37 (by first | assumption | omega) | exact ib_38 (by first | assumption | omega) | exact ib_40 (by first | assumption | omega) | exact ib_41 (by first | assumption | omega) | exact ib_43 (by first | assumption | omega) | exact ib_52 (by first | assumption | omega) | exact ib_1 (by first | assumption | omega) | exact ib_3 (by first | assumption | omega) | omega | decide | exact il_14_0 | exact il_14_1 | exact il_14_2 | exact il_14_3 | exact il_14_4 | exact il_21_0 | exact il_21_1 | exact il_21_2)) only [en_X4_agreeWith, st_X4_agreeWith_0, st_X4_agreeWith_1, st_X4_agreeWith_4, st_X4_agreeWith_5, st_X4_agreeWith_6, st_X4_agreeWith_7, st_X4_agreeWith_8, st_X4_agreeWith_9, st_X4_agreeWith_10, st_X4_agreeWith_13, st_X4_agreeWith_14, st_X4_agreeWith_17, st_X4_agreeWith_18, st_X4_agreeWith_19, st_X4_agreeWith_20, st_X4_agreeWith_21, st_X4_agreeWith_24, st_X4_agreeWith_25, st_X4_agreeWith_28, st_X4_agreeWith_29, rr_12_0, rr_12_1, rr_12_2, rr_12_3, rr_12_4, rr_12_5, rr_12_6, rr_12_7, rr_12_8, rr_12_9, rr_13_0, rr_13_1, rr_13_3, rr_13_4, rr_14_0, rr_14_1, rr_14_2, rr_14_3, rr_14_4, rr_21_0, rr_21_1, rr_21_2, rr_33_1, rr_35_0, rr_35_1, rr_35_3, rr_39_2, rr_39_3, rr_42_0, tc_0, tc_1, tc_2, tc_3, tc_4, tc_5, tc_6, tc_7, tc_8, tc_9, hch, h1, h2, if_pos c1', if_pos c2', hag, bi_t, Option.toList_some, Option.toList_none, List.cons_append, List.nil_append, Option.getD_some, am_nlI, am_nlR, am_nlN, bi_eq0, if_true, if_false, bf_tf, bf_ft]
    · have c2' : ¬ nI (mk (fun p => lqF pl hr td false h p R) 6) &&& nI (mk g 6) = 0 := by rw [e2]; exact c2
      have hag : agF pl hr td h g R = false := by
        cases hag : agF pl hr td h g R with
        | false => rfl
        | true =>
          exfalso
          refine c2 (fun p hp hl => ?_)
          obtain ⟨r, r1, r2, r3, r4⟩ := (lqF_iff R).1 hl
          have := (agF_iff R).1 hag r r1 r2
          rw [r3, r4] at this
          exact this
      simp (disch := (first | assumption | exact tg_12 | exact tg_13 | exact tg_2 | exact tg_20 | exact tg_14 | exact tg_15 | exact tg_16 | exact tg_17 | exact tg_18 | exact tg_19 | exact tg_21 | exact tg_22 | exact tg_23 | exact tg_24 | exact tg_25 | exact tg_26 | exact tg_33 | exact tg_34 | exact tg_35 | exact tg_36 | exact tg_37 | exact tg_38 | exact tg_39 | exact tg_40 | exact tg_41 | exact tg_42 | exact tg_43 | exact tg_52 | exact tg_1 | exact tg_3 | exact (show _ from rfl) | exact Nat.le_of_ble_eq_true rfl | exact bi_01 _ | exact Or.inl rfl | exact Or.inr rfl | exact ib_2 (by first | assumption | omega) | exact ib_20 (by first | assumption | omega) | exact ib_14 (by first | assumption | omega) | exact ib_15 (by first | assumption | omega) | exact ib_16 (by first | assumption | omega) | exact ib_17 (by first | assumption | omega) | exact ib_18 (by first | assumption | omega) | exact ib_19 (by first | assumption | omega) | exact ib_21 (by first | assumption | omega) | exact ib_22 (by first | assumption | omega) | exact ib_23 (by first | assumption | omega) | exact ib_24 (by first | assumption | omega) | exact ib_25 (by first | assumption | omega) | exact ib_26 (by first | assumption | omega) | exact ib_34 (by first | assumption | omega) | exact ib_36 (by first | assumption | omega) | exact ib_37 (by first | assumption | omega) | exact ib_38 (by first | assumption | omega) | exact ib_40 (by first | assumption | omega) | exact ib_41 (by first | assumption | omega) | exact ib_43 (by first | assumption | omega) | exact ib_52 (by first | assumption | omega) | exact ib_1 (by first | assumption | omega) | exact ib_3 (by first | assumption | omega) | omega | decide | exact il_14_0 | exact il_14_1 | exact il_14_2 | exact il_14_3 | exact il_14_4 | exact il_21_0 | exact il_21_1 | exact il_21_2)) only [en_X4_agreeWith, st_X4_agreeWith_0, st_X4_agreeWith_1, st_X4_agreeWith_4, st_X4_agreeWith_5, st_X4_agreeWith_6, st_X4_agreeWith_7, st_X4_agreeWith_8, st_X4_agreeWith_9, st_X4_agreeWith_10, st_X4_agreeWith_13, st_X4_agreeWith_14, st_X4_agreeWith_17, st_X4_agreeWith_18, st_X4_agreeWith_19, st_X4_agreeWith_20, st_X4_agreeWith_21, st_X4_agreeWith_24, st_X4_agreeWith_25, st_X4_agreeWith_28, st_X4_agreeWith_29, rr_12_0, rr_12_1, rr_12_2, rr_12_3, rr_12_4, rr_12_5, rr_12_6, rr_12_7, rr_12_8, rr_12_9, rr_13_0, rr_13_1, rr_13_3, rr_13_4, rr_14_0, rr_14_1, rr_14_2, rr_14_3, rr_14_4, rr_21_0, rr_21_1, rr_21_2, rr_33_1, rr_35_0, rr_35_1, rr_35_3, rr_39_2, rr_39_3, rr_42_0, tc_0, tc_1, tc_2, tc_3, tc_4, tc_5, tc_6, tc_7, tc_8, tc_9, hch, h1, h2, if_pos c1', if_neg c2', hag, bi_f, Option.toList_some, Option.toList_none, List.cons_append, List.nil_append, Option.getD_some, am_nlI, am_nlR, am_nlN, bi_eq0, if_true, if_false, bf_tf, bf_ft]
  · have c1' : ¬ nI (mk (fun p => lqF pl hr td true h p R) 6) &&& (nI (mk g 6) ^^^ (-1)) = 0 := by rw [e1]; exact c1
    have hag : agF pl hr td h g R = false := by
      cases hag : agF pl hr td h g R with
      | false => rfl
      | true =>
        exfalso
        refine c1 (fun p hp hl => ?_)
        obtain ⟨r, r1, r2, r3, r4⟩ := (lqF_iff R).1 hl
        have := (agF_iff R).1 hag r r1 r2
        rw [r3, r4] at this
        exact this
    simp (disch := (first | assumption | exact tg_12 | exact tg_13 | exact tg_2 | exact tg_20 | exact tg_14 | exact tg_15 | exact tg_16 | exact tg_17 | exact tg_18 | exact tg_19 | exact tg_21 | exact tg_22 | exact tg_23 | exact tg_24 | exact tg_25 | exact tg_26 | exact tg_33 | exact tg_34 | exact tg_35 | exact tg_36 | exact tg_37 | exact tg_38 | exact tg_39 | exact tg_40 | exact tg_41 | exact tg_42 | exact tg_43 | exact tg_52 | exact tg_1 | exact tg_3 | exact (show _ from rfl) | exact Nat.le_of_ble_eq_true rfl | exact bi_01 _ | exact Or.inl rfl | exact Or.inr rfl | exact ib_2 (by first | assumption | omega) | exact ib_20 (by first | assumption | omega) | exact ib_14 (by first | assumption | omega) | exact ib_15 (by first | assumption | omega) | exact ib_16 (by first | assumption | omega) | exact ib_17 (by first | assumption | omega) | exact ib_18 (by first | assumption | omega) | exact ib_19 (by first | assumption | omega) | exact ib_21 (by first | assumption | omega) | exact ib_22 (by first | assumption | omega) | exact ib_23 (by first | assumption | omega) | exact ib_24 (by first | assumption | omega) | exact ib_25 (by first | assumption | omega) | exact ib_26 (by first | assumption | omega) | exact ib_34 (by first | assumption | omega) | exact ib_36 (by first | assumption | omega) | exact ib_37 (by first | assumption | omega) | exact ib_38 (by first | assumption | omega) | exact ib_40 (by first | assumption | omega) | exact ib_41 (by first | assumption | omega) | exact ib_43 (by first | assumption | omega) | exact ib_52 (by first | assumption | omega) | exact ib_1 (by first | assumption | omega) | exact ib_3 (by first | assumption | omega) | omega | decide | exact il_14_0 | exact il_14_1 | exact il_14_2 | exact il_14_3 | exact il_14_4 | exact il_21_0 | exact il_21_1 | exact il_21_2)) only [en_X4_agreeWith, st_X4_agreeWith_0, st_X4_agreeWith_1, st_X4_agreeWith_4, st_X4_agreeWith_5, st_X4_agreeWith_6, st_X4_agreeWith_7, st_X4_agreeWith_8, st_X4_agreeWith_9, st_X4_agreeWith_10, st_X4_agreeWith_13, st_X4_agreeWith_14, st_X4_agreeWith_17, st_X4_agreeWith_18, st_X4_agreeWith_19, st_X4_agreeWith_20, st_X4_agreeWith_21, st_X4_agreeWith_24, st_X4_agreeWith_25, st_X4_agreeWith_28, st_X4_agreeWith_29, rr_12_0, rr_12_1, rr_12_2, rr_12_3, rr_12_4, rr_12_5, rr_12_6, rr_12_7, rr_12_8, rr_12_9, rr_13_0, rr_13_1, rr_13_3, rr_13_4, rr_14_0, rr_14_1, rr_14_2, rr_14_3, rr_14_4, rr_21_0, rr_21_1, rr_21_2, rr_33_1, rr_35_0, rr_35_1, rr_35_3, rr_39_2, rr_39_3, rr_42_0, tc_0, tc_1, tc_2, tc_3, tc_4, tc_5, tc_6, tc_7, tc_8, tc_9, hch, h1, h2, if_neg c1', hag, bi_f, Option.toList_some, Option.toList_none, List.cons_append, List.nil_append, Option.getD_some, am_nlI, am_nlR, am_nlN, bi_eq0, if_true, if_false, bf_tf, bf_ft]
theorem RC.sc {a' : Nat → Nat → Int32} (h : RC a pl hr td R) (s : SC a a') : RC a' pl hr td R := fun t ht => by
  rw [s 40 (by decide) (by omega), s 41 (by decide) (by omega)]
  exact h t ht
theorem GV_beg {n : Nat} {w : Nat} {t : Int32} (hw : w < 10000) : GV (beg p (nI w) t) n := fun o ho h0 => by
  unfold beg at h0 ⊢
  by_cases e : o = p
  · rw [if_pos e]; exact ⟨w, hw, rfl⟩
  · rw [if_neg e] at h0; exact absurd rfl h0
set_option maxRecDepth 100000 in
theorem sp_agrees {w : Nat} (hE : EOK E) (hC : EC a E) (hR : RC a pl hr td R) (hpl : ∀ r, r < R → pl r < 6) (hhr : ∀ r, r < R → hr r < l) (hl : l ≤ 24) (hla : ∀ t, t ≤ 24 → (a 39 1 < nI t) = (l ≤ t)) (hw : w < 10000) (hp : p < E.n) (hh : h < 24)
    (hQ : ∀ a', SC a a' → Q (some (.int (bi (couB E pl hr td R p (nI w) h)))) (CT L, a', RR b)) : CALL (d + 4) 119 [.ref (12 : Nat), .int (nI w), .int (nI p), .int (nI h)] (CT L, a, RR b) Q := by
  have hn := hE.n
  have hp16 : p < 16 := by omega
  have r27 : RR b 12 2 = some 27 := rfl
  have m0 : (0 : Int32) = nI (mk (fun _ => false) 6) := rfl
  have hag0 : ∀ (d t : Nat) (Q : Option Value → am_H → Prop), t < 24 → CALL d 27 [.ref (39 : Nat), .int (nI t), .int 0] (CT L, a, RR b) Q = Q (some (.int (bi (agF pl hr td t (fun _ => false) R)))) (CT L, a, RR b) := fun d t Q ht => by
    rw [m0]
    exact sp_agreeWith hR hpl ht
  have hlow : ∀ t, t < h → gT E p (nI w) h t = fun _ => false := fun t ht => by
    funext x
    simp [gT, ht]
  simp (disch := (first | assumption | exact tg_12 | exact tg_13 | exact tg_2 | exact tg_20 | exact tg_14 | exact tg_15 | exact tg_16 | exact tg_17 | exact tg_18 | exact tg_19 | exact tg_21 | exact tg_22 | exact tg_23 | exact tg_24 | exact tg_25 | exact tg_26 | exact tg_33 | exact tg_34 | exact tg_35 | exact tg_36 | exact tg_37 | exact tg_38 | exact tg_39 | exact tg_40 | exact tg_41 | exact tg_42 | exact tg_43 | exact tg_52 | exact tg_1 | exact tg_3 | exact (show _ from rfl) | exact Nat.le_of_ble_eq_true rfl | exact bi_01 _ | exact Or.inl rfl | exact Or.inr rfl | exact ib_2 (by first | assumption | omega) | exact ib_20 (by first | assumption | omega) | exact ib_14 (by first | assumption | omega) | exact ib_15 (by first | assumption | omega) | exact ib_16 (by first | assumption | omega) | exact ib_17 (by first | assumption | omega) | exact ib_18 (by first | assumption | omega) | exact ib_19 (by first | assumption | omega) | exact ib_21 (by first | assumption | omega) | exact ib_22 (by first | assumption | omega) | exact ib_23 (by first | assumption | omega) | exact ib_24 (by first | assumption | omega) | exact ib_25 (by first | assumption | omega) | exact ib_26 (by first | assumption | omega) | exact ib_34 (by first | assumption | omega) | exact ib_36 (by first | assumption | omega) | exact ib_37 (by first | assumption | omega) | exact ib_38 (by first | assumption | omega) | exact ib_40 (by first | assumption | omega) | exact ib_41 (by first | assumption | omega) | exact ib_43 (by first | assumption | omega) | exact ib_52 (by first | assumption | omega) | exact ib_1 (by first | assumption | omega) | exact ib_3 (by first | assumption | omega) | omega | decide | exact il_14_0 | exact il_14_1 | exact il_14_2 | exact il_14_3 | exact il_14_4 | exact il_21_0 | exact il_21_1 | exact il_21_2)) only [en_X10_agrees, st_X10_agrees_0, st_X10_agrees_1, st_X10_agrees_5, st_X10_agrees_6, st_X10_agrees_9, st_X10_agrees_10, st_X10_agrees_13, st_X10_agrees_15, st_X10_agrees_16, st_X10_agrees_19, st_X10_agrees_22, st_X10_agrees_23, st_X10_agrees_24, st_X10_agrees_27, st_X10_agrees_30, st_X10_agrees_31, st_X10_agrees_34, st_X10_agrees_37, st_X10_agrees_38, st_X10_agrees_41, st_X10_agrees_42, st_X10_agrees_43, st_X10_agrees_44, st_X10_agrees_47, st_X10_agrees_48, st_X10_agrees_52, st_X10_agrees_53, st_X10_agrees_56, st_X10_agrees_59, st_X10_agrees_62, st_X10_agrees_63, st_X10_agrees_66, st_X10_agrees_68, st_X10_agrees_69, st_X10_agrees_72, st_X10_agrees_73, st_X10_agrees_76, st_X10_agrees_78, st_X10_agrees_81, st_X10_agrees_84, st_X10_agrees_87, st_X10_agrees_88, st_X10_agrees_89, st_X10_agrees_92, st_X10_agrees_95, st_X10_agrees_96, Option.toList_some, Option.toList_none, List.cons_append, List.nil_append, Option.getD_some, am_nlI, am_nlR, am_nlN, bi_eq0, if_true, if_false, bf_tf, bf_ft]
  have hlp : ∀ i, i ≤ h → (∀ t, t < i → agF pl hr td t (fun _ => false) R = true) → AW (d + 4) 119 3 [some (.ref (12 : Nat)), some (.int (nI w)), some (.int (nI p)), some (.int (nI h)), some (.int (nI 0))] [] (CT L, a, RR b) Q = AW (d + 4) 119 3 [some (.ref (12 : Nat)), some (.int (nI w)), some (.int (nI p)), some (.int (nI h)), some (.int (nI i))] [] (CT L, a, RR b) Q := fun i hi ht => loop_eq (P := fun i => AW (d + 4) 119 3 [some (.ref (12 : Nat)), some (.int (nI w)), some (.int (nI p)), some (.int (nI h)), some (.int (nI i))] [] (CT L, a, RR b) Q) i (fun j hj => by
    have hlt : nI j < nI h := nI_lt (by omega) (by omega)
    have hj24 : j < 24 := by omega
    have e := ht j hj
    refine Eq.trans st_X10_agrees_3 ?_
    simp (disch := (first | assumption | exact tg_12 | exact tg_13 | exact tg_2 | exact tg_20 | exact tg_14 | exact tg_15 | exact tg_16 | exact tg_17 | exact tg_18 | exact tg_19 | exact tg_21 | exact tg_22 | exact tg_23 | exact tg_24 | exact tg_25 | exact tg_26 | exact tg_33 | exact tg_34 | exact tg_35 | exact tg_36 | exact tg_37 | exact tg_38 | exact tg_39 | exact tg_40 | exact tg_41 | exact tg_42 | exact tg_43 | exact tg_52 | exact tg_1 | exact tg_3 | exact (show _ from rfl) | exact Nat.le_of_ble_eq_true rfl | exact bi_01 _ | exact Or.inl rfl | exact Or.inr rfl | exact ib_2 (by first | assumption | omega) | exact ib_20 (by first | assumption | omega) | exact ib_14 (by first | assumption | omega) | exact ib_15 (by first | assumption | omega) | exact ib_16 (by first | assumption | omega) | exact ib_17 (by first | assumption | omega) | exact ib_18 (by first | assumption | omega) | exact ib_19 (by first | assumption | omega) | exact ib_21 (by first | assumption | omega) | exact ib_22 (by first | assumption | omega) | exact ib_23 (by first | assumption | omega) | exact ib_24 (by first | assumption | omega) | exact ib_25 (by first | assumption | omega) | exact ib_26 (by first | assumption | omega) | exact ib_34 (by first | assumption | omega) | exact ib_36 (by first | assumption | omega) | exact ib_37 (by first | assumption | omega) | exact ib_38 (by first | assumption | omega) | exact ib_40 (by first | assumption | omega) | exact ib_41 (by first | assumption | omega) | exact ib_43 (by first | assumption | omega) | exact ib_52 (by first | assumption | omega) | exact ib_1 (by first | assumption | omega) | exact ib_3 (by first | assumption | omega) | omega | decide | exact il_14_0 | exact il_14_1 | exact il_14_2 | exact il_14_3 | exact il_14_4 | exact il_21_0 | exact il_21_1 | exact il_21_2)) only [st_X10_agrees_0, st_X10_agrees_1, st_X10_agrees_5, st_X10_agrees_6, st_X10_agrees_9, st_X10_agrees_10, st_X10_agrees_13, st_X10_agrees_15, st_X10_agrees_16, st_X10_agrees_19, st_X10_agrees_22, st_X10_agrees_23, st_X10_agrees_24, st_X10_agrees_27, st_X10_agrees_30, st_X10_agrees_31, st_X10_agrees_34, st_X10_agrees_37, st_X10_agrees_38, st_X10_agrees_41, st_X10_agrees_42, st_X10_agrees_43, st_X10_agrees_44, st_X10_agrees_47, st_X10_agrees_48, st_X10_agrees_52, st_X10_agrees_53, st_X10_agrees_56, st_X10_agrees_59, st_X10_agrees_62, st_X10_agrees_63, st_X10_agrees_66, st_X10_agrees_68, st_X10_agrees_69, st_X10_agrees_72, st_X10_agrees_73, st_X10_agrees_76, st_X10_agrees_78, st_X10_agrees_81, st_X10_agrees_84, st_X10_agrees_87, st_X10_agrees_88, st_X10_agrees_89, st_X10_agrees_92, st_X10_agrees_95, st_X10_agrees_96, rr_12_0, rr_12_1, rr_12_2, rr_12_3, rr_12_4, rr_12_5, rr_12_6, rr_12_7, rr_12_8, rr_12_9, rr_13_0, rr_13_1, rr_13_3, rr_13_4, rr_14_0, rr_14_1, rr_14_2, rr_14_3, rr_14_4, rr_21_0, rr_21_1, rr_21_2, rr_33_1, rr_35_0, rr_35_1, rr_35_3, rr_39_2, rr_39_3, rr_42_0, tc_0, tc_1, tc_2, tc_3, tc_4, tc_5, tc_6, tc_7, tc_8, tc_9, if_pos hlt, hag0, e, nI_1, Option.toList_some, Option.toList_none, List.cons_append, List.nil_append, Option.getD_some, am_nlI, am_nlR, am_nlN, bi_eq0, if_true, if_false, bf_tf, bf_ft]) i (Nat.le_refl _)
  rcases first_of (fun t => !agF pl hr td t (fun _ => false) R) h with hno | ⟨i, hi, k1, k2⟩
  · refine Eq.mpr (hlp h (Nat.le_refl _) (fun t ht => by simpa using hno t ht)) ?_
    have hlt : ¬ nI h < nI h := nI_nlt (Nat.le_refl _) (by omega)
    rw [st_X10_agrees_3]
    simp (disch := (first | assumption | exact tg_12 | exact tg_13 | exact tg_2 | exact tg_20 | exact tg_14 | exact tg_15 | exact tg_16 | exact tg_17 | exact tg_18 | exact tg_19 | exact tg_21 | exact tg_22 | exact tg_23 | exact tg_24 | exact tg_25 | exact tg_26 | exact tg_33 | exact tg_34 | exact tg_35 | exact tg_36 | exact tg_37 | exact tg_38 | exact tg_39 | exact tg_40 | exact tg_41 | exact tg_42 | exact tg_43 | exact tg_52 | exact tg_1 | exact tg_3 | exact (show _ from rfl) | exact Nat.le_of_ble_eq_true rfl | exact bi_01 _ | exact Or.inl rfl | exact Or.inr rfl | exact ib_2 (by first | assumption | omega) | exact ib_20 (by first | assumption | omega) | exact ib_14 (by first | assumption | omega) | exact ib_15 (by first | assumption | omega) | exact ib_16 (by first | assumption | omega) | exact ib_17 (by first | assumption | omega) | exact ib_18 (by first | assumption | omega) | exact ib_19 (by first | assumption | omega) | exact ib_21 (by first | assumption | omega) | exact ib_22 (by first | assumption | omega) | exact ib_23 (by first | assumption | omega) | exact ib_24 (by first | assumption | omega) | exact ib_25 (by first | assumption | omega) | exact ib_26 (by first | assumption | omega) | exact ib_34 (by first | assumption | omega) | exact ib_36 (by first | assumption | omega) | exact ib_37 (by first | assumption | omega) | exact ib_38 (by first | assumption | omega) | exact ib_40 (by first | assumption | omega) | exact ib_41 (by first | assumption | omega) | exact ib_43 (by first | assumption | omega) | exact ib_52 (by first | assumption | omega) | exact ib_1 (by first | assumption | omega) | exact ib_3 (by first | assumption | omega) | omega | decide | exact il_14_0 | exact il_14_1 | exact il_14_2 | exact il_14_3 | exact il_14_4 | exact il_21_0 | exact il_21_1 | exact il_21_2)) only [st_X10_agrees_0, st_X10_agrees_1, st_X10_agrees_5, st_X10_agrees_6, st_X10_agrees_9, st_X10_agrees_10, st_X10_agrees_13, st_X10_agrees_15, st_X10_agrees_16, st_X10_agrees_19, st_X10_agrees_22, st_X10_agrees_23, st_X10_agrees_24, st_X10_agrees_27, st_X10_agrees_30, st_X10_agrees_31, st_X10_agrees_34, st_X10_agrees_37, st_X10_agrees_38, st_X10_agrees_41, st_X10_agrees_42, st_X10_agrees_43, st_X10_agrees_44, st_X10_agrees_47, st_X10_agrees_48, st_X10_agrees_52, st_X10_agrees_53, st_X10_agrees_56, st_X10_agrees_59, st_X10_agrees_62, st_X10_agrees_63, st_X10_agrees_66, st_X10_agrees_68, st_X10_agrees_69, st_X10_agrees_72, st_X10_agrees_73, st_X10_agrees_76, st_X10_agrees_78, st_X10_agrees_81, st_X10_agrees_84, st_X10_agrees_87, st_X10_agrees_88, st_X10_agrees_89, st_X10_agrees_92, st_X10_agrees_95, st_X10_agrees_96, rr_12_0, rr_12_1, rr_12_2, rr_12_3, rr_12_4, rr_12_5, rr_12_6, rr_12_7, rr_12_8, rr_12_9, rr_13_0, rr_13_1, rr_13_3, rr_13_4, rr_14_0, rr_14_1, rr_14_2, rr_14_3, rr_14_4, rr_21_0, rr_21_1, rr_21_2, rr_33_1, rr_35_0, rr_35_1, rr_35_3, rr_39_2, rr_39_3, rr_42_0, tc_0, tc_1, tc_2, tc_3, tc_4, tc_5, tc_6, tc_7, tc_8, tc_9, r27, if_neg hlt, sp_empty SPc.t, sp_start SPc.t hp16, Option.toList_some, Option.toList_none, List.cons_append, List.nil_append, Option.getD_some, am_nlI, am_nlR, am_nlN, bi_eq0, if_true, if_false, bf_tf, bf_ft]
    generalize hA : am_up (am_up (am_up (am_up (am_up (am_row a (27 + 1) (cpf (fun _ => 0) (a (27 + 1)) 16)) (27 + 1) p 1) (27 + 2) p (nI h)) (27 + 3) p (nI w)) (27 + 4) p 17) (27 + 5) p (nI h) = A
    have sA : SC a A := fun k h1 h2 => by
      rw [← hA, au_d (by omega), au_d (by omega), au_d (by omega), au_d (by omega), au_d (by omega), ar_d (by omega)]
    have hEq : EQn E.n (beg p (nI w) (nI h)) (got A 27) := fun o ho => by
      by_cases e : o = p
      · subst e
        have hg : got A 27 o = mkP 1 (nI h) (nI w) 17 (nI h) := by
          rw [← hA]
          unfold got
          simp only [au_ss, au_d (show (27 + 1 : Nat) ≠ 27 + 2 by decide), au_d (show (27 + 1 : Nat) ≠ 27 + 3 by decide), au_d (show (27 + 1 : Nat) ≠ 27 + 4 by decide), au_d (show (27 + 1 : Nat) ≠ 27 + 5 by decide), au_d (show (27 + 2 : Nat) ≠ 27 + 3 by decide), au_d (show (27 + 2 : Nat) ≠ 27 + 4 by decide), au_d (show (27 + 2 : Nat) ≠ 27 + 5 by decide), au_d (show (27 + 3 : Nat) ≠ 27 + 4 by decide), au_d (show (27 + 3 : Nat) ≠ 27 + 5 by decide), au_d (show (27 + 4 : Nat) ≠ 27 + 5 by decide)]
        have hb : beg o (nI w) (nI h) o = mkP 1 (nI h) (nI w) 17 (nI h) := by simp [beg]
        rw [hg, hb]
        exact ⟨rfl, fun _ => rfl⟩
      · have hb : beg p (nI w) (nI h) o = mkP 0 0 0 0 0 := by simp [beg, e]
        have hs0 : (got A 27 o).st = 0 := by
          show A (27 + 1) o = 0
          rw [← hA, au_d (by decide), au_d (by decide), au_d (by decide), au_d (by decide), au_sd e, ar_s]
          simp [cpf, show o < 16 by omega]
        rw [hb]
        exact ⟨hs0.symm, fun h => absurd rfl h⟩
    have hGS : GV (got A 27) E.n := GV_cong hEq (GV_beg hw)
    have hok : ∀ i, h + i < 24 → agF pl hr td (h + i) (fun x => hdF E (nI h) (got A 27) x i) R = agF pl hr td (h + i) (gT E p (nI w) h (h + i)) R := fun i _ => by
      have : gT E p (nI w) h (h + i) = fun x => hdF E (nI h) (got A 27) x i := by
        funext x
        unfold gT
        rw [decide_eq_false (by omega), Nat.add_sub_cancel_left, hdF_cong hEq]
        rfl
      rw [this]
    have main : ∀ n, n ≤ l - h → (∀ i, i < n → agF pl hr td (h + i) (fun x => hdF E (nI h) (got A 27) x i) R = true) → (∀ a', SC a a' → got a' 27 = itH E (nI h) (got A 27) n → AW (d + 4) 119 50 [some (.ref (12 : Nat)), some (.int (nI w)), some (.int (nI p)), some (.int (nI h)), some (.int (nI (h + n)))] [] (CT L, a', RR b) Q) → AW (d + 4) 119 50 [some (.ref (12 : Nat)), some (.int (nI w)), some (.int (nI p)), some (.int (nI h)), some (.int (nI h))] [] (CT L, A, RR b) Q := fun n hn' hall hfin => by
      refine loop_imp (P := fun i h' => AW (d + 4) 119 50 [some (.ref (12 : Nat)), some (.int (nI w)), some (.int (nI p)), some (.int (nI h)), some (.int (nI (h + i)))] [] h' Q) (I := fun i h' => ∃ a', SC a a' ∧ got a' 27 = itH E (nI h) (got A 27) i ∧ h' = (CT L, a', RR b)) n ?_ ?_ _ ⟨A, sA, rfl, rfl⟩
      · rintro i hi h' ⟨a', s1, s2, rfl⟩ hN
        have e39 : a' 39 = a 39 := s1 39 (by decide) (by omega)
        have hge : ¬ a 39 1 < nI (h + i) := by rw [hla (h + i) (by omega)]; omega
        have hph : ∀ (Q : Option Value → am_H → Prop), CALL (d + 3) 61 [.ref (13 : Nat), .ref (27 : Nat), .int (nI (h + i))] (CT L, a', RR b) Q = Q (some (.int (nI (mk (fun x => hdF E (nI h) (got A 27) x i) 6)))) (CT L, put (am_row a' 25 (lrow E (nI h + nI i) (itH E (nI h) (got A 27) i) (a' 25) E.n)) 27 (itH E (nI h) (got A 27) (i + 1)), RR b) := fun Q => by
          have := sp_passHour (d := d) (L := L) (b := b) (a := a') (Q := Q) (S := got a' 27) (t := nI h + nI i) hE (hC.sc s1) (by rw [s2]; exact GV_it hE hGS i) SPc.t
          rw [put_got, s2] at this
          rw [← nI_add]
          exact this
        have e := hall i hi
        have hR' : RC (put (am_row a' 25 (lrow E (nI h + nI i) (itH E (nI h) (got A 27) i) (a' 25) E.n)) 27 (itH E (nI h) (got A 27) (i + 1))) pl hr td R := (hR.sc s1).sc SC_put
        have hag := fun (d : Nat) (Q : Option Value → am_H → Prop) => sp_agreeWith (d := d) (L := L) (b := b) (Q := Q) (h := h + i) (g := fun x => hdF E (nI h) (got A 27) x i) hR' hpl (by omega)
        rw [st_X10_agrees_50]
        simp (disch := (first | assumption | exact tg_12 | exact tg_13 | exact tg_2 | exact tg_20 | exact tg_14 | exact tg_15 | exact tg_16 | exact tg_17 | exact tg_18 | exact tg_19 | exact tg_21 | exact tg_22 | exact tg_23 | exact tg_24 | exact tg_25 | exact tg_26 | exact tg_33 | exact tg_34 | exact tg_35 | exact tg_36 | exact tg_37 | exact tg_38 | exact tg_39 | exact tg_40 | exact tg_41 | exact tg_42 | exact tg_43 | exact tg_52 | exact tg_1 | exact tg_3 | exact (show _ from rfl) | exact Nat.le_of_ble_eq_true rfl | exact bi_01 _ | exact Or.inl rfl | exact Or.inr rfl | exact ib_2 (by first | assumption | omega) | exact ib_20 (by first | assumption | omega) | exact ib_14 (by first | assumption | omega) | exact ib_15 (by first | assumption | omega) | exact ib_16 (by first | assumption | omega) | exact ib_17 (by first | assumption | omega) | exact ib_18 (by first | assumption | omega) | exact ib_19 (by first | assumption | omega) | exact ib_21 (by first | assumption | omega) | exact ib_22 (by first | assumption | omega) | exact ib_23 (by first | assumption | omega) | exact ib_24 (by first | assumption | omega) | exact ib_25 (by first | assumption | omega) | exact ib_26 (by first | assumption | omega) | exact ib_34 (by first | assumption | omega) | exact ib_36 (by first | assumption | omega) | exact ib_37 (by first | assumption | omega) | exact ib_38 (by first | assumption | omega) | exact ib_40 (by first | assumption | omega) | exact ib_41 (by first | assumption | omega) | exact ib_43 (by first | assumption | omega) | exact ib_52 (by first | assumption | omega) | exact ib_1 (by first | assumption | omega) | exact ib_3 (by first | assumption | omega) | omega | decide | exact il_14_0 | exact il_14_1 | exact il_14_2 | exact il_14_3 | exact il_14_4 | exact il_21_0 | exact il_21_1 | exact il_21_2)) only [st_X10_agrees_0, st_X10_agrees_1, st_X10_agrees_5, st_X10_agrees_6, st_X10_agrees_9, st_X10_agrees_10, st_X10_agrees_13, st_X10_agrees_15, st_X10_agrees_16, st_X10_agrees_19, st_X10_agrees_22, st_X10_agrees_23, st_X10_agrees_24, st_X10_agrees_27, st_X10_agrees_30, st_X10_agrees_31, st_X10_agrees_34, st_X10_agrees_37, st_X10_agrees_38, st_X10_agrees_41, st_X10_agrees_42, st_X10_agrees_43, st_X10_agrees_44, st_X10_agrees_47, st_X10_agrees_48, st_X10_agrees_52, st_X10_agrees_53, st_X10_agrees_56, st_X10_agrees_59, st_X10_agrees_62, st_X10_agrees_63, st_X10_agrees_66, st_X10_agrees_68, st_X10_agrees_69, st_X10_agrees_72, st_X10_agrees_73, st_X10_agrees_76, st_X10_agrees_78, st_X10_agrees_81, st_X10_agrees_84, st_X10_agrees_87, st_X10_agrees_88, st_X10_agrees_89, st_X10_agrees_92, st_X10_agrees_95, st_X10_agrees_96, rr_12_0, rr_12_1, rr_12_2, rr_12_3, rr_12_4, rr_12_5, rr_12_6, rr_12_7, rr_12_8, rr_12_9, rr_13_0, rr_13_1, rr_13_3, rr_13_4, rr_14_0, rr_14_1, rr_14_2, rr_14_3, rr_14_4, rr_21_0, rr_21_1, rr_21_2, rr_33_1, rr_35_0, rr_35_1, rr_35_3, rr_39_2, rr_39_3, rr_42_0, tc_0, tc_1, tc_2, tc_3, tc_4, tc_5, tc_6, tc_7, tc_8, tc_9, r27, e39, if_neg hge, hph, hag, e, nI_1, Option.toList_some, Option.toList_none, List.cons_append, List.nil_append, Option.getD_some, am_nlI, am_nlR, am_nlN, bi_eq0, if_true, if_false, bf_tf, bf_ft]
        exact hN _ ⟨_, s1.trans SC_put, by rw [got_put], rfl⟩
      · rintro h' ⟨a', s1, s2, rfl⟩
        exact hfin a' s1 s2
    rcases first_of (fun i => !agF pl hr td (h + i) (fun x => hdF E (nI h) (got A 27) x i) R) (l - h) with hno2 | ⟨i, hi, k1, k2⟩
    · refine main (l - h) (Nat.le_refl _) (fun i hi => by simpa using hno2 i hi) (fun a' s1 s2 => ?_)
      have e39 : a' 39 = a 39 := s1 39 (by decide) (by omega)
      have hge : a 39 1 < nI (h + (l - h)) := by rw [hla _ (by omega)]; omega
      have hres : couB E pl hr td R p (nI w) h = true := alF_t (fun t ht => by
        by_cases c1 : t < h
        · rw [hlow t c1]
          simpa using hno t c1
        · by_cases c2 : t < l
          · have e := hno2 (t - h) (by omega)
            rw [hok (t - h) (by omega), show h + (t - h) = t by omega] at e
            simpa using e
          · exact (agF_iff R).2 (fun r hr1 e => by have := hhr r hr1; omega))
      have g := hQ a' s1
      rw [hres] at g
      rw [st_X10_agrees_50]
      simp (disch := (first | assumption | exact tg_12 | exact tg_13 | exact tg_2 | exact tg_20 | exact tg_14 | exact tg_15 | exact tg_16 | exact tg_17 | exact tg_18 | exact tg_19 | exact tg_21 | exact tg_22 | exact tg_23 | exact tg_24 | exact tg_25 | exact tg_26 | exact tg_33 | exact tg_34 | exact tg_35 | exact tg_36 | exact tg_37 | exact tg_38 | exact tg_39 | exact tg_40 | exact tg_41 | exact tg_42 | exact tg_43 | exact tg_52 | exact tg_1 | exact tg_3 | exact (show _ from rfl) | exact Nat.le_of_ble_eq_true rfl | exact bi_01 _ | exact Or.inl rfl | exact Or.inr rfl | exact ib_2 (by first | assumption | omega) | exact ib_20 (by first | assumption | omega) | exact ib_14 (by first | assumption | omega) | exact ib_15 (by first | assumption | omega) | exact ib_16 (by first | assumption | omega) | exact ib_17 (by first | assumption | omega) | exact ib_18 (by first | assumption | omega) | exact ib_19 (by first | assumption | omega) | exact ib_21 (by first | assumption | omega) | exact ib_22 (by first | assumption | omega) | exact ib_23 (by first | assumption | omega) | exact ib_24 (by first | assumption | omega) | exact ib_25 (by first | assumption | omega) | exact ib_26 (by first | assumption | omega) | exact ib_34 (by first | assumption | omega) | exact ib_36 (by first | assumption | omega) | exact ib_37 (by first | assumption | omega) | exact ib_38 (by first | assumption | omega) | exact ib_40 (by first | assumption | omega) | exact ib_41 (by first | assumption | omega) | exact ib_43 (by first | assumption | omega) | exact ib_52 (by first | assumption | omega) | exact ib_1 (by first | assumption | omega) | exact ib_3 (by first | assumption | omega) | omega | decide | exact il_14_0 | exact il_14_1 | exact il_14_2 | exact il_14_3 | exact il_14_4 | exact il_21_0 | exact il_21_1 | exact il_21_2)) only [st_X10_agrees_0, st_X10_agrees_1, st_X10_agrees_5, st_X10_agrees_6, st_X10_agrees_9, st_X10_agrees_10, st_X10_agrees_13, st_X10_agrees_15, st_X10_agrees_16, st_X10_agrees_19, st_X10_agrees_22, st_X10_agrees_23, st_X10_agrees_24, st_X10_agrees_27, st_X10_agrees_30, st_X10_agrees_31, st_X10_agrees_34, st_X10_agrees_37, st_X10_agrees_38, st_X10_agrees_41, st_X10_agrees_42, st_X10_agrees_43, st_X10_agrees_44, st_X10_agrees_47, st_X10_agrees_48, st_X10_agrees_52, st_X10_agrees_53, st_X10_agrees_56, st_X10_agrees_59, st_X10_agrees_62, st_X10_agrees_63, st_X10_agrees_66, st_X10_agrees_68, st_X10_agrees_69, st_X10_agrees_72, st_X10_agrees_73, st_X10_agrees_76, st_X10_agrees_78, st_X10_agrees_81, st_X10_agrees_84, st_X10_agrees_87, st_X10_agrees_88, st_X10_agrees_89, st_X10_agrees_92, st_X10_agrees_95, st_X10_agrees_96, rr_12_0, rr_12_1, rr_12_2, rr_12_3, rr_12_4, rr_12_5, rr_12_6, rr_12_7, rr_12_8, rr_12_9, rr_13_0, rr_13_1, rr_13_3, rr_13_4, rr_14_0, rr_14_1, rr_14_2, rr_14_3, rr_14_4, rr_21_0, rr_21_1, rr_21_2, rr_33_1, rr_35_0, rr_35_1, rr_35_3, rr_39_2, rr_39_3, rr_42_0, tc_0, tc_1, tc_2, tc_3, tc_4, tc_5, tc_6, tc_7, tc_8, tc_9, e39, if_pos hge, Option.toList_some, Option.toList_none, List.cons_append, List.nil_append, Option.getD_some, am_nlI, am_nlR, am_nlN, bi_eq0, if_true, if_false, bf_tf, bf_ft]
      exact g
    · refine main i (by omega) (fun j hj => by simpa using k2 j hj) (fun a' s1 s2 => ?_)
      have e39 : a' 39 = a 39 := s1 39 (by decide) (by omega)
      have hge : ¬ a 39 1 < nI (h + i) := by rw [hla (h + i) (by omega)]; omega
      have hph : ∀ (Q : Option Value → am_H → Prop), CALL (d + 3) 61 [.ref (13 : Nat), .ref (27 : Nat), .int (nI (h + i))] (CT L, a', RR b) Q = Q (some (.int (nI (mk (fun x => hdF E (nI h) (got A 27) x i) 6)))) (CT L, put (am_row a' 25 (lrow E (nI h + nI i) (itH E (nI h) (got A 27) i) (a' 25) E.n)) 27 (itH E (nI h) (got A 27) (i + 1)), RR b) := fun Q => by
        have := sp_passHour (d := d) (L := L) (b := b) (a := a') (Q := Q) (S := got a' 27) (t := nI h + nI i) hE (hC.sc s1) (by rw [s2]; exact GV_it hE hGS i) SPc.t
        rw [put_got, s2] at this
        rw [← nI_add]
        exact this
      have hR' : RC (put (am_row a' 25 (lrow E (nI h + nI i) (itH E (nI h) (got A 27) i) (a' 25) E.n)) 27 (itH E (nI h) (got A 27) (i + 1))) pl hr td R := (hR.sc s1).sc SC_put
      have hag := fun (d : Nat) (Q : Option Value → am_H → Prop) => sp_agreeWith (d := d) (L := L) (b := b) (Q := Q) (h := h + i) (g := fun x => hdF E (nI h) (got A 27) x i) hR' hpl (by omega)
      have e : agF pl hr td (h + i) (fun x => hdF E (nI h) (got A 27) x i) R = false := by simpa using k1
      have hres : couB E pl hr td R p (nI w) h = false := alF_f (i := h + i) (by
        rw [hok i (by omega)] at e
        exact e) (by omega)
      have g := hQ _ (s1.trans (SC_put (g := lrow E (nI h + nI i) (itH E (nI h) (got A 27) i) (a' 25) E.n) (T := itH E (nI h) (got A 27) (i + 1))))
      rw [hres] at g
      rw [st_X10_agrees_50]
      simp (disch := (first | assumption | exact tg_12 | exact tg_13 | exact tg_2 | exact tg_20 | exact tg_14 | exact tg_15 | exact tg_16 | exact tg_17 | exact tg_18 | exact tg_19 | exact tg_21 | exact tg_22 | exact tg_23 | exact tg_24 | exact tg_25 | exact tg_26 | exact tg_33 | exact tg_34 | exact tg_35 | exact tg_36 | exact tg_37 | exact tg_38 | exact tg_39 | exact tg_40 | exact tg_41 | exact tg_42 | exact tg_43 | exact tg_52 | exact tg_1 | exact tg_3 | exact (show _ from rfl) | exact Nat.le_of_ble_eq_true rfl | exact bi_01 _ | exact Or.inl rfl | exact Or.inr rfl | exact ib_2 (by first | assumption | omega) | exact ib_20 (by first | assumption | omega) | exact ib_14 (by first | assumption | omega) | exact ib_15 (by first | assumption | omega) | exact ib_16 (by first | assumption | omega) | exact ib_17 (by first | assumption | omega) | exact ib_18 (by first | assumption | omega) | exact ib_19 (by first | assumption | omega) | exact ib_21 (by first | assumption | omega) | exact ib_22 (by first | assumption | omega) | exact ib_23 (by first | assumption | omega) | exact ib_24 (by first | assumption | omega) | exact ib_25 (by first | assumption | omega) | exact ib_26 (by first | assumption | omega) | exact ib_34 (by first | assumption | omega) | exact ib_36 (by first | assumption | omega) | exact ib_37 (by first | assumption | omega) | exact ib_38 (by first | assumption | omega) | exact ib_40 (by first | assumption | omega) | exact ib_41 (by first | assumption | omega) | exact ib_43 (by first | assumption | omega) | exact ib_52 (by first | assumption | omega) | exact ib_1 (by first | assumption | omega) | exact ib_3 (by first | assumption | omega) | omega | decide | exact il_14_0 | exact il_14_1 | exact il_14_2 | exact il_14_3 | exact il_14_4 | exact il_21_0 | exact il_21_1 | exact il_21_2)) only [st_X10_agrees_0, st_X10_agrees_1, st_X10_agrees_5, st_X10_agrees_6, st_X10_agrees_9, st_X10_agrees_10, st_X10_agrees_13, st_X10_agrees_15, st_X10_agrees_16, st_X10_agrees_19, st_X10_agrees_22, st_X10_agrees_23, st_X10_agrees_24, st_X10_agrees_27, st_X10_agrees_30, st_X10_agrees_31, st_X10_agrees_34, st_X10_agrees_37, st_X10_agrees_38, st_X10_agrees_41, st_X10_agrees_42, st_X10_agrees_43, st_X10_agrees_44, st_X10_agrees_47, st_X10_agrees_48, st_X10_agrees_52, st_X10_agrees_53, st_X10_agrees_56, st_X10_agrees_59, st_X10_agrees_62, st_X10_agrees_63, st_X10_agrees_66, st_X10_agrees_68, st_X10_agrees_69, st_X10_agrees_72, st_X10_agrees_73, st_X10_agrees_76, st_X10_agrees_78, st_X10_agrees_81, st_X10_agrees_84, st_X10_agrees_87, st_X10_agrees_88, st_X10_agrees_89, st_X10_agrees_92, st_X10_agrees_95, st_X10_agrees_96, rr_12_0, rr_12_1, rr_12_2, rr_12_3, rr_12_4, rr_12_5, rr_12_6, rr_12_7, rr_12_8, rr_12_9, rr_13_0, rr_13_1, rr_13_3, rr_13_4, rr_14_0, rr_14_1, rr_14_2, rr_14_3, rr_14_4, rr_21_0, rr_21_1, rr_21_2, rr_33_1, rr_35_0, rr_35_1, rr_35_3, rr_39_2, rr_39_3, rr_42_0, tc_0, tc_1, tc_2, tc_3, tc_4, tc_5, tc_6, tc_7, tc_8, tc_9, r27, e39, if_neg hge, hph, hag, e, Option.toList_some, Option.toList_none, List.cons_append, List.nil_append, Option.getD_some, am_nlI, am_nlR, am_nlN, bi_eq0, if_true, if_false, bf_tf, bf_ft]
      exact g
  · refine Eq.mpr (hlp i (by omega) (fun t ht => by simpa using k2 t ht)) ?_
    have hlt : nI i < nI h := nI_lt (by omega) (by omega)
    have hi24 : i < 24 := by omega
    have e : agF pl hr td i (fun _ => false) R = false := by simpa using k1
    have hres : couB E pl hr td R p (nI w) h = false := alF_f (i := i) (by
      show agF pl hr td i (gT E p (nI w) h i) R = false
      rw [hlow i hi]
      exact e) (by omega)
    have g := hQ a SC.refl
    rw [hres] at g
    rw [st_X10_agrees_3]
    simp (disch := (first | assumption | exact tg_12 | exact tg_13 | exact tg_2 | exact tg_20 | exact tg_14 | exact tg_15 | exact tg_16 | exact tg_17 | exact tg_18 | exact tg_19 | exact tg_21 | exact tg_22 | exact tg_23 | exact tg_24 | exact tg_25 | exact tg_26 | exact tg_33 | exact tg_34 | exact tg_35 | exact tg_36 | exact tg_37 | exact tg_38 | exact tg_39 | exact tg_40 | exact tg_41 | exact tg_42 | exact tg_43 | exact tg_52 | exact tg_1 | exact tg_3 | exact (show _ from rfl) | exact Nat.le_of_ble_eq_true rfl | exact bi_01 _ | exact Or.inl rfl | exact Or.inr rfl | exact ib_2 (by first | assumption | omega) | exact ib_20 (by first | assumption | omega) | exact ib_14 (by first | assumption | omega) | exact ib_15 (by first | assumption | omega) | exact ib_16 (by first | assumption | omega) | exact ib_17 (by first | assumption | omega) | exact ib_18 (by first | assumption | omega) | exact ib_19 (by first | assumption | omega) | exact ib_21 (by first | assumption | omega) | exact ib_22 (by first | assumption | omega) | exact ib_23 (by first | assumption | omega) | exact ib_24 (by first | assumption | omega) | exact ib_25 (by first | assumption | omega) | exact ib_26 (by first | assumption | omega) | exact ib_34 (by first | assumption | omega) | exact ib_36 (by first | assumption | omega) | exact ib_37 (by first | assumption | omega) | exact ib_38 (by first | assumption | omega) | exact ib_40 (by first | assumption | omega) | exact ib_41 (by first | assumption | omega) | exact ib_43 (by first | assumption | omega) | exact ib_52 (by first | assumption | omega) | exact ib_1 (by first | assumption | omega) | exact ib_3 (by first | assumption | omega) | omega | decide | exact il_14_0 | exact il_14_1 | exact il_14_2 | exact il_14_3 | exact il_14_4 | exact il_21_0 | exact il_21_1 | exact il_21_2)) only [st_X10_agrees_0, st_X10_agrees_1, st_X10_agrees_5, st_X10_agrees_6, st_X10_agrees_9, st_X10_agrees_10, st_X10_agrees_13, st_X10_agrees_15, st_X10_agrees_16, st_X10_agrees_19, st_X10_agrees_22, st_X10_agrees_23, st_X10_agrees_24, st_X10_agrees_27, st_X10_agrees_30, st_X10_agrees_31, st_X10_agrees_34, st_X10_agrees_37, st_X10_agrees_38, st_X10_agrees_41, st_X10_agrees_42, st_X10_agrees_43, st_X10_agrees_44, st_X10_agrees_47, st_X10_agrees_48, st_X10_agrees_52, st_X10_agrees_53, st_X10_agrees_56, st_X10_agrees_59, st_X10_agrees_62, st_X10_agrees_63, st_X10_agrees_66, st_X10_agrees_68, st_X10_agrees_69, st_X10_agrees_72, st_X10_agrees_73, st_X10_agrees_76, st_X10_agrees_78, st_X10_agrees_81, st_X10_agrees_84, st_X10_agrees_87, st_X10_agrees_88, st_X10_agrees_89, st_X10_agrees_92, st_X10_agrees_95, st_X10_agrees_96, rr_12_0, rr_12_1, rr_12_2, rr_12_3, rr_12_4, rr_12_5, rr_12_6, rr_12_7, rr_12_8, rr_12_9, rr_13_0, rr_13_1, rr_13_3, rr_13_4, rr_14_0, rr_14_1, rr_14_2, rr_14_3, rr_14_4, rr_21_0, rr_21_1, rr_21_2, rr_33_1, rr_35_0, rr_35_1, rr_35_3, rr_39_2, rr_39_3, rr_42_0, tc_0, tc_1, tc_2, tc_3, tc_4, tc_5, tc_6, tc_7, tc_8, tc_9, if_pos hlt, hag0, e, Option.toList_some, Option.toList_none, List.cons_append, List.nil_append, Option.getD_some, am_nlI, am_nlR, am_nlN, bi_eq0, if_true, if_false, bf_tf, bf_ft]
    exact g
end COU
