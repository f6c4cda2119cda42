/-! a spread like another, the harm ahead -/
theorem SY {s L : Nat} {b : Bool} (h : s < 8) : am_tag (CT L) (63 + 7 * s) = 4 ∧ RR b 26 s = some (63 + 7 * s) ∧ RR b (63 + 7 * s) 0 = some (64 + 7 * s) ∧ (RR b 26 s).isSome = true ∧ (RR b (63 + 7 * s) 0).isSome = true := by
  rcases (show s = 0 ∨ s = 1 ∨ s = 2 ∨ s = 3 ∨ s = 4 ∨ s = 5 ∨ s = 6 ∨ s = 7 by omega) with rfl | rfl | rfl | rfl | rfl | rfl | rfl | rfl <;> exact ⟨rfl, rfl, rfl, rfl, rfl⟩
/-- the same to who looks: what one has who never heard shows nowhere -/
def EQn (n : Nat) (S T : Nat → PS) : Prop := ∀ p, p < n → (S p).st = (T p).st ∧ ((S p).st ≠ 0 → S p = T p)
section AHD
variable {d L q p : Nat} {b : Bool} {a : Nat → Nat → Int32} {Q : Option Value → am_H → Prop} {E : ENV} {S T : Nat → PS} {t parts : Int32}
theorem EQn.of {n : Nat} (h : ∀ p, p < n → S p = T p) : EQn n S T := fun p hp => ⟨by rw [h p hp], fun _ => h p hp⟩
theorem loud_cong {n o : Nat} (h : EQn n S T) (ho : o < n) : loudF E S o = loudF E T o := by
  obtain ⟨h1, h2⟩ := h o ho
  unfold loudF
  by_cases h0 : (S o).st = 0
  · rw [← h1, h0]; simp
  · rw [h2 h0]
theorem tel_cong {n o : Nat} (h : EQn n S T) (ho : o < n) : telF E t S p o = telF E t T p o := by unfold telF; rw [loud_cong h ho]
theorem hear_0 {r : PS} {c tn : Nat} {tv : Int32} (h : r.st = 0) : hearF E t r p c tv tn = mkP (if E.dt p < E.fe p + 2 * nI c then 1 else 2) t tv (nI tn) t := by
  unfold hearF
  rw [if_neg (by rw [h]; decide), if_pos (Or.inl h)]
theorem hourF_cong (h : EQn E.n S T) : EQn E.n (hourF E t S) (hourF E t T) := by
  intro p hp
  have e1 : ctn (telF E t S p) E.n = ctn (telF E t T p) E.n := ctn_cong (fun i hi => tel_cong h hi)
  have e2 : lst (telF E t S p) E.n = lst (telF E t T p) E.n := lst_cong (fun i hi => tel_cong h hi)
  have h1 := (h p hp).1
  have h2 := (h p hp).2
  unfold hourF hourP
  rw [if_pos hp, if_pos hp, e1]
  by_cases h0 : ctn (telF E t T p) E.n = 0
  · rw [if_pos h0, if_pos h0]
    by_cases hz : (S p).st = 0
    · unfold fadeF
      rw [if_neg (fun h => h.1 (Or.inl hz)), if_neg (fun h => h.1 (Or.inl (h1 ▸ hz)))]
      exact h p hp
    · rw [h2 hz]; exact ⟨rfl, fun _ => rfl⟩
  · rw [if_neg h0, if_neg h0, e2]
    obtain ⟨l1, l2, l3⟩ := lst_yes (f := telF E t T p) (n := E.n) (by omega)
    have hld : (T (lst (telF E t T p) E.n)).st = 1 := by
      simp only [telF, loudF, Bool.and_eq_true, decide_eq_true_eq] at l2
      exact l2.1.1.1
    have hl2 := h _ l1
    rw [hl2.2 (by rw [hl2.1, hld]; decide)]
    by_cases hz : (S p).st = 0
    · have hz' : (T p).st = 0 := h1 ▸ hz
      rw [hear_0 hz, hear_0 hz']
      exact ⟨rfl, fun _ => rfl⟩
    · rw [h2 hz]; exact ⟨rfl, fun _ => rfl⟩
theorem itH_cong (h : EQn E.n S T) : ∀ i, EQn E.n (itH E t S i) (itH E t T i)
  | 0 => h
  | i + 1 => hourF_cong (itH_cong h i)
theorem harmF_cong : ∀ n, EQn n S T → harmF E S n = harmF E T n
  | 0, _ => rfl
  | n + 1, h => by
    unfold harmF
    rw [harmF_cong n (fun p hp => h p (by omega)), (h n (by omega)).1]
    by_cases hz : (T n).st = 1
    · rw [if_pos hz, if_pos hz, (h n (by omega)).2 (by rw [(h n (by omega)).1, hz]; decide)]
    · rw [if_neg hz, if_neg hz]
theorem prtF_cong {w : Nat} (h : EQn E.n S T) : EQn E.n (prtF E t parts w S) (prtF E t parts w T) := fun p hp => by
  have h1 := (h p hp).1
  have h2 := (h p hp).2
  unfold prtF
  rw [if_pos hp, if_pos hp]
  have e : nw (S p) = nw (T p) := by unfold nw; rw [h1]
  unfold prtP rdF
  rw [e]
  split
  · by_cases hz : (S p).st = 0
    · have hz' : nw (T p) = true := by unfold nw; rw [← h1, hz]; decide
      unfold denF
      rw [e, hz', if_pos rfl, if_pos rfl]
      exact ⟨rfl, fun _ => rfl⟩
    · rw [h2 hz]; exact ⟨rfl, fun _ => rfl⟩
  · exact h p hp
theorem GV_cong {n : Nat} (h : EQn n S T) (g : GV S n) : GV T n := fun p hp hz => by
  have e := (h p hp).1
  rw [← (h p hp).2 (by rw [e]; exact hz)]
  exact g p hp (by rw [e]; exact hz)
theorem GV_prt {w v : Nat} (hv : v < 10000) (hG : GV S E.n) : GV (prtF E t (nI v) w S) E.n := by
  intro p hp
  unfold prtF
  rw [if_pos hp]
  unfold prtP denF
  split
  · split
    · exact fun _ => ⟨v, hv, rfl⟩
    · rename_i h1
      split
      · rename_i h2
        exact fun _ => hG p hp (by rw [h2.1]; decide)
      · exact hG p hp
  · exact hG p hp
/-- the same but for what is scratch -/
def SC (a a' : Nat → Nat → Int32) : Prop := ∀ k, k ≠ 25 → (k < 28 ∨ 32 < k) → a' k = a k
theorem SC.refl : SC a a := fun _ _ _ => rfl
theorem SC.trans {a' a'' : Nat → Nat → Int32} (h : SC a a') (h' : SC a' a'') : SC a a'' := fun k h1 h2 => (h' k h1 h2).trans (h k h1 h2)
theorem SC_put {g : Nat → Int32} : SC a (put (am_row a 25 g) 27 T) := fun k h1 h2 => by rw [put_o (by omega), ar_d h1]
theorem SC_put' : SC a (put a 27 T) := fun k h1 h2 => by rw [put_o (by omega)]
theorem EC.sc {a' : Nat → Nat → Int32} (h : EC a E) (s : SC a a') : EC a' E := h.low (fun k hk => s k (by omega) (by omega))
set_option maxRecDepth 100000 in
theorem sp_becomeLike (hq : SPc q) (h64 : 64 ≤ q) : CALL d 38 [.ref (27 : Nat), .ref q] (CT L, put a 27 T, RR b) Q = Q none (CT L, put a 27 (cpS (got a q) T 16), RR b) := by
  obtain ⟨t0, t1, t2, t3, t4, t5⟩ := hq.tg (L := L)
  obtain ⟨r0, r1, r2, r3, r4⟩ := hq.rr (b := b)
  obtain ⟨i0, i1, i2, i3, i4⟩ := hq.is (b := b)
  obtain ⟨u0, u1, u2, u3, u4, u5⟩ := SPc.t.tg (L := L)
  obtain ⟨s0, s1, s2, s3, s4⟩ := SPc.t.rr (b := b)
  obtain ⟨j0, j1, j2, j3, j4⟩ := SPc.t.is (b := b)
  have g := hq.ge
  have e1 : ∀ X, put a 27 X (q + 1) = a (q + 1) := fun X => put_o (by omega)
  have e2 : ∀ X, put a 27 X (q + 2) = a (q + 2) := fun X => put_o (by omega)
  have e3 : ∀ X, put a 27 X (q + 3) = a (q + 3) := fun X => put_o (by omega)
  have e4 : ∀ X, put a 27 X (q + 4) = a (q + 4) := fun X => put_o (by omega)
  have e5 : ∀ X, put a 27 X (q + 5) = a (q + 5) := fun X => put_o (by omega)
  simp (disch := (first | assumption | exact tg_12 | exact tg_13 | exact tg_2 | exact tg_20 | exact tg_14 | exact tg_15 | exact tg_16 | exact tg_17 | exact tg_18 | exact tg_19 | exact tg_21 | exact tg_22 | exact tg_23 | exact tg_24 | exact tg_25 | exact tg_26 | exact tg_33 | exact tg_34 | exact tg_35 | exact tg_36 | exact tg_37 | exact tg_38 | exact tg_39 | exact tg_40 | exact tg_41 | exact tg_42 | exact tg_43 | exact tg_52 | exact tg_1 | exact tg_3 | exact (show _ from rfl) | exact Nat.le_of_ble_eq_true rfl | exact bi_01 _ | exact Or.inl rfl | exact Or.inr rfl | exact ib_2 (by first | assumption | omega) | exact ib_20 (by first | assumption | omega) | exact ib_14 (by first | assumption | omega) | exact ib_15 (by first | assumption | omega) | exact ib_16 (by first | assumption | omega) | exact ib_17 (by first | assumption | omega) | exact ib_18 (by first | assumption | omega) | exact ib_19 (by first | assumption | omega) | exact ib_21 (by first | assumption | omega) | exact ib_22 (by first | assumption | omega) | exact ib_23 (by first | assumption | omega) | exact ib_24 (by first | assumption | omega) | exact ib_25 (by first | assumption | omega) | exact ib_26 (by first | assumption | omega) | exact ib_34 (by first | assumption | omega) | exact ib_36 (by first | assumption | omega) | exact ib_37 (by first | assumption | omega) | exact ib_38 (by first | assumption | omega) | exact ib_40 (by first | assumption | omega) | exact ib_41 (by first | assumption | omega) | exact ib_43 (by first | assumption | omega) | exact ib_52 (by first | assumption | omega) | exact ib_1 (by first | assumption | omega) | exact ib_3 (by first | assumption | omega) | omega | decide | exact il_14_0 | exact il_14_1 | exact il_14_2 | exact il_14_3 | exact il_14_4 | exact il_21_0 | exact il_21_1 | exact il_21_2)) only [en_X7_becomeLike, st_X7_becomeLike_0, st_X7_becomeLike_1, Option.toList_some, Option.toList_none, List.cons_append, List.nil_append, Option.getD_some, am_nlI, am_nlR, am_nlN, bi_eq0, if_true, if_false, bf_tf, bf_ft]
  have key := loop_eq (P := fun i => AW d 38 2 [some (.ref (27 : Nat)), some (.ref q), some (.int (nI i))] [] (CT L, put a 27 (cpS (got a q) T i), RR b) Q) 16 (fun i hi => by
    obtain ⟨b1, b2, b3, b4, b5⟩ := hq.ib (L := L) (p := i) hi
    obtain ⟨c1, c2, c3, c4, c5⟩ := SPc.t.ib (L := L) (p := i) hi
    have hc : (nI i).toNatClampNeg = i := nI_clamp (by omega)
    have hlt : nI i < 16 := nI_lt hi (by decide)
    have hF : mkP (a (q + 1) i) (a (q + 2) i) (a (q + 3) i) (a (q + 4) i) (a (q + 5) i) = got a q i := rfl
    refine Eq.trans st_X7_becomeLike_2 ?_
    simp (disch := (first | assumption | exact tg_12 | exact (show _ from rfl) | exact Nat.le_of_ble_eq_true rfl | exact bi_01 _ | exact Or.inl rfl | exact Or.inr rfl | omega | decide)) only [st_X7_becomeLike_0, st_X7_becomeLike_1, st_X7_becomeLike_3, st_X7_becomeLike_5, st_X7_becomeLike_8, st_X7_becomeLike_9, st_X7_becomeLike_12, st_X7_becomeLike_13, st_X7_becomeLike_14, st_X7_becomeLike_17, st_X7_becomeLike_18, st_X7_becomeLike_19, st_X7_becomeLike_20, st_X7_becomeLike_21, st_X7_becomeLike_24, st_X7_becomeLike_25, st_X7_becomeLike_26, st_X7_becomeLike_29, st_X7_becomeLike_30, st_X7_becomeLike_31, st_X7_becomeLike_32, st_X7_becomeLike_33, st_X7_becomeLike_36, st_X7_becomeLike_37, st_X7_becomeLike_38, st_X7_becomeLike_41, st_X7_becomeLike_42, st_X7_becomeLike_43, st_X7_becomeLike_44, st_X7_becomeLike_45, st_X7_becomeLike_48, st_X7_becomeLike_49, st_X7_becomeLike_50, st_X7_becomeLike_53, st_X7_becomeLike_54, st_X7_becomeLike_55, st_X7_becomeLike_56, st_X7_becomeLike_57, st_X7_becomeLike_60, st_X7_becomeLike_61, st_X7_becomeLike_62, st_X7_becomeLike_65, st_X7_becomeLike_66, st_X7_becomeLike_67, st_X7_becomeLike_68, st_X7_becomeLike_71, st_X7_becomeLike_74, if_pos hlt, r0, r1, r2, r3, r4, s0, s1, s2, s3, s4, hc, Option.toList_some, Option.toList_none, List.cons_append, List.nil_append, Option.getD_some, am_nlI, am_nlR, am_nlN, bi_eq0, if_true, if_false, bf_tf, bf_ft, e1, e2, e3, e4, e5, put_u1 (q := 27), put_u2 (q := 27), put_u3 (q := 27), put_u4 (q := 27), put_u5 (q := 27), upS_s, upS_u, cpS_i, mkP_st, mkP_si, mkP_ve, mkP_fr, mkP_la, hF, cpS_s, nI_1]) 16 (Nat.le_refl 16)
  rw [cpS_0] at key
  refine Eq.trans key ?_
  have hlt : ¬ nI 16 < 16 := by decide
  simp (disch := (first | assumption | exact tg_12 | exact (show _ from rfl) | exact Nat.le_of_ble_eq_true rfl | exact bi_01 _ | exact Or.inl rfl | exact Or.inr rfl | omega | decide)) only [st_X7_becomeLike_0, st_X7_becomeLike_1, st_X7_becomeLike_2, st_X7_becomeLike_3, st_X7_becomeLike_5, st_X7_becomeLike_8, st_X7_becomeLike_9, st_X7_becomeLike_12, st_X7_becomeLike_13, st_X7_becomeLike_14, st_X7_becomeLike_17, st_X7_becomeLike_18, st_X7_becomeLike_19, st_X7_becomeLike_20, st_X7_becomeLike_21, st_X7_becomeLike_24, st_X7_becomeLike_25, st_X7_becomeLike_26, st_X7_becomeLike_29, st_X7_becomeLike_30, st_X7_becomeLike_31, st_X7_becomeLike_32, st_X7_becomeLike_33, st_X7_becomeLike_36, st_X7_becomeLike_37, st_X7_becomeLike_38, st_X7_becomeLike_41, st_X7_becomeLike_42, st_X7_becomeLike_43, st_X7_becomeLike_44, st_X7_becomeLike_45, st_X7_becomeLike_48, st_X7_becomeLike_49, st_X7_becomeLike_50, st_X7_becomeLike_53, st_X7_becomeLike_54, st_X7_becomeLike_55, st_X7_becomeLike_56, st_X7_becomeLike_57, st_X7_becomeLike_60, st_X7_becomeLike_61, st_X7_becomeLike_62, st_X7_becomeLike_65, st_X7_becomeLike_66, st_X7_becomeLike_67, st_X7_becomeLike_68, st_X7_becomeLike_71, st_X7_becomeLike_74, if_neg hlt, Option.toList_some, Option.toList_none, List.cons_append, List.nil_append, Option.getD_some, am_nlI, am_nlR, am_nlN, bi_eq0, if_true, if_false, bf_tf, bf_ft]
/-- a saying's harm ahead -/
def aheadF (E : ENV) (t kind parts : Int32) (w h : Nat) (S : Nat → PS) : Int32 := if kind = 3 then 0 else harmF E (itH E t (if w = 3 then S else prtF E t parts w S) h) E.n
set_option maxRecDepth 100000 in
theorem sp_harmAhead {s w h v : Nat} (hE : EOK E) (hC : EC a E) (hs : s < 8) (hG : GV (got a (64 + 7 * s)) E.n) (hv : v < 10000) (hpa : a (63 + 7 * s) 2 = nI v) (hw : w < 4) (hh : h < 100)
    (hQ : ∀ a', SC a a' → Q (some (.int (aheadF E (a 12 11) (a (63 + 7 * s) 1) (nI v) w h (got a (64 + 7 * s))))) (CT L, a', RR b)) : CALL (d + 5) 117 [.ref (12 : Nat), .int (nI s), .int (nI w), .int (nI h)] (CT L, a, RR b) Q := by
  have hn := hE.n
  obtain ⟨y1, y2, y3, y4, y5⟩ := SY (L := L) (b := b) hs
  have hcs : (nI s).toNatClampNeg = s := nI_clamp (by omega)
  have y6 : (RR b 26 (nI s).toNatClampNeg).isSome = true := by rw [hcs]; exact y4
  have ib26 : inb (nI s) (am_len (CT L) 26) := ib_26 hs
  by_cases hk : a (63 + 7 * s) 1 = 3
  · simp (disch := (first | assumption | exact tg_12 | exact tg_13 | exact tg_2 | exact tg_20 | exact tg_14 | exact tg_15 | exact tg_16 | exact tg_17 | exact tg_18 | exact tg_19 | exact tg_21 | exact tg_22 | exact tg_23 | exact tg_24 | exact tg_25 | exact tg_26 | exact tg_33 | exact tg_34 | exact tg_35 | exact tg_36 | exact tg_37 | exact tg_38 | exact tg_39 | exact tg_40 | exact tg_41 | exact tg_42 | exact tg_43 | exact tg_52 | exact tg_1 | exact tg_3 | exact (show _ from rfl) | exact Nat.le_of_ble_eq_true rfl | exact bi_01 _ | exact Or.inl rfl | exact Or.inr rfl | exact ib_2 (by first | assumption | omega) | exact ib_20 (by first | assumption | omega) | exact ib_14 (by first | assumption | omega) | exact ib_15 (by first | assumption | omega) | exact ib_16 (by first | assumption | omega) | exact ib_17 (by first | assumption | omega) | exact ib_18 (by first | assumption | omega) | exact ib_19 (by first | assumption | omega) | exact ib_21 (by first | assumption | omega) | exact ib_22 (by first | assumption | omega) | exact ib_23 (by first | assumption | omega) | exact ib_24 (by first | assumption | omega) | exact ib_25 (by first | assumption | omega) | exact ib_26 (by first | assumption | omega) | exact ib_34 (by first | assumption | omega) | exact ib_36 (by first | assumption | omega) | exact ib_37 (by first | assumption | omega) | exact ib_38 (by first | assumption | omega) | exact ib_40 (by first | assumption | omega) | exact ib_41 (by first | assumption | omega) | exact ib_43 (by first | assumption | omega) | exact ib_52 (by first | assumption | omega) | exact ib_1 (by first | assumption | omega) | exact ib_3 (by first | assumption | omega) | omega | decide | exact il_14_0 | exact il_14_1 | exact il_14_2 | exact il_14_3 | exact il_14_4 | exact il_21_0 | exact il_21_1 | exact il_21_2)) only [en_X10_harmAhead, st_X10_harmAhead_0, st_X10_harmAhead_1, st_X10_harmAhead_4, st_X10_harmAhead_5, st_X10_harmAhead_6, st_X10_harmAhead_8, st_X10_harmAhead_10, st_X10_harmAhead_13, st_X10_harmAhead_14, st_X10_harmAhead_17, st_X10_harmAhead_18, st_X10_harmAhead_19, st_X10_harmAhead_20, st_X10_harmAhead_23, st_X10_harmAhead_25, st_X10_harmAhead_28, st_X10_harmAhead_31, st_X10_harmAhead_32, st_X10_harmAhead_33, st_X10_harmAhead_36, st_X10_harmAhead_37, st_X10_harmAhead_40, st_X10_harmAhead_41, st_X10_harmAhead_44, st_X10_harmAhead_46, st_X10_harmAhead_49, st_X10_harmAhead_50, st_X10_harmAhead_51, st_X10_harmAhead_54, st_X10_harmAhead_57, st_X10_harmAhead_58, st_X10_harmAhead_59, st_X10_harmAhead_62, st_X10_harmAhead_63, st_X10_harmAhead_66, st_X10_harmAhead_67, st_X10_harmAhead_70, st_X10_harmAhead_71, st_X10_harmAhead_74, st_X10_harmAhead_75, st_X10_harmAhead_78, st_X10_harmAhead_79, st_X10_harmAhead_82, st_X10_harmAhead_85, rr_12_0, rr_12_1, rr_12_2, rr_12_3, rr_12_4, rr_12_5, rr_12_6, rr_12_7, rr_12_8, rr_12_9, rr_13_0, rr_13_1, rr_13_3, rr_13_4, rr_14_0, rr_14_1, rr_14_2, rr_14_3, rr_14_4, rr_21_0, rr_21_1, rr_21_2, rr_33_1, rr_35_0, rr_35_1, rr_35_3, rr_39_2, rr_39_3, rr_42_0, tc_0, tc_1, tc_2, tc_3, tc_4, tc_5, tc_6, tc_7, tc_8, tc_9, Option.toList_some, Option.toList_none, List.cons_append, List.nil_append, Option.getD_some, am_nlI, am_nlR, am_nlN, bi_eq0, if_true, if_false, bf_tf, bf_ft, hcs, y2, y3, if_pos hk]
    have := hQ a SC.refl
    rw [aheadF, if_pos hk] at this
    exact this
  · have hsp : SPc (64 + 7 * s) := SPc.s hs
    have h64 : 64 ≤ 64 + 7 * s := by omega
    have hbl : ∀ (d : Nat) (Q : Option Value → am_H → Prop), CALL d 38 [.ref (27 : Nat), .ref (64 + 7 * s)] (CT L, a, RR b) Q = Q none (CT L, put a 27 (cpS (got a (64 + 7 * s)) (got a 27) 16), RR b) := fun d Q => by
      have := sp_becomeLike (d := d) (L := L) (b := b) (a := a) (T := got a 27) (Q := Q) hsp h64
      rw [put_got] at this
      exact this
    generalize hX : cpS (got a (64 + 7 * s)) (got a 27) 16 = X at hbl
    have hEq : EQn E.n (got a (64 + 7 * s)) X := EQn.of (fun p hp => by rw [← hX]; simp [cpS, show p < 16 by omega])
    have hGX : GV X E.n := GV_cong hEq hG
    have m1 : ∀ Y, put a 27 Y (63 + 7 * s) = a (63 + 7 * s) := fun Y => put_o (by omega)
    have m2 : ∀ Y, put a 27 Y 12 = a 12 := fun Y => put_o (by omega)
    have r27 : RR b 12 2 = some 27 := rfl
    by_cases hw3 : w = 3
    · have h3 : nI w = 3 := by rw [hw3]; rfl
      simp (disch := (first | assumption | exact tg_12 | exact tg_13 | exact tg_2 | exact tg_20 | exact tg_14 | exact tg_15 | exact tg_16 | exact tg_17 | exact tg_18 | exact tg_19 | exact tg_21 | exact tg_22 | exact tg_23 | exact tg_24 | exact tg_25 | exact tg_26 | exact tg_33 | exact tg_34 | exact tg_35 | exact tg_36 | exact tg_37 | exact tg_38 | exact tg_39 | exact tg_40 | exact tg_41 | exact tg_42 | exact tg_43 | exact tg_52 | exact tg_1 | exact tg_3 | exact (show _ from rfl) | exact Nat.le_of_ble_eq_true rfl | exact bi_01 _ | exact Or.inl rfl | exact Or.inr rfl | exact ib_2 (by first | assumption | omega) | exact ib_20 (by first | assumption | omega) | exact ib_14 (by first | assumption | omega) | exact ib_15 (by first | assumption | omega) | exact ib_16 (by first | assumption | omega) | exact ib_17 (by first | assumption | omega) | exact ib_18 (by first | assumption | omega) | exact ib_19 (by first | assumption | omega) | exact ib_21 (by first | assumption | omega) | exact ib_22 (by first | assumption | omega) | exact ib_23 (by first | assumption | omega) | exact ib_24 (by first | assumption | omega) | exact ib_25 (by first | assumption | omega) | exact ib_26 (by first | assumption | omega) | exact ib_34 (by first | assumption | omega) | exact ib_36 (by first | assumption | omega) | exact ib_37 (by first | assumption | omega) | exact ib_38 (by first | assumption | omega) | exact ib_40 (by first | assumption | omega) | exact ib_41 (by first | assumption | omega) | exact ib_43 (by first | assumption | omega) | exact ib_52 (by first | assumption | omega) | exact ib_1 (by first | assumption | omega) | exact ib_3 (by first | assumption | omega) | omega | decide | exact il_14_0 | exact il_14_1 | exact il_14_2 | exact il_14_3 | exact il_14_4 | exact il_21_0 | exact il_21_1 | exact il_21_2)) only [en_X10_harmAhead, st_X10_harmAhead_0, st_X10_harmAhead_1, st_X10_harmAhead_4, st_X10_harmAhead_5, st_X10_harmAhead_6, st_X10_harmAhead_8, st_X10_harmAhead_10, st_X10_harmAhead_13, st_X10_harmAhead_14, st_X10_harmAhead_17, st_X10_harmAhead_18, st_X10_harmAhead_19, st_X10_harmAhead_20, st_X10_harmAhead_23, st_X10_harmAhead_25, st_X10_harmAhead_28, st_X10_harmAhead_31, st_X10_harmAhead_32, st_X10_harmAhead_33, st_X10_harmAhead_36, st_X10_harmAhead_37, st_X10_harmAhead_40, st_X10_harmAhead_41, st_X10_harmAhead_44, st_X10_harmAhead_46, st_X10_harmAhead_49, st_X10_harmAhead_50, st_X10_harmAhead_51, st_X10_harmAhead_54, st_X10_harmAhead_57, st_X10_harmAhead_58, st_X10_harmAhead_59, st_X10_harmAhead_62, st_X10_harmAhead_63, st_X10_harmAhead_66, st_X10_harmAhead_67, st_X10_harmAhead_70, st_X10_harmAhead_71, st_X10_harmAhead_74, st_X10_harmAhead_75, st_X10_harmAhead_78, st_X10_harmAhead_79, st_X10_harmAhead_82, st_X10_harmAhead_85, rr_12_0, rr_12_1, rr_12_2, rr_12_3, rr_12_4, rr_12_5, rr_12_6, rr_12_7, rr_12_8, rr_12_9, rr_13_0, rr_13_1, rr_13_3, rr_13_4, rr_14_0, rr_14_1, rr_14_2, rr_14_3, rr_14_4, rr_21_0, rr_21_1, rr_21_2, rr_33_1, rr_35_0, rr_35_1, rr_35_3, rr_39_2, rr_39_3, rr_42_0, tc_0, tc_1, tc_2, tc_3, tc_4, tc_5, tc_6, tc_7, tc_8, tc_9, Option.toList_some, Option.toList_none, List.cons_append, List.nil_append, Option.getD_some, am_nlI, am_nlR, am_nlN, bi_eq0, if_true, if_false, bf_tf, bf_ft, hcs, y2, y3, if_neg hk, hbl, if_pos h3, m1, m2, sp_passHours hE hC hGX SPc.t hh, sp_harmOf hE (hC.row (k := 25) (by omega)) (GV_it hE hGX _) SPc.t]
      have := hQ _ (SC_put (g := lgH E (a 12 11) X (a 25) h) (T := itH E (a 12 11) X h))
      rw [aheadF, if_neg hk, if_pos hw3, harmF_cong E.n (itH_cong hEq h)] at this
      exact this
    · have h3 : ¬ nI w = 3 := fun e => hw3 ((nI_eq (b := 3) (by omega) (by omega)).1 e)
      have hw2 : w < 3 := by omega
      simp (disch := (first | assumption | exact tg_12 | exact tg_13 | exact tg_2 | exact tg_20 | exact tg_14 | exact tg_15 | exact tg_16 | exact tg_17 | exact tg_18 | exact tg_19 | exact tg_21 | exact tg_22 | exact tg_23 | exact tg_24 | exact tg_25 | exact tg_26 | exact tg_33 | exact tg_34 | exact tg_35 | exact tg_36 | exact tg_37 | exact tg_38 | exact tg_39 | exact tg_40 | exact tg_41 | exact tg_42 | exact tg_43 | exact tg_52 | exact tg_1 | exact tg_3 | exact (show _ from rfl) | exact Nat.le_of_ble_eq_true rfl | exact bi_01 _ | exact Or.inl rfl | exact Or.inr rfl | exact ib_2 (by first | assumption | omega) | exact ib_20 (by first | assumption | omega) | exact ib_14 (by first | assumption | omega) | exact ib_15 (by first | assumption | omega) | exact ib_16 (by first | assumption | omega) | exact ib_17 (by first | assumption | omega) | exact ib_18 (by first | assumption | omega) | exact ib_19 (by first | assumption | omega) | exact ib_21 (by first | assumption | omega) | exact ib_22 (by first | assumption | omega) | exact ib_23 (by first | assumption | omega) | exact ib_24 (by first | assumption | omega) | exact ib_25 (by first | assumption | omega) | exact ib_26 (by first | assumption | omega) | exact ib_34 (by first | assumption | omega) | exact ib_36 (by first | assumption | omega) | exact ib_37 (by first | assumption | omega) | exact ib_38 (by first | assumption | omega) | exact ib_40 (by first | assumption | omega) | exact ib_41 (by first | assumption | omega) | exact ib_43 (by first | assumption | omega) | exact ib_52 (by first | assumption | omega) | exact ib_1 (by first | assumption | omega) | exact ib_3 (by first | assumption | omega) | omega | decide | exact il_14_0 | exact il_14_1 | exact il_14_2 | exact il_14_3 | exact il_14_4 | exact il_21_0 | exact il_21_1 | exact il_21_2)) only [en_X10_harmAhead, st_X10_harmAhead_0, st_X10_harmAhead_1, st_X10_harmAhead_4, st_X10_harmAhead_5, st_X10_harmAhead_6, st_X10_harmAhead_8, st_X10_harmAhead_10, st_X10_harmAhead_13, st_X10_harmAhead_14, st_X10_harmAhead_17, st_X10_harmAhead_18, st_X10_harmAhead_19, st_X10_harmAhead_20, st_X10_harmAhead_23, st_X10_harmAhead_25, st_X10_harmAhead_28, st_X10_harmAhead_31, st_X10_harmAhead_32, st_X10_harmAhead_33, st_X10_harmAhead_36, st_X10_harmAhead_37, st_X10_harmAhead_40, st_X10_harmAhead_41, st_X10_harmAhead_44, st_X10_harmAhead_46, st_X10_harmAhead_49, st_X10_harmAhead_50, st_X10_harmAhead_51, st_X10_harmAhead_54, st_X10_harmAhead_57, st_X10_harmAhead_58, st_X10_harmAhead_59, st_X10_harmAhead_62, st_X10_harmAhead_63, st_X10_harmAhead_66, st_X10_harmAhead_67, st_X10_harmAhead_70, st_X10_harmAhead_71, st_X10_harmAhead_74, st_X10_harmAhead_75, st_X10_harmAhead_78, st_X10_harmAhead_79, st_X10_harmAhead_82, st_X10_harmAhead_85, rr_12_0, rr_12_1, rr_12_2, rr_12_3, rr_12_4, rr_12_5, rr_12_6, rr_12_7, rr_12_8, rr_12_9, rr_13_0, rr_13_1, rr_13_3, rr_13_4, rr_14_0, rr_14_1, rr_14_2, rr_14_3, rr_14_4, rr_21_0, rr_21_1, rr_21_2, rr_33_1, rr_35_0, rr_35_1, rr_35_3, rr_39_2, rr_39_3, rr_42_0, tc_0, tc_1, tc_2, tc_3, tc_4, tc_5, tc_6, tc_7, tc_8, tc_9, Option.toList_some, Option.toList_none, List.cons_append, List.nil_append, Option.getD_some, am_nlI, am_nlR, am_nlN, bi_eq0, if_true, if_false, bf_tf, bf_ft, hcs, y2, y3, if_neg hk, hbl, if_neg h3, m1, m2, hpa, sp_print hE hC SPc.t hw2, sp_passHours hE hC (GV_prt hv hGX) SPc.t hh, sp_harmOf hE (hC.row (k := 25) (by omega)) (GV_it hE (GV_prt hv hGX) _) SPc.t]
      have := hQ _ (SC_put (g := lgH E (a 12 11) (prtF E (a 12 11) (nI v) w X) (a 25) h) (T := itH E (a 12 11) (prtF E (a 12 11) (nI v) w X) h))
      rw [aheadF, if_neg hk, if_neg hw3, harmF_cong E.n (itH_cong (prtF_cong hEq) h)] at this
      exact this
end AHD
