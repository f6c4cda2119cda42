/-! the class reads a comparison, a claim -/
theorem getD_app {l1 l2 : List Int32} {j : Nat} : (l1 ++ l2).getD j 0 = if j < l1.length then l1.getD j 0 else l2.getD (j - l1.length) 0 := by
  simp only [List.getD_eq_getElem?_getD, List.getElem?_append]
  split <;> rfl
def GC (G : Nat) : Prop := G = 53 ∨ G = 58
section GCS
variable {G L : Nat} {b : Bool}
theorem GC.all (h : GC G) : am_tag (CT L) G = 0 ∧ am_tag (CT L) (G + 1) = 20 ∧ am_tag (CT L) (G + 2) = 20 ∧ am_tag (CT L) (G + 3) = 20 ∧ am_tag (CT L) (G + 4) = 20 ∧ am_len (CT L) (G + 1) = 6 ∧ am_len (CT L) (G + 2) = 6 ∧ am_len (CT L) (G + 3) = 6 ∧ am_len (CT L) (G + 4) = 120 := by
  rcases h with rfl | rfl <;> exact ⟨rfl, rfl, rfl, rfl, rfl, rfl, rfl, rfl, rfl⟩
theorem GC.rr (h : GC G) : RR b G 0 = some (G + 1) ∧ RR b G 2 = some (G + 2) ∧ RR b G 3 = some (G + 3) ∧ RR b G 4 = some (G + 4) := by
  rcases h with rfl | rfl <;> exact ⟨rfl, rfl, rfl, rfl⟩
theorem GC.is (h : GC G) : (RR b G 0).isSome = true ∧ (RR b G 2).isSome = true ∧ (RR b G 3).isSome = true ∧ (RR b G 4).isSome = true := by
  rcases h with rfl | rfl <;> exact ⟨rfl, rfl, rfl, rfl⟩
theorem GC.ge (h : GC G) : G = 53 ∨ G = 58 := h
end GCS
/-- the same but for where it reads, and for the guide's steps and their number -/
def GSW (G : Nat) (a a' : Nat → Nat → Int32) : Prop := (∀ c, c ≠ 33 → c ≠ G → c ≠ G + 4 → a' c = a c) ∧ (∀ j, j ≠ 2 → a' 33 j = a 33 j) ∧ ∀ j, j ≠ 5 → a' G j = a G j
def ACC (G s : Nat) (a : Nat → Nat → Int32) (st : List Int32) (a' : Nat → Nat → Int32) : Prop := GSW G a a' ∧ a' G 5 = nI (s + st.length) ∧ (∀ j, j < s → a' (G + 4) j = a (G + 4) j) ∧ ∀ j, j < st.length → a' (G + 4) (s + j) = st.getD j 0
def RO (G s : Nat) (a : Nat → Nat → Int32) (r : Bool × Nat × List Int32 × (Int32 → Bool)) (a' : Nat → Nat → Int32) : Prop := GSW G a a' ∧ a' 33 2 = nI r.2.1 ∧ (r.1 = true → ACC G s a r.2.2.1 a')
def RDS (L : Nat) (b : Bool) (G : Nat) (T : Nat → Nat) (n : Nat) (M : (Nat → Nat → Int32) → (Option Value → am_H → Prop) → Prop) (p : Nat → Bool × Nat × List Int32 × (Int32 → Bool)) : Prop := ∀ a Q i s, OLD a → TP a T n → i ≤ n → a 33 2 = nI i → a G 5 = nI s → s ≤ i → (∀ a', RO G s a (p i) a' → Q (some (.int (bi (p i).1))) (CT L, a', RR b)) → M a Q
section ACS
variable {G s n : Nat} {a a' a'' : Nat → Nat → Int32} {st st2 : List Int32} {T : Nat → Nat} {x y : Int32}
theorem GSW.refl : GSW G a a := ⟨fun _ _ _ _ => rfl, fun _ _ => rfl, fun _ _ => rfl⟩
theorem GSW.trans (h : GSW G a a') (h' : GSW G a' a'') : GSW G a a'' := ⟨fun c h1 h2 h3 => (h'.1 c h1 h2 h3).trans (h.1 c h1 h2 h3), fun j hj => (h'.2.1 j hj).trans (h.2.1 j hj), fun j hj => (h'.2.2 j hj).trans (h.2.2 j hj)⟩
theorem GSW.at (hG : GC G) (h : GSW G a a') : GSW G a (am_up a' 33 2 y) := by
  have hge := hG.ge
  refine ⟨fun c h1 h2 h3 => ?_, fun j hj => ?_, fun j hj => ?_⟩
  · rw [au_d h1]; exact h.1 c h1 h2 h3
  · rw [au_sd hj]; exact h.2.1 j hj
  · rw [au_d (by omega)]; exact h.2.2 j hj
theorem GSW.old (hG : GC G) (h : GSW G a a') (hO : OLD a) : OLD a' := by
  have hge := hG.ge
  exact OLD_low hO (fun c hc => h.1 c (by omega) (by omega) (by omega))
theorem GSW.tp (hG : GC G) (h : GSW G a a') (hT : TP a T n) : TP a' T n := by
  have hge := hG.ge
  refine ⟨by rw [h.2.1 0 (by decide)]; exact hT.1, hT.2.1, fun j hj => ?_⟩
  rw [h.1 34 (by omega) (by omega) (by omega)]
  exact hT.2.2 j hj
theorem ACC.refl (h : a G 5 = nI s) : ACC G s a [] a := ⟨GSW.refl, h, fun _ _ => rfl, fun j hj => absurd hj (by simp)⟩
theorem ACC.at (hG : GC G) (h : ACC G s a st a') : ACC G s a st (am_up a' 33 2 y) := by
  have hge := hG.ge
  refine ⟨h.1.at hG, ?_, fun j hj => ?_, fun j hj => ?_⟩
  · rw [au_d (by omega)]; exact h.2.1
  · rw [au_d (by omega)]; exact h.2.2.1 j hj
  · rw [au_d (by omega)]; exact h.2.2.2 j hj
theorem ACC.trans (h : ACC G s a st a') (h' : ACC G (s + st.length) a' st2 a'') : ACC G s a (st ++ st2) a'' := by
  refine ⟨h.1.trans h'.1, ?_, fun j hj => ?_, fun j hj => ?_⟩
  · rw [h'.2.1, List.length_append, Nat.add_assoc]
  · rw [h'.2.2.1 j (by omega)]; exact h.2.2.1 j hj
  · rw [List.length_append] at hj
    rw [getD_app]
    by_cases c : j < st.length
    · rw [if_pos c, h'.2.2.1 (s + j) (by omega)]; exact h.2.2.2 j c
    · rw [if_neg c]
      have := h'.2.2.2 (j - st.length) (by omega)
      rw [show s + st.length + (j - st.length) = s + j by omega] at this
      exact this
theorem ACC.one (hG : GC G) (h : a G 5 = nI s) : ACC G s a [x] (am_up (am_up a (G + 4) s x) G 5 (nI (s + 1))) := by
  have hge := hG.ge
  refine ⟨⟨fun c h1 h2 h3 => ?_, fun j hj => ?_, fun j hj => ?_⟩, au_ss, fun j hj => ?_, fun j hj => ?_⟩
  · rw [au_d h2, au_d h3]
  · rw [au_d (by omega), au_d (by omega)]
  · rw [au_sd hj, au_d (by omega)]
  · rw [au_d (by omega), au_sd (by omega)]
  · have : j = 0 := by simpa using hj
    subst this
    rw [au_d (by omega)]
    show am_up a (G + 4) s x (G + 4) s = x
    exact au_ss
end ACS
section RDC
variable {d L n i s G : Nat} {b : Bool} {a : Nat → Nat → Int32} {Q : Option Value → am_H → Prop} {T : Nat → Nat} {x : Int32}
theorem sp_takes' {c : Nat} (hT : TP a T n) (hi : i ≤ n) (ha : a 33 2 = nI i) (hc : 32 < c) (hc2 : c < 128) : CALL (d + 1) 54 [.ref (33 : Nat), .int (nI c)] (CT L, a, RR b) Q = Q (some (.int (bi (tkp T n i c)))) (CT L, am_up a 33 2 (nI (tkI T n i c)), RR b) := by
  have := sp_takes (d := d) (L := L) (b := b) (Q := Q) hT hi hc hc2
  rw [au_same ha] at this
  exact this
set_option maxRecDepth 100000 in
theorem sp_add (hG : GC G) (hs : a G 5 = nI s) (h120 : s < 120) : CALL d 4 [.ref G, .int x] (CT L, a, RR b) Q = Q none (CT L, am_up (am_up a (G + 4) s x) G 5 (nI (s + 1)), RR b) := by
  have hge := hG.ge
  obtain ⟨t0, t1, t2, t3, t4, l1, l2, l3, l4⟩ := hG.all (L := L)
  obtain ⟨r0, r2, r3, r4⟩ := hG.rr (b := b)
  obtain ⟨o0, o2, o3, o4⟩ := hG.is (b := b)
  have hlt : nI s < 120 := nI_lt (b := 120) h120 (by decide)
  have hcs : (nI s).toNatClampNeg = s := nI_clamp (by omega)
  have ib : inb (nI s) (am_len (CT L) (G + 4)) := by rw [l4]; exact inb_nI h120 (by decide)
  have g1 : 12 ≤ G := by omega
  have g2 : 12 ≤ G + 4 := by omega
  have hv : am_up a (G + 4) s x G 5 = nI s := by rw [au_d (by omega)]; exact hs
  simp (disch := (first | assumption | exact tg_12 | exact tg_13 | exact tg_2 | exact tg_20 | exact tg_14 | exact tg_15 | exact tg_16 | exact tg_17 | exact tg_18 | exact tg_19 | exact tg_21 | exact tg_22 | exact tg_23 | exact tg_24 | exact tg_25 | exact tg_26 | exact tg_33 | exact tg_34 | exact tg_35 | exact tg_36 | exact tg_37 | exact tg_38 | exact tg_39 | exact tg_40 | exact tg_41 | exact tg_42 | exact tg_43 | exact tg_52 | exact tg_1 | exact tg_3 | exact (show _ from rfl) | exact Nat.le_of_ble_eq_true rfl | exact bi_01 _ | exact Or.inl rfl | exact Or.inr rfl | exact ib_2 (by first | assumption | omega) | exact ib_20 (by first | assumption | omega) | exact ib_14 (by first | assumption | omega) | exact ib_15 (by first | assumption | omega) | exact ib_16 (by first | assumption | omega) | exact ib_17 (by first | assumption | omega) | exact ib_18 (by first | assumption | omega) | exact ib_19 (by first | assumption | omega) | exact ib_21 (by first | assumption | omega) | exact ib_22 (by first | assumption | omega) | exact ib_23 (by first | assumption | omega) | exact ib_24 (by first | assumption | omega) | exact ib_25 (by first | assumption | omega) | exact ib_26 (by first | assumption | omega) | exact ib_34 (by first | assumption | omega) | exact ib_36 (by first | assumption | omega) | exact ib_37 (by first | assumption | omega) | exact ib_38 (by first | assumption | omega) | exact ib_40 (by first | assumption | omega) | exact ib_41 (by first | assumption | omega) | exact ib_43 (by first | assumption | omega) | exact ib_52 (by first | assumption | omega) | exact ib_1 (by first | assumption | omega) | exact ib_3 (by first | assumption | omega) | omega | decide | exact il_14_0 | exact il_14_1 | exact il_14_2 | exact il_14_3 | exact il_14_4 | exact il_21_0 | exact il_21_1 | exact il_21_2)) only [en_X0_add, st_X0_add_0, st_X0_add_1, st_X0_add_4, st_X0_add_6, st_X0_add_9, st_X0_add_10, st_X0_add_13, st_X0_add_14, st_X0_add_17, st_X0_add_18, st_X0_add_19, st_X0_add_20, st_X0_add_21, st_X0_add_24, st_X0_add_25, st_X0_add_26, st_X0_add_29, hs, if_pos hlt, r4, hcs, hv, nI_1, Option.toList_some, Option.toList_none, List.cons_append, List.nil_append, Option.getD_some, am_nlI, am_nlR, am_nlN, bi_eq0, if_true, if_false, bf_tf, bf_ft]
set_option maxRecDepth 100000 in
theorem sp_comparison {h : am_H} {p r e : Nat} : CALL d 2 [.int (nI p), .int (nI r), .int (nI e)] h Q = Q (some (.int (nI (100 * p + 10 * r + e)))) h := by
  have e1 : (100 : Int32) * nI p = nI (100 * p) := by rw [← pk_mul]; rfl
  have e2 : (10 : Int32) * nI r = nI (10 * r) := by rw [← pk_mul]; rfl
  simp (disch := (first | assumption | exact tg_12 | exact (show _ from rfl) | exact Nat.le_of_ble_eq_true rfl | exact bi_01 _ | exact Or.inl rfl | exact Or.inr rfl | omega | decide)) only [en_X0_comparison, st_X0_comparison_0, st_X0_comparison_2, st_X0_comparison_3, st_X0_comparison_4, st_X0_comparison_6, st_X0_comparison_7, st_X0_comparison_8, st_X0_comparison_9, st_X0_comparison_10, st_X0_comparison_11, e1, e2, nI_add, Option.toList_some, Option.toList_none, List.cons_append, List.nil_append, Option.getD_some, am_nlI, am_nlR, am_nlN, bi_eq0, if_true, if_false, bf_tf, bf_ft]
theorem ptN_cx : ptN (cxC T n i) = ptN (nxc T n i) := by
  unfold cxC nxc; split
  · rfl
  · decide
theorem rlN_cx : rlN (cxC T n i) = rlN (nxc T n i) := by
  unfold cxC nxc; split
  · rfl
  · decide
theorem dgN_cx : dgN (cxC T n i) = dgN (nxc T n i) := by
  unfold cxC nxc; split
  · rfl
  · decide
theorem acN_cx : acN (cxC T n i) = acN (nxc T n i) := by
  unfold cxC nxc; split
  · rfl
  · decide
theorem fP_cx : fP (cxC T n i) = if 4 ≤ ptN (nxc T n i) then -1 else nI (ptN (nxc T n i)) := by
  unfold fP; rw [ptN_cx]
  by_cases c : ptN (nxc T n i) < 4
  · rw [if_pos c, if_neg (by omega)]
  · rw [if_neg c, if_pos (by omega)]
theorem fR_cx : fR (cxC T n i) = if 3 ≤ rlN (nxc T n i) then -1 else nI (rlN (nxc T n i)) := by
  unfold fR; rw [rlN_cx]
  by_cases c : rlN (nxc T n i) < 3
  · rw [if_pos c, if_neg (by omega)]
  · rw [if_neg c, if_pos (by omega)]
theorem fD_cx : fD (cxC T n i) = if 10 ≤ dgN (nxc T n i) then -1 else nI (dgN (nxc T n i)) := by
  unfold fD; rw [dgN_cx]
  by_cases c : dgN (nxc T n i) < 10
  · rw [if_pos c, if_neg (by omega)]
  · rw [if_neg c, if_pos (by omega)]
theorem fA_cx : fA (cxC T n i) = if 3 ≤ acN (nxc T n i) then -1 else nI (acN (nxc T n i)) := by
  unfold fA; rw [acN_cx]
  by_cases c : acN (nxc T n i) < 3
  · rw [if_pos c, if_neg (by omega)]
  · rw [if_neg c, if_pos (by omega)]
set_option maxRecDepth 100000 in
theorem rd_cmp (hG : GC G) : RDS L b G T n (fun a Q => CALL (d + 5) 52 [.ref (33 : Nat), .ref G] (CT L, a, RR b) Q) (pCmp T n) := by
  intro a Q i s hO hT hi ha hs hsi hQ
  show CALL (d + 5) 52 [.ref (33 : Nat), .ref G] (CT L, a, RR b) Q
  have hge := hG.ge
  have tG := (hG.all (L := L)).1
  have hn := hT.2.1
  have neg1 : (-1 : Int32) < 0 := by decide
  have h1 := fun (d : Nat) (Q : Option Value → am_H → Prop) => sp_oneP (d := d) (L := L) (b := b) (Q := Q) hO hT hi
  rw [au_same ha] at h1
  have o1 : OLD (am_up a 33 2 (nI (skp T n i + 1))) := OLD_low hO (fun c hc => au_d (by omega))
  unfold pCmp at hQ
  by_cases c1 : 4 ≤ ptN (nxc T n i)
  · rw [if_pos c1] at hQ
    have e1 := fP_cx (T := T) (n := n) (i := i)
    rw [if_pos c1] at e1
    rw [e1] at h1
    have g := hQ (am_up a 33 2 (nI (skp T n i))) ⟨GSW.refl.at hG, au_ss, fun h => absurd (show false = true from h) Bool.false_ne_true⟩
    simp (disch := (first | assumption | exact tg_12 | exact tg_13 | exact tg_2 | exact tg_20 | exact tg_14 | exact tg_15 | exact tg_16 | exact tg_17 | exact tg_18 | exact tg_19 | exact tg_21 | exact tg_22 | exact tg_23 | exact tg_24 | exact tg_25 | exact tg_26 | exact tg_33 | exact tg_34 | exact tg_35 | exact tg_36 | exact tg_37 | exact tg_38 | exact tg_39 | exact tg_40 | exact tg_41 | exact tg_42 | exact tg_43 | exact tg_52 | exact tg_1 | exact tg_3 | exact (show _ from rfl) | exact Nat.le_of_ble_eq_true rfl | exact bi_01 _ | exact Or.inl rfl | exact Or.inr rfl | exact ib_2 (by first | assumption | omega) | exact ib_20 (by first | assumption | omega) | exact ib_14 (by first | assumption | omega) | exact ib_15 (by first | assumption | omega) | exact ib_16 (by first | assumption | omega) | exact ib_17 (by first | assumption | omega) | exact ib_18 (by first | assumption | omega) | exact ib_19 (by first | assumption | omega) | exact ib_21 (by first | assumption | omega) | exact ib_22 (by first | assumption | omega) | exact ib_23 (by first | assumption | omega) | exact ib_24 (by first | assumption | omega) | exact ib_25 (by first | assumption | omega) | exact ib_26 (by first | assumption | omega) | exact ib_34 (by first | assumption | omega) | exact ib_36 (by first | assumption | omega) | exact ib_37 (by first | assumption | omega) | exact ib_38 (by first | assumption | omega) | exact ib_40 (by first | assumption | omega) | exact ib_41 (by first | assumption | omega) | exact ib_43 (by first | assumption | omega) | exact ib_52 (by first | assumption | omega) | exact ib_1 (by first | assumption | omega) | exact ib_3 (by first | assumption | omega) | omega | decide | exact il_14_0 | exact il_14_1 | exact il_14_2 | exact il_14_3 | exact il_14_4 | exact il_21_0 | exact il_21_1 | exact il_21_2)) only [en_X8_readComparison, st_X8_readComparison_0, st_X8_readComparison_1, st_X8_readComparison_3, st_X8_readComparison_6, st_X8_readComparison_7, st_X8_readComparison_8, st_X8_readComparison_11, st_X8_readComparison_12, st_X8_readComparison_13, st_X8_readComparison_14, st_X8_readComparison_16, st_X8_readComparison_19, st_X8_readComparison_20, st_X8_readComparison_21, st_X8_readComparison_24, st_X8_readComparison_25, st_X8_readComparison_26, st_X8_readComparison_27, st_X8_readComparison_29, st_X8_readComparison_32, st_X8_readComparison_34, st_X8_readComparison_36, st_X8_readComparison_39, st_X8_readComparison_40, st_X8_readComparison_41, st_X8_readComparison_42, st_X8_readComparison_43, st_X8_readComparison_44, st_X8_readComparison_46, st_X8_readComparison_49, st_X8_readComparison_52, st_X8_readComparison_53, h1, if_pos neg1, Option.toList_some, Option.toList_none, List.cons_append, List.nil_append, Option.getD_some, am_nlI, am_nlR, am_nlN, bi_eq0, if_true, if_false, bf_tf, bf_ft]
    exact g
  · rw [if_neg c1] at hQ
    have e1 := fP_cx (T := T) (n := n) (i := i)
    rw [if_neg c1] at e1
    have p1 : ¬ nI (ptN (nxc T n i)) < 0 := nI_pos (by omega)
    rw [e1, if_neg p1] at h1
    have k1 : skp T n i < n := nx_lt (fun h => c1 (by rw [h, ptN_0]; decide))
    have g1 := skp_ge (T := T) (n := n) (i := i)
    have h2 := fun (d : Nat) (Q : Option Value → am_H → Prop) => sp_oneR (d := d) (L := L) (b := b) (Q := Q) (i := skp T n i + 1) o1 hT.up k1
    rw [au_uu] at h2
    by_cases c2 : 3 ≤ rlN (nxc T n (skp T n i + 1))
    · rw [if_pos c2] at hQ
      have e2 := fR_cx (T := T) (n := n) (i := skp T n i + 1)
      rw [if_pos c2] at e2
      rw [e2] at h2
      have g := hQ (am_up a 33 2 (nI (skp T n (skp T n i + 1)))) ⟨GSW.refl.at hG, au_ss, fun h => absurd (show false = true from h) Bool.false_ne_true⟩
      simp only [au_uu, if_pos neg1] at h2
      simp (disch := (first | assumption | exact tg_12 | exact tg_13 | exact tg_2 | exact tg_20 | exact tg_14 | exact tg_15 | exact tg_16 | exact tg_17 | exact tg_18 | exact tg_19 | exact tg_21 | exact tg_22 | exact tg_23 | exact tg_24 | exact tg_25 | exact tg_26 | exact tg_33 | exact tg_34 | exact tg_35 | exact tg_36 | exact tg_37 | exact tg_38 | exact tg_39 | exact tg_40 | exact tg_41 | exact tg_42 | exact tg_43 | exact tg_52 | exact tg_1 | exact tg_3 | exact (show _ from rfl) | exact Nat.le_of_ble_eq_true rfl | exact bi_01 _ | exact Or.inl rfl | exact Or.inr rfl | exact ib_2 (by first | assumption | omega) | exact ib_20 (by first | assumption | omega) | exact ib_14 (by first | assumption | omega) | exact ib_15 (by first | assumption | omega) | exact ib_16 (by first | assumption | omega) | exact ib_17 (by first | assumption | omega) | exact ib_18 (by first | assumption | omega) | exact ib_19 (by first | assumption | omega) | exact ib_21 (by first | assumption | omega) | exact ib_22 (by first | assumption | omega) | exact ib_23 (by first | assumption | omega) | exact ib_24 (by first | assumption | omega) | exact ib_25 (by first | assumption | omega) | exact ib_26 (by first | assumption | omega) | exact ib_34 (by first | assumption | omega) | exact ib_36 (by first | assumption | omega) | exact ib_37 (by first | assumption | omega) | exact ib_38 (by first | assumption | omega) | exact ib_40 (by first | assumption | omega) | exact ib_41 (by first | assumption | omega) | exact ib_43 (by first | assumption | omega) | exact ib_52 (by first | assumption | omega) | exact ib_1 (by first | assumption | omega) | exact ib_3 (by first | assumption | omega) | omega | decide | exact il_14_0 | exact il_14_1 | exact il_14_2 | exact il_14_3 | exact il_14_4 | exact il_21_0 | exact il_21_1 | exact il_21_2)) only [en_X8_readComparison, st_X8_readComparison_0, st_X8_readComparison_1, st_X8_readComparison_3, st_X8_readComparison_6, st_X8_readComparison_7, st_X8_readComparison_8, st_X8_readComparison_11, st_X8_readComparison_12, st_X8_readComparison_13, st_X8_readComparison_14, st_X8_readComparison_16, st_X8_readComparison_19, st_X8_readComparison_20, st_X8_readComparison_21, st_X8_readComparison_24, st_X8_readComparison_25, st_X8_readComparison_26, st_X8_readComparison_27, st_X8_readComparison_29, st_X8_readComparison_32, st_X8_readComparison_34, st_X8_readComparison_36, st_X8_readComparison_39, st_X8_readComparison_40, st_X8_readComparison_41, st_X8_readComparison_42, st_X8_readComparison_43, st_X8_readComparison_44, st_X8_readComparison_46, st_X8_readComparison_49, st_X8_readComparison_52, st_X8_readComparison_53, h1, if_neg p1, h2, if_pos neg1, Option.toList_some, Option.toList_none, List.cons_append, List.nil_append, Option.getD_some, am_nlI, am_nlR, am_nlN, bi_eq0, if_true, if_false, bf_tf, bf_ft]
      exact g
    · rw [if_neg c2] at hQ
      have e2 := fR_cx (T := T) (n := n) (i := skp T n i + 1)
      rw [if_neg c2] at e2
      have p2 : ¬ nI (rlN (nxc T n (skp T n i + 1))) < 0 := nI_pos (by omega)
      rw [e2] at h2
      simp only [au_uu, if_neg p2] at h2
      have k2 : skp T n (skp T n i + 1) < n := nx_lt (fun h => c2 (by rw [h, rlN_0]; decide))
      have g2 := skp_ge (T := T) (n := n) (i := skp T n i + 1)
      have o2 : OLD (am_up a 33 2 (nI (skp T n (skp T n i + 1) + 1))) := OLD_low hO (fun c hc => au_d (by omega))
      have h3 := fun (d : Nat) (Q : Option Value → am_H → Prop) => sp_oneD (d := d) (L := L) (b := b) (Q := Q) (i := skp T n (skp T n i + 1) + 1) o2 hT.up k2
      by_cases c3 : 10 ≤ dgN (nxc T n (skp T n (skp T n i + 1) + 1))
      · rw [if_pos c3] at hQ
        have e3 := fD_cx (T := T) (n := n) (i := skp T n (skp T n i + 1) + 1)
        rw [if_pos c3] at e3
        rw [e3] at h3
        simp only [au_uu, if_pos neg1] at h3
        have g := hQ (am_up a 33 2 (nI (skp T n (skp T n (skp T n i + 1) + 1)))) ⟨GSW.refl.at hG, au_ss, fun h => absurd (show false = true from h) Bool.false_ne_true⟩
        simp (disch := (first | assumption | exact tg_12 | exact tg_13 | exact tg_2 | exact tg_20 | exact tg_14 | exact tg_15 | exact tg_16 | exact tg_17 | exact tg_18 | exact tg_19 | exact tg_21 | exact tg_22 | exact tg_23 | exact tg_24 | exact tg_25 | exact tg_26 | exact tg_33 | exact tg_34 | exact tg_35 | exact tg_36 | exact tg_37 | exact tg_38 | exact tg_39 | exact tg_40 | exact tg_41 | exact tg_42 | exact tg_43 | exact tg_52 | exact tg_1 | exact tg_3 | exact (show _ from rfl) | exact Nat.le_of_ble_eq_true rfl | exact bi_01 _ | exact Or.inl rfl | exact Or.inr rfl | exact ib_2 (by first | assumption | omega) | exact ib_20 (by first | assumption | omega) | exact ib_14 (by first | assumption | omega) | exact ib_15 (by first | assumption | omega) | exact ib_16 (by first | assumption | omega) | exact ib_17 (by first | assumption | omega) | exact ib_18 (by first | assumption | omega) | exact ib_19 (by first | assumption | omega) | exact ib_21 (by first | assumption | omega) | exact ib_22 (by first | assumption | omega) | exact ib_23 (by first | assumption | omega) | exact ib_24 (by first | assumption | omega) | exact ib_25 (by first | assumption | omega) | exact ib_26 (by first | assumption | omega) | exact ib_34 (by first | assumption | omega) | exact ib_36 (by first | assumption | omega) | exact ib_37 (by first | assumption | omega) | exact ib_38 (by first | assumption | omega) | exact ib_40 (by first | assumption | omega) | exact ib_41 (by first | assumption | omega) | exact ib_43 (by first | assumption | omega) | exact ib_52 (by first | assumption | omega) | exact ib_1 (by first | assumption | omega) | exact ib_3 (by first | assumption | omega) | omega | decide | exact il_14_0 | exact il_14_1 | exact il_14_2 | exact il_14_3 | exact il_14_4 | exact il_21_0 | exact il_21_1 | exact il_21_2)) only [en_X8_readComparison, st_X8_readComparison_0, st_X8_readComparison_1, st_X8_readComparison_3, st_X8_readComparison_6, st_X8_readComparison_7, st_X8_readComparison_8, st_X8_readComparison_11, st_X8_readComparison_12, st_X8_readComparison_13, st_X8_readComparison_14, st_X8_readComparison_16, st_X8_readComparison_19, st_X8_readComparison_20, st_X8_readComparison_21, st_X8_readComparison_24, st_X8_readComparison_25, st_X8_readComparison_26, st_X8_readComparison_27, st_X8_readComparison_29, st_X8_readComparison_32, st_X8_readComparison_34, st_X8_readComparison_36, st_X8_readComparison_39, st_X8_readComparison_40, st_X8_readComparison_41, st_X8_readComparison_42, st_X8_readComparison_43, st_X8_readComparison_44, st_X8_readComparison_46, st_X8_readComparison_49, st_X8_readComparison_52, st_X8_readComparison_53, h1, if_neg p1, h2, if_neg p2, h3, if_pos neg1, Option.toList_some, Option.toList_none, List.cons_append, List.nil_append, Option.getD_some, am_nlI, am_nlR, am_nlN, bi_eq0, if_true, if_false, bf_tf, bf_ft]
        exact g
      · rw [if_neg c3] at hQ
        have e3 := fD_cx (T := T) (n := n) (i := skp T n (skp T n i + 1) + 1)
        rw [if_neg c3] at e3
        have p3 : ¬ nI (dgN (nxc T n (skp T n (skp T n i + 1) + 1))) < 0 := nI_pos (by omega)
        rw [e3] at h3
        simp only [au_uu, if_neg p3] at h3
        have k3 : skp T n (skp T n (skp T n i + 1) + 1) < n := nx_lt (fun h => c3 (by rw [h, dgN_0]; decide))
        have g3 := skp_ge (T := T) (n := n) (i := skp T n (skp T n i + 1) + 1)
        have hs2 : am_up a 33 2 (nI (skp T n (skp T n (skp T n i + 1) + 1) + 1)) G 5 = nI s := by rw [au_d (by omega)]; exact hs
        have hadd := fun (d : Nat) (Q : Option Value → am_H → Prop) (x : Int32) => sp_add (d := d) (L := L) (b := b) (Q := Q) (x := x) hG hs2 (by omega)
        have hA : ACC G s a [nI (100 * ptN (nxc T n i) + 10 * rlN (nxc T n (skp T n i + 1)) + dgN (nxc T n (skp T n (skp T n i + 1) + 1)))] (am_up (am_up (am_up a 33 2 (nI (skp T n (skp T n (skp T n i + 1) + 1) + 1))) (G + 4) s (nI (100 * ptN (nxc T n i) + 10 * rlN (nxc T n (skp T n i + 1)) + dgN (nxc T n (skp T n (skp T n i + 1) + 1))))) G 5 (nI (s + 1))) := ((ACC.refl hs).at hG).trans (ACC.one hG hs2)
        have g := hQ _ ⟨hA.1, by rw [au_d (by omega), au_d (by omega), au_ss], fun _ => hA⟩
        simp (disch := (first | assumption | exact tg_12 | exact tg_13 | exact tg_2 | exact tg_20 | exact tg_14 | exact tg_15 | exact tg_16 | exact tg_17 | exact tg_18 | exact tg_19 | exact tg_21 | exact tg_22 | exact tg_23 | exact tg_24 | exact tg_25 | exact tg_26 | exact tg_33 | exact tg_34 | exact tg_35 | exact tg_36 | exact tg_37 | exact tg_38 | exact tg_39 | exact tg_40 | exact tg_41 | exact tg_42 | exact tg_43 | exact tg_52 | exact tg_1 | exact tg_3 | exact (show _ from rfl) | exact Nat.le_of_ble_eq_true rfl | exact bi_01 _ | exact Or.inl rfl | exact Or.inr rfl | exact ib_2 (by first | assumption | omega) | exact ib_20 (by first | assumption | omega) | exact ib_14 (by first | assumption | omega) | exact ib_15 (by first | assumption | omega) | exact ib_16 (by first | assumption | omega) | exact ib_17 (by first | assumption | omega) | exact ib_18 (by first | assumption | omega) | exact ib_19 (by first | assumption | omega) | exact ib_21 (by first | assumption | omega) | exact ib_22 (by first | assumption | omega) | exact ib_23 (by first | assumption | omega) | exact ib_24 (by first | assumption | omega) | exact ib_25 (by first | assumption | omega) | exact ib_26 (by first | assumption | omega) | exact ib_34 (by first | assumption | omega) | exact ib_36 (by first | assumption | omega) | exact ib_37 (by first | assumption | omega) | exact ib_38 (by first | assumption | omega) | exact ib_40 (by first | assumption | omega) | exact ib_41 (by first | assumption | omega) | exact ib_43 (by first | assumption | omega) | exact ib_52 (by first | assumption | omega) | exact ib_1 (by first | assumption | omega) | exact ib_3 (by first | assumption | omega) | omega | decide | exact il_14_0 | exact il_14_1 | exact il_14_2 | exact il_14_3 | exact il_14_4 | exact il_21_0 | exact il_21_1 | exact il_21_2)) only [en_X8_readComparison, st_X8_readComparison_0, st_X8_readComparison_1, st_X8_readComparison_3, st_X8_readComparison_6, st_X8_readComparison_7, st_X8_readComparison_8, st_X8_readComparison_11, st_X8_readComparison_12, st_X8_readComparison_13, st_X8_readComparison_14, st_X8_readComparison_16, st_X8_readComparison_19, st_X8_readComparison_20, st_X8_readComparison_21, st_X8_readComparison_24, st_X8_readComparison_25, st_X8_readComparison_26, st_X8_readComparison_27, st_X8_readComparison_29, st_X8_readComparison_32, st_X8_readComparison_34, st_X8_readComparison_36, st_X8_readComparison_39, st_X8_readComparison_40, st_X8_readComparison_41, st_X8_readComparison_42, st_X8_readComparison_43, st_X8_readComparison_44, st_X8_readComparison_46, st_X8_readComparison_49, st_X8_readComparison_52, st_X8_readComparison_53, h1, if_neg p1, h2, if_neg p2, h3, if_neg p3, sp_comparison, hadd, Option.toList_some, Option.toList_none, List.cons_append, List.nil_append, Option.getD_some, am_nlI, am_nlR, am_nlN, bi_eq0, if_true, if_false, bf_tf, bf_ft]
        exact g
end RDC
