/-! PARTS, and what a Spread's calls do -/
def SPc (q : Nat) : Prop := q = 27 ∨ q = 64 ∨ q = 71 ∨ q = 78 ∨ q = 85 ∨ q = 92 ∨ q = 99 ∨ q = 106 ∨ q = 113
theorem SPc.s {s : Nat} (h : s < 8) : SPc (64 + 7 * s) := by
  have : s = 0 ∨ s = 1 ∨ s = 2 ∨ s = 3 ∨ s = 4 ∨ s = 5 ∨ s = 6 ∨ s = 7 := by omega
  unfold SPc; omega
theorem SPc.t : SPc 27 := Or.inl rfl
theorem SPc.ge {q : Nat} (h : SPc q) : 27 ≤ q ∧ q ≤ 113 := by unfold SPc at h; omega
/-- what the tables say of a Spread's cells -/
theorem SPc.tg {q L : Nat} (h : SPc q) : am_tag (CT L) q = 6 ∧ am_tag (CT L) (q + 1) = 20 ∧ am_tag (CT L) (q + 2) = 20 ∧ am_tag (CT L) (q + 3) = 20 ∧ am_tag (CT L) (q + 4) = 20 ∧ am_tag (CT L) (q + 5) = 20 := by
  rcases h with rfl | rfl | rfl | rfl | rfl | rfl | rfl | rfl | rfl <;> exact ⟨rfl, rfl, rfl, rfl, rfl, rfl⟩
theorem SPc.ln {q L : Nat} (h : SPc q) : am_len (CT L) (q + 1) = 16 ∧ am_len (CT L) (q + 2) = 16 ∧ am_len (CT L) (q + 3) = 16 ∧ am_len (CT L) (q + 4) = 16 ∧ am_len (CT L) (q + 5) = 16 := by
  rcases h with rfl | rfl | rfl | rfl | rfl | rfl | rfl | rfl | rfl <;> exact ⟨rfl, rfl, rfl, rfl, rfl⟩
theorem SPc.rr {q : Nat} {b : Bool} (h : SPc q) : RR b q 0 = some (q + 1) ∧ RR b q 1 = some (q + 2) ∧ RR b q 2 = some (q + 3) ∧ RR b q 3 = some (q + 4) ∧ RR b q 4 = some (q + 5) := by
  rcases h with rfl | rfl | rfl | rfl | rfl | rfl | rfl | rfl | rfl <;> exact ⟨rfl, rfl, rfl, rfl, rfl⟩
theorem SPc.is {q : Nat} {b : Bool} (h : SPc q) : (RR b q 0).isSome = true ∧ (RR b q 1).isSome = true ∧ (RR b q 2).isSome = true ∧ (RR b q 3).isSome = true ∧ (RR b q 4).isSome = true := by
  rcases h with rfl | rfl | rfl | rfl | rfl | rfl | rfl | rfl | rfl <;> exact ⟨rfl, rfl, rfl, rfl, rfl⟩
theorem SPc.ib {q L p : Nat} (h : SPc q) (hp : p < 16) : inb (nI p) (am_len (CT L) (q + 1)) ∧ inb (nI p) (am_len (CT L) (q + 2)) ∧ inb (nI p) (am_len (CT L) (q + 3)) ∧ inb (nI p) (am_len (CT L) (q + 4)) ∧ inb (nI p) (am_len (CT L) (q + 5)) := by
  obtain ⟨h1, h2, h3, h4, h5⟩ := h.ln (L := L)
  rw [h1, h2, h3, h4, h5]
  have := inb_nI hp (by decide)
  exact ⟨this, this, this, this, this⟩
section SPR
variable {d L q p : Nat} {b : Bool} {a : Nat → Nat → Int32} {Q : Option Value → am_H → Prop}
set_option maxRecDepth 100000 in
theorem sp_turn {x t : Int32} (hq : SPc q) (hp : p < 16) : CALL d 39 [.ref q, .int (nI p), .int x, .int t] (CT L, a, RR b) Q = Q none (CT L, am_up (am_up a (q + 1) p x) (q + 2) p t, RR b) := by
  obtain ⟨t0, t1, t2, t3, t4, t5⟩ := hq.tg (L := L)
  obtain ⟨r0, r1, r2, r3, r4⟩ := hq.rr (b := b)
  obtain ⟨i0, i1, i2, i3, i4⟩ := hq.is (b := b)
  obtain ⟨b1, b2, b3, b4, b5⟩ := hq.ib (L := L) hp
  have g := hq.ge
  have hc : (nI p).toNatClampNeg = p := nI_clamp (by omega)
  simp (disch := (first | assumption | exact tg_12 | exact (show _ from rfl) | exact Nat.le_of_ble_eq_true rfl | exact bi_01 _ | exact Or.inl rfl | exact Or.inr rfl | omega | decide)) only [en_X7_turn, st_X7_turn_0, st_X7_turn_1, st_X7_turn_4, st_X7_turn_5, st_X7_turn_6, st_X7_turn_7, st_X7_turn_8, st_X7_turn_11, st_X7_turn_12, st_X7_turn_13, st_X7_turn_14, r0, r1, r2, r3, r4, hc, Option.toList_some, Option.toList_none, List.cons_append, List.nil_append, Option.getD_some, am_nlI, am_nlR, am_nlN, bi_eq0, if_true, if_false, bf_tf, bf_ft]
set_option maxRecDepth 100000 in
theorem sp_take {x t : Int32} (hq : SPc q) (hp : p < 16) : CALL d 40 [.ref q, .int (nI p), .int x, .int t] (CT L, a, RR b) Q = Q none (CT L, am_up (am_up a (q + 3) p x) (q + 4) p t, RR b) := by
  obtain ⟨t0, t1, t2, t3, t4, t5⟩ := hq.tg (L := L)
  obtain ⟨r0, r1, r2, r3, r4⟩ := hq.rr (b := b)
  obtain ⟨i0, i1, i2, i3, i4⟩ := hq.is (b := b)
  obtain ⟨b1, b2, b3, b4, b5⟩ := hq.ib (L := L) hp
  have g := hq.ge
  have hc : (nI p).toNatClampNeg = p := nI_clamp (by omega)
  simp (disch := (first | assumption | exact tg_12 | exact (show _ from rfl) | exact Nat.le_of_ble_eq_true rfl | exact bi_01 _ | exact Or.inl rfl | exact Or.inr rfl | omega | decide)) only [en_X7_take, st_X7_take_0, st_X7_take_1, st_X7_take_4, st_X7_take_5, st_X7_take_6, st_X7_take_7, st_X7_take_8, st_X7_take_11, st_X7_take_12, st_X7_take_13, st_X7_take_14, r0, r1, r2, r3, r4, hc, Option.toList_some, Option.toList_none, List.cons_append, List.nil_append, Option.getD_some, am_nlI, am_nlR, am_nlN, bi_eq0, if_true, if_false, bf_tf, bf_ft]
set_option maxRecDepth 100000 in
theorem sp_isNewTo (hq : SPc q) (hp : p < 16) : CALL d 42 [.ref q, .int (nI p)] (CT L, a, RR b) Q = Q (some (.int (bi (decide (a (q + 1) p = 0 ∨ a (q + 1) p = 3))))) (CT L, a, RR b) := by
  obtain ⟨t0, t1, t2, t3, t4, t5⟩ := hq.tg (L := L)
  obtain ⟨r0, r1, r2, r3, r4⟩ := hq.rr (b := b)
  obtain ⟨i0, i1, i2, i3, i4⟩ := hq.is (b := b)
  obtain ⟨b1, b2, b3, b4, b5⟩ := hq.ib (L := L) hp
  have g := hq.ge
  have hc : (nI p).toNatClampNeg = p := nI_clamp (by omega)
  simp (disch := (first | assumption | exact tg_12 | exact (show _ from rfl) | exact Nat.le_of_ble_eq_true rfl | exact bi_01 _ | exact Or.inl rfl | exact Or.inr rfl | omega | decide)) only [en_X7_isNewTo, st_X7_isNewTo_0, st_X7_isNewTo_1, st_X7_isNewTo_4, st_X7_isNewTo_5, st_X7_isNewTo_6, st_X7_isNewTo_9, st_X7_isNewTo_10, st_X7_isNewTo_13, st_X7_isNewTo_14, st_X7_isNewTo_15, st_X7_isNewTo_16, st_X7_isNewTo_19, st_X7_isNewTo_20, st_X7_isNewTo_23, st_X7_isNewTo_24, r0, r1, r2, r3, r4, hc, Option.toList_some, Option.toList_none, List.cons_append, List.nil_append, Option.getD_some, am_nlI, am_nlR, am_nlN, bi_eq0, if_true, if_false, bf_tf, bf_ft]
  by_cases h1 : a (q + 1) p = 0
  · simp [h1, bi]
  · by_cases h2 : a (q + 1) p = 3 <;> simp [h1, h2, bi]
set_option maxRecDepth 100000 in
theorem sp_start {x t : Int32} (hq : SPc q) (hp : p < 16) : CALL (d + 1) 41 [.ref q, .int (nI p), .int x, .int t] (CT L, a, RR b) Q = Q none (CT L, am_up (am_up (am_up (am_up (am_up a (q + 1) p 1) (q + 2) p t) (q + 3) p x) (q + 4) p 17) (q + 5) p t, RR b) := by
  obtain ⟨t0, t1, t2, t3, t4, t5⟩ := hq.tg (L := L)
  obtain ⟨r0, r1, r2, r3, r4⟩ := hq.rr (b := b)
  obtain ⟨i0, i1, i2, i3, i4⟩ := hq.is (b := b)
  obtain ⟨b1, b2, b3, b4, b5⟩ := hq.ib (L := L) hp
  have g := hq.ge
  have hc : (nI p).toNatClampNeg = p := nI_clamp (by omega)
  simp (disch := (first | assumption | exact tg_12 | exact (show _ from rfl) | exact Nat.le_of_ble_eq_true rfl | exact bi_01 _ | exact Or.inl rfl | exact Or.inr rfl | omega | decide)) only [en_X7_start, st_X7_start_0, st_X7_start_1, st_X7_start_2, st_X7_start_3, st_X7_start_4, st_X7_start_7, st_X7_start_8, st_X7_start_9, st_X7_start_10, st_X7_start_12, st_X7_start_15, st_X7_start_16, st_X7_start_19, st_X7_start_20, st_X7_start_21, st_X7_start_22, sp_turn hq hp, sp_take hq hp, r0, r1, r2, r3, r4, hc, Option.toList_some, Option.toList_none, List.cons_append, List.nil_append, Option.getD_some, am_nlI, am_nlR, am_nlN, bi_eq0, if_true, if_false, bf_tf, bf_ft]
/-- a row's first i places from another row -/
def cpf (f g : Nat → Int32) (i : Nat) : Nat → Int32 := fun j => if j < i then f j else g j
theorem cpf_0 (f g : Nat → Int32) : cpf f g 0 = g := by funext j; simp [cpf]
theorem cpf_s (f g : Nat → Int32) (i : Nat) : upd (cpf f g i) i (f i) = cpf f g (i + 1) := by
  funext j
  unfold upd cpf
  by_cases h : j = i
  · subst h; simp
  · by_cases h2 : j < i
    · simp [h, h2, Nat.lt_succ_of_lt h2]
    · simp [h, h2, show ¬ j < i + 1 by omega]
theorem loop_eq {P : Nat → Prop} (n : Nat) (h : ∀ i, i < n → P i = P (i + 1)) : ∀ i, i ≤ n → P 0 = P i
  | 0, _ => rfl
  | i + 1, hi => (loop_eq n h i (by omega)).trans (h i (by omega))
theorem am_row_up {f : Nat → Nat → Int32} {k j : Nat} {g : Nat → Int32} {x : Int32} : am_up (am_row f k g) k j x = am_row f k (upd g j x) := by
  funext k'
  by_cases h : k' = k <;> simp [am_up, am_row, h]
theorem am_row_id {f : Nat → Nat → Int32} {k : Nat} : am_row f k (f k) = f := by
  funext k'
  by_cases h : k' = k <;> simp [am_row, h]
theorem ar_s {f : Nat → Nat → Int32} {k : Nat} {g : Nat → Int32} : am_row f k g k = g := by simp [am_row]
theorem ar_d {f : Nat → Nat → Int32} {k k' : Nat} {g : Nat → Int32} (h : k' ≠ k) : am_row f k g k' = f k' := by simp [am_row, h]
theorem lit_nI (n : Nat) : (OfNat.ofNat n : Int32) = nI n := rfl
set_option maxRecDepth 100000 in
theorem sp_empty (hq : SPc q) : CALL d 37 [.ref q] (CT L, a, RR b) Q = Q none (CT L, am_row a (q + 1) (cpf (fun _ => 0) (a (q + 1)) 16), RR b) := by
  obtain ⟨t0, t1, t2, t3, t4, t5⟩ := hq.tg (L := L)
  obtain ⟨r0, r1, r2, r3, r4⟩ := hq.rr (b := b)
  obtain ⟨i0, i1, i2, i3, i4⟩ := hq.is (b := b)
  have g := hq.ge
  simp (disch := (first | assumption | exact tg_12 | exact (show _ from rfl) | exact Nat.le_of_ble_eq_true rfl | exact bi_01 _ | exact Or.inl rfl | exact Or.inr rfl | omega | decide)) only [en_X7_empty, st_X7_empty_0, st_X7_empty_1, Option.toList_some, Option.toList_none, List.cons_append, List.nil_append, Option.getD_some, am_nlI, am_nlR, am_nlN, bi_eq0, if_true, if_false, bf_tf, bf_ft]
  have key := loop_eq (P := fun i => AW d 37 2 [some (.ref q), some (.int (nI i))] [] (CT L, am_row a (q + 1) (cpf (fun _ => 0) (a (q + 1)) i), RR b) Q) 16 (fun i hi => by
    obtain ⟨b1, b2, b3, b4, b5⟩ := hq.ib (L := L) (p := i) hi
    have hc : (nI i).toNatClampNeg = i := nI_clamp (by omega)
    have hlt : nI i < 16 := nI_lt hi (by decide)
    simp (disch := (first | assumption | exact tg_12 | exact (show _ from rfl) | exact Nat.le_of_ble_eq_true rfl | exact bi_01 _ | exact Or.inl rfl | exact Or.inr rfl | omega | decide)) only [st_X7_empty_0, st_X7_empty_1, st_X7_empty_2, st_X7_empty_3, st_X7_empty_5, st_X7_empty_8, st_X7_empty_9, st_X7_empty_12, st_X7_empty_13, st_X7_empty_14, st_X7_empty_15, st_X7_empty_18, st_X7_empty_21, if_pos hlt, r0, r1, r2, r3, r4, hc, Option.toList_some, Option.toList_none, List.cons_append, List.nil_append, Option.getD_some, am_nlI, am_nlR, am_nlN, bi_eq0, if_true, if_false, bf_tf, bf_ft, am_row_up, nI_1, cpf_s (fun _ => 0) (a (q + 1)) i]) 16 (Nat.le_refl 16)
  rw [cpf_0, am_row_id] at key
  refine Eq.trans key ?_
  have hlt : ¬ nI 16 < 16 := by decide
  simp (disch := (first | assumption | exact tg_12 | exact (show _ from rfl) | exact Nat.le_of_ble_eq_true rfl | exact bi_01 _ | exact Or.inl rfl | exact Or.inr rfl | omega | decide)) only [st_X7_empty_0, st_X7_empty_1, st_X7_empty_2, st_X7_empty_3, st_X7_empty_5, st_X7_empty_8, st_X7_empty_9, st_X7_empty_12, st_X7_empty_13, st_X7_empty_14, st_X7_empty_15, st_X7_empty_18, st_X7_empty_21, if_neg hlt, Option.toList_some, Option.toList_none, List.cons_append, List.nil_append, Option.getD_some, am_nlI, am_nlR, am_nlN, bi_eq0, if_true, if_false, bf_tf, bf_ft]
end SPR
