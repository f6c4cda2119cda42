/-! THE REFERENCE: its rows as persons and sayings; its small calls -/
def pm (a : Nat → Nat → Int32) (M : Nat → Nat → PS) : Nat → Nat → Int32 := fun k j => if k = 137 then (M (j % 8) (j / 8)).st else if k = 138 then (M (j % 8) (j / 8)).si else if k = 139 then (M (j % 8) (j / 8)).ve else if k = 140 then (M (j % 8) (j / 8)).fr else if k = 141 then (M (j % 8) (j / 8)).la else a k j
def gm (a : Nat → Nat → Int32) : Nat → Nat → PS := fun s p => mkP (a 137 (8 * p + s)) (a 138 (8 * p + s)) (a 139 (8 * p + s)) (a 140 (8 * p + s)) (a 141 (8 * p + s))
def upM (M : Nat → Nat → PS) (s p : Nat) (r : PS) : Nat → Nat → PS := fun s' p' => if s' = s ∧ p' = p then r else M s' p'
section PM
variable {a : Nat → Nat → Int32} {M N : Nat → Nat → PS} {s p : Nat} {x : Int32}
theorem pm_i (hs : s < 8) : (8 * p + s) % 8 = s ∧ (8 * p + s) / 8 = p := by omega
theorem pm_1 (hs : s < 8) : pm a M 137 (8 * p + s) = (M s p).st := by obtain ⟨h1, h2⟩ := pm_i (p := p) hs; simp [pm, h1, h2]
theorem pm_2 (hs : s < 8) : pm a M 138 (8 * p + s) = (M s p).si := by obtain ⟨h1, h2⟩ := pm_i (p := p) hs; simp [pm, h1, h2]
theorem pm_3 (hs : s < 8) : pm a M 139 (8 * p + s) = (M s p).ve := by obtain ⟨h1, h2⟩ := pm_i (p := p) hs; simp [pm, h1, h2]
theorem pm_4 (hs : s < 8) : pm a M 140 (8 * p + s) = (M s p).fr := by obtain ⟨h1, h2⟩ := pm_i (p := p) hs; simp [pm, h1, h2]
theorem pm_5 (hs : s < 8) : pm a M 141 (8 * p + s) = (M s p).la := by obtain ⟨h1, h2⟩ := pm_i (p := p) hs; simp [pm, h1, h2]
theorem pm_o {k : Nat} (h : k < 137 ∨ 141 < k) : pm a M k = a k := by
  funext j
  unfold pm
  rw [if_neg (by omega), if_neg (by omega), if_neg (by omega), if_neg (by omega), if_neg (by omega)]
theorem upM_s {r : PS} : upM M s p r s p = r := by simp [upM]
theorem upM_u {r r' : PS} : upM (upM M s p r) s p r' = upM M s p r' := by
  funext s' p'
  unfold upM
  split <;> rfl
theorem upM_id : upM M s p (M s p) = M := by
  funext s' p'
  unfold upM
  split
  · rename_i h; rw [h.1, h.2]
  · rfl
theorem pm_ne {j : Nat} (hs : s < 8) (h : j ≠ 8 * p + s) : ¬ (j % 8 = s ∧ j / 8 = p) := by omega
theorem pm_gen (hs : s < 8) {F : PS → Int32} {k : Nat} {r : PS} (j : Nat) (hx : F r = x) : upd (fun j => F (M (j % 8) (j / 8))) (8 * p + s) x j = F (upM M s p r (j % 8) (j / 8)) := by
  unfold upd upM
  by_cases h : j = 8 * p + s
  · obtain ⟨h1, h2⟩ := pm_i (p := p) hs
    subst h
    rw [if_pos rfl, if_pos ⟨h1, h2⟩, hx]
  · rw [if_neg h, if_neg (pm_ne hs h)]
theorem pm_gen' {F : PS → Int32} {r : PS} (j : Nat) (hx : F r = F (M s p)) : F (upM M s p r (j % 8) (j / 8)) = F (M (j % 8) (j / 8)) := by
  unfold upM
  split
  · rename_i h; rw [h.1, h.2, hx]
  · rfl
theorem pm_u1 (hs : s < 8) : am_up (pm a M) 137 (8 * p + s) x = pm a (upM M s p (mkP x (M s p).si (M s p).ve (M s p).fr (M s p).la)) := by
  funext k j
  by_cases h : k = 137
  · subst h
    exact pm_gen (k := 137) hs (F := PS.st) j mkP_st
  · simp only [am_up, h, if_false, pm]
    rw [pm_gen' (F := PS.si) j mkP_si, pm_gen' (F := PS.ve) j mkP_ve, pm_gen' (F := PS.fr) j mkP_fr, pm_gen' (F := PS.la) j mkP_la]
theorem pm_u2 (hs : s < 8) : am_up (pm a M) 138 (8 * p + s) x = pm a (upM M s p (mkP (M s p).st x (M s p).ve (M s p).fr (M s p).la)) := by
  funext k j
  by_cases h : k = 138
  · subst h
    exact pm_gen (k := 138) hs (F := PS.si) j mkP_si
  · simp only [am_up, h, if_false, pm]
    rw [pm_gen' (F := PS.st) j mkP_st, pm_gen' (F := PS.ve) j mkP_ve, pm_gen' (F := PS.fr) j mkP_fr, pm_gen' (F := PS.la) j mkP_la]
theorem pm_u3 (hs : s < 8) : am_up (pm a M) 139 (8 * p + s) x = pm a (upM M s p (mkP (M s p).st (M s p).si x (M s p).fr (M s p).la)) := by
  funext k j
  by_cases h : k = 139
  · subst h
    exact pm_gen (k := 139) hs (F := PS.ve) j mkP_ve
  · simp only [am_up, h, if_false, pm]
    rw [pm_gen' (F := PS.st) j mkP_st, pm_gen' (F := PS.si) j mkP_si, pm_gen' (F := PS.fr) j mkP_fr, pm_gen' (F := PS.la) j mkP_la]
theorem pm_u4 (hs : s < 8) : am_up (pm a M) 140 (8 * p + s) x = pm a (upM M s p (mkP (M s p).st (M s p).si (M s p).ve x (M s p).la)) := by
  funext k j
  by_cases h : k = 140
  · subst h
    exact pm_gen (k := 140) hs (F := PS.fr) j mkP_fr
  · simp only [am_up, h, if_false, pm]
    rw [pm_gen' (F := PS.st) j mkP_st, pm_gen' (F := PS.si) j mkP_si, pm_gen' (F := PS.ve) j mkP_ve, pm_gen' (F := PS.la) j mkP_la]
theorem pm_u5 (hs : s < 8) : am_up (pm a M) 141 (8 * p + s) x = pm a (upM M s p (mkP (M s p).st (M s p).si (M s p).ve (M s p).fr x)) := by
  funext k j
  by_cases h : k = 141
  · subst h
    exact pm_gen (k := 141) hs (F := PS.la) j mkP_la
  · simp only [am_up, h, if_false, pm]
    rw [pm_gen' (F := PS.st) j mkP_st, pm_gen' (F := PS.si) j mkP_si, pm_gen' (F := PS.ve) j mkP_ve, pm_gen' (F := PS.fr) j mkP_fr]
theorem pm_gm : pm a (gm a) = a := by
  funext k j
  unfold pm gm
  simp only [mkP_st, mkP_si, mkP_ve, mkP_fr, mkP_la, show 8 * (j / 8) + j % 8 = j by omega]
  by_cases h1 : k = 137
  · simp [h1]
  · by_cases h2 : k = 138
    · simp [h2]
    · by_cases h3 : k = 139
      · simp [h3]
      · by_cases h4 : k = 140
        · simp [h4]
        · by_cases h5 : k = 141
          · simp [h5]
          · simp [h1, h2, h3, h4, h5]
theorem pm_pm : pm (pm a M) N = pm a N := by
  funext k j
  unfold pm
  repeat' split
  all_goals rfl
theorem pm_row {k : Nat} {g : Nat → Int32} (h : k < 137 ∨ 141 < k) : am_row (pm a M) k g = pm (am_row a k g) M := by
  funext k' j
  by_cases e : k' = k
  · subst e
    rw [pm_o h]
    simp [am_row]
  · unfold pm
    simp [am_row, e]
theorem pm_up {k j : Nat} (h : k < 137 ∨ 141 < k) : am_up (pm a M) k j x = pm (am_up a k j x) M := by
  funext k' j'
  by_cases e : k' = k
  · subst e
    rw [pm_o h]
    simp [am_up, pm_o h]
  · unfold pm
    simp [am_up, e]
end PM
/-- the town as the reference has it -/
def EM (a : Nat → Nat → Int32) (E : ENV) : Prop := a 127 0 = nI E.n ∧ (∀ p, p < E.n → a 129 (5 * p) = E.tr p) ∧ (∀ p, p < E.n → a 129 (5 * p + 1) = nI (E.hb p)) ∧ (∀ p, p < E.n → a 129 (5 * p + 2) = E.rd p) ∧ (∀ p, p < E.n → a 129 (5 * p + 3) = E.fe p) ∧ (∀ p, p < E.n → a 129 (5 * p + 4) = E.dt p) ∧ (∀ w, w < 10 → a 136 w = E.wt w) ∧ (∀ i, i < 3 → ∀ p, p < E.n → a 128 (3 * p + i) = nI (E.pl i p))
theorem EM.n {a : Nat → Nat → Int32} {E : ENV} (h : EM a E) : a 127 0 = nI E.n := h.1
theorem EM.tr {a : Nat → Nat → Int32} {E : ENV} (h : EM a E) : ∀ p, p < E.n → a 129 (5 * p) = E.tr p := h.2.1
theorem EM.hb {a : Nat → Nat → Int32} {E : ENV} (h : EM a E) : ∀ p, p < E.n → a 129 (5 * p + 1) = nI (E.hb p) := h.2.2.1
theorem EM.rd {a : Nat → Nat → Int32} {E : ENV} (h : EM a E) : ∀ p, p < E.n → a 129 (5 * p + 2) = E.rd p := h.2.2.2.1
theorem EM.fe {a : Nat → Nat → Int32} {E : ENV} (h : EM a E) : ∀ p, p < E.n → a 129 (5 * p + 3) = E.fe p := h.2.2.2.2.1
theorem EM.dt {a : Nat → Nat → Int32} {E : ENV} (h : EM a E) : ∀ p, p < E.n → a 129 (5 * p + 4) = E.dt p := h.2.2.2.2.2.1
theorem EM.wt {a : Nat → Nat → Int32} {E : ENV} (h : EM a E) : ∀ w, w < 10 → a 136 w = E.wt w := h.2.2.2.2.2.2.1
theorem EM.pl {a : Nat → Nat → Int32} {E : ENV} (h : EM a E) : ∀ i, i < 3 → ∀ p, p < E.n → a 128 (3 * p + i) = nI (E.pl i p) := h.2.2.2.2.2.2.2
theorem EM.of {a a' : Nat → Nat → Int32} {E : ENV} (h : EM a E) (e0 : a' 127 0 = a 127 0) (e1 : a' 128 = a 128) (e2 : a' 129 = a 129) (e3 : a' 136 = a 136) : EM a' E := by
  unfold EM
  rw [e0, e1, e2, e3]
  exact h
theorem EM.pm {a : Nat → Nat → Int32} {E : ENV} {M : Nat → Nat → PS} (h : EM a E) : EM (pm a M) E := h.of (by rw [pm_o (by omega)]) (pm_o (by omega)) (pm_o (by omega)) (pm_o (by omega))
theorem i8 (p s : Nat) : (8 : Int32) * nI p + nI s = nI (8 * p + s) := by
  rw [show (8 : Int32) = nI 8 from rfl, pk_mul, nI_add]
theorem i5 (p s : Nat) : (5 : Int32) * nI p + nI s = nI (5 * p + s) := by
  rw [show (5 : Int32) = nI 5 from rfl, pk_mul, nI_add]
theorem i5_0 (p : Nat) : (5 : Int32) * nI p = nI (5 * p) := by
  rw [show (5 : Int32) = nI 5 from rfl, pk_mul]
theorem i5_1 (p : Nat) : (5 : Int32) * nI p + 1 = nI (5 * p + 1) := i5 p 1
theorem i5_2 (p : Nat) : (5 : Int32) * nI p + 2 = nI (5 * p + 2) := i5 p 2
theorem i5_3 (p : Nat) : (5 : Int32) * nI p + 3 = nI (5 * p + 3) := i5 p 3
theorem i5_4 (p : Nat) : (5 : Int32) * nI p + 4 = nI (5 * p + 4) := i5 p 4
theorem i3 (p s : Nat) : (3 : Int32) * nI p + nI s = nI (3 * p + s) := by
  rw [show (3 : Int32) = nI 3 from rfl, pk_mul, nI_add]
section MSM
variable {d L p : Nat} {b : Bool} {a : Nat → Nat → Int32} {Q : Option Value → am_H → Prop} {E : ENV} {t v : Int32}
set_option maxRecDepth 100000 in
theorem sm_unit {h : am_H} {j : Nat} {x : Int32} (hj : j < 4) (hx : x = nI (j + 1)) : CALL d 134 [.int x] h Q = Q (some (.int (un j))) h := by
  subst hx
  rcases (show j = 0 ∨ j = 1 ∨ j = 2 ∨ j = 3 by omega) with rfl | rfl | rfl | rfl
  · have h1 : nI (0 + 1) = 1 := rfl
    simp (disch := (first | assumption | exact tg_12 | exact (show _ from rfl) | exact Nat.le_of_ble_eq_true rfl | exact bi_01 _ | exact Or.inl rfl | exact Or.inr rfl | omega | decide)) only [en_X11_unit, st_X11_unit_0, st_X11_unit_1, st_X11_unit_2, st_X11_unit_5, st_X11_unit_8, st_X11_unit_11, st_X11_unit_12, st_X11_unit_13, st_X11_unit_16, st_X11_unit_18, st_X11_unit_21, st_X11_unit_22, st_X11_unit_23, st_X11_unit_26, st_X11_unit_28, st_X11_unit_31, st_X11_unit_32, if_pos h1, un, Option.toList_some, Option.toList_none, List.cons_append, List.nil_append, Option.getD_some, am_nlI, am_nlR, am_nlN, bi_eq0, if_true, if_false, bf_tf, bf_ft]
  · have h1 : ¬ nI (1 + 1) = 1 := by decide
    have h2 : nI (1 + 1) = 2 := rfl
    simp (disch := (first | assumption | exact tg_12 | exact (show _ from rfl) | exact Nat.le_of_ble_eq_true rfl | exact bi_01 _ | exact Or.inl rfl | exact Or.inr rfl | omega | decide)) only [en_X11_unit, st_X11_unit_0, st_X11_unit_1, st_X11_unit_2, st_X11_unit_5, st_X11_unit_8, st_X11_unit_11, st_X11_unit_12, st_X11_unit_13, st_X11_unit_16, st_X11_unit_18, st_X11_unit_21, st_X11_unit_22, st_X11_unit_23, st_X11_unit_26, st_X11_unit_28, st_X11_unit_31, st_X11_unit_32, if_neg h1, if_pos h2, un, Option.toList_some, Option.toList_none, List.cons_append, List.nil_append, Option.getD_some, am_nlI, am_nlR, am_nlN, bi_eq0, if_true, if_false, bf_tf, bf_ft]
  · have h1 : ¬ nI (2 + 1) = 1 := by decide
    have h2 : ¬ nI (2 + 1) = 2 := by decide
    have h3 : nI (2 + 1) = 3 := rfl
    simp (disch := (first | assumption | exact tg_12 | exact (show _ from rfl) | exact Nat.le_of_ble_eq_true rfl | exact bi_01 _ | exact Or.inl rfl | exact Or.inr rfl | omega | decide)) only [en_X11_unit, st_X11_unit_0, st_X11_unit_1, st_X11_unit_2, st_X11_unit_5, st_X11_unit_8, st_X11_unit_11, st_X11_unit_12, st_X11_unit_13, st_X11_unit_16, st_X11_unit_18, st_X11_unit_21, st_X11_unit_22, st_X11_unit_23, st_X11_unit_26, st_X11_unit_28, st_X11_unit_31, st_X11_unit_32, if_neg h1, if_neg h2, if_pos h3, un, Option.toList_some, Option.toList_none, List.cons_append, List.nil_append, Option.getD_some, am_nlI, am_nlR, am_nlN, bi_eq0, if_true, if_false, bf_tf, bf_ft]
  · have h1 : ¬ nI (3 + 1) = 1 := by decide
    have h2 : ¬ nI (3 + 1) = 2 := by decide
    have h3 : ¬ nI (3 + 1) = 3 := by decide
    simp (disch := (first | assumption | exact tg_12 | exact (show _ from rfl) | exact Nat.le_of_ble_eq_true rfl | exact bi_01 _ | exact Or.inl rfl | exact Or.inr rfl | omega | decide)) only [en_X11_unit, st_X11_unit_0, st_X11_unit_1, st_X11_unit_2, st_X11_unit_5, st_X11_unit_8, st_X11_unit_11, st_X11_unit_12, st_X11_unit_13, st_X11_unit_16, st_X11_unit_18, st_X11_unit_21, st_X11_unit_22, st_X11_unit_23, st_X11_unit_26, st_X11_unit_28, st_X11_unit_31, st_X11_unit_32, if_neg h1, if_neg h2, if_neg h3, un, Option.toList_some, Option.toList_none, List.cons_append, List.nil_append, Option.getD_some, am_nlI, am_nlR, am_nlN, bi_eq0, if_true, if_false, bf_tf, bf_ft]
set_option maxRecDepth 100000 in
theorem sm_partOf {h : am_H} {j : Nat} {x : Int32} (hj : j < 4) (hx : x = nI (j + 1)) : CALL (d + 1) 135 [.int v, .int x] h Q = Q (some (.int (dg v j))) h := by
  have hz := d10
  have hu : un j ≠ 0 := un_ne
  simp (disch := (first | assumption | exact tg_12 | exact (show _ from rfl) | exact Nat.le_of_ble_eq_true rfl | exact bi_01 _ | exact Or.inl rfl | exact Or.inr rfl | omega | decide)) only [en_X11_partOf, st_X11_partOf_0, st_X11_partOf_1, st_X11_partOf_2, st_X11_partOf_5, st_X11_partOf_6, st_X11_partOf_8, st_X11_partOf_9, sm_unit hj hx, Option.toList_some, Option.toList_none, List.cons_append, List.nil_append, Option.getD_some, am_nlI, am_nlR, am_nlN, bi_eq0, if_true, if_false, bf_tf, bf_ft, dg]
set_option maxRecDepth 100000 in
theorem sm_fear (hp : p < 16) : CALL d 131 [.ref (127 : Nat), .int (nI p)] (CT L, a, RR b) Q = Q (some (.int (a 129 (5 * p + 3)))) (CT L, a, RR b) := by
  have hc : (nI (5 * p + 3)).toNatClampNeg = 5 * p + 3 := nI_clamp (by omega)
  simp (disch := (first | assumption | exact tg_127 | exact tg_128 | exact tg_129 | exact tg_130 | exact tg_131 | exact tg_132 | exact tg_133 | exact tg_134 | exact tg_135 | exact tg_136 | exact tg_137 | exact tg_138 | exact tg_139 | exact tg_140 | exact tg_141 | exact tg_142 | exact tg_143 | exact tg_144 | exact tg_145 | exact tg_146 | exact tg_147 | exact tg_148 | exact tg_149 | exact tg_150 | exact tg_151 | exact tg_152 | exact tg_153 | exact tg_154 | exact tg_155 | exact tg_156 | exact tg_157 | exact tg_158 | exact tg_159 | exact tg_160 | exact tg_161 | exact tg_162 | exact (show _ from rfl) | exact Nat.le_of_ble_eq_true rfl | exact bi_01 _ | exact Or.inl rfl | exact Or.inr rfl | exact ib_128 (by first | assumption | omega) | exact ib_129 (by first | assumption | omega) | exact ib_130 (by first | assumption | omega) | exact ib_131 (by first | assumption | omega) | exact ib_132 (by first | assumption | omega) | exact ib_133 (by first | assumption | omega) | exact ib_134 (by first | assumption | omega) | exact ib_135 (by first | assumption | omega) | exact ib_136 (by first | assumption | omega) | exact ib_137 (by first | assumption | omega) | exact ib_138 (by first | assumption | omega) | exact ib_139 (by first | assumption | omega) | exact ib_140 (by first | assumption | omega) | exact ib_141 (by first | assumption | omega) | exact ib_142 (by first | assumption | omega) | exact ib_143 (by first | assumption | omega) | exact ib_144 (by first | assumption | omega) | exact ib_145 (by first | assumption | omega) | exact ib_146 (by first | assumption | omega) | exact ib_147 (by first | assumption | omega) | exact ib_148 (by first | assumption | omega) | exact ib_149 (by first | assumption | omega) | exact ib_150 (by first | assumption | omega) | exact ib_151 (by first | assumption | omega) | exact ib_152 (by first | assumption | omega) | exact ib_153 (by first | assumption | omega) | exact ib_154 (by first | assumption | omega) | exact ib_155 (by first | assumption | omega) | exact ib_156 (by first | assumption | omega) | exact ib_157 (by first | assumption | omega) | exact ib_158 (by first | assumption | omega) | exact ib_159 (by first | assumption | omega) | exact ib_160 (by first | assumption | omega) | exact ib_161 (by first | assumption | omega) | exact ib_162 (by first | assumption | omega) | omega | decide)) only [en_X11_fear, st_X11_fear_0, st_X11_fear_1, st_X11_fear_4, st_X11_fear_5, st_X11_fear_6, st_X11_fear_7, st_X11_fear_8, st_X11_fear_9, st_X11_fear_10, rr_127_1, rr_127_2, rr_127_5, rr_127_6, rr_127_7, rr_127_8, rr_127_9, rr_127_10, rr_127_11, rr_127_12, rr_127_13, rr_127_14, rr_127_15, rr_127_16, rr_127_17, rr_127_18, rr_127_19, rr_127_20, rr_127_21, rr_127_23, rr_127_25, rr_127_27, rr_127_32, rr_127_33, rr_127_34, rr_127_37, rr_127_39, rr_127_42, rr_127_43, rr_127_44, rr_127_45, rr_127_46, rr_127_47, rr_127_48, rr_127_49, i5_3, hc, Option.toList_some, Option.toList_none, List.cons_append, List.nil_append, Option.getD_some, am_nlI, am_nlR, am_nlN, bi_eq0, if_true, if_false, bf_tf, bf_ft]
set_option maxRecDepth 100000 in
theorem sm_placeOf (hp : p < 16) : CALL (d + 1) 127 [.ref (127 : Nat), .int (nI p), .int t] (CT L, a, RR b) Q = Q (some (.int (a 128 (3 * p + spot t)))) (CT L, a, RR b) := by
  have hz := d24
  have hc0 : (nI (3 * p + 0)).toNatClampNeg = 3 * p + 0 := nI_clamp (by omega)
  have hc1 : (nI (3 * p + 1)).toNatClampNeg = 3 * p + 1 := nI_clamp (by omega)
  have hc2 : (nI (3 * p + 2)).toNatClampNeg = 3 * p + 2 := nI_clamp (by omega)
  have e0 : (3 : Int32) * nI p + 0 = nI (3 * p + 0) := i3 p 0
  have e1 : (3 : Int32) * nI p + 1 = nI (3 * p + 1) := i3 p 1
  have e2 : (3 : Int32) * nI p + 2 = nI (3 * p + 2) := i3 p 2
  unfold spot
  dsimp only
  have w1 : ∀ o : Int32, win2 o 8 17 = decide (¬ o < 8 ∧ ¬ 17 < o) := fun o => rfl
  have w2 : ∀ o : Int32, win2 o 18 21 = decide (¬ o < 18 ∧ ¬ 21 < o) := fun o => rfl
  by_cases h1 : ¬ t - t / 24 * 24 < 8 ∧ ¬ 17 < t - t / 24 * 24
  · have k1 : win2 (t - t / 24 * 24) 8 17 = true := by rw [w1]; simpa using h1
    simp (disch := (first | assumption | exact tg_127 | exact tg_128 | exact tg_129 | exact tg_130 | exact tg_131 | exact tg_132 | exact tg_133 | exact tg_134 | exact tg_135 | exact tg_136 | exact tg_137 | exact tg_138 | exact tg_139 | exact tg_140 | exact tg_141 | exact tg_142 | exact tg_143 | exact tg_144 | exact tg_145 | exact tg_146 | exact tg_147 | exact tg_148 | exact tg_149 | exact tg_150 | exact tg_151 | exact tg_152 | exact tg_153 | exact tg_154 | exact tg_155 | exact tg_156 | exact tg_157 | exact tg_158 | exact tg_159 | exact tg_160 | exact tg_161 | exact tg_162 | exact (show _ from rfl) | exact Nat.le_of_ble_eq_true rfl | exact bi_01 _ | exact Or.inl rfl | exact Or.inr rfl | exact ib_128 (by first | assumption | omega) | exact ib_129 (by first | assumption | omega) | exact ib_130 (by first | assumption | omega) | exact ib_131 (by first | assumption | omega) | exact ib_132 (by first | assumption | omega) | exact ib_133 (by first | assumption | omega) | exact ib_134 (by first | assumption | omega) | exact ib_135 (by first | assumption | omega) | exact ib_136 (by first | assumption | omega) | exact ib_137 (by first | assumption | omega) | exact ib_138 (by first | assumption | omega) | exact ib_139 (by first | assumption | omega) | exact ib_140 (by first | assumption | omega) | exact ib_141 (by first | assumption | omega) | exact ib_142 (by first | assumption | omega) | exact ib_143 (by first | assumption | omega) | exact ib_144 (by first | assumption | omega) | exact ib_145 (by first | assumption | omega) | exact ib_146 (by first | assumption | omega) | exact ib_147 (by first | assumption | omega) | exact ib_148 (by first | assumption | omega) | exact ib_149 (by first | assumption | omega) | exact ib_150 (by first | assumption | omega) | exact ib_151 (by first | assumption | omega) | exact ib_152 (by first | assumption | omega) | exact ib_153 (by first | assumption | omega) | exact ib_154 (by first | assumption | omega) | exact ib_155 (by first | assumption | omega) | exact ib_156 (by first | assumption | omega) | exact ib_157 (by first | assumption | omega) | exact ib_158 (by first | assumption | omega) | exact ib_159 (by first | assumption | omega) | exact ib_160 (by first | assumption | omega) | exact ib_161 (by first | assumption | omega) | exact ib_162 (by first | assumption | omega) | omega | decide)) only [en_X11_placeOf, st_X11_placeOf_0, st_X11_placeOf_1, st_X11_placeOf_3, st_X11_placeOf_4, st_X11_placeOf_5, st_X11_placeOf_6, st_X11_placeOf_9, st_X11_placeOf_10, st_X11_placeOf_11, st_X11_placeOf_12, st_X11_placeOf_13, st_X11_placeOf_14, st_X11_placeOf_17, st_X11_placeOf_20, st_X11_placeOf_23, st_X11_placeOf_26, st_X11_placeOf_27, st_X11_placeOf_30, st_X11_placeOf_31, st_X11_placeOf_32, st_X11_placeOf_35, st_X11_placeOf_38, st_X11_placeOf_41, st_X11_placeOf_44, st_X11_placeOf_45, st_X11_placeOf_48, st_X11_placeOf_49, st_X11_placeOf_50, st_X11_placeOf_51, rr_127_1, rr_127_2, rr_127_5, rr_127_6, rr_127_7, rr_127_8, rr_127_9, rr_127_10, rr_127_11, rr_127_12, rr_127_13, rr_127_14, rr_127_15, rr_127_16, rr_127_17, rr_127_18, rr_127_19, rr_127_20, rr_127_21, rr_127_23, rr_127_25, rr_127_27, rr_127_32, rr_127_33, rr_127_34, rr_127_37, rr_127_39, rr_127_42, rr_127_43, rr_127_44, rr_127_45, rr_127_46, rr_127_47, rr_127_48, rr_127_49, sm_inI (lo := 8) (lo' := 8) (hi := 17) (hi' := 17) rfl rfl, k1, e1, hc1, if_pos h1, Option.toList_some, Option.toList_none, List.cons_append, List.nil_append, Option.getD_some, am_nlI, am_nlR, am_nlN, bi_eq0, if_true, if_false, bf_tf, bf_ft]
  · have k1 : win2 (t - t / 24 * 24) 8 17 = false := by rw [w1]; simpa using h1
    by_cases h2 : ¬ t - t / 24 * 24 < 18 ∧ ¬ 21 < t - t / 24 * 24
    · have k2 : win2 (t - t / 24 * 24) 18 21 = true := by rw [w2]; simpa using h2
      simp (disch := (first | assumption | exact tg_127 | exact tg_128 | exact tg_129 | exact tg_130 | exact tg_131 | exact tg_132 | exact tg_133 | exact tg_134 | exact tg_135 | exact tg_136 | exact tg_137 | exact tg_138 | exact tg_139 | exact tg_140 | exact tg_141 | exact tg_142 | exact tg_143 | exact tg_144 | exact tg_145 | exact tg_146 | exact tg_147 | exact tg_148 | exact tg_149 | exact tg_150 | exact tg_151 | exact tg_152 | exact tg_153 | exact tg_154 | exact tg_155 | exact tg_156 | exact tg_157 | exact tg_158 | exact tg_159 | exact tg_160 | exact tg_161 | exact tg_162 | exact (show _ from rfl) | exact Nat.le_of_ble_eq_true rfl | exact bi_01 _ | exact Or.inl rfl | exact Or.inr rfl | exact ib_128 (by first | assumption | omega) | exact ib_129 (by first | assumption | omega) | exact ib_130 (by first | assumption | omega) | exact ib_131 (by first | assumption | omega) | exact ib_132 (by first | assumption | omega) | exact ib_133 (by first | assumption | omega) | exact ib_134 (by first | assumption | omega) | exact ib_135 (by first | assumption | omega) | exact ib_136 (by first | assumption | omega) | exact ib_137 (by first | assumption | omega) | exact ib_138 (by first | assumption | omega) | exact ib_139 (by first | assumption | omega) | exact ib_140 (by first | assumption | omega) | exact ib_141 (by first | assumption | omega) | exact ib_142 (by first | assumption | omega) | exact ib_143 (by first | assumption | omega) | exact ib_144 (by first | assumption | omega) | exact ib_145 (by first | assumption | omega) | exact ib_146 (by first | assumption | omega) | exact ib_147 (by first | assumption | omega) | exact ib_148 (by first | assumption | omega) | exact ib_149 (by first | assumption | omega) | exact ib_150 (by first | assumption | omega) | exact ib_151 (by first | assumption | omega) | exact ib_152 (by first | assumption | omega) | exact ib_153 (by first | assumption | omega) | exact ib_154 (by first | assumption | omega) | exact ib_155 (by first | assumption | omega) | exact ib_156 (by first | assumption | omega) | exact ib_157 (by first | assumption | omega) | exact ib_158 (by first | assumption | omega) | exact ib_159 (by first | assumption | omega) | exact ib_160 (by first | assumption | omega) | exact ib_161 (by first | assumption | omega) | exact ib_162 (by first | assumption | omega) | omega | decide)) only [en_X11_placeOf, st_X11_placeOf_0, st_X11_placeOf_1, st_X11_placeOf_3, st_X11_placeOf_4, st_X11_placeOf_5, st_X11_placeOf_6, st_X11_placeOf_9, st_X11_placeOf_10, st_X11_placeOf_11, st_X11_placeOf_12, st_X11_placeOf_13, st_X11_placeOf_14, st_X11_placeOf_17, st_X11_placeOf_20, st_X11_placeOf_23, st_X11_placeOf_26, st_X11_placeOf_27, st_X11_placeOf_30, st_X11_placeOf_31, st_X11_placeOf_32, st_X11_placeOf_35, st_X11_placeOf_38, st_X11_placeOf_41, st_X11_placeOf_44, st_X11_placeOf_45, st_X11_placeOf_48, st_X11_placeOf_49, st_X11_placeOf_50, st_X11_placeOf_51, rr_127_1, rr_127_2, rr_127_5, rr_127_6, rr_127_7, rr_127_8, rr_127_9, rr_127_10, rr_127_11, rr_127_12, rr_127_13, rr_127_14, rr_127_15, rr_127_16, rr_127_17, rr_127_18, rr_127_19, rr_127_20, rr_127_21, rr_127_23, rr_127_25, rr_127_27, rr_127_32, rr_127_33, rr_127_34, rr_127_37, rr_127_39, rr_127_42, rr_127_43, rr_127_44, rr_127_45, rr_127_46, rr_127_47, rr_127_48, rr_127_49, sm_inI (lo := 8) (lo' := 8) (hi := 17) (hi' := 17) rfl rfl, sm_inI (lo := 18) (lo' := 18) (hi := 21) (hi' := 21) rfl rfl, k1, k2, e2, hc2, if_neg h1, if_pos h2, Option.toList_some, Option.toList_none, List.cons_append, List.nil_append, Option.getD_some, am_nlI, am_nlR, am_nlN, bi_eq0, if_true, if_false, bf_tf, bf_ft]
    · have k2 : win2 (t - t / 24 * 24) 18 21 = false := by rw [w2]; simpa using h2
      simp (disch := (first | assumption | exact tg_127 | exact tg_128 | exact tg_129 | exact tg_130 | exact tg_131 | exact tg_132 | exact tg_133 | exact tg_134 | exact tg_135 | exact tg_136 | exact tg_137 | exact tg_138 | exact tg_139 | exact tg_140 | exact tg_141 | exact tg_142 | exact tg_143 | exact tg_144 | exact tg_145 | exact tg_146 | exact tg_147 | exact tg_148 | exact tg_149 | exact tg_150 | exact tg_151 | exact tg_152 | exact tg_153 | exact tg_154 | exact tg_155 | exact tg_156 | exact tg_157 | exact tg_158 | exact tg_159 | exact tg_160 | exact tg_161 | exact tg_162 | exact (show _ from rfl) | exact Nat.le_of_ble_eq_true rfl | exact bi_01 _ | exact Or.inl rfl | exact Or.inr rfl | exact ib_128 (by first | assumption | omega) | exact ib_129 (by first | assumption | omega) | exact ib_130 (by first | assumption | omega) | exact ib_131 (by first | assumption | omega) | exact ib_132 (by first | assumption | omega) | exact ib_133 (by first | assumption | omega) | exact ib_134 (by first | assumption | omega) | exact ib_135 (by first | assumption | omega) | exact ib_136 (by first | assumption | omega) | exact ib_137 (by first | assumption | omega) | exact ib_138 (by first | assumption | omega) | exact ib_139 (by first | assumption | omega) | exact ib_140 (by first | assumption | omega) | exact ib_141 (by first | assumption | omega) | exact ib_142 (by first | assumption | omega) | exact ib_143 (by first | assumption | omega) | exact ib_144 (by first | assumption | omega) | exact ib_145 (by first | assumption | omega) | exact ib_146 (by first | assumption | omega) | exact ib_147 (by first | assumption | omega) | exact ib_148 (by first | assumption | omega) | exact ib_149 (by first | assumption | omega) | exact ib_150 (by first | assumption | omega) | exact ib_151 (by first | assumption | omega) | exact ib_152 (by first | assumption | omega) | exact ib_153 (by first | assumption | omega) | exact ib_154 (by first | assumption | omega) | exact ib_155 (by first | assumption | omega) | exact ib_156 (by first | assumption | omega) | exact ib_157 (by first | assumption | omega) | exact ib_158 (by first | assumption | omega) | exact ib_159 (by first | assumption | omega) | exact ib_160 (by first | assumption | omega) | exact ib_161 (by first | assumption | omega) | exact ib_162 (by first | assumption | omega) | omega | decide)) only [en_X11_placeOf, st_X11_placeOf_0, st_X11_placeOf_1, st_X11_placeOf_3, st_X11_placeOf_4, st_X11_placeOf_5, st_X11_placeOf_6, st_X11_placeOf_9, st_X11_placeOf_10, st_X11_placeOf_11, st_X11_placeOf_12, st_X11_placeOf_13, st_X11_placeOf_14, st_X11_placeOf_17, st_X11_placeOf_20, st_X11_placeOf_23, st_X11_placeOf_26, st_X11_placeOf_27, st_X11_placeOf_30, st_X11_placeOf_31, st_X11_placeOf_32, st_X11_placeOf_35, st_X11_placeOf_38, st_X11_placeOf_41, st_X11_placeOf_44, st_X11_placeOf_45, st_X11_placeOf_48, st_X11_placeOf_49, st_X11_placeOf_50, st_X11_placeOf_51, rr_127_1, rr_127_2, rr_127_5, rr_127_6, rr_127_7, rr_127_8, rr_127_9, rr_127_10, rr_127_11, rr_127_12, rr_127_13, rr_127_14, rr_127_15, rr_127_16, rr_127_17, rr_127_18, rr_127_19, rr_127_20, rr_127_21, rr_127_23, rr_127_25, rr_127_27, rr_127_32, rr_127_33, rr_127_34, rr_127_37, rr_127_39, rr_127_42, rr_127_43, rr_127_44, rr_127_45, rr_127_46, rr_127_47, rr_127_48, rr_127_49, sm_inI (lo := 8) (lo' := 8) (hi := 17) (hi' := 17) rfl rfl, sm_inI (lo := 18) (lo' := 18) (hi := 21) (hi' := 21) rfl rfl, k1, k2, e0, hc0, if_neg h1, if_neg h2, Option.toList_some, Option.toList_none, List.cons_append, List.nil_append, Option.getD_some, am_nlI, am_nlR, am_nlN, bi_eq0, if_true, if_false, bf_tf, bf_ft]
end MSM
