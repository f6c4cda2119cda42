/-! the reference's hour of one saying -/
def r3 (a : Nat → Nat → Int32) (f1 f2 f3 : Nat → Int32) : Nat → Nat → Int32 := fun k => if k = 142 then f1 else if k = 143 then f2 else if k = 144 then f3 else a k
def setM (M : Nat → Nat → PS) (s : Nat) (S : Nat → PS) : Nat → Nat → PS := fun s' => if s' = s then S else M s'
/-- from behind: how many, and which the least -/
def ctR (f : Nat → Bool) (n : Nat) : Nat → Nat
  | 0 => 0
  | k + 1 => ctR f n k + (if f (n - k - 1) then 1 else 0)
def fsR (f : Nat → Bool) (n : Nat) : Nat → Int32
  | 0 => -4
  | k + 1 => if f (n - k - 1) then nI (n - k - 1) else fsR f n k
theorem ctR_n (f : Nat → Bool) (n : Nat) : ∀ k, k ≤ n → ctR f n k + ctn f (n - k) = ctn f n
  | 0, _ => by simp [ctR]
  | k + 1, h => by
    have ih := ctR_n f n k (by omega)
    rw [show n - k = (n - (k + 1)) + 1 by omega, ctn] at ih
    rw [ctR, show n - k - 1 = n - (k + 1) by omega]
    omega
theorem ctR_all (f : Nat → Bool) (n : Nat) : ctR f n n = ctn f n := by
  have := ctR_n f n n (Nat.le_refl n)
  rw [Nat.sub_self] at this
  exact this
theorem fsR_n (f : Nat → Bool) (n o : Nat) (ho : o < n) (hf : f o = true) : ∀ k, k ≤ n → n - k ≤ o → (∀ j, n - k ≤ j → j < o → f j = false) → fsR f n k = nI o
  | 0, _, h1, _ => by omega
  | k + 1, hk, h1, h2 => by
    rw [fsR]
    by_cases e : f (n - k - 1) = true
    · rw [if_pos e]
      by_cases eo : n - k - 1 = o
      · rw [eo]
      · have := h2 (n - k - 1) (by omega) (by omega)
        rw [e] at this
        exact absurd this (by decide)
    · rw [if_neg e]
      have eo : n - k - 1 ≠ o := fun h => e (h ▸ hf)
      exact fsR_n f n o ho hf k (by omega) (by omega) (fun j hj => h2 j (by omega))
theorem fsR_all (f : Nat → Bool) (n : Nat) (h : 0 < ctn f n) : fsR f n n = nI (lst f n) := by
  obtain ⟨h1, h2, h3⟩ := lst_yes h
  exact fsR_n f n _ h1 h2 n (Nat.le_refl n) (by omega) (fun j _ hj => h3 j hj)
theorem bi_and (x : Bool) : bi x &&& 1 = bi x := by cases x <;> rfl
theorem ST_hour {E : ENV} {t : Int32} {S : Nat → PS} (h : ST S E.n) : ST (hourF E t S) E.n := by
  intro p hp
  unfold hourF
  rw [if_pos hp]
  unfold hourP
  split
  · unfold fadeF
    split
    · exact Or.inr (Or.inr (Or.inr rfl))
    · exact h p hp
  · unfold hearF
    split
    · exact h p hp
    · split
      · unfold stOK
        rw [mkP_st]
        split
        · exact Or.inr (Or.inl rfl)
        · exact Or.inr (Or.inr (Or.inl rfl))
      · split
        · exact Or.inr (Or.inl rfl)
        · exact h p hp
section R3
variable {a : Nat → Nat → Int32} {f1 f2 f3 : Nat → Int32} {j : Nat} {x : Int32} {M : Nat → Nat → PS} {S : Nat → PS} {s p : Nat} {r : PS}
theorem r3_1 : r3 a f1 f2 f3 142 = f1 := by simp [r3]
theorem r3_2 : r3 a f1 f2 f3 143 = f2 := by simp [r3]
theorem r3_3 : r3 a f1 f2 f3 144 = f3 := by simp [r3]
theorem r3_o {k : Nat} (h : k < 142 ∨ 144 < k) : r3 a f1 f2 f3 k = a k := by
  unfold r3; rw [if_neg (by omega), if_neg (by omega), if_neg (by omega)]
theorem r3_u1 : am_up (r3 a f1 f2 f3) 142 j x = r3 a (upd f1 j x) f2 f3 := by
  funext k
  by_cases h : k = 142 <;> simp [am_up, r3, h]
theorem r3_u2 : am_up (r3 a f1 f2 f3) 143 j x = r3 a f1 (upd f2 j x) f3 := by
  funext k
  by_cases h : k = 143
  · simp [am_up, r3, h]
  · by_cases h1 : k = 142 <;> simp [am_up, r3, h, h1]
theorem r3_u3 : am_up (r3 a f1 f2 f3) 144 j x = r3 a f1 f2 (upd f3 j x) := by
  funext k
  by_cases h : k = 144
  · simp [am_up, r3, h]
  · by_cases h1 : k = 142 <;> by_cases h2 : k = 143 <;> simp [am_up, r3, h, h1, h2]
theorem r3_id : r3 a (a 142) (a 143) (a 144) = a := by
  funext k
  unfold r3
  split
  · rename_i h; rw [h]
  · split
    · rename_i h; rw [h]
    · split
      · rename_i h; rw [h]
      · rfl
theorem setM_s : setM M s S s = S := by simp [setM]
theorem setM_id : setM M s (M s) = M := by
  funext s'
  unfold setM
  split
  · rename_i h; rw [h]
  · rfl
theorem upM_set : upM (setM M s S) s p r = setM M s (upS S p r) := by
  funext s' p'
  unfold upM setM upS
  by_cases h : s' = s
  · subst h; simp
  · simp [h]
end R3
theorem EM.r3 {a : Nat → Nat → Int32} {E : ENV} {f1 f2 f3 : Nat → Int32} (h : EM a E) : EM (r3 a f1 f2 f3) E := h.of (by rw [r3_o (by omega)]) (r3_o (by omega)) (r3_o (by omega)) (r3_o (by omega))
def q1 (E : ENV) (S : Nat → PS) (j : Nat) : Int32 := bi (loudF E S j)
theorem q1_and {E : ENV} {S : Nat → PS} {j : Nat} : q1 E S j &&& 1 = q1 E S j := bi_and _
def q2 (E : ENV) (S : Nat → PS) (j : Nat) : Int32 := told (S j).ve (E.hb j)
def q3 (E : ENV) (t : Int32) (j : Nat) : Int32 := nI (E.pl (spot t) j)
def lh (F : Nat → Int32) : Nat → Option Value
  | 0 => none
  | i + 1 => some (.int (F i))
def lj (o : Option Value) (F : Nat → Int32) : Nat → Option Value
  | 0 => o
  | i + 1 => some (.int (F i))
def qdg (E : ENV) (S : Nat → PS) (j : Nat) : Int32 := if E.hb j = 0 then 0 else dg (S j).ve (E.hb j - 1)
section MHO
variable {d L p s : Nat} {b : Bool} {a : Nat → Nat → Int32} {Q : Option Value → am_H → Prop} {E : ENV} {M : Nat → Nat → PS}
set_option maxRecDepth 100000 in
theorem sm_hourOf1 (hE : EOK E) (hM : EM a E) (hs : s < 8) (hG : GV (M s) E.n) : AW (d + 3) 151 2 [some (.ref (127 : Nat)), some (.int (nI s)), some (.int (nI 0)), none, none, none, none] [] (CT L, pm a M, RR b) Q = AW (d + 3) 151 128 [some (.ref (127 : Nat)), some (.int (nI s)), some (.int (nI 0)), lh (fun i => (M s i).ve) E.n, lh (fun i => nI (E.hb i)) E.n, lh (qdg E (M s)) E.n, none] [] (CT L, pm (r3 a (cpf (q1 E (M s)) (a 142) E.n) (cpf (q2 E (M s)) (a 143) E.n) (cpf (q3 E (a 127 3)) (a 144) E.n)) M, RR b) Q := by
  have hn := hE.n
  have key := loop_eq (P := fun i => AW (d + 3) 151 2 [some (.ref (127 : Nat)), some (.int (nI s)), some (.int (nI i)), lh (fun i => (M s i).ve) i, lh (fun i => nI (E.hb i)) i, lh (qdg E (M s)) i, none] [] (CT L, pm (r3 a (cpf (q1 E (M s)) (a 142) i) (cpf (q2 E (M s)) (a 143) i) (cpf (q3 E (a 127 3)) (a 144) i)) M, RR b) Q) E.n (fun i hi => by
    have hi16 : i < 16 := by omega
    have hi8 : 8 * i + s < 128 := by omega
    have hi5 : 5 * i + 1 < 80 := by omega
    have hlt : nI i < nI E.n := nI_lt hi (by omega)
    have hc : (nI i).toNatClampNeg = i := nI_clamp (by omega)
    have hc8 : (nI (8 * i + s)).toNatClampNeg = 8 * i + s := nI_clamp (by omega)
    have hc5 : (nI (5 * i + 1)).toNatClampNeg = 5 * i + 1 := nI_clamp (by omega)
    have h0 : ∀ g1 g2 g3 : Nat → Int32, pm (r3 a g1 g2 g3) M 127 0 = nI E.n := fun g1 g2 g3 => hM.r3.pm.n
    have hnow : ∀ g1 g2 g3 : Nat → Int32, pm (r3 a g1 g2 g3) M 127 3 = a 127 3 := fun g1 g2 g3 => by rw [pm_o (by omega), r3_o (by omega)]
    have hhb : ∀ g1 g2 g3 : Nat → Int32, pm (r3 a g1 g2 g3) M 129 (5 * i + 1) = nI (E.hb i) := fun g1 g2 g3 => hM.r3.pm.hb i hi
    have hpl : ∀ g1 g2 g3 : Nat → Int32, pm (r3 a g1 g2 g3) M 128 (3 * i + spot (a 127 3)) = q3 E (a 127 3) i := fun g1 g2 g3 => hM.r3.pm.pl _ (spot_lt _) i hi
    have hL : bi (loudF E (M s) i) = q1 E (M s) i := rfl
    have z1 := cpf_s (q1 E (M s)) (a 142) i
    have z2 := cpf_s (q2 E (M s)) (a 143) i
    have z3 := cpf_s (q3 E (a 127 3)) (a 144) i
    have n1 : lh (fun i => (M s i).ve) (i + 1) = some (.int (M s i).ve) := rfl
    have n2 : lh (fun i => nI (E.hb i)) (i + 1) = some (.int (nI (E.hb i))) := rfl
    have n3 : lh (qdg E (M s)) (i + 1) = some (.int (qdg E (M s) i)) := rfl
    rw [← z1, ← z2, ← z3, n1, n2, n3]
    refine Eq.trans st_X11_hourOf_2 ?_
    by_cases hb0 : E.hb i = 0
    · have e0 : nI (E.hb i) = 0 := by rw [hb0]; rfl
      have q2e : q2 E (M s) i = (M s i).ve := by simp [q2, told, hb0]
      have qde : qdg E (M s) i = 0 := by simp [qdg, hb0]
      rw [q2e, qde]
      simp (disch := (first | assumption | exact tg_127 | exact tg_128 | exact tg_129 | exact tg_130 | exact tg_131 | exact tg_132 | exact tg_133 | exact tg_134 | exact tg_135 | exact tg_136 | exact tg_137 | exact tg_138 | exact tg_139 | exact tg_140 | exact tg_141 | exact tg_142 | exact tg_143 | exact tg_144 | exact tg_145 | exact tg_146 | exact tg_147 | exact tg_148 | exact tg_149 | exact tg_150 | exact tg_151 | exact tg_152 | exact tg_153 | exact tg_154 | exact tg_155 | exact tg_156 | exact tg_157 | exact tg_158 | exact tg_159 | exact tg_160 | exact tg_161 | exact tg_162 | exact (show _ from rfl) | exact Nat.le_of_ble_eq_true rfl | exact bi_01 _ | exact Or.inl rfl | exact Or.inr rfl | exact ib_128 (by first | assumption | omega) | exact ib_129 (by first | assumption | omega) | exact ib_130 (by first | assumption | omega) | exact ib_131 (by first | assumption | omega) | exact ib_132 (by first | assumption | omega) | exact ib_133 (by first | assumption | omega) | exact ib_134 (by first | assumption | omega) | exact ib_135 (by first | assumption | omega) | exact ib_136 (by first | assumption | omega) | exact ib_137 (by first | assumption | omega) | exact ib_138 (by first | assumption | omega) | exact ib_139 (by first | assumption | omega) | exact ib_140 (by first | assumption | omega) | exact ib_141 (by first | assumption | omega) | exact ib_142 (by first | assumption | omega) | exact ib_143 (by first | assumption | omega) | exact ib_144 (by first | assumption | omega) | exact ib_145 (by first | assumption | omega) | exact ib_146 (by first | assumption | omega) | exact ib_147 (by first | assumption | omega) | exact ib_148 (by first | assumption | omega) | exact ib_149 (by first | assumption | omega) | exact ib_150 (by first | assumption | omega) | exact ib_151 (by first | assumption | omega) | exact ib_152 (by first | assumption | omega) | exact ib_153 (by first | assumption | omega) | exact ib_154 (by first | assumption | omega) | exact ib_155 (by first | assumption | omega) | exact ib_156 (by first | assumption | omega) | exact ib_157 (by first | assumption | omega) | exact ib_158 (by first | assumption | omega) | exact ib_159 (by first | assumption | omega) | exact ib_160 (by first | assumption | omega) | exact ib_161 (by first | assumption | omega) | exact ib_162 (by first | assumption | omega) | omega | decide)) only [st_X11_hourOf_0, st_X11_hourOf_1, st_X11_hourOf_3, st_X11_hourOf_4, st_X11_hourOf_7, st_X11_hourOf_10, st_X11_hourOf_11, st_X11_hourOf_14, st_X11_hourOf_15, st_X11_hourOf_16, st_X11_hourOf_17, st_X11_hourOf_18, st_X11_hourOf_21, st_X11_hourOf_22, st_X11_hourOf_23, st_X11_hourOf_26, st_X11_hourOf_27, st_X11_hourOf_28, st_X11_hourOf_29, st_X11_hourOf_30, st_X11_hourOf_33, st_X11_hourOf_36, st_X11_hourOf_37, st_X11_hourOf_38, st_X11_hourOf_41, st_X11_hourOf_43, st_X11_hourOf_44, st_X11_hourOf_45, st_X11_hourOf_46, st_X11_hourOf_47, st_X11_hourOf_48, st_X11_hourOf_49, st_X11_hourOf_50, st_X11_hourOf_53, st_X11_hourOf_54, st_X11_hourOf_55, st_X11_hourOf_56, st_X11_hourOf_57, st_X11_hourOf_58, st_X11_hourOf_59, st_X11_hourOf_61, st_X11_hourOf_63, st_X11_hourOf_66, st_X11_hourOf_67, st_X11_hourOf_70, st_X11_hourOf_71, st_X11_hourOf_73, st_X11_hourOf_76, st_X11_hourOf_78, st_X11_hourOf_79, st_X11_hourOf_82, st_X11_hourOf_83, st_X11_hourOf_85, st_X11_hourOf_88, st_X11_hourOf_89, st_X11_hourOf_92, st_X11_hourOf_94, st_X11_hourOf_96, st_X11_hourOf_99, st_X11_hourOf_100, st_X11_hourOf_102, st_X11_hourOf_104, st_X11_hourOf_107, st_X11_hourOf_108, st_X11_hourOf_109, st_X11_hourOf_112, st_X11_hourOf_113, st_X11_hourOf_115, st_X11_hourOf_118, st_X11_hourOf_119, st_X11_hourOf_120, st_X11_hourOf_123, st_X11_hourOf_126, st_X11_hourOf_127, st_X11_hourOf_129, st_X11_hourOf_130, st_X11_hourOf_133, st_X11_hourOf_136, st_X11_hourOf_137, st_X11_hourOf_138, st_X11_hourOf_140, st_X11_hourOf_142, st_X11_hourOf_143, st_X11_hourOf_146, st_X11_hourOf_147, st_X11_hourOf_148, st_X11_hourOf_150, st_X11_hourOf_152, st_X11_hourOf_155, st_X11_hourOf_157, st_X11_hourOf_158, st_X11_hourOf_161, st_X11_hourOf_162, st_X11_hourOf_165, st_X11_hourOf_167, st_X11_hourOf_168, st_X11_hourOf_171, st_X11_hourOf_172, st_X11_hourOf_175, st_X11_hourOf_177, st_X11_hourOf_178, st_X11_hourOf_179, st_X11_hourOf_182, st_X11_hourOf_183, st_X11_hourOf_184, st_X11_hourOf_187, st_X11_hourOf_188, st_X11_hourOf_191, st_X11_hourOf_192, st_X11_hourOf_194, st_X11_hourOf_195, st_X11_hourOf_197, st_X11_hourOf_200, st_X11_hourOf_201, st_X11_hourOf_204, st_X11_hourOf_205, st_X11_hourOf_206, st_X11_hourOf_207, st_X11_hourOf_209, st_X11_hourOf_212, st_X11_hourOf_214, st_X11_hourOf_217, st_X11_hourOf_219, st_X11_hourOf_221, st_X11_hourOf_224, st_X11_hourOf_227, st_X11_hourOf_229, st_X11_hourOf_230, st_X11_hourOf_231, st_X11_hourOf_232, st_X11_hourOf_233, st_X11_hourOf_235, st_X11_hourOf_236, st_X11_hourOf_239, st_X11_hourOf_240, st_X11_hourOf_241, st_X11_hourOf_242, st_X11_hourOf_243, st_X11_hourOf_245, st_X11_hourOf_248, st_X11_hourOf_251, st_X11_hourOf_252, st_X11_hourOf_255, st_X11_hourOf_257, st_X11_hourOf_258, st_X11_hourOf_259, st_X11_hourOf_262, st_X11_hourOf_263, st_X11_hourOf_266, st_X11_hourOf_268, st_X11_hourOf_269, st_X11_hourOf_270, st_X11_hourOf_273, st_X11_hourOf_274, st_X11_hourOf_277, st_X11_hourOf_278, st_X11_hourOf_281, st_X11_hourOf_283, st_X11_hourOf_284, st_X11_hourOf_285, st_X11_hourOf_287, st_X11_hourOf_290, st_X11_hourOf_291, st_X11_hourOf_293, st_X11_hourOf_294, st_X11_hourOf_297, st_X11_hourOf_300, st_X11_hourOf_303, rr_127_1, rr_127_2, rr_127_5, rr_127_6, rr_127_7, rr_127_8, rr_127_9, rr_127_10, rr_127_11, rr_127_12, rr_127_13, rr_127_14, rr_127_15, rr_127_16, rr_127_17, rr_127_18, rr_127_19, rr_127_20, rr_127_21, rr_127_23, rr_127_25, rr_127_27, rr_127_32, rr_127_33, rr_127_34, rr_127_37, rr_127_39, rr_127_42, rr_127_43, rr_127_44, rr_127_45, rr_127_46, rr_127_47, rr_127_48, rr_127_49, h0, if_pos hlt, sm_isLoud hE hM.r3 hi hs hG, q1_and, hc, hc5, hc8, i8, i5_1, hnow, hhb, hpl, sm_placeOf hi16, pm_up (k := 142) (Or.inr (by decide)), pm_up (k := 143) (Or.inr (by decide)), pm_up (k := 144) (Or.inr (by decide)), r3_u1, r3_u2, r3_u3, pm_3 hs, e0, c00, nI_1, hL, Option.toList_some, Option.toList_none, List.cons_append, List.nil_append, Option.getD_some, am_nlI, am_nlR, am_nlN, bi_eq0, if_true, if_false, bf_tf, bf_ft]
    · have e0 : ¬ nI (E.hb i) = 0 := nI_ne0 (by omega) (by have := hE.hb i hi; omega)
      have hb4 : E.hb i - 1 < 4 := by have := hE.hb i hi; omega
      have hbe : nI (E.hb i) = nI (E.hb i - 1 + 1) := by rw [show E.hb i - 1 + 1 = E.hb i by omega]
      have qde : qdg E (M s) i = dg (M s i).ve (E.hb i - 1) := by simp [qdg, hb0]
      by_cases h9 : dg (M s i).ve (E.hb i - 1) = 9
      · have q2e : q2 E (M s) i = (M s i).ve - 9 * un (E.hb i - 1) := by simp [q2, told, hb0, h9]
        rw [q2e, qde]
        simp (disch := (first | assumption | exact tg_127 | exact tg_128 | exact tg_129 | exact tg_130 | exact tg_131 | exact tg_132 | exact tg_133 | exact tg_134 | exact tg_135 | exact tg_136 | exact tg_137 | exact tg_138 | exact tg_139 | exact tg_140 | exact tg_141 | exact tg_142 | exact tg_143 | exact tg_144 | exact tg_145 | exact tg_146 | exact tg_147 | exact tg_148 | exact tg_149 | exact tg_150 | exact tg_151 | exact tg_152 | exact tg_153 | exact tg_154 | exact tg_155 | exact tg_156 | exact tg_157 | exact tg_158 | exact tg_159 | exact tg_160 | exact tg_161 | exact tg_162 | exact (show _ from rfl) | exact Nat.le_of_ble_eq_true rfl | exact bi_01 _ | exact Or.inl rfl | exact Or.inr rfl | exact ib_128 (by first | assumption | omega) | exact ib_129 (by first | assumption | omega) | exact ib_130 (by first | assumption | omega) | exact ib_131 (by first | assumption | omega) | exact ib_132 (by first | assumption | omega) | exact ib_133 (by first | assumption | omega) | exact ib_134 (by first | assumption | omega) | exact ib_135 (by first | assumption | omega) | exact ib_136 (by first | assumption | omega) | exact ib_137 (by first | assumption | omega) | exact ib_138 (by first | assumption | omega) | exact ib_139 (by first | assumption | omega) | exact ib_140 (by first | assumption | omega) | exact ib_141 (by first | assumption | omega) | exact ib_142 (by first | assumption | omega) | exact ib_143 (by first | assumption | omega) | exact ib_144 (by first | assumption | omega) | exact ib_145 (by first | assumption | omega) | exact ib_146 (by first | assumption | omega) | exact ib_147 (by first | assumption | omega) | exact ib_148 (by first | assumption | omega) | exact ib_149 (by first | assumption | omega) | exact ib_150 (by first | assumption | omega) | exact ib_151 (by first | assumption | omega) | exact ib_152 (by first | assumption | omega) | exact ib_153 (by first | assumption | omega) | exact ib_154 (by first | assumption | omega) | exact ib_155 (by first | assumption | omega) | exact ib_156 (by first | assumption | omega) | exact ib_157 (by first | assumption | omega) | exact ib_158 (by first | assumption | omega) | exact ib_159 (by first | assumption | omega) | exact ib_160 (by first | assumption | omega) | exact ib_161 (by first | assumption | omega) | exact ib_162 (by first | assumption | omega) | omega | decide)) only [st_X11_hourOf_0, st_X11_hourOf_1, st_X11_hourOf_3, st_X11_hourOf_4, st_X11_hourOf_7, st_X11_hourOf_10, st_X11_hourOf_11, st_X11_hourOf_14, st_X11_hourOf_15, st_X11_hourOf_16, st_X11_hourOf_17, st_X11_hourOf_18, st_X11_hourOf_21, st_X11_hourOf_22, st_X11_hourOf_23, st_X11_hourOf_26, st_X11_hourOf_27, st_X11_hourOf_28, st_X11_hourOf_29, st_X11_hourOf_30, st_X11_hourOf_33, st_X11_hourOf_36, st_X11_hourOf_37, st_X11_hourOf_38, st_X11_hourOf_41, st_X11_hourOf_43, st_X11_hourOf_44, st_X11_hourOf_45, st_X11_hourOf_46, st_X11_hourOf_47, st_X11_hourOf_48, st_X11_hourOf_49, st_X11_hourOf_50, st_X11_hourOf_53, st_X11_hourOf_54, st_X11_hourOf_55, st_X11_hourOf_56, st_X11_hourOf_57, st_X11_hourOf_58, st_X11_hourOf_59, st_X11_hourOf_61, st_X11_hourOf_63, st_X11_hourOf_66, st_X11_hourOf_67, st_X11_hourOf_70, st_X11_hourOf_71, st_X11_hourOf_73, st_X11_hourOf_76, st_X11_hourOf_78, st_X11_hourOf_79, st_X11_hourOf_82, st_X11_hourOf_83, st_X11_hourOf_85, st_X11_hourOf_88, st_X11_hourOf_89, st_X11_hourOf_92, st_X11_hourOf_94, st_X11_hourOf_96, st_X11_hourOf_99, st_X11_hourOf_100, st_X11_hourOf_102, st_X11_hourOf_104, st_X11_hourOf_107, st_X11_hourOf_108, st_X11_hourOf_109, st_X11_hourOf_112, st_X11_hourOf_113, st_X11_hourOf_115, st_X11_hourOf_118, st_X11_hourOf_119, st_X11_hourOf_120, st_X11_hourOf_123, st_X11_hourOf_126, st_X11_hourOf_127, st_X11_hourOf_129, st_X11_hourOf_130, st_X11_hourOf_133, st_X11_hourOf_136, st_X11_hourOf_137, st_X11_hourOf_138, st_X11_hourOf_140, st_X11_hourOf_142, st_X11_hourOf_143, st_X11_hourOf_146, st_X11_hourOf_147, st_X11_hourOf_148, st_X11_hourOf_150, st_X11_hourOf_152, st_X11_hourOf_155, st_X11_hourOf_157, st_X11_hourOf_158, st_X11_hourOf_161, st_X11_hourOf_162, st_X11_hourOf_165, st_X11_hourOf_167, st_X11_hourOf_168, st_X11_hourOf_171, st_X11_hourOf_172, st_X11_hourOf_175, st_X11_hourOf_177, st_X11_hourOf_178, st_X11_hourOf_179, st_X11_hourOf_182, st_X11_hourOf_183, st_X11_hourOf_184, st_X11_hourOf_187, st_X11_hourOf_188, st_X11_hourOf_191, st_X11_hourOf_192, st_X11_hourOf_194, st_X11_hourOf_195, st_X11_hourOf_197, st_X11_hourOf_200, st_X11_hourOf_201, st_X11_hourOf_204, st_X11_hourOf_205, st_X11_hourOf_206, st_X11_hourOf_207, st_X11_hourOf_209, st_X11_hourOf_212, st_X11_hourOf_214, st_X11_hourOf_217, st_X11_hourOf_219, st_X11_hourOf_221, st_X11_hourOf_224, st_X11_hourOf_227, st_X11_hourOf_229, st_X11_hourOf_230, st_X11_hourOf_231, st_X11_hourOf_232, st_X11_hourOf_233, st_X11_hourOf_235, st_X11_hourOf_236, st_X11_hourOf_239, st_X11_hourOf_240, st_X11_hourOf_241, st_X11_hourOf_242, st_X11_hourOf_243, st_X11_hourOf_245, st_X11_hourOf_248, st_X11_hourOf_251, st_X11_hourOf_252, st_X11_hourOf_255, st_X11_hourOf_257, st_X11_hourOf_258, st_X11_hourOf_259, st_X11_hourOf_262, st_X11_hourOf_263, st_X11_hourOf_266, st_X11_hourOf_268, st_X11_hourOf_269, st_X11_hourOf_270, st_X11_hourOf_273, st_X11_hourOf_274, st_X11_hourOf_277, st_X11_hourOf_278, st_X11_hourOf_281, st_X11_hourOf_283, st_X11_hourOf_284, st_X11_hourOf_285, st_X11_hourOf_287, st_X11_hourOf_290, st_X11_hourOf_291, st_X11_hourOf_293, st_X11_hourOf_294, st_X11_hourOf_297, st_X11_hourOf_300, st_X11_hourOf_303, rr_127_1, rr_127_2, rr_127_5, rr_127_6, rr_127_7, rr_127_8, rr_127_9, rr_127_10, rr_127_11, rr_127_12, rr_127_13, rr_127_14, rr_127_15, rr_127_16, rr_127_17, rr_127_18, rr_127_19, rr_127_20, rr_127_21, rr_127_23, rr_127_25, rr_127_27, rr_127_32, rr_127_33, rr_127_34, rr_127_37, rr_127_39, rr_127_42, rr_127_43, rr_127_44, rr_127_45, rr_127_46, rr_127_47, rr_127_48, rr_127_49, h0, if_pos hlt, sm_isLoud hE hM.r3 hi hs hG, q1_and, hc, hc5, hc8, i8, i5_1, hnow, hhb, hpl, sm_placeOf hi16, pm_up (k := 142) (Or.inr (by decide)), pm_up (k := 143) (Or.inr (by decide)), pm_up (k := 144) (Or.inr (by decide)), r3_u1, r3_u2, r3_u3, pm_3 hs, if_neg e0, sm_partOf hb4 hbe, sm_unit hb4 hbe, if_pos h9, nI_1, hL, Option.toList_some, Option.toList_none, List.cons_append, List.nil_append, Option.getD_some, am_nlI, am_nlR, am_nlN, bi_eq0, if_true, if_false, bf_tf, bf_ft]
      · have q2e : q2 E (M s) i = (M s i).ve + un (E.hb i - 1) := by simp [q2, told, hb0, h9]
        rw [q2e, qde]
        simp (disch := (first | assumption | exact tg_127 | exact tg_128 | exact tg_129 | exact tg_130 | exact tg_131 | exact tg_132 | exact tg_133 | exact tg_134 | exact tg_135 | exact tg_136 | exact tg_137 | exact tg_138 | exact tg_139 | exact tg_140 | exact tg_141 | exact tg_142 | exact tg_143 | exact tg_144 | exact tg_145 | exact tg_146 | exact tg_147 | exact tg_148 | exact tg_149 | exact tg_150 | exact tg_151 | exact tg_152 | exact tg_153 | exact tg_154 | exact tg_155 | exact tg_156 | exact tg_157 | exact tg_158 | exact tg_159 | exact tg_160 | exact tg_161 | exact tg_162 | exact (show _ from rfl) | exact Nat.le_of_ble_eq_true rfl | exact bi_01 _ | exact Or.inl rfl | exact Or.inr rfl | exact ib_128 (by first | assumption | omega) | exact ib_129 (by first | assumption | omega) | exact ib_130 (by first | assumption | omega) | exact ib_131 (by first | assumption | omega) | exact ib_132 (by first | assumption | omega) | exact ib_133 (by first | assumption | omega) | exact ib_134 (by first | assumption | omega) | exact ib_135 (by first | assumption | omega) | exact ib_136 (by first | assumption | omega) | exact ib_137 (by first | assumption | omega) | exact ib_138 (by first | assumption | omega) | exact ib_139 (by first | assumption | omega) | exact ib_140 (by first | assumption | omega) | exact ib_141 (by first | assumption | omega) | exact ib_142 (by first | assumption | omega) | exact ib_143 (by first | assumption | omega) | exact ib_144 (by first | assumption | omega) | exact ib_145 (by first | assumption | omega) | exact ib_146 (by first | assumption | omega) | exact ib_147 (by first | assumption | omega) | exact ib_148 (by first | assumption | omega) | exact ib_149 (by first | assumption | omega) | exact ib_150 (by first | assumption | omega) | exact ib_151 (by first | assumption | omega) | exact ib_152 (by first | assumption | omega) | exact ib_153 (by first | assumption | omega) | exact ib_154 (by first | assumption | omega) | exact ib_155 (by first | assumption | omega) | exact ib_156 (by first | assumption | omega) | exact ib_157 (by first | assumption | omega) | exact ib_158 (by first | assumption | omega) | exact ib_159 (by first | assumption | omega) | exact ib_160 (by first | assumption | omega) | exact ib_161 (by first | assumption | omega) | exact ib_162 (by first | assumption | omega) | omega | decide)) only [st_X11_hourOf_0, st_X11_hourOf_1, st_X11_hourOf_3, st_X11_hourOf_4, st_X11_hourOf_7, st_X11_hourOf_10, st_X11_hourOf_11, st_X11_hourOf_14, st_X11_hourOf_15, st_X11_hourOf_16, st_X11_hourOf_17, st_X11_hourOf_18, st_X11_hourOf_21, st_X11_hourOf_22, st_X11_hourOf_23, st_X11_hourOf_26, st_X11_hourOf_27, st_X11_hourOf_28, st_X11_hourOf_29, st_X11_hourOf_30, st_X11_hourOf_33, st_X11_hourOf_36, st_X11_hourOf_37, st_X11_hourOf_38, st_X11_hourOf_41, st_X11_hourOf_43, st_X11_hourOf_44, st_X11_hourOf_45, st_X11_hourOf_46, st_X11_hourOf_47, st_X11_hourOf_48, st_X11_hourOf_49, st_X11_hourOf_50, st_X11_hourOf_53, st_X11_hourOf_54, st_X11_hourOf_55, st_X11_hourOf_56, st_X11_hourOf_57, st_X11_hourOf_58, st_X11_hourOf_59, st_X11_hourOf_61, st_X11_hourOf_63, st_X11_hourOf_66, st_X11_hourOf_67, st_X11_hourOf_70, st_X11_hourOf_71, st_X11_hourOf_73, st_X11_hourOf_76, st_X11_hourOf_78, st_X11_hourOf_79, st_X11_hourOf_82, st_X11_hourOf_83, st_X11_hourOf_85, st_X11_hourOf_88, st_X11_hourOf_89, st_X11_hourOf_92, st_X11_hourOf_94, st_X11_hourOf_96, st_X11_hourOf_99, st_X11_hourOf_100, st_X11_hourOf_102, st_X11_hourOf_104, st_X11_hourOf_107, st_X11_hourOf_108, st_X11_hourOf_109, st_X11_hourOf_112, st_X11_hourOf_113, st_X11_hourOf_115, st_X11_hourOf_118, st_X11_hourOf_119, st_X11_hourOf_120, st_X11_hourOf_123, st_X11_hourOf_126, st_X11_hourOf_127, st_X11_hourOf_129, st_X11_hourOf_130, st_X11_hourOf_133, st_X11_hourOf_136, st_X11_hourOf_137, st_X11_hourOf_138, st_X11_hourOf_140, st_X11_hourOf_142, st_X11_hourOf_143, st_X11_hourOf_146, st_X11_hourOf_147, st_X11_hourOf_148, st_X11_hourOf_150, st_X11_hourOf_152, st_X11_hourOf_155, st_X11_hourOf_157, st_X11_hourOf_158, st_X11_hourOf_161, st_X11_hourOf_162, st_X11_hourOf_165, st_X11_hourOf_167, st_X11_hourOf_168, st_X11_hourOf_171, st_X11_hourOf_172, st_X11_hourOf_175, st_X11_hourOf_177, st_X11_hourOf_178, st_X11_hourOf_179, st_X11_hourOf_182, st_X11_hourOf_183, st_X11_hourOf_184, st_X11_hourOf_187, st_X11_hourOf_188, st_X11_hourOf_191, st_X11_hourOf_192, st_X11_hourOf_194, st_X11_hourOf_195, st_X11_hourOf_197, st_X11_hourOf_200, st_X11_hourOf_201, st_X11_hourOf_204, st_X11_hourOf_205, st_X11_hourOf_206, st_X11_hourOf_207, st_X11_hourOf_209, st_X11_hourOf_212, st_X11_hourOf_214, st_X11_hourOf_217, st_X11_hourOf_219, st_X11_hourOf_221, st_X11_hourOf_224, st_X11_hourOf_227, st_X11_hourOf_229, st_X11_hourOf_230, st_X11_hourOf_231, st_X11_hourOf_232, st_X11_hourOf_233, st_X11_hourOf_235, st_X11_hourOf_236, st_X11_hourOf_239, st_X11_hourOf_240, st_X11_hourOf_241, st_X11_hourOf_242, st_X11_hourOf_243, st_X11_hourOf_245, st_X11_hourOf_248, st_X11_hourOf_251, st_X11_hourOf_252, st_X11_hourOf_255, st_X11_hourOf_257, st_X11_hourOf_258, st_X11_hourOf_259, st_X11_hourOf_262, st_X11_hourOf_263, st_X11_hourOf_266, st_X11_hourOf_268, st_X11_hourOf_269, st_X11_hourOf_270, st_X11_hourOf_273, st_X11_hourOf_274, st_X11_hourOf_277, st_X11_hourOf_278, st_X11_hourOf_281, st_X11_hourOf_283, st_X11_hourOf_284, st_X11_hourOf_285, st_X11_hourOf_287, st_X11_hourOf_290, st_X11_hourOf_291, st_X11_hourOf_293, st_X11_hourOf_294, st_X11_hourOf_297, st_X11_hourOf_300, st_X11_hourOf_303, rr_127_1, rr_127_2, rr_127_5, rr_127_6, rr_127_7, rr_127_8, rr_127_9, rr_127_10, rr_127_11, rr_127_12, rr_127_13, rr_127_14, rr_127_15, rr_127_16, rr_127_17, rr_127_18, rr_127_19, rr_127_20, rr_127_21, rr_127_23, rr_127_25, rr_127_27, rr_127_32, rr_127_33, rr_127_34, rr_127_37, rr_127_39, rr_127_42, rr_127_43, rr_127_44, rr_127_45, rr_127_46, rr_127_47, rr_127_48, rr_127_49, h0, if_pos hlt, sm_isLoud hE hM.r3 hi hs hG, q1_and, hc, hc5, hc8, i8, i5_1, hnow, hhb, hpl, sm_placeOf hi16, pm_up (k := 142) (Or.inr (by decide)), pm_up (k := 143) (Or.inr (by decide)), pm_up (k := 144) (Or.inr (by decide)), r3_u1, r3_u2, r3_u3, pm_3 hs, if_neg e0, sm_partOf hb4 hbe, sm_unit hb4 hbe, if_neg h9, nI_1, hL, Option.toList_some, Option.toList_none, List.cons_append, List.nil_append, Option.getD_some, am_nlI, am_nlR, am_nlN, bi_eq0, if_true, if_false, bf_tf, bf_ft]) E.n (Nat.le_refl _)
  have e : pm (r3 a (cpf (q1 E (M s)) (a 142) 0) (cpf (q2 E (M s)) (a 143) 0) (cpf (q3 E (a 127 3)) (a 144) 0)) M = pm a M := by
    rw [cpf_0, cpf_0, cpf_0, r3_id]
  rw [e] at key
  refine Eq.trans key ?_
  have h0 : ∀ g1 g2 g3 : Nat → Int32, pm (r3 a g1 g2 g3) M 127 0 = nI E.n := fun g1 g2 g3 => hM.r3.pm.n
  have hlt : ¬ nI E.n < nI E.n := nI_nlt (Nat.le_refl _) (by omega)
  refine Eq.trans st_X11_hourOf_2 ?_
  simp (disch := (first | assumption | exact tg_127 | exact tg_128 | exact tg_129 | exact tg_130 | exact tg_131 | exact tg_132 | exact tg_133 | exact tg_134 | exact tg_135 | exact tg_136 | exact tg_137 | exact tg_138 | exact tg_139 | exact tg_140 | exact tg_141 | exact tg_142 | exact tg_143 | exact tg_144 | exact tg_145 | exact tg_146 | exact tg_147 | exact tg_148 | exact tg_149 | exact tg_150 | exact tg_151 | exact tg_152 | exact tg_153 | exact tg_154 | exact tg_155 | exact tg_156 | exact tg_157 | exact tg_158 | exact tg_159 | exact tg_160 | exact tg_161 | exact tg_162 | exact (show _ from rfl) | exact Nat.le_of_ble_eq_true rfl | exact bi_01 _ | exact Or.inl rfl | exact Or.inr rfl | exact ib_128 (by first | assumption | omega) | exact ib_129 (by first | assumption | omega) | exact ib_130 (by first | assumption | omega) | exact ib_131 (by first | assumption | omega) | exact ib_132 (by first | assumption | omega) | exact ib_133 (by first | assumption | omega) | exact ib_134 (by first | assumption | omega) | exact ib_135 (by first | assumption | omega) | exact ib_136 (by first | assumption | omega) | exact ib_137 (by first | assumption | omega) | exact ib_138 (by first | assumption | omega) | exact ib_139 (by first | assumption | omega) | exact ib_140 (by first | assumption | omega) | exact ib_141 (by first | assumption | omega) | exact ib_142 (by first | assumption | omega) | exact ib_143 (by first | assumption | omega) | exact ib_144 (by first | assumption | omega) | exact ib_145 (by first | assumption | omega) | exact ib_146 (by first | assumption | omega) | exact ib_147 (by first | assumption | omega) | exact ib_148 (by first | assumption | omega) | exact ib_149 (by first | assumption | omega) | exact ib_150 (by first | assumption | omega) | exact ib_151 (by first | assumption | omega) | exact ib_152 (by first | assumption | omega) | exact ib_153 (by first | assumption | omega) | exact ib_154 (by first | assumption | omega) | exact ib_155 (by first | assumption | omega) | exact ib_156 (by first | assumption | omega) | exact ib_157 (by first | assumption | omega) | exact ib_158 (by first | assumption | omega) | exact ib_159 (by first | assumption | omega) | exact ib_160 (by first | assumption | omega) | exact ib_161 (by first | assumption | omega) | exact ib_162 (by first | assumption | omega) | omega | decide)) only [st_X11_hourOf_0, st_X11_hourOf_1, st_X11_hourOf_3, st_X11_hourOf_4, st_X11_hourOf_7, st_X11_hourOf_10, st_X11_hourOf_11, st_X11_hourOf_14, st_X11_hourOf_15, st_X11_hourOf_16, st_X11_hourOf_17, st_X11_hourOf_18, st_X11_hourOf_21, st_X11_hourOf_22, st_X11_hourOf_23, st_X11_hourOf_26, st_X11_hourOf_27, st_X11_hourOf_28, st_X11_hourOf_29, st_X11_hourOf_30, st_X11_hourOf_33, st_X11_hourOf_36, st_X11_hourOf_37, st_X11_hourOf_38, st_X11_hourOf_41, st_X11_hourOf_43, st_X11_hourOf_44, st_X11_hourOf_45, st_X11_hourOf_46, st_X11_hourOf_47, st_X11_hourOf_48, st_X11_hourOf_49, st_X11_hourOf_50, st_X11_hourOf_53, st_X11_hourOf_54, st_X11_hourOf_55, st_X11_hourOf_56, st_X11_hourOf_57, st_X11_hourOf_58, st_X11_hourOf_59, st_X11_hourOf_61, st_X11_hourOf_63, st_X11_hourOf_66, st_X11_hourOf_67, st_X11_hourOf_70, st_X11_hourOf_71, st_X11_hourOf_73, st_X11_hourOf_76, st_X11_hourOf_78, st_X11_hourOf_79, st_X11_hourOf_82, st_X11_hourOf_83, st_X11_hourOf_85, st_X11_hourOf_88, st_X11_hourOf_89, st_X11_hourOf_92, st_X11_hourOf_94, st_X11_hourOf_96, st_X11_hourOf_99, st_X11_hourOf_100, st_X11_hourOf_102, st_X11_hourOf_104, st_X11_hourOf_107, st_X11_hourOf_108, st_X11_hourOf_109, st_X11_hourOf_112, st_X11_hourOf_113, st_X11_hourOf_115, st_X11_hourOf_118, st_X11_hourOf_119, st_X11_hourOf_120, st_X11_hourOf_123, st_X11_hourOf_126, st_X11_hourOf_127, st_X11_hourOf_129, st_X11_hourOf_130, st_X11_hourOf_133, st_X11_hourOf_136, st_X11_hourOf_137, st_X11_hourOf_138, st_X11_hourOf_140, st_X11_hourOf_142, st_X11_hourOf_143, st_X11_hourOf_146, st_X11_hourOf_147, st_X11_hourOf_148, st_X11_hourOf_150, st_X11_hourOf_152, st_X11_hourOf_155, st_X11_hourOf_157, st_X11_hourOf_158, st_X11_hourOf_161, st_X11_hourOf_162, st_X11_hourOf_165, st_X11_hourOf_167, st_X11_hourOf_168, st_X11_hourOf_171, st_X11_hourOf_172, st_X11_hourOf_175, st_X11_hourOf_177, st_X11_hourOf_178, st_X11_hourOf_179, st_X11_hourOf_182, st_X11_hourOf_183, st_X11_hourOf_184, st_X11_hourOf_187, st_X11_hourOf_188, st_X11_hourOf_191, st_X11_hourOf_192, st_X11_hourOf_194, st_X11_hourOf_195, st_X11_hourOf_197, st_X11_hourOf_200, st_X11_hourOf_201, st_X11_hourOf_204, st_X11_hourOf_205, st_X11_hourOf_206, st_X11_hourOf_207, st_X11_hourOf_209, st_X11_hourOf_212, st_X11_hourOf_214, st_X11_hourOf_217, st_X11_hourOf_219, st_X11_hourOf_221, st_X11_hourOf_224, st_X11_hourOf_227, st_X11_hourOf_229, st_X11_hourOf_230, st_X11_hourOf_231, st_X11_hourOf_232, st_X11_hourOf_233, st_X11_hourOf_235, st_X11_hourOf_236, st_X11_hourOf_239, st_X11_hourOf_240, st_X11_hourOf_241, st_X11_hourOf_242, st_X11_hourOf_243, st_X11_hourOf_245, st_X11_hourOf_248, st_X11_hourOf_251, st_X11_hourOf_252, st_X11_hourOf_255, st_X11_hourOf_257, st_X11_hourOf_258, st_X11_hourOf_259, st_X11_hourOf_262, st_X11_hourOf_263, st_X11_hourOf_266, st_X11_hourOf_268, st_X11_hourOf_269, st_X11_hourOf_270, st_X11_hourOf_273, st_X11_hourOf_274, st_X11_hourOf_277, st_X11_hourOf_278, st_X11_hourOf_281, st_X11_hourOf_283, st_X11_hourOf_284, st_X11_hourOf_285, st_X11_hourOf_287, st_X11_hourOf_290, st_X11_hourOf_291, st_X11_hourOf_293, st_X11_hourOf_294, st_X11_hourOf_297, st_X11_hourOf_300, st_X11_hourOf_303, rr_127_1, rr_127_2, rr_127_5, rr_127_6, rr_127_7, rr_127_8, rr_127_9, rr_127_10, rr_127_11, rr_127_12, rr_127_13, rr_127_14, rr_127_15, rr_127_16, rr_127_17, rr_127_18, rr_127_19, rr_127_20, rr_127_21, rr_127_23, rr_127_25, rr_127_27, rr_127_32, rr_127_33, rr_127_34, rr_127_37, rr_127_39, rr_127_42, rr_127_43, rr_127_44, rr_127_45, rr_127_46, rr_127_47, rr_127_48, rr_127_49, h0, if_neg hlt, am_nlI, Option.toList_some, Option.toList_none, List.cons_append, List.nil_append, Option.getD_some, am_nlI, am_nlR, am_nlN, bi_eq0, if_true, if_false, bf_tf, bf_ft]
  rfl
end MHO
