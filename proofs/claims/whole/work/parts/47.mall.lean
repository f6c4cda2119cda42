/-! the reference: an hour of all sayings -/
theorem loop_imp {I P : Nat → am_H → Prop} (n : Nat) (step : ∀ i, i < n → ∀ h, I i h → (∀ h', I (i + 1) h' → P (i + 1) h') → P i h) (fin : ∀ h, I n h → P n h) : ∀ h, I 0 h → P 0 h := by
  have key : ∀ k, k ≤ n → ∀ h, I (n - k) h → P (n - k) h := by
    intro k
    induction k with
    | zero => exact fun _ h hI => fin h hI
    | succ k ih =>
      intro hk h hI
      refine step (n - (k + 1)) (by omega) h hI (fun h' hI' => ?_)
      rw [show n - (k + 1) + 1 = n - k by omega] at hI' ⊢
      exact ih (by omega) h' hI'
  have := key n (Nat.le_refl n)
  rw [Nat.sub_self] at this
  exact this
/-- the same but for the reference's rows of an hour, and its clock -/
def SMc (a a' : Nat → Nat → Int32) : Prop := (∀ k, k < 127 ∨ (127 < k ∧ k < 137) ∨ 144 < k → a' k = a k) ∧ ∀ j, j ≠ 3 → a' 127 j = a 127 j
theorem SMc.refl {a : Nat → Nat → Int32} : SMc a a := ⟨fun _ _ => rfl, fun _ _ => rfl⟩
theorem SMc.trans {a a' a'' : Nat → Nat → Int32} (h : SMc a a') (h' : SMc a' a'') : SMc a a'' := ⟨fun k hk => (h'.1 k hk).trans (h.1 k hk), fun j hj => (h'.2 j hj).trans (h.2 j hj)⟩
theorem EM.sm {a a' : Nat → Nat → Int32} {E : ENV} (h : EM a E) (s : SMc a a') : EM a' E := h.of (s.2 0 (by decide)) (s.1 128 (by omega)) (s.1 129 (by omega)) (s.1 136 (by omega))
theorem SMc_rows {a : Nat → Nat → Int32} {E : ENV} {S : Nat → PS} : SMc a (hrows a E S) := ⟨fun k hk => hrows_o (by omega), fun j _ => by rw [hrows_o (by omega)]⟩
theorem SMc_now {a : Nat → Nat → Int32} {x : Int32} : SMc a (am_up a 127 3 x) := ⟨fun k hk => au_d (by omega), fun j hj => au_sd hj⟩
def hrM (E : ENV) (t : Int32) (m : Nat) (M : Nat → Nat → PS) : Nat → Nat → PS := fun s => if s < m then hourF E t (M s) else M s
def itM (E : ENV) (t : Int32) (m : Nat) (M : Nat → Nat → PS) (k : Nat) : Nat → Nat → PS := fun s => if s < m then itH E t (M s) k else M s
theorem itM_0 {E : ENV} {t : Int32} {m : Nat} {M : Nat → Nat → PS} : itM E t m M 0 = M := by funext s; unfold itM itH; split <;> rfl
theorem itM_s {E : ENV} {t : Int32} {m : Nat} {M : Nat → Nat → PS} {k : Nat} : hrM E (t + nI k) m (itM E t m M k) = itM E t m M (k + 1) := by
  funext s
  unfold hrM itM
  split
  · rfl
  · rfl
def GVM (M : Nat → Nat → PS) (m n : Nat) : Prop := ∀ s, s < m → GV (M s) n ∧ ST (M s) n
theorem GVM_it {E : ENV} {t : Int32} {m : Nat} {M : Nat → Nat → PS} (hE : EOK E) (h : GVM M m E.n) : ∀ k, GVM (itM E t m M k) m E.n := fun k s hs => by
  have e : itM E t m M k s = itH E t (M s) k := by simp [itM, hs]
  rw [e]
  refine ⟨GV_it hE (h s hs).1 k, ?_⟩
  induction k with
  | zero => exact (h s hs).2
  | succ k ih => exact ST_hour (ih (by simp [itM, hs]))
def upto (F M : Nat → Nat → PS) (i : Nat) : Nat → Nat → PS := fun s => if s < i then F s else M s
theorem upto_s {F M : Nat → Nat → PS} {i : Nat} : setM (upto F M i) i (F i) = upto F M (i + 1) := by
  funext s
  unfold setM upto
  by_cases h : s = i
  · subst h; simp
  · by_cases h2 : s < i
    · simp [h, h2, Nat.lt_succ_of_lt h2]
    · simp [h, h2, show ¬ s < i + 1 by omega]
theorem upto_i {F M : Nat → Nat → PS} {i : Nat} : upto F M i i = M i := by simp [upto]
theorem upto_0 {F M : Nat → Nat → PS} : upto F M 0 = M := by funext s; simp [upto]
section MAL
variable {d L s : Nat} {b : Bool} {a : Nat → Nat → Int32} {Q : Option Value → am_H → Prop} {E : ENV} {M : Nat → Nat → PS}
set_option maxRecDepth 100000 in
theorem sm_hour {m : Nat} (hE : EOK E) (hM : EM a E) (hm : a 127 4 = nI m) (hm8 : m ≤ 8) (hG : GVM M m E.n)
    (hQ : ∀ a', SMc a a' → a' 127 3 = a 127 3 + 1 → Q none (CT L, pm a' (hrM E (a 127 3) m M), RR b)) : CALL (d + 4) 152 [.ref (127 : Nat)] (CT L, pm a M, RR b) Q := by
  simp (disch := (first | assumption | exact tg_127 | exact tg_128 | exact tg_129 | exact tg_130 | exact tg_131 | exact tg_132 | exact tg_133 | exact tg_134 | exact tg_135 | exact tg_136 | exact tg_137 | exact tg_138 | exact tg_139 | exact tg_140 | exact tg_141 | exact tg_142 | exact tg_143 | exact tg_144 | exact tg_145 | exact tg_146 | exact tg_147 | exact tg_148 | exact tg_149 | exact tg_150 | exact tg_151 | exact tg_152 | exact tg_153 | exact tg_154 | exact tg_155 | exact tg_156 | exact tg_157 | exact tg_158 | exact tg_159 | exact tg_160 | exact tg_161 | exact tg_162 | exact (show _ from rfl) | exact Nat.le_of_ble_eq_true rfl | exact bi_01 _ | exact Or.inl rfl | exact Or.inr rfl | exact ib_128 (by first | assumption | omega) | exact ib_129 (by first | assumption | omega) | exact ib_130 (by first | assumption | omega) | exact ib_131 (by first | assumption | omega) | exact ib_132 (by first | assumption | omega) | exact ib_133 (by first | assumption | omega) | exact ib_134 (by first | assumption | omega) | exact ib_135 (by first | assumption | omega) | exact ib_136 (by first | assumption | omega) | exact ib_137 (by first | assumption | omega) | exact ib_138 (by first | assumption | omega) | exact ib_139 (by first | assumption | omega) | exact ib_140 (by first | assumption | omega) | exact ib_141 (by first | assumption | omega) | exact ib_142 (by first | assumption | omega) | exact ib_143 (by first | assumption | omega) | exact ib_144 (by first | assumption | omega) | exact ib_145 (by first | assumption | omega) | exact ib_146 (by first | assumption | omega) | exact ib_147 (by first | assumption | omega) | exact ib_148 (by first | assumption | omega) | exact ib_149 (by first | assumption | omega) | exact ib_150 (by first | assumption | omega) | exact ib_151 (by first | assumption | omega) | exact ib_152 (by first | assumption | omega) | exact ib_153 (by first | assumption | omega) | exact ib_154 (by first | assumption | omega) | exact ib_155 (by first | assumption | omega) | exact ib_156 (by first | assumption | omega) | exact ib_157 (by first | assumption | omega) | exact ib_158 (by first | assumption | omega) | exact ib_159 (by first | assumption | omega) | exact ib_160 (by first | assumption | omega) | exact ib_161 (by first | assumption | omega) | exact ib_162 (by first | assumption | omega) | omega | decide)) only [en_X11_hour, st_X11_hour_0, st_X11_hour_1, am_nlI, am_nlR, Option.toList_some, Option.toList_none, List.cons_append, List.nil_append, Option.getD_some, am_nlI, am_nlR, am_nlN, bi_eq0, if_true, if_false, bf_tf, bf_ft]
  refine loop_imp (P := fun i h => AW (d + 4) 152 2 [some (.ref (127 : Nat)), some (.int (nI i))] [] h Q) (I := fun i h => ∃ a', SMc a a' ∧ a' 127 3 = a 127 3 ∧ h = (CT L, pm a' (upto (fun s => hourF E (a 127 3) (M s)) M i), RR b)) m ?_ ?_ _ ⟨a, SMc.refl, rfl, by rw [upto_0]⟩
  · rintro i hi h ⟨a', s1, s2, rfl⟩ hN
    have hlt : nI i < nI m := nI_lt hi (by omega)
    have hm' : ∀ N, pm a' N 127 4 = nI m := fun N => by rw [pm_o (by omega), s1.2 4 (by decide)]; exact hm
    have hi8 : i < 8 := by omega
    have hu : upto (fun s => hourF E (a 127 3) (M s)) M i i = M i := upto_i
    have hG' : GV (upto (fun s => hourF E (a 127 3) (M s)) M i i) E.n := by rw [hu]; exact (hG i hi).1
    have hS' : ST (upto (fun s => hourF E (a 127 3) (M s)) M i i) E.n := by rw [hu]; exact (hG i hi).2
    rw [st_X11_hour_2]
    simp (disch := (first | assumption | exact tg_127 | exact tg_128 | exact tg_129 | exact tg_130 | exact tg_131 | exact tg_132 | exact tg_133 | exact tg_134 | exact tg_135 | exact tg_136 | exact tg_137 | exact tg_138 | exact tg_139 | exact tg_140 | exact tg_141 | exact tg_142 | exact tg_143 | exact tg_144 | exact tg_145 | exact tg_146 | exact tg_147 | exact tg_148 | exact tg_149 | exact tg_150 | exact tg_151 | exact tg_152 | exact tg_153 | exact tg_154 | exact tg_155 | exact tg_156 | exact tg_157 | exact tg_158 | exact tg_159 | exact tg_160 | exact tg_161 | exact tg_162 | exact (show _ from rfl) | exact Nat.le_of_ble_eq_true rfl | exact bi_01 _ | exact Or.inl rfl | exact Or.inr rfl | exact ib_128 (by first | assumption | omega) | exact ib_129 (by first | assumption | omega) | exact ib_130 (by first | assumption | omega) | exact ib_131 (by first | assumption | omega) | exact ib_132 (by first | assumption | omega) | exact ib_133 (by first | assumption | omega) | exact ib_134 (by first | assumption | omega) | exact ib_135 (by first | assumption | omega) | exact ib_136 (by first | assumption | omega) | exact ib_137 (by first | assumption | omega) | exact ib_138 (by first | assumption | omega) | exact ib_139 (by first | assumption | omega) | exact ib_140 (by first | assumption | omega) | exact ib_141 (by first | assumption | omega) | exact ib_142 (by first | assumption | omega) | exact ib_143 (by first | assumption | omega) | exact ib_144 (by first | assumption | omega) | exact ib_145 (by first | assumption | omega) | exact ib_146 (by first | assumption | omega) | exact ib_147 (by first | assumption | omega) | exact ib_148 (by first | assumption | omega) | exact ib_149 (by first | assumption | omega) | exact ib_150 (by first | assumption | omega) | exact ib_151 (by first | assumption | omega) | exact ib_152 (by first | assumption | omega) | exact ib_153 (by first | assumption | omega) | exact ib_154 (by first | assumption | omega) | exact ib_155 (by first | assumption | omega) | exact ib_156 (by first | assumption | omega) | exact ib_157 (by first | assumption | omega) | exact ib_158 (by first | assumption | omega) | exact ib_159 (by first | assumption | omega) | exact ib_160 (by first | assumption | omega) | exact ib_161 (by first | assumption | omega) | exact ib_162 (by first | assumption | omega) | omega | decide)) only [st_X11_hour_0, st_X11_hour_1, st_X11_hour_3, st_X11_hour_4, st_X11_hour_7, st_X11_hour_10, st_X11_hour_11, st_X11_hour_12, st_X11_hour_15, st_X11_hour_18, st_X11_hour_21, st_X11_hour_22, st_X11_hour_23, st_X11_hour_26, st_X11_hour_27, st_X11_hour_28, st_X11_hour_31, hm', if_pos hlt, sm_hourOf hE (hM.sm s1) hi8 hG' hS', hu, s2, nI_1, Option.toList_some, Option.toList_none, List.cons_append, List.nil_append, Option.getD_some, am_nlI, am_nlR, am_nlN, bi_eq0, if_true, if_false, bf_tf, bf_ft]
    refine hN _ ⟨hrows a' E (M i), s1.trans SMc_rows, ?_, ?_⟩
    · rw [hrows_o (by omega)]; exact s2
    · rw [← upto_s]
  · rintro h ⟨a', s1, s2, rfl⟩
    have hlt : ¬ nI m < nI m := nI_nlt (Nat.le_refl _) (by omega)
    have hm' : ∀ N, pm a' N 127 4 = nI m := fun N => by rw [pm_o (by omega), s1.2 4 (by decide)]; exact hm
    have hnow : ∀ N, pm a' N 127 3 = a 127 3 := fun N => by rw [pm_o (by omega)]; exact s2
    rw [st_X11_hour_2]
    simp (disch := (first | assumption | exact tg_127 | exact tg_128 | exact tg_129 | exact tg_130 | exact tg_131 | exact tg_132 | exact tg_133 | exact tg_134 | exact tg_135 | exact tg_136 | exact tg_137 | exact tg_138 | exact tg_139 | exact tg_140 | exact tg_141 | exact tg_142 | exact tg_143 | exact tg_144 | exact tg_145 | exact tg_146 | exact tg_147 | exact tg_148 | exact tg_149 | exact tg_150 | exact tg_151 | exact tg_152 | exact tg_153 | exact tg_154 | exact tg_155 | exact tg_156 | exact tg_157 | exact tg_158 | exact tg_159 | exact tg_160 | exact tg_161 | exact tg_162 | exact (show _ from rfl) | exact Nat.le_of_ble_eq_true rfl | exact bi_01 _ | exact Or.inl rfl | exact Or.inr rfl | exact ib_128 (by first | assumption | omega) | exact ib_129 (by first | assumption | omega) | exact ib_130 (by first | assumption | omega) | exact ib_131 (by first | assumption | omega) | exact ib_132 (by first | assumption | omega) | exact ib_133 (by first | assumption | omega) | exact ib_134 (by first | assumption | omega) | exact ib_135 (by first | assumption | omega) | exact ib_136 (by first | assumption | omega) | exact ib_137 (by first | assumption | omega) | exact ib_138 (by first | assumption | omega) | exact ib_139 (by first | assumption | omega) | exact ib_140 (by first | assumption | omega) | exact ib_141 (by first | assumption | omega) | exact ib_142 (by first | assumption | omega) | exact ib_143 (by first | assumption | omega) | exact ib_144 (by first | assumption | omega) | exact ib_145 (by first | assumption | omega) | exact ib_146 (by first | assumption | omega) | exact ib_147 (by first | assumption | omega) | exact ib_148 (by first | assumption | omega) | exact ib_149 (by first | assumption | omega) | exact ib_150 (by first | assumption | omega) | exact ib_151 (by first | assumption | omega) | exact ib_152 (by first | assumption | omega) | exact ib_153 (by first | assumption | omega) | exact ib_154 (by first | assumption | omega) | exact ib_155 (by first | assumption | omega) | exact ib_156 (by first | assumption | omega) | exact ib_157 (by first | assumption | omega) | exact ib_158 (by first | assumption | omega) | exact ib_159 (by first | assumption | omega) | exact ib_160 (by first | assumption | omega) | exact ib_161 (by first | assumption | omega) | exact ib_162 (by first | assumption | omega) | omega | decide)) only [st_X11_hour_0, st_X11_hour_1, st_X11_hour_3, st_X11_hour_4, st_X11_hour_7, st_X11_hour_10, st_X11_hour_11, st_X11_hour_12, st_X11_hour_15, st_X11_hour_18, st_X11_hour_21, st_X11_hour_22, st_X11_hour_23, st_X11_hour_26, st_X11_hour_27, st_X11_hour_28, st_X11_hour_31, hm', if_neg hlt, hnow, pm_up (k := 127) (Or.inl (by decide)), Option.toList_some, Option.toList_none, List.cons_append, List.nil_append, Option.getD_some, am_nlI, am_nlR, am_nlN, bi_eq0, if_true, if_false, bf_tf, bf_ft]
    exact hQ _ (s1.trans SMc_now) au_ss
end MAL
