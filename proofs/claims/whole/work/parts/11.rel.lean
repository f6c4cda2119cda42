/-! THE RELATION between the small machine's state and the JVM's -/
def am_tyT (ci : Nat) : Nat → FieldType := match ci with
  | 0 => tyX0
  | 1 => tyX1
  | 2 => tyX3
  | 3 => tyX4
  | 4 => tyX5
  | 5 => tyX6
  | 6 => tyX7
  | 7 => tyX8
  | 8 => tyX9
  | 9 => tyX10
  | _ => tyX11
def am_isR (ty : FieldType) : Bool := match ty with
  | .object _ => true
  | .array _ => true
  | _ => false
/-- the component type of a row of numbers -/
def am_pt (tag : Nat) : FieldType := match tag with
  | 20 => .int
  | 21 => .boolean
  | 22 => .char
  | _ => .byte
def am_rt (tag : Nat) : FieldType := match tag with
  | 30 => .array .int
  | 31 => .object "RumourDesk$Saying"
  | _ => .object "RumourDesk$Sheet"
def am_cv (ad : Nat → Nat) (v : Value) : Value := match v with
  | .ref k => .ref (ad k)
  | v => v
def am_fv (ad : Nat → Nat) (ty : FieldType) (x : Int32) (r : Option Nat) : Value := if am_isR ty = true then va_rf (r.map ad) else .int x
def am_new (D : va_G) (ad : Nat → Nat) (U : State) (H : Heap) (k : Nat) (t : Nat × Nat) (fi : Nat → Int32) (fr : Nat → Option Nat) : Prop :=
  (t.1 < 11 ∧ ∃ r : vw_C, vwCl[t.1]? = some r ∧ t_OB (ad k) (D.1 t.1) r.2.2 (D.2 t.1) H (fun j => am_fv ad (am_tyT t.1 j) (fi j) (fr j))) ∨
  (20 ≤ t.1 ∧ t.1 < 24 ∧ ∃ cA : ClassId, ArrOfT U cA (am_pt t.1) ∧ H[ad k]? = some (arrV cA t.2 (fun j => .int (fi j)))) ∨
  (30 ≤ t.1 ∧ t.1 < 33 ∧ ∃ cA : ClassId, ArrOfT U cA (am_rt t.1) ∧ va_RA U cA (am_rt t.1) ∧ H[ad k]? = some (arrV cA t.2 (fun j => va_rf ((fr j).map ad))))
def am_old (ad : Nat → Nat) (b0 : Nat) (Hb : Heap) (U : State) (k : Nat) (t : Nat × Nat) (fi : Nat → Int32) (fr : Nat → Option Nat) : Prop :=
  (t.1 = 12 ∧ va_O "java/lang/String" (ad k) (fun q => b0 ≤ q) U Hb ∧ va_OF "java/lang/String" "value" "[B" (va_rf ((fr 0).map ad)) (ad k) (fun q => b0 ≤ q) U Hb ∧ va_OF "java/lang/String" "coder" "B" (.int (fi 1)) (ad k) (fun q => b0 ≤ q) U Hb) ∨
  (20 ≤ t.1 ∧ t.1 < 24 ∧ va_T (am_pt t.1) (ad k) t.2 (fun j => .int (fi j)) (fun q => b0 ≤ q) U Hb)
def am_rel (D : va_G) (ad : Nat → Nat) (b0 : Nat) (Hb : Heap) (U : State) (h : am_H) (H : Heap) : Prop :=
  Hb.size = b0 ∧ (∀ q : Nat, q < b0 → H[q]? = Hb[q]?) ∧ 12 ≤ h.1.length ∧ H.size = b0 + (h.1.length - 12) ∧
  (∀ (k : Nat) (t : Nat × Nat), k < 12 → h.1[k]? = some t → am_old ad b0 Hb U k t (h.2.1 k) (h.2.2 k)) ∧
  (∀ (k : Nat) (t : Nat × Nat), 12 ≤ k → h.1[k]? = some t → am_new D ad U H k t (h.2.1 k) (h.2.2 k))
theorem am_new.moved {D : va_G} {ad : Nat → Nat} {u U : State} {H : Heap} {k : Nat} {t : Nat × Nat} {fi : Nat → Int32} {fr : Nat → Option Nat} (hvm : u.vm.Alike U.vm) (h : am_new D ad u H k t fi fr) : am_new D ad U H k t fi fr := by
  rcases h with h | ⟨h1, h2, cA, h3, h4⟩ | ⟨h1, h2, cA, h3, h4, h5⟩
  · exact Or.inl h
  · exact Or.inr (Or.inl ⟨h1, h2, cA, arrOfT_moved hvm h3, h4⟩)
  · exact Or.inr (Or.inr ⟨h1, h2, cA, arrOfT_moved hvm h3, h4.moved hvm, h5⟩)
theorem am_old.moved {ad : Nat → Nat} {b0 : Nat} {Hb : Heap} {u U : State} {k : Nat} {t : Nat × Nat} {fi : Nat → Int32} {fr : Nat → Option Nat} (hvm : u.vm.Alike U.vm) (h : am_old ad b0 Hb u k t fi fr) : am_old ad b0 Hb U k t fi fr := by
  rcases h with ⟨h1, h2, h3, h4⟩ | ⟨h1, h2, h3⟩
  · exact Or.inl ⟨h1, va_O.moved hvm h2, va_OF.moved hvm h3, va_OF.moved hvm h4⟩
  · exact Or.inr ⟨h1, h2, va_T.moved hvm h3⟩
theorem am_rel.moved {D : va_G} {ad : Nat → Nat} {b0 : Nat} {Hb : Heap} {u U : State} {h : am_H} {H : Heap} (hvm : u.vm.Alike U.vm) (hr : am_rel D ad b0 Hb u h H) : am_rel D ad b0 Hb U h H := by
  obtain ⟨h1, h2, h3, h4, h5, h6⟩ := hr
  exact ⟨h1, h2, h3, h4, fun k t hk ht => (h5 k t hk ht).moved hvm, fun k t hk ht => (h6 k t hk ht).moved hvm⟩
theorem am_new.kept {D : va_G} {ad : Nat → Nat} {U : State} {H H1 : Heap} {k : Nat} {t : Nat × Nat} {fi : Nat → Int32} {fr : Nat → Option Nat} (h : am_new D ad U H k t fi fr) (hq : H1[ad k]? = H[ad k]?) : am_new D ad U H1 k t fi fr := by
  rcases h with ⟨h1, r, h2, h3⟩ | ⟨h1, h2, cA, h3, h4⟩ | ⟨h1, h2, cA, h3, h4, h5⟩
  · exact Or.inl ⟨h1, r, h2, h3.kept hq⟩
  · exact Or.inr (Or.inl ⟨h1, h2, cA, h3, by rw [hq]; exact h4⟩)
  · exact Or.inr (Or.inr ⟨h1, h2, cA, h3, h4, by rw [hq]; exact h5⟩)
/-- one new cell was written: k0, which holds what g and gr say now -/
theorem am_rel.put {D : va_G} {ad : Nat → Nat} {b0 : Nat} {Hb : Heap} {U : State} {h h' : am_H} {H H1 : Heap} (had : ∀ k, 12 ≤ k → ad k = b0 + (k - 12)) (hr : am_rel D ad b0 Hb U h H) {k0 : Nat} {t0 : Nat × Nat} (hk0 : 12 ≤ k0) (ht0 : h.1[k0]? = some t0) (e1 : h'.1 = h.1)
    (e2 : ∀ k, k ≠ k0 → h'.2.1 k = h.2.1 k) (e3 : ∀ k, k ≠ k0 → h'.2.2 k = h.2.2 k) (hz : H1.size = H.size) (ho : ∀ q, q ≠ ad k0 → H1[q]? = H[q]?) (hn : am_new D ad U H1 k0 t0 (h'.2.1 k0) (h'.2.2 k0)) : am_rel D ad b0 Hb U h' H1 := by
  obtain ⟨h1, h2, h3, h4, h5, h6⟩ := hr
  refine ⟨h1, fun q hq => ?_, by rw [e1]; exact h3, by rw [e1, hz]; exact h4, fun k t hk ht => ?_, fun k t hk ht => ?_⟩
  · rw [ho q (by rw [had k0 hk0]; omega)]
    exact h2 q hq
  · rw [e1] at ht
    rw [e2 k (by omega), e3 k (by omega)]
    exact h5 k t hk ht
  · rw [e1] at ht
    by_cases hkk : k = k0
    · subst hkk
      cases ht.symm.trans ht0
      exact hn
    · rw [e2 k hkk, e3 k hkk]
      exact (h6 k t hk ht).kept (ho _ (by rw [had k hk, had k0 hk0]; omega))
/-- one new cell came -/
theorem am_rel.push {D : va_G} {ad : Nat → Nat} {b0 : Nat} {Hb : Heap} {U : State} {h h' : am_H} {H H1 : Heap} (had : ∀ k, 12 ≤ k → ad k = b0 + (k - 12)) (hr : am_rel D ad b0 Hb U h H) {t0 : Nat × Nat} (e1 : h'.1 = h.1 ++ [t0])
    (e2 : ∀ k, k < h.1.length → h'.2.1 k = h.2.1 k) (e3 : ∀ k, k < h.1.length → h'.2.2 k = h.2.2 k) (hz : H1.size = H.size + 1) (ho : ∀ q, q < H.size → H1[q]? = H[q]?) (hn : am_new D ad U H1 h.1.length t0 (h'.2.1 h.1.length) (h'.2.2 h.1.length)) : am_rel D ad b0 Hb U h' H1 := by
  obtain ⟨h1, h2, h3, h4, h5, h6⟩ := hr
  refine ⟨h1, fun q hq => ?_, by rw [e1]; simp; omega, by rw [e1, hz, h4]; simp; omega, fun k t hk ht => ?_, fun k t hk ht => ?_⟩
  · rw [ho q (by omega)]
    exact h2 q hq
  · have hl : k < h.1.length := by omega
    rw [e1, List.getElem?_append_left hl] at ht
    rw [e2 k hl, e3 k hl]
    exact h5 k t hk ht
  · by_cases hl : k < h.1.length
    · rw [e1, List.getElem?_append_left hl] at ht
      rw [e2 k hl, e3 k hl]
      exact (h6 k t hk ht).kept (ho _ (by rw [had k hk]; omega))
    · rw [e1, List.getElem?_append_right (by omega)] at ht
      have hz2 : k - h.1.length < 1 := (List.getElem?_eq_some_iff.mp ht).1
      have hkk : k = h.1.length := by omega
      subst hkk
      rw [Nat.sub_self] at ht
      cases ht
      exact hn
/-- what is read of an array of numbers, old or new -/
theorem am_rel.arr {D : va_G} {ad : Nat → Nat} {b0 : Nat} {Hb : Heap} {U : State} {h : am_H} {H : Heap} (hr : am_rel D ad b0 Hb U h H) {k : Nat} {t : Nat × Nat} (ht : h.1[k]? = some t) (h1 : 20 ≤ t.1) (h2 : t.1 < 24) : ∃ cell : Cell, H[ad k]? = some cell ∧ U.isArrayOf cell (am_pt t.1) ∧ cell.vm ≠ .unknown ∧ t.2 ≤ cell.slots.size ∧ cell.slots.size.toInt32 = Int32.ofNat t.2 ∧ ∀ j : Nat, j < t.2 → cell.slots[j]? = some (.int (h.2.1 k j)) := by
  obtain ⟨g1, g2, g3, g4, g5, g6⟩ := hr
  by_cases hk : k < 12
  · rcases g5 k t hk ht with ⟨q, -⟩ | ⟨-, -, cell, q1, q2, q3, q4, q5, q6, q7⟩
    · omega
    · have hb : ad k < b0 := Nat.not_le.mp q7
      exact ⟨cell, by rw [g2 _ hb]; exact q1, q2, q3, q4, q5, q6⟩
  · rcases g6 k t (by omega) ht with ⟨q, -⟩ | ⟨-, -, cA, q1, q2⟩ | ⟨q, -⟩
    · omega
    · exact ⟨_, q2, q1 _ _, (fun q => by cases q), (by rw [arrV_size]; exact Nat.le_refl _), (by rw [arrV_size]), fun j hj => arrV_read _ _ hj⟩
    · omega
/-- the locals -/
def am_lc (ad : Nat → Nat) (ls : Array Slot) (nL : Nat) (L : am_L) : Prop := L.length = nL ∧ ∃ lv : List (Nat × Value), lv_has ls nL lv ∧ ∀ (i : Nat) (v : Value), L[i]? = some (some v) → (i, am_cv ad v) ∈ lv
theorem am_lc.get {ad : Nat → Nat} {ls : Array Slot} {nL : Nat} {L : am_L} (h : am_lc ad ls nL L) {i : Nat} {v : Value} (hv : L[i]? = some (some v)) : ls[i]? = some (.val (am_cv ad v)) := by
  obtain ⟨-, lv, h1, h2⟩ := h
  exact h1.2.2 _ (h2 i v hv)
theorem am_cv_cat (ad : Nat → Nat) (v : Value) : (am_cv ad v).category = v.category := by cases v <;> rfl
theorem am_nl_some {g : Option Value} {v : Value} (h : am_nl g = some v) : g = some v ∧ v.category = 1 := by
  unfold am_nl at h
  split at h
  · cases h
  · cases h
  · rename_i h1 h2
    subst h
    refine ⟨rfl, ?_⟩
    cases v <;> first | rfl | exact absurd rfl (h1 _) | exact absurd rfl (h2 _)
theorem am_put_len (v : Value) : ∀ (L : am_L) (i : Nat), (am_put L i v).length = L.length
  | [], i => by cases i <;> rfl
  | _ :: _, 0 => rfl
  | _ :: t, 1 => by simp [am_put, am_put_len v t 0]
  | _ :: t, i + 2 => by simp [am_put, am_put_len v t (i + 1)]
theorem am_put_get (w : Value) : ∀ (L : am_L) (i j : Nat) (v : Value), (am_put L i w)[j]? = some (some v) → (j = i ∧ v = w) ∨ (j ≠ i ∧ L[j]? = some (some v) ∧ (j + 1 = i → v.category = 1))
  | [], i, j, v, h => by cases i <;> simp [am_put] at h
  | g :: t, 0, 0, v, h => by
    simp only [am_put, List.getElem?_cons_zero, Option.some.injEq] at h
    exact Or.inl ⟨rfl, h.symm⟩
  | g :: t, 0, j + 1, v, h => Or.inr ⟨by omega, h, by omega⟩
  | g :: t, 1, 0, v, h => by
    simp only [am_put, List.getElem?_cons_zero, Option.some.injEq] at h
    obtain ⟨h1, h2⟩ := am_nl_some h
    exact Or.inr ⟨by omega, by simp [h1], fun _ => h2⟩
  | g :: t, 1, j + 1, v, h => by
    rcases am_put_get w t 0 j v (by simpa [am_put] using h) with ⟨h1, h2⟩ | ⟨h1, h2, h3⟩
    · exact Or.inl ⟨by omega, h2⟩
    · exact Or.inr ⟨by omega, by simpa using h2, by omega⟩
  | g :: t, i + 2, 0, v, h => Or.inr ⟨by omega, by simpa [am_put] using h, by omega⟩
  | g :: t, i + 2, j + 1, v, h => by
    rcases am_put_get w t (i + 1) j v (by simpa [am_put] using h) with ⟨h1, h2⟩ | ⟨h1, h2, h3⟩
    · exact Or.inl ⟨by omega, h2⟩
    · exact Or.inr ⟨by omega, by simpa using h2, fun e => h3 (by omega)⟩
theorem am_lc.set {ad : Nat → Nat} {ls' : Array Slot} {nL i : Nat} {L : am_L} {lv : List (Nat × Value)} {w : Value} (hl : L.length = nL) (h2 : ∀ (i : Nat) (v : Value), L[i]? = some (some v) → (i, am_cv ad v) ∈ lv)
    (h' : lv_has ls' nL ((i, am_cv ad w) :: lv.filter (fun q => !(q.1 == i) && !(q.1 + 1 == i && q.2.category == 2)))) : am_lc ad ls' nL (am_put L i w) := by
  refine ⟨by rw [am_put_len]; exact hl, _, h', fun j v hv => ?_⟩
  rcases am_put_get w L i j v hv with ⟨e1, e2⟩ | ⟨e1, e2, e3⟩
  · subst e1; subst e2
    exact List.mem_cons_self
  · refine List.mem_cons_of_mem _ (List.mem_filter.mpr ⟨h2 j v e2, ?_⟩)
    by_cases h4 : j + 1 = i
    · have := e3 h4
      simp [am_cv_cat, this, e1]
    · simp [e1, h4]
/-- the tables' words that a call keeps -/
def am_tb : List Cond := lw_tbl.filter goodWord
theorem am_in {w : Cond} (i : Nat) (h : lw_tbl[i]? = some w) (g : goodWord w = true) : w ∈ am_tb := List.mem_filter.mpr ⟨List.mem_of_getElem? h, g⟩
theorem am_tb_good : GoodIn am_tb am_tb := fun w h => ⟨h, good_of_word (List.mem_filter.mp h).2⟩
theorem am_goodC {w : Cond} {ws : List Cond} (h : w ∈ am_tb) (hw : GoodIn am_tb ws) : GoodIn am_tb (w :: ws) := fun x hx => by
  rcases List.mem_cons.mp hx with e | e
  · rw [e]; exact am_tb_good w h
  · exact hw x e
/-- links across a nest -/
def am_isN (w : Cond) : Bool := match w with
  | .methodLinkNest .. => true
  | _ => false
def am_nest : List Cond := lw_tbl.filter am_isN
theorem am_inN {w : Cond} (i : Nat) (h : lw_tbl[i]? = some w) (g : am_isN w = true) : w ∈ am_nest := List.mem_filter.mpr ⟨List.mem_of_getElem? h, g⟩
def am_AO (t : FieldType) (U : State) : Prop := (Cond.arrayOver t).before #[] U = true
theorem am_AO.use {t : FieldType} {A : Array Value} {U : State} (h : am_AO t U) : (Cond.arrayOver t).before A U = true := h
/-- what is known of the machine's tables and of what was there before, at any state of ours -/
def am_U (D : va_G) (ad : Nat → Nat) (b0 : Nat) (Hb : Heap) (U : State) : Prop :=
  va_K D vwCl [] U ∧
  (va_Z "RumourDesk$Town" "TOPS" "[I" (.ref (ad 1)) (fun q => b0 ≤ q) U Hb ∧ va_Z "RumourDesk$Parts" "UNITS" "[I" (.ref (ad 2)) (fun q => b0 ≤ q) U Hb ∧ va_Z "RumourDesk$Town" "FORCES" "[I" (.ref (ad 3)) (fun q => b0 ≤ q) U Hb ∧ va_Z "java/lang/String" "COMPACT_STRINGS" "Z" (.int 1) (fun q => b0 ≤ q) U Hb) ∧
  (vk_R "RumourDesk$Tape" 82 "wtnp" (ad 4) U ∧ vk_R "RumourDesk$Tape" 84 "=<>" (ad 5) U ∧ vk_R "RumourDesk$Tape" 86 "0123456789" (ad 6) U ∧ vk_R "RumourDesk$Tape" 49 "dhs" (ad 7) U) ∧
  (∀ w ∈ am_nest, va_Nw w U) ∧ (∀ t : FieldType, t = .array .int ∨ t = .object "RumourDesk$Saying" ∨ t = .object "RumourDesk$Sheet" → am_AO t U)
