/-! which to deny: the least harm with the fewest -/
theorem sumN_lt {f g : Nat → Nat} : ∀ {n : Nat}, (∀ i, i < n → f i ≤ g i) → (∃ i, i < n ∧ f i < g i) → sumN f n < sumN g n
  | 0, _, ⟨i, hi, _⟩ => by omega
  | n + 1, h, ⟨i, hi, h1⟩ => by
    have le : ∀ k, k ≤ n → sumN f k ≤ sumN g k := fun k => by
      induction k with
      | zero => intro _; exact Nat.le_refl 0
      | succ k ih =>
        intro hk
        have := ih (by omega)
        have := h k (by omega)
        unfold sumN
        omega
    unfold sumN
    by_cases e : i = n
    · subst e
      have := le i (Nat.le_refl _)
      omega
    · have := sumN_lt (n := n) (fun j hj => h j (by omega)) ⟨i, by omega, h1⟩
      have := h n (by omega)
      omega
theorem ctn_ext {f : Nat → Bool} {m : Nat} (h : ∀ i, m ≤ i → f i = false) : ∀ k, ctn f (m + k) = ctn f m
  | 0 => rfl
  | k + 1 => by
    rw [← Nat.add_assoc, ctn, ctn_ext h k, h (m + k) (by omega)]
    rfl
theorem bit_hi {y m i : Nat} (h : y < 2 ^ m) (hi : m ≤ i) : y.testBit i = false := Nat.testBit_lt_two_pow (Nat.lt_of_lt_of_le h (Nat.pow_le_pow_right (n := 2) (by decide) hi))
theorem sumN_K {f : Nat → Nat} {g : Nat → Bool} : ∀ n, sumN (fun s => 100 * f s + (if g s then 1 else 0)) n = 100 * sumN f n + ctn g n
  | 0 => rfl
  | n + 1 => by
    unfold sumN ctn
    rw [sumN_K n]
    omega
section PUR
variable {f : Nat → Nat → Nat} {m x : Nat}
def hN (f : Nat → Nat → Nat) (m y : Nat) : Nat := sumN (fun s => if y.testBit s then f s 0 else f s 3) m
def DD (f : Nat → Nat → Nat) (m x : Nat) : Nat := mk (fun s => x.testBit s && decide (f s 0 < f s 3)) m
theorem DD_bit {i : Nat} : (DD f m x).testBit i = (decide (i < m) && (x.testBit i && decide (f i 0 < f i 3))) := mk_bit _ _ _
theorem DD_lt : DD f m x < 2 ^ m := mk_lt _ _
theorem DD_le : DD f m x ≤ x := by
  have h : DD f m x ||| x = x := Nat.eq_of_testBit_eq (fun i => by
    rw [Nat.testBit_or, DD_bit]
    cases x.testBit i <;> cases decide (i < m) <;> simp)
  have := Nat.left_le_or (n := DD f m x) (m := x)
  omega
theorem DD_sub : sbt x (DD f m x) = true := by
  refine sbt_iff.2 (fun i _ h => ?_)
  rw [DD_bit] at h
  simp at h
  exact h.2.1
theorem DD_lex {y : Nat} (h8 : m ≤ 8) (hy : y < 2 ^ m) (hs : sbt x y = true) (hne : y ≠ DD f m x) : hN f m (DD f m x) < hN f m y ∨ (hN f m (DD f m x) = hN f m y ∧ sz (DD f m x) < sz y) := by
  have hs' : ∀ i, i < 8 → y.testBit i = true → x.testBit i = true := sbt_iff.1 hs
  have hex : ∃ i, i < m ∧ y.testBit i ≠ (DD f m x).testBit i := Classical.byContradiction (fun hc => hne (Nat.eq_of_testBit_eq (fun i => by
    by_cases hi : i < m
    · exact Classical.byContradiction (fun h => hc ⟨i, hi, h⟩)
    · rw [bit_hi hy (by omega), bit_hi DD_lt (by omega)])))
  have pt : ∀ i, i < m → (100 * (if (DD f m x).testBit i then f i 0 else f i 3) + (if (DD f m x).testBit i then 1 else 0) ≤ 100 * (if y.testBit i then f i 0 else f i 3) + (if y.testBit i then 1 else 0)) ∧ (y.testBit i ≠ (DD f m x).testBit i → 100 * (if (DD f m x).testBit i then f i 0 else f i 3) + (if (DD f m x).testBit i then 1 else 0) < 100 * (if y.testBit i then f i 0 else f i 3) + (if y.testBit i then 1 else 0)) := fun i hi => by
    have hd := DD_bit (f := f) (m := m) (x := x) (i := i)
    rw [decide_eq_true hi, Bool.true_and] at hd
    cases hy1 : y.testBit i with
    | true =>
      have hx1 := hs' i (by omega) hy1
      rw [hx1, Bool.true_and] at hd
      by_cases c : f i 0 < f i 3
      · rw [decide_eq_true c] at hd
        rw [hd]
        exact ⟨Nat.le_refl _, fun h => absurd rfl h⟩
      · rw [decide_eq_false c] at hd
        rw [hd]
        simp only [if_true, Bool.false_eq_true, if_false]
        omega
    | false =>
      cases hd1 : (DD f m x).testBit i with
      | false => exact ⟨Nat.le_refl _, fun h => absurd rfl h⟩
      | true =>
        rw [hd1] at hd
        have c : f i 0 < f i 3 := by
          have := hd.symm
          simp at this
          exact this.2
        simp only [if_true, Bool.false_eq_true, if_false]
        omega
  have key := sumN_lt (f := fun i => 100 * (if (DD f m x).testBit i then f i 0 else f i 3) + (if (DD f m x).testBit i then 1 else 0)) (g := fun i => 100 * (if y.testBit i then f i 0 else f i 3) + (if y.testBit i then 1 else 0)) (n := m) (fun i hi => (pt i hi).1) (hex.elim (fun i h => ⟨i, h.1, (pt i h.1).2 h.2⟩))
  rw [sumN_K (f := fun i => if (DD f m x).testBit i then f i 0 else f i 3) (g := (DD f m x).testBit), sumN_K (f := fun i => if y.testBit i then f i 0 else f i 3) (g := y.testBit)] at key
  have e1 : sz (DD f m x) = ctn (DD f m x).testBit m := by
    have := ctn_ext (f := (DD f m x).testBit) (m := m) (fun i hi => bit_hi DD_lt hi) (8 - m)
    rw [show m + (8 - m) = 8 by omega] at this
    exact this
  have e2 : sz y = ctn y.testBit m := by
    have := ctn_ext (f := y.testBit) (m := m) (fun i hi => bit_hi hy hi) (8 - m)
    rw [show m + (8 - m) = 8 by omega] at this
    exact this
  have b1 := ctn_le (DD f m x).testBit m
  have b2 := ctn_le y.testBit m
  unfold hN
  rw [e1, e2]
  omega
theorem pBs_D {H : Nat → Int32} (h8 : m ≤ 8) (hx : x < 2 ^ m) (hH : ∀ y, y ≤ x → H y = nI (hN f m y)) (hb : ∀ y, hN f m y < 2 ^ 31) : ∀ j, j ≤ x → sbt x (pBs H x j).1 = true ∧ (pBs H x j).2 = H (pBs H x j).1 ∧ (DD f m x ≤ j → (pBs H x j).1 = DD f m x)
  | 0, _ => ⟨by
      unfold pBs
      exact sbt_iff.2 (fun i _ h => by rw [Nat.zero_testBit] at h; exact absurd h (by decide)), rfl, fun h => by
      show 0 = _
      omega⟩
  | j + 1, hj => by
    obtain ⟨i1, i2, i3⟩ := pBs_D h8 hx hH hb j (by omega)
    have hle := pBs_le (H := H) (x := x) j
    have szb : ∀ y, sz y < 2 ^ 31 := fun y => Nat.lt_of_le_of_lt (ctn_le _ 8) (by decide)
    by_cases hs : sbt x (j + 1) = true
    · by_cases hc : H (j + 1) < (pBs H x j).2 ∨ (H (j + 1) = (pBs H x j).2 ∧ nI (sz (j + 1)) < nI (sz (pBs H x j).1))
      · have e : pBs H x (j + 1) = (j + 1, H (j + 1)) := by rw [pBs, if_pos ⟨hs, hc⟩]
        rw [e]
        refine ⟨hs, rfl, fun hd => ?_⟩
        show j + 1 = _
        apply Classical.byContradiction
        intro hne
        have hd2 : DD f m x ≤ j := by
          have : DD f m x ≠ j + 1 := fun h => hne h.symm
          omega
        have i3' := i3 hd2
        have lex := DD_lex (f := f) (y := j + 1) h8 (by omega) hs hne
        rw [i2, i3', hH (j + 1) hj, hH _ DD_le, nI_ltI (hb _) (hb _), nI_eq (hb _) (hb _), nI_ltI (szb _) (szb _)] at hc
        omega
      · have e : pBs H x (j + 1) = pBs H x j := by rw [pBs, if_neg (fun h => hc h.2)]
        rw [e]
        refine ⟨i1, i2, fun hd => ?_⟩
        by_cases hd2 : DD f m x ≤ j
        · exact i3 hd2
        · exfalso
          have hD : DD f m x = j + 1 := by omega
          have lex := DD_lex (f := f) (x := x) (y := (pBs H x j).1) h8 (by omega) i1 (by omega)
          rw [i2, hH (j + 1) hj, hH _ (by omega : (pBs H x j).1 ≤ x), nI_ltI (hb _) (hb _), nI_eq (hb _) (hb _), nI_ltI (szb _) (szb _)] at hc
          rw [hD] at lex
          omega
    · have e : pBs H x (j + 1) = pBs H x j := by rw [pBs, if_neg (fun h => hs h.1)]
      rw [e]
      refine ⟨i1, i2, fun hd => ?_⟩
      by_cases hd2 : DD f m x ≤ j
      · exact i3 hd2
      · exfalso
        have hD : DD f m x = j + 1 := by omega
        exact hs (by rw [← hD]; exact DD_sub)
end PUR
theorem plan_eq {E : ENV} {t : Int32} {ks ps : Nat → Int32} {m h x : Nat} {M : Nat → Nat → PS} (hE : EOK E) (hW : WT9 E) (hG : ∀ s, s < m → GV (M s) E.n) (hps : ∀ s, s < m → ∃ v : Nat, v < 10000 ∧ ps s = nI v) (hm : m ≤ 8) (hx : x < 2 ^ m) : (pBs (fun y => hbS E t ks ps m y 0 h M) x x).1 = mk (fun s => x.testBit s && decide (aheadF E t (ks s) (ps s) 0 h (M s) < aheadF E t (ks s) (ps s) 3 h (M s))) m := by
  have hx1 : ∀ s w, ∃ x : Nat, s < m → x ≤ 144 ∧ aheadF E t (ks s) (ps s) w h (M s) = nI x := fun s w => by
    by_cases hs : s < m
    · obtain ⟨v, hv, e⟩ := hps s hs
      rw [e]
      obtain ⟨x, h1, h2⟩ := aheadF_b (t := t) (k := ks s) (w := w) (h := h) hE hW (hG s hs) hv
      exact ⟨x, fun _ => ⟨h1, h2⟩⟩
    · exact ⟨0, fun h => absurd h hs⟩
  have hx2 : ∃ f : Nat → Nat → Nat, ∀ s w, s < m → f s w ≤ 144 ∧ aheadF E t (ks s) (ps s) w h (M s) = nI (f s w) := ⟨fun s w => (hx1 s w).choose, fun s w => (hx1 s w).choose_spec⟩
  obtain ⟨f, hf⟩ := hx2
  have hb : ∀ y, hN f m y < 2 ^ 31 := fun y => by
    have : hN f m y ≤ 144 * m := sumN_le (fun i hi => by
      split
      · exact (hf i 0 hi).1
      · exact (hf i 3 hi).1)
    omega
  have hH : ∀ y, y ≤ x → hbS E t ks ps m y 0 h M = nI (hN f m y) := fun y _ => by
    unfold hbS hN
    refine sumA_nI (fun i hi => ?_)
    show aheadF E t (ks i) (ps i) (if y.testBit i then 0 else 3) h (M i) = _
    cases y.testBit i with
    | true => exact (hf i 0 hi).2
    | false => exact (hf i 3 hi).2
  have key := (pBs_D (f := f) hm hx hH hb x (Nat.le_refl _)).2.2 DD_le
  rw [key]
  unfold DD
  refine mk_cong (fun i hi => ?_)
  rw [(hf i 0 hi).2, (hf i 3 hi).2]
  have b1 := (hf i 0 hi).1
  have b2 := (hf i 3 hi).1
  have : (nI (f i 0) < nI (f i 3)) = (f i 0 < f i 3) := propext (nI_ltI (by omega) (by omega))
  simp only [this]
