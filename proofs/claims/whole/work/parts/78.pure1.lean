/-! harms as plain numbers; which wording -/
def WT9 (E : ENV) : Prop := ∀ w, w < 10 → ∃ k : Nat, k ≤ 9 ∧ E.wt w = nI k
def sumN (f : Nat → Nat) : Nat → Nat
  | 0 => 0
  | i + 1 => sumN f i + f i
theorem sumN_cong {f g : Nat → Nat} : ∀ {n : Nat}, (∀ i, i < n → f i = g i) → sumN f n = sumN g n
  | 0, _ => rfl
  | n + 1, h => by unfold sumN; rw [sumN_cong (fun i hi => h i (by omega)), h n (by omega)]
theorem sumN_le {f : Nat → Nat} {c : Nat} : ∀ {n : Nat}, (∀ i, i < n → f i ≤ c) → sumN f n ≤ c * n
  | 0, _ => Nat.le_refl 0
  | n + 1, h => by
    have h1 := sumN_le (n := n) (fun i hi => h i (by omega))
    have h2 := h n (by omega)
    unfold sumN
    rw [Nat.mul_succ]
    omega
theorem sumA_nI {F : Nat → Int32} {f : Nat → Nat} : ∀ {n : Nat}, (∀ i, i < n → F i = nI (f i)) → sumA F n = nI (sumN f n)
  | 0, _ => rfl
  | n + 1, h => by unfold sumA sumN; rw [sumA_nI (fun i hi => h i (by omega)), h n (by omega), nI_add]
theorem sumN_at {f : Nat → Nat} {s u : Nat} : ∀ {n : Nat}, s < n → sumN (fun i => if i = s then u else f i) n = u + sumN (fun i => if i = s then 0 else f i) n
  | 0, h => by omega
  | n + 1, h => by
    unfold sumN
    by_cases e : n = s
    · have e1 : ∀ i, i < n → (if i = s then u else f i) = (if i = s then 0 else f i) := fun i hi => by rw [if_neg (by omega), if_neg (by omega)]
      rw [sumN_cong e1, if_pos e, if_pos e]
      omega
    · rw [sumN_at (n := n) (by omega), if_neg e, if_neg e]
      omega
theorem harmF_b {E : ENV} {S : Nat → PS} (hW : WT9 E) : ∀ n, GV S n → ∃ k : Nat, k ≤ 9 * n ∧ harmF E S n = nI k
  | 0, _ => ⟨0, by omega, rfl⟩
  | n + 1, hG => by
    obtain ⟨k, hk, e⟩ := harmF_b hW n (fun p hp => hG p (by omega))
    unfold harmF
    by_cases h1 : (S n).st = 1
    · obtain ⟨w, hw, e1, e2⟩ := wt_of hG (by omega) h1
      obtain ⟨k2, hk2, e3⟩ := hW w hw
      refine ⟨k + k2, by omega, ?_⟩
      rw [if_pos h1, e]
      unfold wtOf
      rw [e2, e3, nI_add]
    · refine ⟨k, by omega, ?_⟩
      rw [if_neg h1, e]
      exact Int32.add_zero _
theorem aheadF_b {E : ENV} {t k : Int32} {v w h : Nat} {S : Nat → PS} (hE : EOK E) (hW : WT9 E) (hG : GV S E.n) (hv : v < 10000) : ∃ x : Nat, x ≤ 144 ∧ aheadF E t k (nI v) w h S = nI x := by
  have hn := hE.n
  unfold aheadF
  split
  · exact ⟨0, by omega, rfl⟩
  · have g : GV (itH E t (if w = 3 then S else prtF E t (nI v) w S) h) E.n := by
      refine GV_it hE ?_ h
      split
      · exact hG
      · exact GV_prt hv hG
    obtain ⟨x, hx, e⟩ := harmF_b hW E.n g
    exact ⟨x, by omega, e⟩
theorem wB_shift {F F' : Nat → Int32} {f : Nat → Nat} {R : Nat} (h : ∀ w, w < 4 → F w = nI (f w) ∧ F' w = nI (f w + R)) (hb : ∀ w, w < 4 → f w + R < 2 ^ 31) : ∀ i, i ≤ 3 → (wB F' i).1 = (wB F i).1 ∧ ∃ w, w < 4 ∧ (wB F i).2 = nI (f w) ∧ (wB F' i).2 = nI (f w + R)
  | 0, _ => ⟨rfl, 3, by omega, (h 3 (by omega)).1, (h 3 (by omega)).2⟩
  | i + 1, hi => by
    obtain ⟨e, w, hw, e1, e2⟩ := wB_shift h hb i (by omega)
    obtain ⟨g1, g2⟩ := h i (by omega)
    have b1 := hb i (by omega)
    have b2 := hb w hw
    unfold wB
    rw [e1, e2, g1, g2]
    by_cases c : f i < f w
    · have c1 : nI (f i) < nI (f w) := nI_lt c (by omega)
      have c2 : nI (f i + R) < nI (f w + R) := nI_lt (by omega) (by omega)
      rw [if_pos c1, if_pos c2]
      exact ⟨rfl, i, by omega, rfl, rfl⟩
    · have c1 : ¬ nI (f i) < nI (f w) := nI_nlt (by omega) (by omega)
      have c2 : ¬ nI (f i + R) < nI (f w + R) := nI_nlt (by omega) (by omega)
      rw [if_neg c1, if_neg c2]
      exact ⟨e, w, hw, e1, e2⟩
theorem wB_eq {E : ENV} {t : Int32} {ks ps : Nat → Int32} {m h s : Nat} {M : Nat → Nat → PS} (hE : EOK E) (hW : WT9 E) (hG : ∀ s, s < m → GV (M s) E.n) (hps : ∀ s, s < m → ∃ v : Nat, v < 10000 ∧ ps s = nI v) (hs : s < m) (hm : m ≤ 8) : (wB (fun w => if w = 3 then hbS E t ks ps m 0 0 h M else hbS E t ks ps m (2 ^ s) w h M) 3).1 = (wB (fun w => aheadF E t (ks s) (ps s) w h (M s)) 3).1 := by
  have hx : ∀ s w, ∃ x : Nat, s < m → x ≤ 144 ∧ aheadF E t (ks s) (ps s) w h (M s) = nI x := fun s w => by
    by_cases hs : s < m
    · obtain ⟨v, hv, e⟩ := hps s hs
      rw [e]
      obtain ⟨x, h1, h2⟩ := aheadF_b (t := t) (k := ks s) (w := w) (h := h) hE hW (hG s hs) hv
      exact ⟨x, fun _ => ⟨h1, h2⟩⟩
    · exact ⟨0, fun h => absurd h hs⟩
  have hx2 : ∃ f : Nat → Nat → Nat, ∀ s w, s < m → f s w ≤ 144 ∧ aheadF E t (ks s) (ps s) w h (M s) = nI (f s w) := ⟨fun s w => (hx s w).choose, fun s w => (hx s w).choose_spec⟩
  obtain ⟨f, hf⟩ := hx2
  have hR : sumN (fun i => if i = s then 0 else f i 3) m ≤ 144 * m := sumN_le (fun i hi => by
    split
    · omega
    · exact (hf i 3 hi).1)
  refine (wB_shift (f := f s) (R := sumN (fun i => if i = s then 0 else f i 3) m) (fun w hw => ⟨(hf s w hs).2, ?_⟩) (fun w hw => ?_) 3 (Nat.le_refl _)).1
  · show (if w = 3 then hbS E t ks ps m 0 0 h M else hbS E t ks ps m (2 ^ s) w h M) = _
    rw [← sumN_at (f := fun i => f i 3) hs]
    by_cases h3 : w = 3
    · rw [if_pos h3, h3]
      unfold hbS
      refine sumA_nI (fun i hi => ?_)
      show aheadF E t (ks i) (ps i) (if (0 : Nat).testBit i then 0 else 3) h (M i) = _
      rw [Nat.zero_testBit, if_neg (by decide), (hf i 3 hi).2]
      by_cases e : i = s
      · rw [if_pos e, e]
      · rw [if_neg e]
    · rw [if_neg h3]
      unfold hbS
      refine sumA_nI (fun i hi => ?_)
      show aheadF E t (ks i) (ps i) (if (2 ^ s).testBit i then w else 3) h (M i) = _
      rw [Nat.testBit_two_pow]
      by_cases e : i = s
      · rw [decide_eq_true e.symm, if_pos rfl, if_pos e, (hf i w hi).2, e]
      · rw [decide_eq_false (fun h => e h.symm), if_neg (by decide), if_neg e, (hf i 3 hi).2]
  · have := (hf s w hs).1
    omega
