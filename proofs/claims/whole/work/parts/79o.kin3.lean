/-! the nearest pair -/
def stp (D : Nat → Nat → Nat) (hs : Nat → Bool) (i j : Nat) (t : (Int32 × Int32 × Int32)) : (Int32 × Int32 × Int32) := if hs i = false ∧ hs j = true ∧ nI (D i j) < t.1 then (nI (D i j), nI i, nI j) else t
def inn (D : Nat → Nat → Nat) (hs : Nat → Bool) (i : Nat) : Nat → (Int32 × Int32 × Int32) → (Int32 × Int32 × Int32)
  | 0, t => t
  | j + 1, t => stp D hs i j (inn D hs i j t)
def out (D : Nat → Nat → Nat) (hs : Nat → Bool) (k : Nat) : Nat → (Int32 × Int32 × Int32) → (Int32 × Int32 × Int32)
  | 0, t => t
  | i + 1, t => inn D hs i k (out D hs k i t)
theorem inn_t {D : Nat → Nat → Nat} {hs : Nat → Bool} {i : Nat} {t : (Int32 × Int32 × Int32)} (h : hs i = true) : ∀ j, inn D hs i j t = t
  | 0 => rfl
  | j + 1 => by
    unfold inn
    rw [inn_t h j]
    unfold stp
    rw [if_neg (fun c => by rw [h] at c; exact absurd c.1 (by decide))]
def FR (hs : Nat → Bool) (k : Nat) (t t' : (Int32 × Int32 × Int32)) : Prop := ∃ e x y : Nat, t = (nI e, nI x, nI y) ∧ t' = t ∧ x < k ∧ y < k ∧ hs x = false ∧ e ≤ 4
def S0 (t t' : (Int32 × Int32 × Int32)) : Prop := t = (5, 0, 0) ∧ t' = (100, -4, -4)
section NJ
variable {D : Nat → Nat → Nat} {hs : Nat → Bool} {k : Nat}
theorem stp_A {i j : Nat} {t t' : (Int32 × Int32 × Int32)} (hD : ∀ i j, D i j ≤ 4) (hi : i < k) (hj : j < k) (h : FR hs k t t') : FR hs k (stp D hs i j t) (stp D hs i j t') := by
  obtain ⟨e, x, y, rfl, rfl, hx, hy, h1, h2⟩ := h
  unfold stp
  by_cases c : hs i = false ∧ hs j = true ∧ nI (D i j) < nI e
  · rw [if_pos c]
    exact ⟨D i j, i, j, rfl, rfl, hi, hj, c.1, hD i j⟩
  · rw [if_neg c]
    exact ⟨e, x, y, rfl, rfl, hx, hy, h1, h2⟩
theorem stp_B {i j : Nat} {t t' : (Int32 × Int32 × Int32)} (hD : ∀ i j, D i j ≤ 4) (hi : i < k) (hj : j < k) (h : S0 t t') : (S0 (stp D hs i j t) (stp D hs i j t') ∧ ¬ (hs i = false ∧ hs j = true)) ∨ FR hs k (stp D hs i j t) (stp D hs i j t') := by
  obtain ⟨rfl, rfl⟩ := h
  have hd := hD i j
  unfold stp
  by_cases c : hs i = false ∧ hs j = true
  · have c1 : nI (D i j) < (5 : Int32) := nI_lt (b := 5) (by omega) (by decide)
    have c2 : nI (D i j) < (100 : Int32) := nI_lt (b := 100) (by omega) (by decide)
    rw [if_pos (show hs i = false ∧ hs j = true ∧ nI (D i j) < (5 : Int32) from ⟨c.1, c.2, c1⟩), if_pos (show hs i = false ∧ hs j = true ∧ nI (D i j) < (100 : Int32) from ⟨c.1, c.2, c2⟩)]
    exact Or.inr ⟨D i j, i, j, rfl, rfl, hi, hj, c.1, hd⟩
  · rw [if_neg (fun h => c ⟨h.1, h.2.1⟩), if_neg (fun h => c ⟨h.1, h.2.1⟩)]
    exact Or.inl ⟨⟨rfl, rfl⟩, c⟩
theorem inn_A {i : Nat} (hD : ∀ i j, D i j ≤ 4) (hi : i < k) : ∀ j, j ≤ k → ∀ {t t' : (Int32 × Int32 × Int32)}, FR hs k t t' → FR hs k (inn D hs i j t) (inn D hs i j t')
  | 0, _, _, _, h => h
  | j + 1, hj, _, _, h => stp_A hD hi (by omega) (inn_A hD hi j (by omega) h)
theorem inn_B {i : Nat} (hD : ∀ i j, D i j ≤ 4) (hi : i < k) : ∀ j, j ≤ k → ∀ {t t' : (Int32 × Int32 × Int32)}, S0 t t' → (S0 (inn D hs i j t) (inn D hs i j t') ∧ ∀ j', j' < j → ¬ (hs i = false ∧ hs j' = true)) ∨ FR hs k (inn D hs i j t) (inn D hs i j t')
  | 0, _, _, _, h => Or.inl ⟨h, fun j' hj' => by omega⟩
  | j + 1, hj, _, _, h => by
    rcases inn_B hD hi j (by omega) h with ⟨h1, h2⟩ | h1
    · rcases stp_B hD hi (show j < k by omega) h1 with ⟨h3, h4⟩ | h3
      · refine Or.inl ⟨h3, fun j' hj' => ?_⟩
        by_cases e : j' = j
        · rw [e]; exact h4
        · exact h2 j' (by omega)
      · exact Or.inr h3
    · exact Or.inr (stp_A hD hi (by omega) h1)
theorem out_B (hD : ∀ i j, D i j ≤ 4) : ∀ i, i ≤ k → (S0 (out D hs k i (5, 0, 0)) (out D hs k i (100, -4, -4)) ∧ ∀ i', i' < i → ∀ j', j' < k → ¬ (hs i' = false ∧ hs j' = true)) ∨ FR hs k (out D hs k i (5, 0, 0)) (out D hs k i (100, -4, -4))
  | 0, _ => Or.inl ⟨⟨rfl, rfl⟩, fun i' hi' => by omega⟩
  | i + 1, hi => by
    rcases out_B hD i (by omega) with ⟨h1, h2⟩ | h1
    · rcases inn_B (i := i) hD (by omega) k (Nat.le_refl _) h1 with ⟨h3, h4⟩ | h3
      · refine Or.inl ⟨h3, fun i' hi' => ?_⟩
        by_cases e : i' = i
        · rw [e]; exact h4
        · exact h2 i' (by omega)
      · exact Or.inr h3
    · exact Or.inr (inn_A hD (by omega) k (Nat.le_refl _) h1)
theorem out_ex (hD : ∀ i j, D i j ≤ 4) (h : ∃ i, i < k ∧ hs i = false) (h2 : ∃ j, j < k ∧ hs j = true) : FR hs k (out D hs k k (5, 0, 0)) (out D hs k k (100, -4, -4)) := by
  obtain ⟨i, hi, e1⟩ := h
  obtain ⟨j, hj, e2⟩ := h2
  rcases out_B (hs := hs) hD k (Nat.le_refl _) with ⟨_, h4⟩ | h3
  · exact absurd ⟨e1, e2⟩ (h4 i hi j hj)
  · exact h3
end NJ
/-- the joining, turn by turn: who is joined, to whom, the sum -/
def jnS (D : Nat → Nat → Nat) (c : Nat) : Nat → (Nat → Bool) × (Nat → Int32) × Int32
  | 0 => (fun i => decide (i = 0), fun _ => -4, 0)
  | n + 1 => (fun i => (jnS D c n).1 i || decide (i = (out D (jnS D c n).1 c c (5, 0, 0)).2.1.toNatClampNeg), upd (jnS D c n).2.1 (out D (jnS D c n).1 c c (5, 0, 0)).2.1.toNatClampNeg (out D (jnS D c n).1 c c (5, 0, 0)).2.2, (jnS D c n).2.2 + (out D (jnS D c n).1 c c (5, 0, 0)).1)
theorem ctn_full {f : Nat → Bool} : ∀ n, (∀ i, i < n → f i = true) → ctn f n = n
  | 0, _ => rfl
  | n + 1, h => by rw [ctn, ctn_full n (fun i hi => h i (by omega)), h n (by omega)]; rfl
theorem ctn_add {f : Nat → Bool} {x : Nat} (hx : f x = false) : ∀ n, ctn (fun i => f i || decide (i = x)) n = ctn f n + (if x < n then 1 else 0)
  | 0 => rfl
  | n + 1 => by
    rw [ctn, ctn, ctn_add hx n]
    by_cases e : n = x
    · subst e
      rw [hx]
      simp
    · have h1 : decide (n = x) = false := decide_eq_false e
      rw [h1, Bool.or_false]
      by_cases c : x < n
      · rw [if_pos c, if_pos (show x < n + 1 by omega)]; omega
      · rw [if_neg c, if_neg (show ¬ x < n + 1 by omega)]; omega
theorem ctn_none : ∀ n, ctn (fun _ => false) n = 0
  | 0 => rfl
  | n + 1 => by rw [ctn, ctn_none n]; rfl
theorem jn_0 {D : Nat → Nat → Nat} {c : Nat} : ∀ n, (jnS D c n).1 0 = true
  | 0 => rfl
  | n + 1 => by
    show ((jnS D c n).1 0 || _) = true
    rw [jn_0 n, Bool.true_or]
/-- what a turn finds, from either start -/
theorem jn_fr {D : Nat → Nat → Nat} {c n : Nat} (hD : ∀ i j, D i j ≤ 4) (hc : c < 2 ^ 31) (hn : n + 1 < c) (h1 : ctn (jnS D c n).1 c = n + 1) : ∃ e x y : Nat, out D (jnS D c n).1 c c (5, 0, 0) = (nI e, nI x, nI y) ∧ out D (jnS D c n).1 c c (100, -4, -4) = (nI e, nI x, nI y) ∧ x < c ∧ y < c ∧ (jnS D c n).1 x = false ∧ e ≤ 4 ∧ jnS D c (n + 1) = (fun i => (jnS D c n).1 i || decide (i = x), upd (jnS D c n).2.1 x (nI y), (jnS D c n).2.2 + nI e) := by
  have hex : ∃ i, i < c ∧ (jnS D c n).1 i = false := by
    rcases first_of (fun i => !(jnS D c n).1 i) c with h3 | ⟨i, hi, h3, _⟩
    · have := ctn_full (f := (jnS D c n).1) c (fun i hi => by simpa using h3 i hi)
      omega
    · exact ⟨i, hi, by simpa using h3⟩
  obtain ⟨e, x, y, e1, e2, hx, hy, e3, e4⟩ := out_ex (hs := (jnS D c n).1) hD hex ⟨0, by omega, jn_0 n⟩
  refine ⟨e, x, y, e1, e2.trans e1, hx, hy, e3, e4, ?_⟩
  rw [jnS, e1]
  have hcx : (nI x).toNatClampNeg = x := nI_clamp (by omega)
  show (fun i => (jnS D c n).1 i || decide (i = (nI x).toNatClampNeg), upd (jnS D c n).2.1 (nI x).toNatClampNeg (nI y), (jnS D c n).2.2 + nI e) = _
  rw [hcx]
theorem jn_ct {D : Nat → Nat → Nat} {c : Nat} (hD : ∀ i j, D i j ≤ 4) (hc : c < 2 ^ 31) : ∀ n, n < c → ctn (jnS D c n).1 c = n + 1
  | 0, h => by
    show ctn (fun i => decide (i = 0)) c = 1
    have := ctn_add (f := fun _ => false) (x := 0) rfl c
    simp only [Bool.false_or] at this
    rw [this, if_pos h, ctn_none]
  | n + 1, h => by
    obtain ⟨e, x, y, _, _, hx, _, e3, _, e5⟩ := jn_fr hD hc h (jn_ct hD hc n (by omega))
    rw [e5]
    show ctn (fun i => (jnS D c n).1 i || decide (i = x)) c = _
    rw [ctn_add e3 c, if_pos hx, jn_ct hD hc n (by omega)]
theorem ctn_lt {f : Nat → Bool} {i : Nat} (h : f i = false) : ∀ n, i < n → ctn f n < n
  | 0, hi => by omega
  | n + 1, hi => by
    rw [ctn]
    by_cases e : i = n
    · subst e
      rw [h]
      have := ctn_le f i
      simp
      omega
    · have := ctn_lt h n (by omega)
      split <;> omega
/-- at the end all are joined -/
theorem jn_all {D : Nat → Nat → Nat} {c : Nat} (hD : ∀ i j, D i j ≤ 4) (hc : c < 2 ^ 31) (h0 : 0 < c) : ∀ i, i < c → (jnS D c (c - 1)).1 i = true := fun i hi => by
  cases h : (jnS D c (c - 1)).1 i with
  | true => rfl
  | false =>
    have h1 := jn_ct hD hc (c - 1) (by omega)
    have h2 := ctn_lt h c hi
    omega
