/-! the guide's text: a plain reader -/
def skp (T : Nat → Nat) (n i : Nat) : Nat := if h : i < n ∧ T i = 32 then skp T n (i + 1) else i
  termination_by n - i
  decreasing_by omega
section SKP
variable {T : Nat → Nat} {n : Nat}
theorem skp_y {i : Nat} (h : i < n) (h2 : T i = 32) : skp T n i = skp T n (i + 1) := by rw [skp, dif_pos ⟨h, h2⟩]
theorem skp_n {i : Nat} (h : ¬ (i < n ∧ T i = 32)) : skp T n i = i := by rw [skp, dif_neg h]
theorem skp_all : ∀ (m i : Nat), n - i = m → i ≤ skp T n i ∧ (i ≤ n → skp T n i ≤ n) ∧ ¬ (skp T n i < n ∧ T (skp T n i) = 32) ∧ (∀ j, i ≤ j → j < skp T n i → j < n ∧ T j = 32)
  | 0, i, hm => by
    have h : ¬ (i < n ∧ T i = 32) := fun h => by omega
    rw [skp_n h]
    exact ⟨Nat.le_refl _, fun h => h, h, fun j h1 h2 => by omega⟩
  | m + 1, i, hm => by
    by_cases h : i < n ∧ T i = 32
    · rw [skp_y h.1 h.2]
      obtain ⟨h1, h2, h3, h4⟩ := skp_all m (i + 1) (by omega)
      refine ⟨by omega, fun _ => h2 (by omega), h3, fun j j1 j2 => ?_⟩
      by_cases e : j = i
      · rw [e]; exact h
      · exact h4 j (by omega) j2
    · rw [skp_n h]
      exact ⟨Nat.le_refl _, fun h => h, h, fun j h1 h2 => by omega⟩
theorem skp_ge {i : Nat} : i ≤ skp T n i := (skp_all _ i rfl).1
theorem skp_le {i : Nat} (h : i ≤ n) : skp T n i ≤ n := (skp_all _ i rfl).2.1 h
theorem skp_skp {i : Nat} : skp T n (skp T n i) = skp T n i := skp_n (skp_all _ i rfl).2.2.1
end SKP
def nxc (T : Nat → Nat) (n i : Nat) : Nat := if skp T n i < n then T (skp T n i) else 0
def tkp (T : Nat → Nat) (n i c : Nat) : Bool := decide (skp T n i < n ∧ T (skp T n i) = c)
def tkI (T : Nat → Nat) (n i c : Nat) : Nat := if tkp T n i c then skp T n i + 1 else skp T n i
def ptN (x : Nat) : Nat := if x = 119 then 0 else if x = 116 then 1 else if x = 110 then 2 else if x = 112 then 3 else 9
def rlN (x : Nat) : Nat := if x = 61 then 0 else if x = 60 then 1 else if x = 62 then 2 else 9
def dgN (x : Nat) : Nat := if 48 ≤ x ∧ x ≤ 57 then x - 48 else 99
def acN (x : Nat) : Nat := if x = 100 then 0 else if x = 104 then 1 else if x = 115 then 2 else 9
def cmV (p r d : Nat) (v : Int32) : Bool := if r = 0 then decide (dg v p = nI d) else if r = 1 then decide (dg v p < nI d) else decide (nI d < dg v p)
/-- could it go on; where; the steps; what it says -/
def pCmp (T : Nat → Nat) (n i : Nat) : Bool × Nat × List Int32 × (Int32 → Bool) :=
  if 4 ≤ ptN (nxc T n i) then (false, skp T n i, [], fun _ => false)
  else if 3 ≤ rlN (nxc T n (skp T n i + 1)) then (false, skp T n (skp T n i + 1), [], fun _ => false)
  else if 10 ≤ dgN (nxc T n (skp T n (skp T n i + 1) + 1)) then (false, skp T n (skp T n (skp T n i + 1) + 1), [], fun _ => false)
  else (true, skp T n (skp T n (skp T n i + 1) + 1) + 1, [nI (100 * ptN (nxc T n i) + 10 * rlN (nxc T n (skp T n i + 1)) + dgN (nxc T n (skp T n (skp T n i + 1) + 1)))], cmV (ptN (nxc T n i)) (rlN (nxc T n (skp T n i + 1))) (dgN (nxc T n (skp T n (skp T n i + 1) + 1))))
def pIn (T : Nat → Nat) (n : Nat) (o : Bool) (f : Nat → Bool × Nat × List Int32 × (Int32 → Bool)) (i : Nat) : Bool × Nat × List Int32 × (Int32 → Bool) :=
  if o && tkp T n i 40 then ((f (tkI T n i 40)).1 && tkp T n (f (tkI T n i 40)).2.1 41, if (f (tkI T n i 40)).1 then tkI T n (f (tkI T n i 40)).2.1 41 else (f (tkI T n i 40)).2.1, (f (tkI T n i 40)).2.2.1, (f (tkI T n i 40)).2.2.2) else pCmp T n i
def pClm (T : Nat → Nat) (n : Nat) (o : Bool) (f : Nat → Bool × Nat × List Int32 × (Int32 → Bool)) (i : Nat) : Bool × Nat × List Int32 × (Int32 → Bool) :=
  if tkp T n i 33 && (pIn T n o f (tkI T n i 33)).1 then (true, (pIn T n o f (tkI T n i 33)).2.1, (pIn T n o f (tkI T n i 33)).2.2.1 ++ [-3], fun v => !(pIn T n o f (tkI T n i 33)).2.2.2 v) else pIn T n o f (tkI T n i 33)
def lpF (T : Nat → Nat) (n c : Nat) (sg : Int32) (op : Bool → Bool → Bool) (f : Nat → Bool × Nat × List Int32 × (Int32 → Bool)) : Nat → Bool × Nat × List Int32 × (Int32 → Bool) → Bool × Nat × List Int32 × (Int32 → Bool)
  | 0, r => (true, skp T n r.2.1, r.2.2.1, r.2.2.2)
  | k + 1, r => if tkp T n r.2.1 c then (if (f (tkI T n r.2.1 c)).1 then lpF T n c sg op f k (true, (f (tkI T n r.2.1 c)).2.1, r.2.2.1 ++ (f (tkI T n r.2.1 c)).2.2.1 ++ [sg], fun v => op (r.2.2.2 v) ((f (tkI T n r.2.1 c)).2.2.2 v)) else (false, (f (tkI T n r.2.1 c)).2.1, r.2.2.1, r.2.2.2)) else (true, skp T n r.2.1, r.2.2.1, r.2.2.2)
def pLp (T : Nat → Nat) (n c : Nat) (sg : Int32) (op : Bool → Bool → Bool) (f : Nat → Bool × Nat × List Int32 × (Int32 → Bool)) (i : Nat) : Bool × Nat × List Int32 × (Int32 → Bool) := if (f i).1 then lpF T n c sg op f 120 (f i) else f i
def pC (T : Nat → Nat) (n : Nat) (o : Bool) (f : Nat → Bool × Nat × List Int32 × (Int32 → Bool)) : Nat → Bool × Nat × List Int32 × (Int32 → Bool) := pLp T n 38 (-1) (fun x y => x && y) (pClm T n o f)
def pT (T : Nat → Nat) (n : Nat) : Nat → Nat → Bool × Nat × List Int32 × (Int32 → Bool)
  | 0 => pLp T n 124 (-2) (fun x y => x || y) (pC T n false (fun i => (false, i, [], fun _ => false)))
  | k + 1 => pLp T n 124 (-2) (fun x y => x || y) (pC T n true (pT T n k))
section GOD
variable {T : Nat → Nat} {n : Nat} {f : Nat → Bool × Nat × List Int32 × (Int32 → Bool)}
/-- a reader goes on, within the text, and takes more signs than it makes steps -/
def GOOD (n : Nat) (f : Nat → Bool × Nat × List Int32 × (Int32 → Bool)) : Prop := ∀ i, i ≤ n → i ≤ (f i).2.1 ∧ (f i).2.1 ≤ n ∧ ((f i).1 = true → i + (f i).2.2.1.length + 1 ≤ (f i).2.1)
theorem tk_t {i c : Nat} (h : tkp T n i c = true) : skp T n i < n ∧ tkI T n i c = skp T n i + 1 ∧ nxc T n i = c := by
  have h2 : skp T n i < n ∧ T (skp T n i) = c := of_decide_eq_true h
  refine ⟨h2.1, by unfold tkI; rw [h, if_pos rfl], by unfold nxc; rw [if_pos h2.1]; exact h2.2⟩
theorem tk_f {i c : Nat} (h : tkp T n i c = false) : tkI T n i c = skp T n i := by unfold tkI; rw [h]; rfl
theorem tkI_ge {i c : Nat} : skp T n i ≤ tkI T n i c := by unfold tkI; split <;> omega
theorem tkI_le {i c : Nat} (h : i ≤ n) : tkI T n i c ≤ n := by
  cases e : tkp T n i c with
  | true => have := tk_t e; omega
  | false => rw [tk_f e]; exact skp_le h
theorem nx_lt {i : Nat} (h : nxc T n i ≠ 0) : skp T n i < n := by
  unfold nxc at h
  by_cases c : skp T n i < n
  · exact c
  · rw [if_neg c] at h; exact absurd rfl h
theorem ptN_0 : ptN 0 = 9 := by decide
theorem rlN_0 : rlN 0 = 9 := by decide
theorem dgN_0 : dgN 0 = 99 := by decide
theorem acN_0 : acN 0 = 9 := by decide
theorem good_cmp : GOOD n (pCmp T n) := fun i hi => by
  have g1 := skp_ge (T := T) (n := n) (i := i)
  have l1 := skp_le (T := T) hi
  unfold pCmp
  by_cases c1 : 4 ≤ ptN (nxc T n i)
  · rw [if_pos c1]
    exact ⟨g1, l1, fun h => absurd (show false = true from h) Bool.false_ne_true⟩
  · rw [if_neg c1]
    have k1 : skp T n i < n := nx_lt (fun h => c1 (by rw [h, ptN_0]; decide))
    have g2 := skp_ge (T := T) (n := n) (i := skp T n i + 1)
    have l2 := skp_le (T := T) (n := n) (i := skp T n i + 1) k1
    by_cases c2 : 3 ≤ rlN (nxc T n (skp T n i + 1))
    · rw [if_pos c2]
      exact ⟨by show i ≤ skp T n (skp T n i + 1); omega, l2, fun h => absurd (show false = true from h) Bool.false_ne_true⟩
    · rw [if_neg c2]
      have k2 : skp T n (skp T n i + 1) < n := nx_lt (fun h => c2 (by rw [h, rlN_0]; decide))
      have g3 := skp_ge (T := T) (n := n) (i := skp T n (skp T n i + 1) + 1)
      have l3 := skp_le (T := T) (n := n) (i := skp T n (skp T n i + 1) + 1) k2
      by_cases c3 : 10 ≤ dgN (nxc T n (skp T n (skp T n i + 1) + 1))
      · rw [if_pos c3]
        exact ⟨by show i ≤ skp T n (skp T n (skp T n i + 1) + 1); omega, l3, fun h => absurd (show false = true from h) Bool.false_ne_true⟩
      · rw [if_neg c3]
        have k3 : skp T n (skp T n (skp T n i + 1) + 1) < n := nx_lt (fun h => c3 (by rw [h, dgN_0]; decide))
        exact ⟨by show i ≤ skp T n (skp T n (skp T n i + 1) + 1) + 1; omega, k3, fun _ => by show i + 1 + 1 ≤ skp T n (skp T n (skp T n i + 1) + 1) + 1; omega⟩
theorem good_in {o : Bool} (hf : o = true → GOOD n f) : GOOD n (pIn T n o f) := fun i hi => by
  unfold pIn
  cases hc : (o && tkp T n i 40) with
  | false => exact good_cmp i hi
  | true =>
    rw [Bool.and_eq_true] at hc
    obtain ⟨t1, t2, _⟩ := tk_t hc.2
    have g1 := skp_ge (T := T) (n := n) (i := i)
    rw [if_pos rfl, t2]
    obtain ⟨h1, h2, h3⟩ := hf hc.1 (skp T n i + 1) (by omega)
    have g2 := skp_ge (T := T) (n := n) (i := (f (skp T n i + 1)).2.1)
    have g3 := tkI_ge (T := T) (n := n) (i := (f (skp T n i + 1)).2.1) (c := 41)
    have l3 := tkI_le (T := T) (c := 41) h2
    cases ho : (f (skp T n i + 1)).1 with
    | false =>
      rw [if_neg (by decide)]
      exact ⟨by show i ≤ (f (skp T n i + 1)).2.1; omega, h2, fun h => absurd h (by simp)⟩
    | true =>
      rw [if_pos rfl]
      have := h3 ho
      refine ⟨by show i ≤ tkI T n (f (skp T n i + 1)).2.1 41; omega, l3, fun h => ?_⟩
      show i + (f (skp T n i + 1)).2.2.1.length + 1 ≤ tkI T n (f (skp T n i + 1)).2.1 41
      omega
theorem good_clm {o : Bool} (hf : o = true → GOOD n f) : GOOD n (pClm T n o f) := fun i hi => by
  have g1 := skp_ge (T := T) (n := n) (i := i)
  have g2 := tkI_ge (T := T) (n := n) (i := i) (c := 33)
  have l2 := tkI_le (T := T) (c := 33) hi
  obtain ⟨h1, h2, h3⟩ := good_in (T := T) hf (tkI T n i 33) l2
  unfold pClm
  cases hc : (tkp T n i 33 && (pIn T n o f (tkI T n i 33)).1) with
  | false =>
    rw [if_neg (by decide)]
    exact ⟨by omega, h2, fun h => by have := h3 h; omega⟩
  | true =>
    rw [Bool.and_eq_true] at hc
    obtain ⟨t1, t2, _⟩ := tk_t hc.1
    rw [if_pos rfl]
    have := h3 hc.2
    refine ⟨by show i ≤ (pIn T n o f (tkI T n i 33)).2.1; omega, h2, fun _ => ?_⟩
    show i + ((pIn T n o f (tkI T n i 33)).2.2.1 ++ [-3]).length + 1 ≤ (pIn T n o f (tkI T n i 33)).2.1
    rw [List.length_append]
    show i + ((pIn T n o f (tkI T n i 33)).2.2.1.length + 1) + 1 ≤ _
    omega
theorem good_lpF {c : Nat} {sg : Int32} {op : Bool → Bool → Bool} (hf : GOOD n f) : ∀ k r i, i + r.2.2.1.length + 1 ≤ r.2.1 → r.2.1 ≤ n → i ≤ (lpF T n c sg op f k r).2.1 ∧ (lpF T n c sg op f k r).2.1 ≤ n ∧ ((lpF T n c sg op f k r).1 = true → i + (lpF T n c sg op f k r).2.2.1.length + 1 ≤ (lpF T n c sg op f k r).2.1)
  | 0, r, i, h1, h2 => by
    have g := skp_ge (T := T) (n := n) (i := r.2.1)
    have l := skp_le (T := T) h2
    unfold lpF
    exact ⟨by show i ≤ skp T n r.2.1; omega, l, fun _ => by show i + r.2.2.1.length + 1 ≤ skp T n r.2.1; omega⟩
  | k + 1, r, i, h1, h2 => by
    have g := skp_ge (T := T) (n := n) (i := r.2.1)
    have l := skp_le (T := T) h2
    unfold lpF
    cases ht : tkp T n r.2.1 c with
    | false =>
      rw [if_neg (by decide)]
      exact ⟨by show i ≤ skp T n r.2.1; omega, l, fun _ => by show i + r.2.2.1.length + 1 ≤ skp T n r.2.1; omega⟩
    | true =>
      obtain ⟨t1, t2, _⟩ := tk_t ht
      rw [if_pos rfl, t2]
      obtain ⟨q1, q2, q3⟩ := hf (skp T n r.2.1 + 1) t1
      cases ho : (f (skp T n r.2.1 + 1)).1 with
      | false =>
        rw [if_neg (by decide)]
        exact ⟨by show i ≤ (f (skp T n r.2.1 + 1)).2.1; omega, q2, fun h => absurd (show false = true from h) Bool.false_ne_true⟩
      | true =>
        rw [if_pos rfl]
        have q4 := q3 ho
        refine good_lpF hf k _ i ?_ q2
        show i + (r.2.2.1 ++ (f (skp T n r.2.1 + 1)).2.2.1 ++ [sg]).length + 1 ≤ (f (skp T n r.2.1 + 1)).2.1
        rw [List.length_append, List.length_append]
        show i + (r.2.2.1.length + (f (skp T n r.2.1 + 1)).2.2.1.length + 1) + 1 ≤ _
        omega
theorem good_lp {c : Nat} {sg : Int32} {op : Bool → Bool → Bool} (hf : GOOD n f) : GOOD n (pLp T n c sg op f) := fun i hi => by
  obtain ⟨h1, h2, h3⟩ := hf i hi
  unfold pLp
  cases ho : (f i).1 with
  | false => rw [if_neg (by decide)]; exact ⟨h1, h2, h3⟩
  | true => rw [if_pos rfl]; exact good_lpF hf 120 (f i) i (h3 ho) h2
theorem good_T : ∀ k, GOOD n (pT T n k)
  | 0 => good_lp (good_lp (good_clm (fun h => absurd h (by decide))))
  | k + 1 => good_lp (good_lp (good_clm (fun _ => good_T k)))
end GOD
