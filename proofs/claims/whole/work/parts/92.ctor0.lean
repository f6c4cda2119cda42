/-! the cells as the constructors make them: lists of references -/
def qlsr : List (Option Nat) → Nat → Option Nat → List (Option Nat)
  | [], 0, v => [v]
  | _ :: t, 0, v => v :: t
  | [], j + 1, v => none :: qlsr [] j v
  | x :: t, j + 1, v => x :: qlsr t j v
def qrow : List (List (Option Nat)) → Nat → List (Option Nat) → List (List (Option Nat))
  | [], 0, x => [x]
  | _ :: t, 0, x => x :: t
  | [], k + 1, x => [] :: qrow [] k x
  | l :: t, k + 1, x => l :: qrow t k x
def qls2 (R : List (List (Option Nat))) (k j : Nat) (v : Option Nat) : List (List (Option Nat)) := qrow R k (qlsr (R.getD k []) j v)
def qdR (R : List (List (Option Nat))) : Nat → Nat → Option Nat := fun k j => (R.getD k []).getD j none
theorem qlsr_get : ∀ (l : List (Option Nat)) (j : Nat) (v : Option Nat) (i : Nat), (qlsr l j v).getD i none = if i = j then v else l.getD i none
  | [], 0, v, i => by cases i <;> simp [qlsr]
  | _ :: t, 0, v, i => by cases i <;> simp [qlsr]
  | [], j + 1, v, i => by
    cases i with
    | zero => simp [qlsr]
    | succ i =>
      rw [qlsr, List.getD_cons_succ, qlsr_get [] j v i]
      simp
  | x :: t, j + 1, v, i => by
    cases i with
    | zero => simp [qlsr]
    | succ i =>
      rw [qlsr, List.getD_cons_succ, List.getD_cons_succ, qlsr_get t j v i]
      simp
theorem qrow_get : ∀ (R : List (List (Option Nat))) (k : Nat) (x : List (Option Nat)) (q : Nat), (qrow R k x).getD q [] = if q = k then x else R.getD q []
  | [], 0, v, i => by cases i <;> simp [qrow]
  | _ :: t, 0, v, i => by cases i <;> simp [qrow]
  | [], j + 1, v, i => by
    cases i with
    | zero => simp [qrow]
    | succ i =>
      rw [qrow, List.getD_cons_succ, qrow_get [] j v i]
      simp
  | x :: t, j + 1, v, i => by
    cases i with
    | zero => simp [qrow]
    | succ i =>
      rw [qrow, List.getD_cons_succ, List.getD_cons_succ, qrow_get t j v i]
      simp
theorem qrow_len : ∀ (R : List (List (Option Nat))) (k : Nat) (x : List (Option Nat)) (n : Nat), k < n → R.length ≤ n → (qrow R k x).length ≤ n
  | [], 0, v, n => fun h _ => by simp only [qrow, List.length_cons, List.length_nil]; omega
  | _ :: t, 0, v, n => fun _ h => by simp only [qrow, List.length_cons] at h ⊢; omega
  | [], j + 1, v, n => fun h _ => by
    have := qrow_len [] j v (n - 1) (by omega) (by simp)
    simp only [qrow, List.length_cons]; omega
  | x :: t, j + 1, v, n => fun h h2 => by
    simp only [List.length_cons] at h2
    have := qrow_len t j v (n - 1) (by omega) (by omega)
    simp only [qrow, List.length_cons]; omega
section CT0
variable {R : List (List (Option Nat))} {k j n m : Nat} {v : Option Nat} {a : Nat → Nat → Int32} {L : Nat}
theorem qls2_len (hk : k < n) (h : R.length ≤ n) : (qls2 R k j v).length ≤ n := qrow_len _ _ _ _ hk h
theorem upR_dR : am_upR (qdR R) k j v = qdR (qls2 R k j v) := by
  funext q i
  unfold am_upR qdR qls2 va_up
  rw [qrow_get]
  by_cases c : q = k
  · subst c
    rw [if_pos rfl, if_pos rfl, qlsr_get]
  · rw [if_neg c, if_neg c]
theorem rowR0 (h : R.length ≤ n) : am_rowR (qdR R) n (fun _ => none) = qdR R := by
  funext q i
  unfold am_rowR
  by_cases c : q = n
  · subst c
    rw [if_pos rfl]
    unfold qdR
    rw [show R.getD q [] = [] from by rw [List.getD_eq_getElem?_getD, List.getElem?_eq_none h]; rfl]
    rfl
  · rw [if_neg c]
theorem row0 (h : a n = fun _ => 0) : am_row a n (fun _ => 0) = a := by
  funext q
  unfold am_row
  by_cases c : q = n
  · subst c
    rw [if_pos rfl, h]
  · rw [if_neg c]
theorem mnR (h : R.length ≤ n) : (fun q => if q = n then (fun j => if j < m then some (n + 1 + j) else none) else if n < q then (fun _ => none) else qdR R q) = qdR (qrow R n ((List.range m).map (fun j => some (n + 1 + j)))) := by
  funext q i
  unfold qdR
  rw [qrow_get]
  by_cases c : q = n
  · subst c
    rw [if_pos rfl, if_pos rfl]
    by_cases ci : i < m
    · rw [if_pos ci, List.getD_eq_getElem?_getD, List.getElem?_map, List.getElem?_range ci]
      rfl
    · rw [if_neg ci, List.getD_eq_getElem?_getD, List.getElem?_eq_none (by simp; omega)]
      rfl
  · rw [if_neg c, if_neg c]
    by_cases c2 : n < q
    · rw [if_pos c2, show R.getD q [] = [] from by rw [List.getD_eq_getElem?_getD, List.getElem?_eq_none (by omega)]; rfl]
      rfl
    · rw [if_neg c2]
theorem mnA (h : ∀ q, n ≤ q → a q = fun _ => 0) : (fun q => if n ≤ q then (fun _ => 0) else a q) = a := by
  funext q
  by_cases c : n ≤ q
  · rw [if_pos c, h q c]
  · rw [if_neg c]
theorem am_up_z {q : Nat} {x : Int32} (h : ∀ q, n ≤ q → a q = fun _ => 0) (hk : k < n) (hq : n ≤ q) : am_up a k j x q = fun _ => 0 := by
  unfold am_up
  rw [if_neg (by omega), h q hq]
theorem tkl (h : n ≤ 163) : (List.take n (CT L)).length = n := by
  rw [List.length_take]
  exact Nat.min_eq_left (show n ≤ 163 from h)
theorem tka {t : Nat × Nat} (h : (CT L)[n]? = some t) : List.take n (CT L) ++ [t] = List.take (n + 1) (CT L) := by
  rw [List.take_add_one, h]
  rfl
theorem nwl {p : Prop} [Decidable p] (h : decide p = false) : ¬ p := of_decide_eq_false h
theorem inb_of {i : Int32} {n : Nat} (m : Nat) (e : n = m) (h : decide (i < 0 ∨ m ≤ i.toNatClampNeg) = false) : inb i n := by
  subst e
  exact of_decide_eq_false h
theorem hi0_z {xs : Nat → Int32} {q : Nat} (h : 12 ≤ q) : hi0 xs q = fun _ => 0 := by
  obtain ⟨p, rfl⟩ : ∃ p, q = p + 12 := ⟨q - 12, by omega⟩
  rfl
end CT0
