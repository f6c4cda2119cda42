theorem am_fc {α : Type} {p : α → Prop} {a : α} {l : List α} (h : p a) (t : ∀ x ∈ l, p x) : ∀ x ∈ a :: l, p x := List.forall_mem_cons.mpr ⟨h, t⟩
theorem am_fn {α : Type} {p : α → Prop} : ∀ x ∈ ([] : List α), p x := fun _ h => absurd h List.not_mem_nil
theorem am_fa {α : Type} {p : α → Prop} {a b : List α} (h : ∀ x ∈ a, p x) (t : ∀ x ∈ b, p x) : ∀ x ∈ a ++ b, p x := fun x hx => (List.mem_append.mp hx).elim (h x) (t x)
theorem am_tab (pc : Nat) (offs : Array Int) (ts : List Nat) (h : (List.range ts.length).all (fun i => match offs[i]? with
  | some off => decide ((pc : Int) + off = ((ts.getD i 0 : Nat) : Int))
  | none => false) = true) : ∀ i : Nat, i < ts.length → ∃ off : Int, offs[i]? = some off ∧ (pc : Int) + off = ((ts.getD i 0 : Nat) : Int) := by
  intro i hi
  have := List.all_eq_true.mp h i (List.mem_range.mpr hi)
  split at this
  · rename_i off ho
    exact ⟨off, ho, of_decide_eq_true this⟩
  · cases this
