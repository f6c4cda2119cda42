/-! THE SMALL MACHINE: cells are numbered (0 .. 11 were there before), ints and references of a cell apart; one step is a function -/
abbrev am_L : Type := List (Option Value)
abbrev am_H : Type := List (Nat × Nat) × (Nat → Nat → Int32) × (Nat → Nat → Option Nat)
abbrev am_N : Type := Nat × am_L × List Value × am_H
abbrev am_R : Type := am_N ⊕ (Option Value ⊕ (Nat × List Value × Nat × List Value))
abbrev am_O : Type := am_L → List Value → am_H → Option am_R
/-- tags: 0 .. 10 objects of vwCl's classes, 12 a String, 20 int[], 21 boolean[], 22 char[], 23 byte[], 30 int[][], 31 Saying[], 32 Sheet[] -/
def am_up (f : Nat → Nat → Int32) (k j : Nat) (x : Int32) : Nat → Nat → Int32 := fun k' => if k' = k then upd (f k) j x else f k'
def am_upR (f : Nat → Nat → Option Nat) (k j : Nat) (x : Option Nat) : Nat → Nat → Option Nat := fun k' => if k' = k then va_up (f k) j x else f k'
def am_row (f : Nat → Nat → Int32) (k : Nat) (g : Nat → Int32) : Nat → Nat → Int32 := fun k' => if k' = k then g else f k'
def am_rowR (f : Nat → Nat → Option Nat) (k : Nat) (g : Nat → Option Nat) : Nat → Nat → Option Nat := fun k' => if k' = k then g else f k'
def am_nx (pc : Nat) (L : am_L) (S : List Value) (h : am_H) : Option am_R := some (.inl (pc, L, S, h))
/-- what stays of a local when the next one is written: a long goes -/
def am_nl (g : Option Value) : Option Value := match g with
  | some (.long _) => none
  | some (.double _) => none
  | g => g
def am_put : am_L → Nat → Value → am_L
  | [], _, _ => []
  | _ :: t, 0, v => some v :: t
  | g :: t, 1, v => am_nl g :: am_put t 0 v
  | g :: t, i + 2, v => g :: am_put t (i + 1) v
def o_iload (i nx : Nat) : am_O := fun L S h => match L[i]? with
  | some (some (.int x)) => am_nx nx L (.int x :: S) h
  | _ => none
def o_lload (i nx : Nat) : am_O := fun L S h => match L[i]? with
  | some (some (.long x)) => am_nx nx L (.long x :: S) h
  | _ => none
def o_aload (i nx : Nat) : am_O := fun L S h => match L[i]? with
  | some (some (.ref x)) => am_nx nx L (.ref x :: S) h
  | _ => none
def o_istore (i nx : Nat) : am_O := fun L S h => match S with
  | .int x :: S => if i < L.length then am_nx nx (am_put L i (.int x)) S h else none
  | _ => none
def o_astore (i nx : Nat) : am_O := fun L S h => match S with
  | .ref x :: S => if i < L.length then am_nx nx (am_put L i (.ref x)) S h else none
  | _ => none
def o_iinc (i : Nat) (v : Int32) (nx : Nat) : am_O := fun L S h => match L[i]? with
  | some (some (.int x)) => if i < L.length then am_nx nx (am_put L i (.int (x + v))) S h else none
  | _ => none
def o_const (v : Int32) (nx : Nat) : am_O := fun L S h => am_nx nx L (.int v :: S) h
def o_lconst (v : Int64) (nx : Nat) : am_O := fun L S h => am_nx nx L (.long v :: S) h
def o_cref (k nx : Nat) : am_O := fun L S h => am_nx nx L (.ref k :: S) h
def o_dup (nx : Nat) : am_O := fun L S h => match S with
  | .int x :: S => am_nx nx L (.int x :: .int x :: S) h
  | .ref x :: S => am_nx nx L (.ref x :: .ref x :: S) h
  | _ => none
def o_dup2 (nx : Nat) : am_O := fun L S h => match S with
  | .int x :: .ref k :: S => am_nx nx L (.int x :: .ref k :: .int x :: .ref k :: S) h
  | _ => none
def o_pop (nx : Nat) : am_O := fun L S h => match S with
  | .int _ :: S => am_nx nx L S h
  | .ref _ :: S => am_nx nx L S h
  | _ => none
def o_bin (f : Int32 → Int32 → Int32) (nx : Nat) : am_O := fun L S h => match S with
  | .int y :: .int x :: S => am_nx nx L (.int (f x y) :: S) h
  | _ => none
def o_div (f : Int32 → Int32 → Int32) (nx : Nat) : am_O := fun L S h => match S with
  | .int y :: .int x :: S => if y = 0 then none else am_nx nx L (.int (f x y) :: S) h
  | _ => none
def o_un (f : Int32 → Int32) (nx : Nat) : am_O := fun L S h => match S with
  | .int x :: S => am_nx nx L (.int (f x) :: S) h
  | _ => none
def o_i2l (nx : Nat) : am_O := fun L S h => match S with
  | .int x :: S => am_nx nx L (.long x.toInt64 :: S) h
  | _ => none
def o_l2i (nx : Nat) : am_O := fun L S h => match S with
  | .long x :: S => am_nx nx L (.int x.toInt32 :: S) h
  | _ => none
def o_lbin (f : Int64 → Int64 → Int64) (nx : Nat) : am_O := fun L S h => match S with
  | .long y :: .long x :: S => am_nx nx L (.long (f x y) :: S) h
  | _ => none
def o_lsh (f : Int64 → Int32 → Int64) (nx : Nat) : am_O := fun L S h => match S with
  | .int y :: .long x :: S => am_nx nx L (.long (f x y) :: S) h
  | _ => none
def o_lcmp (nx : Nat) : am_O := fun L S h => match S with
  | .long y :: .long x :: S => am_nx nx L (.int (lg_cmp x y) :: S) h
  | _ => none
def o_goto (t : Nat) : am_O := fun L S h => am_nx t L S h
/-- 'c' goes to t, else to nx -/
def o_ifeq (t nx : Nat) : am_O := fun L S h => match S with
  | .int x :: S => if x = 0 then am_nx t L S h else am_nx nx L S h
  | _ => none
def o_iflt (t nx : Nat) : am_O := fun L S h => match S with
  | .int x :: S => if x < 0 then am_nx t L S h else am_nx nx L S h
  | _ => none
def o_ifgt (t nx : Nat) : am_O := fun L S h => match S with
  | .int x :: S => if 0 < x then am_nx t L S h else am_nx nx L S h
  | _ => none
def o_ceq (t nx : Nat) : am_O := fun L S h => match S with
  | .int y :: .int x :: S => if x = y then am_nx t L S h else am_nx nx L S h
  | _ => none
def o_clt (t nx : Nat) : am_O := fun L S h => match S with
  | .int y :: .int x :: S => if x < y then am_nx t L S h else am_nx nx L S h
  | _ => none
def o_cgt (t nx : Nat) : am_O := fun L S h => match S with
  | .int y :: .int x :: S => if y < x then am_nx t L S h else am_nx nx L S h
  | _ => none
/-- a switch from 0 on -/
def o_table (dflt : Nat) (ts : List Nat) : am_O := fun L S h => match S with
  | .int x :: S => if x < 0 ∨ ts.length ≤ x.toNatClampNeg then am_nx dflt L S h else am_nx (ts.getD x.toNatClampNeg 0) L S h
  | _ => none
/-- an array's cell, of a tag, at an index -/
def o_ald (tag nx : Nat) : am_O := fun L S h => match S with
  | .int i :: .ref k :: S => match h.1[k]? with
    | some t => if t.1 = tag then (if i < 0 ∨ t.2 ≤ i.toNatClampNeg then none else am_nx nx L (.int (h.2.1 k i.toNatClampNeg) :: S) h) else none
    | none => none
  | _ => none
def o_ast (tag : Nat) (f : Int32 → Int32) (nx : Nat) : am_O := fun L S h => match S with
  | .int x :: .int i :: .ref k :: S => match h.1[k]? with
    | some t => if t.1 = tag ∧ 12 ≤ k then (if i < 0 ∨ t.2 ≤ i.toNatClampNeg then none else am_nx nx L S (h.1, am_up h.2.1 k i.toNatClampNeg (f x), h.2.2)) else none
    | none => none
  | _ => none
def o_aald (tag nx : Nat) : am_O := fun L S h => match S with
  | .int i :: .ref k :: S => match h.1[k]? with
    | some t => if t.1 = tag ∧ 12 ≤ k then (if i < 0 ∨ t.2 ≤ i.toNatClampNeg then none else match h.2.2 k i.toNatClampNeg with
      | some a => am_nx nx L (.ref a :: S) h
      | none => none) else none
    | none => none
  | _ => none
def o_aast (tag ci nx : Nat) : am_O := fun L S h => match S with
  | .ref v :: .int i :: .ref k :: S => match h.1[k]?, h.1[v]? with
    | some t, some tv => if t.1 = tag ∧ 12 ≤ k ∧ tv.1 = ci ∧ 12 ≤ v then (if i < 0 ∨ t.2 ≤ i.toNatClampNeg then none else am_nx nx L S (h.1, h.2.1, am_upR h.2.2 k i.toNatClampNeg (some v))) else none
    | _, _ => none
  | _ => none
def o_alen (tag nx : Nat) : am_O := fun L S h => match S with
  | .ref k :: S => match h.1[k]? with
    | some t => if t.1 = tag then am_nx nx L (.int (Int32.ofNat t.2) :: S) h else none
    | none => none
  | _ => none
def o_getI (ci j nx : Nat) : am_O := fun L S h => match S with
  | .ref k :: S => match h.1[k]? with
    | some t => if t.1 = ci then am_nx nx L (.int (h.2.1 k j) :: S) h else none
    | none => none
  | _ => none
def o_getR (ci j nx : Nat) : am_O := fun L S h => match S with
  | .ref k :: S => match h.1[k]? with
    | some t => if t.1 = ci then (match h.2.2 k j with
      | some a => am_nx nx L (.ref a :: S) h
      | none => none) else none
    | none => none
  | _ => none
def o_putI (ci j nx : Nat) : am_O := fun L S h => match S with
  | .int x :: .ref k :: S => match h.1[k]? with
    | some t => if t.1 = ci ∧ 12 ≤ k then am_nx nx L S (h.1, am_up h.2.1 k j x, h.2.2) else none
    | none => none
  | _ => none
/-- a boolean field -/
def o_putZ (ci j nx : Nat) : am_O := fun L S h => match S with
  | .int x :: .ref k :: S => match h.1[k]? with
    | some t => if (t.1 = ci ∧ 12 ≤ k) ∧ (x = 0 ∨ x = 1) then am_nx nx L S (h.1, am_up h.2.1 k j x, h.2.2) else none
    | none => none
  | _ => none
def o_putR (ci j nx : Nat) : am_O := fun L S h => match S with
  | .ref v :: .ref k :: S => match h.1[k]? with
    | some t => if t.1 = ci ∧ 12 ≤ k then am_nx nx L S (h.1, h.2.1, am_upR h.2.2 k j (some v)) else none
    | none => none
  | _ => none
def o_new (ci N nx : Nat) : am_O := fun L S h => if 12 ≤ h.1.length then am_nx nx L (.ref h.1.length :: S) (h.1 ++ [(ci, N)], am_row h.2.1 h.1.length (fun _ => 0), am_rowR h.2.2 h.1.length (fun _ => none)) else none
def o_newa (tag nx : Nat) : am_O := fun L S h => match S with
  | .int x :: S => if x < 0 ∨ 1000 < x.toNatClampNeg ∨ h.1.length < 12 then none else am_nx nx L (.ref h.1.length :: S) (h.1 ++ [(tag, x.toNatClampNeg)], am_row h.2.1 h.1.length (fun _ => 0), am_rowR h.2.2 h.1.length (fun _ => none))
  | _ => none
/-- new int[n][k]: the outer row, then n rows -/
def o_mna (nx : Nat) : am_O := fun L S h => match S with
  | .int k :: .int n :: S => if k < 0 ∨ 1000 < k.toNatClampNeg ∨ n < 0 ∨ 1000 < n.toNatClampNeg ∨ h.1.length < 12 then none else am_nx nx L (.ref h.1.length :: S) (h.1 ++ (30, n.toNatClampNeg) :: List.replicate n.toNatClampNeg (20, k.toNatClampNeg), (fun q => if h.1.length ≤ q then (fun _ => 0) else h.2.1 q), (fun q => if q = h.1.length then (fun j => if j < n.toNatClampNeg then some (h.1.length + 1 + j) else none) else if h.1.length < q then (fun _ => none) else h.2.2 q))
  | _ => none
/-- Object() -/
def o_obj (nx : Nat) : am_O := fun L S h => match S with
  | .ref _ :: S => if (S.map fun v => v.category).sum ≤ 8 then am_nx nx L S h else none
  | _ => none
/-- System.arraycopy of ints -/
def o_acpy (nx : Nat) : am_O := fun L S h => match S with
  | .int n :: .int dp :: .ref k :: .int sp :: .ref k0 :: S => match h.1[k0]?, h.1[k]? with
    | some t0, some t => if t0.1 = 20 ∧ t.1 = 20 ∧ 12 ≤ k0 ∧ 12 ≤ k ∧ (S.map fun v => v.category).sum ≤ 8 then (if n < 0 ∨ dp < 0 ∨ sp < 0 ∨ t0.2 < sp.toNatClampNeg + n.toNatClampNeg ∨ t.2 < dp.toNatClampNeg + n.toNatClampNeg then none else am_nx nx L S (h.1, am_row h.2.1 k (va_cpy (h.2.1 k0) (h.2.1 k) sp.toNatClampNeg dp.toNatClampNeg n.toNatClampNeg), h.2.2)) else none
    | _, _ => none
  | _ => none
/-- Math.max, Math.min of ints -/
def o_mmax (nx : Nat) : am_O := fun L S h => match S with
  | .int y :: .int x :: S => if (S.map fun v => v.category).sum ≤ 8 then am_nx nx L (.int (if x < y then y else x) :: S) h else none
  | _ => none
def o_mmin (nx : Nat) : am_O := fun L S h => match S with
  | .int y :: .int x :: S => if (S.map fun v => v.category).sum ≤ 8 then am_nx nx L (.int (if y < x then y else x) :: S) h else none
  | _ => none
def o_iret : am_O := fun _ S _ => match S with
  | [.int x] => some (.inr (.inl (some (.int x))))
  | _ => none
/-- a boolean answer; a char -/
def o_zret : am_O := fun _ S _ => match S with
  | [.int x] => if x = 0 ∨ x = 1 then some (.inr (.inl (some (.int x)))) else none
  | _ => none
def o_cret : am_O := fun _ S _ => match S with
  | [.int x] => if x < 0 ∨ 65535 < x then none else some (.inr (.inl (some (.int x))))
  | _ => none
def o_bret : am_O := fun _ S _ => match S with
  | [.int x] => if x = 0 then some (.inr (.inl (some (.int x)))) else none
  | _ => none
def o_vret : am_O := fun _ S _ => match S with
  | [] => some (.inr (.inl none))
  | _ => none
def o_aret : am_O := fun _ S _ => match S with
  | [.ref x] => some (.inr (.inl (some (.ref x))))
  | _ => none
/-- a static method of n arguments -/
def o_invS (y n nx : Nat) : am_O := fun _ S _ => if n ≤ S.length ∧ ((S.drop n).map fun v => v.category).sum ≤ 8 then some (.inr (.inr (y, (S.take n).reverse, nx, S.drop n))) else none
/-- a method of an object of a class, n arguments beside it -/
def o_invV (ci y n nx : Nat) : am_O := fun _ S h => if n ≤ S.length then (match S.drop n with
  | .ref b :: rest => match h.1[b]? with
    | some t => if t.1 = ci ∧ (rest.map fun v => v.category).sum ≤ 8 then some (.inr (.inr (y, .ref b :: (S.take n).reverse, nx, rest))) else none
    | none => none
  | _ => none) else none
/-- a constructor -/
def o_invI (y n nx : Nat) : am_O := fun _ S _ => if n ≤ S.length then (match S.drop n with
  | .ref b :: rest => if (rest.map fun v => v.category).sum ≤ 8 then some (.inr (.inr (y, .ref b :: (S.take n).reverse, nx, rest))) else none
  | _ => none) else none
def am_sl : List Value → am_L
  | [] => []
  | .long x :: t => some (.long x) :: none :: am_sl t
  | .double x :: t => some (.double x) :: none :: am_sl t
  | v :: t => some v :: am_sl t
def am_init (n : Nat) (as : List Value) : Option am_L := if (am_sl as).length ≤ n then some (am_sl as ++ List.replicate (n - (am_sl as).length) none) else none
/-- the program: an operation for a method and a place; locals of a method -/
abbrev am_P : Type := (Nat → Nat → Option am_O) × (Nat → Nat)
def arun (P : am_P) : Nat → Nat → Nat → Nat → am_L → List Value → am_H → Option (Option Value × am_H)
  | 0, _, _, _, _, _, _ => none
  | f + 1, d, y, pc, L, S, h => match P.1 y pc with
    | none => none
    | some op => match op L S h with
      | none => none
      | some (.inl (pc', L', S', h')) => arun P f d y pc' L' S' h'
      | some (.inr (.inl v)) => some (v, h)
      | some (.inr (.inr (y', as, pc', S'))) => match d with
        | 0 => none
        | d' + 1 => match am_init (P.2 y') as with
          | none => none
          | some L0 => match arun P f d' y' 0 L0 [] h with
            | none => none
            | some (v, h') => arun P f (d' + 1) y pc' L (v.toList ++ S') h'
