/-! RUNS OF THE SMALL MACHINE, goal first: AW: from this place the method ends, with Q; CALL: a method's whole run -/
theorem arun_more {P : am_P} : ∀ (f d y pc : Nat) (L : am_L) (S : List Value) (h : am_H) (x : Option Value × am_H) (k : Nat), arun P f d y pc L S h = some x → arun P (f + k) d y pc L S h = some x
  | 0, d, y, pc, L, S, h, x, k, e => by simp [arun] at e
  | f + 1, d, y, pc, L, S, h, x, k, e => by
    rw [show f + 1 + k = (f + k) + 1 by omega]
    unfold arun at e ⊢
    split at e
    · cases e
    · rename_i op hop
      split at e
      · cases e
      · exact arun_more f _ _ _ _ _ _ x k e
      · exact e
      · cases d with
        | zero => cases e
        | succ d' =>
          dsimp only at e ⊢
          split at e
          · cases e
          · rename_i L0 hL0
            split at e
            · cases e
            · rename_i v h1 h2
              rw [arun_more f _ _ _ _ _ _ _ k h2]
              exact arun_more f _ _ _ _ _ _ x k e
def AW (d y pc : Nat) (L : am_L) (S : List Value) (h : am_H) (Q : Option Value → am_H → Prop) : Prop := ∃ (f : Nat) (r : Option Value) (h' : am_H), arun PP f d y pc L S h = some (r, h') ∧ Q r h'
def CALL (d y : Nat) (as : List Value) (h : am_H) (Q : Option Value → am_H → Prop) : Prop := match am_init (PP.2 y) as with
  | none => False
  | some L0 => AW d y 0 L0 [] h Q
def am_cd (y : Nat) : List (Nat × am_O) := (am_all.getD y (ii_L_law, [])).2
theorem AW.mono {d y pc : Nat} {L : am_L} {S : List Value} {h : am_H} {Q Q' : Option Value → am_H → Prop} (w : AW d y pc L S h Q) (hq : ∀ r h', Q r h' → Q' r h') : AW d y pc L S h Q' := by
  obtain ⟨f, r, h', e, q⟩ := w
  exact ⟨f, r, h', e, hq r h' q⟩
theorem CALL.mono {d y : Nat} {as : List Value} {h : am_H} {Q Q' : Option Value → am_H → Prop} (w : CALL d y as h Q) (hq : ∀ r h', Q r h' → Q' r h') : CALL d y as h Q' := by
  unfold CALL at w ⊢
  split at w
  · cases w
  · exact AW.mono w hq
section AWR
variable {d y pc nx : Nat} {L : am_L} {S : List Value} {h : am_H} {Q : Option Value → am_H → Prop} {c : List (Nat × am_O)} {op : am_O}
theorem AW_n {pc' : Nat} {L' : am_L} {S' : List Value} {h' : am_H} (hc : am_cd y = c) (hp : am_at c pc = some op) (ho : op L S h = some (.inl (pc', L', S', h'))) : AW d y pc L S h Q = AW d y pc' L' S' h' Q := by
  have hP : PP.1 y pc = some op := by rw [← hp, ← hc]; rfl
  refine propext ⟨fun ⟨f, r, h2, e, q⟩ => ?_, fun ⟨f, r, h2, e, q⟩ => ⟨f + 1, r, h2, ?_, q⟩⟩
  · cases f with
    | zero => simp [arun] at e
    | succ f =>
      unfold arun at e
      rw [hP] at e
      dsimp only at e
      rw [ho] at e
      exact ⟨f, r, h2, e, q⟩
  · unfold arun
    rw [hP]
    dsimp only
    rw [ho]
    exact e
theorem AW_r {v : Option Value} (hc : am_cd y = c) (hp : am_at c pc = some op) (ho : op L S h = some (.inr (.inl v))) : AW d y pc L S h Q = Q v h := by
  have hP : PP.1 y pc = some op := by rw [← hp, ← hc]; rfl
  refine propext ⟨fun ⟨f, r, h2, e, q⟩ => ?_, fun q => ⟨1, v, h, ?_, q⟩⟩
  · cases f with
    | zero => simp [arun] at e
    | succ f =>
      unfold arun at e
      rw [hP] at e
      dsimp only at e
      rw [ho] at e
      cases e
      exact q
  · unfold arun
    rw [hP]
    dsimp only
    rw [ho]
theorem AW_c {y' pc' : Nat} {as S' : List Value} (hc : am_cd y = c) (hp : am_at c pc = some op) (ho : op L S h = some (.inr (.inr (y', as, pc', S')))) : AW (d + 1) y pc L S h Q = CALL d y' as h (fun v h' => AW (d + 1) y pc' L (v.toList ++ S') h' Q) := by
  have hP : PP.1 y pc = some op := by rw [← hp, ← hc]; rfl
  unfold CALL
  refine propext ⟨fun ⟨f, r, h2, e, q⟩ => ?_, fun w => ?_⟩
  · cases f with
    | zero => simp [arun] at e
    | succ f =>
      unfold arun at e
      rw [hP] at e
      dsimp only at e
      rw [ho] at e
      dsimp only at e
      cases hi : am_init (PP.2 y') as with
      | none =>
        rw [hi] at e
        cases e
      | some L0 =>
        rw [hi] at e
        dsimp only at e
        split at e
        · cases e
        · rename_i v h1 h3
          exact ⟨f, v, h1, h3, f, r, h2, e, q⟩
  · split at w
    · cases w
    · rename_i L0 hi
      obtain ⟨f1, v, h1, e1, f2, r, h2, e2, q⟩ := w
      refine ⟨f1 + f2 + 1, r, h2, ?_, q⟩
      unfold arun
      rw [hP]
      dsimp only
      rw [ho]
      dsimp only
      rw [hi]
      dsimp only
      rw [arun_more f1 _ _ _ _ _ _ _ f2 e1]
      dsimp only
      rw [Nat.add_comm]
      exact arun_more f2 _ _ _ _ _ _ _ f1 e2
theorem AW_if {p : Prop} [Decidable p] {S' : List Value} {t n : Nat} (hc : am_cd y = c) (hp : am_at c pc = some op) (ho : op L S h = if p then am_nx t L S' h else am_nx n L S' h) : AW d y pc L S h Q = if p then AW d y t L S' h Q else AW d y n L S' h Q := by
  by_cases hq : p
  · rw [if_pos hq] at ho ⊢
    exact AW_n hc hp ho
  · rw [if_neg hq] at ho ⊢
    exact AW_n hc hp ho
end AWR
/-- what a cell is, and its length -/
def am_tag (c : List (Nat × Nat)) (k : Nat) : Nat := match c[k]? with
  | some t => t.1
  | none => 99
def am_len (c : List (Nat × Nat)) (k : Nat) : Nat := match c[k]? with
  | some t => t.2
  | none => 0
/-- an index in a row of n -/
def inb (i : Int32) (n : Nat) : Prop := ¬ (i < 0 ∨ n ≤ i.toNatClampNeg)
theorem am_tagE {c : List (Nat × Nat)} {k g : Nat} (h : am_tag c k = g) (hg : g < 99) : c[k]? = some (g, am_len c k) := by
  unfold am_tag at h
  unfold am_len
  cases hc : c[k]? with
  | none => rw [hc] at h; dsimp only at h; omega
  | some t => rw [hc] at h; dsimp only at h; subst h; rfl
section AWS
variable {d y pc nx : Nat} {L : am_L} {S : List Value} {Q : Option Value → am_H → Prop} {cd : List (Nat × am_O)} {c : List (Nat × Nat)} {a : Nat → Nat → Int32} {r : Nat → Nat → Option Nat}
theorem AW_ald {tag k : Nat} {i : Int32} (hc : am_cd y = cd) (hp : am_at cd pc = some (o_ald tag nx)) (hg : tag < 99) (ht : am_tag c k = tag) (hi : inb i (am_len c k)) : AW d y pc L (.int i :: .ref k :: S) (c, a, r) Q = AW d y nx L (.int (a k i.toNatClampNeg) :: S) (c, a, r) Q := by
  refine AW_n hc hp ?_
  unfold o_ald am_nx
  dsimp only
  rw [am_tagE ht hg]
  dsimp only
  rw [if_pos rfl, if_neg hi]
theorem AW_ast {tag k : Nat} {i x : Int32} {f : Int32 → Int32} (hc : am_cd y = cd) (hp : am_at cd pc = some (o_ast tag f nx)) (hg : tag < 99) (ht : am_tag c k = tag) (hk : 12 ≤ k) (hi : inb i (am_len c k)) : AW d y pc L (.int x :: .int i :: .ref k :: S) (c, a, r) Q = AW d y nx L S (c, am_up a k i.toNatClampNeg (f x), r) Q := by
  refine AW_n hc hp ?_
  unfold o_ast am_nx
  dsimp only
  rw [am_tagE ht hg]
  dsimp only
  rw [if_pos ⟨rfl, hk⟩, if_neg hi]
theorem AW_aald {tag k : Nat} {i : Int32} (hc : am_cd y = cd) (hp : am_at cd pc = some (o_aald tag nx)) (hg : tag < 99) (ht : am_tag c k = tag) (hk : 12 ≤ k) (hi : inb i (am_len c k)) (hr : (r k i.toNatClampNeg).isSome = true) : AW d y pc L (.int i :: .ref k :: S) (c, a, r) Q = AW d y nx L (.ref ((r k i.toNatClampNeg).getD 0) :: S) (c, a, r) Q := by
  refine AW_n hc hp ?_
  unfold o_aald am_nx
  dsimp only
  rw [am_tagE ht hg]
  dsimp only
  rw [if_pos ⟨rfl, hk⟩, if_neg hi]
  cases hv : r k i.toNatClampNeg with
  | none => rw [hv] at hr; cases hr
  | some v => rfl
theorem AW_aast {tag ci k v : Nat} {i : Int32} (hc : am_cd y = cd) (hp : am_at cd pc = some (o_aast tag ci nx)) (hg : tag < 99) (hg2 : ci < 99) (ht : am_tag c k = tag) (hk : 12 ≤ k) (hi : inb i (am_len c k)) (htv : am_tag c v = ci) (hv : 12 ≤ v) : AW d y pc L (.ref v :: .int i :: .ref k :: S) (c, a, r) Q = AW d y nx L S (c, a, am_upR r k i.toNatClampNeg (some v)) Q := by
  refine AW_n hc hp ?_
  unfold o_aast am_nx
  dsimp only
  rw [am_tagE ht hg, am_tagE htv hg2]
  dsimp only
  rw [if_pos ⟨rfl, hk, rfl, hv⟩, if_neg hi]
theorem AW_alen {tag k : Nat} (hc : am_cd y = cd) (hp : am_at cd pc = some (o_alen tag nx)) (hg : tag < 99) (ht : am_tag c k = tag) : AW d y pc L (.ref k :: S) (c, a, r) Q = AW d y nx L (.int (Int32.ofNat (am_len c k)) :: S) (c, a, r) Q := by
  refine AW_n hc hp ?_
  unfold o_alen am_nx
  dsimp only
  rw [am_tagE ht hg]
  dsimp only
  rw [if_pos rfl]
theorem AW_getI {ci j k : Nat} (hc : am_cd y = cd) (hp : am_at cd pc = some (o_getI ci j nx)) (hg : ci < 99) (ht : am_tag c k = ci) : AW d y pc L (.ref k :: S) (c, a, r) Q = AW d y nx L (.int (a k j) :: S) (c, a, r) Q := by
  refine AW_n hc hp ?_
  unfold o_getI am_nx
  dsimp only
  rw [am_tagE ht hg]
  dsimp only
  rw [if_pos rfl]
theorem AW_getR {ci j k : Nat} (hc : am_cd y = cd) (hp : am_at cd pc = some (o_getR ci j nx)) (hg : ci < 99) (ht : am_tag c k = ci) (hr : (r k j).isSome = true) : AW d y pc L (.ref k :: S) (c, a, r) Q = AW d y nx L (.ref ((r k j).getD 0) :: S) (c, a, r) Q := by
  refine AW_n hc hp ?_
  unfold o_getR am_nx
  dsimp only
  rw [am_tagE ht hg]
  dsimp only
  rw [if_pos rfl]
  cases hv : r k j with
  | none => rw [hv] at hr; cases hr
  | some v => rfl
theorem AW_putI {ci j k : Nat} {x : Int32} (hc : am_cd y = cd) (hp : am_at cd pc = some (o_putI ci j nx)) (hg : ci < 99) (ht : am_tag c k = ci) (hk : 12 ≤ k) : AW d y pc L (.int x :: .ref k :: S) (c, a, r) Q = AW d y nx L S (c, am_up a k j x, r) Q := by
  refine AW_n hc hp ?_
  unfold o_putI am_nx
  dsimp only
  rw [am_tagE ht hg]
  dsimp only
  rw [if_pos ⟨rfl, hk⟩]
theorem AW_putZ {ci j k : Nat} {x : Int32} (hc : am_cd y = cd) (hp : am_at cd pc = some (o_putZ ci j nx)) (hg : ci < 99) (ht : am_tag c k = ci) (hk : 12 ≤ k) (hx : x = 0 ∨ x = 1) : AW d y pc L (.int x :: .ref k :: S) (c, a, r) Q = AW d y nx L S (c, am_up a k j x, r) Q := by
  refine AW_n hc hp ?_
  unfold o_putZ am_nx
  dsimp only
  rw [am_tagE ht hg]
  dsimp only
  rw [if_pos ⟨⟨rfl, hk⟩, hx⟩]
theorem AW_putR {ci j k v : Nat} (hc : am_cd y = cd) (hp : am_at cd pc = some (o_putR ci j nx)) (hg : ci < 99) (ht : am_tag c k = ci) (hk : 12 ≤ k) : AW d y pc L (.ref v :: .ref k :: S) (c, a, r) Q = AW d y nx L S (c, a, am_upR r k j (some v)) Q := by
  refine AW_n hc hp ?_
  unfold o_putR am_nx
  dsimp only
  rw [am_tagE ht hg]
  dsimp only
  rw [if_pos ⟨rfl, hk⟩]
theorem AW_div {f : Int32 → Int32 → Int32} {x z : Int32} {h : am_H} (hc : am_cd y = cd) (hp : am_at cd pc = some (o_div f nx)) (hz : z ≠ 0) : AW d y pc L (.int z :: .int x :: S) h Q = AW d y nx L (.int (f x z) :: S) h Q := by
  refine AW_n hc hp ?_
  unfold o_div am_nx
  dsimp only
  rw [if_neg hz]
theorem AW_zret {x : Int32} {h : am_H} (hc : am_cd y = cd) (hp : am_at cd pc = some o_zret) (hx : x = 0 ∨ x = 1) : AW d y pc L [.int x] h Q = Q (some (.int x)) h := by
  refine AW_r hc hp ?_
  unfold o_zret
  dsimp only
  rw [if_pos hx]
theorem AW_cret {x : Int32} {h : am_H} (hc : am_cd y = cd) (hp : am_at cd pc = some o_cret) (hx : ¬ (x < 0 ∨ 65535 < x)) : AW d y pc L [.int x] h Q = Q (some (.int x)) h := by
  refine AW_r hc hp ?_
  unfold o_cret
  dsimp only
  rw [if_neg hx]
theorem AW_bret {x : Int32} {h : am_H} (hc : am_cd y = cd) (hp : am_at cd pc = some o_bret) (hx : x = 0) : AW d y pc L [.int x] h Q = Q (some (.int x)) h := by
  refine AW_r hc hp ?_
  unfold o_bret
  dsimp only
  rw [if_pos hx]
theorem AW_table {dt : Nat} {ts : List Nat} {x : Int32} {h : am_H} (hc : am_cd y = cd) (hp : am_at cd pc = some (o_table dt ts)) : AW d y pc L (.int x :: S) h Q = AW d y (if x < 0 ∨ ts.length ≤ x.toNatClampNeg then dt else ts.getD x.toNatClampNeg 0) L S h Q := by
  refine AW_n hc hp ?_
  unfold o_table am_nx
  dsimp only
  split <;> rfl
theorem AW_acpy {k k0 : Nat} {n dp sp : Int32} (hc : am_cd y = cd) (hp : am_at cd pc = some (o_acpy nx)) (ht0 : am_tag c k0 = 20) (ht : am_tag c k = 20) (hk0 : 12 ≤ k0) (hk : 12 ≤ k) (hS : (S.map fun v => v.category).sum ≤ 8) (hb : ¬ (n < 0 ∨ dp < 0 ∨ sp < 0 ∨ am_len c k0 < sp.toNatClampNeg + n.toNatClampNeg ∨ am_len c k < dp.toNatClampNeg + n.toNatClampNeg)) : AW d y pc L (.int n :: .int dp :: .ref k :: .int sp :: .ref k0 :: S) (c, a, r) Q = AW d y nx L S (c, am_row a k (va_cpy (a k0) (a k) sp.toNatClampNeg dp.toNatClampNeg n.toNatClampNeg), r) Q := by
  refine AW_n hc hp ?_
  unfold o_acpy am_nx
  dsimp only
  rw [am_tagE ht0 (by decide), am_tagE ht (by decide)]
  dsimp only
  rw [if_pos ⟨rfl, rfl, hk0, hk, hS⟩, if_neg hb]
theorem AW_invV {ci y' n k : Nat} {t : List Value} (hc : am_cd y = cd) (hp : am_at cd pc = some (o_invV ci y' n nx)) (hg : ci < 99) (hl : n ≤ (t ++ .ref k :: S).length) (hd : (t ++ .ref k :: S).drop n = .ref k :: S) (htk : (t ++ .ref k :: S).take n = t) (ht : am_tag c k = ci) (hS : (S.map fun v => v.category).sum ≤ 8) : AW (d + 1) y pc L (t ++ .ref k :: S) (c, a, r) Q = CALL d y' (.ref k :: t.reverse) (c, a, r) (fun v h' => AW (d + 1) y nx L (v.toList ++ S) h' Q) := by
  refine AW_c hc hp ?_
  unfold o_invV
  rw [if_pos hl, hd]
  dsimp only
  rw [am_tagE ht hg]
  dsimp only
  rw [if_pos ⟨rfl, hS⟩, htk]
theorem AW_invS {y' n : Nat} {t : List Value} {h : am_H} (hc : am_cd y = cd) (hp : am_at cd pc = some (o_invS y' n nx)) (hl : n ≤ (t ++ S).length) (hd : (t ++ S).drop n = S) (htk : (t ++ S).take n = t) (hS : (S.map fun v => v.category).sum ≤ 8) : AW (d + 1) y pc L (t ++ S) h Q = CALL d y' t.reverse h (fun v h' => AW (d + 1) y nx L (v.toList ++ S) h' Q) := by
  refine AW_c hc hp ?_
  unfold o_invS
  rw [hd, htk, if_pos ⟨hl, hS⟩]
end AWS
