/-! no operation writes a cell that was there before the constructors; cells stay what they are -/
def FRh (h h' : am_H) : Prop := (∀ k, k < 12 → h'.2.1 k = h.2.1 k) ∧ ∃ t, h'.1 = h.1 ++ t
def FRo (op : am_O) : Prop := ∀ (L : am_L) (S : List Value) (h : am_H) (x : am_N), op L S h = some (.inl x) → 12 ≤ h.1.length → FRh h x.2.2.2
theorem FRh.refl {h : am_H} : FRh h h := ⟨fun _ _ => rfl, [], (List.append_nil _).symm⟩
theorem FRh.trans {h1 h2 h3 : am_H} (p : FRh h1 h2) (q : FRh h2 h3) : FRh h1 h3 := by
  obtain ⟨p1, t, p2⟩ := p
  obtain ⟨q1, u, q2⟩ := q
  exact ⟨fun k hk => (q1 k hk).trans (p1 k hk), t ++ u, by rw [q2, p2, List.append_assoc]⟩
theorem FRh.len {h h' : am_H} (p : FRh h h') (hl : 12 ≤ h.1.length) : 12 ≤ h'.1.length := by
  obtain ⟨_, t, e⟩ := p
  rw [e, List.length_append]
  omega
section FRS2
variable {i j k ci nx t tag y n : Nat} {v : Int32} {w : Int64} {ts : List Nat}
theorem fr_aald  : FRo (o_aald tag nx) := by
  intro L S h x e hl
  unfold o_aald at e
  try unfold am_nx at e
  (repeat' split at e) <;> first | (cases e; done) | (cases e; exact FRh.refl)
theorem fr_ald  : FRo (o_ald tag nx) := by
  intro L S h x e hl
  unfold o_ald at e
  try unfold am_nx at e
  (repeat' split at e) <;> first | (cases e; done) | (cases e; exact FRh.refl)
theorem fr_alen  : FRo (o_alen tag nx) := by
  intro L S h x e hl
  unfold o_alen at e
  try unfold am_nx at e
  (repeat' split at e) <;> first | (cases e; done) | (cases e; exact FRh.refl)
theorem fr_aload  : FRo (o_aload i nx) := by
  intro L S h x e hl
  unfold o_aload at e
  try unfold am_nx at e
  (repeat' split at e) <;> first | (cases e; done) | (cases e; exact FRh.refl)
theorem fr_aret  : FRo (o_aret) := by
  intro L S h x e hl
  unfold o_aret at e
  try unfold am_nx at e
  (repeat' split at e) <;> first | (cases e; done) | (cases e; exact FRh.refl)
theorem fr_astore  : FRo (o_astore i nx) := by
  intro L S h x e hl
  unfold o_astore at e
  try unfold am_nx at e
  (repeat' split at e) <;> first | (cases e; done) | (cases e; exact FRh.refl)
theorem fr_bin {f : Int32 → Int32 → Int32} : FRo (o_bin f nx) := by
  intro L S h x e hl
  unfold o_bin at e
  try unfold am_nx at e
  (repeat' split at e) <;> first | (cases e; done) | (cases e; exact FRh.refl)
theorem fr_bret  : FRo (o_bret) := by
  intro L S h x e hl
  unfold o_bret at e
  try unfold am_nx at e
  (repeat' split at e) <;> first | (cases e; done) | (cases e; exact FRh.refl)
theorem fr_ceq  : FRo (o_ceq t nx) := by
  intro L S h x e hl
  unfold o_ceq at e
  try unfold am_nx at e
  (repeat' split at e) <;> first | (cases e; done) | (cases e; exact FRh.refl)
theorem fr_cgt  : FRo (o_cgt t nx) := by
  intro L S h x e hl
  unfold o_cgt at e
  try unfold am_nx at e
  (repeat' split at e) <;> first | (cases e; done) | (cases e; exact FRh.refl)
theorem fr_clt  : FRo (o_clt t nx) := by
  intro L S h x e hl
  unfold o_clt at e
  try unfold am_nx at e
  (repeat' split at e) <;> first | (cases e; done) | (cases e; exact FRh.refl)
theorem fr_const  : FRo (o_const v nx) := by
  intro L S h x e hl
  unfold o_const at e
  try unfold am_nx at e
  (repeat' split at e) <;> first | (cases e; done) | (cases e; exact FRh.refl)
theorem fr_cref  : FRo (o_cref k nx) := by
  intro L S h x e hl
  unfold o_cref at e
  try unfold am_nx at e
  (repeat' split at e) <;> first | (cases e; done) | (cases e; exact FRh.refl)
theorem fr_cret  : FRo (o_cret) := by
  intro L S h x e hl
  unfold o_cret at e
  try unfold am_nx at e
  (repeat' split at e) <;> first | (cases e; done) | (cases e; exact FRh.refl)
theorem fr_div {f : Int32 → Int32 → Int32} : FRo (o_div f nx) := by
  intro L S h x e hl
  unfold o_div at e
  try unfold am_nx at e
  (repeat' split at e) <;> first | (cases e; done) | (cases e; exact FRh.refl)
theorem fr_dup  : FRo (o_dup nx) := by
  intro L S h x e hl
  unfold o_dup at e
  try unfold am_nx at e
  (repeat' split at e) <;> first | (cases e; done) | (cases e; exact FRh.refl)
theorem fr_dup2  : FRo (o_dup2 nx) := by
  intro L S h x e hl
  unfold o_dup2 at e
  try unfold am_nx at e
  (repeat' split at e) <;> first | (cases e; done) | (cases e; exact FRh.refl)
theorem fr_getI  : FRo (o_getI ci j nx) := by
  intro L S h x e hl
  unfold o_getI at e
  try unfold am_nx at e
  (repeat' split at e) <;> first | (cases e; done) | (cases e; exact FRh.refl)
theorem fr_getR  : FRo (o_getR ci j nx) := by
  intro L S h x e hl
  unfold o_getR at e
  try unfold am_nx at e
  (repeat' split at e) <;> first | (cases e; done) | (cases e; exact FRh.refl)
theorem fr_goto  : FRo (o_goto t) := by
  intro L S h x e hl
  unfold o_goto at e
  try unfold am_nx at e
  (repeat' split at e) <;> first | (cases e; done) | (cases e; exact FRh.refl)
theorem fr_i2l  : FRo (o_i2l nx) := by
  intro L S h x e hl
  unfold o_i2l at e
  try unfold am_nx at e
  (repeat' split at e) <;> first | (cases e; done) | (cases e; exact FRh.refl)
theorem fr_ifeq  : FRo (o_ifeq t nx) := by
  intro L S h x e hl
  unfold o_ifeq at e
  try unfold am_nx at e
  (repeat' split at e) <;> first | (cases e; done) | (cases e; exact FRh.refl)
theorem fr_ifgt  : FRo (o_ifgt t nx) := by
  intro L S h x e hl
  unfold o_ifgt at e
  try unfold am_nx at e
  (repeat' split at e) <;> first | (cases e; done) | (cases e; exact FRh.refl)
theorem fr_iflt  : FRo (o_iflt t nx) := by
  intro L S h x e hl
  unfold o_iflt at e
  try unfold am_nx at e
  (repeat' split at e) <;> first | (cases e; done) | (cases e; exact FRh.refl)
theorem fr_iinc  : FRo (o_iinc i v nx) := by
  intro L S h x e hl
  unfold o_iinc at e
  try unfold am_nx at e
  (repeat' split at e) <;> first | (cases e; done) | (cases e; exact FRh.refl)
theorem fr_iload  : FRo (o_iload i nx) := by
  intro L S h x e hl
  unfold o_iload at e
  try unfold am_nx at e
  (repeat' split at e) <;> first | (cases e; done) | (cases e; exact FRh.refl)
theorem fr_invI  : FRo (o_invI y n nx) := by
  intro L S h x e hl
  unfold o_invI at e
  try unfold am_nx at e
  (repeat' split at e) <;> first | (cases e; done) | (cases e; exact FRh.refl)
theorem fr_invS  : FRo (o_invS y n nx) := by
  intro L S h x e hl
  unfold o_invS at e
  try unfold am_nx at e
  (repeat' split at e) <;> first | (cases e; done) | (cases e; exact FRh.refl)
theorem fr_invV  : FRo (o_invV ci y n nx) := by
  intro L S h x e hl
  unfold o_invV at e
  try unfold am_nx at e
  (repeat' split at e) <;> first | (cases e; done) | (cases e; exact FRh.refl)
theorem fr_iret  : FRo (o_iret) := by
  intro L S h x e hl
  unfold o_iret at e
  try unfold am_nx at e
  (repeat' split at e) <;> first | (cases e; done) | (cases e; exact FRh.refl)
theorem fr_istore  : FRo (o_istore i nx) := by
  intro L S h x e hl
  unfold o_istore at e
  try unfold am_nx at e
  (repeat' split at e) <;> first | (cases e; done) | (cases e; exact FRh.refl)
theorem fr_l2i  : FRo (o_l2i nx) := by
  intro L S h x e hl
  unfold o_l2i at e
  try unfold am_nx at e
  (repeat' split at e) <;> first | (cases e; done) | (cases e; exact FRh.refl)
theorem fr_lbin {f : Int64 → Int64 → Int64} : FRo (o_lbin f nx) := by
  intro L S h x e hl
  unfold o_lbin at e
  try unfold am_nx at e
  (repeat' split at e) <;> first | (cases e; done) | (cases e; exact FRh.refl)
theorem fr_lcmp  : FRo (o_lcmp nx) := by
  intro L S h x e hl
  unfold o_lcmp at e
  try unfold am_nx at e
  (repeat' split at e) <;> first | (cases e; done) | (cases e; exact FRh.refl)
theorem fr_lconst  : FRo (o_lconst w nx) := by
  intro L S h x e hl
  unfold o_lconst at e
  try unfold am_nx at e
  (repeat' split at e) <;> first | (cases e; done) | (cases e; exact FRh.refl)
theorem fr_lload  : FRo (o_lload i nx) := by
  intro L S h x e hl
  unfold o_lload at e
  try unfold am_nx at e
  (repeat' split at e) <;> first | (cases e; done) | (cases e; exact FRh.refl)
theorem fr_lsh {f : Int64 → Int32 → Int64} : FRo (o_lsh f nx) := by
  intro L S h x e hl
  unfold o_lsh at e
  try unfold am_nx at e
  (repeat' split at e) <;> first | (cases e; done) | (cases e; exact FRh.refl)
theorem fr_mmax  : FRo (o_mmax nx) := by
  intro L S h x e hl
  unfold o_mmax at e
  try unfold am_nx at e
  (repeat' split at e) <;> first | (cases e; done) | (cases e; exact FRh.refl)
theorem fr_mmin  : FRo (o_mmin nx) := by
  intro L S h x e hl
  unfold o_mmin at e
  try unfold am_nx at e
  (repeat' split at e) <;> first | (cases e; done) | (cases e; exact FRh.refl)
theorem fr_obj  : FRo (o_obj nx) := by
  intro L S h x e hl
  unfold o_obj at e
  try unfold am_nx at e
  (repeat' split at e) <;> first | (cases e; done) | (cases e; exact FRh.refl)
theorem fr_pop  : FRo (o_pop nx) := by
  intro L S h x e hl
  unfold o_pop at e
  try unfold am_nx at e
  (repeat' split at e) <;> first | (cases e; done) | (cases e; exact FRh.refl)
theorem fr_table  : FRo (o_table t ts) := by
  intro L S h x e hl
  unfold o_table at e
  try unfold am_nx at e
  (repeat' split at e) <;> first | (cases e; done) | (cases e; exact FRh.refl)
theorem fr_un {f : Int32 → Int32} : FRo (o_un f nx) := by
  intro L S h x e hl
  unfold o_un at e
  try unfold am_nx at e
  (repeat' split at e) <;> first | (cases e; done) | (cases e; exact FRh.refl)
theorem fr_vret  : FRo (o_vret) := by
  intro L S h x e hl
  unfold o_vret at e
  try unfold am_nx at e
  (repeat' split at e) <;> first | (cases e; done) | (cases e; exact FRh.refl)
theorem fr_zret  : FRo (o_zret) := by
  intro L S h x e hl
  unfold o_zret at e
  try unfold am_nx at e
  (repeat' split at e) <;> first | (cases e; done) | (cases e; exact FRh.refl)
theorem fr_ast {f : Int32 → Int32} : FRo (o_ast tag f nx) := by
  intro L S h x e hl
  unfold o_ast am_nx at e
  (repeat' split at e) <;> first | (cases e; done) | skip
  rename_i hk _
  cases e
  refine ⟨fun q hq => if_neg (fun c => ?_), [], (List.append_nil _).symm⟩
  have h12 := Nat.le_trans (hk.2) (Nat.le_of_eq c.symm)
  omega
theorem fr_aast : FRo (o_aast tag ci nx) := by
  intro L S h x e hl
  unfold o_aast am_nx at e
  (repeat' split at e) <;> first | (cases e; done) | skip
  cases e
  exact ⟨fun q hq => rfl, [], (List.append_nil _).symm⟩
theorem fr_putI : FRo (o_putI ci j nx) := by
  intro L S h x e hl
  unfold o_putI am_nx at e
  (repeat' split at e) <;> first | (cases e; done) | skip
  rename_i hk
  cases e
  refine ⟨fun q hq => if_neg (fun c => ?_), [], (List.append_nil _).symm⟩
  have h12 := Nat.le_trans (hk.2) (Nat.le_of_eq c.symm)
  omega
theorem fr_putZ : FRo (o_putZ ci j nx) := by
  intro L S h x e hl
  unfold o_putZ am_nx at e
  (repeat' split at e) <;> first | (cases e; done) | skip
  rename_i hk
  cases e
  refine ⟨fun q hq => if_neg (fun c => ?_), [], (List.append_nil _).symm⟩
  have h12 := Nat.le_trans (hk.1.2) (Nat.le_of_eq c.symm)
  omega
theorem fr_putR : FRo (o_putR ci j nx) := by
  intro L S h x e hl
  unfold o_putR am_nx at e
  (repeat' split at e) <;> first | (cases e; done) | skip
  cases e
  exact ⟨fun q hq => rfl, [], (List.append_nil _).symm⟩
theorem fr_new : FRo (o_new ci n nx) := by
  intro L S h x e hl
  unfold o_new am_nx at e
  rw [if_pos hl] at e
  cases e
  exact ⟨fun q hq => if_neg (by omega), _, rfl⟩
theorem fr_newa : FRo (o_newa tag nx) := by
  intro L S h x e hl
  unfold o_newa am_nx at e
  (repeat' split at e) <;> first | (cases e; done) | skip
  cases e
  exact ⟨fun q hq => if_neg (by omega), _, rfl⟩
theorem fr_mna : FRo (o_mna nx) := by
  intro L S h x e hl
  unfold o_mna am_nx at e
  (repeat' split at e) <;> first | (cases e; done) | skip
  cases e
  exact ⟨fun q hq => if_neg (by omega), _, rfl⟩
theorem fr_acpy : FRo (o_acpy nx) := by
  intro L S h x e hl
  unfold o_acpy am_nx at e
  (repeat' split at e) <;> first | (cases e; done) | skip
  rename_i hk _
  cases e
  refine ⟨fun q hq => if_neg (fun c => ?_), [], (List.append_nil _).symm⟩
  have h12 := Nat.le_trans (hk.2.2.2.1) (Nat.le_of_eq c.symm)
  omega
end FRS2
theorem arun_fr {P : am_P} (hP : ∀ y pc op, P.1 y pc = some op → FRo op) : ∀ (f d y pc : Nat) (L : am_L) (S : List Value) (h : am_H) (r : Option Value) (h' : am_H), arun P f d y pc L S h = some (r, h') → 12 ≤ h.1.length → FRh h h'
  | 0, d, y, pc, L, S, h, r, h', e, _ => by simp [arun] at e
  | f + 1, d, y, pc, L, S, h, r, h', e, hl => by
    unfold arun at e
    split at e
    · cases e
    · rename_i op hop
      split at e
      · cases e
      · rename_i pc' L' S' h1 ho
        have q := hP _ _ _ hop _ _ _ _ ho hl
        exact q.trans (arun_fr hP f _ _ _ _ _ _ _ _ e (q.len hl))
      · cases e
        exact FRh.refl
      · cases d with
        | zero => cases e
        | succ d' =>
          dsimp only at e
          split at e
          · cases e
          · split at e
            · cases e
            · rename_i h2
              have q := arun_fr hP f _ _ _ _ _ _ _ _ h2 hl
              exact q.trans (arun_fr hP f _ _ _ _ _ _ _ _ e (q.len hl))
