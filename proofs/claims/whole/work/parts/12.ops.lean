/-! EACH OPERATION IS SOUND: what it does, the JVM does at that place of the code -/
def am_ns (h : am_H) : Nat := (h.1.map fun t => t.2).sum
def am_cx (D : va_G) (ad : Nat → Nat) (b0 : Nat) (Hb : Heap) (p : Program) (s : State) (m : MethodId) (args : Array Value) (meth : Method) (c : Code) (R : Room) (y : MethodName) (cc : ByteArray) (nL : Nat) (ret : Option FieldType) : Prop :=
  p.tables.exec = Jvm.exec ∧ c.code = cc ∧ c.maxLocals = nL ∧ s.vm.findClass y.cls = some m.cls ∧ (∀ w ∈ am_tb, w.before args s = true) ∧ am_U D ad b0 Hb s ∧ meth.sig.returnType = ret ∧ meth.locks = false ∧ (y.name = "<init>" → meth.name = y.name) ∧ 1 ≤ R.frames ∧ 64 ≤ R.locals ∧ ∀ k, 12 ≤ k → ad k = b0 + (k - 12)
/-- the step to the next place -/
def am_okN (l : Launch) (D : va_G) (ad : Nat → Nat) (b0 : Nat) (Hb : Heap) (y : MethodName) (cc : ByteArray) (nL : Nat) (ret : Option FieldType) (pc : Nat) (op : am_O) : Prop :=
  ∀ (L : am_L) (S : List Value) (h : am_H) (pc' : Nat) (L' : am_L) (S' : List Value) (h' : am_H), op L S h = some (.inl (pc', L', S', h')) → h.1.length ≤ h'.1.length ∧ am_ns h ≤ am_ns h' ∧
    ∀ (p : Program) (e : Env) (s : State) (m : MethodId) (args : Array Value) (below : List Frame) (meth : Method) (c : Code) (R : Room), am_cx D ad b0 Hb p s m args meth c R y cc nL ret → ∀ (H : Heap) (locs : List Loc) (cells slots : Nat) (ls : Array Slot) (Q : State → Prop),
      am_lc ad ls nL L → am_rel D ad b0 Hb s h H → (∀ q ∈ locs, b0 ≤ q.base) → cells + (h'.1.length - h.1.length) ≤ R.cells → slots + (am_ns h' - am_ns h) ≤ R.slots →
      (∀ (H' : Heap) (locs' : List Loc) (ls' : Array Slot), am_lc ad ls' nL L' → am_rel D ad b0 Hb s h' H' → (∀ q ∈ locs', b0 ≤ q.base) → W p l e R s m args below meth c H' locs' (cells + (h'.1.length - h.1.length)) (slots + (am_ns h' - am_ns h)) Q (F0 m pc' ls' (S'.map (am_cv ad)))) →
      W p l e R s m args below meth c H locs cells slots Q (F0 m pc ls (S.map (am_cv ad)))
/-- the end of the method -/
def am_okR (cc : ByteArray) (ret : Option FieldType) (pc : Nat) (op : am_O) : Prop :=
  ∀ (L : am_L) (S : List Value) (h : am_H) (v : Option Value), op L S h = some (.inr (.inl v)) → S = v.toList ∧
    ((v = none ∧ ret = none ∧ decode cc pc = .ok (.return_, 1)) ∨ (∃ (x : Int32) (ty : FieldType), v = some (.int x) ∧ ret = some ty ∧ narrow ty (.int x) = .int x ∧ decode cc pc = .ok (.ireturn, 1)) ∨ (∃ (k : Nat) (rt : FieldType), v = some (.ref k) ∧ ret = some rt ∧ ((∃ n, rt = .object n) ∨ ∃ t, rt = .array t) ∧ decode cc pc = .ok (.areturn, 1)))
/-- a method of the table: its name, bytes, locals, answer -/
abbrev am_I : Type := MethodName × ByteArray × Nat × Option FieldType
def am_ws (i : am_I) : List Cond := .code i.1 i.2.1 i.2.2.1 i.2.2.2 :: am_tb
/-- the contract of a method in one run of it -/
def am_M (l : Launch) (D : va_G) (ad : Nat → Nat) (b0 : Nat) (Hb : Heap) (d : Nat) (i : am_I) (as : List Value) (h : am_H) (r : Option Value) (h' : am_H) : Prop :=
  Met l i.1 (am_ws i) { frames := d + 1, cells := h'.1.length - h.1.length, slots := am_ns h' - am_ns h, locals := 64 * (d + 1) } (fun v U => v = (as.map (am_cv ad)).toArray ∧ am_rel D ad b0 Hb U h U.heap ∧ am_U D ad b0 Hb U)
    (fun _ _ oc t => oc = .returned (r.map (am_cv ad)) ∧ am_rel D ad b0 Hb t h' t.heap) (h'.1.length - h.1.length) (am_ns h' - am_ns h) (fun q => b0 ≤ q)
/-- a call -/
def am_okC (l : Launch) (D : va_G) (ad : Nat → Nat) (b0 : Nat) (Hb : Heap) (I : Nat → am_I) (y : MethodName) (cc : ByteArray) (nL : Nat) (ret : Option FieldType) (pc : Nat) (op : am_O) : Prop :=
  ∀ (L : am_L) (S : List Value) (h : am_H) (y' : Nat) (as : List Value) (pc' : Nat) (S' : List Value), op L S h = some (.inr (.inr (y', as, pc', S'))) →
    ∀ (p : Program) (e : Env) (s : State) (m : MethodId) (args : Array Value) (below : List Frame) (meth : Method) (c : Code) (R : Room), am_cx D ad b0 Hb p s m args meth c R y cc nL ret → ∀ (H : Heap) (locs : List Loc) (cells slots : Nat) (ls : Array Slot) (Q : State → Prop) (d : Nat) (v : Option Value) (h' : am_H),
      am_M l D ad b0 Hb d (I y') as h v h' → d + 2 ≤ R.frames → 64 * (d + 2) ≤ R.locals →
      am_lc ad ls nL L → am_rel D ad b0 Hb s h H → (∀ q ∈ locs, b0 ≤ q.base) → cells + (h'.1.length - h.1.length) ≤ R.cells → slots + (am_ns h' - am_ns h) ≤ R.slots →
      (∀ (H' : Heap) (locs' : List Loc), am_rel D ad b0 Hb s h' H' → (∀ q ∈ locs', b0 ≤ q.base) → W p l e R s m args below meth c H' locs' (cells + (h'.1.length - h.1.length)) (slots + (am_ns h' - am_ns h)) Q (F0 m pc' ls ((v.toList ++ S').map (am_cv ad)))) →
      W p l e R s m args below meth c H locs cells slots Q (F0 m pc ls (S.map (am_cv ad)))
def am_ok (l : Launch) (D : va_G) (ad : Nat → Nat) (b0 : Nat) (Hb : Heap) (I : Nat → am_I) (y : MethodName) (cc : ByteArray) (nL : Nat) (ret : Option FieldType) (pc : Nat) (op : am_O) : Prop :=
  am_okN l D ad b0 Hb y cc nL ret pc op ∧ am_okR cc ret pc op ∧ am_okC l D ad b0 Hb I y cc nL ret pc op
section AMO
variable {l : Launch} {D : va_G} {ad : Nat → Nat} {b0 : Nat} {Hb : Heap} {I : Nat → am_I} {y : MethodName} {cc : ByteArray} {nL : Nat} {ret : Option FieldType} {pc nx : Nat}
/-- an operation that only goes on -/
theorem am_mkN {op : am_O} (h : ∀ L S h v, op L S h ≠ some (.inr v)) (hn : am_okN l D ad b0 Hb y cc nL ret pc op) : am_ok l D ad b0 Hb I y cc nL ret pc op :=
  ⟨hn, fun L S h1 v e => absurd e (h L S h1 _), fun L S h1 a b c d e => absurd e (h L S h1 _)⟩
/-- an operation on the stack alone, where the machine's cells stay -/
theorem am_mkS {op : am_O} (h : ∀ L S h v, op L S h ≠ some (.inr v))
    (hs : ∀ (L : am_L) (S : List Value) (h : am_H) (pc' : Nat) (L' : am_L) (S' : List Value) (h' : am_H), op L S h = some (.inl (pc', L', S', h')) → h' = h ∧
      ∀ (p : Program) (e : Env) (s : State) (m : MethodId) (args : Array Value) (below : List Frame) (meth : Method) (c : Code) (R : Room), am_cx D ad b0 Hb p s m args meth c R y cc nL ret → ∀ (H : Heap) (locs : List Loc) (cells slots : Nat) (ls : Array Slot) (Q : State → Prop),
      am_lc ad ls nL L → am_rel D ad b0 Hb s h H → (∀ ls' : Array Slot, am_lc ad ls' nL L' → W p l e R s m args below meth c H locs cells slots Q (F0 m pc' ls' (S'.map (am_cv ad)))) →
      W p l e R s m args below meth c H locs cells slots Q (F0 m pc ls (S.map (am_cv ad)))) : am_ok l D ad b0 Hb I y cc nL ret pc op := by
  refine am_mkN h fun L S h1 pc' L' S' h' e => ?_
  obtain ⟨rfl, k⟩ := hs L S h1 pc' L' S' h' e
  refine ⟨Nat.le_refl _, Nat.le_refl _, fun p e s m args below meth c R cx H locs cells slots ls Q hl hr hlo _ _ kk => k p e s m args below meth c R cx H locs cells slots ls Q hl hr fun ls' hl' => ?_⟩
  have := kk H locs ls' hl' hr hlo
  simpa only [Nat.sub_self, Nat.add_zero] using this
theorem ok_iload_n {k : Fin 4} {i : Nat} (hd : decode cc pc = .ok (.iload_n k, 1)) (hi : (k : Nat) = i) (hn : pc + 1 = nx) : am_ok l D ad b0 Hb I y cc nL ret pc (o_iload i nx) := by
  subst hn
  refine am_mkS (fun L S h v => ?_) (fun L S h pc' L' S' h' e => ?_)
  · unfold o_iload am_nx; split <;> simp
  · unfold o_iload am_nx at e
    split at e
    · rename_i x hx
      cases e
      exact ⟨rfl, fun p e s m args below meth c R cx H locs cells slots ls Q hl _ kk => lv_iload_n cx.1 cx.2.1 hd hi (hl.get hx) (kk ls hl)⟩
    · cases e
theorem ok_iload {i : Nat} (hd : decode cc pc = .ok (.iload i, 2)) (hn : pc + 2 = nx) : am_ok l D ad b0 Hb I y cc nL ret pc (o_iload i nx) := by
  subst hn
  refine am_mkS (fun L S h v => ?_) (fun L S h pc' L' S' h' e => ?_)
  · unfold o_iload am_nx; split <;> simp
  · unfold o_iload am_nx at e
    split at e
    · rename_i x hx
      cases e
      exact ⟨rfl, fun p e s m args below meth c R cx H locs cells slots ls Q hl _ kk => lv_iload cx.1 cx.2.1 hd (hl.get hx) (kk ls hl)⟩
    · cases e
theorem ok_lload_n {k : Fin 4} {i : Nat} (hd : decode cc pc = .ok (.lload_n k, 1)) (hi : (k : Nat) = i) (hn : pc + 1 = nx) : am_ok l D ad b0 Hb I y cc nL ret pc (o_lload i nx) := by
  subst hn
  refine am_mkS (fun L S h v => ?_) (fun L S h pc' L' S' h' e => ?_)
  · unfold o_lload am_nx; split <;> simp
  · unfold o_lload am_nx at e
    split at e
    · rename_i x hx
      cases e
      exact ⟨rfl, fun p e s m args below meth c R cx H locs cells slots ls Q hl _ kk => lv_lload_n cx.1 cx.2.1 hd hi (hl.get hx) (kk ls hl)⟩
    · cases e
theorem ok_lload {i : Nat} (hd : decode cc pc = .ok (.lload i, 2)) (hn : pc + 2 = nx) : am_ok l D ad b0 Hb I y cc nL ret pc (o_lload i nx) := by
  subst hn
  refine am_mkS (fun L S h v => ?_) (fun L S h pc' L' S' h' e => ?_)
  · unfold o_lload am_nx; split <;> simp
  · unfold o_lload am_nx at e
    split at e
    · rename_i x hx
      cases e
      exact ⟨rfl, fun p e s m args below meth c R cx H locs cells slots ls Q hl _ kk => lv_lload cx.1 cx.2.1 hd (hl.get hx) (kk ls hl)⟩
    · cases e
theorem ok_aload_n {k : Fin 4} {i : Nat} (hd : decode cc pc = .ok (.aload_n k, 1)) (hi : (k : Nat) = i) (hn : pc + 1 = nx) : am_ok l D ad b0 Hb I y cc nL ret pc (o_aload i nx) := by
  subst hn
  refine am_mkS (fun L S h v => ?_) (fun L S h pc' L' S' h' e => ?_)
  · unfold o_aload am_nx; split <;> simp
  · unfold o_aload am_nx at e
    split at e
    · rename_i x hx
      cases e
      exact ⟨rfl, fun p e s m args below meth c R cx H locs cells slots ls Q hl _ kk => lv_aload_n cx.1 cx.2.1 hd hi (hl.get hx) (kk ls hl)⟩
    · cases e
theorem ok_aload {i : Nat} (hd : decode cc pc = .ok (.aload i, 2)) (hn : pc + 2 = nx) : am_ok l D ad b0 Hb I y cc nL ret pc (o_aload i nx) := by
  subst hn
  refine am_mkS (fun L S h v => ?_) (fun L S h pc' L' S' h' e => ?_)
  · unfold o_aload am_nx; split <;> simp
  · unfold o_aload am_nx at e
    split at e
    · rename_i x hx
      cases e
      exact ⟨rfl, fun p e s m args below meth c R cx H locs cells slots ls Q hl _ kk => lv_aload cx.1 cx.2.1 hd (hl.get hx) (kk ls hl)⟩
    · cases e
theorem ok_istore_n {k : Fin 4} {i : Nat} (hd : decode cc pc = .ok (.istore_n k, 1)) (hi : (k : Nat) = i) (hn : pc + 1 = nx) : am_ok l D ad b0 Hb I y cc nL ret pc (o_istore i nx) := by
  subst hn
  refine am_mkS (fun L S h v => ?_) (fun L S h pc' L' S' h' e => ?_)
  · unfold o_istore am_nx; split <;> (try split) <;> simp
  · unfold o_istore am_nx at e
    split at e
    · split at e
      · rename_i hlow
        cases e
        refine ⟨rfl, fun p e s m args below meth c R cx H locs cells slots ls Q hl _ kk => ?_⟩
        obtain ⟨hl1, lv, hl2, hl3⟩ := hl
        exact lv_istore_n cx.1 cx.2.1 hd hi hl2 (by rw [← hl1]; exact hlow) rfl fun ls' hl' => kk ls' (am_lc.set hl1 hl3 hl')
      · cases e
    · cases e
theorem ok_istore {i : Nat} (hd : decode cc pc = .ok (.istore i, 2)) (hn : pc + 2 = nx) : am_ok l D ad b0 Hb I y cc nL ret pc (o_istore i nx) := by
  subst hn
  refine am_mkS (fun L S h v => ?_) (fun L S h pc' L' S' h' e => ?_)
  · unfold o_istore am_nx; split <;> (try split) <;> simp
  · unfold o_istore am_nx at e
    split at e
    · split at e
      · rename_i hlow
        cases e
        refine ⟨rfl, fun p e s m args below meth c R cx H locs cells slots ls Q hl _ kk => ?_⟩
        obtain ⟨hl1, lv, hl2, hl3⟩ := hl
        exact lv_istore cx.1 cx.2.1 hd hl2 (by rw [← hl1]; exact hlow) rfl fun ls' hl' => kk ls' (am_lc.set hl1 hl3 hl')
      · cases e
    · cases e
theorem ok_astore_n {k : Fin 4} {i : Nat} (hd : decode cc pc = .ok (.astore_n k, 1)) (hi : (k : Nat) = i) (hn : pc + 1 = nx) : am_ok l D ad b0 Hb I y cc nL ret pc (o_astore i nx) := by
  subst hn
  refine am_mkS (fun L S h v => ?_) (fun L S h pc' L' S' h' e => ?_)
  · unfold o_astore am_nx; split <;> (try split) <;> simp
  · unfold o_astore am_nx at e
    split at e
    · split at e
      · rename_i hlow
        cases e
        refine ⟨rfl, fun p e s m args below meth c R cx H locs cells slots ls Q hl _ kk => ?_⟩
        obtain ⟨hl1, lv, hl2, hl3⟩ := hl
        exact lv_astore_n cx.1 cx.2.1 hd hi hl2 (by rw [← hl1]; exact hlow) rfl fun ls' hl' => kk ls' (am_lc.set hl1 hl3 hl')
      · cases e
    · cases e
theorem ok_astore {i : Nat} (hd : decode cc pc = .ok (.astore i, 2)) (hn : pc + 2 = nx) : am_ok l D ad b0 Hb I y cc nL ret pc (o_astore i nx) := by
  subst hn
  refine am_mkS (fun L S h v => ?_) (fun L S h pc' L' S' h' e => ?_)
  · unfold o_astore am_nx; split <;> (try split) <;> simp
  · unfold o_astore am_nx at e
    split at e
    · split at e
      · rename_i hlow
        cases e
        refine ⟨rfl, fun p e s m args below meth c R cx H locs cells slots ls Q hl _ kk => ?_⟩
        obtain ⟨hl1, lv, hl2, hl3⟩ := hl
        exact lv_astore cx.1 cx.2.1 hd hl2 (by rw [← hl1]; exact hlow) rfl fun ls' hl' => kk ls' (am_lc.set hl1 hl3 hl')
      · cases e
    · cases e
theorem ok_iinc {i : Nat} {n : Int} {v : Int32} (hd : decode cc pc = .ok (.iinc i n, 3)) (hv : Int32.ofInt n = v) (hn : pc + 3 = nx) : am_ok l D ad b0 Hb I y cc nL ret pc (o_iinc i v nx) := by
  subst hn
  refine am_mkS (fun L S h v => ?_) (fun L S h pc' L' S' h' e => ?_)
  · unfold o_iinc am_nx; split <;> (try split) <;> simp
  · unfold o_iinc am_nx at e
    split at e
    · rename_i x hx
      split at e
      · rename_i hlow
        cases e
        refine ⟨rfl, fun p e s m args below meth c R cx H locs cells slots ls Q hl _ kk => ?_⟩
        obtain ⟨hl1, lv, hl2, hl3⟩ := hl
        obtain ⟨kp, hkp⟩ := List.getElem?_of_mem (hl3 _ _ hx)
        exact lv_iinc (v := x + v) cx.1 cx.2.1 hd hl2 hkp (by rw [hv]) (by rw [← hl1]; exact hlow) rfl fun ls' hl' => kk ls' (am_lc.set hl1 hl3 hl')
      · cases e
    · cases e
/-- constants: any one-value push -/
theorem ok_iconst {n : Int} {v : Int32} (hd : decode cc pc = .ok (.iconst n, 1)) (hv : Int32.ofInt n = v) (hn : pc + 1 = nx) : am_ok l D ad b0 Hb I y cc nL ret pc (o_const v nx) := by
  subst hn
  refine am_mkS (fun L S h v => by simp [o_const, am_nx]) (fun L S h pc' L' S' h' e => ?_)
  unfold o_const am_nx at e
  cases e
  exact ⟨rfl, fun p e s m args below meth c R cx H locs cells slots ls Q hl _ kk => lv_iconst cx.1 cx.2.1 hd hv (kk ls hl)⟩
theorem ok_bipush {n : Int} {v : Int32} (hd : decode cc pc = .ok (.bipush n, 2)) (hv : (Int8.ofInt n).toInt32 = v) (hn : pc + 2 = nx) : am_ok l D ad b0 Hb I y cc nL ret pc (o_const v nx) := by
  subst hn
  refine am_mkS (fun L S h v => by simp [o_const, am_nx]) (fun L S h pc' L' S' h' e => ?_)
  unfold o_const am_nx at e
  cases e
  exact ⟨rfl, fun p e s m args below meth c R cx H locs cells slots ls Q hl _ kk => lv_bipush cx.1 cx.2.1 hd hv (kk ls hl)⟩
theorem ok_sipush {n : Int} {v : Int32} (hd : decode cc pc = .ok (.sipush n, 3)) (hv : (Int16.ofInt n).toInt32 = v) (hn : pc + 3 = nx) : am_ok l D ad b0 Hb I y cc nL ret pc (o_const v nx) := by
  subst hn
  refine am_mkS (fun L S h v => by simp [o_const, am_nx]) (fun L S h pc' L' S' h' e => ?_)
  unfold o_const am_nx at e
  cases e
  exact ⟨rfl, fun p e s m args below meth c R cx H locs cells slots ls Q hl _ kk => lv_sipush cx.1 cx.2.1 hd hv (kk ls hl)⟩
theorem ok_ldc {index : Nat} {v : Int32} (hd : decode cc pc = .ok (.ldc index, 2)) (hw : Cond.constant y.cls index v ∈ am_tb) (hn : pc + 2 = nx) : am_ok l D ad b0 Hb I y cc nL ret pc (o_const v nx) := by
  subst hn
  refine am_mkS (fun L S h v => by simp [o_const, am_nx]) (fun L S h pc' L' S' h' e => ?_)
  unfold o_const am_nx at e
  cases e
  exact ⟨rfl, fun p e s m args below meth c R cx H locs cells slots ls Q hl _ kk => lv_ldc cx.1 cx.2.1 cx.2.2.2.1 (cx.2.2.2.2.1 _ hw) hd (kk ls hl)⟩
theorem ok_ldcw {index : Nat} {v : Int32} (hd : decode cc pc = .ok (.ldc_w index, 3)) (hw : Cond.constant y.cls index v ∈ am_tb) (hn : pc + 3 = nx) : am_ok l D ad b0 Hb I y cc nL ret pc (o_const v nx) := by
  subst hn
  refine am_mkS (fun L S h v => by simp [o_const, am_nx]) (fun L S h pc' L' S' h' e => ?_)
  unfold o_const am_nx at e
  cases e
  exact ⟨rfl, fun p e s m args below meth c R cx H locs cells slots ls Q hl _ kk => lv_ldcw cx.1 cx.2.1 cx.2.2.2.1 (cx.2.2.2.2.1 _ hw) hd (kk ls hl)⟩
theorem ok_ldc2 {index : Nat} {v : Int64} (hd : decode cc pc = .ok (.ldc2_w index, 3)) (hw : Cond.constantLong y.cls index v ∈ am_tb) (hn : pc + 3 = nx) : am_ok l D ad b0 Hb I y cc nL ret pc (o_lconst v nx) := by
  subst hn
  refine am_mkS (fun L S h v => by simp [o_lconst, am_nx]) (fun L S h pc' L' S' h' e => ?_)
  unfold o_lconst am_nx at e
  cases e
  exact ⟨rfl, fun p e s m args below meth c R cx H locs cells slots ls Q hl _ kk => lv_ldc2 cx.1 cx.2.1 cx.2.2.2.1 (cx.2.2.2.2.1 _ hw) hd (kk ls hl)⟩
theorem ok_lconst {n : Fin 2} {v : Int64} (hd : decode cc pc = .ok (.lconst n, 1)) (hv : Int64.ofNat (n : Nat) = v) (hn : pc + 1 = nx) : am_ok l D ad b0 Hb I y cc nL ret pc (o_lconst v nx) := by
  subst hn
  refine am_mkS (fun L S h v => by simp [o_lconst, am_nx]) (fun L S h pc' L' S' h' e => ?_)
  unfold o_lconst am_nx at e
  cases e
  exact ⟨rfl, fun p e s m args below meth c R cx H locs cells slots ls Q hl _ kk => lv_lconst cx.1 cx.2.1 hd hv (kk ls hl)⟩
theorem ok_goto {off : Int} {t : Nat} (hd : decode cc pc = .ok (.goto off, 3)) (ht : (pc : Int) + off = (t : Int)) : am_ok l D ad b0 Hb I y cc nL ret pc (o_goto t) := by
  refine am_mkS (fun L S h v => by simp [o_goto, am_nx]) (fun L S h pc' L' S' h' e => ?_)
  unfold o_goto am_nx at e
  cases e
  exact ⟨rfl, fun p e s m args below meth c R cx H locs cells slots ls Q hl _ kk => lv_goto cx.1 cx.2.1 hd ht (kk ls hl)⟩
theorem ok_dup (hd : decode cc pc = .ok (.dup, 1)) (hn : pc + 1 = nx) : am_ok l D ad b0 Hb I y cc nL ret pc (o_dup nx) := by
  subst hn
  refine am_mkS (fun L S h v => ?_) (fun L S h pc' L' S' h' e => ?_)
  · unfold o_dup am_nx; split <;> simp
  · unfold o_dup am_nx at e
    split at e
    · cases e
      exact ⟨rfl, fun p e s m args below meth c R cx H locs cells slots ls Q hl _ kk => lv_dup cx.1 cx.2.1 hd rfl (kk ls hl)⟩
    · cases e
      exact ⟨rfl, fun p e s m args below meth c R cx H locs cells slots ls Q hl _ kk => lv_dup cx.1 cx.2.1 hd rfl (kk ls hl)⟩
    · cases e
theorem ok_dup2 (hd : decode cc pc = .ok (.dup2, 1)) (hn : pc + 1 = nx) : am_ok l D ad b0 Hb I y cc nL ret pc (o_dup2 nx) := by
  subst hn
  refine am_mkS (fun L S h v => ?_) (fun L S h pc' L' S' h' e => ?_)
  · unfold o_dup2 am_nx; split <;> simp
  · unfold o_dup2 am_nx at e
    split at e
    · cases e
      exact ⟨rfl, fun p e s m args below meth c R cx H locs cells slots ls Q hl _ kk => lv_dup2_11 cx.1 cx.2.1 hd rfl rfl (kk ls hl)⟩
    · cases e
theorem ok_pop (hd : decode cc pc = .ok (.pop, 1)) (hn : pc + 1 = nx) : am_ok l D ad b0 Hb I y cc nL ret pc (o_pop nx) := by
  subst hn
  refine am_mkS (fun L S h v => ?_) (fun L S h pc' L' S' h' e => ?_)
  · unfold o_pop am_nx; split <;> simp
  · unfold o_pop am_nx at e
    split at e
    · rename_i x S0
      cases e
      exact ⟨rfl, fun p e s m args below meth c R cx H locs cells slots ls Q hl _ kk => lv_pop (va := .int x) cx.1 cx.2.1 hd rfl (kk ls hl)⟩
    · rename_i x S0
      cases e
      exact ⟨rfl, fun p e s m args below meth c R cx H locs cells slots ls Q hl _ kk => lv_pop (va := .ref (ad x)) cx.1 cx.2.1 hd rfl (kk ls hl)⟩
    · cases e
theorem ok_iadd (hd : decode cc pc = .ok (.iadd, 1)) (hn : pc + 1 = nx) : am_ok l D ad b0 Hb I y cc nL ret pc (o_bin (fun x y => x + y) nx) := by
  subst hn
  refine am_mkS (fun L S h v => ?_) (fun L S h pc' L' S' h' e => ?_)
  · unfold o_bin am_nx; split <;> simp
  · unfold o_bin am_nx at e
    split at e
    · cases e
      exact ⟨rfl, fun p e s m args below meth c R cx H locs cells slots ls Q hl _ kk => lv_iadd cx.1 cx.2.1 hd (kk ls hl)⟩
    · cases e
theorem ok_isub (hd : decode cc pc = .ok (.isub, 1)) (hn : pc + 1 = nx) : am_ok l D ad b0 Hb I y cc nL ret pc (o_bin (fun x y => x - y) nx) := by
  subst hn
  refine am_mkS (fun L S h v => ?_) (fun L S h pc' L' S' h' e => ?_)
  · unfold o_bin am_nx; split <;> simp
  · unfold o_bin am_nx at e
    split at e
    · cases e
      exact ⟨rfl, fun p e s m args below meth c R cx H locs cells slots ls Q hl _ kk => lv_isub cx.1 cx.2.1 hd (kk ls hl)⟩
    · cases e
theorem ok_imul (hd : decode cc pc = .ok (.imul, 1)) (hn : pc + 1 = nx) : am_ok l D ad b0 Hb I y cc nL ret pc (o_bin (fun x y => x * y) nx) := by
  subst hn
  refine am_mkS (fun L S h v => ?_) (fun L S h pc' L' S' h' e => ?_)
  · unfold o_bin am_nx; split <;> simp
  · unfold o_bin am_nx at e
    split at e
    · cases e
      exact ⟨rfl, fun p e s m args below meth c R cx H locs cells slots ls Q hl _ kk => lv_imul cx.1 cx.2.1 hd (kk ls hl)⟩
    · cases e
theorem ok_iand (hd : decode cc pc = .ok (.iand, 1)) (hn : pc + 1 = nx) : am_ok l D ad b0 Hb I y cc nL ret pc (o_bin (fun x y => x &&& y) nx) := by
  subst hn
  refine am_mkS (fun L S h v => ?_) (fun L S h pc' L' S' h' e => ?_)
  · unfold o_bin am_nx; split <;> simp
  · unfold o_bin am_nx at e
    split at e
    · cases e
      exact ⟨rfl, fun p e s m args below meth c R cx H locs cells slots ls Q hl _ kk => lv_iand cx.1 cx.2.1 hd (kk ls hl)⟩
    · cases e
theorem ok_ior (hd : decode cc pc = .ok (.ior, 1)) (hn : pc + 1 = nx) : am_ok l D ad b0 Hb I y cc nL ret pc (o_bin (fun x y => x ||| y) nx) := by
  subst hn
  refine am_mkS (fun L S h v => ?_) (fun L S h pc' L' S' h' e => ?_)
  · unfold o_bin am_nx; split <;> simp
  · unfold o_bin am_nx at e
    split at e
    · cases e
      exact ⟨rfl, fun p e s m args below meth c R cx H locs cells slots ls Q hl _ kk => lv_ior cx.1 cx.2.1 hd (kk ls hl)⟩
    · cases e
theorem ok_ixor (hd : decode cc pc = .ok (.ixor, 1)) (hn : pc + 1 = nx) : am_ok l D ad b0 Hb I y cc nL ret pc (o_bin (fun x y => x ^^^ y) nx) := by
  subst hn
  refine am_mkS (fun L S h v => ?_) (fun L S h pc' L' S' h' e => ?_)
  · unfold o_bin am_nx; split <;> simp
  · unfold o_bin am_nx at e
    split at e
    · cases e
      exact ⟨rfl, fun p e s m args below meth c R cx H locs cells slots ls Q hl _ kk => lv_ixor cx.1 cx.2.1 hd (kk ls hl)⟩
    · cases e
theorem ok_ishl (hd : decode cc pc = .ok (.ishl, 1)) (hn : pc + 1 = nx) : am_ok l D ad b0 Hb I y cc nL ret pc (o_bin (fun x y => x <<< (y &&& 31)) nx) := by
  subst hn
  refine am_mkS (fun L S h v => ?_) (fun L S h pc' L' S' h' e => ?_)
  · unfold o_bin am_nx; split <;> simp
  · unfold o_bin am_nx at e
    split at e
    · cases e
      exact ⟨rfl, fun p e s m args below meth c R cx H locs cells slots ls Q hl _ kk => lv_ishl cx.1 cx.2.1 hd (kk ls hl)⟩
    · cases e
theorem ok_ishr (hd : decode cc pc = .ok (.ishr, 1)) (hn : pc + 1 = nx) : am_ok l D ad b0 Hb I y cc nL ret pc (o_bin (fun x y => x >>> (y &&& 31)) nx) := by
  subst hn
  refine am_mkS (fun L S h v => ?_) (fun L S h pc' L' S' h' e => ?_)
  · unfold o_bin am_nx; split <;> simp
  · unfold o_bin am_nx at e
    split at e
    · cases e
      exact ⟨rfl, fun p e s m args below meth c R cx H locs cells slots ls Q hl _ kk => lv_ishr cx.1 cx.2.1 hd (kk ls hl)⟩
    · cases e
theorem ok_iushr (hd : decode cc pc = .ok (.iushr, 1)) (hn : pc + 1 = nx) : am_ok l D ad b0 Hb I y cc nL ret pc (o_bin (fun x y => (x.toUInt32 >>> (y.toUInt32 &&& Int32.toUInt32 31)).toInt32) nx) := by
  subst hn
  refine am_mkS (fun L S h v => ?_) (fun L S h pc' L' S' h' e => ?_)
  · unfold o_bin am_nx; split <;> simp
  · unfold o_bin am_nx at e
    split at e
    · cases e
      exact ⟨rfl, fun p e s m args below meth c R cx H locs cells slots ls Q hl _ kk => lv_iushr cx.1 cx.2.1 hd rfl (kk ls hl)⟩
    · cases e
theorem ok_idiv (hd : decode cc pc = .ok (.idiv, 1)) (hn : pc + 1 = nx) : am_ok l D ad b0 Hb I y cc nL ret pc (o_div (fun x y => x / y) nx) := by
  subst hn
  refine am_mkS (fun L S h v => ?_) (fun L S h pc' L' S' h' e => ?_)
  · unfold o_div am_nx; split <;> (try split) <;> simp
  · unfold o_div am_nx at e
    split at e
    · split at e
      · cases e
      · rename_i hne
        cases e
        exact ⟨rfl, fun p e s m args below meth c R cx H locs cells slots ls Q hl _ kk => lv_idiv cx.1 cx.2.1 hd hne (kk ls hl)⟩
    · cases e
theorem ok_irem (hd : decode cc pc = .ok (.irem, 1)) (hn : pc + 1 = nx) : am_ok l D ad b0 Hb I y cc nL ret pc (o_div (fun x y => x - x / y * y) nx) := by
  subst hn
  refine am_mkS (fun L S h v => ?_) (fun L S h pc' L' S' h' e => ?_)
  · unfold o_div am_nx; split <;> (try split) <;> simp
  · unfold o_div am_nx at e
    split at e
    · split at e
      · cases e
      · rename_i hne
        cases e
        exact ⟨rfl, fun p e s m args below meth c R cx H locs cells slots ls Q hl _ kk => lv_irem cx.1 cx.2.1 hd hne (kk ls hl)⟩
    · cases e
theorem ok_ineg (hd : decode cc pc = .ok (.ineg, 1)) (hn : pc + 1 = nx) : am_ok l D ad b0 Hb I y cc nL ret pc (o_un (fun x => -x) nx) := by
  subst hn
  refine am_mkS (fun L S h v => ?_) (fun L S h pc' L' S' h' e => ?_)
  · unfold o_un am_nx; split <;> simp
  · unfold o_un am_nx at e
    split at e
    · cases e
      exact ⟨rfl, fun p e s m args below meth c R cx H locs cells slots ls Q hl _ kk => lv_ineg cx.1 cx.2.1 hd (kk ls hl)⟩
    · cases e
theorem ok_i2b (hd : decode cc pc = .ok (.i2b, 1)) (hn : pc + 1 = nx) : am_ok l D ad b0 Hb I y cc nL ret pc (o_un (fun x => x.toInt8.toInt32) nx) := by
  subst hn
  refine am_mkS (fun L S h v => ?_) (fun L S h pc' L' S' h' e => ?_)
  · unfold o_un am_nx; split <;> simp
  · unfold o_un am_nx at e
    split at e
    · cases e
      exact ⟨rfl, fun p e s m args below meth c R cx H locs cells slots ls Q hl _ kk => lv_i2b cx.1 cx.2.1 hd rfl (kk ls hl)⟩
    · cases e
theorem ok_i2c (hd : decode cc pc = .ok (.i2c, 1)) (hn : pc + 1 = nx) : am_ok l D ad b0 Hb I y cc nL ret pc (o_un (fun x => (x.toUInt32 % 65536).toInt32) nx) := by
  subst hn
  refine am_mkS (fun L S h v => ?_) (fun L S h pc' L' S' h' e => ?_)
  · unfold o_un am_nx; split <;> simp
  · unfold o_un am_nx at e
    split at e
    · cases e
      exact ⟨rfl, fun p e s m args below meth c R cx H locs cells slots ls Q hl _ kk => lv_i2c cx.1 cx.2.1 hd rfl (kk ls hl)⟩
    · cases e
theorem ok_i2l (hd : decode cc pc = .ok (.i2l, 1)) (hn : pc + 1 = nx) : am_ok l D ad b0 Hb I y cc nL ret pc (o_i2l nx) := by
  subst hn
  refine am_mkS (fun L S h v => ?_) (fun L S h pc' L' S' h' e => ?_)
  · unfold o_i2l am_nx; split <;> simp
  · unfold o_i2l am_nx at e
    split at e
    · cases e
      exact ⟨rfl, fun p e s m args below meth c R cx H locs cells slots ls Q hl _ kk => lv_i2l cx.1 cx.2.1 hd rfl (kk ls hl)⟩
    · cases e
theorem ok_l2i (hd : decode cc pc = .ok (.l2i, 1)) (hn : pc + 1 = nx) : am_ok l D ad b0 Hb I y cc nL ret pc (o_l2i nx) := by
  subst hn
  refine am_mkS (fun L S h v => ?_) (fun L S h pc' L' S' h' e => ?_)
  · unfold o_l2i am_nx; split <;> simp
  · unfold o_l2i am_nx at e
    split at e
    · cases e
      exact ⟨rfl, fun p e s m args below meth c R cx H locs cells slots ls Q hl _ kk => lv_l2i cx.1 cx.2.1 hd rfl (kk ls hl)⟩
    · cases e
theorem ok_lcmp (hd : decode cc pc = .ok (.lcmp, 1)) (hn : pc + 1 = nx) : am_ok l D ad b0 Hb I y cc nL ret pc (o_lcmp nx) := by
  subst hn
  refine am_mkS (fun L S h v => ?_) (fun L S h pc' L' S' h' e => ?_)
  · unfold o_lcmp am_nx; split <;> simp
  · unfold o_lcmp am_nx at e
    split at e
    · cases e
      exact ⟨rfl, fun p e s m args below meth c R cx H locs cells slots ls Q hl _ kk => W.lcmp cx.1 cx.2.1 hd (kk ls hl)⟩
    · cases e
theorem ok_land (hd : decode cc pc = .ok (.land, 1)) (hn : pc + 1 = nx) : am_ok l D ad b0 Hb I y cc nL ret pc (o_lbin (fun x y => x &&& y) nx) := by
  subst hn
  refine am_mkS (fun L S h v => ?_) (fun L S h pc' L' S' h' e => ?_)
  · unfold o_lbin am_nx; split <;> simp
  · unfold o_lbin am_nx at e
    split at e
    · cases e
      exact ⟨rfl, fun p e s m args below meth c R cx H locs cells slots ls Q hl _ kk => lv_land cx.1 cx.2.1 hd (kk ls hl)⟩
    · cases e
theorem ok_lor (hd : decode cc pc = .ok (.lor, 1)) (hn : pc + 1 = nx) : am_ok l D ad b0 Hb I y cc nL ret pc (o_lbin (fun x y => x ||| y) nx) := by
  subst hn
  refine am_mkS (fun L S h v => ?_) (fun L S h pc' L' S' h' e => ?_)
  · unfold o_lbin am_nx; split <;> simp
  · unfold o_lbin am_nx at e
    split at e
    · cases e
      exact ⟨rfl, fun p e s m args below meth c R cx H locs cells slots ls Q hl _ kk => lv_lor cx.1 cx.2.1 hd (kk ls hl)⟩
    · cases e
theorem ok_ladd (hd : decode cc pc = .ok (.ladd, 1)) (hn : pc + 1 = nx) : am_ok l D ad b0 Hb I y cc nL ret pc (o_lbin (fun x y => x + y) nx) := by
  subst hn
  refine am_mkS (fun L S h v => ?_) (fun L S h pc' L' S' h' e => ?_)
  · unfold o_lbin am_nx; split <;> simp
  · unfold o_lbin am_nx at e
    split at e
    · cases e
      exact ⟨rfl, fun p e s m args below meth c R cx H locs cells slots ls Q hl _ kk => lv_ladd cx.1 cx.2.1 hd (kk ls hl)⟩
    · cases e
theorem ok_lshl (hd : decode cc pc = .ok (.lshl, 1)) (hn : pc + 1 = nx) : am_ok l D ad b0 Hb I y cc nL ret pc (o_lsh (fun x y => x <<< (y.toInt64 &&& 63)) nx) := by
  subst hn
  refine am_mkS (fun L S h v => ?_) (fun L S h pc' L' S' h' e => ?_)
  · unfold o_lsh am_nx; split <;> simp
  · unfold o_lsh am_nx at e
    split at e
    · cases e
      exact ⟨rfl, fun p e s m args below meth c R cx H locs cells slots ls Q hl _ kk => lv_lshl cx.1 cx.2.1 hd rfl (kk ls hl)⟩
    · cases e
theorem ok_lshr (hd : decode cc pc = .ok (.lshr, 1)) (hn : pc + 1 = nx) : am_ok l D ad b0 Hb I y cc nL ret pc (o_lsh (fun x y => x >>> (y.toInt64 &&& 63)) nx) := by
  subst hn
  refine am_mkS (fun L S h v => ?_) (fun L S h pc' L' S' h' e => ?_)
  · unfold o_lsh am_nx; split <;> simp
  · unfold o_lsh am_nx at e
    split at e
    · cases e
      exact ⟨rfl, fun p e s m args below meth c R cx H locs cells slots ls Q hl _ kk => lv_lshr cx.1 cx.2.1 hd rfl (kk ls hl)⟩
    · cases e
theorem ok_lushr (hd : decode cc pc = .ok (.lushr, 1)) (hn : pc + 1 = nx) : am_ok l D ad b0 Hb I y cc nL ret pc (o_lsh (fun x y => (x.toUInt64 >>> (y.toInt64.toUInt64 &&& Int64.toUInt64 63)).toInt64) nx) := by
  subst hn
  refine am_mkS (fun L S h v => ?_) (fun L S h pc' L' S' h' e => ?_)
  · unfold o_lsh am_nx; split <;> simp
  · unfold o_lsh am_nx at e
    split at e
    · cases e
      exact ⟨rfl, fun p e s m args below meth c R cx H locs cells slots ls Q hl _ kk => lv_lushr cx.1 cx.2.1 hd rfl (kk ls hl)⟩
    · cases e
end AMO
