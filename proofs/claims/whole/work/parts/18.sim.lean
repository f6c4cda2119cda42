/-! THE SMALL MACHINE'S RUNS ARE THE JVM's -/
theorem am_sl_len (ad : Nat → Nat) : ∀ as : List Value, (lg_sl (as.map (am_cv ad))).length = (am_sl as).length
  | [] => rfl
  | v :: t => by
    have ih := am_sl_len ad t
    have e : lg_sl ((v :: t).map (am_cv ad)) = (if (am_cv ad v).category = 2 then [Slot.val (am_cv ad v), .second] else [.val (am_cv ad v)]) ++ lg_sl (t.map (am_cv ad)) := rfl
    rw [e, List.length_append, ih, am_cv_cat]
    cases v <;> simp [am_sl, Value.category] <;> omega
theorem am_sl_in (ad : Nat → Nat) : ∀ (as : List Value) (o i : Nat) (v : Value), (am_sl as)[i]? = some (some v) → (o + i, am_cv ad v) ∈ lv_args o (as.map (am_cv ad))
  | [], o, i, v, h => by simp [am_sl] at h
  | w :: t, o, i, v, h => by
    have hc := am_cv_cat ad w
    rw [List.map_cons]
    show _ ∈ (o, am_cv ad w) :: lv_args (if (am_cv ad w).category = 2 then o + 2 else o + 1) (t.map (am_cv ad))
    rw [hc]
    by_cases h2 : w.category = 2
    · have e : am_sl (w :: t) = some w :: none :: am_sl t := by cases w <;> simp_all [am_sl, Value.category]
      rw [e] at h
      rw [if_pos h2]
      match i, h with
      | 0, h =>
        cases h
        exact List.mem_cons_self
      | 1, h => simp at h
      | i + 2, h =>
        have := am_sl_in ad t (o + 2) i v (by simpa using h)
        refine List.mem_cons_of_mem _ ?_
        rw [show o + (i + 2) = o + 2 + i by omega]
        exact this
    · have e : am_sl (w :: t) = some w :: am_sl t := by cases w <;> simp_all [am_sl, Value.category]
      rw [e] at h
      rw [if_neg h2]
      match i, h with
      | 0, h =>
        cases h
        exact List.mem_cons_self
      | i + 1, h =>
        have := am_sl_in ad t (o + 1) i v (by simpa using h)
        refine List.mem_cons_of_mem _ ?_
        rw [show o + (i + 1) = o + 1 + i by omega]
        exact this
theorem am_lc_init (ad : Nat → Nat) {n : Nat} {as : List Value} {L : am_L} (h : am_init n as = some L) : am_lc ad ((lg_sl (as.map (am_cv ad)) ++ List.replicate (n - (lg_sl (as.map (am_cv ad))).length) Slot.unset).toArray) n L := by
  unfold am_init at h
  split at h
  · rename_i hle
    cases h
    refine ⟨by simp; omega, _, lv_entry (as.map (am_cv ad)) (n := n) (by rw [am_sl_len]; exact hle), fun i v hv => ?_⟩
    by_cases hi : i < (am_sl as).length
    · rw [List.getElem?_append_left hi] at hv
      have := am_sl_in ad as 0 i v hv
      rwa [Nat.zero_add] at this
    · rw [List.getElem?_append_right (by omega), List.getElem?_replicate] at hv
      split at hv <;> simp at hv
  · cases h
/-- how a method ends: with what, at which instruction -/
def am_end (cc : ByteArray) (ret : Option FieldType) (pc : Nat) (v : Option Value) : Prop :=
  (v = none ∧ ret = none ∧ decode cc pc = .ok (.return_, 1)) ∨ (∃ (x : Int32) (ty : FieldType), v = some (.int x) ∧ ret = some ty ∧ narrow ty (.int x) = .int x ∧ decode cc pc = .ok (.ireturn, 1)) ∨ (∃ (k : Nat) (rt : FieldType), v = some (.ref k) ∧ ret = some rt ∧ ((∃ n, rt = .object n) ∨ ∃ t, rt = .array t) ∧ decode cc pc = .ok (.areturn, 1))
section AMZ
variable {l : Launch} {D : va_G} {ad : Nat → Nat} {b0 : Nat} {Hb : Heap} {I : Nat → am_I} {P : am_P}
theorem arun_mono (hP : ∀ y pc op, P.1 y pc = some op → am_ok l D ad b0 Hb I (I y).1 (I y).2.1 (I y).2.2.1 (I y).2.2.2 pc op) : ∀ (f d y pc : Nat) (L : am_L) (S : List Value) (h : am_H) (r : Option Value) (h' : am_H), arun P f d y pc L S h = some (r, h') → h.1.length ≤ h'.1.length ∧ am_ns h ≤ am_ns h'
  | 0, d, y, pc, L, S, h, r, h', e => by simp [arun] at e
  | f + 1, d, y, pc, L, S, h, r, h', e => by
    unfold arun at e
    split at e
    · cases e
    · rename_i op hop
      split at e
      · cases e
      · rename_i pc' L' S' h1 hs
        have a := (hP y pc op hop).1 _ _ _ _ _ _ _ hs
        have b := arun_mono hP f d y pc' L' S' h1 r h' e
        exact ⟨Nat.le_trans a.1 b.1, Nat.le_trans a.2.1 b.2⟩
      · cases e
        exact ⟨Nat.le_refl _, Nat.le_refl _⟩
      · rename_i y' as pc' S' hs
        cases d with
        | zero => cases e
        | succ d' =>
          dsimp only at e
          split at e
          · cases e
          · rename_i L0 hL0
            split at e
            · cases e
            · rename_i v h1 h2
              have a := arun_mono hP f d' y' 0 L0 [] h v h1 h2
              have b := arun_mono hP f (d' + 1) y pc' L (v.toList ++ S') h1 r h' e
              exact ⟨Nat.le_trans a.1 b.1, Nat.le_trans a.2 b.2⟩
/-- the walk of a method from any of its places -/
def am_walks (l : Launch) (D : va_G) (ad : Nat → Nat) (b0 : Nat) (Hb : Heap) (I : Nat → am_I) (P : am_P) (f : Nat) : Prop :=
  ∀ (d y pc : Nat) (L : am_L) (S : List Value) (h : am_H) (r : Option Value) (h' : am_H), arun P f d y pc L S h = some (r, h') →
    ∀ (p : Program) (e : Env) (s : State) (m : MethodId) (args : Array Value) (below : List Frame) (meth : Method) (c : Code) (R : Room), am_cx D ad b0 Hb p s m args meth c R (I y).1 (I y).2.1 (I y).2.2.1 (I y).2.2.2 → d + 1 ≤ R.frames → 64 * (d + 1) ≤ R.locals →
    ∀ (H : Heap) (locs : List Loc) (cells slots : Nat) (ls : Array Slot) (Q : State → Prop), am_lc ad ls (I y).2.2.1 L → am_rel D ad b0 Hb s h H → (∀ q ∈ locs, b0 ≤ q.base) → cells + (h'.1.length - h.1.length) ≤ R.cells → slots + (am_ns h' - am_ns h) ≤ R.slots →
    (∀ (pc' : Nat) (ls' : Array Slot) (H' : Heap) (locs' : List Loc), am_rel D ad b0 Hb s h' H' → (∀ q ∈ locs', b0 ≤ q.base) → am_end (I y).2.1 (I y).2.2.2 pc' r → W p l e R s m args below meth c H' locs' (cells + (h'.1.length - h.1.length)) (slots + (am_ns h' - am_ns h)) Q (F0 m pc' ls' (r.toList.map (am_cv ad)))) →
    W p l e R s m args below meth c H locs cells slots Q (F0 m pc ls (S.map (am_cv ad)))
theorem am_met (had : ∀ k, 12 ≤ k → ad k = b0 + (k - 12)) (hPl : ∀ y, plainName (I y).1.cls = true) (hL : ∀ y, P.2 y = (I y).2.2.1) {f : Nat} (hW : am_walks l D ad b0 Hb I P f) {d y : Nat} {as : List Value} {L : am_L} {h h' : am_H} {r : Option Value} (hL0 : am_init (P.2 y) as = some L) (hrun : arun P f d y 0 L [] h = some (r, h')) : am_M l D ad b0 Hb d (I y) as h r h' := by
  refine Met.ofW (cc := (I y).2.1) (maxL := (I y).2.2.1) (ret := (I y).2.2.2) (hPl y) rfl ?_
  intro p e s m args below meth c s₁ B hml hv
  obtain ⟨rfl, hrel, hU⟩ := hv
  have hts := atoms_spec (ws := am_ws (I y)) B.pre
  have hown : s.vm.findClass (I y).1.cls = some m.cls := findClass_of_methodNamed B.named
  have hnm : meth.name = (I y).1.name := (name_of_methodNamed B.named B.method).1
  rw [lg_entry_eq]
  rw [hL y] at hL0
  have cx : am_cx D ad b0 Hb p s m (as.map (am_cv ad)).toArray meth c { frames := d + 1, cells := h'.1.length - h.1.length, slots := am_ns h' - am_ns h, locals := 64 * (d + 1) } (I y).1 (I y).2.1 (I y).2.2.1 (I y).2.2.2 :=
    ⟨B.exec, B.bytes, hml, hown, fun w hw => hts w (List.mem_cons_of_mem _ hw), hU, B.returns, B.notSynchronized, fun _ => hnm, Nat.le_add_left _ _, by show 64 ≤ 64 * (d + 1); omega, had⟩
  refine hW d y 0 L [] h r h' hrun p e s m _ below meth c _ cx (Nat.le_refl _) (Nat.le_refl _) s.heap [] 0 0 _ _ (am_lc_init ad hL0) hrel (fun q hq => by cases hq) (by simp) (by simp) ?_
  intro pc' ls' H' locs' hr' hlo' hend
  simp only [Nat.zero_add]
  have hq : ∀ t : State, t.heap = H' → s.WarmedH t.vm → Outcome.returned (r.map (am_cv ad)) = .returned (r.map (am_cv ad)) ∧ am_rel D ad b0 Hb t h' t.heap := fun t ht hw => ⟨rfl, by rw [ht]; exact hr'.moved hw.alike⟩
  have hlocks := B.notSynchronized
  rcases hend with ⟨rfl, hret, hdec⟩ | ⟨x, ty, rfl, hret, hnar, hdec⟩ | ⟨k, rt, rfl, hret, hrt, hdec⟩
  · exact W.vret B.exec B.bytes (by rw [B.returns]; exact hret) hq hlo' hdec hlocks
  · exact W.zret B.exec B.bytes (by rw [B.returns]; exact hret) hnar hq hlo' hdec hlocks
  · exact W.aret (v := .ref (ad k)) B.exec B.bytes (by rw [B.returns]; exact hret) hrt (Or.inr ⟨_, rfl⟩) hq hlo' hdec hlocks
theorem am_sound (had : ∀ k, 12 ≤ k → ad k = b0 + (k - 12)) (hPl : ∀ y, plainName (I y).1.cls = true) (hL : ∀ y, P.2 y = (I y).2.2.1) (hP : ∀ y pc op, P.1 y pc = some op → am_ok l D ad b0 Hb I (I y).1 (I y).2.1 (I y).2.2.1 (I y).2.2.2 pc op) : ∀ f, am_walks l D ad b0 Hb I P f
  | 0, d, y, pc, L, S, h, r, h', e => by simp [arun] at e
  | f + 1, d, y, pc, L, S, h, r, h', e => by
    have hW := am_sound had hPl hL hP f
    intro p e9 s m args below meth c R cx hf hlq H locs cells slots ls Q hl hr hlo hcs hss kk
    unfold arun at e
    split at e
    · cases e
    · rename_i op hop
      have hok := hP y pc op hop
      split at e
      · cases e
      · rename_i pc' L' S' h1 hs
        obtain ⟨a1, a2, a3⟩ := hok.1 _ _ _ _ _ _ _ hs
        have b := arun_mono hP f d y pc' L' S' h1 r h' e
        refine a3 p e9 s m args below meth c R cx H locs cells slots ls Q hl hr hlo (by omega) (by omega) fun H1 locs1 ls1 hl1 hr1 hlo1 => ?_
        refine hW d y pc' L' S' h1 r h' e p e9 s m args below meth c R cx hf hlq H1 locs1 _ _ ls1 Q hl1 hr1 hlo1 (by omega) (by omega) fun pc2 ls2 H2 locs2 hr2 hlo2 hend => ?_
        have := kk pc2 ls2 H2 locs2 hr2 hlo2 hend
        rwa [show cells + (h1.1.length - h.1.length) + (h'.1.length - h1.1.length) = cells + (h'.1.length - h.1.length) by omega, show slots + (am_ns h1 - am_ns h) + (am_ns h' - am_ns h1) = slots + (am_ns h' - am_ns h) by omega]
      · rename_i v hs
        cases e
        obtain ⟨a1, a2⟩ := hok.2.1 _ _ _ _ hs
        subst a1
        have := kk pc ls H locs hr hlo a2
        simpa only [Nat.sub_self, Nat.add_zero] using this
      · rename_i y' as pc' S' hs
        cases d with
        | zero => cases e
        | succ d' =>
          dsimp only at e
          split at e
          · cases e
          · rename_i L0 hL0
            split at e
            · cases e
            · rename_i v h1 h2
              have a := arun_mono hP f d' y' 0 L0 [] h v h1 h2
              have b := arun_mono hP f (d' + 1) y pc' L (v.toList ++ S') h1 r h' e
              have hM := am_met had hPl hL hW hL0 h2
              refine hok.2.2 _ _ _ _ _ _ _ hs p e9 s m args below meth c R cx H locs cells slots ls Q d' v h1 hM (by omega) (by omega) hl hr hlo (by omega) (by omega) fun H1 locs1 hr1 hlo1 => ?_
              refine hW (d' + 1) y pc' L (v.toList ++ S') h1 r h' e p e9 s m args below meth c R cx hf hlq H1 locs1 _ _ ls Q hl hr1 hlo1 (by omega) (by omega) fun pc2 ls2 H2 locs2 hr2 hlo2 hend => ?_
              have := kk pc2 ls2 H2 locs2 hr2 hlo2 hend
              rwa [show cells + (h1.1.length - h.1.length) + (h'.1.length - h1.1.length) = cells + (h'.1.length - h.1.length) by omega, show slots + (am_ns h1 - am_ns h) + (am_ns h' - am_ns h1) = slots + (am_ns h' - am_ns h) by omega]
end AMZ
