/-! CALLS -/
/-- what a method of the table needs to be called: an object's method -/
def am_mv (i : am_I) (n : Nat) : Prop := Cond.instanceMethod i.1 ∈ am_tb ∧ Cond.selects i.1.cls i.1 i.1 ∈ am_tb ∧ Cond.initialized i.1.cls ∈ am_tb ∧ Cond.code i.1 i.2.1 i.2.2.1 i.2.2.2 ∈ am_tb ∧ i.2.2.1 ≤ 45 ∧ (i.1.cls = i.1.cls ∧ i.1.cls ≠ "java/lang/invoke/MethodHandle" ∧ i.1.cls ≠ "java/lang/invoke/VarHandle" ∧ (parseMethodDescriptor i.1.desc).map (fun d => d.parameters.length) = some n)
def am_ms (i : am_I) (n : Nat) : Prop := Cond.static i.1 ∈ am_tb ∧ Cond.initialized i.1.cls ∈ am_tb ∧ Cond.code i.1 i.2.1 i.2.2.1 i.2.2.2 ∈ am_tb ∧ i.2.2.1 ≤ 45 ∧ (i.1.cls ≠ "java/lang/invoke/MethodHandle" ∧ i.1.cls ≠ "java/lang/invoke/VarHandle" ∧ (parseMethodDescriptor i.1.desc).map (fun d => d.parameters.length) = some n)
def am_mi (i : am_I) (n : Nat) : Prop := i.1.name = "<init>" ∧ i.2.2.2 = none ∧ Cond.instanceMethod i.1 ∈ am_tb ∧ Cond.initialized i.1.cls ∈ am_tb ∧ Cond.code i.1 i.2.1 i.2.2.1 i.2.2.2 ∈ am_tb ∧ i.2.2.1 ≤ 45 ∧ (i.1.cls ≠ "java/lang/invoke/MethodHandle" ∧ i.1.cls ≠ "java/lang/invoke/VarHandle" ∧ (parseMethodDescriptor i.1.desc).map (fun d => d.parameters.length) = some n)
section AMC
variable {l : Launch} {D : va_G} {ad : Nat → Nat} {b0 : Nat} {Hb : Heap} {I : Nat → am_I} {y : MethodName} {cc : ByteArray} {nL : Nat} {ret : Option FieldType} {pc nx : Nat}
theorem am_blind {as : List Value} {h : am_H} : FrameBlind (fun v U => v = (as.map (am_cv ad)).toArray ∧ am_rel D ad b0 Hb U h U.heap ∧ am_U D ad b0 Hb U) := by
  intro a U g mk q
  obtain ⟨q1, q2, q3⟩ := q
  exact ⟨q1, am_rel.moved (u := U) (U := U.calling g mk a) (Vm.Alike.refl U.vm) q2, am_U.same (u := U) (U := U.calling g mk a) rfl q3⟩
theorem am_pres {s : State} {as : List Value} {h : am_H} {H : Heap} (hr : am_rel D ad b0 Hb s h H) (hU : am_U D ad b0 Hb s) : ∀ U : State, U.heap = H → s.WarmedH U.vm → (as.map (am_cv ad)).toArray = (as.map (am_cv ad)).toArray ∧ am_rel D ad b0 Hb U h U.heap ∧ am_U D ad b0 Hb U := fun U hH hW =>
  ⟨rfl, by rw [hH]; exact hr.moved hW.alike, hU.warm hW⟩
theorem am_cont {p : Program} {e : Env} {s : State} {m : MethodId} {args : Array Value} {below : List Frame} {meth : Method} {c : Code} {R : Room} {H : Heap} {locs : List Loc} {cells slots mc ms : Nat} {ls : Array Slot} {Q : State → Prop} {st0 rest : List Value} {v : Option Value} {h' : am_H}
    (hr : va_Run p l e R s m args below meth c H locs cells slots mc ms (F0 m pc ls st0) rest (fun _ oc t => oc = .returned (v.map (am_cv ad)) ∧ am_rel D ad b0 Hb t h' t.heap) (fun q => b0 ≤ q)) (hlo : ∀ q ∈ locs, b0 ≤ q.base)
    (kk : ∀ (H' : Heap) (locs' : List Loc), am_rel D ad b0 Hb s h' H' → (∀ q ∈ locs', b0 ≤ q.base) → W p l e R s m args below meth c H' locs' (cells + mc) (slots + ms) Q (F0 m (pc + 3) ls ((v.map (am_cv ad)).toList ++ rest))) : W p l e R s m args below meth c H locs cells slots Q (F0 m pc ls st0) := by
  intro T hT X
  obtain ⟨v', st₀, t, T', L, h0, X', hL, e1, e2, ⟨hv, hrel⟩, st⟩ := hr T hT X
  cases hv
  have hvm : t.vm.Alike s.vm := by rw [← e2]; exact X'.warmed.alike.symm
  obtain ⟨t2, a1, b1⟩ := kk T'.heap (locs ++ L) (by rw [e1]; exact hrel.moved hvm) (fun q hq => by
    rcases List.mem_append.mp hq with h | h
    · exact hlo q h
    · exact hL q h) T' rfl X'
  exact ⟨t2, st t2 a1, b1⟩
theorem am_room {d maxL : Nat} {R : Room} (h45 : maxL ≤ 45) (hf : d + 2 ≤ R.frames) (hl : 64 * (d + 2) ≤ R.locals) : (d + 1) + 1 ≤ R.frames ∧ 8 + (maxL + 11) + 64 * (d + 1) ≤ R.locals := ⟨by omega, by omega⟩
theorem am_goodS {i : am_I} (hc : Cond.code i.1 i.2.1 i.2.2.1 i.2.2.2 ∈ am_tb) : GoodIn am_tb (am_ws i) := am_goodC hc am_tb_good
theorem am_stk (ad : Nat → Nat) (S : List Value) (n : Nat) : S.map (am_cv ad) = (((S.take n).reverse).map (am_cv ad)).reverse ++ (S.drop n).map (am_cv ad) := by
  rw [List.map_reverse, List.reverse_reverse, ← List.map_append, List.take_append_drop]
theorem am_v2 (ad : Nat → Nat) (v : Option Value) (S : List Value) : (v.toList ++ S).map (am_cv ad) = (v.map (am_cv ad)).toList ++ S.map (am_cv ad) := by
  cases v <;> rfl
/-- the receiver -/
theorem am_recv {s : State} {h : am_H} {H : Heap} (hr : am_rel D ad b0 Hb s h H) (hU : am_U D ad b0 Hb s) {k ci : Nat} {t : Nat × Nat} {C : String} (ht : h.1[k]? = some t) (hci : t.1 = ci) (hC : (ci = 12 ∧ C = "java/lang/String") ∨ ∃ q : vw_C, vwCl[ci]? = some q ∧ ci < 11 ∧ q.1 = C) : ∃ cell : Cell, H[ad k]? = some cell ∧ cell.vm.isStatics = false ∧ s.vm.findClass C = some cell.cls := by
  subst hci
  rcases hC with ⟨h12, rfl⟩ | ⟨q, hq, h11, rfl⟩
  · by_cases hk : k < 12
    · rcases hr.2.2.2.2.1 k t hk ht with ⟨-, ⟨cell, q1, q2, q3, q4⟩, -⟩ | ⟨q, -⟩
      · exact ⟨cell, by rw [hr.2.1 _ (Nat.not_le.mp q4)]; exact q1, q2, q3⟩
      · omega
    · rcases hr.2.2.2.2.2 k t (Nat.not_lt.mp hk) ht with ⟨q, -⟩ | ⟨q, -⟩ | ⟨q, -⟩ <;> omega
  · by_cases hk : k < 12
    · rcases hr.2.2.2.2.1 k t hk ht with ⟨q, -⟩ | ⟨q, -⟩ <;> omega
    · rcases hr.2.2.2.2.2 k t (Nat.not_lt.mp hk) ht with ⟨-, r, w1, cell, q1, q2, q3, -⟩ | ⟨q, -⟩ | ⟨q, -⟩
      · cases w1.symm.trans hq
        exact ⟨cell, q1, by rw [q3]; rfl, by rw [q2]; exact (hU.1.1 t.1 _ hq).2.1⟩
      · omega
      · omega
theorem ok_invV {ci y' n index : Nat} {i : am_I} (hI : I y' = i) (hC : (ci = 12 ∧ i.1.cls = "java/lang/String") ∨ ∃ q : vw_C, vwCl[ci]? = some q ∧ ci < 11 ∧ q.1 = i.1.cls) (hm : am_mv i n) (hd : decode cc pc = .ok (.invokevirtual index, 3)) (hw : Cond.methodLink y.cls index i.1 ∈ am_tb) (hn : pc + 3 = nx) : am_ok l D ad b0 Hb I y cc nL ret pc (o_invV ci y' n nx) := by
  subst hn
  refine ⟨fun L S h a b c d e => ?_, fun L S h v e => ?_, fun L S h y2 as pc' S' e => ?_⟩
  · unfold o_invV at e; split at e <;> (try split at e) <;> (try split at e) <;> (try split at e) <;> simp at e
  · unfold o_invV at e; split at e <;> (try split at e) <;> (try split at e) <;> (try split at e) <;> simp at e
  · unfold o_invV at e
    split at e
    · rename_i hlen
      split at e
      · rename_i b rest hdrop
        split at e
        · rename_i t ht
          split at e
          · rename_i hg
            cases e
            intro p e s m args below meth c R cx H locs cells slots ls Q d v h' hM hf hlq hl hr hlo hcs hss kk
            obtain ⟨hx, hb, hml, hown, hts, hU, -, -, -, -, -, had⟩ := cx
            have hls : ls.size = nL := by
              obtain ⟨-, lv, h1, -⟩ := hl
              exact h1.1
            rw [hI] at hM
            obtain ⟨m1, m2, m3, m4, m5, m6⟩ := hm
            have hcw : CallW R s args y.cls i.1.cls index i.1 i.2.1 i.2.2.1 i.2.2.2 (am_ws i) { frames := d + 1, cells := h'.1.length - h.1.length, slots := am_ns h' - am_ns h, locals := 64 * (d + 1) } (h'.1.length - h.1.length) (am_ns h' - am_ns h) n :=
              cwV n hts (am_goodC hw (am_goodC m1 (am_goodC m2 (am_goodC m3 (am_goodS m4))))) rfl rfl rfl m6 (am_room m5 hf hlq)
            refine am_cont (st0 := S.map (am_cv ad)) (rest := S'.map (am_cv ad)) (v := v) (h' := h') (va_runV (b := ad b) (As := ((S.take n).reverse).map (am_cv ad)) ⟨hx, hb, hml, hown, hts⟩ hM hcw ⟨am_blind, am_recv hr hU ht hg.1 hC, am_pres (as := .ref b :: (S.take n).reverse) hr hU⟩ rfl (by simp; omega) hls ?_ (lv_room (by rw [am_cat_map]; exact hg.2)) hd ⟨hcs, hss⟩) hlo (fun H' locs' hr' hlo' => by
              have := kk H' locs' hr' hlo'
              rwa [am_v2] at this)
            show S.map (am_cv ad) = _
            rw [am_stk ad S n, hdrop]
            rfl
          · cases e
        · cases e
      · cases e
    · cases e
theorem ok_invS {y' n index : Nat} {i : am_I} (hI : I y' = i) (hm : am_ms i n) (hd : decode cc pc = .ok (.invokestatic index, 3)) (hw : Cond.methodLink y.cls index i.1 ∈ am_tb) (hn : pc + 3 = nx) : am_ok l D ad b0 Hb I y cc nL ret pc (o_invS y' n nx) := by
  subst hn
  refine ⟨fun L S h a b c d e => ?_, fun L S h v e => ?_, fun L S h y2 as pc' S' e => ?_⟩
  · unfold o_invS at e; split at e <;> simp at e
  · unfold o_invS at e; split at e <;> simp at e
  · unfold o_invS at e
    split at e
    · rename_i hg
      cases e
      intro p e s m args below meth c R cx H locs cells slots ls Q d v h' hM hf hlq hl hr hlo hcs hss kk
      obtain ⟨hx, hb, hml, hown, hts, hU, -, -, -, -, -, had⟩ := cx
      have hls : ls.size = nL := by
        obtain ⟨-, lv, h1, -⟩ := hl
        exact h1.1
      rw [hI] at hM
      obtain ⟨m1, m3, m4, m5, m6⟩ := hm
      have hcw := va_cwS (R := R) (index := index) (rm := { frames := d + 1, cells := h'.1.length - h.1.length, slots := am_ns h' - am_ns h, locals := 64 * (d + 1) }) (mc := h'.1.length - h.1.length) (ms := am_ns h' - am_ns h) n hts (am_goodC hw (am_goodC m1 (am_goodC m3 (am_goodS m4)))) rfl rfl rfl m6 (am_room m5 hf hlq)
      exact am_cont (st0 := S.map (am_cv ad)) (rest := (S.drop n).map (am_cv ad)) (v := v) (h' := h') (va_runS (As := ((S.take n).reverse).map (am_cv ad)) ⟨hx, hb, hml, hown, hts⟩ hM hcw ⟨am_blind, am_pres hr hU⟩ rfl (by simp; omega) hls (am_stk ad S n) (lv_room (by rw [am_cat_map]; exact hg.2)) hd ⟨hcs, hss⟩) hlo (fun H' locs' hr' hlo' => by
        have := kk H' locs' hr' hlo'
        rwa [am_v2] at this)
    · cases e
theorem ok_invSN {y' n index : Nat} {host : String} {i : am_I} (hI : I y' = i) (hm : am_ms i n) (hd : decode cc pc = .ok (.invokestatic index, 3)) (hw : Cond.methodLinkNest y.cls index i.1 host ∈ am_nest) (hn : pc + 3 = nx) : am_ok l D ad b0 Hb I y cc nL ret pc (o_invS y' n nx) := by
  subst hn
  refine ⟨fun L S h a b c d e => ?_, fun L S h v e => ?_, fun L S h y2 as pc' S' e => ?_⟩
  · unfold o_invS at e; split at e <;> simp at e
  · unfold o_invS at e; split at e <;> simp at e
  · unfold o_invS at e
    split at e
    · rename_i hg
      cases e
      intro p e s m args below meth c R cx H locs cells slots ls Q d v h' hM hf hlq hl hr hlo hcs hss kk
      obtain ⟨hx, hb, hml, hown, hts, hU, -, -, -, -, -, had⟩ := cx
      have hls : ls.size = nL := by
        obtain ⟨-, lv, h1, -⟩ := hl
        exact h1.1
      rw [hI] at hM
      obtain ⟨m1, m3, m4, m5, m6⟩ := hm
      have hcw := va_cnB (R := R) (index := index) (host := host) (rm := { frames := d + 1, cells := h'.1.length - h.1.length, slots := am_ns h' - am_ns h, locals := 64 * (d + 1) }) (mc := h'.1.length - h.1.length) (ms := am_ns h' - am_ns h) n hts (am_goodS m4) rfl rfl rfl (hU.2.2.2.1 _ hw) (hts _ m3) m6 (am_room m5 hf hlq)
      exact am_cont (st0 := S.map (am_cv ad)) (rest := (S.drop n).map (am_cv ad)) (v := v) (h' := h') (va_runSN (As := ((S.take n).reverse).map (am_cv ad)) ⟨hx, hb, hml, hown, hts⟩ hM ⟨hcw, hts _ m1, trivial⟩ ⟨am_blind, am_pres hr hU⟩ rfl (by simp; omega) hls (am_stk ad S n) (lv_room (by rw [am_cat_map]; exact hg.2)) hd ⟨hcs, hss⟩) hlo (fun H' locs' hr' hlo' => by
        have := kk H' locs' hr' hlo'
        rwa [am_v2] at this)
    · cases e
theorem ok_invI {y' n index : Nat} {i : am_I} (hI : I y' = i) (hm : am_mi i n) (hd : decode cc pc = .ok (.invokespecial index, 3)) (hw : Cond.methodLink y.cls index i.1 ∈ am_tb ∨ ∃ host, Cond.methodLinkNest y.cls index i.1 host ∈ am_nest) (hn : pc + 3 = nx) : am_ok l D ad b0 Hb I y cc nL ret pc (o_invI y' n nx) := by
  subst hn
  refine ⟨fun L S h a b c d e => ?_, fun L S h v e => ?_, fun L S h y2 as pc' S' e => ?_⟩
  · unfold o_invI at e; split at e <;> (try split at e) <;> (try split at e) <;> simp at e
  · unfold o_invI at e; split at e <;> (try split at e) <;> (try split at e) <;> simp at e
  · unfold o_invI at e
    split at e
    · rename_i hlen
      split at e
      · rename_i b rest hdrop
        split at e
        · rename_i hg
          cases e
          intro p e s m args below meth c R cx H locs cells slots ls Q d v h' hM hf hlq hl hr hlo hcs hss kk
          obtain ⟨hx, hb, hml, hown, hts, hU, -, -, -, -, -, had⟩ := cx
          have hls : ls.size = nL := by
            obtain ⟨-, lv, h1, -⟩ := hl
            exact h1.1
          rw [hI] at hM
          obtain ⟨i1, i2, i3, i4⟩ := i
          obtain ⟨m0, mn, m1, m3, m4, m5, m6⟩ := hm
          dsimp only at m0 mn m1 m3 m4 m5 m6
          subst mn
          have hstk : (F0 m pc ls (S.map (am_cv ad))).stack = (((S.take n).reverse).map (am_cv ad)).reverse ++ .ref (ad b) :: S'.map (am_cv ad) := by
            show S.map (am_cv ad) = _
            rw [am_stk ad S n, hdrop]
            rfl
          rcases hw with hw | ⟨host, hw⟩
          · have hcw := cwI (R := R) (own := y.cls) (index := index) (rm := { frames := d + 1, cells := h'.1.length - h.1.length, slots := am_ns h' - am_ns h, locals := 64 * (d + 1) }) (mc := h'.1.length - h.1.length) (ms := am_ns h' - am_ns h) n hts (am_goodS (i := (i1, i2, i3, none)) m4) rfl rfl rfl (hts _ m3) (hts _ hw) (hts _ m1) m0 m6 (am_room m5 hf hlq)
            exact am_cont (st0 := S.map (am_cv ad)) (rest := S'.map (am_cv ad)) (v := v) (h' := h') (va_runI (b := ad b) (As := ((S.take n).reverse).map (am_cv ad)) ⟨hx, hb, hml, hown, hts⟩ hM hcw ⟨am_blind, am_pres (as := .ref b :: (S.take n).reverse) hr hU⟩ rfl (by simp; omega) hls hstk (lv_room (by rw [am_cat_map]; exact hg)) hd ⟨hcs, hss⟩) hlo (fun H' locs' hr' hlo' => by
              have := kk H' locs' hr' hlo'
              rwa [am_v2] at this)
          · have hcw := va_cnB (R := R) (index := index) (host := host) (rm := { frames := d + 1, cells := h'.1.length - h.1.length, slots := am_ns h' - am_ns h, locals := 64 * (d + 1) }) (mc := h'.1.length - h.1.length) (ms := am_ns h' - am_ns h) n hts (am_goodS (i := (i1, i2, i3, none)) m4) rfl rfl rfl (hU.2.2.2.1 _ hw) (hts _ m3) m6 (am_room m5 hf hlq)
            exact am_cont (st0 := S.map (am_cv ad)) (rest := S'.map (am_cv ad)) (v := v) (h' := h') (va_runIN (b := ad b) (As := ((S.take n).reverse).map (am_cv ad)) ⟨hx, hb, hml, hown, hts⟩ hM ⟨hcw, m0, hts _ m1⟩ ⟨am_blind, am_pres (as := .ref b :: (S.take n).reverse) hr hU⟩ rfl (by simp; omega) hls hstk (lv_room (by rw [am_cat_map]; exact hg)) hd ⟨hcs, hss⟩) hlo (fun H' locs' hr' hlo' => by
              have := kk H' locs' hr' hlo'
              rwa [am_v2] at this)
        · cases e
      · cases e
    · cases e
theorem ok_mmax {index : Nat} (hd : decode cc pc = .ok (.invokestatic index, 3)) (hw1 : Cond.methodLink y.cls index Lib.Math.max.name ∈ am_tb) (hw2 : Cond.static Lib.Math.max.name ∈ am_tb) (hw3 : Cond.initialized "java/lang/Math" ∈ am_tb) (hw4 : Cond.code Lib.Math.max.name Lib.Math.max.code 2 (some .int) ∈ am_tb) (hn : pc + 3 = nx) : am_ok l D ad b0 Hb I y cc nL ret pc (o_mmax nx) := by
  subst hn
  refine am_mkN (fun L S h v => ?_) (fun L S h pc' L' S' h' e => ?_)
  · unfold o_mmax am_nx; split <;> (try split) <;> simp
  · unfold o_mmax am_nx at e
    split at e
    · rename_i yy xx S0
      split at e
      · rename_i hs
        cases e
        refine ⟨Nat.le_refl _, Nat.le_refl _, fun p e s m args below meth c R cx H locs cells slots ls Q hl hr hlo hcs hss kk => ?_⟩
        obtain ⟨hx, hb, hml, hown, hts, hU, -, -, hmn, hfr, hlq, had⟩ := cx
        have hls : ls.size = nL := by
          obtain ⟨-, lv, h1, -⟩ := hl
          exact h1.1
        exact va_mmax hx hb (by rw [hml]; exact hls.symm) hown (hts _ hw1) (hts _ hw2) (hts _ hw3) (hts _ hw4) hfr (by rw [am_cat_map]; omega) (by omega) (by omega) hd (am_w0 rfl (kk H locs ls hl hr hlo))
      · cases e
    · cases e
theorem ok_mmin {index : Nat} (hd : decode cc pc = .ok (.invokestatic index, 3)) (hw1 : Cond.methodLink y.cls index Lib.Math.min.name ∈ am_tb) (hw2 : Cond.static Lib.Math.min.name ∈ am_tb) (hw3 : Cond.initialized "java/lang/Math" ∈ am_tb) (hw4 : Cond.code Lib.Math.min.name Lib.Math.min.code 2 (some .int) ∈ am_tb) (hn : pc + 3 = nx) : am_ok l D ad b0 Hb I y cc nL ret pc (o_mmin nx) := by
  subst hn
  refine am_mkN (fun L S h v => ?_) (fun L S h pc' L' S' h' e => ?_)
  · unfold o_mmin am_nx; split <;> (try split) <;> simp
  · unfold o_mmin am_nx at e
    split at e
    · rename_i yy xx S0
      split at e
      · rename_i hs
        cases e
        refine ⟨Nat.le_refl _, Nat.le_refl _, fun p e s m args below meth c R cx H locs cells slots ls Q hl hr hlo hcs hss kk => ?_⟩
        obtain ⟨hx, hb, hml, hown, hts, hU, -, -, hmn, hfr, hlq, had⟩ := cx
        have hls : ls.size = nL := by
          obtain ⟨-, lv, h1, -⟩ := hl
          exact h1.1
        exact va_mmin hx hb (by rw [hml]; exact hls.symm) hown (hts _ hw1) (hts _ hw2) (hts _ hw3) (hts _ hw4) hfr (by rw [am_cat_map]; omega) (by omega) (by omega) hd (am_w0 rfl (kk H locs ls hl hr hlo))
      · cases e
    · cases e
end AMC
