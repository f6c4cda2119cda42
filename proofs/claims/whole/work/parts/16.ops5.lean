/-- several new cells came -/
theorem am_rel.grow {D : va_G} {ad : Nat → Nat} {b0 : Nat} {Hb : Heap} {U : State} {h h' : am_H} {H H1 : Heap} (had : ∀ k, 12 ≤ k → ad k = b0 + (k - 12)) (hr : am_rel D ad b0 Hb U h H) {ts : List (Nat × Nat)} (e1 : h'.1 = h.1 ++ ts)
    (e2 : ∀ k, k < h.1.length → h'.2.1 k = h.2.1 k) (e3 : ∀ k, k < h.1.length → h'.2.2 k = h.2.2 k) (hz : H1.size = H.size + ts.length) (ho : ∀ q, q < H.size → H1[q]? = H[q]?) (hn : ∀ (i : Nat) (t : Nat × Nat), ts[i]? = some t → am_new D ad U H1 (h.1.length + i) t (h'.2.1 (h.1.length + i)) (h'.2.2 (h.1.length + i))) : am_rel D ad b0 Hb U h' H1 := by
  obtain ⟨h1, h2, h3, h4, h5, h6⟩ := hr
  refine ⟨h1, fun q hq => ?_, by rw [e1]; simp; omega, by rw [e1, hz, h4]; simp; omega, fun k t hk ht => ?_, fun k t hk ht => ?_⟩
  · rw [ho q (by omega)]
    exact h2 q hq
  · have hl : k < h.1.length := by omega
    rw [e1, List.getElem?_append_left hl] at ht
    rw [e2 k hl, e3 k hl]
    exact h5 k t hk ht
  · by_cases hl : k < h.1.length
    · rw [e1, List.getElem?_append_left hl] at ht
      rw [e2 k hl, e3 k hl]
      exact (h6 k t hk ht).kept (ho _ (by rw [had k hk]; omega))
    · rw [e1, List.getElem?_append_right (by omega)] at ht
      have := hn _ t ht
      rwa [show h.1.length + (k - h.1.length) = k by omega] at this
theorem am_AO.moved {t : FieldType} {u U : State} (hvm : u.vm.Alike U.vm) (ht : t = .array .int ∨ t = .object "RumourDesk$Saying" ∨ t = .object "RumourDesk$Sheet") (h : am_AO t u) : am_AO t U := by
  rcases ht with rfl | rfl | rfl
  · exact over_moved hvm h
  · exact va_AO.moved (C := "RumourDesk$Saying") hvm h
  · exact va_AO.moved (C := "RumourDesk$Sheet") hvm h
theorem am_isN_ex {w : Cond} (h : w ∈ am_nest) : ∃ a i x z, w = .methodLinkNest a i x z := by
  have h9 := (List.mem_filter.mp h).2
  unfold am_isN at h9
  split at h9
  · exact ⟨_, _, _, _, rfl⟩
  · cases h9
theorem am_U.same {D : va_G} {ad : Nat → Nat} {b0 : Nat} {Hb : Heap} {u U : State} (hv : U.vm = u.vm) (h : am_U D ad b0 Hb u) : am_U D ad b0 Hb U := by
  have ha : u.vm.Alike U.vm := by rw [hv]; exact Vm.Alike.refl _
  obtain ⟨h1, ⟨z1, z2, z3, z4⟩, ⟨k1, k2, k3, k4⟩, h4, h5⟩ := h
  exact ⟨h1.moved ha, ⟨z1.moved ha, z2.moved ha, z3.moved ha, z4.moved ha⟩, ⟨k1.same hv, k2.same hv, k3.same hv, k4.same hv⟩, fun w hw => by
    obtain ⟨a, i, x, z, rfl⟩ := am_isN_ex hw
    exact va_Nw.same rfl hv.symm (h4 _ hw), fun t ht => (h5 t ht).moved ha ht⟩
theorem am_U.warm {D : va_G} {ad : Nat → Nat} {b0 : Nat} {Hb : Heap} {s U : State} (hW : s.WarmedH U.vm) (h : am_U D ad b0 Hb s) : am_U D ad b0 Hb U := by
  have ha : s.vm.Alike U.vm := hW.alike
  obtain ⟨h1, ⟨z1, z2, z3, z4⟩, ⟨k1, k2, k3, k4⟩, h4, h5⟩ := h
  exact ⟨h1.moved ha, ⟨z1.moved ha, z2.moved ha, z3.moved ha, z4.moved ha⟩, ⟨k1.warm hW, k2.warm hW, k3.warm hW, k4.warm hW⟩, fun w hw => by
    obtain ⟨a, i, x, z, rfl⟩ := am_isN_ex hw
    exact va_Nw.warmM hW (h4 _ hw), fun t ht => (h5 t ht).moved ha ht⟩
section AMT
variable {l : Launch} {D : va_G} {ad : Nat → Nat} {b0 : Nat} {Hb : Heap} {I : Nat → am_I} {y : MethodName} {cc : ByteArray} {nL : Nat} {ret : Option FieldType} {pc nx : Nat}
theorem ok_anew {tag index : Nat} {C : String} (htg : tag = 31 ∨ tag = 32) (hC : am_rt tag = .object C) (hCC : C = "RumourDesk$Saying" ∨ C = "RumourDesk$Sheet") (hd : decode cc pc = .ok (.anewarray index, 3)) (hw : Cond.classLink y.cls index C ∈ am_tb) (hn : pc + 3 = nx) : am_ok l D ad b0 Hb I y cc nL ret pc (o_newa tag nx) := by
  subst hn
  refine am_mkN (fun L S h v => ?_) (fun L S h pc' L' S' h' e => ?_)
  · unfold o_newa am_nx; split <;> (try split) <;> simp
  · unfold o_newa am_nx at e
    split at e
    · rename_i x S0
      split at e
      · cases e
      · rename_i hc
        cases e
        have hx0 : ¬ x < 0 := fun q => hc (Or.inl q)
        have hx1 : ¬ 1000 < x.toNatClampNeg := fun q => hc (Or.inr (Or.inl q))
        have h12 : ¬ h.1.length < 12 := fun q => hc (Or.inr (Or.inr q))
        refine ⟨by simp, by rw [am_ns_app]; omega, fun p e s m args below meth c R cx H locs cells slots ls Q hl hr hlo hcs hss kk => ?_⟩
        obtain ⟨hx, hb, -, hown, hts, hU, -, -, -, -, -, had⟩ := cx
        rw [am_ns_app] at hss kk
        simp only [List.length_append, List.length_cons, List.length_nil, Nat.add_sub_cancel_left, List.map_cons, List.map_nil, List.sum_cons, List.sum_nil, Nat.add_zero, Nat.zero_add] at hcs hss kk
        have had1 : ad h.1.length = H.size := by rw [had _ (by omega), hr.2.2.2.1]
        have hover : am_AO (.object C) s := hU.2.2.2.2 _ (Or.inr (hCC.imp (fun e => by rw [e]) (fun e => by rw [e])))
        refine W.anew hx hb hown (hts _ hw) (am_AO.use hover) rfl hd rfl hx0 (by omega) hcs hss fun cA kA comp f1 f2 f3 f4 => ?_
        generalize hH1 : H.push ({ cls := cA, slots := Array.replicate x.toNatClampNeg .null, vm := .none } : Cell) = H1
        have z1 : H1.size = H.size + 1 := by rw [← hH1, Array.size_push]
        have e1 : H1[H.size]? = some (arrV cA x.toNatClampNeg (fun _ => .null)) := by rw [← hH1, Array.getElem?_push_size, ← arrV_new]
        have o1 : ∀ q : Nat, q < H.size → H1[q]? = H[q]? := fun q hq => by rw [← hH1, Array.getElem?_push, if_neg (Nat.ne_of_lt hq)]
        have hAr : ArrOfT s cA (.object C) := fun N z => ⟨(fun k h => by cases h), kA, f2, comp, f3⟩
        rw [← had1]
        refine kk H1 locs ls hl ?_ hlo
        refine am_rel.push had hr rfl (fun k hk => am_row_ne _ _ (by omega)) (fun k hk => am_rowR_ne _ _ (by omega)) z1 o1 (Or.inr (Or.inr ⟨by dsimp only; omega, by dsimp only; omega, cA, ?_, ?_, ?_⟩))
        · dsimp only; rw [hC]; exact hAr
        · dsimp only; rw [hC]; exact ⟨kA, comp, f2, f3, f4, f1⟩
        · dsimp only
          rw [had1, am_rowR_self]
          exact e1
    · cases e
theorem ok_mna {index : Nat} (hd : decode cc pc = .ok (.multianewarray index 2, 4)) (hw1 : Cond.classLink y.cls index "[[I" ∈ am_tb) (hw2 : Cond.arrayClass .int ∈ am_tb) (hn : pc + 4 = nx) : am_ok l D ad b0 Hb I y cc nL ret pc (o_mna nx) := by
  subst hn
  refine am_mkN (fun L S h v => ?_) (fun L S h pc' L' S' h' e => ?_)
  · unfold o_mna am_nx; split <;> (try split) <;> simp
  · unfold o_mna am_nx at e
    split at e
    · rename_i k n S0
      split at e
      · cases e
      · rename_i hc
        cases e
        have hk0 : ¬ k < 0 := fun q => hc (Or.inl q)
        have hk1 : ¬ 1000 < k.toNatClampNeg := fun q => hc (Or.inr (Or.inl q))
        have hn0 : ¬ n < 0 := fun q => hc (Or.inr (Or.inr (Or.inl q)))
        have hn1 : ¬ 1000 < n.toNatClampNeg := fun q => hc (Or.inr (Or.inr (Or.inr (Or.inl q))))
        have h12 : ¬ h.1.length < 12 := fun q => hc (Or.inr (Or.inr (Or.inr (Or.inr q))))
        refine ⟨by simp, by rw [am_ns_app]; omega, fun p e s m args below meth c R cx H locs cells slots ls Q hl hr hlo hcs hss kk => ?_⟩
        obtain ⟨hx, hb, -, hown, hts, hU, -, -, -, -, -, had⟩ := cx
        rw [am_ns_app] at hss kk
        simp only [List.length_append, List.length_cons, List.length_replicate, Nat.add_sub_cancel_left, List.map_cons, List.map_replicate, List.sum_cons, List.sum_replicate_nat] at hcs hss kk
        have had1 : ad h.1.length = H.size := by rw [had _ (by omega), hr.2.2.2.1]
        have hover : am_AO (.array .int) s := hU.2.2.2.2 _ (Or.inl rfl)
        intro T hT Xs
        obtain ⟨vm₁, cA, comp, -, fA, fC, hO, hI, X', step⟩ := Xs.multianewarray2F (ty := .int) hx hown (hts _ hw1) (am_AO.use hover) (hts _ hw2) (g := F0 m pc ls (.int k :: .int n :: S0.map (am_cv ad))) rfl (by rw [hb]; exact hd) rfl hn0 hk0 (by omega) (by show k.toNatClampNeg * 4 ≤ _; omega) (by omega) rfl rfl (by omega) (by omega)
        generalize hF : Jvm.Free.Multi.fill (T.setVm vm₁) cA comp n.toNatClampNeg k.toNatClampNeg (defaultValue .int) n.toNatClampNeg = F at X' step
        have hTh : (T.setVm vm₁).heap = H := hT
        obtain ⟨f1, f2, -, -⟩ := Jvm.Free.Multi.fill_facts (T.setVm vm₁) cA comp n.toNatClampNeg k.toNatClampNeg (defaultValue .int) n.toNatClampNeg
        rw [hF, hTh] at f1 f2
        have hold : ∀ x : Nat, x < H.size → F.heap[x]? = H[x]? := fun x hx => by
          have := Jvm.Free.Multi.fill_old (T.setVm vm₁) cA comp n.toNatClampNeg k.toNatClampNeg (defaultValue .int) (a := x) (by rw [hTh]; exact hx) n.toNatClampNeg
          rw [hF, hTh] at this
          exact this
        have hrow : ∀ j : Nat, j < n.toNatClampNeg → F.heap[H.size + 1 + j]? = some (Jvm.Free.Multi.innerC comp k.toNatClampNeg (defaultValue .int)) := fun j hj => by
          have := Jvm.Free.Multi.fill_inner (T.setVm vm₁) cA comp n.toNatClampNeg k.toNatClampNeg (defaultValue .int) n.toNatClampNeg j hj
          rw [hF, hTh] at this
          exact this
        have hin : ∀ M : Nat, Jvm.Free.Multi.innerC comp M (defaultValue .int) = arrV comp M (fun _ => .int 0) := fun M => by
          show ({ cls := comp, slots := Array.replicate M (.int 0), vm := .none } : Cell) = _
          rw [arrV_new]
        have hAo : ArrOfT s cA (.array .int) := fun N9 z9 => by
          obtain ⟨-, k9, hk9, cm9, hkk9⟩ := (hO 0 0 0).1
          exact ⟨(fun q hq => by cases hq), k9, hk9, cm9, hkk9⟩
        have hAi : ArrOfT s comp .int := fun N9 z9 => by
          obtain ⟨-, k9, hk9, cm9, hkk9⟩ := (hI 0 (.int 0)).1
          exact ⟨(fun q hq => by cases hq), k9, hk9, cm9, hkk9⟩
        have hrel : am_rel D ad b0 Hb s (h.1 ++ (30, n.toNatClampNeg) :: List.replicate n.toNatClampNeg (20, k.toNatClampNeg), (fun q => if h.1.length ≤ q then (fun _ => 0) else h.2.1 q), (fun q => if q = h.1.length then (fun j => if j < n.toNatClampNeg then some (h.1.length + 1 + j) else none) else if h.1.length < q then (fun _ => none) else h.2.2 q)) F.heap := by
          refine am_rel.grow had hr rfl (fun q hq => ?_) (fun q hq => ?_) ?_ hold (fun i t ht => ?_)
          · dsimp only; rw [if_neg (by omega)]
          · dsimp only; rw [if_neg (by omega), if_neg (by omega)]
          · rw [f1]; simp; omega
          · cases i with
            | zero =>
              cases ht
              refine Or.inr (Or.inr ⟨Nat.le_of_ble_eq_true rfl, Nat.le_of_ble_eq_true rfl, cA, hAo, fA, ?_⟩)
              dsimp only [Nat.add_zero]
              rw [had1, f2, vr_outer]
              refine congrArg some (congrArg (arrV cA n.toNatClampNeg) (funext fun j => ?_))
              rw [if_pos rfl]
              by_cases hj : j < n.toNatClampNeg
              · rw [if_pos hj, if_pos hj]
                show Value.ref _ = Value.ref _
                rw [had _ (by omega), hr.2.2.2.1]
                have e9 : (b0 + (h.1.length - 12) + 1 + j : Nat) = b0 + (h.1.length + 1 + j - 12) := by omega
                exact congrArg Value.ref e9
              · rw [if_neg hj, if_neg hj]
                rfl
            | succ i =>
              rw [List.getElem?_cons_succ, List.getElem?_replicate] at ht
              split at ht
              · rename_i hi
                cases ht
                refine Or.inr (Or.inl ⟨Nat.le_of_ble_eq_true rfl, Nat.le_of_ble_eq_true rfl, comp, hAi, ?_⟩)
                dsimp only
                rw [if_pos (by omega), had _ (by omega), show b0 + (h.1.length + (i + 1) - 12) = H.size + 1 + i by rw [hr.2.2.2.1]; omega, hrow i hi, hin]
              · cases ht
        obtain ⟨t, a1, b1⟩ := kk F.heap locs ls hl hrel hlo F rfl (by
          have := X'
          rw [show cells + 1 + n.toNatClampNeg = cells + (n.toNatClampNeg + 1) by omega, show slots + n.toNatClampNeg + n.toNatClampNeg * k.toNatClampNeg = slots + (n.toNatClampNeg + n.toNatClampNeg * k.toNatClampNeg) by omega] at this
          exact this)
        refine ⟨t, step t ?_, b1⟩
        have e : T.heap.size = H.size := by rw [hT]
        rw [e, ← had1]
        exact a1
    · cases e
theorem ok_acpy {index : Nat} (hd : decode cc pc = .ok (.invokestatic index, 3)) (hw1 : Cond.methodLink y.cls index arraycopyName ∈ am_tb) (hw2 : Cond.native arraycopyName ∈ am_tb) (hw3 : Cond.static arraycopyName ∈ am_tb) (hw4 : Cond.initialized "java/lang/System" ∈ am_tb) (hn : pc + 3 = nx) : am_ok l D ad b0 Hb I y cc nL ret pc (o_acpy nx) := by
  subst hn
  refine am_mkN (fun L S h v => ?_) (fun L S h pc' L' S' h' e => ?_)
  · unfold o_acpy am_nx; split <;> (try split) <;> (try split) <;> (try split) <;> simp
  · unfold o_acpy am_nx at e
    split at e
    · rename_i n dp k sp k0 S0
      split at e
      · rename_i t0 t ht0 ht
        split at e
        · rename_i hg
          split at e
          · cases e
          · rename_i hc
            cases e
            refine ⟨Nat.le_refl _, Nat.le_refl _, fun p e s m args below meth c R cx H locs cells slots ls Q hl hr hlo _ _ kk => ?_⟩
            obtain ⟨hx, hb, hml, hown, hts, hU, -, -, -, hfr, hlc, had⟩ := cx
            obtain ⟨g1, g2, g3, g4, g5⟩ := hg
            have c1 : ¬ n < 0 := fun q => hc (Or.inl q)
            have c2 : ¬ dp < 0 := fun q => hc (Or.inr (Or.inl q))
            have c3 : ¬ sp < 0 := fun q => hc (Or.inr (Or.inr (Or.inl q)))
            have c4 : sp.toNatClampNeg + n.toNatClampNeg ≤ t0.2 := Nat.not_lt.mp fun q => hc (Or.inr (Or.inr (Or.inr (Or.inl q))))
            have c5 : dp.toNatClampNeg + n.toNatClampNeg ≤ t.2 := Nat.not_lt.mp fun q => hc (Or.inr (Or.inr (Or.inr (Or.inr q))))
            have hls : ls.size = nL := by
              obtain ⟨-, lv, h1, -⟩ := hl
              exact h1.1
            rcases hr.2.2.2.2.2 k0 t0 g3 ht0 with ⟨q, -⟩ | ⟨-, -, cA0, a1, a2⟩ | ⟨q, -⟩
            · omega
            · rcases hr.2.2.2.2.2 k t g4 ht with ⟨q, -⟩ | ⟨-, -, cA, b1, b2⟩ | ⟨q, -⟩
              · omega
              · have nn : ∀ z : Int32, ¬ z < 0 → z.toInt = (z.toNatClampNeg : Int) := by
                  intro z hz
                  have hz0 : (0 : Int) ≤ z.toInt := by
                    have := Int32.not_lt.mp hz
                    simpa using Int32.le_iff_toInt_le.mp this
                  show z.toInt = ((z.toInt.toNat : Nat) : Int)
                  omega
                rw [g1] at a1
                have b1' := b1
                rw [g2] at b1'
                intro T hT X
                obtain ⟨-, kk0, hk0, cm0, hkk0⟩ := a1 t0.2 (fun j => .int (h.2.1 k0 j))
                obtain ⟨-, kk1, hk1, cm1, hkk1⟩ := b1' t.2 (fun j => .int (h.2.1 k j))
                obtain ⟨vm', X', step⟩ := X.arraycopy hx hown (hts _ hw1) (hts _ hw2) (hts _ hw3) (hts _ hw4) (src := ad k0) (dst := ad k) (cs := arrV cA0 t0.2 (fun j => .int (h.2.1 k0 j))) (cd := arrV cA t.2 (fun j => .int (h.2.1 k j))) (srcPos := sp) (destPos := dp) (n := n) (by rw [hT]; exact a2) (by rw [hT]; exact b2)
                  (fun _ h => by cases h) (fun _ h => by cases h) (fun h => by cases h) (fun h => by cases h) hk0 hk1 hkk0 hkk1 (by simp [am_pt, refKind]) c3 c2 c1
                  (by rw [nn sp c3, nn n c1, arrV_size]; omega)
                  (by rw [nn dp c2, nn n c1, arrV_size]; omega)
                  (fun vm₁ _ i hi => by
                    have e : (arrV cA0 t0.2 (fun j => .int (h.2.1 k0 j))).slots.getD (sp.toNatClampNeg + i) .null = .int (h.2.1 k0 (sp.toNatClampNeg + i)) := by
                      rw [Array.getD_eq_getD_getElem?, arrV_read _ _ (by omega)]
                      rfl
                    refine ⟨?_, ?_⟩
                    · rw [e]
                      rfl
                    · rw [e]
                      exact trivial)
                  (g := F0 m pc ls (.int n :: .int dp :: .ref (ad k) :: .int sp :: .ref (ad k0) :: S'.map (am_cv ad))) rfl (by rw [hml]; exact hls) (rest := S'.map (am_cv ad)) rfl (by rw [hb]; exact hd) hfr (by
                    show 2 * 0 + ((S'.map (am_cv ad)).map fun v => v.category).sum + _ ≤ _
                    rw [am_cat_map]
                    have hnf : nativeFrameWords "java/lang/System" "arraycopy" 5 = 7 := by decide
                    omega)
                have e1 : copied (arrV cA0 t0.2 (fun j => .int (h.2.1 k0 j))) (arrV cA t.2 (fun j => .int (h.2.1 k j))) sp dp n = arrV cA t.2 (fun j => .int (va_cpy (h.2.1 k0) (h.2.1 k) sp.toNatClampNeg dp.toNatClampNeg n.toNatClampNeg j)) := va_copied (fun z => .int z) cA0 cA (h.2.1 k0) (h.2.1 k) c4
                rw [e1] at X' step
                have hl2 : ad k < H.size := (Array.getElem?_eq_some_iff.mp b2).1
                have hrel : am_rel D ad b0 Hb s (h.1, am_row h.2.1 k (va_cpy (h.2.1 k0) (h.2.1 k) sp.toNatClampNeg dp.toNatClampNeg n.toNatClampNeg), h.2.2) (H.setIfInBounds (ad k) (arrV cA t.2 (fun j => .int (va_cpy (h.2.1 k0) (h.2.1 k) sp.toNatClampNeg dp.toNatClampNeg n.toNatClampNeg j)))) := by
                  refine am_rel.put had hr g4 ht rfl (fun k' hk' => am_row_ne _ _ hk') (fun _ _ => rfl) (by simp) (fun q hq => by simp [Array.getElem?_setIfInBounds, Ne.symm hq]) (Or.inr (Or.inl ⟨by omega, by omega, cA, b1, ?_⟩))
                  dsimp only
                  rw [am_row_self]
                  simp [Array.getElem?_setIfInBounds, hl2]
                obtain ⟨tt, w1, w2⟩ := am_w0 rfl (kk _ _ ls hl hrel (fun q hq => by
                  rcases List.mem_append.mp hq with h9 | h9
                  · exact hlo q h9
                  · obtain ⟨z, -, hz⟩ := List.mem_map.mp h9
                    rw [← hz]
                    show b0 ≤ ad k
                    rw [had k g4]
                    omega)) _ (by rw [← hT]; rfl) X'
                exact ⟨tt, step tt w1, w2⟩
              · omega
            · omega
        · cases e
      · cases e
    · cases e
end AMT
