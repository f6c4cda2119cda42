theorem am_cat_map (ad : Nat → Nat) (S : List Value) : ((S.map (am_cv ad)).map fun v => v.category) = S.map fun v => v.category := by
  rw [List.map_map]
  exact List.map_congr_left fun v _ => am_cv_cat ad v
theorem am_ns_app (h : am_H) (t : List (Nat × Nat)) (a : Nat → Nat → Int32) (b : Nat → Nat → Option Nat) : am_ns (h.1 ++ t, a, b) = am_ns h + (t.map fun t => t.2).sum := by
  simp [am_ns]
theorem am_row_self (f : Nat → Nat → Int32) (k : Nat) (g : Nat → Int32) : am_row f k g k = g := by simp [am_row]
theorem am_row_ne (f : Nat → Nat → Int32) {k k' : Nat} (g : Nat → Int32) (h : k' ≠ k) : am_row f k g k' = f k' := by simp [am_row, h]
theorem am_rowR_self (f : Nat → Nat → Option Nat) (k : Nat) (g : Nat → Option Nat) : am_rowR f k g k = g := by simp [am_rowR]
theorem am_rowR_ne (f : Nat → Nat → Option Nat) {k k' : Nat} (g : Nat → Option Nat) (h : k' ≠ k) : am_rowR f k g k' = f k' := by simp [am_rowR, h]
section AMS
variable {l : Launch} {D : va_G} {ad : Nat → Nat} {b0 : Nat} {Hb : Heap} {I : Nat → am_I} {y : MethodName} {cc : ByteArray} {nL : Nat} {ret : Option FieldType} {pc nx : Nat}
theorem ok_obj {index : Nat} (hd : decode cc pc = .ok (.invokespecial index, 3)) (hw1 : Cond.methodLink y.cls index Lib.objectInit ∈ am_tb) (hw2 : Cond.instanceMethod Lib.objectInit ∈ am_tb) (hw3 : Cond.code Lib.objectInit ⟨#[0xb1]⟩ 1 none ∈ am_tb) (hn : pc + 3 = nx) : am_ok l D ad b0 Hb I y cc nL ret pc (o_obj nx) := by
  subst hn
  refine am_mkS (fun L S h v => ?_) (fun L S h pc' L' S' h' e => ?_)
  · unfold o_obj am_nx; split <;> (try split) <;> simp
  · unfold o_obj am_nx at e
    split at e
    · rename_i k S0
      split at e
      · rename_i hs
        cases e
        refine ⟨rfl, fun p e s m args below meth c R cx H locs cells slots ls Q hl _ kk => ?_⟩
        obtain ⟨hx, hb, hml, hown, hts, hU, -, -, hmn, hfr, hlo, had⟩ := cx
        have hls : ls.size = nL := by
          obtain ⟨-, lv, h1, -⟩ := hl
          exact h1.1
        exact W.objInit hx hb hown (hts _ hw1) (hts _ hw2) (hts _ hw3) rfl (by rw [hml]; exact hls) rfl hd hfr (by
          show 2 * 0 + (((S'.map (am_cv ad)).map fun v => v.category).sum) + 12 ≤ R.locals
          rw [am_cat_map]
          omega) (kk ls hl)
      · cases e
    · cases e
theorem ok_gets {C n d : String} {index : Nat} {k : Nat} (hZ : ∀ U, am_U D ad b0 Hb U → va_Z C n d (.ref (ad k)) (fun q => b0 ≤ q) U Hb) (hd : decode cc pc = .ok (.getstatic index, 3)) (hw : Cond.fieldLink y.cls index C n d ∈ am_tb) (hn : pc + 3 = nx) : am_ok l D ad b0 Hb I y cc nL ret pc (o_cref k nx) := by
  subst hn
  refine am_mkS (fun L S h v => by simp [o_cref, am_nx]) (fun L S h pc' L' S' h' e => ?_)
  unfold o_cref am_nx at e
  cases e
  refine ⟨rfl, fun p e s m args below meth c R cx H locs cells slots ls Q hl hr kk => ?_⟩
  obtain ⟨cf, kf, fi, f, a, cell, h1, h2, h3, h4, h5, h6, h7, h8⟩ := hZ s cx.2.2.2.2.2.1
  exact W.gets cx.1 cx.2.1 cx.2.2.2.1 (cx.2.2.2.2.1 _ hw) h1 h2 h3 h4 (by rw [hr.2.1 a (Nat.not_le.mp h8)]; exact h5) (fun e => by rw [e] at h6; cases h6) h7 rfl hd (kk ls hl)
theorem ok_getsI {C n d : String} {index : Nat} {x : Int32} (hZ : ∀ U, am_U D ad b0 Hb U → va_Z C n d (.int x) (fun q => b0 ≤ q) U Hb) (hd : decode cc pc = .ok (.getstatic index, 3)) (hw : Cond.fieldLink y.cls index C n d ∈ am_tb) (hn : pc + 3 = nx) : am_ok l D ad b0 Hb I y cc nL ret pc (o_const x nx) := by
  subst hn
  refine am_mkS (fun L S h v => by simp [o_const, am_nx]) (fun L S h pc' L' S' h' e => ?_)
  unfold o_const am_nx at e
  cases e
  refine ⟨rfl, fun p e s m args below meth c R cx H locs cells slots ls Q hl hr kk => ?_⟩
  obtain ⟨cf, kf, fi, f, a, cell, h1, h2, h3, h4, h5, h6, h7, h8⟩ := hZ s cx.2.2.2.2.2.1
  exact W.gets cx.1 cx.2.1 cx.2.2.2.1 (cx.2.2.2.2.1 _ hw) h1 h2 h3 h4 (by rw [hr.2.1 a (Nat.not_le.mp h8)]; exact h5) (fun e => by rw [e] at h6; cases h6) h7 rfl hd (kk ls hl)
theorem ok_ldcS {tx : String} {index k : Nat} (hZ : ∀ U, am_U D ad b0 Hb U → vk_R y.cls index tx (ad k) U) (hd : decode cc pc = .ok (.ldc index, 2)) (hn : pc + 2 = nx) : am_ok l D ad b0 Hb I y cc nL ret pc (o_cref k nx) := by
  subst hn
  refine am_mkS (fun L S h v => by simp [o_cref, am_nx]) (fun L S h pc' L' S' h' e => ?_)
  unfold o_cref am_nx at e
  cases e
  exact ⟨rfl, fun p e s m args below meth c R cx H locs cells slots ls Q hl hr kk => va_ldcS cx.1 cx.2.1 cx.2.2.2.1 (hZ s cx.2.2.2.2.2.1) hd (kk ls hl)⟩
theorem ok_table {dflt hi : Int} {offs : Array Int} {len dt : Nat} {ts : List Nat} (hd : decode cc pc = .ok (.tableswitch dflt 0 hi offs, len)) (hdt : (pc : Int) + dflt = (dt : Int)) (hhi : hi + 1 = (ts.length : Int)) (hts : ∀ i : Nat, i < ts.length → ∃ off : Int, offs[i]? = some off ∧ (pc : Int) + off = ((ts.getD i 0 : Nat) : Int)) : am_ok l D ad b0 Hb I y cc nL ret pc (o_table dt ts) := by
  refine am_mkS (fun L S h v => ?_) (fun L S h pc' L' S' h' e => ?_)
  · unfold o_table am_nx; split <;> (try split) <;> simp
  · unfold o_table am_nx at e
    split at e
    · rename_i x S0
      have h0 : ∀ {z : Int32}, ¬ z < 0 → z.toInt = (z.toNatClampNeg : Int) := by
        intro z hz
        have hz0 : (0 : Int) ≤ z.toInt := by
          have := Int32.not_lt.mp hz
          simpa using Int32.le_iff_toInt_le.mp this
        show z.toInt = ((z.toInt.toNat : Nat) : Int)
        omega
      split at e
      · rename_i hc
        cases e
        refine ⟨rfl, fun p e s m args below meth c R cx H locs cells slots ls Q hl hr kk => lv_tableOut cx.1 cx.2.1 hd ?_ hdt (kk ls hl)⟩
        by_cases hx : x < 0
        · left
          simpa using Int32.lt_iff_toInt_lt.mp hx
        · right
          rw [h0 hx]
          have := hc.resolve_left hx
          omega
      · rename_i hc
        cases e
        have hx : ¬ x < 0 := fun q => hc (Or.inl q)
        have hlt : x.toNatClampNeg < ts.length := am_nlt2 hc
        obtain ⟨off, o1, o2⟩ := hts _ hlt
        refine ⟨rfl, fun p e s m args below meth c R cx H locs cells slots ls Q hl hr kk => lv_tableIn (off := off) cx.1 cx.2.1 hd ?_ ?_ ?_ o2 (kk ls hl)⟩
        · rw [h0 hx]; omega
        · rw [h0 hx]; omega
        · rw [h0 hx, show ((x.toNatClampNeg : Int) - 0).toNat = x.toNatClampNeg by omega]
          exact o1
    · cases e
theorem ok_iret (hr : ret = some .int) (hd : decode cc pc = .ok (.ireturn, 1)) : am_ok l D ad b0 Hb I y cc nL ret pc o_iret := by
  refine ⟨fun L S h a b c d e => ?_, fun L S h v e => ?_, fun L S h a b c d e => ?_⟩
  · unfold o_iret at e; split at e <;> simp at e
  · unfold o_iret at e
    split at e
    · rename_i x
      cases e
      exact ⟨rfl, Or.inr (Or.inl ⟨x, .int, rfl, hr, rfl, hd⟩)⟩
    · cases e
  · unfold o_iret at e; split at e <;> simp at e
theorem am_char_nar {x : Int32} (h : ¬ (x < 0 ∨ 65535 < x)) : x.toUInt32.toUInt16.toUInt32.toInt32 = x := by
  have h1 : ¬ x < 0 := fun q => h (Or.inl q)
  have h2 : ¬ 65535 < x := fun q => h (Or.inr q)
  obtain ⟨j, hj, e⟩ := nI_of2 (M := 65535) (n := 65535) (by decide) h1 (am_nlt h2)
  have := (pk_charN (q := j) (by omega)).1
  rw [e]
  simpa [narrow] using this
theorem ok_zret (hr : ret = some .boolean) (hd : decode cc pc = .ok (.ireturn, 1)) : am_ok l D ad b0 Hb I y cc nL ret pc o_zret := by
  refine ⟨fun L S h a b c d e => ?_, fun L S h v e => ?_, fun L S h a b c d e => ?_⟩
  · unfold o_zret at e; split at e <;> (try split at e) <;> simp at e
  · unfold o_zret at e
    split at e
    · rename_i x
      split at e
      · rename_i hc
        cases e
        refine ⟨rfl, Or.inr (Or.inl ⟨x, _, rfl, hr, ?_, hd⟩)⟩
        rcases hc with h9 | h9 <;> rw [h9] <;> rfl
      · cases e
    · cases e
  · unfold o_zret at e; split at e <;> (try split at e) <;> simp at e
theorem ok_cret (hr : ret = some .char) (hd : decode cc pc = .ok (.ireturn, 1)) : am_ok l D ad b0 Hb I y cc nL ret pc o_cret := by
  refine ⟨fun L S h a b c d e => ?_, fun L S h v e => ?_, fun L S h a b c d e => ?_⟩
  · unfold o_cret at e; split at e <;> (try split at e) <;> simp at e
  · unfold o_cret at e
    split at e
    · rename_i x
      split at e
      · cases e
      · rename_i hc
        cases e
        refine ⟨rfl, Or.inr (Or.inl ⟨x, _, rfl, hr, ?_, hd⟩)⟩
        show Value.int _ = _
        rw [am_char_nar hc]
    · cases e
  · unfold o_cret at e; split at e <;> (try split at e) <;> simp at e
theorem ok_bret (hr : ret = some .byte) (hd : decode cc pc = .ok (.ireturn, 1)) : am_ok l D ad b0 Hb I y cc nL ret pc o_bret := by
  refine ⟨fun L S h a b c d e => ?_, fun L S h v e => ?_, fun L S h a b c d e => ?_⟩
  · unfold o_bret at e; split at e <;> (try split at e) <;> simp at e
  · unfold o_bret at e
    split at e
    · rename_i x
      split at e
      · rename_i hc
        cases e
        refine ⟨rfl, Or.inr (Or.inl ⟨x, _, rfl, hr, ?_, hd⟩)⟩
        rw [hc]
        rfl
      · cases e
    · cases e
  · unfold o_bret at e; split at e <;> (try split at e) <;> simp at e
theorem ok_vret (hr : ret = none) (hd : decode cc pc = .ok (.return_, 1)) : am_ok l D ad b0 Hb I y cc nL ret pc o_vret := by
  refine ⟨fun L S h a b c d e => ?_, fun L S h v e => ?_, fun L S h a b c d e => ?_⟩
  · unfold o_vret at e; split at e <;> simp at e
  · unfold o_vret at e
    split at e
    · cases e
      exact ⟨rfl, Or.inl ⟨rfl, hr, hd⟩⟩
    · cases e
  · unfold o_vret at e; split at e <;> simp at e
theorem ok_aret {t : FieldType} (hr : ret = some (.array t)) (hd : decode cc pc = .ok (.areturn, 1)) : am_ok l D ad b0 Hb I y cc nL ret pc o_aret := by
  refine ⟨fun L S h a b c d e => ?_, fun L S h v e => ?_, fun L S h a b c d e => ?_⟩
  · unfold o_aret at e; split at e <;> simp at e
  · unfold o_aret at e
    split at e
    · rename_i x
      cases e
      exact ⟨rfl, Or.inr (Or.inr ⟨x, _, rfl, hr, Or.inr ⟨t, rfl⟩, hd⟩)⟩
    · cases e
  · unfold o_aret at e; split at e <;> simp at e
theorem am_dv (ad : Nat → Nat) {ty : FieldType} (h : ty = .int ∨ ty = .boolean ∨ am_isR ty = true) : defaultValue ty = am_fv ad ty 0 none := by
  rcases h with rfl | rfl | h
  · rfl
  · rfl
  · cases ty <;> simp_all [am_isR, am_fv, va_rf, defaultValue]
theorem ok_new {ci N index : Nat} {C : String} {T : u_T} (hcl : am_cls ci C T N) (hdf : ∀ j, j < N → am_tyT ci j = .int ∨ am_tyT ci j = .boolean ∨ am_isR (am_tyT ci j) = true) (hd : decode cc pc = .ok (.new index, 3)) (hw1 : Cond.classLink y.cls index C ∈ am_tb) (hw2 : Cond.instantiable C N ∈ am_tb) (hw3 : Cond.initialized C ∈ am_tb) (hn : pc + 3 = nx) : am_ok l D ad b0 Hb I y cc nL ret pc (o_new ci N nx) := by
  subst hn
  refine am_mkN (fun L S h v => ?_) (fun L S h pc' L' S' h' e => ?_)
  · unfold o_new am_nx; split <;> simp
  · unfold o_new am_nx at e
    split at e
    · rename_i h12
      cases e
      refine ⟨by simp, by rw [am_ns_app]; omega, fun p e s m args below meth c R cx H locs cells slots ls Q hl hr hlo hcs hss kk => ?_⟩
      obtain ⟨hc, hlt, hin, hty, hnm⟩ := hcl
      obtain ⟨hx, hb, -, hown, hts, hU, -, -, -, -, -, had⟩ := cx
      rw [am_ns_app] at hss kk
      simp only [List.length_append, List.length_cons, List.length_nil, Nat.add_sub_cancel_left, List.map_cons, List.map_nil, List.sum_cons, List.sum_nil, Nat.add_zero, Nat.zero_add] at hcs hss kk
      have hKn := hU.1.1 ci _ hc
      have had1 : ad h.1.length = H.size := by rw [had _ h12, hr.2.2.2.1]
      refine W.newcK hx hb hown (hts _ hw1) (hts _ hw2) (hts _ hw3) rfl hd hcs hss hKn.2.1 rfl fun H1 kC hkC e1 z1 o1 => ?_
      rw [← had1]
      refine kk H1 locs ls hl ?_ hlo
      refine am_rel.push had hr rfl (fun k hk => am_row_ne _ _ (by omega)) (fun k hk => am_rowR_ne _ _ (by omega)) z1 o1 (Or.inl ⟨hlt, _, hc, ?_⟩)
      rw [had1]
      refine (u_born (am_tyT ci) hts hin hKn hkC e1 hty).to fun j hj => ?_
      dsimp only
      rw [am_row_self, am_rowR_self]
      exact am_dv ad (hdf j hj)
    · cases e
theorem ok_newai {atype : ArrayType} (hat : newarray.typeOf atype = .int) (hd : decode cc pc = .ok (.newarray atype, 2)) (hw : Cond.arrayClass .int ∈ am_tb) (hn : pc + 2 = nx) : am_ok l D ad b0 Hb I y cc nL ret pc (o_newa 20 nx) := by
  subst hn
  refine am_mkN (fun L S h v => ?_) (fun L S h pc' L' S' h' e => ?_)
  · unfold o_newa am_nx; split <;> (try split) <;> simp
  · unfold o_newa am_nx at e
    split at e
    · rename_i x S0
      split at e
      · cases e
      · rename_i hc
        cases e
        have hx0 : ¬ x < 0 := fun q => hc (Or.inl q)
        have hx1 : ¬ 1000 < x.toNatClampNeg := fun q => hc (Or.inr (Or.inl q))
        have h12 : ¬ h.1.length < 12 := fun q => hc (Or.inr (Or.inr q))
        refine ⟨by simp, by rw [am_ns_app]; omega, fun p e s m args below meth c R cx H locs cells slots ls Q hl hr hlo hcs hss kk => ?_⟩
        obtain ⟨hx, hb, -, hown, hts, hU, -, -, -, -, -, had⟩ := cx
        rw [am_ns_app] at hss kk
        simp only [List.length_append, List.length_cons, List.length_nil, Nat.add_sub_cancel_left, List.map_cons, List.map_nil, List.sum_cons, List.sum_nil, Nat.add_zero, Nat.zero_add] at hcs hss kk
        have had1 : ad h.1.length = H.size := by rw [had _ (by omega), hr.2.2.2.1]
        refine W.newaK hx hb (by rw [hat]; exact hts _ hw) rfl hd rfl hx0 rfl (by rw [hat]; show x.toNatClampNeg * _ ≤ _; have h8 : componentBytes .int ≤ 8 := (by decide); have := Nat.mul_le_mul (show x.toNatClampNeg ≤ 1000 by omega) h8; omega) hcs hss rfl fun H1 cA e1 z1 o1 hA => ?_
        rw [← had1]
        refine kk H1 locs ls hl ?_ hlo
        rw [hat] at e1 hA
        refine am_rel.push had hr rfl (fun k hk => am_row_ne _ _ (by omega)) (fun k hk => am_rowR_ne _ _ (by omega)) z1 o1 (Or.inr (Or.inl ⟨Nat.le_of_ble_eq_true rfl, Nat.le_of_ble_eq_true rfl, cA, hA, ?_⟩))
        dsimp only
        rw [had1, am_row_self]
        exact e1
    · cases e
theorem ok_newaz {atype : ArrayType} (hat : newarray.typeOf atype = .boolean) (hd : decode cc pc = .ok (.newarray atype, 2)) (hw : Cond.arrayClass .boolean ∈ am_tb) (hn : pc + 2 = nx) : am_ok l D ad b0 Hb I y cc nL ret pc (o_newa 21 nx) := by
  subst hn
  refine am_mkN (fun L S h v => ?_) (fun L S h pc' L' S' h' e => ?_)
  · unfold o_newa am_nx; split <;> (try split) <;> simp
  · unfold o_newa am_nx at e
    split at e
    · rename_i x S0
      split at e
      · cases e
      · rename_i hc
        cases e
        have hx0 : ¬ x < 0 := fun q => hc (Or.inl q)
        have hx1 : ¬ 1000 < x.toNatClampNeg := fun q => hc (Or.inr (Or.inl q))
        have h12 : ¬ h.1.length < 12 := fun q => hc (Or.inr (Or.inr q))
        refine ⟨by simp, by rw [am_ns_app]; omega, fun p e s m args below meth c R cx H locs cells slots ls Q hl hr hlo hcs hss kk => ?_⟩
        obtain ⟨hx, hb, -, hown, hts, hU, -, -, -, -, -, had⟩ := cx
        rw [am_ns_app] at hss kk
        simp only [List.length_append, List.length_cons, List.length_nil, Nat.add_sub_cancel_left, List.map_cons, List.map_nil, List.sum_cons, List.sum_nil, Nat.add_zero, Nat.zero_add] at hcs hss kk
        have had1 : ad h.1.length = H.size := by rw [had _ (by omega), hr.2.2.2.1]
        refine W.newaK hx hb (by rw [hat]; exact hts _ hw) rfl hd rfl hx0 rfl (by rw [hat]; show x.toNatClampNeg * _ ≤ _; have h8 : componentBytes .boolean ≤ 8 := (by decide); have := Nat.mul_le_mul (show x.toNatClampNeg ≤ 1000 by omega) h8; omega) hcs hss rfl fun H1 cA e1 z1 o1 hA => ?_
        rw [← had1]
        refine kk H1 locs ls hl ?_ hlo
        rw [hat] at e1 hA
        refine am_rel.push had hr rfl (fun k hk => am_row_ne _ _ (by omega)) (fun k hk => am_rowR_ne _ _ (by omega)) z1 o1 (Or.inr (Or.inl ⟨Nat.le_of_ble_eq_true rfl, Nat.le_of_ble_eq_true rfl, cA, hA, ?_⟩))
        dsimp only
        rw [had1, am_row_self]
        exact e1
    · cases e
theorem ok_newac {atype : ArrayType} (hat : newarray.typeOf atype = .char) (hd : decode cc pc = .ok (.newarray atype, 2)) (hw : Cond.arrayClass .char ∈ am_tb) (hn : pc + 2 = nx) : am_ok l D ad b0 Hb I y cc nL ret pc (o_newa 22 nx) := by
  subst hn
  refine am_mkN (fun L S h v => ?_) (fun L S h pc' L' S' h' e => ?_)
  · unfold o_newa am_nx; split <;> (try split) <;> simp
  · unfold o_newa am_nx at e
    split at e
    · rename_i x S0
      split at e
      · cases e
      · rename_i hc
        cases e
        have hx0 : ¬ x < 0 := fun q => hc (Or.inl q)
        have hx1 : ¬ 1000 < x.toNatClampNeg := fun q => hc (Or.inr (Or.inl q))
        have h12 : ¬ h.1.length < 12 := fun q => hc (Or.inr (Or.inr q))
        refine ⟨by simp, by rw [am_ns_app]; omega, fun p e s m args below meth c R cx H locs cells slots ls Q hl hr hlo hcs hss kk => ?_⟩
        obtain ⟨hx, hb, -, hown, hts, hU, -, -, -, -, -, had⟩ := cx
        rw [am_ns_app] at hss kk
        simp only [List.length_append, List.length_cons, List.length_nil, Nat.add_sub_cancel_left, List.map_cons, List.map_nil, List.sum_cons, List.sum_nil, Nat.add_zero, Nat.zero_add] at hcs hss kk
        have had1 : ad h.1.length = H.size := by rw [had _ (by omega), hr.2.2.2.1]
        refine W.newaK hx hb (by rw [hat]; exact hts _ hw) rfl hd rfl hx0 rfl (by rw [hat]; show x.toNatClampNeg * _ ≤ _; have h8 : componentBytes .char ≤ 8 := (by decide); have := Nat.mul_le_mul (show x.toNatClampNeg ≤ 1000 by omega) h8; omega) hcs hss rfl fun H1 cA e1 z1 o1 hA => ?_
        rw [← had1]
        refine kk H1 locs ls hl ?_ hlo
        rw [hat] at e1 hA
        refine am_rel.push had hr rfl (fun k hk => am_row_ne _ _ (by omega)) (fun k hk => am_rowR_ne _ _ (by omega)) z1 o1 (Or.inr (Or.inl ⟨Nat.le_of_ble_eq_true rfl, Nat.le_of_ble_eq_true rfl, cA, hA, ?_⟩))
        dsimp only
        rw [had1, am_row_self]
        exact e1
    · cases e
end AMS
