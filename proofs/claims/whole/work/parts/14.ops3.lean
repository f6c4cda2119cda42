theorem am_up_self (f : Nat → Nat → Int32) (k j : Nat) (x : Int32) : am_up f k j x k = upd (f k) j x := by simp [am_up]
theorem am_up_ne (f : Nat → Nat → Int32) {k k' : Nat} (j : Nat) (x : Int32) (h : k' ≠ k) : am_up f k j x k' = f k' := by simp [am_up, h]
theorem am_upR_self (f : Nat → Nat → Option Nat) (k j : Nat) (x : Option Nat) : am_upR f k j x k = va_up (f k) j x := by simp [am_upR]
theorem am_upR_ne (f : Nat → Nat → Option Nat) {k k' : Nat} (j : Nat) (x : Option Nat) (h : k' ≠ k) : am_upR f k j x k' = f k' := by simp [am_upR, h]
theorem am_updV_int (f : Nat → Int32) (i : Nat) (x : Int32) : updV (fun j => Value.int (f j)) i (.int x) = fun j => .int (upd f i x j) := by
  funext q
  by_cases hq : q = i <;> simp [updV, upd, hq]
theorem am_updV_ref (ad : Nat → Nat) (f : Nat → Option Nat) (i v : Nat) : updV (fun j => va_rf ((f j).map ad)) i (.ref (ad v)) = fun j => va_rf ((va_up f i (some v) j).map ad) := by
  funext q
  by_cases hq : q = i <;> simp [updV, va_up, va_rf, hq]
theorem am_nin {i : Int32} {n m : Nat} (h : ¬ (i < 0 ∨ n ≤ i.toNatClampNeg)) (hm : n ≤ m) : ¬ (i < 0 ∨ m ≤ i.toNatClampNeg) := fun e => h (e.elim Or.inl (fun q => Or.inr (Nat.le_trans hm q)))
theorem am_nlt2 {i : Int32} {n : Nat} (h : ¬ (i < 0 ∨ n ≤ i.toNatClampNeg)) : i.toNatClampNeg < n := Nat.not_le.mp fun q => h (Or.inr q)
theorem am_locs {b0 a i : Nat} {locs : List Loc} (h : ∀ q ∈ locs, b0 ≤ q.base) (ha : b0 ≤ a) : ∀ q ∈ locs ++ [(⟨a, i⟩ : Loc)], b0 ≤ q.base := fun q hq => by
  rcases List.mem_append.mp hq with h1 | h1
  · exact h q h1
  · rw [List.mem_singleton.mp h1]
    exact ha
theorem am_w0 {p : Program} {l : Launch} {e : Env} {R : Room} {s : State} {m : MethodId} {args : Array Value} {below : List Frame} {meth : Method} {c : Code} {H : Heap} {locs : List Loc} {cells slots : Nat} {Q : State → Prop} {g : JFrame} {h h' : am_H} (he : h'.1 = h.1) (k : W p l e R s m args below meth c H locs (cells + (h'.1.length - h.1.length)) (slots + (am_ns h' - am_ns h)) Q g) : W p l e R s m args below meth c H locs cells slots Q g := by
  have e2 : am_ns h' = am_ns h := by unfold am_ns; rw [he]
  rw [he, e2, Nat.sub_self, Nat.sub_self] at k
  exact k
section AMQ
variable {l : Launch} {D : va_G} {ad : Nat → Nat} {b0 : Nat} {Hb : Heap} {I : Nat → am_I} {y : MethodName} {cc : ByteArray} {nL : Nat} {ret : Option FieldType} {pc nx : Nat}
theorem ok_iald (hd : decode cc pc = .ok (.iaload, 1)) (hn : pc + 1 = nx) : am_ok l D ad b0 Hb I y cc nL ret pc (o_ald 20 nx) := by
  subst hn
  refine am_mkS (fun L S h v => ?_) (fun L S h pc' L' S' h' e => ?_)
  · unfold o_ald am_nx; split <;> (try split) <;> (try split) <;> (try split) <;> simp
  · unfold o_ald am_nx at e
    split at e
    · split at e
      · rename_i t ht
        split at e
        · rename_i htag
          split at e
          · cases e
          · rename_i hin
            cases e
            refine ⟨rfl, fun p e s m args below meth c R cx H locs cells slots ls Q hl hr kk => ?_⟩
            obtain ⟨cell, q1, q2, q3, q4, q5, q6⟩ := hr.arr ht (by omega) (by omega)
            rw [htag] at q2
            exact W.iald cx.1 cx.2.1 q1 q2 q3 (am_nin hin q4) (q6 _ (am_nlt2 hin)) rfl rfl hd (kk ls hl)
        · cases e
      · cases e
    · cases e
theorem ok_zald (hd : decode cc pc = .ok (.baload, 1)) (hn : pc + 1 = nx) : am_ok l D ad b0 Hb I y cc nL ret pc (o_ald 21 nx) := by
  subst hn
  refine am_mkS (fun L S h v => ?_) (fun L S h pc' L' S' h' e => ?_)
  · unfold o_ald am_nx; split <;> (try split) <;> (try split) <;> (try split) <;> simp
  · unfold o_ald am_nx at e
    split at e
    · split at e
      · rename_i t ht
        split at e
        · rename_i htag
          split at e
          · cases e
          · rename_i hin
            cases e
            refine ⟨rfl, fun p e s m args below meth c R cx H locs cells slots ls Q hl hr kk => ?_⟩
            obtain ⟨cell, q1, q2, q3, q4, q5, q6⟩ := hr.arr ht (by omega) (by omega)
            rw [htag] at q2
            exact W.zald cx.1 cx.2.1 q1 q2 q3 (am_nin hin q4) (q6 _ (am_nlt2 hin)) rfl rfl hd (kk ls hl)
        · cases e
      · cases e
    · cases e
theorem ok_cald (hd : decode cc pc = .ok (.caload, 1)) (hn : pc + 1 = nx) : am_ok l D ad b0 Hb I y cc nL ret pc (o_ald 22 nx) := by
  subst hn
  refine am_mkS (fun L S h v => ?_) (fun L S h pc' L' S' h' e => ?_)
  · unfold o_ald am_nx; split <;> (try split) <;> (try split) <;> (try split) <;> simp
  · unfold o_ald am_nx at e
    split at e
    · split at e
      · rename_i t ht
        split at e
        · rename_i htag
          split at e
          · cases e
          · rename_i hin
            cases e
            refine ⟨rfl, fun p e s m args below meth c R cx H locs cells slots ls Q hl hr kk => ?_⟩
            obtain ⟨cell, q1, q2, q3, q4, q5, q6⟩ := hr.arr ht (by omega) (by omega)
            rw [htag] at q2
            exact W.cald cx.1 cx.2.1 q1 q2 q3 (am_nin hin q4) (q6 _ (am_nlt2 hin)) rfl rfl hd (kk ls hl)
        · cases e
      · cases e
    · cases e
theorem ok_bald (hd : decode cc pc = .ok (.baload, 1)) (hn : pc + 1 = nx) : am_ok l D ad b0 Hb I y cc nL ret pc (o_ald 23 nx) := by
  subst hn
  refine am_mkS (fun L S h v => ?_) (fun L S h pc' L' S' h' e => ?_)
  · unfold o_ald am_nx; split <;> (try split) <;> (try split) <;> (try split) <;> simp
  · unfold o_ald am_nx at e
    split at e
    · split at e
      · rename_i t ht
        split at e
        · rename_i htag
          split at e
          · cases e
          · rename_i hin
            cases e
            refine ⟨rfl, fun p e s m args below meth c R cx H locs cells slots ls Q hl hr kk => ?_⟩
            obtain ⟨cell, q1, q2, q3, q4, q5, q6⟩ := hr.arr ht (by omega) (by omega)
            rw [htag] at q2
            exact W.bald cx.1 cx.2.1 q1 q2 q3 (am_nin hin q4) (q6 _ (am_nlt2 hin)) rfl rfl hd (kk ls hl)
        · cases e
      · cases e
    · cases e
theorem ok_iast (hd : decode cc pc = .ok (.iastore, 1)) (hn : pc + 1 = nx) : am_ok l D ad b0 Hb I y cc nL ret pc (o_ast 20 (fun x => x) nx) := by
  subst hn
  refine am_mkN (fun L S h v => ?_) (fun L S h pc' L' S' h' e => ?_)
  · unfold o_ast am_nx; split <;> (try split) <;> (try split) <;> (try split) <;> simp
  · unfold o_ast am_nx at e
    split at e
    · rename_i x i k S0
      split at e
      · rename_i t ht
        split at e
        · rename_i htag
          split at e
          · cases e
          · rename_i hin
            cases e
            refine ⟨Nat.le_refl _, Nat.le_refl _, fun p e s m args below meth c R cx H locs cells slots ls Q hl hr hlo _ _ kk => ?_⟩
            obtain ⟨htag, hk12⟩ := htag
            rcases hr.2.2.2.2.2 k t hk12 ht with ⟨q, -⟩ | ⟨-, -, cA, q1, q2⟩ | ⟨q, -⟩
            · omega
            · have q1' := q1
              rw [htag] at q1'
              refine W.iast cx.1 cx.2.1 q2 (q1' _ _) (fun q => by cases q) (by rw [arrV_size]; exact hin) rfl rfl hd fun H1 e1 z oq => ?_
              have hrel : am_rel D ad b0 Hb s (h.1, am_up h.2.1 k i.toNatClampNeg (x), h.2.2) H1 := by
                refine am_rel.put cx.2.2.2.2.2.2.2.2.2.2.2 hr hk12 ht rfl (fun k' hk' => am_up_ne _ _ _ hk') (fun _ _ => rfl) z oq (Or.inr (Or.inl ⟨by omega, by omega, cA, q1, ?_⟩))
                show H1[ad k]? = some (arrV cA t.2 (fun j => .int (am_up h.2.1 k i.toNatClampNeg (x) k j)))
                rw [e1, arrV_store, am_up_self, ← am_updV_int]
                try rfl
              exact am_w0 rfl (kk H1 _ ls hl hrel (am_locs (a := ad k) (i := i.toNatClampNeg) hlo (by rw [cx.2.2.2.2.2.2.2.2.2.2.2 k hk12]; omega)))
            · omega
        · cases e
      · cases e
    · cases e
theorem ok_zast (hd : decode cc pc = .ok (.bastore, 1)) (hn : pc + 1 = nx) : am_ok l D ad b0 Hb I y cc nL ret pc (o_ast 21 (fun x => x &&& 1) nx) := by
  subst hn
  refine am_mkN (fun L S h v => ?_) (fun L S h pc' L' S' h' e => ?_)
  · unfold o_ast am_nx; split <;> (try split) <;> (try split) <;> (try split) <;> simp
  · unfold o_ast am_nx at e
    split at e
    · rename_i x i k S0
      split at e
      · rename_i t ht
        split at e
        · rename_i htag
          split at e
          · cases e
          · rename_i hin
            cases e
            refine ⟨Nat.le_refl _, Nat.le_refl _, fun p e s m args below meth c R cx H locs cells slots ls Q hl hr hlo _ _ kk => ?_⟩
            obtain ⟨htag, hk12⟩ := htag
            rcases hr.2.2.2.2.2 k t hk12 ht with ⟨q, -⟩ | ⟨-, -, cA, q1, q2⟩ | ⟨q, -⟩
            · omega
            · have q1' := q1
              rw [htag] at q1'
              refine W.zast cx.1 cx.2.1 q2 (q1' _ _) (fun q => by cases q) (by rw [arrV_size]; exact hin) rfl rfl hd fun H1 e1 z oq => ?_
              have hrel : am_rel D ad b0 Hb s (h.1, am_up h.2.1 k i.toNatClampNeg (x &&& 1), h.2.2) H1 := by
                refine am_rel.put cx.2.2.2.2.2.2.2.2.2.2.2 hr hk12 ht rfl (fun k' hk' => am_up_ne _ _ _ hk') (fun _ _ => rfl) z oq (Or.inr (Or.inl ⟨by omega, by omega, cA, q1, ?_⟩))
                show H1[ad k]? = some (arrV cA t.2 (fun j => .int (am_up h.2.1 k i.toNatClampNeg (x &&& 1) k j)))
                rw [e1, arrV_store, am_up_self, ← am_updV_int]
                try rfl
              exact am_w0 rfl (kk H1 _ ls hl hrel (am_locs (a := ad k) (i := i.toNatClampNeg) hlo (by rw [cx.2.2.2.2.2.2.2.2.2.2.2 k hk12]; omega)))
            · omega
        · cases e
      · cases e
    · cases e
theorem ok_cast (hd : decode cc pc = .ok (.castore, 1)) (hn : pc + 1 = nx) : am_ok l D ad b0 Hb I y cc nL ret pc (o_ast 22 (fun x => x.toUInt32.toUInt16.toUInt32.toInt32) nx) := by
  subst hn
  refine am_mkN (fun L S h v => ?_) (fun L S h pc' L' S' h' e => ?_)
  · unfold o_ast am_nx; split <;> (try split) <;> (try split) <;> (try split) <;> simp
  · unfold o_ast am_nx at e
    split at e
    · rename_i x i k S0
      split at e
      · rename_i t ht
        split at e
        · rename_i htag
          split at e
          · cases e
          · rename_i hin
            cases e
            refine ⟨Nat.le_refl _, Nat.le_refl _, fun p e s m args below meth c R cx H locs cells slots ls Q hl hr hlo _ _ kk => ?_⟩
            obtain ⟨htag, hk12⟩ := htag
            rcases hr.2.2.2.2.2 k t hk12 ht with ⟨q, -⟩ | ⟨-, -, cA, q1, q2⟩ | ⟨q, -⟩
            · omega
            · have q1' := q1
              rw [htag] at q1'
              refine W.cast cx.1 cx.2.1 q2 (q1' _ _) (fun q => by cases q) (by rw [arrV_size]; exact hin) rfl rfl hd fun H1 e1 z oq => ?_
              have hrel : am_rel D ad b0 Hb s (h.1, am_up h.2.1 k i.toNatClampNeg (x.toUInt32.toUInt16.toUInt32.toInt32), h.2.2) H1 := by
                refine am_rel.put cx.2.2.2.2.2.2.2.2.2.2.2 hr hk12 ht rfl (fun k' hk' => am_up_ne _ _ _ hk') (fun _ _ => rfl) z oq (Or.inr (Or.inl ⟨by omega, by omega, cA, q1, ?_⟩))
                show H1[ad k]? = some (arrV cA t.2 (fun j => .int (am_up h.2.1 k i.toNatClampNeg (x.toUInt32.toUInt16.toUInt32.toInt32) k j)))
                rw [e1, arrV_store, am_up_self, ← am_updV_int]
                try rfl
              exact am_w0 rfl (kk H1 _ ls hl hrel (am_locs (a := ad k) (i := i.toNatClampNeg) hlo (by rw [cx.2.2.2.2.2.2.2.2.2.2.2 k hk12]; omega)))
            · omega
        · cases e
      · cases e
    · cases e
theorem ok_alen {tag : Nat} (h20 : 20 ≤ tag) (h24 : tag < 24) (hd : decode cc pc = .ok (.arraylength, 1)) (hn : pc + 1 = nx) : am_ok l D ad b0 Hb I y cc nL ret pc (o_alen tag nx) := by
  subst hn
  refine am_mkS (fun L S h v => ?_) (fun L S h pc' L' S' h' e => ?_)
  · unfold o_alen am_nx; split <;> (try split) <;> (try split) <;> simp
  · unfold o_alen am_nx at e
    split at e
    · split at e
      · rename_i t ht
        split at e
        · rename_i htag
          cases e
          refine ⟨rfl, fun p e s m args below meth c R cx H locs cells slots ls Q hl hr kk => ?_⟩
          obtain ⟨cell, q1, q2, q3, q4, q5, q6⟩ := hr.arr ht (by omega) (by omega)
          exact W.alen cx.1 cx.2.1 q1 q2 q5 rfl rfl hd (kk ls hl)
        · cases e
      · cases e
    · cases e
theorem ok_aald {tag : Nat} (h30 : 30 ≤ tag) (h33 : tag < 33) (hd : decode cc pc = .ok (.aaload, 1)) (hn : pc + 1 = nx) : am_ok l D ad b0 Hb I y cc nL ret pc (o_aald tag nx) := by
  subst hn
  refine am_mkS (fun L S h v => ?_) (fun L S h pc' L' S' h' e => ?_)
  · unfold o_aald am_nx; split <;> (try split) <;> (try split) <;> (try split) <;> (try split) <;> simp
  · unfold o_aald am_nx at e
    split at e
    · rename_i i k S0
      split at e
      · rename_i t ht
        split at e
        · rename_i htag
          split at e
          · cases e
          · rename_i hin
            split at e
            · rename_i a ha
              cases e
              refine ⟨rfl, fun p e s m args below meth c R cx H locs cells slots ls Q hl hr kk => ?_⟩
              rcases hr.2.2.2.2.2 k t htag.2 ht with ⟨q, -⟩ | ⟨-, q, -⟩ | ⟨-, -, cA, q1, -, q2⟩
              · omega
              · omega
              · have hrt : (am_rt t.1).isReference = true := by
                  have h3 : t.1 = 30 ∨ t.1 = 31 ∨ t.1 = 32 := by omega
                  rcases h3 with h3 | h3 | h3 <;> rw [h3] <;> rfl
                refine W.aald (v := .ref (ad a)) (ty := am_rt t.1) cx.1 cx.2.1 q2 (q1 _ _) hrt (fun q => by cases q) (by rw [arrV_size]; exact hin) ?_ rfl rfl hd (kk ls hl)
                rw [arrV_read _ _ (am_nlt2 hin), ha]
                rfl
            · cases e
        · cases e
      · cases e
    · cases e
theorem ok_aast {tag ci : Nat} {r : vw_C} (htg : tag = 31 ∨ tag = 32) (hC : am_rt tag = .object r.1) (hc : vwCl[ci]? = some r) (hci : ci < 11) (hd : decode cc pc = .ok (.aastore, 1)) (hn : pc + 1 = nx) : am_ok l D ad b0 Hb I y cc nL ret pc (o_aast tag ci nx) := by
  subst hn
  refine am_mkN (fun L S h v => ?_) (fun L S h pc' L' S' h' e => ?_)
  · unfold o_aast am_nx; split <;> (try split) <;> (try split) <;> (try split) <;> simp
  · unfold o_aast am_nx at e
    split at e
    · rename_i v i k S0
      split at e
      · rename_i t tv ht htv
        split at e
        · rename_i htag
          split at e
          · cases e
          · rename_i hin
            cases e
            refine ⟨Nat.le_refl _, Nat.le_refl _, fun p e s m args below meth c R cx H locs cells slots ls Q hl hr hlo _ _ kk => ?_⟩
            obtain ⟨htag, hk12, htvc, hv12⟩ := htag
            have hrr := hr
            obtain ⟨g1, g2, g3, g4, g5, g6⟩ := hr
            rcases g6 k t hk12 ht with ⟨q, -⟩ | ⟨-, q, -⟩ | ⟨-, -, cA, q1, q3, q2⟩
            · omega
            · omega
            · rcases g6 v tv hv12 htv with ⟨-, r', w1, cellV, w2, w3, w4, -⟩ | ⟨q, -⟩ | ⟨q, -⟩
              · have hr9 : r' = r := by
                  rw [htvc] at w1
                  exact Option.some.inj (w1.symm.trans hc)
                subst hr9
                rw [htvc] at w3
                have hcls := (cx.2.2.2.2.2.1.1.1 ci _ hc).2
                rw [htag, hC] at q3
                obtain ⟨kA, comp, k1, k2, k3, k4⟩ := q3
                have hcomp : comp = D.1 ci := Option.some.inj (k3.symm.trans hcls.1)
                subst hcomp
                have hasg := va_assign hcls
                obtain ⟨kC, hkC, -⟩ := hcls.2
                refine W.aast cx.1 cx.2.1 q2 (fun q h => by cases h) (fun h => by cases h) k1 k2 rfl hkC ⟨fun q => hin (Or.inl q), by rw [arrV_size]; exact am_nlt2 hin⟩ w2 (fun q h => by rw [w4] at h; cases h) (by rw [w3]; exact hkC) (by rw [w3]; exact hasg) rfl rfl hd fun H1 e1 z oq => ?_
                have hrel : am_rel D ad b0 Hb s (h.1, h.2.1, am_upR h.2.2 k i.toNatClampNeg (some v)) H1 := by
                  refine am_rel.put cx.2.2.2.2.2.2.2.2.2.2.2 hrr hk12 ht rfl (fun _ _ => rfl) (fun k' hk' => am_upR_ne _ _ _ hk') z oq (Or.inr (Or.inr ⟨by omega, by omega, cA, q1, ?_, ?_⟩))
                  · rw [htag, hC]
                    exact ⟨kA, D.1 ci, k1, k2, k3, k4⟩
                  · show H1[ad k]? = some (arrV cA t.2 (fun j => va_rf ((am_upR h.2.2 k i.toNatClampNeg (some v) k j).map ad)))
                    rw [e1, arrV_store, am_updV_ref, am_upR_self]
                exact am_w0 rfl (kk H1 _ ls hl hrel (am_locs (a := ad k) (i := i.toNatClampNeg) hlo (by rw [cx.2.2.2.2.2.2.2.2.2.2.2 k hk12]; omega)))
              · omega
              · omega
        · cases e
      · cases e
    · cases e
def am_cls (ci : Nat) (C : String) (T : u_T) (N : Nat) : Prop := vwCl[ci]? = some (C, T, N) ∧ ci < 11 ∧ (∀ w ∈ u_ws C T N, w ∈ am_tb) ∧ (∀ k, k < N → parseFieldDescriptor (T k).2.2.1 = some (am_tyT ci k)) ∧ ∀ a, a < N → ∀ b, b < N → a ≠ b → (T a).2.1 ≠ (T b).2.1
/-- a field of one of our objects -/
theorem am_getf {p : Program} {e : Env} {s : State} {m : MethodId} {args : Array Value} {below : List Frame} {meth : Method} {c : Code} {R : Room} {H : Heap} {locs : List Loc} {cells slots : Nat} {ls : Array Slot} {Q : State → Prop} {h : am_H} {k j ci N index : Nat} {C : String} {T : u_T} {rest : List Value} (hcl : am_cls ci C T N) (hj : j < N) (cx : am_cx D ad b0 Hb p s m args meth c R y cc nL ret) (hr : am_rel D ad b0 Hb s h H) {t : Nat × Nat} (ht : h.1[k]? = some t) (hci : t.1 = ci) (hw : Cond.fieldLink y.cls index (T j).1 (T j).2.1 (T j).2.2.1 ∈ am_tb) (hd : decode cc pc = .ok (.getfield index, 3))
    (kk : W p l e R s m args below meth c H locs cells slots Q (F0 m (pc + 3) ls (am_fv ad (am_tyT ci j) (h.2.1 k j) (h.2.2 k j) :: rest))) : W p l e R s m args below meth c H locs cells slots Q (F0 m pc ls (.ref (ad k) :: rest)) := by
  obtain ⟨hc, hlt, hin, hty, hnm⟩ := hcl
  obtain ⟨hx, hb, -, hown, hts, hU, -⟩ := cx
  subst hci
  have hnew : am_new D ad s H k t (h.2.1 k) (h.2.2 k) := by
    by_cases hk : k < 12
    · rcases hr.2.2.2.2.1 k t hk ht with ⟨q, -⟩ | ⟨q, -⟩ <;> omega
    · exact hr.2.2.2.2.2 k t (by omega) ht
  rcases hnew with ⟨-, r, w1, cell, q1, q2, q3, q4⟩ | ⟨q, -⟩ | ⟨q, -⟩
  · have hr9 : r = (C, T, N) := Option.some.inj (w1.symm.trans hc)
    subst hr9
    obtain ⟨hS, hfc, kC, hkC, hkind⟩ := hU.1.1 t.1 _ hc
    obtain ⟨cf, kf, fi, f, hi, hsl⟩ := hS j hj
    refine W.getf hx hb hown (hts _ hw) hi (u_facts hfc hkC (u_lays hts hin hj) hi).1 q1 (by rw [q3]; exact fun h => by cases h) (v := am_fv ad (am_tyT t.1 j) (h.2.1 k j) (h.2.2 k j)) ?_ rfl rfl hd kk
    rw [hsl, q4 j hj]
  · omega
  · omega
theorem ok_getI {ci j N index : Nat} {C : String} {T : u_T} (hcl : am_cls ci C T N) (hj : j < N) (hR : am_isR (am_tyT ci j) = false) (hd : decode cc pc = .ok (.getfield index, 3)) (hw : Cond.fieldLink y.cls index (T j).1 (T j).2.1 (T j).2.2.1 ∈ am_tb) (hn : pc + 3 = nx) : am_ok l D ad b0 Hb I y cc nL ret pc (o_getI ci j nx) := by
  subst hn
  refine am_mkS (fun L S h v => ?_) (fun L S h pc' L' S' h' e => ?_)
  · unfold o_getI am_nx; split <;> (try split) <;> (try split) <;> simp
  · unfold o_getI am_nx at e
    split at e
    · rename_i k S0
      split at e
      · rename_i t ht
        split at e
        · rename_i htag
          cases e
          refine ⟨rfl, fun p e s m args below meth c R cx H locs cells slots ls Q hl hr kk => am_getf hcl hj cx hr ht htag hw hd ?_⟩
          have e9 : am_fv ad (am_tyT ci j) (h.2.1 k j) (h.2.2 k j) = .int (h.2.1 k j) := by simp [am_fv, hR]
          rw [e9]
          exact kk ls hl
        · cases e
      · cases e
    · cases e
theorem ok_getR {ci j N index : Nat} {C : String} {T : u_T} (hcl : am_cls ci C T N) (hj : j < N) (hR : am_isR (am_tyT ci j) = true) (hd : decode cc pc = .ok (.getfield index, 3)) (hw : Cond.fieldLink y.cls index (T j).1 (T j).2.1 (T j).2.2.1 ∈ am_tb) (hn : pc + 3 = nx) : am_ok l D ad b0 Hb I y cc nL ret pc (o_getR ci j nx) := by
  subst hn
  refine am_mkS (fun L S h v => ?_) (fun L S h pc' L' S' h' e => ?_)
  · unfold o_getR am_nx; split <;> (try split) <;> (try split) <;> (try split) <;> simp
  · unfold o_getR am_nx at e
    split at e
    · rename_i k S0
      split at e
      · rename_i t ht
        split at e
        · rename_i htag
          split at e
          · rename_i a ha
            cases e
            refine ⟨rfl, fun p e s m args below meth c R cx H locs cells slots ls Q hl hr kk => am_getf hcl hj cx hr ht htag hw hd ?_⟩
            have e9 : am_fv ad (am_tyT ci j) (h.2.1 k j) (h.2.2 k j) = .ref (ad a) := by simp [am_fv, hR, ha, va_rf]
            rw [e9]
            exact kk ls hl
          · cases e
        · cases e
      · cases e
    · cases e
/-- the two fields of a String -/
theorem am_getS {p : Program} {e : Env} {s : State} {m : MethodId} {args : Array Value} {below : List Frame} {meth : Method} {c : Code} {R : Room} {H : Heap} {locs : List Loc} {cells slots : Nat} {ls : Array Slot} {Q : State → Prop} {h : am_H} {k index : Nat} {n d : String} {v : Value} {rest : List Value} (cx : am_cx D ad b0 Hb p s m args meth c R y cc nL ret) (hr : am_rel D ad b0 Hb s h H) (hF : va_OF "java/lang/String" n d v (ad k) (fun q => b0 ≤ q) s Hb) (hw : Cond.fieldLink y.cls index "java/lang/String" n d ∈ am_tb) (hd : decode cc pc = .ok (.getfield index, 3))
    (kk : W p l e R s m args below meth c H locs cells slots Q (F0 m (pc + 3) ls (v :: rest))) : W p l e R s m args below meth c H locs cells slots Q (F0 m pc ls (.ref (ad k) :: rest)) := by
  obtain ⟨hx, hb, -, hown, hts, hU, -⟩ := cx
  obtain ⟨cf, kf, fi, f, cell, h1, h2, h3, h4, h5, h6⟩ := hF
  have hb0 : ad k < b0 := Nat.not_le.mp h6
  exact W.getf hx hb hown (hts _ hw) h1 h2 (by rw [hr.2.1 _ hb0]; exact h3) h4 (v := v) h5 rfl rfl hd kk
theorem ok_getSI {index : Nat} (hd : decode cc pc = .ok (.getfield index, 3)) (hw : Cond.fieldLink y.cls index "java/lang/String" "coder" "B" ∈ am_tb) (hn : pc + 3 = nx) : am_ok l D ad b0 Hb I y cc nL ret pc (o_getI 12 1 nx) := by
  subst hn
  refine am_mkS (fun L S h v => ?_) (fun L S h pc' L' S' h' e => ?_)
  · unfold o_getI am_nx; split <;> (try split) <;> (try split) <;> simp
  · unfold o_getI am_nx at e
    split at e
    · rename_i k S0
      split at e
      · rename_i t ht
        split at e
        · rename_i htag
          cases e
          refine ⟨rfl, fun p e s m args below meth c R cx H locs cells slots ls Q hl hr kk => ?_⟩
          by_cases hk : k < 12
          · rcases hr.2.2.2.2.1 k t hk ht with ⟨-, -, -, q⟩ | ⟨q, -⟩
            · exact am_getS cx hr q hw hd (kk ls hl)
            · omega
          · rcases hr.2.2.2.2.2 k t (Nat.not_lt.mp hk) ht with ⟨q, -⟩ | ⟨q, -⟩ | ⟨q, -⟩ <;> omega
        · cases e
      · cases e
    · cases e
theorem ok_getSR {index : Nat} (hd : decode cc pc = .ok (.getfield index, 3)) (hw : Cond.fieldLink y.cls index "java/lang/String" "value" "[B" ∈ am_tb) (hn : pc + 3 = nx) : am_ok l D ad b0 Hb I y cc nL ret pc (o_getR 12 0 nx) := by
  subst hn
  refine am_mkS (fun L S h v => ?_) (fun L S h pc' L' S' h' e => ?_)
  · unfold o_getR am_nx; split <;> (try split) <;> (try split) <;> (try split) <;> simp
  · unfold o_getR am_nx at e
    split at e
    · rename_i k S0
      split at e
      · rename_i t ht
        split at e
        · rename_i htag
          split at e
          · rename_i a ha
            cases e
            refine ⟨rfl, fun p e s m args below meth c R cx H locs cells slots ls Q hl hr kk => ?_⟩
            by_cases hk : k < 12
            · rcases hr.2.2.2.2.1 k t hk ht with ⟨-, -, q, -⟩ | ⟨q, -⟩
              · rw [ha] at q
                exact am_getS cx hr q hw hd (kk ls hl)
              · omega
            · rcases hr.2.2.2.2.2 k t (Nat.not_lt.mp hk) ht with ⟨q, -⟩ | ⟨q, -⟩ | ⟨q, -⟩ <;> omega
          · cases e
        · cases e
      · cases e
    · cases e
/-- a field of one of our objects is written: 'fin': a final one, in its constructor -/
theorem am_putf {p : Program} {e : Env} {s : State} {m : MethodId} {args : Array Value} {below : List Frame} {meth : Method} {c : Code} {R : Room} {H : Heap} {locs : List Loc} {cells slots : Nat} {ls : Array Slot} {Q : State → Prop} {h h' : am_H} {k j ci N index : Nat} {C : String} {T : u_T} {v : Value} {rest : List Value} (hcl : am_cls ci C T N) (hj : j < N) (cx : am_cx D ad b0 Hb p s m args meth c R y cc nL ret) (hr : am_rel D ad b0 Hb s h H) (hlo : ∀ q ∈ locs, b0 ≤ q.base) (hk : 12 ≤ k) {t : Nat × Nat} (ht : h.1[k]? = some t) (hci : t.1 = ci) (hw : Cond.fieldLink y.cls index (T j).1 (T j).2.1 (T j).2.2.1 ∈ am_tb) (hd : decode cc pc = .ok (.putfield index, 3))
    (hfin : (T j).2.2.2 = false ∨ ((T j).2.2.2 = true ∧ y.name = "<init>" ∧ (T j).1 = y.cls)) (hnar : narrow (am_tyT ci j) v = v) (hfit : fits (am_tyT ci j) v = true) (e1 : h'.1 = h.1) (e2 : ∀ k', k' ≠ k → h'.2.1 k' = h.2.1 k') (e3 : ∀ k', k' ≠ k → h'.2.2 k' = h.2.2 k') (e4 : ∀ i, updV (fun j => am_fv ad (am_tyT ci j) (h.2.1 k j) (h.2.2 k j)) j v i = am_fv ad (am_tyT ci i) (h'.2.1 k i) (h'.2.2 k i))
    (kk : ∀ (H' : Heap) (locs' : List Loc), am_rel D ad b0 Hb s h' H' → (∀ q ∈ locs', b0 ≤ q.base) → W p l e R s m args below meth c H' locs' cells slots Q (F0 m (pc + 3) ls rest)) : W p l e R s m args below meth c H locs cells slots Q (F0 m pc ls (v :: .ref (ad k) :: rest)) := by
  obtain ⟨hc, hlt, hin, hty, hnm⟩ := hcl
  obtain ⟨hx, hb, -, hown, hts, hU, -, -, hmn, -, -, had⟩ := cx
  subst hci
  have hap := va_apart (own := y.cls) hts hin (am_tyT t.1) hty hnm hU.1 hc
  rcases hr.2.2.2.2.2 k t hk ht with ⟨hl11, r, w1, cell, q1, q2, q3, q4⟩ | ⟨q, -⟩ | ⟨q, -⟩
  · have hr9 : r = (C, T, N) := Option.some.inj (w1.symm.trans hc)
    subst hr9
    obtain ⟨hS, hfc, kC, hkC, hkind⟩ := hU.1.1 t.1 _ hc
    obtain ⟨cf, kf, fi, f, hi, hsl⟩ := hS j hj
    have hst := (u_facts hfc hkC (u_lays hts hin hj) hi).1
    have key : ∀ (H' : Heap), H'[ad k]? = some (cell.setSlot f.slot v) → H'.size = H.size → (∀ q, q ≠ ad k → H'[q]? = H[q]?) → W p l e R s m args below meth c H' (locs ++ [⟨ad k, f.slot⟩]) cells slots Q (F0 m (pc + 3) ls rest) := by
      intro H' g1 g2 g3
      refine kk H' _ (am_rel.put had hr hk ht e1 e2 e3 g2 g3 (Or.inl ⟨hl11, _, hc, ?_⟩)) (am_locs hlo (by rw [had k hk]; omega))
      rw [hsl] at g1
      exact t_OB.to (V := updV (fun j => am_fv ad (am_tyT t.1 j) (h.2.1 k j) (h.2.2 k j)) j v) ⟨_, g1, q2, q3, t_set q4 hap hj v⟩ (fun i _ => e4 i)
    rcases hfin with hfin | ⟨hfin, hin2, hdecl⟩
    · have hlay := hts _ (hin _ (u_in_lay hj))
      unfold u_lay at hlay
      rw [if_neg (by rw [hfin]; decide)] at hlay
      have h6 := u_store hfc hkC hkind hlay hi (hty j hj) hnar hfit
      exact W.putK hx hb (f := f) ⟨hown, hts _ hw, ⟨_, _, _, hi⟩, hst⟩ (by rw [q2]; exact h6) q1 q3 (by rw [hsl]; exact k2_hasslot (q4 j hj)) rfl rfl hd key
    · have hlay := hts _ (hin _ (u_in_lay hj))
      unfold u_lay at hlay
      rw [if_pos hfin] at hlay
      have hcf : m.cls = cf := by
        obtain ⟨_, _, c', _, _, _, -, -, hf', -, -, -, hown2, -⟩ := Cond.laysFinal_spec hlay
        have e1 : c' = cf := by have := hi.symm.trans hf'; simp at this; exact this.1.symm
        rw [hdecl] at hown2
        rw [← e1]; exact Option.some.inj (hown.symm.trans hown2)
      have h6 := u_fits hfc hkC hkind (Or.inr hlay) hi (hty j hj) hnar hfit
      exact W.putFinK hx hb hown (hts _ hw) hi hst hcf (by rw [hmn hin2, hin2]) (by rw [q2]; exact h6) q1 q3 (by rw [hsl]; exact k2_hasslot (q4 j hj)) rfl rfl hd key
  · omega
  · omega
theorem am_updV_fi (ad : Nat → Nat) (ty : Nat → FieldType) (f : Nat → Int32) (g : Nat → Option Nat) (j : Nat) (x : Int32) (hR : am_isR (ty j) = false) (i : Nat) : updV (fun j => am_fv ad (ty j) (f j) (g j)) j (.int x) i = am_fv ad (ty i) (upd f j x i) (g i) := by
  by_cases h : i = j
  · subst h; simp [updV, upd, am_fv, hR]
  · simp [updV, upd, h]
theorem am_updV_fr (ad : Nat → Nat) (ty : Nat → FieldType) (f : Nat → Int32) (g : Nat → Option Nat) (j v : Nat) (hR : am_isR (ty j) = true) (i : Nat) : updV (fun j => am_fv ad (ty j) (f j) (g j)) j (.ref (ad v)) i = am_fv ad (ty i) (f i) (va_up g j (some v) i) := by
  by_cases h : i = j
  · subst h; simp [updV, va_up, am_fv, hR, va_rf]
  · simp [updV, va_up, h]
theorem ok_putI {ci j N index : Nat} {C : String} {T : u_T} (hcl : am_cls ci C T N) (hj : j < N) (hR : am_tyT ci j = .int) (hfin : (T j).2.2.2 = false ∨ ((T j).2.2.2 = true ∧ y.name = "<init>" ∧ (T j).1 = y.cls)) (hd : decode cc pc = .ok (.putfield index, 3)) (hw : Cond.fieldLink y.cls index (T j).1 (T j).2.1 (T j).2.2.1 ∈ am_tb) (hn : pc + 3 = nx) : am_ok l D ad b0 Hb I y cc nL ret pc (o_putI ci j nx) := by
  subst hn
  refine am_mkN (fun L S h v => ?_) (fun L S h pc' L' S' h' e => ?_)
  · unfold o_putI am_nx; split <;> (try split) <;> (try split) <;> simp
  · unfold o_putI am_nx at e
    split at e
    · rename_i x k S0
      split at e
      · rename_i t ht
        split at e
        · rename_i htag
          cases e
          refine ⟨Nat.le_refl _, Nat.le_refl _, fun p e s m args below meth c R cx H locs cells slots ls Q hl hr hlo _ _ kk => am_putf (h' := (h.1, am_up h.2.1 k j x, h.2.2)) (v := .int x) hcl hj cx hr hlo htag.2 ht htag.1 hw hd hfin (by rw [hR]; rfl) (by rw [hR]; rfl) rfl (fun k' hk' => am_up_ne _ _ _ hk') (fun _ _ => rfl) (fun i => ?_) (fun H' locs' hr' hlo' => ?_)⟩
          · show _ = am_fv ad (am_tyT ci i) (am_up h.2.1 k j x k i) (h.2.2 k i)
            rw [am_up_self]
            exact am_updV_fi ad (am_tyT ci) _ _ j x (by rw [hR]; rfl) i
          · exact am_w0 rfl (kk H' locs' ls hl hr' hlo')
        · cases e
      · cases e
    · cases e
theorem ok_putZ {ci j N index : Nat} {C : String} {T : u_T} (hcl : am_cls ci C T N) (hj : j < N) (hR : am_tyT ci j = .boolean) (hfin : (T j).2.2.2 = false ∨ ((T j).2.2.2 = true ∧ y.name = "<init>" ∧ (T j).1 = y.cls)) (hd : decode cc pc = .ok (.putfield index, 3)) (hw : Cond.fieldLink y.cls index (T j).1 (T j).2.1 (T j).2.2.1 ∈ am_tb) (hn : pc + 3 = nx) : am_ok l D ad b0 Hb I y cc nL ret pc (o_putZ ci j nx) := by
  subst hn
  refine am_mkN (fun L S h v => ?_) (fun L S h pc' L' S' h' e => ?_)
  · unfold o_putZ am_nx; split <;> (try split) <;> (try split) <;> simp
  · unfold o_putZ am_nx at e
    split at e
    · rename_i x k S0
      split at e
      · rename_i t ht
        split at e
        · rename_i htag
          cases e
          refine ⟨Nat.le_refl _, Nat.le_refl _, fun p e s m args below meth c R cx H locs cells slots ls Q hl hr hlo _ _ kk => am_putf (h' := (h.1, am_up h.2.1 k j x, h.2.2)) (v := .int x) hcl hj cx hr hlo htag.1.2 ht htag.1.1 hw hd hfin (by rw [hR]; rcases htag.2 with h9 | h9 <;> rw [h9] <;> rfl) (by rw [hR]; rcases htag.2 with h9 | h9 <;> rw [h9] <;> rfl) rfl (fun k' hk' => am_up_ne _ _ _ hk') (fun _ _ => rfl) (fun i => ?_) (fun H' locs' hr' hlo' => ?_)⟩
          · show _ = am_fv ad (am_tyT ci i) (am_up h.2.1 k j x k i) (h.2.2 k i)
            rw [am_up_self]
            exact am_updV_fi ad (am_tyT ci) _ _ j x (by rw [hR]; rfl) i
          · exact am_w0 rfl (kk H' locs' ls hl hr' hlo')
        · cases e
      · cases e
    · cases e
theorem am_refty {ty : FieldType} (hR : am_isR ty = true) (k : Nat) : narrow ty (.ref k) = .ref k ∧ fits ty (.ref k) = true := by
  cases ty <;> simp_all [am_isR, narrow, fits]
theorem ok_putR {ci j N index : Nat} {C : String} {T : u_T} (hcl : am_cls ci C T N) (hj : j < N) (hR : am_isR (am_tyT ci j) = true) (hfin : (T j).2.2.2 = false ∨ ((T j).2.2.2 = true ∧ y.name = "<init>" ∧ (T j).1 = y.cls)) (hd : decode cc pc = .ok (.putfield index, 3)) (hw : Cond.fieldLink y.cls index (T j).1 (T j).2.1 (T j).2.2.1 ∈ am_tb) (hn : pc + 3 = nx) : am_ok l D ad b0 Hb I y cc nL ret pc (o_putR ci j nx) := by
  subst hn
  refine am_mkN (fun L S h v => ?_) (fun L S h pc' L' S' h' e => ?_)
  · unfold o_putR am_nx; split <;> (try split) <;> (try split) <;> simp
  · unfold o_putR am_nx at e
    split at e
    · rename_i x k S0
      split at e
      · rename_i t ht
        split at e
        · rename_i htag
          cases e
          refine ⟨Nat.le_refl _, Nat.le_refl _, fun p e s m args below meth c R cx H locs cells slots ls Q hl hr hlo _ _ kk => am_putf (h' := (h.1, h.2.1, am_upR h.2.2 k j (some x))) (v := .ref (ad x)) hcl hj cx hr hlo htag.2 ht htag.1 hw hd hfin (am_refty hR _).1 (am_refty hR _).2 rfl (fun _ _ => rfl) (fun k' hk' => am_upR_ne _ _ _ hk') (fun i => ?_) (fun H' locs' hr' hlo' => ?_)⟩
          · show _ = am_fv ad (am_tyT ci i) (h.2.1 k i) (am_upR h.2.2 k j (some x) k i)
            rw [am_upR_self]
            exact am_updV_fr ad (am_tyT ci) _ _ j x hR i
          · exact am_w0 rfl (kk H' locs' ls hl hr' hlo')
        · cases e
      · cases e
    · cases e
end AMQ
