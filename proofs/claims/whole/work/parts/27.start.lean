/-! FROM A RUN OF THE SMALL MACHINE TO THE LAW'S WALK -/
def hi0 (xs : Nat → Int32) : Nat → Nat → Int32 := fun k => match k with
  | 0 => xs
  | 1 => fun j => ([99, 4, 1, 9, 19] : List Int32).getD j 0
  | 2 => fun j => ([1000, 100, 10, 1] : List Int32).getD j 0
  | 3 => fun j => ([3, 5, 1] : List Int32).getD j 0
  | 8 => fun j => ([119, 116, 110, 112] : List Int32).getD j 0
  | 9 => fun j => ([61, 60, 62] : List Int32).getD j 0
  | 10 => fun j => ([48, 49, 50, 51, 52, 53, 54, 55, 56, 57] : List Int32).getD j 0
  | 11 => fun j => ([100, 104, 115] : List Int32).getD j 0
  | _ => fun _ => 0
def hr0 : Nat → Nat → Option Nat := fun k => match k with
  | 4 => fun j => if j = 0 then some 8 else none
  | 5 => fun j => if j = 0 then some 9 else none
  | 6 => fun j => if j = 0 then some 10 else none
  | 7 => fun j => if j = 0 then some 11 else none
  | _ => fun _ => none
def hh0 (L : Nat) (xs : Nat → Int32) : am_H := ([(20, L), (20, 5), (20, 4), (20, 3), (12, 2), (12, 2), (12, 2), (12, 2), (23, 4), (23, 3), (23, 10), (23, 3)], hi0 xs, hr0)
def am_sx (i : Nat) : Nat := ([82, 84, 86, 49] : List Nat).getD i 0
def am_slen : List Nat := [4, 3, 10, 3]
def am_sby : List (List Int32) := [[119, 116, 110, 112], [61, 60, 62], [48, 49, 50, 51, 52, 53, 54, 55, 56, 57], [100, 104, 115]]
theorem am_tbl_in {w : Cond} (h : w ∈ am_tb) : w ∈ lw_tbl := (List.mem_filter.mp h).1
theorem am_lt4 {i : Nat} (h : i < 4) : i = 0 ∨ i = 1 ∨ i = 2 ∨ i = 3 := by omega
set_option maxRecDepth 100000 in
set_option maxHeartbeats 4000000 in
theorem am_strings {args : Array Value} {s : State} (h : (Jvm.Cond.and given_1 narrow_1).before args s = true) {A : Nat → Prop} (hA : ∀ a : Nat, a < s.heap.size → ¬ A a) : ∃ adK adV : Nat → Nat, vk_S 4 am_slen am_sby adK adV A s s.heap ∧ ∀ i : Nat, i < 4 → (Term.string "RumourDesk$Tape" (am_sx i)).eval args s none [] s = some (.ref (adK i)) := by
  have hs := flat_of_before _ h
  refine vk_Sof (tm := fun i => .string "RumourDesk$Tape" (am_sx i)) ?_ ?_ ?_ ?_ ?_ ?_ ?_ hA
  · intro i hi; rcases am_lt4 hi with rfl | rfl | rfl | rfl <;> decide
  · intro i hi; rcases am_lt4 hi with rfl | rfl | rfl | rfl <;> exact hs _ (by decide +kernel)
  · intro i hi; rcases am_lt4 hi with rfl | rfl | rfl | rfl <;> exact hs _ (by decide +kernel)
  · intro i hi; rcases am_lt4 hi with rfl | rfl | rfl | rfl <;> exact hs _ (by decide +kernel)
  · intro i hi; rcases am_lt4 hi with rfl | rfl | rfl | rfl <;> exact hs _ (by decide +kernel)
  · intro i hi j hj
    rcases am_lt4 hi with rfl | rfl | rfl | rfl
    · have hj : j < 4 := hj
      rcases am_lt4 hj with rfl | rfl | rfl | rfl <;> exact hs _ (by decide +kernel)
    · have hj : j < 3 := hj
      rcases (show j = 0 ∨ j = 1 ∨ j = 2 by omega) with rfl | rfl | rfl <;> exact hs _ (by decide +kernel)
    · have hj : j < 10 := hj
      rcases (show j = 0 ∨ j = 1 ∨ j = 2 ∨ j = 3 ∨ j = 4 ∨ j = 5 ∨ j = 6 ∨ j = 7 ∨ j = 8 ∨ j = 9 by omega) with rfl | rfl | rfl | rfl | rfl | rfl | rfl | rfl | rfl | rfl <;> exact hs _ (by decide +kernel)
    · have hj : j < 3 := hj
      rcases (show j = 0 ∨ j = 1 ∨ j = 2 by omega) with rfl | rfl | rfl <;> exact hs _ (by decide +kernel)
  · intro i j hi hj hij
    rcases am_lt4 hi with rfl | rfl | rfl | rfl <;> rcases am_lt4 hj with rfl | rfl | rfl | rfl <;> first | exact absurd rfl hij | exact Or.inl (hs _ (by decide +kernel)) | exact Or.inr (hs _ (by decide +kernel))
set_option maxRecDepth 100000 in
set_option maxHeartbeats 4000000 in
theorem am_tops {args : Array Value} {s : State} (h : (Jvm.Cond.and given_1 narrow_1).before args s = true) {A : Nat → Prop} (hA : ∀ a : Nat, a < s.heap.size → ¬ A a) : ∃ t : Nat, (Term.static "RumourDesk$Town" "TOPS" "[I").eval args s none [] s = some (.ref t) ∧ va_T .int t 5 (fun j => .int (([99, 4, 1, 9, 19] : List Int32).getD j 0)) A s s.heap := by
  have hs := flat_of_before _ h
  refine va_Tof (by decide) (hs _ (by decide +kernel)) (va_eqt (hs _ (by decide +kernel))) (fun j hj => ?_) hA
  rcases (show j = 0 ∨ j = 1 ∨ j = 2 ∨ j = 3 ∨ j = 4 by omega) with rfl | rfl | rfl | rfl | rfl <;> exact va_eqt (hs _ (by decide +kernel))
set_option maxRecDepth 100000 in
set_option maxHeartbeats 4000000 in
theorem am_units {args : Array Value} {s : State} (h : (Jvm.Cond.and given_1 narrow_1).before args s = true) {A : Nat → Prop} (hA : ∀ a : Nat, a < s.heap.size → ¬ A a) : ∃ t : Nat, (Term.static "RumourDesk$Parts" "UNITS" "[I").eval args s none [] s = some (.ref t) ∧ va_T .int t 4 (fun j => .int (([1000, 100, 10, 1] : List Int32).getD j 0)) A s s.heap := by
  have hs := flat_of_before _ h
  refine va_Tof (by decide) (hs _ (by decide +kernel)) (va_eqt (hs _ (by decide +kernel))) (fun j hj => ?_) hA
  rcases am_lt4 hj with rfl | rfl | rfl | rfl <;> exact va_eqt (hs _ (by decide +kernel))
set_option maxRecDepth 100000 in
set_option maxHeartbeats 4000000 in
theorem am_forces {args : Array Value} {s : State} (h : (Jvm.Cond.and given_1 narrow_1).before args s = true) {A : Nat → Prop} (hA : ∀ a : Nat, a < s.heap.size → ¬ A a) : ∃ t : Nat, (Term.static "RumourDesk$Town" "FORCES" "[I").eval args s none [] s = some (.ref t) ∧ va_T .int t 3 (fun j => .int (([3, 5, 1] : List Int32).getD j 0)) A s s.heap := by
  have hs := flat_of_before _ h
  refine va_Tof (by decide) (hs _ (by decide +kernel)) (va_eqt (hs _ (by decide +kernel))) (fun j hj => ?_) hA
  rcases (show j = 0 ∨ j = 1 ∨ j = 2 by omega) with rfl | rfl | rfl <;> exact va_eqt (hs _ (by decide +kernel))
theorem am_kn {s : State} {args : Array Value} (hts : ∀ w ∈ am_tb, w.before args s = true) : ∃ D : va_G, va_K D vwCl [] s := by
  have hKn : ∀ k : Nat, ∃ z : ClassId × (Nat → Nat), ∀ q : vw_C, vwCl[k]? = some q → u_Kn s q.1 q.2.1 q.2.2 z.1 z.2 := by
    intro k
    match k with
    | 0 =>
      obtain ⟨c, iS, h⟩ := u_known (C := RX0) (T := TX0) (N := 6) (n := 6) hts cl_0.2.2.1 (hts _ w1_167)
      exact ⟨(c, iS), fun q hq => by cases hq; exact h⟩
    | 1 =>
      obtain ⟨c, iS, h⟩ := u_known (C := RX1) (T := TX1) (N := 4) (n := 4) hts cl_1.2.2.1 (hts _ w1_110)
      exact ⟨(c, iS), fun q hq => by cases hq; exact h⟩
    | 2 =>
      obtain ⟨c, iS, h⟩ := u_known (C := RX3) (T := TX3) (N := 1) (n := 1) hts cl_2.2.2.1 (hts _ w1_154)
      exact ⟨(c, iS), fun q hq => by cases hq; exact h⟩
    | 3 =>
      obtain ⟨c, iS, h⟩ := u_known (C := RX4) (T := TX4) (N := 4) (n := 4) hts cl_3.2.2.1 (hts _ w1_133)
      exact ⟨(c, iS), fun q hq => by cases hq; exact h⟩
    | 4 =>
      obtain ⟨c, iS, h⟩ := u_known (C := RX5) (T := TX5) (N := 7) (n := 7) hts cl_4.2.2.1 (hts _ w1_194)
      exact ⟨(c, iS), fun q hq => by cases hq; exact h⟩
    | 5 =>
      obtain ⟨c, iS, h⟩ := u_known (C := RX6) (T := TX6) (N := 3) (n := 3) hts cl_5.2.2.1 (hts _ w1_226)
      exact ⟨(c, iS), fun q hq => by cases hq; exact h⟩
    | 6 =>
      obtain ⟨c, iS, h⟩ := u_known (C := RX7) (T := TX7) (N := 5) (n := 5) hts cl_6.2.2.1 (hts _ w1_60)
      exact ⟨(c, iS), fun q hq => by cases hq; exact h⟩
    | 7 =>
      obtain ⟨c, iS, h⟩ := u_known (C := RX8) (T := TX8) (N := 3) (n := 3) hts cl_7.2.2.1 (hts _ w1_92)
      exact ⟨(c, iS), fun q hq => by cases hq; exact h⟩
    | 8 =>
      obtain ⟨c, iS, h⟩ := u_known (C := RX9) (T := TX9) (N := 5) (n := 5) hts cl_8.2.2.1 (hts _ w1_30)
      exact ⟨(c, iS), fun q hq => by cases hq; exact h⟩
    | 9 =>
      obtain ⟨c, iS, h⟩ := u_known (C := RX10) (T := TX10) (N := 12) (n := 12) hts cl_9.2.2.1 (hts _ w1_22)
      exact ⟨(c, iS), fun q hq => by cases hq; exact h⟩
    | 10 =>
      obtain ⟨c, iS, h⟩ := u_known (C := RX11) (T := TX11) (N := 50) (n := 50) hts cl_10.2.2.1 (hts _ w4_108)
      exact ⟨(c, iS), fun q hq => by cases hq; exact h⟩
    | k + 11 => exact ⟨(0, fun _ => 0), fun q hq => by simp [vwCl] at hq⟩
  obtain ⟨z, hz⟩ := Classical.axiomOfChoice hKn
  exact ⟨(fun k => (z k).1, fun k => (z k).2), hz, fun k q h => by simp at h⟩
theorem am_stc {s : State} {args : Array Value} {C n d : String} {v : Value} {b0 : Nat} (hts : ∀ w ∈ lw_tbl, w.before args s = true) (h1 : Cond.laysStatic C n d ∈ lw_tbl) (h2 : Cond.initialized C ∈ lw_tbl) (hb : s.heap.size = b0) (hv : (Term.static C n d).eval args s none [] s = some v) : va_Z C n d v (fun q => b0 ≤ q) s s.heap := va_Zof (hts _ h1) (hts _ h2) hv (fun a ha => Nat.not_le.mpr (by omega))
set_option maxRecDepth 100000 in
set_option maxHeartbeats 4000000 in
theorem whole_of {p : Program} {e : Env} {s : State} {m : MethodId} {below : List Frame} {meth : Method} {c : Code} (l : Launch) {b L : Nat} {xs : Nat → Int32} (hrun : ∃ (f : Nat) (h' : am_H), arun PP f 60 0 0 [some (.ref 0), none, none, none] [] (hh0 L xs) = some (some (.int 1), h') ∧ h'.1.length ≤ 1000 ∧ am_ns h' ≤ am_ns (hh0 L xs) + 100000) (C0 : lw_At p s m meth c b L xs) : W p l e room_1 s m #[Value.ref b] below meth c s.heap [] 0 0 (lw_Z below #[Value.ref b] s) (entryFrame m ([Value.ref b] : List Value).toArray 4) := by
  obtain ⟨hx, hb, hr, hml, hown, hts, hX, hbl, hlocks, hgv⟩ := id C0
  have htb : ∀ w ∈ am_tb, w.before #[Value.ref b] s = true := fun w h => hts w (am_tbl_in h)
  have hA : ∀ a : Nat, a < s.heap.size → ¬ (fun q : Nat => s.heap.size ≤ q) a := fun a ha => Nat.not_le.mpr ha
  obtain ⟨D, hK⟩ := am_kn htb
  obtain ⟨t1, e1, T1⟩ := am_tops hgv hA
  obtain ⟨t2, e2, T2⟩ := am_units hgv hA
  obtain ⟨t3, e3, T3⟩ := am_forces hgv hA
  obtain ⟨adK, adV, hS, eS⟩ := am_strings hgv hA
  have hs := flat_of_before _ hgv
  have eC : (Term.static "java/lang/String" "COMPACT_STRINGS" "Z").eval #[Value.ref b] s none [] s = some (.int 1) := va_eqt (hs _ (by decide +kernel))
  obtain ⟨ad, had0, had⟩ : ∃ ad : Nat → Nat, (ad 0 = b ∧ ad 1 = t1 ∧ ad 2 = t2 ∧ ad 3 = t3 ∧ ad 4 = adK 0 ∧ ad 5 = adK 1 ∧ ad 6 = adK 2 ∧ ad 7 = adK 3 ∧ ad 8 = adV 0 ∧ ad 9 = adV 1 ∧ ad 10 = adV 2 ∧ ad 11 = adV 3) ∧ ∀ k, 12 ≤ k → ad k = s.heap.size + (k - 12) :=
    ⟨fun k => match k with
      | 0 => b
      | 1 => t1
      | 2 => t2
      | 3 => t3
      | 4 => adK 0
      | 5 => adK 1
      | 6 => adK 2
      | 7 => adK 3
      | 8 => adV 0
      | 9 => adV 1
      | 10 => adV 2
      | 11 => adV 3
      | k + 12 => s.heap.size + k, ⟨rfl, rfl, rfl, rfl, rfl, rfl, rfl, rfl, rfl, rfl, rfl, rfl⟩, fun k hk => by
        obtain ⟨j, rfl⟩ : ∃ j, k = j + 12 := ⟨k - 12, by omega⟩
        show s.heap.size + j = _
        omega⟩
  obtain ⟨a0, a1, a2, a3, a4, a5, a6, a7, a8, a9, a10, a11⟩ := had0
  have hU : am_U D ad s.heap.size s.heap s := by
    refine ⟨hK, ⟨?_, ?_, ?_, ?_⟩, ⟨?_, ?_, ?_, ?_⟩, fun w hw => ?_, fun t ht => ?_⟩
    · rw [a1]; exact am_stc hts (by decide +kernel) (by decide +kernel) rfl e1
    · rw [a2]; exact am_stc hts (by decide +kernel) (by decide +kernel) rfl e2
    · rw [a3]; exact am_stc hts (by decide +kernel) (by decide +kernel) rfl e3
    · exact am_stc hts (by decide +kernel) (by decide +kernel) rfl eC
    · rw [a4]; exact vk_R.of (A := #[Value.ref b]) (hts (Cond.stringRef "RumourDesk$Tape" 82 "wtnp") (by decide +kernel)) (eS 0 (by decide))
    · rw [a5]; exact vk_R.of (A := #[Value.ref b]) (hts (Cond.stringRef "RumourDesk$Tape" 84 "=<>") (by decide +kernel)) (eS 1 (by decide))
    · rw [a6]; exact vk_R.of (A := #[Value.ref b]) (hts (Cond.stringRef "RumourDesk$Tape" 86 "0123456789") (by decide +kernel)) (eS 2 (by decide))
    · rw [a7]; exact vk_R.of (A := #[Value.ref b]) (hts (Cond.stringRef "RumourDesk$Tape" 49 "dhs") (by decide +kernel)) (eS 3 (by decide))
    · obtain ⟨x1, x2, x3, x4, rfl⟩ := am_isN_ex hw
      exact va_Nw.of rfl (hts _ (List.mem_filter.mp hw).1)
    · rcases ht with rfl | rfl | rfl
      · exact hts (Cond.arrayOver (.array .int)) (by decide +kernel)
      · exact hts (Cond.arrayOver (.object "RumourDesk$Saying")) (by decide +kernel)
      · exact hts (Cond.arrayOver (.object "RumourDesk$Sheet")) (by decide +kernel)
  have hrel : am_rel D ad s.heap.size s.heap s (hh0 L xs) s.heap := by
    refine ⟨rfl, fun q _ => rfl, Nat.le_refl 12, by simp [hh0], fun k t hk ht => ?_, fun k t hk ht => ?_⟩
    · have hk2 : k = 0 ∨ k = 1 ∨ k = 2 ∨ k = 3 ∨ k = 4 ∨ k = 5 ∨ k = 6 ∨ k = 7 ∨ k = 8 ∨ k = 9 ∨ k = 10 ∨ k = 11 := by omega
      rcases hk2 with rfl | rfl | rfl | rfl | rfl | rfl | rfl | rfl | rfl | rfl | rfl | rfl <;> cases ht
      · refine Or.inr ⟨Nat.le_of_ble_eq_true rfl, Nat.le_of_ble_eq_true rfl, ?_⟩
        obtain ⟨scr, q1, q2, q3, q4, q5⟩ := hX
        rw [a0]
        exact ⟨scr, q1, q2, q3, Nat.le_of_eq q4.symm, by rw [q4], q5, Nat.not_le.mpr hbl⟩
      · refine Or.inr ⟨Nat.le_of_ble_eq_true rfl, Nat.le_of_ble_eq_true rfl, ?_⟩
        rw [a1]; exact T1
      · refine Or.inr ⟨Nat.le_of_ble_eq_true rfl, Nat.le_of_ble_eq_true rfl, ?_⟩
        rw [a2]; exact T2
      · refine Or.inr ⟨Nat.le_of_ble_eq_true rfl, Nat.le_of_ble_eq_true rfl, ?_⟩
        rw [a3]; exact T3
      · refine Or.inl ⟨rfl, ?_, ?_, ?_⟩
        · rw [a4]; exact (hS.1 0 (by decide)).1
        · rw [a4]; show va_OF _ _ _ (.ref (ad 8)) _ _ _ _; rw [a8]; exact (hS.1 0 (by decide)).2.2.1
        · rw [a4]; exact (hS.1 0 (by decide)).2.1
      · refine Or.inl ⟨rfl, ?_, ?_, ?_⟩
        · rw [a5]; exact (hS.1 1 (by decide)).1
        · rw [a5]; show va_OF _ _ _ (.ref (ad 9)) _ _ _ _; rw [a9]; exact (hS.1 1 (by decide)).2.2.1
        · rw [a5]; exact (hS.1 1 (by decide)).2.1
      · refine Or.inl ⟨rfl, ?_, ?_, ?_⟩
        · rw [a6]; exact (hS.1 2 (by decide)).1
        · rw [a6]; show va_OF _ _ _ (.ref (ad 10)) _ _ _ _; rw [a10]; exact (hS.1 2 (by decide)).2.2.1
        · rw [a6]; exact (hS.1 2 (by decide)).2.1
      · refine Or.inl ⟨rfl, ?_, ?_, ?_⟩
        · rw [a7]; exact (hS.1 3 (by decide)).1
        · rw [a7]; show va_OF _ _ _ (.ref (ad 11)) _ _ _ _; rw [a11]; exact (hS.1 3 (by decide)).2.2.1
        · rw [a7]; exact (hS.1 3 (by decide)).2.1
      · refine Or.inr ⟨Nat.le_of_ble_eq_true rfl, Nat.le_of_ble_eq_true rfl, ?_⟩
        rw [a8]; exact (hS.1 0 (by decide)).2.2.2
      · refine Or.inr ⟨Nat.le_of_ble_eq_true rfl, Nat.le_of_ble_eq_true rfl, ?_⟩
        rw [a9]; exact (hS.1 1 (by decide)).2.2.2
      · refine Or.inr ⟨Nat.le_of_ble_eq_true rfl, Nat.le_of_ble_eq_true rfl, ?_⟩
        rw [a10]; exact (hS.1 2 (by decide)).2.2.2
      · refine Or.inr ⟨Nat.le_of_ble_eq_true rfl, Nat.le_of_ble_eq_true rfl, ?_⟩
        rw [a11]; exact (hS.1 3 (by decide)).2.2.2
    · have : k < 12 := (List.getElem?_eq_some_iff.mp ht).1
      omega
  obtain ⟨f, h', hrun, hc1, hc2⟩ := hrun
  have hlen : (hh0 L xs).1.length = 12 := rfl
  have cx : am_cx D ad s.heap.size s.heap p s m #[Value.ref b] meth c room_1 (am_If 0).1 (am_If 0).2.1 (am_If 0).2.2.1 (am_If 0).2.2.2 := ⟨hx, hb, hml, hown, htb, hU, hr, hlocks, fun h9 => absurd h9 (by decide), by decide, by decide, had⟩
  have hW := am_sound (l := l) had PP_plain (fun y => rfl) (PP_ok l D ad s.heap.size s.heap) f
  rw [lg_entry_eq]
  have hlc : am_lc ad ((lg_sl ([Value.ref b] : List Value) ++ List.replicate (4 - (lg_sl ([Value.ref b] : List Value)).length) Slot.unset).toArray) 4 [some (.ref 0), none, none, none] := by
    have := am_lc_init ad (n := 4) (as := [.ref 0]) (L := [some (.ref 0), none, none, none]) rfl
    have e9 : ([Value.ref 0] : List Value).map (am_cv ad) = [.ref b] := by
      show [Value.ref (ad 0)] = _
      rw [a0]
    rw [e9] at this
    exact this
  refine hW 60 0 0 _ [] (hh0 L xs) (some (.int 1)) h' hrun p e s m _ below meth c room_1 cx (by decide) (by decide) s.heap [] 0 0 _ _ hlc hrel (fun q hq => by cases hq) (by show 0 + _ ≤ 600000; omega) (by show 0 + _ ≤ 7302249; omega) ?_
  intro pc' ls' H' locs' hr' hlo' hend
  refine va_forget hlo' ?_
  refine W.widen (k := 600000) (n := 7302249) (by omega) (by omega) ?_
  rcases hend with ⟨q, -⟩ | ⟨x, ty, q1, q2, q3, q4⟩ | ⟨k, rt, q, -⟩
  · cases q
  · exact lw_ret hx hb hr hlocks q4
  · cases q
