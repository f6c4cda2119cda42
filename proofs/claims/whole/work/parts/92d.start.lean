/-! the heap behind the constructors, and J of it -/
set_option maxRecDepth 100000 in
theorem RL_rr : RRl = RL136 ++ List.replicate 35 [] := by decide +kernel
theorem getD_rpl {R : List (List (Option Nat))} {m k : Nat} : (R ++ List.replicate m []).getD k [] = R.getD k [] := by
  rw [List.getD_eq_getElem?_getD, List.getD_eq_getElem?_getD]
  by_cases c : k < R.length
  · rw [List.getElem?_append_left c]
  · rw [List.getElem?_append_right (by omega), List.getElem?_eq_none (l := R) (by omega), List.getElem?_replicate]
    split <;> rfl
theorem RL_end : qdR RL136 = RR false := by
  funext k j
  unfold RR
  rw [RL_rr, getD_rpl]
  by_cases c : k = 12 ∧ j = 8
  · obtain ⟨rfl, rfl⟩ := c
    rw [if_pos ⟨rfl, rfl⟩]
    decide +kernel
  · rw [if_neg c]
    by_cases c2 : k = 12 ∧ j = 9
    · obtain ⟨rfl, rfl⟩ := c2
      rw [if_pos ⟨rfl, rfl⟩]
      decide +kernel
    · rw [if_neg c2]
      rfl
theorem am_up_nq {a : Nat → Nat → Int32} {k j q : Nat} {x : Int32} (h : q ≠ k) : am_up a k j x q = a q := if_neg h
section LST
variable {xs : Nat → Int32} {L : Nat}
theorem AS_d {q : Nat} (h20 : q ≠ 20) (h39 : q ≠ 39) (h119 : q ≠ 119) (h121 : q ≠ 121) (h123 : q ≠ 123) (h125 : q ≠ 125) (h136 : q ≠ 136) (h159 : q ≠ 159) : AS29 xs q = hi0 xs q :=
  (am_up_nq (a := AS28 xs) h136).trans <| (am_up_nq (a := AS27 xs) h136).trans <| (am_up_nq (a := AS26 xs) h136).trans <| (am_up_nq (a := AS25 xs) h136).trans <| (am_up_nq (a := AS24 xs) h136).trans <| (am_up_nq (a := AS23 xs) h136).trans <| (am_up_nq (a := AS22 xs) h136).trans <| (am_up_nq (a := AS21 xs) h136).trans <| (am_up_nq (a := AS20 xs) h136).trans <| (am_up_nq (a := AS19 xs) h136).trans <| (am_up_nq (a := AS18 xs) h159).trans <| (am_up_nq (a := AS17 xs) h159).trans <| (am_up_nq (a := AS16 xs) h159).trans <| (am_up_nq (a := AS15 xs) h159).trans <| (am_up_nq (a := AS14 xs) h125).trans <| (am_up_nq (a := AS13 xs) h123).trans <| (am_up_nq (a := AS12 xs) h121).trans <| (am_up_nq (a := AS11 xs) h119).trans <| (am_up_nq (a := AS10 xs) h39).trans <| (am_up_nq (a := AS9 xs) h20).trans <| (am_up_nq (a := AS8 xs) h20).trans <| (am_up_nq (a := AS7 xs) h20).trans <| (am_up_nq (a := AS6 xs) h20).trans <| (am_up_nq (a := AS5 xs) h20).trans <| (am_up_nq (a := AS4 xs) h20).trans <| (am_up_nq (a := AS3 xs) h20).trans <| (am_up_nq (a := AS2 xs) h20).trans <| (am_up_nq (a := AS1 xs) h20).trans <| (am_up_nq (a := AS0 xs) h20).trans <| rfl
set_option maxRecDepth 100000 in
theorem AS_20 : ∀ w, w < 10 → AS29 xs 20 w = 5
  | 0, _ => rfl
  | 1, _ => rfl
  | 2, _ => rfl
  | 3, _ => rfl
  | 4, _ => rfl
  | 5, _ => rfl
  | 6, _ => rfl
  | 7, _ => rfl
  | 8, _ => rfl
  | 9, _ => rfl
  | n + 10, h => absurd h (by omega)
set_option maxRecDepth 100000 in
theorem AS_136 : ∀ w, w < 10 → AS29 xs 136 w = 5
  | 0, _ => rfl
  | 1, _ => rfl
  | 2, _ => rfl
  | 3, _ => rfl
  | 4, _ => rfl
  | 5, _ => rfl
  | 6, _ => rfl
  | 7, _ => rfl
  | 8, _ => rfl
  | 9, _ => rfl
  | n + 10, h => absurd h (by omega)
set_option maxRecDepth 100000 in
theorem AS_159 : ∀ w, w < 4 → AS29 xs 159 w = -1
  | 0, _ => rfl
  | 1, _ => rfl
  | 2, _ => rfl
  | 3, _ => rfl
  | n + 4, h => absurd h (by omega)
set_option maxRecDepth 100000 in
theorem AS_119 : ∀ w, w < 4 → AS29 xs (119 + 2 * w) 1 = -1 ∧ AS29 xs (119 + 2 * w) 2 = 0
  | 0, _ => ⟨rfl, rfl⟩
  | 1, _ => ⟨rfl, rfl⟩
  | 2, _ => ⟨rfl, rfl⟩
  | 3, _ => ⟨rfl, rfl⟩
  | n + 4, h => absurd h (by omega)
theorem AS_z {q : Nat} (h : 12 ≤ q) (h20 : q ≠ 20) (h39 : q ≠ 39) (h119 : q ≠ 119) (h121 : q ≠ 121) (h123 : q ≠ 123) (h125 : q ≠ 125) (h136 : q ≠ 136) (h159 : q ≠ 159) : AS29 xs q = fun _ => 0 := by
  rw [AS_d h20 h39 h119 h121 h123 h125 h136 h159, hi0_z h]
theorem AS_z0 {q j : Nat} (h : 12 ≤ q ∧ q ≠ 20 ∧ q ≠ 39 ∧ q ≠ 119 ∧ q ≠ 121 ∧ q ≠ 123 ∧ q ≠ 125 ∧ q ≠ 136 ∧ q ≠ 159) : AS29 xs q j = 0 := by
  rw [AS_z h.1 h.2.1 h.2.2.1 h.2.2.2.1 h.2.2.2.2.1 h.2.2.2.2.2.1 h.2.2.2.2.2.2.1 h.2.2.2.2.2.2.2.1 h.2.2.2.2.2.2.2.2]
theorem AS_old : OLD (AS29 xs) := by
  have d : ∀ q, q < 12 → AS29 xs q = hi0 xs q := fun q h => AS_d (by omega) (by omega) (by omega) (by omega) (by omega) (by omega) (by omega) (by omega)
  refine ⟨fun j hj => by rw [d 1 (by decide)]; rfl, fun j hj => ?_, fun j hj => by rw [d 3 (by decide)]; rfl, by rw [d 8 (by decide)]; rfl, by rw [d 9 (by decide)]; rfl, by rw [d 10 (by decide)]; rfl, by rw [d 11 (by decide)]; rfl, fun k h1 h2 => ?_⟩
  · rw [d 2 (by decide)]
    rcases (show j = 0 ∨ j = 1 ∨ j = 2 ∨ j = 3 by omega) with rfl | rfl | rfl | rfl <;> rfl
  · rw [d k (by omega)]
    rcases (show k = 4 ∨ k = 5 ∨ k = 6 ∨ k = 7 by omega) with rfl | rfl | rfl | rfl <;> rfl
theorem AS_J : J (AS29 xs) false := by
  refine ⟨⟨((0, (fun _ => 0), (fun _ => 0), (fun _ => 0), (fun _ => 0), (fun _ => 0), (fun _ => 5), (fun _ _ => 0)) : Nat × (Nat → Int32) × (Nat → Nat) × (Nat → Int32) × (Nat → Int32) × (Nat → Int32) × (Nat → Int32) × (Nat → Nat → Nat)), ⟨by decide, fun p h => absurd h (Nat.not_lt_zero p), fun i _ p h => absurd h (Nat.not_lt_zero p)⟩, ⟨AS_old, AS_z0 (by omega), fun p h => absurd h (Nat.not_lt_zero p), fun p h => absurd h (Nat.not_lt_zero p), fun p h => absurd h (Nat.not_lt_zero p), fun p h => absurd h (Nat.not_lt_zero p), fun p h => absurd h (Nat.not_lt_zero p), fun w h => AS_20 w h, fun i _ p h => absurd h (Nat.not_lt_zero p)⟩, ⟨AS_z0 (by omega), fun p h => absurd h (Nat.not_lt_zero p), fun p h => absurd h (Nat.not_lt_zero p), fun p h => absurd h (Nat.not_lt_zero p), fun p h => absurd h (Nat.not_lt_zero p), fun p h => absurd h (Nat.not_lt_zero p), fun w h => AS_136 w h, fun i _ p h => absurd h (Nat.not_lt_zero p)⟩, fun w _ => ⟨5, by decide, rfl⟩, fun p _ _ => ⟨AS_z0 (by omega), AS_z0 (by omega)⟩⟩, ⟨0, AS_z0 (by omega), AS_z0 (by omega), by decide, fun s h => absurd h (Nat.not_lt_zero s), fun s h => ?_, fun s h => ⟨0, by decide, AS_z0 (by omega)⟩⟩, ⟨0, AS_z0 (by omega), AS_z0 (by omega), by decide⟩, fun s hs p hp => ?_, ?_, ?_, ?_, fun c hc => ?_⟩
  · rw [if_neg (Nat.not_lt_zero s)]
    exact AS_z0 (by omega)
  · have e1 : got (AS29 xs) (64 + 7 * s) p = mkP 0 0 0 0 0 := by
      unfold got
      rw [AS_z0 (by omega), AS_z0 (by omega), AS_z0 (by omega), AS_z0 (by omega), AS_z0 (by omega)]
    have e2 : gm (AS29 xs) s p = mkP 0 0 0 0 0 := by
      unfold gm
      rw [AS_z0 (by omega), AS_z0 (by omega), AS_z0 (by omega), AS_z0 (by omega), AS_z0 (by omega)]
    rw [e1, e2]
    exact ⟨rfl, Or.inl rfl, fun h => absurd rfl h⟩
  · refine ⟨fun _ => 0, fun _ => 0, fun _ => false, 0, 0, fun h hh => ?_, ⟨AS_z0 (by omega), fun r h => absurd h (Nat.not_lt_zero r)⟩, by decide, ?_, fun r h => absurd h (Nat.not_lt_zero r), by decide, fun t ht => ?_⟩
    · rw [AS_z0 (by omega), AS_z0 (by omega)]
      exact ⟨rfl, rfl⟩
    · rfl
    · rw [show AS29 xs 39 1 = -4 from rfl]
      exact propext ⟨fun _ => by omega, fun _ => neg4_lt t ht⟩
  · exact ⟨fun _ => 0, 0, ⟨AS_z0 (by omega), by decide, fun j h => absurd h (Nat.not_lt_zero j)⟩, ⟨AS_z0 (by omega), by decide, fun j h => absurd h (Nat.not_lt_zero j)⟩⟩
  · have e : pG (fun _ => 0) 0 = (true, skp (fun _ => 0) 0 0, []) := by
      unfold pG
      rw [if_neg (by omega)]
    refine ⟨fun _ => 0, 0, by rw [e], by decide, ?_, fun j h => absurd h (Nat.not_lt_zero j), AS_z0 (by omega), by rw [e]; exact AS_z0 (by omega)⟩
    rw [e]
    exact ⟨AS_z0 (by decide), AS_z0 (by decide), fun c x h => by simp at h, fun j h => absurd h (Nat.not_lt_zero j)⟩
  · obtain ⟨s1, s2⟩ := AS_119 (xs := xs) c hc
    unfold JH1
    rw [s1, s2, AS_159 c hc, AS_z0 (q := 160) (by omega)]
    exact ⟨rfl, rfl, ⟨0, by decide, rfl⟩, Or.inl rfl, fun j hj => by rw [AS_z0 (by omega), AS_z0 (by omega)]⟩
set_option maxRecDepth 100000 in
set_option maxHeartbeats 4000000 in
theorem law_start {Q : Option Value → am_H → Prop} : AW 60 0 0 [some (.ref (0 : Nat)), none, none, none] [] (hh0 L xs) Q = AW (59 + 1) 0 18 [some (.ref (0 : Nat)), some (.ref (12 : Nat)), some (.ref (127 : Nat)), some (.int 0)] [] (CT L, AS29 xs, RR false) Q := by
  show AW (59 + 1) 0 0 _ _ (hh0 L xs) Q = _
  rw [show hh0 L xs = (List.take 12 (CT L), AS0 xs, qdR RL0) from by rw [← RL0_e]; rfl]
  have e163 : List.take 163 (CT L) = CT L := List.take_of_length_le (Nat.le_of_eq rfl)
  simp (disch := (first | exact (show _ from rfl) | exact Nat.le_of_ble_eq_true rfl | exact nwl rfl)) only [st_L_law_0, st_L_law_3, st_L_law_4, st_L_law_7, st_L_law_8, st_L_law_11, st_L_law_12, st_L_law_15, st_L_law_16, st_L_law_17, Option.toList_some, Option.toList_none, List.cons_append, List.nil_append, Option.getD_some, am_nlI, am_nlR, am_nlN, bi_eq0, if_true, if_false, bf_tf, bf_ft, tkl, tka, Nat.reduceAdd, rz_0_12, ra_0_12, ci_28 (d := 57), rz_101_127, ra_15_127, ci_29, e163, RL_end]
end LST
