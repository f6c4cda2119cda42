/-! the town by its rows -/
def TN (a : Nat → Nat → Int32) (n : Nat) : Prop := n ≤ 16 ∧ OLD a ∧ a 13 2 = nI n ∧ a 127 0 = nI n ∧ (∀ p, p < n → ∀ i, i < 5 → a 129 (5 * p + i) = a (15 + i) p) ∧ (∀ p, p < n → ∃ h : Nat, h < 5 ∧ a 16 p = nI h) ∧ (∀ w, w < 10 → a 136 w = a 20 w ∧ ∃ k : Nat, k ≤ 9 ∧ a 20 w = nI k) ∧ (∀ i, i < 3 → ∀ p, p < n → a 128 (3 * p + i) = a (22 + i) p ∧ ∃ l : Nat, l < 6 ∧ a (22 + i) p = nI l) ∧ ∀ p, n ≤ p → p < 16 → a 16 p = 0 ∧ a 17 p = 0
section TNS
variable {L : Nat} {b : Bool} {a a' : Nat → Nat → Int32} {x y z u v w : Int32} {n : Nat}
theorem TN.jt (h : TN a n) : ∃ E, JT a E := by
  obtain ⟨h1, h2, h3, h4, h5, h6, h7, h8, h9⟩ := h
  have cl : ∀ (x : Int32) (k c : Nat), k < c → c < 100 → x = nI k → nI x.toNatClampNeg = x ∧ x.toNatClampNeg < c := fun x k c hk hc e => by
    rw [e, nI_clamp (by omega)]
    exact ⟨rfl, hk⟩
  refine ⟨(n, a 15, fun p => (a 16 p).toNatClampNeg, a 17, a 18, a 19, a 20, fun i p => (a (22 + i) p).toNatClampNeg), ⟨h1, fun p hp => ?_, fun i hi p hp => ?_⟩, ⟨h2, h3, fun _ _ => rfl, fun p hp => ?_, fun _ _ => rfl, fun _ _ => rfl, fun _ _ => rfl, fun _ _ => rfl, fun i hi p hp => ?_⟩, ⟨h4, fun p hp => h5 p hp 0 (by omega), fun p hp => ?_, fun p hp => h5 p hp 2 (by omega), fun p hp => h5 p hp 3 (by omega), fun p hp => h5 p hp 4 (by omega), fun w hw => (h7 w hw).1, fun i hi p hp => ?_⟩, fun w hw => (h7 w hw).2, h9⟩
  · obtain ⟨k, hk, e⟩ := h6 p hp; exact (cl _ k 5 hk (by decide) e).2
  · obtain ⟨k, hk, e⟩ := (h8 i hi p hp).2; exact (cl _ k 6 hk (by decide) e).2
  · obtain ⟨k, hk, e⟩ := h6 p hp; exact (cl _ k 5 hk (by decide) e).1.symm
  · obtain ⟨k, hk, e⟩ := (h8 i hi p hp).2; exact (cl _ k 6 hk (by decide) e).1.symm
  · obtain ⟨k, hk, e⟩ := h6 p hp
    show a 129 (5 * p + 1) = nI (a 16 p).toNatClampNeg
    rw [(cl _ k 5 hk (by decide) e).1]
    exact h5 p hp 1 (by omega)
  · obtain ⟨k, hk, e⟩ := (h8 i hi p hp).2
    show a 128 (3 * p + i) = nI (a (22 + i) p).toNatClampNeg
    rw [(cl _ k 6 hk (by decide) e).1]
    exact (h8 i hi p hp).1
theorem J.tn (h : J a b) : ∃ n, TN a n := by
  obtain ⟨⟨E, t1, t2, t3, t4, t5⟩, _⟩ := h
  refine ⟨E.n, t1.n, t2.o, t2.n, t3.n, fun p hp i hi => ?_, fun p hp => ⟨E.hb p, t1.hb p hp, t2.hb p hp⟩, fun w hw => ⟨by rw [t3.wt w hw, t2.wt w hw], by rw [t2.wt w hw]; exact t4 w hw⟩, fun i hi p hp => ⟨by rw [t3.pl i hi p hp, t2.pl i hi p hp], E.pl i p, t1.pl i hi p hp, t2.pl i hi p hp⟩, t5⟩
  rcases (show i = 0 ∨ i = 1 ∨ i = 2 ∨ i = 3 ∨ i = 4 by omega) with rfl | rfl | rfl | rfl | rfl
  · exact (t3.tr p hp).trans (t2.tr p hp).symm
  · exact (t3.hb p hp).trans (t2.hb p hp).symm
  · exact (t3.rd p hp).trans (t2.rd p hp).symm
  · exact (t3.fe p hp).trans (t2.fe p hp).symm
  · exact (t3.dt p hp).trans (t2.dt p hp).symm
theorem topT_le {i k : Nat} (hi : i < 5) (h : win (nI k) (topT i) = true) (hk : k < 2 ^ 31) : i = 1 → k < 5 := fun e => by
  subst e
  have h2 : ¬ nI k < 0 ∧ ¬ (4 : Int32) < nI k := of_decide_eq_true h
  exact Classical.byContradiction (fun g => h2.2 (nI_lt (a := 4) (by omega) hk))
theorem keep_set : KEEP L 73 126 [.int x, .int y, .int z] := by
  intro a b hJ
  obtain ⟨n, hTN⟩ := hJ.tn
  obtain ⟨h1, h2, h3, h4, h5, h6, h7, h8, h9⟩ := id hTN
  cases hc : (win x (nI n - 1) && (win y 4 && win z (topT y.toNatClampNeg))) with
  | false =>
    rw [sp_set_bad (d := 57) h2 (by rw [h3]; exact hc), sm_set_bad (d := 57) (by rw [h4]; exact hc)]
    exact po hJ
  | true =>
    rw [Bool.and_eq_true, Bool.and_eq_true] at hc
    obtain ⟨c1, c2, c3⟩ := hc
    obtain ⟨p, hp, rfl⟩ := win_ix h1 c1
    obtain ⟨i, hi, rfl⟩ := win_of (n := 4) c2 (by decide)
    rw [nI_clamp (by omega)] at c3
    have hz0 : ¬ z < 0 := (of_decide_eq_true c3 : ¬ z < 0 ∧ _).1
    obtain ⟨k, hk, rfl⟩ := nI_of hz0
    rw [sp_set (d := 57) h2 (by omega) (by rw [h3]; exact c1) (by omega) c3, sm_set (d := 57) (by omega) (by rw [au_d (by omega), h4]; exact c1) (by omega) c3, au_d (show (129 : Nat) ≠ 15 + i by omega)]
    have hT : TN (am_up (am_up a (15 + i) p (nI k)) 129 (5 * p + i) (nI k)) n := by
      have e : ∀ c, c ≠ 15 + i → c ≠ 129 → am_up (am_up a (15 + i) p (nI k)) 129 (5 * p + i) (nI k) c = a c := fun c g1 g2 => by rw [au_d g2, au_d g1]
      refine ⟨h1, OLD_low h2 (fun c hc => e c (by omega) (by omega)), by rw [e 13 (by omega) (by omega)]; exact h3, by rw [e 127 (by omega) (by omega)]; exact h4, fun p' hp' i' hi' => ?_, fun p' hp' => ?_, fun w hw => by rw [e 136 (by omega) (by omega), e 20 (by omega) (by omega)]; exact h7 w hw, fun i' hi' p' hp' => by rw [e 128 (by omega) (by omega), e (22 + i') (by omega) (by omega)]; exact h8 i' hi' p' hp', fun p' g1 g2 => ?_⟩
      · by_cases ci : i' = i
        · subst ci
          by_cases cp : p' = p
          · subst cp; rw [au_ss, au_d (by omega), au_ss]
          · rw [au_sd (by omega), au_d (by omega), au_d (by omega), au_sd cp]; exact h5 p' hp' i' hi'
        · rw [au_sd (by omega), au_d (by omega), au_d (by omega), au_d (by omega)]; exact h5 p' hp' i' hi'
      · rw [au_d (show (16 : Nat) ≠ 129 by decide)]
        by_cases ci : i = 1
        · subst ci
          by_cases cp : p' = p
          · subst cp
            rw [au_ss]
            exact ⟨k, topT_le (by omega) c3 hk rfl, rfl⟩
          · rw [au_sd cp]; exact h6 p' hp'
        · rw [au_d (by omega)]; exact h6 p' hp'
      · have q := h9 p' g1 g2
        refine ⟨?_, ?_⟩
        · rw [au_d (show (16 : Nat) ≠ 129 by decide)]
          by_cases ci : 16 = 15 + i
          · rw [← ci, au_sd (by omega)]; exact q.1
          · rw [au_d ci]; exact q.1
        · rw [au_d (show (17 : Nat) ≠ 129 by decide)]
          by_cases ci : 17 = 15 + i
          · rw [← ci, au_sd (by omega)]; exact q.2
          · rw [au_d ci]; exact q.2
    refine po' (hJ.town hT.jt (fun c g1 g2 g3 g4 g5 => by rw [au_d g4, au_d (by omega)]) (by rw [au_d (by decide), au_d (by omega)]) (fun j hj => by rw [au_d (by decide), au_d (by omega)])) ?_
    exact h5 p hp i (by omega)
theorem au_k {k j i : Nat} {x : Int32} : am_up a k j x k i = if i = j then x else a k i := by
  by_cases h : i = j
  · subst h; rw [au_ss, if_pos rfl]
  · rw [au_sd h, if_neg h]
theorem keep_person : KEEP L 72 125 [.int x, .int y, .int z, .int u, .int v] := by
  intro a b hJ
  obtain ⟨n, hTN⟩ := hJ.tn
  obtain ⟨h1, h2, h3, h4, h5, h6, h7, h8, h9⟩ := id hTN
  cases hc : (win x 5 && (win y 5 && (win z 5 && (win u 9 && win v 19)))) with
  | false =>
    rw [sp_person_bad (d := 57) h2 hc, sm_person_bad (d := 57) hc]
    exact po hJ
  | true =>
    rw [Bool.and_eq_true, Bool.and_eq_true, Bool.and_eq_true, Bool.and_eq_true] at hc
    obtain ⟨c1, c2, c3, c4, c5⟩ := hc
    by_cases hn : n < 16
    · rw [sp_person (d := 57) h2 h3 hn c1 c2 c3 c4 c5]
      generalize hA : am_up (am_up (am_up (am_up (am_up (am_up (am_up a 22 n x) 23 n y) 24 n z) 18 n u) 19 n v) 15 n 50) 13 2 (nI (n + 1)) = A
      have eA : ∀ c, c ≠ 13 → c ≠ 15 → c ≠ 18 → c ≠ 19 → c ≠ 22 → c ≠ 23 → c ≠ 24 → A c = a c := fun c g1 g2 g3 g4 g5 g6 g7 => by rw [← hA, au_d g1, au_d g2, au_d g4, au_d g3, au_d g7, au_d g6, au_d g5]
      rw [sm_person (d := 57) (by rw [eA 127 (by decide) (by decide) (by decide) (by decide) (by decide) (by decide) (by decide)]; exact h4) hn c1 c2 c3 c4 c5]
      generalize hB : am_up (am_up (am_up (am_up (am_up (am_up (am_up (am_up (am_up A 128 (3 * n) x) 128 (3 * n + 1) y) 128 (3 * n + 2) z) 129 (5 * n) 50) 129 (5 * n + 1) 0) 129 (5 * n + 2) 0) 129 (5 * n + 3) u) 129 (5 * n + 4) v) 127 0 (nI (n + 1)) = B
      have eB : ∀ c, c ≠ 127 → c ≠ 128 → c ≠ 129 → B c = A c := fun c g1 g2 g3 => by rw [← hB, au_d g1, au_d g3, au_d g3, au_d g3, au_d g3, au_d g3, au_d g2, au_d g2, au_d g2]
      have o129 : ∀ j, B 129 j = if j = 5 * n + 4 then v else if j = 5 * n + 3 then u else if j = 5 * n + 2 then 0 else if j = 5 * n + 1 then 0 else if j = 5 * n then 50 else a 129 j := fun j => by
        rw [← hB, au_d (show (129 : Nat) ≠ 127 by decide), au_k, au_k, au_k, au_k, au_k, au_d (show (129 : Nat) ≠ 128 by decide), au_d (show (129 : Nat) ≠ 128 by decide), au_d (show (129 : Nat) ≠ 128 by decide), eA 129 (by decide) (by decide) (by decide) (by decide) (by decide) (by decide) (by decide)]
      have o128 : ∀ j, B 128 j = if j = 3 * n + 2 then z else if j = 3 * n + 1 then y else if j = 3 * n then x else a 128 j := fun j => by
        rw [← hB, au_d (show (128 : Nat) ≠ 127 by decide), au_d (show (128 : Nat) ≠ 129 by decide), au_d (show (128 : Nat) ≠ 129 by decide), au_d (show (128 : Nat) ≠ 129 by decide), au_d (show (128 : Nat) ≠ 129 by decide), au_d (show (128 : Nat) ≠ 129 by decide), au_k, au_k, au_k, eA 128 (by decide) (by decide) (by decide) (by decide) (by decide) (by decide) (by decide)]
      have o15 : ∀ p, B 15 p = if p = n then 50 else a 15 p := fun p => by
        rw [eB 15 (by decide) (by decide) (by decide), ← hA, au_d (show (15 : Nat) ≠ 13 by decide), au_k, au_d (show (15 : Nat) ≠ 19 by decide), au_d (show (15 : Nat) ≠ 18 by decide), au_d (show (15 : Nat) ≠ 24 by decide), au_d (show (15 : Nat) ≠ 23 by decide), au_d (show (15 : Nat) ≠ 22 by decide)]
      have o18 : ∀ p, B 18 p = if p = n then u else a 18 p := fun p => by
        rw [eB 18 (by decide) (by decide) (by decide), ← hA, au_d (show (18 : Nat) ≠ 13 by decide), au_d (show (18 : Nat) ≠ 15 by decide), au_d (show (18 : Nat) ≠ 19 by decide), au_k, au_d (show (18 : Nat) ≠ 24 by decide), au_d (show (18 : Nat) ≠ 23 by decide), au_d (show (18 : Nat) ≠ 22 by decide)]
      have o19 : ∀ p, B 19 p = if p = n then v else a 19 p := fun p => by
        rw [eB 19 (by decide) (by decide) (by decide), ← hA, au_d (show (19 : Nat) ≠ 13 by decide), au_d (show (19 : Nat) ≠ 15 by decide), au_k, au_d (show (19 : Nat) ≠ 18 by decide), au_d (show (19 : Nat) ≠ 24 by decide), au_d (show (19 : Nat) ≠ 23 by decide), au_d (show (19 : Nat) ≠ 22 by decide)]
      have o22 : ∀ p, B 22 p = if p = n then x else a 22 p := fun p => by
        rw [eB 22 (by decide) (by decide) (by decide), ← hA, au_d (show (22 : Nat) ≠ 13 by decide), au_d (show (22 : Nat) ≠ 15 by decide), au_d (show (22 : Nat) ≠ 19 by decide), au_d (show (22 : Nat) ≠ 18 by decide), au_d (show (22 : Nat) ≠ 24 by decide), au_d (show (22 : Nat) ≠ 23 by decide), au_k]
      have o23 : ∀ p, B 23 p = if p = n then y else a 23 p := fun p => by
        rw [eB 23 (by decide) (by decide) (by decide), ← hA, au_d (show (23 : Nat) ≠ 13 by decide), au_d (show (23 : Nat) ≠ 15 by decide), au_d (show (23 : Nat) ≠ 19 by decide), au_d (show (23 : Nat) ≠ 18 by decide), au_d (show (23 : Nat) ≠ 24 by decide), au_k, au_d (show (23 : Nat) ≠ 22 by decide)]
      have o24 : ∀ p, B 24 p = if p = n then z else a 24 p := fun p => by
        rw [eB 24 (by decide) (by decide) (by decide), ← hA, au_d (show (24 : Nat) ≠ 13 by decide), au_d (show (24 : Nat) ≠ 15 by decide), au_d (show (24 : Nat) ≠ 19 by decide), au_d (show (24 : Nat) ≠ 18 by decide), au_k, au_d (show (24 : Nat) ≠ 23 by decide), au_d (show (24 : Nat) ≠ 22 by decide)]
      have oo : ∀ c, c ≠ 13 → c ≠ 15 → c ≠ 18 → c ≠ 19 → c ≠ 22 → c ≠ 23 → c ≠ 24 → c ≠ 127 → c ≠ 128 → c ≠ 129 → B c = a c := fun c g1 g2 g3 g4 g5 g6 g7 g8 g9 g10 => (eB c g8 g9 g10).trans (eA c g1 g2 g3 g4 g5 g6 g7)
      have o16 : B 16 = a 16 := oo 16 (by decide) (by decide) (by decide) (by decide) (by decide) (by decide) (by decide) (by decide) (by decide) (by decide)
      have o17 : B 17 = a 17 := oo 17 (by decide) (by decide) (by decide) (by decide) (by decide) (by decide) (by decide) (by decide) (by decide) (by decide)
      have o20 : B 20 = a 20 := oo 20 (by decide) (by decide) (by decide) (by decide) (by decide) (by decide) (by decide) (by decide) (by decide) (by decide)
      have o136 : B 136 = a 136 := oo 136 (by decide) (by decide) (by decide) (by decide) (by decide) (by decide) (by decide) (by decide) (by decide) (by decide)
      have o13 : B 13 2 = nI (n + 1) := by rw [eB 13 (by decide) (by decide) (by decide), ← hA, au_ss]
      have o127 : B 127 0 = nI (n + 1) := by rw [← hB, au_ss]
      have o127j : ∀ j, j ≠ 0 → B 127 j = a 127 j := fun j hj => by
        rw [← hB, au_sd hj, au_d (by decide), au_d (by decide), au_d (by decide), au_d (by decide), au_d (by decide), au_d (by decide), au_d (by decide), au_d (by decide), eA 127 (by decide) (by decide) (by decide) (by decide) (by decide) (by decide) (by decide)]
      have q9 := h9 n (Nat.le_refl _) hn
      have w6 : ∀ {k : Int32}, win k 5 = true → ∃ l : Nat, l < 6 ∧ k = nI l := fun hk => by
        obtain ⟨l, hl, e⟩ := win_of (n := 5) hk (by decide)
        exact ⟨l, by omega, e⟩
      have hT : TN B (n + 1) := by
        refine ⟨hn, OLD_low h2 (fun c hc => oo c (by omega) (by omega) (by omega) (by omega) (by omega) (by omega) (by omega) (by omega) (by omega) (by omega)), o13, o127, fun p hp i hi => ?_, fun p hp => ?_, fun w hw => by rw [o136, o20]; exact h7 w hw, fun i hi p hp => ?_, fun p g1 g2 => by rw [o16, o17]; exact h9 p (by omega) g2⟩
        · by_cases cp : p = n
          · subst cp
            rcases (show i = 0 ∨ i = 1 ∨ i = 2 ∨ i = 3 ∨ i = 4 by omega) with rfl | rfl | rfl | rfl | rfl
            · rw [o129, if_neg (by omega), if_neg (by omega), if_neg (by omega), if_neg (by omega), if_pos (show 5 * p + 0 = 5 * p by omega)]; show 50 = B 15 p; rw [o15, if_pos rfl]
            · rw [o129, if_neg (by omega), if_neg (by omega), if_neg (by omega), if_pos rfl, o16, q9.1]
            · rw [o129, if_neg (by omega), if_neg (by omega), if_pos rfl, o17, q9.2]
            · rw [o129, if_neg (by omega), if_pos rfl, o18, if_pos rfl]
            · rw [o129, if_pos rfl, o19, if_pos rfl]
          · rw [o129, if_neg (by omega), if_neg (by omega), if_neg (by omega), if_neg (by omega), if_neg (by omega), h5 p (by omega) i hi]
            rcases (show i = 0 ∨ i = 1 ∨ i = 2 ∨ i = 3 ∨ i = 4 by omega) with rfl | rfl | rfl | rfl | rfl
            · rw [o15, if_neg cp]
            · rw [o16]
            · rw [o17]
            · rw [o18, if_neg cp]
            · rw [o19, if_neg cp]
        · rw [o16]
          by_cases cp : p = n
          · subst cp; exact ⟨0, by omega, q9.1⟩
          · exact h6 p (by omega)
        · by_cases cp : p = n
          · subst cp
            rcases (show i = 0 ∨ i = 1 ∨ i = 2 by omega) with rfl | rfl | rfl
            · rw [o128, if_neg (by omega), if_neg (by omega), if_pos (show 3 * p + 0 = 3 * p by omega)]; show x = B 22 p ∧ ∃ l : Nat, l < 6 ∧ B 22 p = nI l; rw [o22, if_pos rfl]; exact ⟨rfl, w6 c1⟩
            · rw [o128, if_neg (by omega), if_pos rfl, o23, if_pos rfl]; exact ⟨rfl, w6 c2⟩
            · rw [o128, if_pos rfl, o24, if_pos rfl]; exact ⟨rfl, w6 c3⟩
          · have hq := h8 i hi p (by omega)
            rw [o128, if_neg (by omega), if_neg (by omega), if_neg (by omega)]
            rcases (show i = 0 ∨ i = 1 ∨ i = 2 by omega) with rfl | rfl | rfl
            · rw [o22, if_neg cp]; exact hq
            · rw [o23, if_neg cp]; exact hq
            · rw [o24, if_neg cp]; exact hq
      exact po (hJ.town hT.jt (fun c g1 g2 g3 g4 g5 => oo c (by omega) (by omega) (by omega) (by omega) (by omega) (by omega) (by omega) g2 g3 g4) (oo 12 (by decide) (by decide) (by decide) (by decide) (by decide) (by decide) (by decide) (by decide) (by decide) (by decide)) o127j)
    · have hn16 : n = 16 := by omega
      subst hn16
      rw [sp_person_full (d := 57) h2 h3 c1 c2 c3 c4 c5, sm_person_full (d := 57) h4 c1 c2 c3 c4 c5]
      exact po hJ
end TNS
