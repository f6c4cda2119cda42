/-! guide, type, clear keep J -/
section KPc
variable {L : Nat} {b : Bool} {a a' : Nat → Nat → Int32} {x y z u v w : Int32}
theorem gIn_not : gIn (!b) = gDr b := by cases b <;> rfl
theorem gIn_dr : (gIn b = 53 ∧ gDr b = 58) ∨ (gIn b = 58 ∧ gDr b = 53) := by cases b <;> simp [gIn, gDr]
theorem keep_guide : KEEP L 93 176 [] := by
  intro a b hJ
  obtain ⟨n, hTN⟩ := hJ.tn
  obtain ⟨T, k, x1, x2⟩ := hJ.2.2.2.2.2.1
  have hgd := gIn_dr (b := b)
  refine sp_guide (d := 32) hTN.2.1 x1 (fun a1 z1 z2 => ?_)
  generalize hA : am_up a1 33 0 0 = A
  have eA : ∀ c, c ≠ 33 → (c < gDr b ∨ gDr b + 4 < c) → A c = a c := fun c h1 h2 => by rw [← hA, au_d h1]; exact z1.1 c h1 h2
  have eM : ∀ c, 127 ≤ c → A c = a c := fun c hc => eA c (by omega) (by omega)
  refine sm_guide (d := 54) ⟨by rw [eM 127 (by omega)]; exact x2.1, x2.2.1, fun j hj => by rw [eM 147 (by omega)]; exact x2.2.2 j hj⟩ (fun a2 y1 y2 y3 y4 => ?_)
  have eB : ∀ c, c ≠ 33 → (c < gDr b ∨ gDr b + 4 < c) → c ≠ 127 → (c < 148 ∨ 152 < c) → a2 c = a c := fun c h1 h2 h3 h4 => by rw [y1.1 c h3 h4]; exact eA c h1 h2
  have e127 : ∀ j, j ≠ 24 → j ≠ 26 → j ≠ 28 → j ≠ 29 → j ≠ 30 → j ≠ 31 → j ≠ 35 → j ≠ 36 → a2 127 j = a 127 j := fun j h1 h2 h3 h4 h5 h6 h7 h8 => by rw [y1.2 j h1 h2 h3 h4 h5 h6 h7 h8, eM 127 (by omega)]
  have e33 : a2 33 0 = 0 := by rw [y1.1 33 (by decide) (by omega), ← hA, au_ss]
  obtain ⟨hT, hS, hN, hP, hR, hX, hG, hH⟩ := id hJ
  have e12 : a2 12 = a 12 := eB 12 (by omega) (by omega) (by omega) (by omega)
  refine po ⟨JTfr hT (fun c hc => eB c (by omega) (by omega) (by omega) (by omega)) (e127 0 (by decide) (by decide) (by decide) (by decide) (by decide) (by decide) (by decide) (by decide)), JSfr hS (fun c hc => eB c (by omega) (by omega) (by omega) (by omega)) (by rw [e12]) (e127 4 (by decide) (by decide) (by decide) (by decide) (by decide) (by decide) (by decide) (by decide)), JNfr hN (by rw [e12]) (e127 3 (by decide) (by decide) (by decide) (by decide) (by decide) (by decide) (by decide) (by decide)), JPfr hP (fun c hc => eB c (by omega) (by omega) (by omega) (by omega)), JRfr hR (fun c hc => eB c (by omega) (by omega) (by omega) (by omega)) (e127 41 (by decide) (by decide) (by decide) (by decide) (by decide) (by decide) (by decide) (by decide)), ⟨fun _ => 0, 0, ⟨e33, by decide, fun j hj => by omega⟩, ⟨y2, by decide, fun j hj => by omega⟩⟩, ?_, JHfr hH (fun c hc => eB c (by omega) (by omega) (by omega) (by omega))⟩
  cases ho : (pG T k).1 with
  | true =>
    obtain ⟨g1, g2, g3⟩ := y3 ho
    have hL := z2 ho
    rw [if_pos rfl]
    refine ⟨T, k, ho, x1.2.1, ?_, fun j hj => ⟨g3 j hj, (x1.2.2 j hj).2⟩, g1, g2⟩
    rw [gIn_not]
    refine hL.fr (fun c h1 h2 => ?_)
    rw [y1.1 c (by omega) (by omega), ← hA, au_d (by omega)]
  | false =>
    obtain ⟨g1, g2, g3⟩ := y4 ho
    rw [if_neg (by decide)]
    obtain ⟨GT, gn, w1, w2, w3, w4, w5, w6⟩ := hG
    refine ⟨GT, gn, w1, w2, w3.fr (fun c h1 h2 => eB c (by omega) (by omega) (by omega) (by omega)), fun j hj => by rw [g3, eM 149 (by omega)]; exact w4 j hj, by rw [g1, eM 127 (by omega)]; exact w5, by rw [g2, eM 127 (by omega)]; exact w6⟩
theorem keep_type {ww : Int64} : KEEP L 92 169 [.long ww, .int x] := by
  intro a b hJ
  obtain ⟨T, q, x1, x2⟩ := hJ.2.2.2.2.2.1
  cases hc : win2 x 1 8 with
  | false =>
    rw [sp_type_bad1 (d := 58) hc, sm_type_bad1 (d := 58) hc]
    exact po hJ
  | true =>
    have h14 : ¬ x < 1 ∧ ¬ 8 < x := of_decide_eq_true hc
    have hy0 : ¬ x < 0 := fun h => h14.1 (Int32.lt_trans h (by decide))
    obtain ⟨k, hk, rfl⟩ := nI_of hy0
    have g1 : 1 ≤ k := Classical.byContradiction (fun h => h14.1 (nI_lt (b := 1) (by omega) (by decide)))
    have g4 : k ≤ 8 := Classical.byContradiction (fun h => h14.2 (nI_lt (a := 8) (by omega) hk))
    rcases first_of (fun i => !okB ww i) k with hno | ⟨i, hi, k1, k2⟩
    · have hok : ∀ j, j < k → okB ww j = true := fun j hj => by simpa using hno j hj
      by_cases hf : q + k ≤ 120
      · rw [sp_type (d := 58) g1 g4 hok x1.1 hf, sm_type (d := 58) g1 g4 hok (by rw [au_d (by decide), ar_d (by decide)]; exact x2.1) hf]
        generalize hA : am_up (am_row a 34 (cpo (tyR ww k q) (a 34) q k)) 33 0 (nI (q + k)) = A
        have eA : ∀ c, c ≠ 33 → c ≠ 34 → A c = a c := fun c h1 h2 => by rw [← hA, au_d h1, ar_d h2]
        rw [eA 147 (by decide) (by decide)]
        generalize hB : am_up (am_row A 147 (cpo (tyR ww k q) (a 147) q k)) 127 24 (nI (q + k)) = B
        have eB : ∀ c, c ≠ 33 → c ≠ 34 → c ≠ 127 → c ≠ 147 → B c = a c := fun c h1 h2 h3 h4 => by rw [← hB, au_d h3, ar_d h4]; exact eA c h1 h2
        have e127 : ∀ j, j ≠ 24 → B 127 j = a 127 j := fun j hj => by rw [← hB, au_sd hj, ar_d (by decide), eA 127 (by decide) (by decide)]
        have e12 : B 12 = a 12 := eB 12 (by decide) (by decide) (by decide) (by decide)
        have b34 : ∀ j, B 34 j = if q ≤ j ∧ j < q + k then tyR ww k q j else a 34 j := fun j => by rw [← hB, au_d (by decide), ar_d (by decide), ← hA, au_d (by decide), ar_s]; rfl
        have b147 : ∀ j, B 147 j = if q ≤ j ∧ j < q + k then tyR ww k q j else a 147 j := fun j => by rw [← hB, au_d (by decide), ar_s]; rfl
        obtain ⟨hT, hS, hN, hP, hR, hX, hG, hH⟩ := id hJ
        have hby : ∀ j, q ≤ j → j < q + k → 32 ≤ byW ww (k - 1 - (j - q)) ∧ byW ww (k - 1 - (j - q)) ≤ 126 := fun j h1 h2 => of_decide_eq_true (hok _ (by omega))
        refine po ⟨JTfr hT (fun c hc => eB c (by omega) (by omega) (by omega) (by omega)) (e127 0 (by decide)), JSfr hS (fun c hc => eB c (by omega) (by omega) (by omega) (by omega)) (by rw [e12]) (e127 4 (by decide)), JNfr hN (by rw [e12]) (e127 3 (by decide)), JPfr hP (fun c hc => eB c (by omega) (by omega) (by omega) (by omega)), JRfr hR (fun c hc => eB c (by omega) (by omega) (by omega) (by omega)) (e127 41 (by decide)), ⟨fun j => if q ≤ j ∧ j < q + k then byW ww (k - 1 - (j - q)) else T j, q + k, ⟨by rw [← hB, au_d (by decide), ar_d (by decide), ← hA, au_ss], hf, fun j hj => ?_⟩, ⟨by rw [← hB, au_ss], hf, fun j hj => ?_⟩⟩, JGfr hG (fun c hc => eB c (by omega) (by omega) (by omega) (by omega)) (e127 28 (by decide)) (e127 29 (by decide)), JHfr hH (fun c hc => eB c (by omega) (by omega) (by omega) (by omega))⟩
        · rw [b34]
          by_cases c : q ≤ j ∧ j < q + k
          · simp only [if_pos c]; exact ⟨rfl, hby j c.1 c.2⟩
          · simp only [if_neg c]; exact x1.2.2 j (by omega)
        · rw [b147]
          by_cases c : q ≤ j ∧ j < q + k
          · simp only [if_pos c]; exact ⟨rfl, hby j c.1 c.2⟩
          · simp only [if_neg c]; exact x2.2.2 j (by omega)
      · rw [sp_type_full (d := 58) g1 g4 hok x1.1 x1.2.1 (by omega), sm_type_full (d := 58) g1 g4 hok x2.1 x2.2.1 (by omega)]
        exact po hJ
    · have hok : ∀ j, j < i → okB ww j = true := fun j hj => by simpa using k2 j hj
      have hb : okB ww i = false := by simpa using k1
      rw [sp_type_bad2 (d := 58) g1 g4 hi hok hb, sm_type_bad2 (d := 58) g1 g4 hi hok hb]
      exact po hJ
/-- only the reports have changed -/
theorem J.rep (h : J a b) (hR : JR a') (e : ∀ c, c ≠ 39 → c ≠ 40 → c ≠ 41 → c ≠ 127 → (c < 155 ∨ 157 < c) → a' c = a c) (e127 : ∀ j, j ≠ 41 → a' 127 j = a 127 j) : J a' b := by
  obtain ⟨hT, hS, hN, hP, _, hX, hG, hH⟩ := h
  have e12 : a' 12 = a 12 := e 12 (by omega) (by omega) (by omega) (by omega) (by omega)
  exact ⟨JTfr hT (fun c hc => e c (by omega) (by omega) (by omega) (by omega) (by omega)) (e127 0 (by decide)), JSfr hS (fun c hc => e c (by omega) (by omega) (by omega) (by omega) (by omega)) (by rw [e12]) (e127 4 (by decide)), JNfr hN (by rw [e12]) (e127 3 (by decide)), JPfr hP (fun c hc => e c (by omega) (by omega) (by omega) (by omega) (by omega)), hR, JXfr hX (fun c hc => e c (by omega) (by omega) (by omega) (by omega) (by omega)) (by rw [e 33 (by omega) (by omega) (by omega) (by omega) (by omega)]) (e127 24 (by decide)), JGfr hG (fun c hc => e c (by omega) (by omega) (by omega) (by omega) (by omega)) (e127 28 (by decide)) (e127 29 (by decide)), JHfr hH (fun c hc => e c (by omega) (by omega) (by omega) (by omega) (by omega))⟩
theorem neg4_lt : ∀ t, t ≤ 24 → (-4 : Int32) < nI t := by decide
theorem keep_clear : KEEP L 99 185 [] := by
  intro a b hJ
  obtain ⟨pl, hr, td, R, l, r1, r2, r3, r4, r5, r6, r7⟩ := hJ.2.2.2.2.1
  rw [sp_clear (d := 58), sm_clear]
  generalize hA : am_up (am_up (am_row (am_row a 40 (cpf (fun _ => 0) (a 40) 24)) 41 (cpf (fun _ => 0) (a 41) 24)) 39 0 0) 39 1 (-4) = A
  have eA : ∀ c, c ≠ 39 → c ≠ 40 → c ≠ 41 → A c = a c := fun c h1 h2 h3 => by rw [← hA, au_d h1, au_d h1, ar_d h3, ar_d h2]
  have z0 : nI (mk (fun p => lqF pl hr td true 0 p 0) 6) = 0 := rfl
  refine po' (hJ.rep ⟨pl, hr, td, 0, 0, fun h hh => ?_, ⟨au_ss, fun r hr => by omega⟩, by omega, ?_, fun r hr => by omega, by omega, fun t ht => ?_⟩ (fun c h1 h2 h3 h4 h5 => by rw [au_d h4]; exact eA c h1 h2 h3) (fun j hj => by rw [au_sd hj, eA 127 (by decide) (by decide) (by decide)])) ?_
  · rw [au_d (show (40 : Nat) ≠ 127 by decide), au_d (show (41 : Nat) ≠ 127 by decide), ← hA, au_d (show (40 : Nat) ≠ 39 by decide), au_d (show (40 : Nat) ≠ 39 by decide), ar_d (show (40 : Nat) ≠ 41 by decide), ar_s, au_d (show (41 : Nat) ≠ 39 by decide), au_d (show (41 : Nat) ≠ 39 by decide), ar_s]
    simp only [cpf, hh, if_true]
    exact ⟨rfl, rfl⟩
  · rw [au_d (by decide), ← hA, au_sd (by decide), au_ss]; rfl
  · rw [au_d (by decide), ← hA, au_ss]
    exact propext ⟨fun _ => by omega, fun _ => neg4_lt t ht⟩
  · rw [eA 127 (by decide) (by decide) (by decide), r2.1, r4]
end KPc
