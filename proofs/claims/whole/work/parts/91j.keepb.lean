/-! report, clear, sheets keep J -/
section KPb
variable {L : Nat} {b : Bool} {a a' : Nat → Nat → Int32} {x y z u v w : Int32}
/-- only the sheets have changed -/
theorem J.sh (h : J a b) (hH : JH a') (e : ∀ c, (c < 119 ∨ 126 < c) → (c < 159 ∨ 162 < c) → a' c = a c) : J a' b := by
  obtain ⟨hT, hS, hN, hP, hR, hX, hG, _⟩ := h
  have e127 : a' 127 = a 127 := e 127 (by omega) (by omega)
  have e12 : a' 12 = a 12 := e 12 (by omega) (by omega)
  exact ⟨JTfr hT (fun c hc => e c (by omega) (by omega)) (by rw [e127]), JSfr hS (fun c hc => e c (by omega) (by omega)) (by rw [e12]) (by rw [e127]), JNfr hN (by rw [e12]) (by rw [e127]), JPfr hP (fun c hc => e c (by omega) (by omega)), JRfr hR (fun c hc => e c (by omega) (by omega)) (by rw [e127]), JXfr hX (fun c hc => e c (by omega) (by omega)) (by rw [e 33 (by omega) (by omega)]) (by rw [e127]), JGfr hG (fun c hc => e c (by omega) (by omega)) (by rw [e127]) (by rw [e127]), hH⟩
theorem keep_drop : KEEP L 105 198 [.int x] := by
  intro a b hJ
  have hH := hJ.2.2.2.2.2.2.2
  cases hc : win x 3 with
  | false =>
    rw [sp_drop_bad (d := 57) hc, sm_drop_bad (d := 57) hc]
    exact po hJ
  | true =>
    obtain ⟨c, hcc, rfl⟩ := win_of (n := 3) hc (by decide)
    have hc4 : c < 4 := by omega
    obtain ⟨q1, q2, q3, q4, q5⟩ := hH c hc4
    rcases q4 with q4 | q4
    · rw [sp_drop_null (d := 57) hc4 (by rw [q1]; exact q4), sm_drop_null (d := 57) hc4 (by rw [q4]; decide)]
      exact po hJ
    · have hne : ¬ a 159 c = -1 := fun e => q4 (by rw [e]; decide)
      rw [sp_drop (d := 57) hc4 (by rw [q1]; exact hne), sm_drop (d := 57) hc4 (by rw [au_d (by omega)]; exact q4), au_d (show (160 : Nat) ≠ 119 + 2 * c by omega)]
      refine po' (hJ.sh (fun c' hc' => ?_) (fun k h1 h2 => by rw [au_d (by omega), au_d (by omega)])) q2.symm
      obtain ⟨w1, w2, w3, w4, w5⟩ := hH c' hc'
      unfold JH1
      rw [au_d (show (120 + 2 * c' : Nat) ≠ 159 by omega), au_d (show (120 + 2 * c' : Nat) ≠ 119 + 2 * c by omega), au_d (show (161 : Nat) ≠ 159 by decide), au_d (show (161 : Nat) ≠ 119 + 2 * c by omega), au_d (show (160 : Nat) ≠ 159 by decide), au_d (show (160 : Nat) ≠ 119 + 2 * c by omega), au_d (show (119 + 2 * c' : Nat) ≠ 159 by omega)]
      by_cases ce : c' = c
      · subst ce
        rw [au_ss, au_ss, au_sd (by decide)]
        exact ⟨rfl, w2, w3, Or.inl rfl, w5⟩
      · rw [au_d (show (119 + 2 * c' : Nat) ≠ 119 + 2 * c by omega), au_sd ce, au_d (by omega)]
        exact ⟨w1, w2, w3, w4, w5⟩
theorem keep_sheet : KEEP L 104 197 [.int x, .int y, .int z] := by
  intro a b hJ
  have hH := hJ.2.2.2.2.2.2.2
  cases hc : (win x 3 && (win y 2 && !decide (32 < z))) with
  | false =>
    rw [sp_sheet_bad (d := 57) hc, sm_sheet_bad (d := 57) hc]
    exact po hJ
  | true =>
    rw [Bool.and_eq_true, Bool.and_eq_true] at hc
    obtain ⟨c1, c2, c3⟩ := hc
    have c3' : ¬ 32 < z := by simpa using c3
    by_cases hz : z < 0
    · rw [sp_sheet_size (d := 57) c1 c2 hz, sm_sheet_size (d := 57) c1 c2 c3' hz]
      exact po hJ
    · obtain ⟨c, hcc, rfl⟩ := win_of (n := 3) c1 (by decide)
      have hc4 : c < 4 := by omega
      obtain ⟨l, hl, rfl⟩ := nI_of hz
      have hl32 : l ≤ 32 := Classical.byContradiction (fun h => c3' (nI_lt (a := 32) (by omega) hl))
      obtain ⟨k, hk, rfl⟩ := win_of (n := 2) c2 (by decide)
      rw [sp_sheet (d := 57) hc4 c2 c3' hz, sm_sheet (d := 57) hc4 c2 c3' hz]
      generalize hA : am_row (am_up (am_up a (119 + 2 * c) 1 (nI k)) (119 + 2 * c) 2 (nI l)) (120 + 2 * c) (cpf (fun _ => 0) (a (120 + 2 * c)) 32) = A
      have eA : ∀ k, k ≠ 119 + 2 * c → k ≠ 120 + 2 * c → A k = a k := fun k h1 h2 => by rw [← hA, ar_d h2, au_d h1, au_d h1]
      rw [eA 161 (by omega) (by omega)]
      generalize hB : am_row (am_up (am_up A 159 c (nI k)) 160 c (nI l)) 161 (cpo (fun _ => 0) (a 161) (32 * c) 32) = B
      have eB : ∀ k, k ≠ 119 + 2 * c → k ≠ 120 + 2 * c → k ≠ 159 → k ≠ 160 → k ≠ 161 → B k = a k := fun k h1 h2 h3 h4 h5 => by rw [← hB, ar_d h5, au_d h4, au_d h3]; exact eA k h1 h2
      have b159 : ∀ i, B 159 i = if i = c then nI k else a 159 i := fun i => by rw [← hB, ar_d (by decide), au_d (by decide), au_k, eA 159 (by omega) (by omega)]
      have b160 : ∀ i, B 160 i = if i = c then nI l else a 160 i := fun i => by rw [← hB, ar_d (by decide), au_k, au_d (by decide), eA 160 (by omega) (by omega)]
      have b161 : ∀ i, B 161 i = if 32 * c ≤ i ∧ i < 32 * c + 32 then 0 else a 161 i := fun i => by rw [← hB, ar_s]; rfl
      have b119 : ∀ i, B (119 + 2 * c) i = if i = 2 then nI l else if i = 1 then nI k else a (119 + 2 * c) i := fun i => by rw [← hB, ar_d (by omega), au_d (by omega), au_d (by omega), ← hA, ar_d (by omega), au_k, au_k]
      have b120 : ∀ i, B (120 + 2 * c) i = if i < 32 then 0 else a (120 + 2 * c) i := fun i => by rw [← hB, ar_d (by omega), au_d (by omega), au_d (by omega), ← hA, ar_s]; rfl
      refine po (hJ.sh (fun c' hc' => ?_) (fun k h1 h2 => eB k (by omega) (by omega) (by omega) (by omega) (by omega)))
      obtain ⟨w1, w2, w3, w4, w5⟩ := hH c' hc'
      unfold JH1
      rw [b159, b160]
      by_cases ce : c' = c
      · subst ce
        rw [b119, b119, if_neg (by decide), if_pos rfl, if_pos rfl, if_pos rfl, if_pos rfl]
        refine ⟨rfl, rfl, ⟨l, hl32, rfl⟩, Or.inr (nI_pos (by omega)), fun j hj => ?_⟩
        rw [b120, if_pos hj, b161, if_pos (by omega)]
      · rw [if_neg ce, if_neg ce, eB (119 + 2 * c') (by omega) (by omega) (by omega) (by omega) (by omega), eB (120 + 2 * c') (by omega) (by omega) (by omega) (by omega) (by omega)]
        refine ⟨w1, w2, w3, w4, fun j hj => ?_⟩
        rw [b161, if_neg (by omega)]
        exact w5 j hj
theorem keep_item : KEEP L 106 199 [.int x, .int y, .int z, .int u] := by
  intro a b hJ
  have hH := hJ.2.2.2.2.2.2.2
  cases hc : (win x 3 && win y 2) with
  | false =>
    rw [sp_item_bad (d := 56) hc, sm_item_bad (d := 56) hc]
    exact po hJ
  | true =>
    rw [Bool.and_eq_true] at hc
    obtain ⟨c, hcc, rfl⟩ := win_of (n := 3) hc.1 (by decide)
    have hc4 : c < 4 := by omega
    obtain ⟨l, hl, e1, e2, e3, e4⟩ := flt_len (hH c hc4)
    by_cases hf : fltF (a 159 c) y z 1 l = 0
    · obtain ⟨f1, f2⟩ := flt_0 hf
      obtain ⟨j, rfl, hj⟩ := spn_of f2
      rw [sp_item (d := 56) hc4 hc.2 e1 hl (by rw [e3]; exact hf) (by omega), sm_item (d := 56) hc4 hc.2 (by rw [au_d (by omega)]; exact e2) (by rw [au_d (by omega)]; exact e4) hl (by rw [au_d (by omega)]; exact hf) (by omega)]
      refine po (hJ.sh (fun c' hc' => ?_) (fun k h1 h2 => by rw [au_d (by omega), au_d (by omega)]))
      obtain ⟨w1, w2, w3, w4, w5⟩ := hH c' hc'
      unfold JH1
      rw [au_d (show (119 + 2 * c' : Nat) ≠ 161 by omega), au_d (show (119 + 2 * c' : Nat) ≠ 120 + 2 * c by omega), au_d (show (159 : Nat) ≠ 161 by decide), au_d (show (159 : Nat) ≠ 120 + 2 * c by omega), au_d (show (160 : Nat) ≠ 161 by decide), au_d (show (160 : Nat) ≠ 120 + 2 * c by omega)]
      refine ⟨w1, w2, w3, w4, fun i hi => ?_⟩
      rw [au_d (show (120 + 2 * c' : Nat) ≠ 161 by omega), au_k, au_d (show (161 : Nat) ≠ 120 + 2 * c by omega)]
      by_cases ce : c' = c
      · subst ce
        rw [au_k]
        by_cases ci : i = j
        · rw [if_pos ci, if_pos (by omega)]
        · rw [if_neg ci, if_neg (by omega)]; exact w5 i hi
      · rw [au_d (by omega), if_neg (by omega)]; exact w5 i hi
    · rw [sp_item_flt (d := 56) hc4 hc.2 e1 hl (by rw [e3]; exact hf), sm_item_flt (d := 56) hc4 hc.2 e2 e4 hl hf, e3]
      exact po hJ
end KPb
