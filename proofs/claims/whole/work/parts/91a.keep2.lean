/-! calls that only ask -/
theorem SCR.M {a a' : Nat → Nat → Int32} (h : SCR a a') : ∀ c, 127 ≤ c → a' c = a c := fun c hc => h c (by omega) (by omega) (by omega) (by omega)
theorem gm_M {a a' : Nat → Nat → Int32} (h : ∀ c, 127 ≤ c → a' c = a c) : gm a' = gm a := by
  funext s p
  unfold gm
  rw [h 137 (by omega), h 138 (by omega), h 139 (by omega), h 140 (by omega), h 141 (by omega)]
theorem J.fx {a : Nat → Nat → Int32} {b : Bool} (h : J a b) : ∃ E m t, EOK E ∧ EC a E ∧ EM a E ∧ WT9 E ∧ JS a m ∧ JN a t ∧ (∀ s, s < 8 → GV (got a (64 + 7 * s)) E.n) ∧ GVM (gm a) 8 E.n ∧ ∀ s, s < 8 → EQn E.n (got a (64 + 7 * s)) (gm a s) := by
  obtain ⟨⟨E, t1, t2, t3, t4, t5⟩, ⟨m, hS⟩, ⟨t, hN⟩, hP, _⟩ := h
  have hn := t1.n
  refine ⟨E, m, t, t1, t2, t3, t4, hS, hN, fun s hs p hp h0 => ?_, fun s hs => ⟨fun p hp h0 => ?_, fun p hp => ?_⟩, fun s hs => EQn.of (fun p hp => (hP s hs p (by omega)).1)⟩
  · rw [(hP s hs p (by omega)).1] at h0 ⊢
    exact (hP s hs p (by omega)).2.2 h0
  · exact (hP s hs p (by omega)).2.2 h0
  · exact (hP s hs p (by omega)).2.1
section KP2
variable {L : Nat} {b : Bool} {a : Nat → Nat → Int32} {x y z u v w : Int32}
theorem keep_count : KEEP L 83 148 [.int x] := by
  intro a b hJ
  cases hc : win x 4 with
  | false =>
    rw [sp_count_bad hc, sm_count_bad hc]
    exact po hJ
  | true =>
    obtain ⟨j, hj, rfl⟩ := win_of (n := 4) hc (by decide)
    rw [sp_count (by omega), sm_count (by omega)]
    refine po' hJ ?_
    obtain ⟨⟨E, t1, t2, t3, t4, t5⟩, ⟨m, s1, s2, s3, s4, s5, s6⟩, ⟨t, n1, n2, n3⟩, hP, ⟨pl, hr, td, R, l, r1, r2, r3, r4, r5, r6, r7⟩, hX, ⟨GT, gn, g1, g2, g3, g4, g5, g6⟩, hH⟩ := hJ
    rcases (show j = 0 ∨ j = 1 ∨ j = 2 ∨ j = 3 ∨ j = 4 by omega) with rfl | rfl | rfl | rfl | rfl
    · exact t3.n.trans t2.n.symm
    · exact s2.trans s1.symm
    · exact g6.trans g3.1.symm
    · exact r2.1.trans r4.symm
    · exact n2.trans n1.symm
theorem keep_told : KEEP L 79 142 [.int x, .int y] := by
  intro a b hJ
  obtain ⟨E, m, t, hE, hC, hM, hW, ⟨s1, s2, s3, s4, s5, s6⟩, hN, hGc, hGm, hEq⟩ := hJ.fx
  cases hc : (win x (nI m - 1) && win y 8) with
  | false =>
    rw [sp_told_bad (d := 57) (by rw [s1]; exact hc), sm_told_bad (d := 57) (by rw [s2]; exact hc)]
    exact po hJ
  | true =>
    rw [Bool.and_eq_true] at hc
    obtain ⟨s, hs, rfl⟩ := win_ix (by omega) hc.1
    obtain ⟨j, hj, rfl⟩ := win_of (n := 8) hc.2 (by decide)
    rw [sp_told (d := 57) hC.o s1 s3 hs (by omega), sm_told (d := 57) s2 s3 hs (by omega)]
    refine po' hJ ?_
    obtain ⟨q1, q2, q3, q4, q5, q6⟩ := s4 s hs
    have e6 := s5 s (by omega)
    rw [if_pos hs] at e6
    rw [q1, q2, e6]
    rcases (show j = 0 ∨ j = 1 ∨ j = 2 ∨ j = 3 ∨ j = 4 ∨ j = 5 ∨ j = 6 ∨ j = 7 ∨ j = 8 by omega) with rfl | rfl | rfl | rfl | rfl | rfl | rfl | rfl | rfl
    · rfl
    · rfl
    · rfl
    · rfl
    · rfl
    · show (if a 130 s = 1 ∨ a 130 s = 2 then a 132 s else -12) = (if a 130 s = 1 ∨ a 130 s = 2 then a (63 + 7 * s) 3 else -12)
      by_cases h : a 130 s = 1 ∨ a 130 s = 2
      · rw [if_pos h, if_pos h, q3 h]
      · rw [if_neg h, if_neg h]
    · show (if a 130 s = 2 then a 133 s else -12) = (if a 130 s = 2 then a (63 + 7 * s) 4 else -12)
      by_cases h : a 130 s = 2
      · rw [if_pos h, if_pos h, q4 h]
      · rw [if_neg h, if_neg h]
    · show (if a 130 s = 3 then (if a 134 s = 0 then (0 : Int32) else 1) else -12) = (if a 130 s = 3 then (if a (63 + 7 * s) 5 = 0 then (0 : Int32) else 1) else -12)
      by_cases h : a 130 s = 3
      · rw [if_pos h, if_pos h, q5 h]
      · rw [if_neg h, if_neg h]
    · rfl
theorem keep_knows : KEEP L 82 147 [.int x, .int y, .int z] := by
  intro a b hJ
  obtain ⟨E, m, t, hE, hC, hM, hW, ⟨s1, s2, s3, s4, s5, s6⟩, hN, hGc, hGm, hEq⟩ := hJ.fx
  have hn := hE.n
  cases hc : (win x (nI E.n - 1) && (win y (nI m - 1) && win z 4)) with
  | false =>
    rw [sp_knows_bad (d := 57) (by rw [hC.n, s1]; exact hc), sm_knows_bad (d := 57) (by rw [hM.n, s2]; exact hc)]
    exact po hJ
  | true =>
    rw [Bool.and_eq_true, Bool.and_eq_true] at hc
    obtain ⟨p, hp, rfl⟩ := win_ix hn hc.1
    obtain ⟨s, hs, rfl⟩ := win_ix (by omega) hc.2.1
    obtain ⟨j, hj, rfl⟩ := win_of (n := 4) hc.2.2 (by decide)
    rw [sp_knows (d := 57) hC.n hn hp s1 s3 hs (by omega), sm_knows (d := 57) hM.n hn hp s2 s3 hs (by omega)]
    refine po' hJ ?_
    rw [(hJ.2.2.2.1 s (by omega) p (by omega)).1]
theorem keep_reach : KEEP L 85 155 [.int x, .int y] := by
  intro a b hJ
  obtain ⟨E, m, t, hE, hC, hM, hW, ⟨s1, s2, s3, s4, s5, s6⟩, hN, hGc, hGm, hEq⟩ := hJ.fx
  have hn := hE.n
  cases hc : (win x (nI m - 1) && win y 3) with
  | false =>
    rw [sp_reach_bad (d := 57) (by rw [s1]; exact hc), sm_reach_bad (d := 57) (by rw [s2]; exact hc)]
    exact po hJ
  | true =>
    rw [Bool.and_eq_true] at hc
    obtain ⟨s, hs, rfl⟩ := win_ix (by omega) hc.1
    have key := sm_reach (d := 57) (L := L) (b := b) (a := a) (M := gm a) (Q := PO L (some (.int (nI (ctn (rchF (got a (64 + 7 * s)) y) E.n))))) hE hM s2 s3 hs hc.2
    rw [pm_gm] at key
    rw [sp_reach (d := 57) hE hC s1 s3 hs hc.2, key]
    refine po' hJ ?_
    rw [ctn_cong (f := rchF (gm a s) y) (g := rchF (got a (64 + 7 * s)) y) (fun p hp => by unfold rchF; rw [(hEq s (by omega) p hp).1])]
theorem keep_harm : KEEP L 86 157 [.int x] := by
  intro a b hJ
  obtain ⟨E, m, t, hE, hC, hM, hW, ⟨s1, s2, s3, s4, s5, s6⟩, hN, hGc, hGm, hEq⟩ := hJ.fx
  have hn := hE.n
  cases hc : win x (nI m - 1) with
  | false =>
    rw [sp_harm_bad (d := 56) (by rw [s1]; exact hc), sm_harm_bad (d := 56) (by rw [s2]; exact hc)]
    exact po hJ
  | true =>
    obtain ⟨s, hs, rfl⟩ := win_ix (by omega) hc
    have key := sm_harm (d := 56) (L := L) (b := b) (a := a) (M := gm a) (Q := PO L (some (.int (if a (63 + 7 * s) 1 = 3 then 0 else harmF E (got a (64 + 7 * s)) E.n)))) hE hM s2 s3 hs (hGm s (by omega)).1
    rw [pm_gm] at key
    rw [sp_harm (d := 56) hE hC s1 s3 hs (hGc s (by omega)), key]
    refine po' hJ ?_
    rw [(s4 s hs).1, harmF_cong E.n (hEq s (by omega))]
theorem keep_foretold : KEEP L 89 165 [.int x] := by
  intro a b hJ
  obtain ⟨E, m, t, hE, hC, hM, hW, ⟨s1, s2, s3, s4, s5, s6⟩, hN, hGc, hGm, hEq⟩ := hJ.fx
  cases hc : win x 96 with
  | false =>
    rw [sp_foretold_bad (d := 53) hc, sm_foretold_bad (d := 53) hc]
    exact po hJ
  | true =>
    obtain ⟨h, hh, rfl⟩ := win_of (n := 96) hc (by decide)
    refine sp_foretold (d := 53) hE hC s1 s3 (fun s hs => hGc s (by omega)) (fun s hs => by rw [(s4 s hs).2.1]; exact s6 s (by omega)) hh (fun a1 q1 => ?_)
    have eM := q1.r.M
    have hJ1 := hJ.scr q1.r
    refine sm_foretold (d := 53) hE (hM.eq (by rw [eM 127 (by omega)]) (eM 128 (by omega)) (eM 129 (by omega)) (eM 136 (by omega))) (by rw [eM 127 (by omega)]; exact s2) s3 (by rw [gm_M eM]; exact hGm) (by rw [eM 131 (by omega)]; exact s6) hh (fun a2 q2 => ?_)
    refine po' (hJ1.smr q2.r) ?_
    unfold hbS
    refine sumA_cong (fun s hs => ?_)
    show aheadF E (a1 127 3) (a1 130 s) (a1 131 s) (if (0 : Nat).testBit s then 0 else 3) h (gm a1 s) = _
    rw [Nat.zero_testBit, if_neg (by decide), eM 127 (by omega), eM 130 (by omega), eM 131 (by omega), gm_M eM, (s4 s hs).1, (s4 s hs).2.1, hN.1, hN.2.1]
    exact (aheadF_cong (hEq s (by omega))).symm
theorem keep_versions : KEEP L 95 181 [.int x] := by
  intro a b hJ
  obtain ⟨E, m, t, hE, hC, hM, hW, ⟨s1, s2, s3, s4, s5, s6⟩, hN, hGc, hGm, hEq⟩ := hJ.fx
  cases hc : win x (nI m - 1) with
  | false =>
    rw [sp_versions_bad (d := 57) (by rw [s1]; exact hc), sm_versions_bad (d := 57) (by rw [s2]; exact hc)]
    exact po hJ
  | true =>
    obtain ⟨s, hs, rfl⟩ := win_ix (by omega) hc
    refine sp_versions (d := 57) hE hC s1 s3 hs (hGc s (by omega)) (fun a1 f k q1 q2 q3 q4 => ?_)
    have eM := q1.r.M
    have hJ1 := hJ.scr q1.r
    have hV : ∀ x, (∃ j, j < k ∧ f j = x) ↔ VP (gm a1 s) E.n x := fun x => by
      rw [q4 x, gm_M eM]
      unfold VP
      constructor
      · rintro ⟨p, hp, h1, h2, h3⟩; exact ⟨p, hp, by rw [← (hEq s (by omega) p hp).1]; exact h1, by rw [← (hEq s (by omega) p hp).2 h1]; exact h2, h3⟩
      · rintro ⟨p, hp, h1, h2, h3⟩
        have h1' : (got a (64 + 7 * s) p).st ≠ 0 := by rw [(hEq s (by omega) p hp).1]; exact h1
        exact ⟨p, hp, h1', by rw [(hEq s (by omega) p hp).2 h1']; exact h2, h3⟩
    have key := sm_versions (d := 57) (L := L) (b := b) (a := a1) (M := gm a1) (Q := PO L (some (.int (nI (cap k))))) hE (hM.eq (by rw [eM 127 (by omega)]) (eM 128 (by omega)) (eM 129 (by omega)) (eM 136 (by omega))) (by rw [eM 127 (by omega)]; exact s2) s3 hs (by rw [gm_M eM]; exact (hGm s (by omega)).1) q2 q3 hV (fun a2 z1 => by rw [pm_gm] at z1; exact po (hJ1.smr z1.r))
    rw [pm_gm] at key
    exact key
end KP2
