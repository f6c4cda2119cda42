/-! found, reads keep J -/
section KP7
variable {L : Nat} {b : Bool} {a a' : Nat → Nat → Int32} {x y z u v w : Int32}
theorem keep_reads : KEEP L 108 201 [.int x, .int y] := by
  intro a b hJ
  obtain ⟨n, hTN⟩ := hJ.tn
  obtain ⟨h1, h2, h3, h4, h5, h6, h7, h8, h9⟩ := id hTN
  cases hc : win x 3 with
  | false =>
    rw [sp_reads_bad (d := 56) hc, sm_reads_bad (d := 56) hc]
    exact po hJ
  | true =>
    obtain ⟨c, hcc, rfl⟩ := win_of (n := 3) hc (by decide)
    have hc4 : c < 4 := by omega
    have hH1 := hJ.2.2.2.2.2.2.2 c hc4
    obtain ⟨l, hl, e1, e2, e3, e4⟩ := flt_len hH1
    by_cases hf : fltF (a 159 c) 0 y n l = 0
    · obtain ⟨f1, f2⟩ := flt_0 hf
      obtain ⟨j, rfl, hj⟩ := spn_of f2
      have hit := hH1.2.2.2.2
      rw [sp_reads (d := 56) hc4 h3 h1 e1 hl (by rw [e3]; exact hf) (by omega)]
      generalize hA : am_row a 17 (cpf (fun p => a (120 + 2 * c) (j + p)) (a 17) n) = A
      have eA : ∀ k, k ≠ 17 → A k = a k := fun k hk => by rw [← hA, ar_d hk]
      rw [sm_reads (d := 56) hc4 (by rw [eA 127 (by decide)]; exact h4) h1 (by rw [eA 160 (by decide)]; exact e2) (by rw [eA 159 (by decide)]; exact e4) hl (by rw [eA 159 (by decide)]; exact hf) (by omega), eA 161 (by decide), eA 129 (by decide)]
      generalize hB : am_row A 129 (tr2 (fun p => a 161 (32 * c + j + p)) (a 129) n) = B
      have eB : ∀ k, k ≠ 17 → k ≠ 129 → B k = a k := fun k hk hk2 => by rw [← hB, ar_d hk2, eA k hk]
      have b17 : ∀ p, B 17 p = if p < n then a (120 + 2 * c) (j + p) else a 17 p := fun p => by rw [← hB, ar_d (by decide), ← hA, ar_s]; rfl
      have b129 : ∀ i, B 129 i = if i % 5 = 2 ∧ i / 5 < n then a 161 (32 * c + j + i / 5) else a 129 i := fun i => by rw [← hB, ar_s]; rfl
      have hT : TN B n := by
        refine ⟨h1, OLD_low h2 (fun k hk => eB k (by omega) (by omega)), by rw [eB 13 (by decide) (by decide)]; exact h3, by rw [eB 127 (by decide) (by decide)]; exact h4, fun p hp i hi => ?_, fun p hp => by rw [eB 16 (by decide) (by decide)]; exact h6 p hp, fun w hw => by rw [eB 136 (by decide) (by decide), eB 20 (by decide) (by decide)]; exact h7 w hw, fun i hi p hp => by rw [eB 128 (by decide) (by decide), eB (22 + i) (by omega) (by omega)]; exact h8 i hi p hp, fun p g1 g2 => ⟨by rw [eB 16 (by decide) (by decide)]; exact (h9 p g1 g2).1, by rw [b17, if_neg (by omega)]; exact (h9 p g1 g2).2⟩⟩
        rw [b129]
        by_cases ci : i = 2
        · subst ci
          rw [if_pos (by omega), show (5 * p + 2) / 5 = p by omega]
          show _ = B 17 p
          rw [b17, if_pos hp, hit (j + p) (by omega), Nat.add_assoc]
        · rw [if_neg (by omega), h5 p hp i hi, eB (15 + i) (by omega) (by omega)]
      refine po' (hJ.town hT.jt (fun k g1 g2 g3 g4 g5 => eB k (by omega) g4) (eB 12 (by decide) (by decide)) (fun i hi => by rw [eB 127 (by decide) (by decide)])) ?_
      exact sumA_cong (fun p hp => by rw [hit (j + p) (by omega), Nat.add_assoc])
    · rw [sp_reads_flt (d := 56) hc4 h3 h1 e1 hl (by rw [e3]; exact hf), sm_reads_flt (d := 56) hc4 h4 h1 e2 e4 hl hf, e3]
      exact po hJ
theorem keep_found : KEEP L 88 161 [.int x] := by
  intro a b hJ
  obtain ⟨n, hTN⟩ := hJ.tn
  obtain ⟨h1, h2, h3, h4, h5, h6, h7, h8, h9⟩ := id hTN
  obtain ⟨m, s1, s2, s3, s4, s5, s6⟩ := hJ.2.1
  cases hc : win x (nI m - 1) with
  | false =>
    rw [sp_found_bad (d := 57) (by rw [s1]; exact hc), sm_found_bad (d := 57) (by rw [s2]; exact hc)]
    exact po hJ
  | true =>
    obtain ⟨s, hs, rfl⟩ := win_ix (by omega) hc
    have q1 := (s4 s hs).1
    have e6 := s5 s (by omega)
    rw [if_pos hs] at e6
    by_cases hk : a 130 s = 3
    · rw [sp_found (d := 57) h3 h1 s1 s3 hs (by rw [q1]; exact hk), e6]
      generalize hA : am_row (am_up a (63 + 7 * s) 6 0) 15 (cpf (lsF (a 15) (a 17) (a 135 s)) (a 15) n) = A
      have eA : ∀ k, k ≠ 15 → k ≠ 63 + 7 * s → A k = a k := fun k hk hk2 => by rw [← hA, ar_d hk, au_d hk2]
      rw [sm_found (d := 57) (by rw [eA 127 (by decide) (by omega)]; exact h4) h1 (by rw [eA 127 (by decide) (by omega)]; exact s2) s3 hs (by rw [eA 130 (by decide) (by omega)]; exact hk), eA 135 (by decide) (by omega), eA 129 (by decide) (by omega)]
      generalize hB : am_row (am_up A 135 s 0) 129 (trR (lsF (fun p => a 129 (5 * p)) (fun p => a 129 (5 * p + 2)) (a 135 s)) (a 129) n) = B
      have eB : ∀ k, k ≠ 15 → k ≠ 63 + 7 * s → k ≠ 129 → k ≠ 135 → B k = a k := fun k g1 g2 g3 g4 => by rw [← hB, ar_d g3, au_d g4, eA k g1 g2]
      have b15 : ∀ p, B 15 p = if p < n then lsF (a 15) (a 17) (a 135 s) p else a 15 p := fun p => by rw [← hB, ar_d (by decide), au_d (by decide), ← hA, ar_s]; rfl
      have b129 : ∀ i, B 129 i = if i % 5 = 0 ∧ i / 5 < n then lsF (fun p => a 129 (5 * p)) (fun p => a 129 (5 * p + 2)) (a 135 s) (i / 5) else a 129 i := fun i => by rw [← hB, ar_s]; rfl
      have b135 : ∀ i, B 135 i = if i = s then 0 else a 135 i := fun i => by rw [← hB, ar_d (by decide), au_k, eA 135 (by decide) (by omega)]
      have b63 : ∀ i, B (63 + 7 * s) i = if i = 6 then 0 else a (63 + 7 * s) i := fun i => by rw [← hB, ar_d (by omega), au_d (by omega), ← hA, ar_d (by omega), au_k]
      have hT : TN B n := by
        refine ⟨h1, OLD_low h2 (fun k hk => eB k (by omega) (by omega) (by omega) (by omega)), by rw [eB 13 (by decide) (by omega) (by decide) (by decide)]; exact h3, by rw [eB 127 (by decide) (by omega) (by decide) (by decide)]; exact h4, fun p hp i hi => ?_, fun p hp => by rw [eB 16 (by decide) (by omega) (by decide) (by decide)]; exact h6 p hp, fun w hw => by rw [eB 136 (by decide) (by omega) (by decide) (by decide), eB 20 (by decide) (by omega) (by decide) (by decide)]; exact h7 w hw, fun i hi p hp => by rw [eB 128 (by decide) (by omega) (by decide) (by decide), eB (22 + i) (by omega) (by omega) (by omega) (by omega)]; exact h8 i hi p hp, fun p g1 g2 => by rw [eB 16 (by decide) (by omega) (by decide) (by decide), eB 17 (by decide) (by omega) (by decide) (by decide)]; exact h9 p g1 g2⟩
        rw [b129]
        by_cases ci : i = 0
        · subst ci
          rw [if_pos (by omega), show (5 * p + 0) / 5 = p by omega]
          show _ = B 15 p
          rw [b15, if_pos hp]
          have u0 : a 129 (5 * p) = a 15 p := h5 p hp 0 (by omega)
          have u2 : a 129 (5 * p + 2) = a 17 p := h5 p hp 2 (by omega)
          unfold lsF
          show (if a 129 (5 * p + 2) = 1 then mx0 (a 129 (5 * p) - 15 * a 135 s) else a 129 (5 * p)) = _
          rw [u0, u2]
        · rw [if_neg (by omega), h5 p hp i hi, eB (15 + i) (by omega) (by omega) (by omega) (by omega)]
      obtain ⟨_, _, hN, hP, hR, hX, hG, hH⟩ := hJ
      have e127 : B 127 = a 127 := eB 127 (by decide) (by omega) (by decide) (by decide)
      have e12 : B 12 = a 12 := eB 12 (by decide) (by omega) (by decide) (by decide)
      refine po ⟨hT.jt, ⟨m, by rw [e12]; exact s1, by rw [e127]; exact s2, s3, fun s' hs' => ?_, fun s' hs' => ?_, fun s' hs' => by rw [eB 131 (by decide) (by omega) (by decide) (by decide)]; exact s6 s' hs'⟩, JNfr hN (by rw [e12]) (by rw [e127]), JPfr hP (fun k hk => eB k (by omega) (by omega) (by omega) (by omega)), JRfr hR (fun k hk => eB k (by omega) (by omega) (by omega) (by omega)) (by rw [e127]), JXfr hX (fun k hk => eB k (by omega) (by omega) (by omega) (by omega)) (by rw [eB 33 (by decide) (by omega) (by decide) (by decide)]) (by rw [e127]), JGfr hG (fun k hk => eB k (by omega) (by omega) (by omega) (by omega)) (by rw [e127]) (by rw [e127]), JHfr hH (fun k hk => eB k (by omega) (by omega) (by omega) (by omega))⟩
      · have q := s4 s' hs'
        unfold JS1 at q ⊢
        rw [eB 130 (by decide) (by omega) (by decide) (by decide), eB 131 (by decide) (by omega) (by decide) (by decide), eB 132 (by decide) (by omega) (by decide) (by decide), eB 133 (by decide) (by omega) (by decide) (by decide), eB 134 (by decide) (by omega) (by decide) (by decide)]
        by_cases c : s' = s
        · subst c
          rw [b63, b63, b63, b63, b63, if_neg (by decide), if_neg (by decide), if_neg (by decide), if_neg (by decide), if_neg (by decide)]
          exact q
        · rw [eB (63 + 7 * s') (by omega) (by omega) (by omega) (by omega)]
          exact q
      · rw [b135]
        by_cases c : s' = s
        · subst c
          rw [b63, if_pos rfl, if_pos hs, if_pos rfl]
        · rw [eB (63 + 7 * s') (by omega) (by omega) (by omega) (by omega), if_neg c]
          exact s5 s' hs'
    · rw [sp_found_cast (d := 57) s1 s3 hs (by rw [q1]; exact hk), sm_found_cast (d := 57) s2 s3 hs hk]
      exact po hJ
end KP7
