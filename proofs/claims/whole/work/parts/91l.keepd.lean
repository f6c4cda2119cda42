/-! copy, report keep J -/
section KPd
variable {L : Nat} {b : Bool} {a a' : Nat → Nat → Int32} {x y z u v w : Int32}
theorem spz_of {i x : Int32} {l : Nat} (hx : ¬ x < 0) (h : spz i x l = true) (hl : l ≤ 32) : ∃ j n : Nat, i = nI j ∧ x = nI n ∧ j + n ≤ l := by
  obtain ⟨n, hn, rfl⟩ := nI_of hx
  rw [spz_nI hn] at h
  obtain ⟨j, e, hj⟩ := spn_of h
  exact ⟨j, n, e, rfl, hj⟩
theorem keep_copy : KEEP L 107 200 [.int x, .int y, .int z, .int u, .int v] := by
  intro a b hJ
  have hH := hJ.2.2.2.2.2.2.2
  cases hc : (win x 3 && win z 3) with
  | false =>
    rw [sp_copy_bad (d := 56) hc, sm_copy_bad (d := 56) hc]
    exact po hJ
  | true =>
    rw [Bool.and_eq_true] at hc
    obtain ⟨c, hcc, rfl⟩ := win_of (n := 3) hc.1 (by decide)
    obtain ⟨e, hee, rfl⟩ := win_of (n := 3) hc.2 (by decide)
    have hc4 : c < 4 := by omega
    have he4 : e < 4 := by omega
    obtain ⟨l1, hl1, c1, c2, c3, c4⟩ := flt_len (hH c hc4)
    obtain ⟨l2, hl2, e1, e2, e3, e4⟩ := flt_len (hH e he4)
    have neq : ∀ {k : Int32}, ¬ k < 0 → ¬ k = -1 := fun h g => h (by rw [g]; decide)
    by_cases hm : a 159 c < 0 ∨ a 159 e < 0
    · have hm' : a (119 + 2 * c) 1 = -1 ∨ a (119 + 2 * e) 1 = -1 := by
        rw [c3, e3]
        rcases hm with hm | hm
        · exact Or.inl (c4.resolve_right (fun g => g hm))
        · exact Or.inr (e4.resolve_right (fun g => g hm))
      rw [sp_copy_null (d := 56) hc4 he4 hm', sm_copy_null (d := 56) hc4 he4 hm]
      exact po hJ
    · have m1 : ¬ a 159 c < 0 := fun g => hm (Or.inl g)
      have m2 : ¬ a 159 e < 0 := fun g => hm (Or.inr g)
      by_cases hq : a 159 c = a 159 e
      · by_cases hx : v < 0 ∨ (spz y v l1 && spz u v l2) = false
        · rw [sp_copy_idx (d := 56) hc4 he4 c1 e1 hl1 hl2 (by rw [c3]; exact neq m1) (by rw [e3]; exact neq m2) (by rw [c3, e3]; exact hq) hx, sm_copy_idx (d := 56) hc4 he4 c2 e2 hl1 hl2 m1 m2 hq hx]
          exact po hJ
        · have hv0 : ¬ v < 0 := fun g => hx (Or.inl g)
          have hsp : (spz y v l1 && spz u v l2) = true := by
            cases g : (spz y v l1 && spz u v l2) with
            | true => rfl
            | false => exact absurd (Or.inr g) hx
          rw [Bool.and_eq_true] at hsp
          obtain ⟨j1, n, rfl, rfl, g1⟩ := spz_of hv0 hsp.1 hl1
          obtain ⟨j2, n', rfl, en, g2⟩ := spz_of hv0 hsp.2 hl2
          have hnn : n = n' := (nI_eq (by omega) (by omega)).1 en
          subst hnn
          rw [sp_copy (d := 56) hc4 he4 c1 e1 hl1 hl2 (by rw [c3]; exact neq m1) (by rw [e3]; exact neq m2) (by rw [c3, e3]; exact hq) g1 g2]
          generalize hA : am_row a (120 + 2 * e) (va_cpy (a (120 + 2 * c)) (a (120 + 2 * e)) j1 j2 n) = A
          have eA : ∀ k, k ≠ 120 + 2 * e → A k = a k := fun k hk => by rw [← hA, ar_d hk]
          rw [sm_copy (d := 56) hc4 he4 (by rw [eA 160 (by omega)]; exact c2) (by rw [eA 160 (by omega)]; exact e2) hl1 hl2 (by rw [eA 159 (by omega)]; exact m1) (by rw [eA 159 (by omega)]; exact m2) (by rw [eA 159 (by omega)]; exact hq) g1 g2, eA 161 (by omega), eA 162 (by omega)]
          generalize hB : am_row (am_row A 162 (cpf (fun k => a 161 (32 * c + j1 + k)) (a 162) n)) 161 (cpo (fun x => a 161 (32 * c + j1 + (x - (32 * e + j2)))) (a 161) (32 * e + j2) n) = B
          have eB : ∀ k, k ≠ 120 + 2 * e → k ≠ 161 → k ≠ 162 → B k = a k := fun k h1 h2 h3 => by rw [← hB, ar_d h2, ar_d h3]; exact eA k h1
          have b161 : ∀ i, B 161 i = if 32 * e + j2 ≤ i ∧ i < 32 * e + j2 + n then a 161 (32 * c + j1 + (i - (32 * e + j2))) else a 161 i := fun i => by rw [← hB, ar_s]; rfl
          have b120 : ∀ i, B (120 + 2 * e) i = if j2 ≤ i ∧ i < j2 + n then a (120 + 2 * c) (j1 + (i - j2)) else a (120 + 2 * e) i := fun i => by rw [← hB, ar_d (by omega), ar_d (by omega), ← hA, ar_s]; rfl
          refine po (hJ.sh (fun c' hc' => ?_) (fun k h1 h2 => eB k (by omega) (by omega) (by omega)))
          obtain ⟨w1, w2, w3, w4, w5⟩ := hH c' hc'
          obtain ⟨_, _, _, _, v5⟩ := hH c hc4
          unfold JH1
          rw [eB (119 + 2 * c') (by omega) (by omega) (by omega), eB 159 (by omega) (by omega) (by omega), eB 160 (by omega) (by omega) (by omega)]
          refine ⟨w1, w2, w3, w4, fun i hi => ?_⟩
          rw [b161]
          by_cases ce : c' = e
          · subst ce
            rw [b120]
            by_cases ci : j2 ≤ i ∧ i < j2 + n
            · rw [if_pos ci, if_pos (by omega), v5 _ (by omega)]
              congr 1
              omega
            · rw [if_neg ci, if_neg (by omega)]; exact w5 i hi
          · rw [eB (120 + 2 * c') (by omega) (by omega) (by omega), if_neg (by omega)]; exact w5 i hi
      · rw [sp_copy_cast (d := 56) hc4 he4 (by rw [c3]; exact neq m1) (by rw [e3]; exact neq m2) (by rw [c3, e3]; exact hq), sm_copy_cast (d := 56) hc4 he4 m1 m2 hq]
        exact po hJ
end KPd
