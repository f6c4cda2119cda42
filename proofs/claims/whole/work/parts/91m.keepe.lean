/-! report keeps J -/
section KPe
variable {L : Nat} {b : Bool} {a a' : Nat → Nat → Int32} {x y z u v w : Int32}
theorem lqF_cong {pl hr pl' hr' : Nat → Nat} {td td' : Nat → Bool} {zz : Bool} {h p : Nat} : ∀ R, (∀ r, r < R → pl r = pl' r ∧ hr r = hr' r ∧ td r = td' r) → lqF pl hr td zz h p R = lqF pl' hr' td' zz h p R
  | 0, _ => rfl
  | R + 1, e => by
    unfold lqF
    rw [lqF_cong R (fun r hr => e r (by omega)), (e R (by omega)).1, (e R (by omega)).2.1, (e R (by omega)).2.2]
theorem keep_report {zz : Bool} : KEEP L 98 184 [.int x, .int y, .int (bi zz)] := by
  intro a b hJ
  obtain ⟨pl, hr, td, R, l, r1, r2, r3, r4, r5, r6, r7⟩ := hJ.2.2.2.2.1
  cases hc : (win x 5 && win y 23) with
  | false =>
    rw [sp_report_bad (d := 57) hc, sm_report_bad (d := 57) hc]
    exact po hJ
  | true =>
    rw [Bool.and_eq_true] at hc
    by_cases hR : R < 12
    · obtain ⟨p, hp, rfl⟩ := win_of (n := 5) hc.1 (by decide)
      obtain ⟨h, hh, rfl⟩ := win_of (n := 23) hc.2 (by decide)
      rw [sp_report (d := 57) r4 hR (by omega) (by omega)]
      generalize hA : am_up (am_up (am_up a (rpr zz) h (a (rpr zz) h ||| nI (2 ^ p))) 39 1 (if a 39 1 < nI h then nI h else a 39 1)) 39 0 (nI (R + 1)) = A
      have hz : rpr zz = 40 ∨ rpr zz = 41 := by cases zz <;> simp [rpr]
      have eA : ∀ c, c ≠ 39 → c ≠ 40 → c ≠ 41 → A c = a c := fun c h1 h2 h3 => by rw [← hA, au_d h1, au_d h1, au_d (by omega)]
      have eAz : ∀ z0 h', A (rpr z0) h' = if z0 = zz ∧ h' = h then a (rpr zz) h ||| nI (2 ^ p) else a (rpr z0) h' := fun z0 h' => by
        have hz0 : rpr z0 = 40 ∨ rpr z0 = 41 := by cases z0 <;> simp [rpr]
        rw [← hA, au_d (by omega), au_d (by omega)]
        by_cases c : z0 = zz
        · subst c
          rw [au_k]
          by_cases c2 : h' = h
          · rw [if_pos c2, if_pos ⟨rfl, c2⟩]
          · rw [if_neg c2, if_neg (fun g => c2 g.2)]
        · have hne : rpr z0 ≠ rpr zz := by cases z0 <;> cases zz <;> simp [rpr] at c ⊢
          rw [au_d hne, if_neg (fun g => c g.1)]
      rw [sm_report (d := 57) (by rw [eA 127 (by decide) (by decide) (by decide)]; exact r2.1) hR hc.1 hc.2]
      generalize hB : am_up (am_up (am_up (am_up A 155 R (nI p)) 156 R (nI h)) 157 R (bi zz)) 127 41 (nI (R + 1)) = B
      have eB : ∀ c, c ≠ 127 → (c < 155 ∨ 157 < c) → B c = A c := fun c h1 h2 => by rw [← hB, au_d h1, au_d (by omega), au_d (by omega), au_d (by omega)]
      have key : ∀ z0 h', h' < 24 → a (rpr z0) h' = nI (mk (fun p => lqF pl hr td z0 h' p R) 6) → B (rpr z0) h' = nI (mk (fun p' => lqF (fun r => if r = R then p else pl r) (fun r => if r = R then h else hr r) (fun r => if r = R then zz else td r) z0 h' p' (R + 1)) 6) := fun z0 h' hh' e0 => by
        have hz0 : rpr z0 = 40 ∨ rpr z0 = 41 := by cases z0 <;> simp [rpr]
        have el : ∀ p', lqF (fun r => if r = R then p else pl r) (fun r => if r = R then h else hr r) (fun r => if r = R then zz else td r) z0 h' p' (R + 1) = (lqF pl hr td z0 h' p' R || (decide (h = h') && (decide (p = p') && decide (zz = z0)))) := fun p' => by
          rw [lqF, lqF_cong (pl' := pl) (hr' := hr) (td' := td) R (fun r hr => by simp only [if_neg (show r ≠ R by omega)]; exact ⟨trivial, trivial, trivial⟩)]
          simp only [if_true]
        rw [eB _ (by omega) (by omega), eAz]
        by_cases c : z0 = zz ∧ h' = h
        · obtain ⟨rfl, rfl⟩ := c
          rw [if_pos ⟨rfl, rfl⟩, e0, nI_or, mk_set _ (by omega)]
          congr 1
          refine mk_cong (fun i hi => ?_)
          rw [el i, decide_eq_true rfl, decide_eq_true rfl, Bool.true_and, Bool.and_true]
          congr 1
          by_cases ci : i = p
          · rw [decide_eq_true ci, decide_eq_true ci.symm]
          · rw [decide_eq_false ci, decide_eq_false (fun g => ci g.symm)]
        · rw [if_neg c, e0]
          congr 1
          refine mk_cong (fun i hi => ?_)
          rw [el i]
          have : (decide (h = h') && (decide (p = i) && decide (zz = z0))) = false := by
            by_cases c1 : h = h'
            · have c2 : ¬ zz = z0 := fun g => c ⟨g.symm, c1.symm⟩
              rw [decide_eq_false c2, Bool.and_false, Bool.and_false]
            · rw [decide_eq_false c1, Bool.false_and]
          rw [this, Bool.or_false]
      refine po (hJ.rep ⟨fun r => if r = R then p else pl r, fun r => if r = R then h else hr r, fun r => if r = R then zz else td r, R + 1, if l ≤ h then h + 1 else l, fun h' hh' => ⟨key true h' hh' (r1 h' hh').1, key false h' hh' (r1 h' hh').2⟩, ⟨by rw [← hB, au_ss], fun r hr1 => ?_⟩, hR, ?_, fun r hr1 => ?_, by split <;> omega, fun t ht => ?_⟩ (fun c h1 h2 h3 h4 h5 => by rw [eB c h4 h5]; exact eA c h1 h2 h3) (fun j hj => ?_))
      · have e5 : ∀ c, (c = 155 ∨ c = 156 ∨ c = 157) → A c = a c := fun c hc => eA c (by omega) (by omega) (by omega)
        rw [← hB, au_d (show (155 : Nat) ≠ 127 by decide), au_d (show (155 : Nat) ≠ 157 by decide), au_d (show (155 : Nat) ≠ 156 by decide), au_k, au_d (show (156 : Nat) ≠ 127 by decide), au_d (show (156 : Nat) ≠ 157 by decide), au_k, au_d (show (156 : Nat) ≠ 155 by decide), au_d (show (157 : Nat) ≠ 127 by decide), au_k, au_d (show (157 : Nat) ≠ 156 by decide), au_d (show (157 : Nat) ≠ 155 by decide), e5 155 (by omega), e5 156 (by omega), e5 157 (by omega)]
        by_cases c : r = R
        · simp only [if_pos c]; exact ⟨trivial, trivial, trivial⟩
        · simp only [if_neg c]; exact r2.2 r (by omega)
      · rw [eB 39 (by decide) (by omega), ← hA, au_ss]
      · by_cases c : r = R
        · simp only [if_pos c]
          refine ⟨by omega, ?_⟩
          split <;> omega
        · simp only [if_neg c]
          have q := r5 r (by omega)
          refine ⟨q.1, ?_⟩
          split <;> omega
      · rw [eB 39 (by decide) (by omega), ← hA, au_sd (by decide), au_ss]
        have e7 := r7 h (by omega)
        by_cases c : l ≤ h
        · have c' : a 39 1 < nI h := by rw [e7]; exact c
          rw [if_pos c', if_pos c]
          exact propext ⟨fun g => by have := (nI_ltI (by omega) (by omega)).1 g; omega, fun g => nI_lt (by omega) (by omega)⟩
        · have c' : ¬ a 39 1 < nI h := by rw [e7]; exact c
          rw [if_neg c', if_neg c]
          exact r7 t ht
      · rw [← hB, au_sd hj, au_d (by decide), au_d (by decide), au_d (by decide), eA 127 (by decide) (by decide) (by decide)]
    · have : R = 12 := by omega
      subst this
      rw [sp_report_full (d := 57) r4 hc.1 hc.2, sm_report_full (d := 57) r2.1 hc.1 hc.2]
      exact po hJ
end KPe
