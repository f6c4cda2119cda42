/-! deny, hours keep J -/
section KPa
variable {L : Nat} {b : Bool} {a a' : Nat → Nat → Int32} {x y z u v w : Int32} {E : ENV} {t : Int32} {S S' : Nat → PS}
theorem hourF_16 (hn : E.n ≤ 16) (h : ∀ p, p < 16 → S p = S' p) : ∀ p, p < 16 → hourF E t S p = hourF E t S' p := fun p hp => by
  have hq : EQn E.n S S' := EQn.of (fun q hq => h q (by omega))
  unfold hourF
  by_cases c : p < E.n
  · rw [if_pos c, if_pos c]
    unfold hourP
    rw [ctn_cong (f := telF E t S p) (g := telF E t S' p) (fun i hi => tel_cong hq hi), lst_cong (f := telF E t S p) (g := telF E t S' p) (fun i hi => tel_cong hq hi), h p hp]
    by_cases c0 : ctn (telF E t S' p) E.n = 0
    · rw [if_pos c0, if_pos c0]
    · rw [if_neg c0, if_neg c0, h (lst (telF E t S' p) E.n) (by have := (lst_yes (f := telF E t S' p) (n := E.n) (by omega)).1; omega)]
  · rw [if_neg c, if_neg c, h p hp]
theorem itH_16 (hn : E.n ≤ 16) (h : ∀ p, p < 16 → S p = S' p) : ∀ k p, p < 16 → itH E t S k p = itH E t S' k p
  | 0, p, hp => h p hp
  | k + 1, p, hp => hourF_16 hn (itH_16 hn h k) p hp
theorem okP_hour (hE : EOK E) (h : ∀ p, p < 16 → okP (S p)) : ∀ p, p < 16 → okP (hourF E t S p) := fun p hp => by
  have hn := hE.n
  by_cases c : p < E.n
  · have hG : GV S E.n := fun q hq h0 => (h q (by omega)).2 h0
    have hS : ST S E.n := fun q hq => (h q (by omega)).1
    exact ⟨ST_hour hS p c, fun h0 => GV_hour hE hG p c h0⟩
  · have : hourF E t S p = S p := by unfold hourF; rw [if_neg c]
    rw [this]; exact h p hp
theorem okP_it (hE : EOK E) (h : ∀ p, p < 16 → okP (S p)) : ∀ k p, p < 16 → okP (itH E t S k p)
  | 0, p, hp => h p hp
  | k + 1, p, hp => okP_hour hE (okP_it hE h k) p hp
theorem keep_hours : KEEP L 84 153 [.int x] := by
  intro a b hJ
  obtain ⟨E, m, t, hE, hC, hM, hW, ⟨s1, s2, s3, s4, s5, s6⟩, ⟨n1, n2, n3⟩, hGc, hGm, hEq⟩ := hJ.fx
  have hn := hE.n
  have hP := hJ.2.2.2.1
  cases hc : win2 x 1 96 with
  | false =>
    rw [sp_hours_bad (d := 54) hc, sm_hours_bad (d := 54) hc]
    exact po hJ
  | true =>
    have h14 : ¬ x < 1 ∧ ¬ 96 < x := of_decide_eq_true hc
    have hy0 : ¬ x < 0 := fun h => h14.1 (Int32.lt_trans h (by decide))
    obtain ⟨k, hk, rfl⟩ := nI_of hy0
    have g1 : 1 ≤ k := Classical.byContradiction (fun h => h14.1 (nI_lt (b := 1) (by omega) (by decide)))
    have g4 : k ≤ 96 := Classical.byContradiction (fun h => h14.2 (nI_lt (a := 96) (by omega) hk))
    by_cases ht : 9999 < nI t + nI k
    · rw [sp_hours_not (d := 54) g1 g4 (by rw [n1]; exact ht), sm_hours_not (d := 54) g1 g4 (by rw [n2]; exact ht)]
      exact po hJ
    · have htk : t + k ≤ 9999 := by
        rw [nI_add] at ht
        exact Classical.byContradiction (fun h => ht (nI_lt (a := 9999) (by omega) (by omega)))
      refine sp_hours (d := 54) hE hC s1 s3 (fun s hs => hGc s (by omega)) g1 g4 (by rw [n1]; exact ht) (fun a1 z1 => ?_)
      rw [n1] at z1 ⊢
      generalize hA : am_up a1 12 11 (nI t + nI k) = A
      have eA : ∀ c, c ≠ 12 → c ≠ 25 → (c < 64 ∨ 119 ≤ c ∨ (c - 63) % 7 = 0) → A c = a c := fun c h1 h2 h3 => by rw [← hA, au_d h1]; exact z1.1 c h2 h3
      have eA12 : ∀ j, j ≠ 11 → A 12 j = a 12 j := fun j hj => by rw [← hA, au_sd hj, z1.1 12 (by decide) (by omega)]
      have eA11 : A 12 11 = nI (t + k) := by rw [← hA, au_ss, nI_add]
      have egA : ∀ s, s < 8 → got A (64 + 7 * s) = if s < m then itH E (nI t) (got a (64 + 7 * s)) k else got a (64 + 7 * s) := fun s hs => by
        have : got A (64 + 7 * s) = got a1 (64 + 7 * s) := by
          funext p
          rw [← hA]
          unfold got
          rw [au_d (by omega), au_d (by omega), au_d (by omega), au_d (by omega), au_d (by omega)]
        rw [this, z1.2 s hs]
      have eM : ∀ c, 127 ≤ c → A c = a c := fun c hc => eA c (by omega) (by omega) (by omega)
      have key := sm_hours (d := 54) (L := L) (b := b) (a := A) (M := gm A) (k := k) (E := E) (m := m) (Q := PO L (some (.int (nI t + nI k)))) hE (hM.M eM) (by rw [eM 127 (by omega)]; exact s2) s3 (by rw [gm_M eM]; exact fun s hs => hGm s (by omega)) g1 g4 (by rw [eM 127 (by omega), n2]; exact ht) (fun a2 c1 c2 => by
        rw [eM 127 (by omega), n2] at c2 ⊢
        rw [gm_M eM]
        have eB : ∀ c, c ≠ 12 → c ≠ 25 → c ≠ 127 → (c < 64 ∨ 119 ≤ c ∨ (c - 63) % 7 = 0) → (c < 137 ∨ 144 < c) → pm a2 (itM E (nI t) m (gm a) k) c = a c := fun c h1 h2 h3 h4 h5 => by
          rw [pm_o (by omega), c1.1 c (by omega)]
          exact eA c h1 h2 h4
        have e127 : ∀ j, j ≠ 3 → pm a2 (itM E (nI t) m (gm a) k) 127 j = a 127 j := fun j hj => by rw [pm_o (by omega), c1.2 j hj, eM 127 (by omega)]
        have e12 : pm a2 (itM E (nI t) m (gm a) k) 12 = A 12 := by rw [pm_o (by omega), c1.1 12 (by omega)]
        obtain ⟨hT, hS, hN, _, hR, hX, hG, hH⟩ := id hJ
        refine po ⟨JTfr hT (fun c hc => eB c (by omega) (by omega) (by omega) (by omega) (by omega)) (e127 0 (by decide)), JSfr hS (fun c hc => eB c (by omega) (by omega) (by omega) (by omega) (by omega)) (by rw [e12]; exact eA12 10 (by decide)) (e127 4 (by decide)), ⟨t + k, by rw [e12]; exact eA11, by rw [pm_o (by omega), c2, nI_add], htk⟩, fun s hs p hp => ?_, JRfr hR (fun c hc => eB c (by omega) (by omega) (by omega) (by omega) (by omega)) (e127 41 (by decide)), JXfr hX (fun c hc => eB c (by omega) (by omega) (by omega) (by omega) (by omega)) (by rw [eB 33 (by omega) (by omega) (by omega) (by omega) (by omega)]) (e127 24 (by decide)), JGfr hG (fun c hc => eB c (by omega) (by omega) (by omega) (by omega) (by omega)) (e127 28 (by decide)) (e127 29 (by decide)), JHfr hH (fun c hc => eB c (by omega) (by omega) (by omega) (by omega) (by omega))⟩
        have ea2 : got a2 (64 + 7 * s) = got A (64 + 7 * s) := by
          funext p
          unfold got
          rw [c1.1 _ (by omega), c1.1 _ (by omega), c1.1 _ (by omega), c1.1 _ (by omega), c1.1 _ (by omega)]
        rw [gm_pm hs, got_pm (by omega), ea2, egA s hs]
        unfold itM
        have h16 : ∀ p, p < 16 → got a (64 + 7 * s) p = gm a s p := fun p hp => (hP s hs p hp).1
        have hok : ∀ p, p < 16 → okP (gm a s p) := fun p hp => (hP s hs p hp).2
        by_cases c : s < m
        · rw [if_pos c, if_pos c]
          exact ⟨itH_16 hn h16 k p hp, okP_it hE hok k p hp⟩
        · rw [if_neg c, if_neg c]
          exact hP s hs p hp)
      rw [pm_gm] at key
      exact key
theorem prtF_16 {pa : Int32} {w : Nat} (h : ∀ p, p < 16 → S p = S' p) : ∀ p, p < 16 → prtF E t pa w S p = prtF E t pa w S' p := fun p hp => by
  unfold prtF
  by_cases c : p < E.n
  · rw [if_pos c, if_pos c]
    unfold prtP rdF
    rw [h p hp]
  · rw [if_neg c, if_neg c, h p hp]
theorem okP_prt {vv w : Nat} (hn : E.n ≤ 16) (hv : vv < 10000) (h : ∀ p, p < 16 → okP (S p)) : ∀ p, p < 16 → okP (prtF E t (nI vv) w S p) := fun p hp => by
  by_cases c : p < E.n
  · have hG : GV S E.n := fun q hq h0 => (h q (by omega)).2 h0
    have hS : ST S E.n := fun q hq => (h q (by omega)).1
    exact ⟨ST_prt hS p c, fun h0 => GV_prt hv hG p c h0⟩
  · have : prtF E t (nI vv) w S p = S p := by unfold prtF; rw [if_neg c]
    rw [this]; exact h p hp
theorem keep_deny : KEEP L 87 160 [.int x, .int y] := by
  intro a b hJ
  obtain ⟨E, m, t, hE, hC, hM, hW, ⟨s1, s2, s3, s4, s5, s6⟩, ⟨n1, n2, n3⟩, hGc, hGm, hEq⟩ := hJ.fx
  have hn := hE.n
  have hP := hJ.2.2.2.1
  cases hc : (win x (nI m - 1) && win y 2) with
  | false =>
    rw [sp_deny_bad (d := 56) (by rw [s1]; exact hc), sm_deny_bad (d := 56) (by rw [s2]; exact hc)]
    exact po hJ
  | true =>
    rw [Bool.and_eq_true] at hc
    obtain ⟨s, hs, rfl⟩ := win_ix (by omega) hc.1
    obtain ⟨w, hw, rfl⟩ := win_of (n := 2) hc.2 (by decide)
    obtain ⟨q1, q2, q3, q4, q5, q6⟩ := s4 s hs
    obtain ⟨vv, hv, ev⟩ := s6 s (by omega)
    have e6 := s5 s (by omega)
    rw [if_pos hs] at e6
    by_cases hk : a 130 s = 3 ∧ a 134 s = 0
    · have hk2 : ¬ (¬ a 130 s = 3 ∨ a 134 s = 1) := fun h => h.elim (fun h => h hk.1) (fun h => by rw [hk.2] at h; exact absurd h (by decide))
      rw [sp_deny_not (d := 56) s1 s3 hs (by omega) ⟨by rw [q1]; exact hk.1, by rw [q5 hk.1]; exact hk.2⟩, sm_deny_not (d := 56) s2 s3 hs (by omega) q6 hk2]
      exact po hJ
    · have hk1 : ¬ (a (63 + 7 * s) 1 = 3 ∧ a (63 + 7 * s) 5 = 0) := fun h => by
        rw [q1] at h
        rw [q5 h.1] at h
        exact hk h
      have hk2 : ¬ a 130 s = 3 ∨ a 134 s = 1 := by
        by_cases h3 : a 130 s = 3
        · exact Or.inr (q6.resolve_left (fun h => hk ⟨h3, h⟩))
        · exact Or.inl h3
      rw [sp_deny (d := 56) hE hC s1 s3 hs (by omega) hk1, n1, q2, ev, e6]
      generalize hA : put (am_up a (63 + 7 * s) 6 (a 135 s + 1)) (64 + 7 * s) (prtF E (nI t) (nI vv) w (got a (64 + 7 * s))) = A
      have eA : ∀ c, c ≠ 63 + 7 * s → (c ≤ 64 + 7 * s ∨ 64 + 7 * s + 5 < c) → A c = a c := fun c h1 h2 => by rw [← hA, put_o h2, au_d h1]
      have eAs : ∀ j, A (63 + 7 * s) j = if j = 6 then a 135 s + 1 else a (63 + 7 * s) j := fun j => by rw [← hA, put_o (by omega), au_k]
      have eM : ∀ c, 127 ≤ c → A c = a c := fun c hc => eA c (by omega) (by omega)
      have key := sm_deny (d := 56) (L := L) (b := b) (a := A) (M := gm A) (w := w) (s := s) (Q := PO L (some (.int (nI (ctn (trnF E (nI t) (nI vv) w (got a (64 + 7 * s))) E.n))))) hE (hM.M eM) (by rw [eM 127 (by omega)]; exact s2) s3 hs (by omega) (by rw [gm_M eM]; exact (hGm s (by omega)).2) (by rw [eM 134 (by omega)]; exact q6) (by rw [eM 130 (by omega), eM 134 (by omega)]; exact hk2)
      rw [pm_gm, gm_M eM, eM 127 (by omega), eM 131 (by omega), eM 135 (by omega), n2, ev] at key
      rw [key]
      generalize hB : pm (am_up A 135 s (a 135 s + 1)) (setM (gm a) s (prtF E (nI t) (nI vv) w (gm a s))) = B
      have eB : ∀ c, c ≠ 63 + 7 * s → c ≠ 135 → (c ≤ 64 + 7 * s ∨ 64 + 7 * s + 5 < c) → (c < 137 ∨ 141 < c) → B c = a c := fun c h1 h2 h3 h4 => by rw [← hB, pm_o h4, au_d h2]; exact eA c h1 h3
      have e127 : B 127 = a 127 := eB 127 (by omega) (by omega) (by omega) (by omega)
      have e12 : B 12 = a 12 := eB 12 (by omega) (by omega) (by omega) (by omega)
      have eBs : ∀ j, B (63 + 7 * s) j = if j = 6 then a 135 s + 1 else a (63 + 7 * s) j := fun j => by rw [← hB, pm_o (by omega), au_d (by omega)]; exact eAs j
      have eB135 : ∀ i, B 135 i = if i = s then a 135 s + 1 else a 135 i := fun i => by rw [← hB, pm_o (by omega), au_k, eM 135 (by omega)]
      obtain ⟨hT, _, hN, _, hR, hX, hG, hH⟩ := id hJ
      have eBo : ∀ s', s' ≠ s → s' < 8 → B (63 + 7 * s') = a (63 + 7 * s') := fun s' h1 h2 => eB _ (by omega) (by omega) (by omega) (by omega)
      refine po' ⟨JTfr hT (fun c hc => eB c (by omega) (by omega) (by omega) (by omega)) (by rw [e127]), ⟨m, by rw [e12]; exact s1, by rw [e127]; exact s2, s3, fun s' hs' => ?_, fun s' hs' => ?_, fun s' hs' => by rw [eB 131 (by omega) (by omega) (by omega) (by omega)]; exact s6 s' hs'⟩, JNfr hN (by rw [e12]) (by rw [e127]), fun s' hs' p' hp' => ?_, JRfr hR (fun c hc => eB c (by omega) (by omega) (by omega) (by omega)) (by rw [e127]), JXfr hX (fun c hc => eB c (by omega) (by omega) (by omega) (by omega)) (by rw [eB 33 (by omega) (by omega) (by omega) (by omega)]) (by rw [e127]), JGfr hG (fun c hc => eB c (by omega) (by omega) (by omega) (by omega)) (by rw [e127]) (by rw [e127]), JHfr hH (fun c hc => eB c (by omega) (by omega) (by omega) (by omega))⟩ ?_
      · have q := s4 s' hs'
        unfold JS1 at q ⊢
        rw [eB 130 (by omega) (by omega) (by omega) (by omega), eB 131 (by omega) (by omega) (by omega) (by omega), eB 132 (by omega) (by omega) (by omega) (by omega), eB 133 (by omega) (by omega) (by omega) (by omega), eB 134 (by omega) (by omega) (by omega) (by omega)]
        by_cases c : s' = s
        · subst c
          rw [eBs, eBs, eBs, eBs, eBs, if_neg (by decide), if_neg (by decide), if_neg (by decide), if_neg (by decide), if_neg (by decide)]
          exact q
        · rw [eBo s' c (by omega)]; exact q
      · rw [eB135]
        by_cases c : s' = s
        · subst c; rw [eBs, if_pos rfl, if_pos hs, if_pos rfl]
        · rw [eBo s' c hs', if_neg c]; exact s5 s' hs'
      · have h16 : ∀ p, p < 16 → got a (64 + 7 * s') p = gm a s' p := fun p hp => (hP s' hs' p hp).1
        have hok : ∀ p, p < 16 → okP (gm a s' p) := fun p hp => (hP s' hs' p hp).2
        have e1 : gm B s' p' = setM (gm a) s (prtF E (nI t) (nI vv) w (gm a s)) s' p' := by rw [← hB]; exact gm_pm hs'
        have e2 : got B (64 + 7 * s') p' = got A (64 + 7 * s') p' := by
          rw [← hB, got_pm (by omega)]
          unfold got
          rw [au_d (by omega), au_d (by omega), au_d (by omega), au_d (by omega), au_d (by omega)]
        rw [e1, e2]
        by_cases c : s' = s
        · subst c
          rw [setM_s, ← hA, got_put]
          exact ⟨prtF_16 h16 p' hp', okP_prt hn hv hok p' hp'⟩
        · have e3 : setM (gm a) s (prtF E (nI t) (nI vv) w (gm a s)) s' = gm a s' := by unfold setM; rw [if_neg c]
          have e4 : got A (64 + 7 * s') p' = got a (64 + 7 * s') p' := by
            unfold got
            rw [eA _ (by omega) (by omega), eA _ (by omega) (by omega), eA _ (by omega) (by omega), eA _ (by omega) (by omega), eA _ (by omega) (by omega)]
          rw [e3, e4]
          exact hP s' hs' p' hp'
      · rw [ctn_cong (f := trnF E (nI t) (nI vv) w (gm a s)) (g := trnF E (nI t) (nI vv) w (got a (64 + 7 * s))) (fun p hp => by
          unfold trnF prtP rdF
          rw [(hP s (by omega) p (by omega)).1])]
end KPa
