/-! calls that change the town -/
section KP5
variable {L : Nat} {b : Bool} {a a' : Nat → Nat → Int32} {x y z u v w : Int32}
/-- only the town's rows have changed -/
theorem J.town (h : J a b) (hT : ∃ E, JT a' E) (e : ∀ c, 25 ≤ c → c ≠ 127 → c ≠ 128 → c ≠ 129 → c ≠ 136 → a' c = a c) (e12 : a' 12 = a 12) (e127 : ∀ j, j ≠ 0 → a' 127 j = a 127 j) : J a' b := by
  obtain ⟨_, hS, hN, hP, hR, hX, hG, hH⟩ := h
  exact ⟨hT, JSfr hS (fun c hc => e c (by omega) (by omega) (by omega) (by omega) (by omega)) (by rw [e12]) (e127 4 (by decide)), JNfr hN (by rw [e12]) (e127 3 (by decide)), JPfr hP (fun c hc => e c (by omega) (by omega) (by omega) (by omega) (by omega)), JRfr hR (fun c hc => e c (by omega) (by omega) (by omega) (by omega) (by omega)) (e127 41 (by decide)), JXfr hX (fun c hc => e c (by omega) (by omega) (by omega) (by omega) (by omega)) (by rw [e 33 (by omega) (by omega) (by omega) (by omega) (by omega)]) (e127 24 (by decide)), JGfr hG (fun c hc => e c (by omega) (by omega) (by omega) (by omega) (by omega)) (e127 28 (by decide)) (e127 29 (by decide)), JHfr hH (fun c hc => e c (by omega) (by omega) (by omega) (by omega) (by omega))⟩
theorem upd_s {f : Nat → Int32} {j : Nat} {y : Int32} : upd f j y j = y := by simp [upd]
theorem upd_d {f : Nat → Int32} {j i : Nat} {y : Int32} (h : i ≠ j) : upd f j y i = f i := by simp [upd, h]
theorem keep_weight : KEEP L 80 143 [.int x, .int y] := by
  intro a b hJ
  cases hc : (win x 9 && win y 9) with
  | false =>
    rw [sp_weight_bad (d := 58) hc, sm_weight_bad (d := 57) hc]
    exact po hJ
  | true =>
    rw [Bool.and_eq_true] at hc
    obtain ⟨j, hj, rfl⟩ := win_of (n := 9) hc.1 (by decide)
    obtain ⟨k, hk, rfl⟩ := win_of (n := 9) hc.2 (by decide)
    obtain ⟨⟨E, t1, t2, t3, t4, t5⟩, _⟩ := id hJ
    rw [sp_weight (d := 58) (by omega) hc.2, sm_weight (d := 57) (by omega) hc.2, au_d (show (136 : Nat) ≠ 20 by decide)]
    refine po' (hJ.town ⟨(E.n, E.tr, E.hb, E.rd, E.fe, E.dt, upd E.wt j (nI k), E.pl), t1, ?_, ?_, ?_, ?_⟩ (fun c h1 h2 h3 h4 h5 => by rw [au_d h5, au_d (by omega)]) (by rw [au_d (by decide), au_d (by decide)]) (fun i hi => by rw [au_d (by decide), au_d (by decide)])) ?_
    · have e : ∀ c, c ≠ 20 → c ≠ 136 → am_up (am_up a 20 j (nI k)) 136 j (nI k) c = a c := fun c h1 h2 => by rw [au_d h2, au_d h1]
      obtain ⟨u1, u2, u3, u4, u5, u6, u7, u8, u9⟩ := t2
      refine ⟨OLD_low u1 (fun c hc => e c (by omega) (by omega)), by rw [e 13 (by decide) (by decide)]; exact u2, by rw [e 15 (by decide) (by decide)]; exact u3, by rw [e 16 (by decide) (by decide)]; exact u4, by rw [e 17 (by decide) (by decide)]; exact u5, by rw [e 18 (by decide) (by decide)]; exact u6, by rw [e 19 (by decide) (by decide)]; exact u7, fun i hi => ?_, fun i hi p hp => by rw [e (22 + i) (by omega) (by omega)]; exact u9 i hi p hp⟩
      show _ = upd E.wt j (nI k) i
      rw [au_d (by decide)]
      by_cases c : i = j
      · subst c; rw [au_ss, upd_s]
      · rw [au_sd c, upd_d c]; exact u8 i hi
    · have e : ∀ c, c ≠ 20 → c ≠ 136 → am_up (am_up a 20 j (nI k)) 136 j (nI k) c = a c := fun c h1 h2 => by rw [au_d h2, au_d h1]
      obtain ⟨v1, v2, v3, v4, v5, v6, v7, v8⟩ := t3
      refine ⟨by rw [e 127 (by decide) (by decide)]; exact v1, by rw [e 129 (by decide) (by decide)]; exact v2, by rw [e 129 (by decide) (by decide)]; exact v3, by rw [e 129 (by decide) (by decide)]; exact v4, by rw [e 129 (by decide) (by decide)]; exact v5, by rw [e 129 (by decide) (by decide)]; exact v6, fun i hi => ?_, by rw [e 128 (by decide) (by decide)]; exact v8⟩
      show _ = upd E.wt j (nI k) i
      by_cases c : i = j
      · subst c; rw [au_ss, upd_s]
      · rw [au_sd c, upd_d c, au_d (by decide)]; exact v7 i hi
    · intro i hi
      show ∃ k', k' ≤ 9 ∧ upd E.wt j (nI k) i = nI k'
      by_cases c : i = j
      · subst c; rw [upd_s]; exact ⟨k, hk, rfl⟩
      · rw [upd_d c]; exact t4 i hi
    · intro p h1 h2
      rw [au_d (by decide), au_d (by decide), au_d (by decide), au_d (by decide)]
      exact t5 p h1 h2
    · rw [t2.wt j (by omega), t3.wt j (by omega)]
end KP5
