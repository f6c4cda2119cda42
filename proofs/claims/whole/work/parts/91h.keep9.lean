/-! changed, begin, deny, hours keep J -/
section KP9
variable {L : Nat} {b : Bool} {a a' : Nat → Nat → Int32} {x y z u v w : Int32}
theorem chg_nI {w k j : Nat} (hw : w < 10000) (hk : k ≤ 9) (hj : j < 4) : ∃ vv : Nat, vv < 10000 ∧ nI w + (nI k - dg (nI w) j) * un j = nI vv := by
  rw [dg_nI hw, un_nI]
  have hle : w / unN j % 10 * unN j ≤ w := by
    have h1 : w / unN j % 10 ≤ w / unN j := Nat.mod_le _ _
    exact Nat.le_trans (Nat.mul_le_mul_right _ h1) (Nat.div_mul_le_self _ _)
  refine ⟨w + k * unN j - w / unN j % 10 * unN j, ?_, ?_⟩
  · rcases (show j = 0 ∨ j = 1 ∨ j = 2 ∨ j = 3 by omega) with rfl | rfl | rfl | rfl
    · show w + k * 1000 - w / 1000 % 10 * 1000 < 10000; omega
    · show w + k * 100 - w / 100 % 10 * 100 < 10000; omega
    · show w + k * 10 - w / 10 % 10 * 10 < 10000; omega
    · show w + k * 1 - w / 1 % 10 * 1 < 10000; omega
  · rw [Int32.sub_mul, pk_mul, pk_mul, Int32.sub_eq_add_neg, ← Int32.add_assoc, nI_add, ← Int32.sub_eq_add_neg, pk_sub (by omega)]
theorem keep_changed : KEEP L 76 139 [.int x, .int y, .int z] := by
  intro a b hJ
  obtain ⟨n, hTN⟩ := hJ.tn
  have hO := hTN.2.1
  obtain ⟨m, hm⟩ := hJ.2.1
  obtain ⟨s1, s2, s3, s4, s5, s6⟩ := id hm
  cases hc : (win x (nI m - 1) && (win2 y 1 4 && win z 9)) with
  | false =>
    rw [sp_changed_bad (d := 56) (by rw [s1]; exact hc), sm_changed_bad (d := 56) (by rw [s2]; exact hc)]
    exact po hJ
  | true =>
    rw [Bool.and_eq_true, Bool.and_eq_true] at hc
    obtain ⟨c1, c2, c3⟩ := hc
    obtain ⟨s, hs, rfl⟩ := win_ix (by omega) c1
    obtain ⟨k, hk, rfl⟩ := win_of (n := 9) c3 (by decide)
    have h14 : ¬ y < 1 ∧ ¬ 4 < y := of_decide_eq_true c2
    have hy0 : ¬ y < 0 := fun h => h14.1 (Int32.lt_trans h (by decide))
    obtain ⟨j1, hj1, rfl⟩ := nI_of hy0
    have g1 : 1 ≤ j1 := Classical.byContradiction (fun h => h14.1 (nI_lt (b := 1) (by omega) (by decide)))
    have g4 : j1 ≤ 4 := Classical.byContradiction (fun h => h14.2 (nI_lt (a := 4) (by omega) hj1))
    obtain ⟨j, rfl⟩ : ∃ j, j1 = j + 1 := ⟨j1 - 1, by omega⟩
    have hj : j < 4 := by omega
    have q2 := (s4 s hs).2.1
    obtain ⟨w, hw, ew⟩ := s6 s (by omega)
    by_cases hne : dg (a 131 s) j = nI k
    · rw [sp_changed_not (d := 56) hO s1 s3 hs hj c3 (by rw [q2]; exact hne), sm_changed_not (d := 56) s2 s3 hs hj c3 hne]
      exact po hJ
    · by_cases h8 : m < 8
      · obtain ⟨vv, hv, ev⟩ := chg_nI (j := j) hw hk hj
        rw [sp_changed (d := 56) hO s1 h8 hs hj c3 (by rw [q2]; exact hne), q2, ew, ev]
        have e131 : ∀ A : Nat → Nat → Int32, am_up (newC A m 1 (nI vv)) (63 + 7 * m) 3 (nI s) 131 = A 131 := fun A => by rw [au_d (by omega), newC_c (by decide) (by omega)]
        rw [sm_changed (d := 56) (by rw [au_d (by omega), newC_c (by decide) (by omega)]; exact s2) h8 hs hj c3 (by rw [e131]; exact hne), e131, ew, ev]
        exact po (hJ.new hm h8 hv (fun c c1 c2 => by rw [au_d c2]; exact newC_c c1 c2) (fun j hj => by rw [au_d (by omega), newC_12, if_neg hj]) (by rw [au_d (by omega), newC_12, if_pos rfl]) (by rw [au_sd (by decide), newC_s, if_neg (by decide), if_pos rfl]) (by rw [au_sd (by decide), newC_s, if_pos rfl]) (fun _ => au_ss) (fun h => absurd h (by decide)) (fun h => absurd h (by decide)) (by rw [au_sd (by decide), newC_s, if_neg (by decide), if_neg (by decide)]))
      · have : m = 8 := by omega
        subst this
        rw [sp_changed_full (d := 56) hO s1 hs hj c3 (by rw [q2]; exact hne), sm_changed_full (d := 56) s2 hs hj c3 hne]
        exact po hJ
/-- only the spreads have changed -/
theorem J.spr (h : J a b) (hP : JP a') (e : ∀ c, ¬ (63 < c ∧ c < 119 ∧ (c - 63) % 7 ≠ 0) → c ≠ 25 → (c < 137 ∨ 141 < c) → (c < 142 ∨ 144 < c) → a' c = a c) : J a' b := by
  obtain ⟨hT, hS, hN, _, hR, hX, hG, hH⟩ := h
  have e127 : a' 127 = a 127 := e 127 (by omega) (by omega) (by omega) (by omega)
  have e12 : a' 12 = a 12 := e 12 (by omega) (by omega) (by omega) (by omega)
  exact ⟨JTfr hT (fun c hc => e c (by omega) (by omega) (by omega) (by omega)) (by rw [e127]), JSfr hS (fun c hc => e c (by omega) (by omega) (by omega) (by omega)) (by rw [e12]) (by rw [e127]), JNfr hN (by rw [e12]) (by rw [e127]), hP, JRfr hR (fun c hc => e c (by omega) (by omega) (by omega) (by omega)) (by rw [e127]), JXfr hX (fun c hc => e c (by omega) (by omega) (by omega) (by omega)) (by rw [e 33 (by omega) (by omega) (by omega) (by omega)]) (by rw [e127]), JGfr hG (fun c hc => e c (by omega) (by omega) (by omega) (by omega)) (by rw [e127]) (by rw [e127]), JHfr hH (fun c hc => e c (by omega) (by omega) (by omega) (by omega))⟩
theorem gm_pm {M : Nat → Nat → PS} {s p : Nat} (hs : s < 8) : gm (pm a M) s p = M s p := by
  unfold gm
  rw [pm_1 hs, pm_2 hs, pm_3 hs, pm_4 hs, pm_5 hs]
  exact mkP_id
theorem got_pm {M : Nat → Nat → PS} {q p : Nat} (hq : q < 120) : got (pm a M) q p = got a q p := by
  unfold got
  rw [pm_o (by omega), pm_o (by omega), pm_o (by omega), pm_o (by omega), pm_o (by omega)]
theorem keep_begin : KEEP L 81 146 [.int x, .int y] := by
  intro a b hJ
  obtain ⟨n, hTN⟩ := hJ.tn
  obtain ⟨h1, h2, h3, h4, _⟩ := id hTN
  obtain ⟨m, hm⟩ := hJ.2.1
  obtain ⟨s1, s2, s3, s4, s5, s6⟩ := id hm
  obtain ⟨t, n1, n2, n3⟩ := hJ.2.2.1
  have hP := hJ.2.2.2.1
  cases hc : (win x (nI n - 1) && win y (nI m - 1)) with
  | false =>
    rw [sp_begin_bad (d := 57) (by rw [h3, s1]; exact hc), sm_begin_bad (d := 57) (by rw [h4, s2]; exact hc)]
    exact po hJ
  | true =>
    rw [Bool.and_eq_true] at hc
    obtain ⟨p, hp, rfl⟩ := win_ix h1 hc.1
    obtain ⟨s, hs, rfl⟩ := win_ix (by omega) hc.2
    obtain ⟨q1, q2, q3, q4, q5, q6⟩ := s4 s hs
    obtain ⟨vv, hv, ev⟩ := s6 s (by omega)
    by_cases hk : a 130 s = 2 ∧ a 127 3 < a 133 s
    · rw [sp_begin_not (d := 57) h3 h1 hp s1 s3 hs (by rw [q1]; exact hk.1) (by rw [n1, q4 hk.1, ← n2]; exact hk.2), sm_begin_not (d := 57) h4 h1 hp s2 s3 hs hk.1 hk.2]
      exact po hJ
    · rw [sp_begin (d := 57) h3 h1 hp s1 s3 hs (fun g => hk ⟨by rw [← q1]; exact g.1, by rw [n2, ← n1, ← q4 (by rw [← q1]; exact g.1)]; exact g.2⟩), n1, q2, ev]
      generalize hA : am_up (am_up (am_up (am_up (am_up a (64 + 7 * s + 1) p 1) (64 + 7 * s + 2) p (nI t)) (64 + 7 * s + 3) p (nI vv)) (64 + 7 * s + 4) p 17) (64 + 7 * s + 5) p (nI t) = A
      have ep : A = put a (64 + 7 * s) (upS (got a (64 + 7 * s)) p (mkP 1 (nI t) (nI vv) 17 (nI t))) := by
        rw [← hA]
        have e0 : a = put a (64 + 7 * s) (got a (64 + 7 * s)) := put_got.symm
        conv => lhs; rw [e0]
        rw [put_u1, put_u2, put_u3, put_u4, put_u5]
        simp only [upS_u, upS_s, mkP_st, mkP_si, mkP_ve, mkP_fr, mkP_la]
      have eA : ∀ c, (c ≤ 64 + 7 * s ∨ 64 + 7 * s + 5 < c) → A c = a c := fun c hc => by rw [ep, put_o hc]
      have key := sm_begin (d := 57) (L := L) (b := b) (a := A) (M := gm A) (n := n) (p := p) (m := m) (s := s) (Q := PO L (some (.int (a (64 + 7 * s + 1) p)))) (by rw [eA 127 (by omega)]; exact h4) h1 hp (by rw [eA 127 (by omega)]; exact s2) s3 hs (by rw [eA 130 (by omega), eA 127 (by omega), eA 133 (by omega)]; exact hk)
      rw [pm_gm, eA 127 (by omega), eA 131 (by omega), n2, ev] at key
      rw [key]
      have egm : ∀ s' p', gm A s' p' = gm a s' p' := fun s' p' => by
        unfold gm
        rw [eA 137 (by omega), eA 138 (by omega), eA 139 (by omega), eA 140 (by omega), eA 141 (by omega)]
      refine po' (hJ.spr (fun s' hs' p' hp' => ?_) (fun c c1 c2 c3 c4 => by rw [pm_o c3]; exact eA c (by omega))) ?_
      · rw [gm_pm hs', got_pm (by omega)]
        by_cases c : s' = s ∧ p' = p
        · obtain ⟨rfl, rfl⟩ := c
          rw [upM_s, ep, got_put, upS_s]
          exact ⟨rfl, Or.inr (Or.inl rfl), fun _ => ⟨vv, hv, rfl⟩⟩
        · have e1 : upM (gm A) s p (mkP 1 (nI t) (nI vv) 17 (nI t)) s' p' = gm a s' p' := by unfold upM; rw [if_neg c, egm]
          have e2 : got A (64 + 7 * s') p' = got a (64 + 7 * s') p' := by
            by_cases cs : s' = s
            · subst cs
              rw [ep, got_put, upS_d (fun h => c ⟨rfl, h⟩)]
            · rw [ep, got_put_o (by omega)]
          rw [e1, e2]
          exact hP s' hs' p' hp'
      · rw [egm, ← (hP s (by omega) p (by omega)).1]
        rfl
end KP9
