/-! calls that only ask: kin, wordings, plans -/
theorem EM.M {a a' : Nat → Nat → Int32} {E : ENV} (hM : EM a E) (eM : ∀ c, 127 ≤ c → a' c = a c) : EM a' E := hM.eq (by rw [eM 127 (by omega)]) (eM 128 (by omega)) (eM 129 (by omega)) (eM 136 (by omega))
theorem VP_eq {S S' : Nat → PS} {n x : Nat} (h : EQn n S S') : VP S n x ↔ VP S' n x := by
  unfold VP
  constructor
  · rintro ⟨p, hp, h1, h2, h3⟩
    exact ⟨p, hp, by rw [← (h p hp).1]; exact h1, by rw [← (h p hp).2 h1]; exact h2, h3⟩
  · rintro ⟨p, hp, h1, h2, h3⟩
    have h1' : (S p).st ≠ 0 := by rw [(h p hp).1]; exact h1
    exact ⟨p, hp, h1', by rw [(h p hp).2 h1']; exact h2, h3⟩
section KP3
variable {L : Nat} {b : Bool} {a : Nat → Nat → Int32} {x y z u v w : Int32}
theorem keep_kin : KEEP L 97 183 [.int x] := by
  intro a b hJ
  obtain ⟨E, m, t, hE, hC, hM, hW, ⟨s1, s2, s3, s4, s5, s6⟩, hN, hGc, hGm, hEq⟩ := hJ.fx
  cases hc : win x (nI m - 1) with
  | false =>
    rw [sp_kin_bad (d := 55) (by rw [s1]; exact hc), sm_kin_bad (d := 55) (by rw [s2]; exact hc)]
    exact po hJ
  | true =>
    obtain ⟨s, hs, rfl⟩ := win_ix (by omega) hc
    refine sp_kin (d := 55) hE hC s1 s3 hs (hGc s (by omega)) (fun a1 f k q1 q2 q3 q4 => ?_)
    have eM := q1.r.M
    have hJ1 := hJ.scr q1.r
    have key := sm_kin (d := 55) (L := L) (b := b) (a := a1) (M := gm a1) (Q := PO L (some (.int (jnS (DF f) (cap k) (cap k - 1)).2.2))) hE (hM.M eM) (by rw [eM 127 (by omega)]; exact s2) s3 hs (by rw [gm_M eM]; exact (hGm s (by omega)).1) q2 q3 (fun x => by rw [q4 x, gm_M eM]; exact VP_eq (hEq s (by omega))) (fun a2 z1 => by rw [pm_gm] at z1; exact po (hJ1.smr z1.r))
    rw [pm_gm] at key
    exact key
theorem keep_version : KEEP L 96 182 [.int x, .int y, .int z] := by
  intro a b hJ
  obtain ⟨E, m, t, hE, hC, hM, hW, ⟨s1, s2, s3, s4, s5, s6⟩, hN, hGc, hGm, hEq⟩ := hJ.fx
  cases hc : (win x (nI m - 1) && win z 1) with
  | false =>
    rw [sp_version_bad (d := 55) (by rw [s1]; exact hc), sm_version_bad (d := 55) (by rw [s2]; exact hc)]
    exact po hJ
  | true =>
    rw [Bool.and_eq_true] at hc
    obtain ⟨s, hs, rfl⟩ := win_ix (by omega) hc.1
    obtain ⟨w, hw, rfl⟩ := win_of (n := 1) hc.2 (by decide)
    refine sp_version (d := 55) hE hC s1 s3 hs hw (hGc s (by omega)) (fun a1 f k q1 q2 q3 q4 => ?_)
    have eM := q1.r.M
    have hJ1 := hJ.scr q1.r
    have key := sm_version (d := 55) (L := L) (b := b) (a := a1) (M := gm a1) (y := y) (Q := PO L (some (.int (verF f (cap k) w y)))) hE (hM.M eM) (by rw [eM 127 (by omega)]; exact s2) s3 hs hw (by rw [gm_M eM]; exact (hGm s (by omega)).1) q2 q3 (fun x => by rw [q4 x, gm_M eM]; exact VP_eq (hEq s (by omega))) (fun a2 z1 => by rw [pm_gm] at z1; exact po (hJ1.smr z1.r))
    rw [pm_gm] at key
    exact key
theorem keep_wording : KEEP L 90 166 [.int x, .int y] := by
  intro a b hJ
  obtain ⟨E, m, t, hE, hC, hM, hW, ⟨s1, s2, s3, s4, s5, s6⟩, hN, hGc, hGm, hEq⟩ := hJ.fx
  cases hc : (win x (nI m - 1) && win y 96) with
  | false =>
    rw [sp_wording_bad (d := 53) (by rw [s1]; exact hc), sm_wording_bad (d := 53) (by rw [s2]; exact hc)]
    exact po hJ
  | true =>
    rw [Bool.and_eq_true] at hc
    obtain ⟨s, hs, rfl⟩ := win_ix (by omega) hc.1
    obtain ⟨q1, q2, q3, q4, q5, q6⟩ := s4 s hs
    by_cases hk : a 130 s = 3 ∧ a 134 s = 0
    · have hk2 : ¬ (¬ a 130 s = 3 ∨ a 134 s = 1) := fun h => h.elim (fun h => h hk.1) (fun h => by rw [hk.2] at h; exact absurd h (by decide))
      rw [sp_wording_not (d := 53) s1 s3 hs hc.2 (by rw [q1]; exact hk.1) (by rw [q5 hk.1]; exact hk.2), sm_wording_not (d := 53) s2 s3 hs hc.2 q6 hk2]
      exact po hJ
    · have hk1 : ¬ (a (63 + 7 * s) 1 = 3 ∧ a (63 + 7 * s) 5 = 0) := fun h => by
        rw [q1] at h
        rw [q5 h.1] at h
        exact hk h
      have hk2 : ¬ a 130 s = 3 ∨ a 134 s = 1 := by
        by_cases h3 : a 130 s = 3
        · exact Or.inr (q6.resolve_left (fun h => hk ⟨h3, h⟩))
        · exact Or.inl h3
      obtain ⟨h, hh, rfl⟩ := win_of (n := 96) hc.2 (by decide)
      obtain ⟨v, hv, ev⟩ := s6 s (by omega)
      refine sp_wording (d := 53) (F := fun w => aheadF E (nI t) (a 130 s) (a 131 s) w h (gm a s)) hE hC s1 s3 hs (hGc s (by omega)) hv (by rw [q2]; exact ev) hh hk1 (fun w hw => by rw [hN.1, q1, ← ev]; exact (aheadF_cong (hEq s (by omega))).symm) (fun a1 z1 => ?_)
      have eM := z1.r.M
      have hJ1 := hJ.scr z1.r
      refine sm_wording (d := 53) (F := fun w => if w = 3 then hbS E (nI t) (a 130) (a 131) m 0 0 h (gm a) else hbS E (nI t) (a 130) (a 131) m (2 ^ s) w h (gm a)) hE (hM.M eM) (by rw [eM 127 (by omega)]; exact s2) s3 hs (by rw [gm_M eM]; exact hGm) (by rw [eM 131 (by omega)]; exact s6) hh (by rw [eM 134 (by omega)]; exact q6) (by rw [eM 130 (by omega), eM 134 (by omega)]; exact hk2) (by rw [eM 127 (by omega), eM 130 (by omega), eM 131 (by omega), gm_M eM, hN.2.1]; rfl) (fun w hw => by rw [eM 127 (by omega), eM 130 (by omega), eM 131 (by omega), gm_M eM, hN.2.1]; exact if_neg (by omega)) (fun a2 z2 => ?_)
      refine po' (hJ1.smr z2.r) ?_
      exact wB_eq hE hW (fun s hs => (hGm s (by omega)).1) (fun s hs => s6 s (by omega)) hs s3
theorem keep_plan : KEEP L 91 168 [.int x, .int y] := by
  intro a b hJ
  obtain ⟨E, m, t, hE, hC, hM, hW, ⟨s1, s2, s3, s4, s5, s6⟩, hN, hGc, hGm, hEq⟩ := hJ.fx
  have h256 : 2 ^ m ≤ 256 := Nat.pow_le_pow_right (n := 2) (j := 8) (by decide) s3
  by_cases hb : x < 0 ∨ ¬ x < nI (2 ^ m)
  · rw [sp_plan_bad1 (d := 53) s1 s3 hb, sm_plan_bad1 (d := 53) s2 s3 hb]
    exact po hJ
  · have hx0 : ¬ x < 0 := fun h => hb (Or.inl h)
    obtain ⟨k, hk, rfl⟩ := nI_of hx0
    have hkm : k < 2 ^ m := by
      have : nI k < nI (2 ^ m) := Classical.byContradiction (fun h => hb (Or.inr h))
      exact (nI_ltI hk (by omega)).1 this
    by_cases hb2 : 4 < sz k ∨ win y 48 = false
    · rw [sp_plan_bad2 (d := 53) s1 s3 hkm hb2, sm_plan_bad2 (d := 53) s2 s3 hkm hb2]
      exact po hJ
    · have hp : sz k ≤ 4 := by
        have : ¬ 4 < sz k := fun h => hb2 (Or.inl h)
        omega
      have hy : win y 48 = true := by
        cases h : win y 48 with
        | true => rfl
        | false => exact absurd (Or.inr h) hb2
      have hbs : ∀ s, s < m → a 134 s = 0 ∨ a 134 s = 1 := fun s hs => (s4 s hs).2.2.2.2.2
      have hse : ∀ s, s < m → secF a k s = secM a k s := fun s hs => by
        obtain ⟨q1, q2, q3, q4, q5, q6⟩ := s4 s hs
        unfold secF secM
        rw [q1]
        congr 1
        by_cases h3 : a 130 s = 3
        · rw [q5 h3]
          rcases q6 with h | h
          · rw [decide_eq_true ⟨h3, h⟩, decide_eq_false (fun g => g.elim (fun g => g h3) (fun g => by rw [h] at g; exact absurd g (by decide)))]; rfl
          · rw [decide_eq_false (fun g => by rw [h] at g; exact absurd g.2 (by decide)), decide_eq_true (Or.inr h)]; rfl
        · rw [decide_eq_false (fun g => h3 g.1), decide_eq_true (Or.inl h3)]; rfl
      rcases first_of (secM a k) m with hno | ⟨i, hi, k1, k2⟩
      · obtain ⟨h, hh, rfl⟩ := win_of (n := 48) hy (by decide)
        refine sp_plan (d := 53) (F := fun s w => aheadF E (nI t) (a 130 s) (a 131 s) w h (gm a s)) hE hC s1 s3 (fun s hs => hGc s (by omega)) (fun s hs => by rw [(s4 s hs).2.1]; exact s6 s (by omega)) hkm hp hh (fun s hs => by rw [hse s hs]; exact hno s hs) (fun s hs w hw => by rw [hN.1, (s4 s hs).1, (s4 s hs).2.1]; exact (aheadF_cong (hEq s (by omega))).symm) (fun a1 z1 => ?_)
        have eM := z1.r.M
        have hJ1 := hJ.scr z1.r
        refine sm_plan (d := 53) (H := fun y => hbS E (nI t) (a 130) (a 131) m y 0 h (gm a)) hE (hM.M eM) (by rw [eM 127 (by omega)]; exact s2) s3 (by rw [gm_M eM]; exact hGm) (by rw [eM 131 (by omega)]; exact s6) hkm hp hh (by rw [eM 134 (by omega)]; exact hbs) (fun s hs => by unfold secM; rw [eM 130 (by omega), eM 134 (by omega)]; exact hno s hs) (fun y hy => by rw [eM 127 (by omega), eM 130 (by omega), eM 131 (by omega), gm_M eM, hN.2.1]) (fun a2 z2 => ?_)
        refine po' (hJ1.smr z2.r) ?_
        rw [plan_eq hE hW (fun s hs => (hGm s (by omega)).1) (fun s hs => s6 s (by omega)) s3 hkm]
      · rw [sp_plan_not (d := 53) s1 s3 hkm hp hy hi (fun s hs => by rw [hse s (by omega)]; exact k2 s hs) (by rw [hse i hi]; exact k1), sm_plan_not (d := 53) s2 s3 hkm hp hy hbs hi k2 k1]
        exact po hJ
end KP3
