/-! calls that only ask: beginnings, posts, check, why -/
theorem gsT_cat {T : Nat → Nat} {n : Nat} : ∀ k p l, p ≤ n → (catL l).length ≤ p → (catL (gsT T n k p l).2.2).length ≤ n
  | 0, p, l, hp, h => Nat.le_trans h hp
  | k + 1, p, l, hp, h => by
    unfold gsT
    cases hc : tkp T n p 59 with
    | false => exact Nat.le_trans h hp
    | true =>
      obtain ⟨t1, t2, _⟩ := tk_t hc
      have g1 := skp_ge (T := T) (n := n) (i := p)
      have g := pCl_good (T := T) (n := n) (i := tkI T n p 59) (tkI_le hp)
      rw [if_pos rfl]
      cases ho : (pCl T n (tkI T n p 59)).1 with
      | false => exact Nat.le_trans h hp
      | true =>
        rw [if_pos rfl]
        refine gsT_cat k _ _ g.2.1 ?_
        have := g.2.2 ho
        rw [catL_app, List.length_append]
        show (catL l).length + (pCl T n (tkI T n p 59)).2.2.1.length ≤ (pCl T n (tkI T n p 59)).2.1
        rw [t2] at this ⊢
        omega
theorem pG_cat {T : Nat → Nat} {n : Nat} : (catL (pG T n).2.2).length ≤ n := by
  have h0 := skp_le (T := T) (n := n) (i := 0) (Nat.zero_le _)
  unfold pG
  by_cases c : skp T n 0 < n
  · rw [if_pos c]
    unfold pGs
    have g := pCl_good (T := T) (n := n) (i := skp T n 0) h0
    cases ho : (pCl T n (skp T n 0)).1 with
    | false => exact Nat.zero_le _
    | true =>
      rw [if_pos rfl]
      refine gsT_cat 5 _ _ g.2.1 ?_
      have := g.2.2 ho
      show (catL ([] ++ [(pCl T n (skp T n 0)).2.2])).length ≤ _
      rw [catL_app]
      show (pCl T n (skp T n 0)).2.2.1.length ≤ _
      omega
  · rw [if_neg c]; exact Nat.zero_le _
theorem SMR_158 {a : Nat → Nat → Int32} {r : Nat → Int32} : SMR a (am_row a 158 r) := ⟨fun c hc => ar_d (by omega), fun j _ => by rw [ar_d (by decide)], fun s _ => by rw [ar_d (by decide)], fun k h1 h2 x _ => by rw [ar_d (by omega)]⟩
section KP4
variable {L : Nat} {b : Bool} {a : Nat → Nat → Int32} {x y z u v w : Int32}
theorem keep_could : KEEP L 100 189 [.int x, .int y, .int z] := by
  intro a b hJ
  obtain ⟨E, m, t, hE, hC, hM, hW, ⟨s1, s2, s3, s4, s5, s6⟩, hN, hGc, hGm, hEq⟩ := hJ.fx
  obtain ⟨pl, hr, td, R, l, r1, r2, r3, r4, r5, r6, r7⟩ := hJ.2.2.2.2.1
  have hn := hE.n
  cases hc : (win x (nI m - 1) && (win y (nI E.n - 1) && win z 23)) with
  | false =>
    rw [sp_could_bad (d := 54) (by rw [hC.n, s1]; exact hc), sm_could_bad (d := 53) (by rw [hM.n, s2]; exact hc)]
    exact po hJ
  | true =>
    rw [Bool.and_eq_true, Bool.and_eq_true] at hc
    obtain ⟨s, hs, rfl⟩ := win_ix (by omega) hc.1
    obtain ⟨p, hp, rfl⟩ := win_ix hn hc.2.1
    obtain ⟨h, hh, rfl⟩ := win_of (n := 23) hc.2.2 (by decide)
    obtain ⟨v, hv, ev⟩ := s6 s (by omega)
    refine sp_could (d := 54) hE hC r1 (fun r hr => (r5 r hr).1) (fun r hr => (r5 r hr).2) r6 r7 s1 s3 hs hv (by rw [(s4 s hs).2.1]; exact ev) hp (by omega) (fun a1 z1 => ?_)
    have eM := z1.r.M
    have hJ1 := hJ.scr z1.r
    refine sm_could (d := 53) hE (hM.M eM) (pl := pl) (hr := hr) (td := td) (R := R) ⟨by rw [eM 127 (by omega)]; exact r2.1, fun r hr => by rw [eM 155 (by omega), eM 156 (by omega), eM 157 (by omega)]; exact r2.2 r hr⟩ r3 (fun r hr => (r5 r hr).1) (fun r hr => by have := (r5 r hr).2; omega) (by rw [eM 127 (by omega)]; exact s2) s3 hs hv (by rw [eM 131 (by omega)]; exact ev) hp (by omega) (fun a2 z2 => po (hJ1.smr z2.r))
theorem keep_first : KEEP L 101 190 [.int x] := by
  intro a b hJ
  obtain ⟨E, m, t, hE, hC, hM, hW, ⟨s1, s2, s3, s4, s5, s6⟩, hN, hGc, hGm, hEq⟩ := hJ.fx
  obtain ⟨pl, hr, td, R, l, r1, r2, r3, r4, r5, r6, r7⟩ := hJ.2.2.2.2.1
  cases hc : win x (nI m - 1) with
  | false =>
    rw [sp_first_bad (d := 53) (by rw [s1]; exact hc), sm_first_bad (d := 53) (by rw [s2]; exact hc)]
    exact po hJ
  | true =>
    obtain ⟨s, hs, rfl⟩ := win_ix (by omega) hc
    obtain ⟨v, hv, ev⟩ := s6 s (by omega)
    refine sp_first (d := 53) hE hC r1 (fun r hr => (r5 r hr).1) (fun r hr => (r5 r hr).2) r6 r7 s1 s3 hs hv (by rw [(s4 s hs).2.1]; exact ev) (fun a1 z1 => ?_)
    have eM := z1.r.M
    have hJ1 := hJ.scr z1.r
    refine sm_first (d := 53) hE (hM.M eM) (pl := pl) (hr := hr) (td := td) (R := R) ⟨by rw [eM 127 (by omega)]; exact r2.1, fun r hr => by rw [eM 155 (by omega), eM 156 (by omega), eM 157 (by omega)]; exact r2.2 r hr⟩ r3 (fun r hr => (r5 r hr).1) (fun r hr => by have := (r5 r hr).2; omega) (by rw [eM 127 (by omega)]; exact s2) s3 hs hv (by rw [eM 131 (by omega)]; exact ev) (fun a2 z2 => po (hJ1.smr z2.r))
theorem keep_posts : KEEP L 102 192 [.int x, .int y] := by
  intro a b hJ
  obtain ⟨E, m, t, hE, hC, hM, hW, ⟨s1, s2, s3, s4, s5, s6⟩, hN, hGc, hGm, hEq⟩ := hJ.fx
  cases hc : (win2 x 1 3 && win y 1) with
  | false =>
    rw [sp_posts_bad (d := 55) hc, sm_posts_bad (d := 54) hc]
    exact po hJ
  | true =>
    rw [Bool.and_eq_true] at hc
    obtain ⟨w, hw, rfl⟩ := win_of (n := 1) hc.2 (by decide)
    have h13 : ¬ x < 1 ∧ ¬ 3 < x := of_decide_eq_true hc.1
    have hx0 : ¬ x < 0 := fun h => h13.1 (Int32.lt_trans h (by decide))
    obtain ⟨k, hk, rfl⟩ := nI_of hx0
    have hk1 : 1 ≤ k := Classical.byContradiction (fun h => h13.1 (nI_lt (b := 1) (by omega) (by decide)))
    have hk3 : k ≤ 3 := Classical.byContradiction (fun h => h13.2 (nI_lt (a := 3) (by omega) hk))
    refine sp_posts (d := 55) hE hC s1 s3 (fun s hs => hGc s (by omega)) hk1 hk3 hw (fun a1 z1 => ?_)
    have eM := z1.r.M
    have hJ1 := hJ.scr z1.r
    have hS : ∀ x, sumN (fun s => minF x (GP a E s) 6) m ≤ 192 := fun x => by
      have : sumN (fun s => minF x (GP a E s) 6) m ≤ 24 * m := sumN_le (fun i _ => minF_le 6)
      omega
    have key := sm_posts (d := 54) (L := L) (b := b) (a := a1) (M := gm a1) (k := k) (w := w) (Q := PO L (some (.int (nI (if w = 0 then (chC (fun x => sumN (fun s => minF x (GP a E s) 6) m) k 63).1 else sumN (fun s => minF (chC (fun x => sumN (fun s => minF x (GP a E s) 6) m) k 63).1 (GP a E s) 6) m))))) hE (hM.M eM) (by rw [eM 127 (by omega)]; exact s2) s3 (by rw [gm_M eM]; exact hGm) hk1 hk3 hw (GP a E) (fun s hs pl hpl => by
      unfold GP
      rw [eM 127 (by omega), hN.1, hN.2.1, gm_M eM]
      exact frs_cong 24 (fun j _ => hdF_cong (hEq s (by omega)))) (fun r a2 z2 => by
      rw [ch_eq hS hk1 hk3]
      have hJ2 : J a2 b := by
        have h1 : J (am_row a1 158 r) b := hJ1.smr SMR_158
        have e : pm (am_row a1 158 r) (gm a1) = am_row a1 158 r := by
          rw [← pm_row (by omega), pm_gm]
        rw [e] at z2
        exact h1.smr z2.r
      refine po' hJ2 ?_
      by_cases w0 : w = 0
      · rw [if_pos w0, if_pos w0]
      · rw [if_neg w0, if_neg w0])
    rw [pm_gm] at key
    exact key
theorem keep_why : KEEP L 94 177 [.int x, .int y] := by
  intro a b hJ
  obtain ⟨E, m, t, hE, hC, hM, hW, ⟨s1, s2, s3, s4, s5, s6⟩, hN, hGc, hGm, hEq⟩ := hJ.fx
  obtain ⟨GT, gn, g1, g2, g3, g4, g5, g6⟩ := hJ.2.2.2.2.2.2.1
  cases hc : (win x (nI m - 1) && win y 1) with
  | false =>
    rw [sp_why_bad (d := 55) (by rw [s1]; exact hc), sm_why_bad (d := 54) (by rw [s2]; exact hc)]
    exact po hJ
  | true =>
    rw [Bool.and_eq_true] at hc
    obtain ⟨s, hs, rfl⟩ := win_ix (by omega) hc.1
    obtain ⟨w, hw, rfl⟩ := win_of (n := 1) hc.2 (by decide)
    refine sp_why (d := 55) hC.o g3 pG_le.2 (Nat.le_trans pG_cat g2) pG_cls s1 s3 hs hw ?_
    refine sm_why (d := 54) g4 g2 g5 g1 g6 s2 s3 hs hw (fun a2 z2 => po' (hJ.smr z2.r) ?_)
    rw [(s4 s hs).2.1, hN.1, hN.2.1]
theorem flt_len {c : Nat} (h : JH1 a c) : ∃ l : Nat, l ≤ 32 ∧ a (119 + 2 * c) 2 = nI l ∧ a 160 c = nI l ∧ a (119 + 2 * c) 1 = a 159 c ∧ (a 159 c = -1 ∨ ¬ a 159 c < 0) := by
  obtain ⟨q1, q2, ⟨l, hl, q3⟩, q4, q5⟩ := h
  exact ⟨l, hl, by rw [q2]; exact q3, q3, q1, q4⟩
theorem keep_check : KEEP L 103 193 [.int x, .int y, .int z, .int u, .int v] := by
  intro a b hJ
  obtain ⟨E, m, t, hE, hC, hM, hW, ⟨s1, s2, s3, s4, s5, s6⟩, hN, hGc, hGm, hEq⟩ := hJ.fx
  have hn := hE.n
  cases hc : (win x (nI m - 1) && (win y 48 && (win z 3 && win2 u 1 2))) with
  | false =>
    rw [sp_check_bad (d := 54) (by rw [s1]; exact hc), sm_check_bad (d := 54) (by rw [s2]; exact hc)]
    exact po hJ
  | true =>
    rw [Bool.and_eq_true, Bool.and_eq_true, Bool.and_eq_true] at hc
    obtain ⟨c1, c2, c3, c4⟩ := hc
    obtain ⟨s, hs, rfl⟩ := win_ix (by omega) c1
    obtain ⟨h, hh, rfl⟩ := win_of (n := 48) c2 (by decide)
    obtain ⟨c, hcc, rfl⟩ := win_of (n := 3) c3 (by decide)
    have hc4 : c < 4 := by omega
    have hH1 := hJ.2.2.2.2.2.2.2 c hc4
    obtain ⟨l, hl, e1, e2, e3, e4⟩ := flt_len hH1
    have hu12 : u = 1 ∨ u = 2 := by
      have h2 : ¬ u < 1 ∧ ¬ 2 < u := of_decide_eq_true c4
      have hu0 : ¬ u < 0 := fun h => h2.1 (Int32.lt_trans h (by decide))
      obtain ⟨k, hk, rfl⟩ := nI_of hu0
      have k1 : 1 ≤ k := Classical.byContradiction (fun h => h2.1 (nI_lt (b := 1) (by omega) (by decide)))
      have k2 : k ≤ 2 := Classical.byContradiction (fun h => h2.2 (nI_lt (a := 2) (by omega) hk))
      rcases (show k = 1 ∨ k = 2 by omega) with rfl | rfl
      · exact Or.inl rfl
      · exact Or.inr rfl
    by_cases hf : fltF (a 159 c) u v E.n l = 0
    · obtain ⟨f1, f2⟩ := flt_0 hf
      obtain ⟨j, rfl, hj⟩ := spn_of f2
      refine sp_check (d := 54) hE hC s1 s3 hs (hGc s (by omega)) hh hc4 hu12 e1 hl (by rw [e3]; exact hf) (by omega) (fun a1 z1 => ?_)
      have eM := z1.r.M
      have hJ1 := hJ.scr z1.r
      have key := sm_check (d := 54) (L := L) (b := b) (a := a1) (M := gm a1) (s := s) (h := h) (c := c) (w := u) (j := j) (l := l) (Q := PO L (some (.int (fsR (ckF (fun p => a (120 + 2 * c) (j + p)) (itH E (a 12 11) (got a (64 + 7 * s)) h)) E.n E.n)))) hE (hM.M eM) (by rw [eM 127 (by omega)]; exact s2) s3 hs (by rw [gm_M eM]; exact hGm) hh hc4 c4 (by rw [eM 160 (by omega)]; exact e2) (by rw [eM 159 (by omega)]; exact e4) hl (by rw [eM 159 (by omega)]; exact hf) (by omega) (fun a2 z2 => by
        rw [pm_gm] at z2
        refine po' (hJ1.smr z2.r) ?_
        rw [eM 161 (by omega), eM 127 (by omega), gm_M eM, hN.1, hN.2.1]
        have : ∀ k, k ≤ E.n → fsR (ckF (fun p => a 161 (32 * c + j + p)) (itH E (nI t) (gm a s) h)) E.n k = fsR (ckF (fun p => a (120 + 2 * c) (j + p)) (itH E (nI t) (got a (64 + 7 * s)) h)) E.n k := fun k => by
          induction k with
          | zero => intro _; rfl
          | succ k ih =>
            intro hk
            have ee : ckF (fun p => a 161 (32 * c + j + p)) (itH E (nI t) (gm a s) h) (E.n - k - 1) = ckF (fun p => a (120 + 2 * c) (j + p)) (itH E (nI t) (got a (64 + 7 * s)) h) (E.n - k - 1) := by
              unfold ckF
              show (!decide (a 161 (32 * c + j + (E.n - k - 1)) = (itH E (nI t) (gm a s) h (E.n - k - 1)).st)) = !decide (a (120 + 2 * c) (j + (E.n - k - 1)) = (itH E (nI t) (got a (64 + 7 * s)) h (E.n - k - 1)).st)
              rw [hH1.2.2.2.2 (j + (E.n - k - 1)) (by omega), ← (itH_cong (hEq s (by omega)) h (E.n - k - 1) (by omega)).1, show 32 * c + (j + (E.n - k - 1)) = 32 * c + j + (E.n - k - 1) by omega]
            rw [fsR, fsR, ee, ih (by omega)]
        exact this E.n (Nat.le_refl _))
      rw [pm_gm] at key
      exact key
    · rw [sp_check_flt (d := 54) hE hC s1 s3 hs c2 hc4 hu12 e1 hl (by rw [e3]; exact hf), sm_check_flt (d := 54) hE hM s2 s3 hs c2 hc4 c4 e2 e4 hl hf]
      rw [e3]
      exact po hJ
end KP4
