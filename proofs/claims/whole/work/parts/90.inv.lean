/-! what holds between calls -/
def JT (a : Nat → Nat → Int32) (E : ENV) : Prop := EOK E ∧ EC a E ∧ EM a E ∧ WT9 E ∧ ∀ p, E.n ≤ p → p < 16 → a 16 p = 0 ∧ a 17 p = 0
/-- one saying: class and reference -/
def JS1 (a : Nat → Nat → Int32) (s : Nat) : Prop := a (63 + 7 * s) 1 = a 130 s ∧ a (63 + 7 * s) 2 = a 131 s ∧ ((a 130 s = 1 ∨ a 130 s = 2) → a (63 + 7 * s) 3 = a 132 s) ∧ (a 130 s = 2 → a (63 + 7 * s) 4 = a 133 s) ∧ (a 130 s = 3 → a (63 + 7 * s) 5 = a 134 s) ∧ (a 134 s = 0 ∨ a 134 s = 1)
def JS (a : Nat → Nat → Int32) (m : Nat) : Prop := a 12 10 = nI m ∧ a 127 4 = nI m ∧ m ≤ 8 ∧ (∀ s, s < m → JS1 a s) ∧ (∀ s, s < 8 → a (63 + 7 * s) 6 = (if s < m then a 135 s else 0)) ∧ ∀ s, s < 8 → ∃ v : Nat, v < 10000 ∧ a 131 s = nI v
def JN (a : Nat → Nat → Int32) (t : Nat) : Prop := a 12 11 = nI t ∧ a 127 3 = nI t ∧ t ≤ 9999
def okP (r : PS) : Prop := stOK r ∧ (r.st ≠ 0 → ∃ v : Nat, v < 10000 ∧ r.ve = nI v)
def JP (a : Nat → Nat → Int32) : Prop := ∀ s, s < 8 → ∀ p, p < 16 → got a (64 + 7 * s) p = gm a s p ∧ okP (gm a s p)
def JR (a : Nat → Nat → Int32) : Prop := ∃ (pl hr : Nat → Nat) (td : Nat → Bool) (R l : Nat), RC a pl hr td R ∧ RM a pl hr td R ∧ R ≤ 12 ∧ a 39 0 = nI R ∧ (∀ r, r < R → pl r < 6 ∧ hr r < l) ∧ l ≤ 24 ∧ ∀ t, t ≤ 24 → (a 39 1 < nI t) = (l ≤ t)
def JX (a : Nat → Nat → Int32) : Prop := ∃ (T : Nat → Nat) (n : Nat), TP a T n ∧ TPM a T n
def JG (a : Nat → Nat → Int32) (b : Bool) : Prop := ∃ (T : Nat → Nat) (n : Nat), (pG T n).1 = true ∧ n ≤ 120 ∧ GLS (gIn b) a (pG T n).2.2 ∧ (∀ j, j < n → a 149 j = nI (T j) ∧ 32 ≤ T j ∧ T j ≤ 126) ∧ a 127 28 = nI n ∧ a 127 29 = nI (pG T n).2.2.length
def JH1 (a : Nat → Nat → Int32) (c : Nat) : Prop := a (119 + 2 * c) 1 = a 159 c ∧ a (119 + 2 * c) 2 = a 160 c ∧ (∃ l : Nat, l ≤ 32 ∧ a 160 c = nI l) ∧ (a 159 c = -1 ∨ ¬ a 159 c < 0) ∧ ∀ j, j < 32 → a (120 + 2 * c) j = a 161 (32 * c + j)
def JH (a : Nat → Nat → Int32) : Prop := ∀ c, c < 4 → JH1 a c
def J (a : Nat → Nat → Int32) (b : Bool) : Prop := (∃ E, JT a E) ∧ (∃ m, JS a m) ∧ (∃ t, JN a t) ∧ JP a ∧ JR a ∧ JX a ∧ JG a b ∧ JH a
/-- the class's rows that no call reads before it writes them -/
def SCR (a a' : Nat → Nat → Int32) : Prop := ∀ c, c ≠ 25 → (c < 28 ∨ 32 < c) → (c < 35 ∨ 38 < c) → (c < 44 ∨ 51 < c) → a' c = a c
/-- the reference's -/
def SMR (a a' : Nat → Nat → Int32) : Prop := (∀ c, c < 127 ∨ (127 < c ∧ c < 135) ∨ c = 136 ∨ c = 147 ∨ c = 149 ∨ (154 < c ∧ c ≠ 158) → a' c = a c) ∧ (∀ j, j = 0 ∨ j = 3 ∨ j = 4 ∨ j = 24 ∨ j = 28 ∨ j = 29 ∨ j = 41 → a' 127 j = a 127 j) ∧ (∀ s, s < 8 → a' 135 s = a 135 s) ∧ ∀ k, 137 ≤ k → k ≤ 141 → ∀ x, x < 128 → a' k x = a k x
section JFR
variable {a a' : Nat → Nat → Int32} {b : Bool}
theorem SC.r (h : SC a a') : SCR a a' := fun c h1 h2 _ _ => h c h1 h2
theorem SP.r (h : SP a a') : SCR a a' := fun c h1 h2 _ h4 => h c h1 h2 h4
theorem SKJ.r (h : SKJ a a') : SCR a a' := fun c _ _ h3 _ => h c h3
theorem SMM.r (h : SMM a a') : SMR a a' := ⟨fun c hc => h.1 c (by omega), fun j hj => h.2.1 j (by omega), h.2.2.1, h.2.2.2⟩
theorem SMj.r (h : SMj a a') : SMR a a' := ⟨fun c hc => h.1 c (by omega) (by omega) (by omega), fun j hj => h.2 j (by omega) (by omega), fun s _ => by rw [h.1 135 (by decide) (by decide) (by decide)], fun k h1 h2 x _ => by rw [h.1 k (by omega) (by omega) (by omega)]⟩
theorem WYR.r (h : WYR a a') : SMR a a' := ⟨fun c hc => h.1 c (by omega) (by omega) (by omega), fun j hj => h.2 j (by omega) (by omega) (by omega) (by omega) (by omega), fun s _ => by rw [h.1 135 (by decide) (by decide) (by omega)], fun k h1 h2 x _ => by rw [h.1 k (by omega) (by omega) (by omega)]⟩
theorem EM.eq {E : ENV} (h : EM a E) (e0 : a' 127 0 = a 127 0) (e1 : a' 128 = a 128) (e2 : a' 129 = a 129) (e3 : a' 136 = a 136) : EM a' E := h.of e0 e1 e2 e3
theorem J.scr (h : J a b) (e : SCR a a') : J a' b := by
  obtain ⟨⟨E, t1, t2, t3, t4, t5⟩, ⟨m, s1, s2, s3, s4, s5, s6⟩, ⟨t, n1, n2, n3⟩, hP, ⟨pl, hr, td, R, l, r1, r2, r3, r4, r5, r6, r7⟩, ⟨T, n, x1, x2⟩, ⟨GT, gn, g1, g2, g3, g4, g5, g6⟩, hH⟩ := h
  have c127 : a' 127 = a 127 := e 127 (by decide) (by omega) (by omega) (by omega)
  have c12 : a' 12 = a 12 := e 12 (by decide) (by omega) (by omega) (by omega)
  have cM : ∀ c, 127 ≤ c → a' c = a c := fun c hc => e c (by omega) (by omega) (by omega) (by omega)
  have c63 : ∀ s, a' (63 + 7 * s) = a (63 + 7 * s) := fun s => e _ (by omega) (by omega) (by omega) (by omega)
  have cH : ∀ c, 119 ≤ c → a' c = a c := fun c hc => e c (by omega) (by omega) (by omega) (by omega)
  refine ⟨⟨E, t1, ?_, t3.eq (by rw [c127]) (cM 128 (by omega)) (cM 129 (by omega)) (cM 136 (by omega)), t4, fun p h1 h2 => by rw [e 16 (by decide) (by omega) (by omega) (by omega), e 17 (by decide) (by omega) (by omega) (by omega)]; exact t5 p h1 h2⟩, ⟨m, by rw [c12]; exact s1, by rw [c127]; exact s2, s3, fun s hs => ?_, fun s hs => by rw [c63, cM 135 (by omega)]; exact s5 s hs, fun s hs => by rw [cM 131 (by omega)]; exact s6 s hs⟩, ⟨t, by rw [c12]; exact n1, by rw [c127]; exact n2, n3⟩, fun s hs p hp => ?_, ⟨pl, hr, td, R, l, fun h hh => by rw [e 40 (by decide) (by omega) (by omega) (by omega), e 41 (by decide) (by omega) (by omega) (by omega)]; exact r1 h hh, ⟨by rw [c127]; exact r2.1, fun r hr => by rw [cM 155 (by omega), cM 156 (by omega), cM 157 (by omega)]; exact r2.2 r hr⟩, r3, by rw [e 39 (by decide) (by omega) (by omega) (by omega)]; exact r4, r5, r6, by rw [e 39 (by decide) (by omega) (by omega) (by omega)]; exact r7⟩, ⟨T, n, ⟨by rw [e 33 (by decide) (by omega) (by omega) (by omega)]; exact x1.1, x1.2.1, fun j hj => by rw [e 34 (by decide) (by omega) (by omega) (by omega)]; exact x1.2.2 j hj⟩, ⟨by rw [c127]; exact x2.1, x2.2.1, fun j hj => by rw [cM 147 (by omega)]; exact x2.2.2 j hj⟩⟩, ⟨GT, gn, g1, g2, ?_, fun j hj => by rw [cM 149 (by omega)]; exact g4 j hj, by rw [c127]; exact g5, by rw [c127]; exact g6⟩, fun c hc => ?_⟩
  · exact t2.low (fun c hc => e c (by omega) (by omega) (by omega) (by omega))
  · obtain ⟨q1, q2, q3, q4, q5, q6⟩ := s4 s hs
    unfold JS1
    rw [c63, cM 130 (by omega), cM 131 (by omega), cM 132 (by omega), cM 133 (by omega), cM 134 (by omega)]
    exact ⟨q1, q2, q3, q4, q5, q6⟩
  · have e1 : got a' (64 + 7 * s) p = got a (64 + 7 * s) p := by
      unfold got
      rw [e _ (by omega) (by omega) (by omega) (by omega), e _ (by omega) (by omega) (by omega) (by omega), e _ (by omega) (by omega) (by omega) (by omega), e _ (by omega) (by omega) (by omega) (by omega), e _ (by omega) (by omega) (by omega) (by omega)]
    have e2 : gm a' s p = gm a s p := by
      unfold gm
      rw [cM 137 (by omega), cM 138 (by omega), cM 139 (by omega), cM 140 (by omega), cM 141 (by omega)]
    rw [e1, e2]
    exact hP s hs p hp
  · have hge := (GC_in (b := b)).ge
    exact g3.fr (fun c h1 h2 => e c (by omega) (by omega) (by omega) (by omega))
  · obtain ⟨q1, q2, q3, q4, q5⟩ := hH c hc
    unfold JH1
    rw [cH (119 + 2 * c) (by omega), cH (120 + 2 * c) (by omega), cH 159 (by omega), cH 160 (by omega), cH 161 (by omega)]
    exact ⟨q1, q2, q3, q4, q5⟩
theorem J.smr (h : J a b) (e : SMR a a') : J a' b := by
  obtain ⟨⟨E, t1, t2, t3, t4, t5⟩, ⟨m, s1, s2, s3, s4, s5, s6⟩, ⟨t, n1, n2, n3⟩, hP, ⟨pl, hr, td, R, l, r1, r2, r3, r4, r5, r6, r7⟩, ⟨T, n, x1, x2⟩, ⟨GT, gn, g1, g2, g3, g4, g5, g6⟩, hH⟩ := h
  obtain ⟨e1, e2, e3, e4⟩ := e
  have cC : ∀ c, c < 127 → a' c = a c := fun c hc => e1 c (by omega)
  refine ⟨⟨E, t1, t2.low (fun c hc => cC c (by omega)), t3.eq (e2 0 (by omega)) (e1 128 (by omega)) (e1 129 (by omega)) (e1 136 (by omega)), t4, fun p h1 h2 => by rw [cC 16 (by omega), cC 17 (by omega)]; exact t5 p h1 h2⟩, ⟨m, by rw [cC 12 (by omega)]; exact s1, by rw [e2 4 (by omega)]; exact s2, s3, fun s hs => ?_, fun s hs => by rw [cC _ (by omega), e3 s hs]; exact s5 s hs, fun s hs => by rw [e1 131 (by omega)]; exact s6 s hs⟩, ⟨t, by rw [cC 12 (by omega)]; exact n1, by rw [e2 3 (by omega)]; exact n2, n3⟩, fun s hs p hp => ?_, ⟨pl, hr, td, R, l, fun h hh => by rw [cC 40 (by omega), cC 41 (by omega)]; exact r1 h hh, ⟨by rw [e2 41 (by omega)]; exact r2.1, fun r hr => by rw [e1 155 (by omega), e1 156 (by omega), e1 157 (by omega)]; exact r2.2 r hr⟩, r3, by rw [cC 39 (by omega)]; exact r4, r5, r6, by rw [cC 39 (by omega)]; exact r7⟩, ⟨T, n, ⟨by rw [cC 33 (by omega)]; exact x1.1, x1.2.1, fun j hj => by rw [cC 34 (by omega)]; exact x1.2.2 j hj⟩, ⟨by rw [e2 24 (by omega)]; exact x2.1, x2.2.1, fun j hj => by rw [e1 147 (by omega)]; exact x2.2.2 j hj⟩⟩, ⟨GT, gn, g1, g2, ?_, fun j hj => by rw [e1 149 (by omega)]; exact g4 j hj, by rw [e2 28 (by omega)]; exact g5, by rw [e2 29 (by omega)]; exact g6⟩, fun c hc => ?_⟩
  · obtain ⟨q1, q2, q3, q4, q5, q6⟩ := s4 s hs
    unfold JS1
    rw [cC (63 + 7 * s) (by omega), e1 130 (by omega), e1 131 (by omega), e1 132 (by omega), e1 133 (by omega), e1 134 (by omega)]
    exact ⟨q1, q2, q3, q4, q5, q6⟩
  · have u1 : got a' (64 + 7 * s) p = got a (64 + 7 * s) p := by
      unfold got
      rw [cC _ (by omega), cC _ (by omega), cC _ (by omega), cC _ (by omega), cC _ (by omega)]
    have u2 : gm a' s p = gm a s p := by
      unfold gm
      rw [e4 137 (by omega) (by omega) _ (by omega), e4 138 (by omega) (by omega) _ (by omega), e4 139 (by omega) (by omega) _ (by omega), e4 140 (by omega) (by omega) _ (by omega), e4 141 (by omega) (by omega) _ (by omega)]
    rw [u1, u2]
    exact hP s hs p hp
  · have hge := (GC_in (b := b)).ge
    exact g3.fr (fun c h1 h2 => cC c (by omega))
  · obtain ⟨q1, q2, q3, q4, q5⟩ := hH c hc
    unfold JH1
    rw [cC (119 + 2 * c) (by omega), cC (120 + 2 * c) (by omega), e1 159 (by omega), e1 160 (by omega), e1 161 (by omega)]
    exact ⟨q1, q2, q3, q4, q5⟩
end JFR
