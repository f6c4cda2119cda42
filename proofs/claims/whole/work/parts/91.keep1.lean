/-! calls keep J: the parts of it, and the first calls -/
section JPR
variable {a a' : Nat → Nat → Int32} {b : Bool}
theorem JTfr (h : ∃ E, JT a E) (e : ∀ c, c < 25 ∧ c ≠ 12 ∨ c = 128 ∨ c = 129 ∨ c = 136 → a' c = a c) (e0 : a' 127 0 = a 127 0) : ∃ E, JT a' E := by
  obtain ⟨E, t1, t2, t3, t4, t5⟩ := h
  refine ⟨E, t1, ?_, t3.eq e0 (e 128 (by omega)) (e 129 (by omega)) (e 136 (by omega)), t4, fun p h1 h2 => by rw [e 16 (by omega), e 17 (by omega)]; exact t5 p h1 h2⟩
  obtain ⟨u1, u2, u3, u4, u5, u6, u7, u8, u9⟩ := t2
  exact ⟨OLD_low u1 (fun k hk => e k (by omega)), by rw [e 13 (by omega)]; exact u2, by rw [e 15 (by omega)]; exact u3, by rw [e 16 (by omega)]; exact u4, by rw [e 17 (by omega)]; exact u5, by rw [e 18 (by omega)]; exact u6, by rw [e 19 (by omega)]; exact u7, by rw [e 20 (by omega)]; exact u8, fun i hi p hp => by rw [e (22 + i) (by omega)]; exact u9 i hi p hp⟩
theorem JSfr (h : ∃ m, JS a m) (e : ∀ c, (63 ≤ c ∧ c < 119 ∧ (c - 63) % 7 = 0) ∨ (130 ≤ c ∧ c ≤ 135) → a' c = a c) (e10 : a' 12 10 = a 12 10) (e4 : a' 127 4 = a 127 4) : ∃ m, JS a' m := by
  obtain ⟨m, s1, s2, s3, s4, s5, s6⟩ := h
  refine ⟨m, by rw [e10]; exact s1, by rw [e4]; exact s2, s3, fun s hs => ?_, fun s hs => by rw [e (63 + 7 * s) (by omega), e 135 (by omega)]; exact s5 s hs, fun s hs => by rw [e 131 (by omega)]; exact s6 s hs⟩
  have := s4 s hs
  unfold JS1 at this ⊢
  rw [e (63 + 7 * s) (by omega), e 130 (by omega), e 131 (by omega), e 132 (by omega), e 133 (by omega), e 134 (by omega)]
  exact this
theorem JNfr (h : ∃ t, JN a t) (e11 : a' 12 11 = a 12 11) (e3 : a' 127 3 = a 127 3) : ∃ t, JN a' t := by
  obtain ⟨t, n1, n2, n3⟩ := h
  exact ⟨t, by rw [e11]; exact n1, by rw [e3]; exact n2, n3⟩
theorem JPfr (h : JP a) (e : ∀ c, (63 < c ∧ c < 119 ∧ (c - 63) % 7 ≠ 0) ∨ (137 ≤ c ∧ c ≤ 141) → a' c = a c) : JP a' := fun s hs p hp => by
  have u1 : got a' (64 + 7 * s) p = got a (64 + 7 * s) p := by
    unfold got
    rw [e _ (by omega), e _ (by omega), e _ (by omega), e _ (by omega), e _ (by omega)]
  have u2 : gm a' s p = gm a s p := by
    unfold gm
    rw [e 137 (by omega), e 138 (by omega), e 139 (by omega), e 140 (by omega), e 141 (by omega)]
  rw [u1, u2]
  exact h s hs p hp
theorem JRfr (h : JR a) (e : ∀ c, c = 39 ∨ c = 40 ∨ c = 41 ∨ c = 155 ∨ c = 156 ∨ c = 157 → a' c = a c) (e41 : a' 127 41 = a 127 41) : JR a' := by
  obtain ⟨pl, hr, td, R, l, r1, r2, r3, r4, r5, r6, r7⟩ := h
  exact ⟨pl, hr, td, R, l, fun h hh => by rw [e 40 (by omega), e 41 (by omega)]; exact r1 h hh, ⟨by rw [e41]; exact r2.1, fun r hr => by rw [e 155 (by omega), e 156 (by omega), e 157 (by omega)]; exact r2.2 r hr⟩, r3, by rw [e 39 (by omega)]; exact r4, r5, r6, by rw [e 39 (by omega)]; exact r7⟩
theorem JXfr (h : JX a) (e : ∀ c, c = 34 ∨ c = 147 → a' c = a c) (e33 : a' 33 0 = a 33 0) (e24 : a' 127 24 = a 127 24) : JX a' := by
  obtain ⟨T, n, x1, x2⟩ := h
  exact ⟨T, n, ⟨by rw [e33]; exact x1.1, x1.2.1, fun j hj => by rw [e 34 (by omega)]; exact x1.2.2 j hj⟩, ⟨by rw [e24]; exact x2.1, x2.2.1, fun j hj => by rw [e 147 (by omega)]; exact x2.2.2 j hj⟩⟩
theorem JGfr (h : JG a b) (e : ∀ c, (53 ≤ c ∧ c ≤ 62) ∨ c = 149 → a' c = a c) (e28 : a' 127 28 = a 127 28) (e29 : a' 127 29 = a 127 29) : JG a' b := by
  obtain ⟨GT, gn, g1, g2, g3, g4, g5, g6⟩ := h
  have hge := (GC_in (b := b)).ge
  exact ⟨GT, gn, g1, g2, g3.fr (fun c h1 h2 => e c (by omega)), fun j hj => by rw [e 149 (by omega)]; exact g4 j hj, by rw [e28]; exact g5, by rw [e29]; exact g6⟩
theorem JHfr (h : JH a) (e : ∀ c, (119 ≤ c ∧ c ≤ 126) ∨ (159 ≤ c ∧ c ≤ 161) → a' c = a c) : JH a' := fun c hc => by
  have := h c hc
  unfold JH1 at this ⊢
  rw [e (119 + 2 * c) (by omega), e (120 + 2 * c) (by omega), e 159 (by omega), e 160 (by omega), e 161 (by omega)]
  exact this
end JPR
def PO (L : Nat) (r : Option Value) : Option Value → am_H → Prop := fun r' h' => r' = r ∧ (∃ x, r = some (.int x)) ∧ ∃ a' b', h' = (CT L, a', RR b') ∧ J a' b'
def KEEP (L fC fM : Nat) (args : List Value) : Prop := ∀ a b, J a b → CALL 59 fC (.ref (12 : Nat) :: args) (CT L, a, RR b) (fun r h => CALL 59 fM (.ref (127 : Nat) :: args) h (PO L r))
section KP1
variable {L : Nat} {b : Bool} {a : Nat → Nat → Int32} {x y z u v w : Int32}
theorem po (h : J a b) : PO L (some (.int x)) (some (.int x)) (CT L, a, RR b) := ⟨rfl, ⟨x, rfl⟩, a, b, rfl, h⟩
theorem po' (h : J a b) (e : y = x) : PO L (some (.int x)) (some (.int y)) (CT L, a, RR b) := by rw [e]; exact po h
theorem J.n (h : J a b) : ∃ n : Nat, n ≤ 16 ∧ a 13 2 = nI n ∧ a 127 0 = nI n := by
  obtain ⟨⟨E, t1, t2, t3, t4, t5⟩, _⟩ := h
  exact ⟨E.n, t1.n, t2.n, t3.n⟩
theorem J.m (h : J a b) : ∃ m : Nat, m ≤ 8 ∧ a 12 10 = nI m ∧ a 127 4 = nI m := by
  obtain ⟨_, ⟨m, s1, s2, s3, _⟩, _⟩ := h
  exact ⟨m, s3, s1, s2⟩
/-- an index below a count -/
theorem win_ix {n : Nat} {x : Int32} (hn : n ≤ 16) (h : win x (nI n - 1) = true) : ∃ i : Nat, i < n ∧ x = nI i := by
  by_cases c0 : n = 0
  · exfalso
    subst c0
    unfold win at h
    have h2 := of_decide_eq_true h
    have e : (nI 0 - 1 : Int32) = -1 := by decide
    rw [e] at h2
    apply h2.2
    rw [Int32.lt_iff_toInt_lt]
    have h3 : ¬ x.toInt < (0 : Int32).toInt := fun g => h2.1 (Int32.lt_iff_toInt_lt.2 g)
    have z0 : (0 : Int32).toInt = 0 := by decide
    have z1 : (-1 : Int32).toInt = -1 := by decide
    omega
  · rw [show nI n - 1 = nI (n - 1) by
      have := nI_pred (n - 1)
      rw [show n - 1 + 1 = n by omega] at this
      exact this] at h
    obtain ⟨i, hi, e⟩ := win_of h (by omega)
    exact ⟨i, by omega, e⟩
theorem keep_where : KEEP L 74 128 [.int x, .int y] := by
  intro a b hJ
  obtain ⟨n, hn, e1, e2⟩ := hJ.n
  cases hc : (win x (nI n - 1) && win y 9999) with
  | false =>
    rw [sp_where_bad (d := 57) (by rw [e1]; exact hc), sm_where_bad (d := 57) (by rw [e2]; exact hc)]
    exact po hJ
  | true =>
    rw [Bool.and_eq_true] at hc
    obtain ⟨i, hi, rfl⟩ := win_ix hn hc.1
    rw [sp_where (d := 57) (by omega) (by rw [e1]; exact hc.1) hc.2, sm_where (d := 57) (by omega) (by rw [e2]; exact hc.1) hc.2]
    refine po' hJ ?_
    obtain ⟨⟨E, t1, t2, t3, t4, t5⟩, _⟩ := hJ
    have hiE : i < E.n := by
      have h1 := t2.n
      rw [e1] at h1
      have := (nI_eq (by omega) (by have := t1.n; omega)).1 h1
      omega
    rw [t2.pl _ (spot_lt y) i hiE, t3.pl _ (spot_lt y) i hiE]
end KP1
