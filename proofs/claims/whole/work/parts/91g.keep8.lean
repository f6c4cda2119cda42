/-! new sayings keep J -/
section KP8
variable {L : Nat} {b : Bool} {a a' : Nat → Nat → Int32} {x y z u v w : Int32}
theorem J.add {m : Nat} (h : J a b) (hm : JS a m) (h8 : m < 8) (e : ∀ c, c ≠ 12 → c ≠ 127 → c ≠ 63 + 7 * m → (c < 130 ∨ 135 < c) → a' c = a c) (e12 : ∀ j, j ≠ 10 → a' 12 j = a 12 j) (e127 : ∀ j, j ≠ 4 → a' 127 j = a 127 j) (er : ∀ c, 130 ≤ c → c ≤ 135 → ∀ i, i ≠ m → a' c i = a c i) (n1 : a' 12 10 = nI (m + 1)) (n2 : a' 127 4 = nI (m + 1)) (n3 : JS1 a' m) (n4 : a' (63 + 7 * m) 6 = a (63 + 7 * m) 6) (n5 : a' 135 m = 0) (n6 : ∃ v : Nat, v < 10000 ∧ a' 131 m = nI v) : J a' b := by
  obtain ⟨hT, _, hN, hP, hR, hX, hG, hH⟩ := h
  obtain ⟨s1, s2, s3, s4, s5, s6⟩ := hm
  have e63 : ∀ s, s ≠ m → s < 8 → a' (63 + 7 * s) = a (63 + 7 * s) := fun s hs h => e _ (by omega) (by omega) (by omega) (by omega)
  refine ⟨JTfr hT (fun c hc => e c (by omega) (by omega) (by omega) (by omega)) (e127 0 (by decide)), ⟨m + 1, n1, n2, h8, fun s hs => ?_, fun s hs => ?_, fun s hs => ?_⟩, JNfr hN (e12 11 (by decide)) (e127 3 (by decide)), JPfr hP (fun c hc => e c (by omega) (by omega) (by omega) (by omega)), JRfr hR (fun c hc => e c (by omega) (by omega) (by omega) (by omega)) (e127 41 (by decide)), JXfr hX (fun c hc => e c (by omega) (by omega) (by omega) (by omega)) (by rw [e 33 (by omega) (by omega) (by omega) (by omega)]) (e127 24 (by decide)), JGfr hG (fun c hc => e c (by omega) (by omega) (by omega) (by omega)) (e127 28 (by decide)) (e127 29 (by decide)), JHfr hH (fun c hc => e c (by omega) (by omega) (by omega) (by omega))⟩
  · by_cases c : s = m
    · rw [c]; exact n3
    · have q := s4 s (by omega)
      unfold JS1 at q ⊢
      rw [e63 s c (by omega), er 130 (by decide) (by decide) s c, er 131 (by decide) (by decide) s c, er 132 (by decide) (by decide) s c, er 133 (by decide) (by decide) s c, er 134 (by decide) (by decide) s c]
      exact q
  · by_cases c : s = m
    · subst c
      rw [n4, s5 s hs, if_neg (by omega), if_pos (by omega), n5]
    · rw [e63 s c hs, er 135 (by decide) (by decide) s c, s5 s hs]
      by_cases c2 : s < m
      · rw [if_pos c2, if_pos (by omega)]
      · rw [if_neg c2, if_neg (by omega)]
  · by_cases c : s = m
    · rw [c]; exact n6
    · rw [er 131 (by decide) (by decide) s c]; exact s6 s hs
/-- the rows of a saying that comes up -/
theorem newM_c {m c : Nat} {k v o h : Int32} {yy : Bool} (h1 : c < 130 ∨ 135 < c) (h2 : c ≠ 127) : newM a m k v o h yy c = a c := by
  unfold newM
  rw [au_d (by omega), au_d (by omega), au_d (by omega), au_d (by omega), au_d (by omega), au_d (by omega), au_d (by omega)]
theorem newM_127 {m j : Nat} {k v o h : Int32} {yy : Bool} : newM a m k v o h yy 127 j = if j = 4 then nI (m + 1) else a 127 j := by
  unfold newM
  rw [au_k, au_d (by decide), au_d (by decide), au_d (by decide), au_d (by decide), au_d (by decide), au_d (by decide)]
theorem newM_0 {m i : Nat} {k v o h : Int32} {yy : Bool} : newM a m k v o h yy 130 i = if i = m then k else a 130 i := by
  unfold newM
  rw [au_d (by decide), au_d (by decide), au_d (by decide), au_d (by decide), au_d (by decide), au_d (by decide), au_k]
theorem newM_1 {m i : Nat} {k v o h : Int32} {yy : Bool} : newM a m k v o h yy 131 i = if i = m then v else a 131 i := by
  unfold newM
  rw [au_d (by decide), au_d (by decide), au_d (by decide), au_d (by decide), au_d (by decide), au_k, au_d (by decide)]
theorem newM_2 {m i : Nat} {k v o h : Int32} {yy : Bool} : newM a m k v o h yy 132 i = if i = m then o else a 132 i := by
  unfold newM
  rw [au_d (by decide), au_d (by decide), au_d (by decide), au_d (by decide), au_k, au_d (by decide), au_d (by decide)]
theorem newM_3 {m i : Nat} {k v o h : Int32} {yy : Bool} : newM a m k v o h yy 133 i = if i = m then h else a 133 i := by
  unfold newM
  rw [au_d (by decide), au_d (by decide), au_d (by decide), au_k, au_d (by decide), au_d (by decide), au_d (by decide)]
theorem newM_4 {m i : Nat} {k v o h : Int32} {yy : Bool} : newM a m k v o h yy 134 i = if i = m then bi yy else a 134 i := by
  unfold newM
  rw [au_d (by decide), au_d (by decide), au_k, au_d (by decide), au_d (by decide), au_d (by decide), au_d (by decide)]
theorem newM_5 {m i : Nat} {k v o h : Int32} {yy : Bool} : newM a m k v o h yy 135 i = if i = m then 0 else a 135 i := by
  unfold newM
  rw [au_d (by decide), au_k, au_d (by decide), au_d (by decide), au_d (by decide), au_d (by decide), au_d (by decide)]
/-- both have taken the saying up -/
theorem J.new {m : Nat} {A : Nat → Nat → Int32} {k o h : Int32} {yy : Bool} {vv : Nat} (hJ : J a b) (hm : JS a m) (h8 : m < 8) (hv : vv < 10000) (eA : ∀ c, c ≠ 12 → c ≠ 63 + 7 * m → A c = a c) (eA12 : ∀ j, j ≠ 10 → A 12 j = a 12 j) (q10 : A 12 10 = nI (m + 1)) (q1 : A (63 + 7 * m) 1 = k) (q2 : A (63 + 7 * m) 2 = nI vv) (q3 : k = 1 ∨ k = 2 → A (63 + 7 * m) 3 = o) (q4 : k = 2 → A (63 + 7 * m) 4 = h) (q5 : k = 3 → A (63 + 7 * m) 5 = bi yy) (q6 : A (63 + 7 * m) 6 = a (63 + 7 * m) 6) : J (newM A m k (nI vv) o h yy) b := by
  refine hJ.add hm h8 (fun c c1 c2 c3 c4 => by rw [newM_c c4 c2]; exact eA c c1 c3) (fun j hj => by rw [newM_c (by omega) (by decide)]; exact eA12 j hj) (fun j hj => by rw [newM_127, if_neg hj, eA 127 (by decide) (by omega)]) (fun c c1 c2 i hi => ?_) (by rw [newM_c (by omega) (by decide)]; exact q10) (by rw [newM_127, if_pos rfl]) ?_ (by rw [newM_c (by omega) (by omega)]; exact q6) (by rw [newM_5, if_pos rfl]) ⟨vv, hv, by rw [newM_1, if_pos rfl]⟩
  · rcases (show c = 130 ∨ c = 131 ∨ c = 132 ∨ c = 133 ∨ c = 134 ∨ c = 135 by omega) with rfl | rfl | rfl | rfl | rfl | rfl
    · rw [newM_0, if_neg hi, eA _ (by decide) (by omega)]
    · rw [newM_1, if_neg hi, eA _ (by decide) (by omega)]
    · rw [newM_2, if_neg hi, eA _ (by decide) (by omega)]
    · rw [newM_3, if_neg hi, eA _ (by decide) (by omega)]
    · rw [newM_4, if_neg hi, eA _ (by decide) (by omega)]
    · rw [newM_5, if_neg hi, eA _ (by decide) (by omega)]
  · unfold JS1
    rw [newM_c (show 63 + 7 * m < 130 ∨ 135 < 63 + 7 * m by omega) (by omega), newM_0, newM_1, newM_2, newM_3, newM_4, if_pos rfl, if_pos rfl, if_pos rfl, if_pos rfl, if_pos rfl]
    exact ⟨q1, q2, q3, q4, q5, bi_01 yy⟩
theorem newC_c {m c : Nat} {k v : Int32} (h1 : c ≠ 12) (h2 : c ≠ 63 + 7 * m) : newC a m k v c = a c := by
  unfold newC
  rw [au_d h1, au_d h2, au_d h2]
theorem newC_12 {m j : Nat} {k v : Int32} : newC a m k v 12 j = if j = 10 then nI (m + 1) else a 12 j := by
  unfold newC
  rw [au_k, au_d (by omega), au_d (by omega)]
theorem newC_s {m j : Nat} {k v : Int32} : newC a m k v (63 + 7 * m) j = if j = 2 then v else if j = 1 then k else a (63 + 7 * m) j := by
  unfold newC
  rw [au_d (by omega), au_k, au_k]
theorem tog_nI {x1 x2 x3 x4 : Int32} (h : (win x1 9 && win x2 9 && win x3 9 && win x4 9) = true) : ∃ vv : Nat, vv < 10000 ∧ tog x1 x2 x3 x4 = nI vv := by
  rw [Bool.and_eq_true, Bool.and_eq_true, Bool.and_eq_true] at h
  obtain ⟨⟨⟨w1, w2⟩, w3⟩, w4⟩ := h
  obtain ⟨k1, g1, rfl⟩ := win_of (n := 9) w1 (by decide)
  obtain ⟨k2, g2, rfl⟩ := win_of (n := 9) w2 (by decide)
  obtain ⟨k3, g3, rfl⟩ := win_of (n := 9) w3 (by decide)
  obtain ⟨k4, g4, rfl⟩ := win_of (n := 9) w4 (by decide)
  refine ⟨1000 * k1 + 100 * k2 + 10 * k3 + k4, by omega, ?_⟩
  unfold tog
  rw [show (1000 : Int32) = nI 1000 from rfl, show (100 : Int32) = nI 100 from rfl, show (10 : Int32) = nI 10 from rfl, pk_mul, pk_mul, pk_mul, nI_add, nI_add, nI_add]
theorem keep_plain : KEEP L 75 138 [.int x, .int y, .int z, .int u] := by
  intro a b hJ
  obtain ⟨m, hm⟩ := hJ.2.1
  obtain ⟨s1, s2, s3, s4, s5, s6⟩ := id hm
  cases hc : (win x 9 && win y 9 && win z 9 && win u 9) with
  | false =>
    rw [sp_plain_bad (d := 57) hc, sm_plain_bad (d := 56) hc]
    exact po hJ
  | true =>
    by_cases h8 : m < 8
    · obtain ⟨vv, hv, ev⟩ := tog_nI hc
      rw [sp_plain (d := 57) s1 h8 hc, sm_plain (d := 56) (by rw [newC_c (by decide) (by omega)]; exact s2) h8 hc, ev]
      exact po (hJ.new hm h8 hv (fun c c1 c2 => newC_c c1 c2) (fun j hj => by rw [newC_12, if_neg hj]) (by rw [newC_12, if_pos rfl]) (by rw [newC_s, if_neg (by decide), if_pos rfl]) (by rw [newC_s, if_pos rfl]) (fun h => absurd h (by decide)) (fun h => absurd h (by decide)) (fun h => absurd h (by decide)) (by rw [newC_s, if_neg (by decide), if_neg (by decide)]))
    · have : m = 8 := by omega
      subst this
      rw [sp_plain_full (d := 57) s1 hc, sm_plain_full (d := 56) s2 hc]
      exact po hJ
theorem keep_real {yy : Bool} : KEEP L 78 141 [.int x, .int y, .int z, .int u, .int (bi yy)] := by
  intro a b hJ
  obtain ⟨m, hm⟩ := hJ.2.1
  obtain ⟨s1, s2, s3, s4, s5, s6⟩ := id hm
  cases hc : (win x 9 && win y 9 && win z 9 && win u 9) with
  | false =>
    rw [sp_real_bad (d := 57) hc, sm_real_bad (d := 56) hc]
    exact po hJ
  | true =>
    by_cases h8 : m < 8
    · obtain ⟨vv, hv, ev⟩ := tog_nI hc
      rw [sp_real (d := 57) s1 h8 hc, sm_real (d := 56) (by rw [au_d (by omega), newC_c (by decide) (by omega)]; exact s2) h8 hc, ev]
      exact po (hJ.new hm h8 hv (fun c c1 c2 => by rw [au_d c2]; exact newC_c c1 c2) (fun j hj => by rw [au_d (by omega), newC_12, if_neg hj]) (by rw [au_d (by omega), newC_12, if_pos rfl]) (by rw [au_sd (by decide), newC_s, if_neg (by decide), if_pos rfl]) (by rw [au_sd (by decide), newC_s, if_pos rfl]) (fun h => absurd h (by decide)) (fun h => absurd h (by decide)) (fun _ => au_ss) (by rw [au_sd (by decide), newC_s, if_neg (by decide), if_neg (by decide)]))
    · have : m = 8 := by omega
      subst this
      rw [sp_real_full (d := 57) s1 hc, sm_real_full (d := 56) s2 hc]
      exact po hJ
theorem keep_planted : KEEP L 77 140 [.int x, .int y] := by
  intro a b hJ
  obtain ⟨m, hm⟩ := hJ.2.1
  obtain ⟨s1, s2, s3, s4, s5, s6⟩ := id hm
  cases hc : (win x (nI m - 1) && win y 9999) with
  | false =>
    rw [sp_planted_bad (d := 57) (by rw [s1]; exact hc), sm_planted_bad (d := 57) (by rw [s2]; exact hc)]
    exact po hJ
  | true =>
    rw [Bool.and_eq_true] at hc
    obtain ⟨s, hs, rfl⟩ := win_ix (by omega) hc.1
    by_cases h8 : m < 8
    · obtain ⟨vv, hv, ev⟩ := s6 s (by omega)
      rw [sp_planted (d := 57) s1 h8 hs hc.2, sm_planted (d := 57) (by rw [au_d (by omega), au_d (by omega), newC_c (by decide) (by omega)]; exact s2) h8 hs hc.2, au_d (show (131 : Nat) ≠ 63 + 7 * m by omega), au_d (show (131 : Nat) ≠ 63 + 7 * m by omega), newC_c (by decide) (by omega), (s4 s hs).2.1, ev]
      exact po (hJ.new hm h8 hv (fun c c1 c2 => by rw [au_d c2, au_d c2]; exact newC_c c1 c2) (fun j hj => by rw [au_d (by omega), au_d (by omega), newC_12, if_neg hj]) (by rw [au_d (by omega), au_d (by omega), newC_12, if_pos rfl]) (by rw [au_sd (by decide), au_sd (by decide), newC_s, if_neg (by decide), if_pos rfl]) (by rw [au_sd (by decide), au_sd (by decide), newC_s, if_pos rfl]) (fun _ => by rw [au_sd (by decide), au_ss]) (fun _ => au_ss) (fun h => absurd h (by decide)) (by rw [au_sd (by decide), au_sd (by decide), newC_s, if_neg (by decide), if_neg (by decide)]))
    · have : m = 8 := by omega
      subst this
      rw [sp_planted_full (d := 57) s1 hs hc.2, sm_planted_full (d := 57) s2 hs hc.2]
      exact po hJ
end KP8
