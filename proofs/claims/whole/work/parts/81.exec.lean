/-! what the steps do -/
def b2n (x : Bool) : Nat := if x then 1 else 0
def cmI (v s : Int32) : Bool := cmV (s.toNatClampNeg / 100) (s.toNatClampNeg / 10 % 10) (s.toNatClampNeg % 10) v
def exS (v : Int32) (W : Nat) (s : Int32) : Nat := if s = -3 then (if W % 2 = 1 then W - 1 else W + 1) else if s = -1 then (if W % 2 = 1 then W / 2 else W / 2 / 2 * 2) else if s = -2 then (if W % 2 = 1 then W / 2 / 2 * 2 + 1 else W / 2) else 2 * W + b2n (cmI v s)
def okS (s : Int32) : Prop := s = -1 ∨ s = -2 ∨ s = -3 ∨ ∃ p r e : Nat, p < 4 ∧ r < 3 ∧ e < 10 ∧ s = nI (100 * p + 10 * r + e)
/-- what a reader's steps do: they put what it says on top, need at most h more bits, and are good codes -/
def EXB (h : Nat) (st : List Int32) (vl : Int32 → Bool) : Prop := (∀ v W, st.foldl (exS v) W = 2 * W + b2n (vl v)) ∧ (∀ v W m p, W < 2 ^ m → (st.take p).foldl (exS v) W < 2 ^ (m + h)) ∧ ∀ s, s ∈ st → okS s
theorem b2n_le {x : Bool} : b2n x ≤ 1 := by cases x <;> decide
theorem cd_ne : ∀ c, c < 330 → nI c ≠ -3 ∧ nI c ≠ -1 ∧ nI c ≠ -2 := by decide +kernel
theorem cd_dec : ∀ p, p < 4 → ∀ r, r < 3 → ∀ e, e < 10 → (100 * p + 10 * r + e) / 100 = p ∧ (100 * p + 10 * r + e) / 10 % 10 = r ∧ (100 * p + 10 * r + e) % 10 = e ∧ 100 * p + 10 * r + e < 330 := fun p hp r hr e he => by omega
theorem exS_c {v : Int32} {W p r e : Nat} (hp : p < 4) (hr : r < 3) (he : e < 10) : exS v W (nI (100 * p + 10 * r + e)) = 2 * W + b2n (cmV p r e v) := by
  obtain ⟨d1, d2, d3, d4⟩ := cd_dec p hp r hr e he
  obtain ⟨n1, n2, n3⟩ := cd_ne _ d4
  unfold exS
  rw [if_neg n1, if_neg n2, if_neg n3]
  unfold cmI
  rw [nI_clamp (by omega), d1, d2, d3]
theorem exS_n {v : Int32} {W : Nat} {x : Bool} : exS v (2 * W + b2n x) (-3) = 2 * W + b2n (!x) := by
  unfold exS
  rw [if_pos rfl]
  cases x
  · show (if (2 * W + 0) % 2 = 1 then 2 * W + 0 - 1 else 2 * W + 0 + 1) = 2 * W + 1
    rw [if_neg (by omega)]
  · show (if (2 * W + 1) % 2 = 1 then 2 * W + 1 - 1 else 2 * W + 1 + 1) = 2 * W + 0
    rw [if_pos (by omega)]
    omega
theorem exS_b {v : Int32} {W : Nat} {x y : Bool} : exS v (2 * (2 * W + b2n x) + b2n y) (-1) = 2 * W + b2n (x && y) := by
  unfold exS
  rw [if_neg (by decide), if_pos rfl]
  have hx := b2n_le (x := x)
  cases y
  · show (if (2 * (2 * W + b2n x) + 0) % 2 = 1 then (2 * (2 * W + b2n x) + 0) / 2 else (2 * (2 * W + b2n x) + 0) / 2 / 2 * 2) = _
    rw [if_neg (by omega), Bool.and_false]
    show _ = 2 * W + 0
    omega
  · show (if (2 * (2 * W + b2n x) + 1) % 2 = 1 then (2 * (2 * W + b2n x) + 1) / 2 else (2 * (2 * W + b2n x) + 1) / 2 / 2 * 2) = _
    rw [if_pos (by omega), Bool.and_true]
    omega
theorem exS_e {v : Int32} {W : Nat} {x y : Bool} : exS v (2 * (2 * W + b2n x) + b2n y) (-2) = 2 * W + b2n (x || y) := by
  unfold exS
  rw [if_neg (by decide), if_neg (by decide), if_pos rfl]
  have hx := b2n_le (x := x)
  cases y
  · show (if (2 * (2 * W + b2n x) + 0) % 2 = 1 then (2 * (2 * W + b2n x) + 0) / 2 / 2 * 2 + 1 else (2 * (2 * W + b2n x) + 0) / 2) = _
    rw [if_neg (by omega), Bool.or_false]
    omega
  · show (if (2 * (2 * W + b2n x) + 1) % 2 = 1 then (2 * (2 * W + b2n x) + 1) / 2 / 2 * 2 + 1 else (2 * (2 * W + b2n x) + 1) / 2) = _
    rw [if_pos (by omega), Bool.or_true]
    show _ = 2 * W + 1
    omega
theorem pw_le {a b : Nat} (h : a ≤ b) : 2 ^ a ≤ 2 ^ b := Nat.pow_le_pow_right (by decide) h
theorem EXB_mono {h h' : Nat} {st : List Int32} {vl : Int32 → Bool} (e : EXB h st vl) (hh : h ≤ h') : EXB h' st vl := ⟨e.1, fun v W m p hW => Nat.lt_of_lt_of_le (e.2.1 v W m p hW) (pw_le (by omega)), e.2.2⟩
theorem EXB_c {p r e : Nat} (hp : p < 4) (hr : r < 3) (he : e < 10) : EXB 1 [nI (100 * p + 10 * r + e)] (cmV p r e) := by
  refine ⟨fun v W => exS_c hp hr he, fun v W m q hW => ?_, fun s hs => ?_⟩
  · have h2 : 2 ^ (m + 1) = 2 * 2 ^ m := by rw [Nat.pow_succ, Nat.mul_comm]
    rcases (show q = 0 ∨ 1 ≤ q by omega) with rfl | hq
    · show W < _; omega
    · rw [List.take_of_length_le (by simpa using hq)]
      show exS v W _ < _
      rw [exS_c hp hr he]
      have := b2n_le (x := cmV p r e v)
      omega
  · have : s = nI (100 * p + 10 * r + e) := by simpa using hs
    exact Or.inr (Or.inr (Or.inr ⟨p, r, e, hp, hr, he, this⟩))
theorem tk_app {st st2 : List Int32} {p : Nat} : (st ++ st2).take p = if p ≤ st.length then st.take p else st ++ st2.take (p - st.length) := by
  by_cases c : p ≤ st.length
  · rw [if_pos c]; exact List.take_append_of_le_length c
  · rw [if_neg c, List.take_append, List.take_of_length_le (by omega)]
theorem EXB_n {h : Nat} {st : List Int32} {vl : Int32 → Bool} (e : EXB h st vl) (hh : 1 ≤ h) : EXB h (st ++ [-3]) (fun v => !vl v) := by
  refine ⟨fun v W => by rw [List.foldl_append, e.1 v W]; exact exS_n (v := v), fun v W m p hW => ?_, fun s hs => ?_⟩
  · rw [tk_app]
    by_cases c : p ≤ st.length
    · rw [if_pos c]; exact e.2.1 v W m p hW
    · rw [if_neg c, List.take_of_length_le (by show 1 ≤ _; omega), List.foldl_append, e.1 v W]
      show exS v _ (-3) < _
      rw [exS_n]
      have := b2n_le (x := !vl v)
      have h2 : 2 ^ (m + 1) = 2 * 2 ^ m := by rw [Nat.pow_succ, Nat.mul_comm]
      have := pw_le (show m + 1 ≤ m + h by omega)
      omega
  · rw [List.mem_append] at hs
    rcases hs with hs | hs
    · exact e.2.2 s hs
    · exact Or.inr (Or.inr (Or.inl (by simpa using hs)))
theorem EXB_l {h : Nat} {st st2 : List Int32} {vl vl2 : Int32 → Bool} {sg : Int32} {op : Bool → Bool → Bool} (e : EXB (h + 1) st vl) (e2 : EXB h st2 vl2) (hsg : okS sg) (hop : ∀ v W x y, exS v (2 * (2 * W + b2n x) + b2n y) sg = 2 * W + b2n (op x y)) : EXB (h + 1) (st ++ st2 ++ [sg]) (fun v => op (vl v) (vl2 v)) := by
  have hfull : ∀ v W, (st ++ st2).foldl (exS v) W = 2 * (2 * W + b2n (vl v)) + b2n (vl2 v) := fun v W => by rw [List.foldl_append, e.1 v W, e2.1]
  refine ⟨fun v W => by rw [List.foldl_append, hfull]; exact hop _ _ _ _, fun v W m p hW => ?_, fun s hs => ?_⟩
  · have h2 : 2 ^ (m + 1) = 2 * 2 ^ m := by rw [Nat.pow_succ, Nat.mul_comm]
    have b1 := b2n_le (x := vl v)
    rw [tk_app]
    by_cases c : p ≤ (st ++ st2).length
    · rw [if_pos c, tk_app]
      by_cases c2 : p ≤ st.length
      · rw [if_pos c2]; exact e.2.1 v W m p hW
      · rw [if_neg c2, List.foldl_append, e.1 v W]
        have := e2.2.1 v (2 * W + b2n (vl v)) (m + 1) (p - st.length) (by omega)
        rw [show m + (h + 1) = m + 1 + h by omega]
        exact this
    · rw [if_neg c, List.take_of_length_le (by show 1 ≤ _; omega), List.foldl_append, hfull]
      show exS v _ sg < _
      rw [hop]
      have := b2n_le (x := op (vl v) (vl2 v))
      have := pw_le (show m + 1 ≤ m + (h + 1) by omega)
      omega
  · rw [List.mem_append, List.mem_append] at hs
    rcases hs with (hs | hs) | hs
    · exact e.2.2 s hs
    · exact e2.2.2 s hs
    · have : s = sg := by simpa using hs
      rw [this]; exact hsg
section EXF
variable {T : Nat → Nat} {n : Nat} {f : Nat → Bool × Nat × List Int32 × (Int32 → Bool)}
def EXR (h : Nat) (f : Nat → Bool × Nat × List Int32 × (Int32 → Bool)) : Prop := ∀ i, (f i).1 = true → EXB h (f i).2.2.1 (f i).2.2.2
theorem ex_cmp : EXR 1 (pCmp T n) := fun i h => by
  unfold pCmp at h ⊢
  by_cases c1 : 4 ≤ ptN (nxc T n i)
  · rw [if_pos c1] at h; exact absurd (show false = true from h) Bool.false_ne_true
  · rw [if_neg c1] at h ⊢
    by_cases c2 : 3 ≤ rlN (nxc T n (skp T n i + 1))
    · rw [if_pos c2] at h; exact absurd (show false = true from h) Bool.false_ne_true
    · rw [if_neg c2] at h ⊢
      by_cases c3 : 10 ≤ dgN (nxc T n (skp T n (skp T n i + 1) + 1))
      · rw [if_pos c3] at h; exact absurd (show false = true from h) Bool.false_ne_true
      · rw [if_neg c3]
        exact EXB_c (by omega) (by omega) (by omega)
theorem ex_clm {o : Bool} {h : Nat} (hh : 1 ≤ h) (hf : o = true → EXR h f) : EXR h (pClm T n o f) := fun i hi => by
  have hin : EXR h (pIn T n o f) := fun j hj => by
    unfold pIn at hj ⊢
    cases hc : (o && tkp T n j 40) with
    | false =>
      rw [hc, if_neg (by decide)] at hj
      rw [if_neg (by decide)]
      exact EXB_mono (ex_cmp j hj) hh
    | true =>
      rw [hc, if_pos rfl] at hj
      rw [if_pos rfl]
      rw [Bool.and_eq_true] at hc
      have h2 : ((f (tkI T n j 40)).1 && tkp T n (f (tkI T n j 40)).2.1 41) = true := hj
      rw [Bool.and_eq_true] at h2
      exact hf hc.1 _ h2.1
  unfold pClm at hi ⊢
  cases hc : (tkp T n i 33 && (pIn T n o f (tkI T n i 33)).1) with
  | false =>
    rw [hc, if_neg (by decide)] at hi
    rw [if_neg (by decide)]
    exact hin _ hi
  | true =>
    rw [Bool.and_eq_true] at hc
    rw [if_pos rfl]
    exact EXB_n (hin _ hc.2) hh
theorem ex_lpF {c h : Nat} {sg : Int32} {op : Bool → Bool → Bool} (hf : EXR h f) (hsg : okS sg) (hop : ∀ v W x y, exS v (2 * (2 * W + b2n x) + b2n y) sg = 2 * W + b2n (op x y)) : ∀ k r, EXB (h + 1) r.2.2.1 r.2.2.2 → (lpF T n c sg op f k r).1 = true → EXB (h + 1) (lpF T n c sg op f k r).2.2.1 (lpF T n c sg op f k r).2.2.2
  | 0, r, e, _ => e
  | k + 1, r, e, hr => by
    unfold lpF at hr ⊢
    cases ht : tkp T n r.2.1 c with
    | false => rw [if_neg (by decide)]; exact e
    | true =>
      rw [ht, if_pos rfl] at hr
      rw [if_pos rfl]
      cases ho : (f (tkI T n r.2.1 c)).1 with
      | false => rw [ho, if_neg (by decide)] at hr; exact absurd (show false = true from hr) Bool.false_ne_true
      | true =>
        rw [ho, if_pos rfl] at hr
        rw [if_pos rfl]
        exact ex_lpF hf hsg hop k _ (EXB_l e (hf _ ho) hsg hop) hr
theorem ex_lp {c h : Nat} {sg : Int32} {op : Bool → Bool → Bool} (hf : EXR h f) (hsg : okS sg) (hop : ∀ v W x y, exS v (2 * (2 * W + b2n x) + b2n y) sg = 2 * W + b2n (op x y)) : EXR (h + 1) (pLp T n c sg op f) := fun i hi => by
  unfold pLp at hi ⊢
  cases ho : (f i).1 with
  | false => rw [ho, if_neg (by decide)] at hi; rw [ho] at hi; exact absurd hi Bool.false_ne_true
  | true =>
    rw [ho, if_pos rfl] at hi
    rw [if_pos rfl]
    exact ex_lpF hf hsg hop 120 _ (EXB_mono (hf i ho) (by omega)) hi
theorem ex_T : ∀ k, EXR (2 * k + 3) (pT T n k)
  | 0 => ex_lp (ex_lp (ex_clm (Nat.le_refl _) (fun h => absurd h (by decide))) (Or.inl rfl) (fun _ _ _ _ => exS_b)) (Or.inr (Or.inl rfl)) (fun _ _ _ _ => exS_e)
  | k + 1 => by
    have h := ex_lp (T := T) (n := n) (c := 124) (ex_lp (T := T) (n := n) (c := 38) (ex_clm (T := T) (n := n) (o := true) (show 1 ≤ 2 * k + 3 by omega) (fun _ => ex_T k)) (Or.inl rfl) (fun _ _ _ _ => exS_b)) (Or.inr (Or.inl rfl)) (fun _ _ _ _ => exS_e)
    exact h
end EXF
