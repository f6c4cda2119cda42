/-! the law's loop, and its whole run -/
section LLP
variable {L : Nat} {Q : Option Value → am_H → Prop}
theorem e6_nI : (6 : Int32) = nI 6 := by decide +kernel
theorem law_head {L i : Nat} (hL : L ≤ 3072) (hi : i ≤ 3078) : (Int32.ofNat L - 6 < nI i) = (L < i + 6) := by
  refine propext ?_
  rw [e6_nI, Int32.lt_iff_toInt_lt, show Int32.ofNat L = nI L from rfl, pk_sub_toInt (by omega) (by omega), nI_toInt (by omega)]
  omega
theorem inI {i k : Nat} {c : Int32} (hc : c = nI k) (h : i + k < L) (hL : L ≤ 3072) : inb (nI i + c) (am_len (CT L) 0) := by
  rw [hc, nI_add, ln_0]
  exact inb_nI h (by omega)
theorem law_hd {a : Nat → Nat → Int32} {b : Bool} {i : Nat} (hL : L ≤ 3072) (hi : i ≤ 3078) : AW (59 + 1) 0 18 (LOC (nI i)) [] (CT L, a, RR b) Q = if L < i + 6 then Q (some (.int 1)) (CT L, a, RR b) else AW (59 + 1) 0 27 (LOC (nI i)) [] (CT L, a, RR b) Q := by
  unfold LOC
  simp (disch := (first | exact tg_0 | exact Or.inr rfl)) only [st_L_law_18, st_L_law_19, st_L_law_20, st_L_law_21, st_L_law_23, st_L_law_24, ln_0, law_head hL hi, st_L_law_1585, st_L_law_1586]
set_option maxRecDepth 100000 in
set_option maxHeartbeats 4000000 in
theorem law_step {a : Nat → Nat → Int32} {b : Bool} {I : Int32} (hJ : J a b) (h0 : inb I (am_len (CT L) 0)) (h1 : inb (I + 1) (am_len (CT L) 0)) (h2 : inb (I + 2) (am_len (CT L) 0)) (h3 : inb (I + 3) (am_len (CT L) 0)) (h4 : inb (I + 4) (am_len (CT L) 0)) (h5 : inb (I + 5) (am_len (CT L) 0)) (hn : ∀ a' b', J a' b' → AW (59 + 1) 0 18 (LOC (I + 6)) [] (CT L, a', RR b') Q) : AW (59 + 1) 0 27 (LOC I) [] (CT L, a, RR b) Q := by
  have hn' : ∀ a' b', J a' b' → AW (59 + 1) 0 1579 (LOC I) [] (CT L, a', RR b') Q := by
    intro a' b' hJ'
    have w := hn a' b' hJ'
    unfold LOC at w ⊢
    simp only [st_L_law_1579, st_L_law_1582, am_nlR]
    exact w
  have e : ∀ x : Int32, a 0 I.toNatClampNeg &&& 63 = x → AW (59 + 1) 0 27 (LOC I) [] (CT L, a, RR b) Q = AW (59 + 1) 0 (if x < 0 ∨ 37 ≤ x.toNatClampNeg then 1579 else ([196, 259, 302, 335, 388, 431, 464, 543, 576, 609, 642, 685, 708, 731, 764, 787, 820, 843, 866, 899, 932, 995, 1008, 1041, 1064, 1107, 1130, 1189, 1202, 1245, 1268, 1301, 1364, 1407, 1430, 1483, 1546] : List Nat).getD x.toNatClampNeg 0) (LOC I) [] (CT L, a, RR b) Q := by
    intro x hx
    unfold LOC
    simp (disch := (first | exact tg_0 | assumption)) only [st_L_law_27, st_L_law_28, st_L_law_29, st_L_law_30, st_L_law_32, st_L_law_33, hx]
  rw [e _ rfl]
  generalize a 0 I.toNatClampNeg &&& 63 = x
  by_cases c : x < 0 ∨ 37 ≤ x.toNatClampNeg
  · rw [if_pos c]
    exact hn' a b hJ
  · rw [if_neg c]
    have hk : x.toNatClampNeg < 37 := Nat.lt_of_not_le (fun q => c (Or.inr q))
    generalize x.toNatClampNeg = k at hk
    match k, hk with
    | 0, _ => exact (show AW (59 + 1) 0 196 (LOC I) [] (CT L, a, RR b) Q from lw_person hJ hn' h1 h2 h3 h4 h5)
    | 1, _ => exact (show AW (59 + 1) 0 259 (LOC I) [] (CT L, a, RR b) Q from lw_set hJ hn' h1 h2 h3 h4 h5)
    | 2, _ => exact (show AW (59 + 1) 0 302 (LOC I) [] (CT L, a, RR b) Q from lw_where hJ hn' h1 h2 h3 h4 h5)
    | 3, _ => exact (show AW (59 + 1) 0 335 (LOC I) [] (CT L, a, RR b) Q from lw_plain hJ hn' h1 h2 h3 h4 h5)
    | 4, _ => exact (show AW (59 + 1) 0 388 (LOC I) [] (CT L, a, RR b) Q from lw_changed hJ hn' h1 h2 h3 h4 h5)
    | 5, _ => exact (show AW (59 + 1) 0 431 (LOC I) [] (CT L, a, RR b) Q from lw_planted hJ hn' h1 h2 h3 h4 h5)
    | 6, _ => exact (show AW (59 + 1) 0 464 (LOC I) [] (CT L, a, RR b) Q from lw_real hJ hn' h1 h2 h3 h4 h5)
    | 7, _ => exact (show AW (59 + 1) 0 543 (LOC I) [] (CT L, a, RR b) Q from lw_told hJ hn' h1 h2 h3 h4 h5)
    | 8, _ => exact (show AW (59 + 1) 0 576 (LOC I) [] (CT L, a, RR b) Q from lw_weight hJ hn' h1 h2 h3 h4 h5)
    | 9, _ => exact (show AW (59 + 1) 0 609 (LOC I) [] (CT L, a, RR b) Q from lw_begin hJ hn' h1 h2 h3 h4 h5)
    | 10, _ => exact (show AW (59 + 1) 0 642 (LOC I) [] (CT L, a, RR b) Q from lw_knows hJ hn' h1 h2 h3 h4 h5)
    | 11, _ => exact (show AW (59 + 1) 0 685 (LOC I) [] (CT L, a, RR b) Q from lw_count hJ hn' h1 h2 h3 h4 h5)
    | 12, _ => exact (show AW (59 + 1) 0 708 (LOC I) [] (CT L, a, RR b) Q from lw_hours hJ hn' h1 h2 h3 h4 h5)
    | 13, _ => exact (show AW (59 + 1) 0 731 (LOC I) [] (CT L, a, RR b) Q from lw_reach hJ hn' h1 h2 h3 h4 h5)
    | 14, _ => exact (show AW (59 + 1) 0 764 (LOC I) [] (CT L, a, RR b) Q from lw_harm hJ hn' h1 h2 h3 h4 h5)
    | 15, _ => exact (show AW (59 + 1) 0 787 (LOC I) [] (CT L, a, RR b) Q from lw_deny hJ hn' h1 h2 h3 h4 h5)
    | 16, _ => exact (show AW (59 + 1) 0 820 (LOC I) [] (CT L, a, RR b) Q from lw_found hJ hn' h1 h2 h3 h4 h5)
    | 17, _ => exact (show AW (59 + 1) 0 843 (LOC I) [] (CT L, a, RR b) Q from lw_foretold hJ hn' h1 h2 h3 h4 h5)
    | 18, _ => exact (show AW (59 + 1) 0 866 (LOC I) [] (CT L, a, RR b) Q from lw_wording hJ hn' h1 h2 h3 h4 h5)
    | 19, _ => exact (show AW (59 + 1) 0 899 (LOC I) [] (CT L, a, RR b) Q from lw_plan hJ hn' h1 h2 h3 h4 h5)
    | 20, _ => exact (show AW (59 + 1) 0 932 (LOC I) [] (CT L, a, RR b) Q from lw_type hJ hn' h1 h2 h3 h4 h5)
    | 21, _ => exact (show AW (59 + 1) 0 995 (LOC I) [] (CT L, a, RR b) Q from lw_guide hJ hn' h1 h2 h3 h4 h5)
    | 22, _ => exact (show AW (59 + 1) 0 1008 (LOC I) [] (CT L, a, RR b) Q from lw_why hJ hn' h1 h2 h3 h4 h5)
    | 23, _ => exact (show AW (59 + 1) 0 1041 (LOC I) [] (CT L, a, RR b) Q from lw_versions hJ hn' h1 h2 h3 h4 h5)
    | 24, _ => exact (show AW (59 + 1) 0 1064 (LOC I) [] (CT L, a, RR b) Q from lw_version hJ hn' h1 h2 h3 h4 h5)
    | 25, _ => exact (show AW (59 + 1) 0 1107 (LOC I) [] (CT L, a, RR b) Q from lw_kin hJ hn' h1 h2 h3 h4 h5)
    | 26, _ => exact (show AW (59 + 1) 0 1130 (LOC I) [] (CT L, a, RR b) Q from lw_report hJ hn' h1 h2 h3 h4 h5)
    | 27, _ => exact (show AW (59 + 1) 0 1189 (LOC I) [] (CT L, a, RR b) Q from lw_clear hJ hn' h1 h2 h3 h4 h5)
    | 28, _ => exact (show AW (59 + 1) 0 1202 (LOC I) [] (CT L, a, RR b) Q from lw_could hJ hn' h1 h2 h3 h4 h5)
    | 29, _ => exact (show AW (59 + 1) 0 1245 (LOC I) [] (CT L, a, RR b) Q from lw_first hJ hn' h1 h2 h3 h4 h5)
    | 30, _ => exact (show AW (59 + 1) 0 1268 (LOC I) [] (CT L, a, RR b) Q from lw_posts hJ hn' h1 h2 h3 h4 h5)
    | 31, _ => exact (show AW (59 + 1) 0 1301 (LOC I) [] (CT L, a, RR b) Q from lw_check hJ hn' h1 h2 h3 h4 h5)
    | 32, _ => exact (show AW (59 + 1) 0 1364 (LOC I) [] (CT L, a, RR b) Q from lw_sheet hJ hn' h1 h2 h3 h4 h5)
    | 33, _ => exact (show AW (59 + 1) 0 1407 (LOC I) [] (CT L, a, RR b) Q from lw_drop hJ hn' h1 h2 h3 h4 h5)
    | 34, _ => exact (show AW (59 + 1) 0 1430 (LOC I) [] (CT L, a, RR b) Q from lw_item hJ hn' h1 h2 h3 h4 h5)
    | 35, _ => exact (show AW (59 + 1) 0 1483 (LOC I) [] (CT L, a, RR b) Q from lw_copy hJ hn' h1 h2 h3 h4 h5)
    | 36, _ => exact (show AW (59 + 1) 0 1546 (LOC I) [] (CT L, a, RR b) Q from lw_reads hJ hn' h1 h2 h3 h4 h5)
    | n + 37, h => exact absurd h (by omega)
theorem law_loop (hL : L ≤ 3072) : ∀ (n i : Nat), L ≤ i + n → i ≤ 3078 → ∀ a b, J a b → AW (59 + 1) 0 18 (LOC (nI i)) [] (CT L, a, RR b) (fun r h' => r = some (.int 1) ∧ ∃ a' b', h' = (CT L, a', RR b')) := by
  intro n
  induction n with
  | zero =>
    intro i h1 h2 a b hJ
    rw [law_hd hL h2, if_pos (by omega)]
    exact ⟨rfl, a, b, rfl⟩
  | succ n ih =>
    intro i h1 h2 a b hJ
    rw [law_hd hL h2]
    by_cases c : L < i + 6
    · rw [if_pos c]
      exact ⟨rfl, a, b, rfl⟩
    · rw [if_neg c]
      refine law_step hJ ?_ (inI (k := 1) (by decide +kernel) (by omega) hL) (inI (k := 2) (by decide +kernel) (by omega) hL) (inI (k := 3) (by decide +kernel) (by omega) hL) (inI (k := 4) (by decide +kernel) (by omega) hL) (inI (k := 5) (by decide +kernel) (by omega) hL) ?_
      · rw [ln_0]
        exact inb_nI (by omega) (by omega)
      · intro a' b' hJ'
        rw [e6_nI, nI_add]
        exact ih (i + 6) (by omega) (by omega) a' b' hJ'
set_option maxRecDepth 100000 in
theorem CTr_ns : (CTr.map fun t => t.2).sum ≤ 100000 := by decide +kernel
set_option maxRecDepth 100000 in
theorem CT_len : (CT L).length ≤ 1000 := Nat.le_of_ble_eq_true rfl
theorem whole_run {xs : Nat → Int32} (hL : L ≤ 3072) : ∃ (f : Nat) (h' : am_H), arun PP f 60 0 0 [some (.ref (0 : Nat)), none, none, none] [] (hh0 L xs) = some (some (.int 1), h') ∧ h'.1.length ≤ 1000 ∧ am_ns h' ≤ am_ns (hh0 L xs) + 100000 := by
  have w := law_loop hL L 0 (by omega) (by omega) (AS29 xs) false AS_J
  rw [nI_0] at w
  have w' : AW 60 0 0 [some (.ref (0 : Nat)), none, none, none] [] (hh0 L xs) (fun r h' => r = some (.int 1) ∧ ∃ a' b', h' = (CT L, a', RR b')) := by
    rw [law_start]
    exact w
  obtain ⟨f, r, h', e, rfl, a', b', rfl⟩ := w'
  exact ⟨f, _, e, CT_len, Nat.le_trans (show am_ns (CT L, a', RR b') ≤ L + 100000 from Nat.add_le_add_left CTr_ns L) (Nat.add_le_add_right (show L ≤ am_ns (hh0 L xs) from Nat.le_add_right L _) 100000)⟩
theorem whole_start {p : Program} {e : Env} {s : State} {m : MethodId} {below : List Frame} {meth : Method} {c : Code} (l : Launch) {b L : Nat} {xs : Nat → Int32} (hL : L ≤ 3072) (C0 : lw_At p s m meth c b L xs) : W p l e room_1 s m #[Value.ref b] below meth c s.heap [] 0 0 (lw_Z below #[Value.ref b] s) (entryFrame m ([Value.ref b] : List Value).toArray 4) := whole_of l (whole_run hL) C0
end LLP
