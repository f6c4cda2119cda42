/-! what each person has of a saying; the town as numbers; an hour -/
def PS : Type := Int32 × Int32 × Int32 × Int32 × Int32
def PS.st (r : PS) : Int32 := r.1
def PS.si (r : PS) : Int32 := r.2.1
def PS.ve (r : PS) : Int32 := r.2.2.1
def PS.fr (r : PS) : Int32 := r.2.2.2.1
def PS.la (r : PS) : Int32 := r.2.2.2.2
def mkP (st si ve fr la : Int32) : PS := (st, si, ve, fr, la)
theorem mkP_st {st si ve fr la : Int32} : (mkP st si ve fr la).st = st := rfl
theorem mkP_si {st si ve fr la : Int32} : (mkP st si ve fr la).si = si := rfl
theorem mkP_ve {st si ve fr la : Int32} : (mkP st si ve fr la).ve = ve := rfl
theorem mkP_fr {st si ve fr la : Int32} : (mkP st si ve fr la).fr = fr := rfl
theorem mkP_la {st si ve fr la : Int32} : (mkP st si ve fr la).la = la := rfl
theorem mkP_id {r : PS} : mkP r.st r.si r.ve r.fr r.la = r := rfl
def put (a : Nat → Nat → Int32) (q : Nat) (S : Nat → PS) : Nat → Nat → Int32 := fun k j => if k = q + 1 then (S j).st else if k = q + 2 then (S j).si else if k = q + 3 then (S j).ve else if k = q + 4 then (S j).fr else if k = q + 5 then (S j).la else a k j
def got (a : Nat → Nat → Int32) (q : Nat) : Nat → PS := fun j => mkP (a (q + 1) j) (a (q + 2) j) (a (q + 3) j) (a (q + 4) j) (a (q + 5) j)
def upS (S : Nat → PS) (p : Nat) (r : PS) : Nat → PS := fun o => if o = p then r else S o
section PUT
variable {a : Nat → Nat → Int32} {q p : Nat} {S T : Nat → PS} {x : Int32}
theorem put_1 : put a q S (q + 1) p = (S p).st := by simp [put]
theorem put_2 : put a q S (q + 2) p = (S p).si := by simp [put]
theorem put_3 : put a q S (q + 3) p = (S p).ve := by simp [put]
theorem put_4 : put a q S (q + 4) p = (S p).fr := by simp [put]
theorem put_5 : put a q S (q + 5) p = (S p).la := by simp [put]
theorem put_o {k : Nat} (h : k ≤ q ∨ q + 5 < k) : put a q S k = a k := by
  funext j
  unfold put
  rw [if_neg (by omega), if_neg (by omega), if_neg (by omega), if_neg (by omega), if_neg (by omega)]
theorem upS_s {r : PS} : upS S p r p = r := by simp [upS]
theorem upS_d {r : PS} {o : Nat} (h : o ≠ p) : upS S p r o = S o := by simp [upS, h]
theorem upS_u {r r' : PS} : upS (upS S p r) p r' = upS S p r' := by
  funext o; by_cases h : o = p <;> simp [upS, h]
theorem upS_id : upS S p (S p) = S := by
  funext o; by_cases h : o = p <;> simp [upS, h]
theorem upS_la {t : Int32} {o : Nat} : (upS S p (mkP (S p).st (S p).si (S p).ve (S p).fr t) o).ve = (S o).ve := by
  by_cases h : o = p <;> simp [upS, h, mkP_ve]
theorem put_u1 : am_up (put a q S) (q + 1) p x = put a q (upS S p (mkP x (S p).si (S p).ve (S p).fr (S p).la)) := by
  funext k j
  by_cases h : k = q + 1
  · subst h
    by_cases h2 : j = p
    · subst h2; simp [am_up, upd, put, upS, mkP_st, mkP_si, mkP_ve, mkP_fr, mkP_la]
    · simp [am_up, upd, put, upS, h2]
  · by_cases h2 : j = p
    · subst h2; simp [am_up, put, upS, h, mkP_st, mkP_si, mkP_ve, mkP_fr, mkP_la]
    · simp [am_up, put, upS, h, h2]
theorem put_u2 : am_up (put a q S) (q + 2) p x = put a q (upS S p (mkP (S p).st x (S p).ve (S p).fr (S p).la)) := by
  funext k j
  by_cases h : k = q + 2
  · subst h
    by_cases h2 : j = p
    · subst h2; simp [am_up, upd, put, upS, mkP_st, mkP_si, mkP_ve, mkP_fr, mkP_la]
    · simp [am_up, upd, put, upS, h2]
  · by_cases h2 : j = p
    · subst h2; simp [am_up, put, upS, h, mkP_st, mkP_si, mkP_ve, mkP_fr, mkP_la]
    · simp [am_up, put, upS, h, h2]
theorem put_u3 : am_up (put a q S) (q + 3) p x = put a q (upS S p (mkP (S p).st (S p).si x (S p).fr (S p).la)) := by
  funext k j
  by_cases h : k = q + 3
  · subst h
    by_cases h2 : j = p
    · subst h2; simp [am_up, upd, put, upS, mkP_st, mkP_si, mkP_ve, mkP_fr, mkP_la]
    · simp [am_up, upd, put, upS, h2]
  · by_cases h2 : j = p
    · subst h2; simp [am_up, put, upS, h, mkP_st, mkP_si, mkP_ve, mkP_fr, mkP_la]
    · simp [am_up, put, upS, h, h2]
theorem put_u4 : am_up (put a q S) (q + 4) p x = put a q (upS S p (mkP (S p).st (S p).si (S p).ve x (S p).la)) := by
  funext k j
  by_cases h : k = q + 4
  · subst h
    by_cases h2 : j = p
    · subst h2; simp [am_up, upd, put, upS, mkP_st, mkP_si, mkP_ve, mkP_fr, mkP_la]
    · simp [am_up, upd, put, upS, h2]
  · by_cases h2 : j = p
    · subst h2; simp [am_up, put, upS, h, mkP_st, mkP_si, mkP_ve, mkP_fr, mkP_la]
    · simp [am_up, put, upS, h, h2]
theorem put_u5 : am_up (put a q S) (q + 5) p x = put a q (upS S p (mkP (S p).st (S p).si (S p).ve (S p).fr x)) := by
  funext k j
  by_cases h : k = q + 5
  · subst h
    by_cases h2 : j = p
    · subst h2; simp [am_up, upd, put, upS, mkP_st, mkP_si, mkP_ve, mkP_fr, mkP_la]
    · simp [am_up, upd, put, upS, h2]
  · by_cases h2 : j = p
    · subst h2; simp [am_up, put, upS, h, mkP_st, mkP_si, mkP_ve, mkP_fr, mkP_la]
    · simp [am_up, put, upS, h, h2]
theorem put_got : put a q (got a q) = a := by
  funext k j
  unfold put got
  simp only [mkP_st, mkP_si, mkP_ve, mkP_fr, mkP_la]
  by_cases h1 : k = q + 1
  · simp [h1]
  · by_cases h2 : k = q + 2
    · simp [h2]
    · by_cases h3 : k = q + 3
      · simp [h3]
      · by_cases h4 : k = q + 4
        · simp [h4]
        · by_cases h5 : k = q + 5
          · simp [h5]
          · simp [h1, h2, h3, h4, h5]
theorem got_put : got (put a q S) q = S := by
  funext j
  simp [got, put, mkP_id]
theorem put_put : put (put a q S) q T = put a q T := by
  funext k j
  unfold put
  repeat' split
  all_goals rfl
/-- another row beside -/
theorem put_row {k : Nat} {g : Nat → Int32} (h : k ≤ q ∨ q + 5 < k) : am_row (put a q S) k g = put (am_row a k g) q S := by
  funext k' j
  by_cases e : k' = k
  · subst e
    rw [put_o h]
    simp [am_row]
  · unfold put
    simp [am_row, e]
theorem put_up {k j : Nat} (h : k ≤ q ∨ q + 5 < k) : am_up (put a q S) k j x = put (am_up a k j x) q S := by
  funext k' j'
  by_cases e : k' = k
  · subst e
    rw [put_o h]
    simp [am_up, put_o h]
  · unfold put
    simp [am_up, e]
end PUT
/-- the town -/
def ENV : Type := Nat × (Nat → Int32) × (Nat → Nat) × (Nat → Int32) × (Nat → Int32) × (Nat → Int32) × (Nat → Int32) × (Nat → Nat → Nat)
def ENV.n (E : ENV) : Nat := E.1
def ENV.tr (E : ENV) : Nat → Int32 := E.2.1
def ENV.hb (E : ENV) : Nat → Nat := E.2.2.1
def ENV.rd (E : ENV) : Nat → Int32 := E.2.2.2.1
def ENV.fe (E : ENV) : Nat → Int32 := E.2.2.2.2.1
def ENV.dt (E : ENV) : Nat → Int32 := E.2.2.2.2.2.1
def ENV.wt (E : ENV) : Nat → Int32 := E.2.2.2.2.2.2.1
def ENV.pl (E : ENV) : Nat → Nat → Nat := E.2.2.2.2.2.2.2
def EOK (E : ENV) : Prop := E.n ≤ 16 ∧ (∀ p, p < E.n → E.hb p < 5) ∧ (∀ i, i < 3 → ∀ p, p < E.n → E.pl i p < 6)
theorem EOK.n {E : ENV} (h : EOK E) : E.n ≤ 16 := h.1
theorem EOK.hb {E : ENV} (h : EOK E) : ∀ p, p < E.n → E.hb p < 5 := h.2.1
theorem EOK.pl {E : ENV} (h : EOK E) : ∀ i, i < 3 → ∀ p, p < E.n → E.pl i p < 6 := h.2.2
def EC (a : Nat → Nat → Int32) (E : ENV) : Prop := OLD a ∧ a 13 2 = nI E.n ∧ (∀ p, p < E.n → a 15 p = E.tr p) ∧ (∀ p, p < E.n → a 16 p = nI (E.hb p)) ∧ (∀ p, p < E.n → a 17 p = E.rd p) ∧ (∀ p, p < E.n → a 18 p = E.fe p) ∧ (∀ p, p < E.n → a 19 p = E.dt p) ∧ (∀ w, w < 10 → a 20 w = E.wt w) ∧ (∀ i, i < 3 → ∀ p, p < E.n → a (22 + i) p = nI (E.pl i p))
theorem EC.o {a : Nat → Nat → Int32} {E : ENV} (h : EC a E) : OLD a := h.1
theorem EC.n {a : Nat → Nat → Int32} {E : ENV} (h : EC a E) : a 13 2 = nI E.n := h.2.1
theorem EC.tr {a : Nat → Nat → Int32} {E : ENV} (h : EC a E) : ∀ p, p < E.n → a 15 p = E.tr p := h.2.2.1
theorem EC.hb {a : Nat → Nat → Int32} {E : ENV} (h : EC a E) : ∀ p, p < E.n → a 16 p = nI (E.hb p) := h.2.2.2.1
theorem EC.rd {a : Nat → Nat → Int32} {E : ENV} (h : EC a E) : ∀ p, p < E.n → a 17 p = E.rd p := h.2.2.2.2.1
theorem EC.fe {a : Nat → Nat → Int32} {E : ENV} (h : EC a E) : ∀ p, p < E.n → a 18 p = E.fe p := h.2.2.2.2.2.1
theorem EC.dt {a : Nat → Nat → Int32} {E : ENV} (h : EC a E) : ∀ p, p < E.n → a 19 p = E.dt p := h.2.2.2.2.2.2.1
theorem EC.wt {a : Nat → Nat → Int32} {E : ENV} (h : EC a E) : ∀ w, w < 10 → a 20 w = E.wt w := h.2.2.2.2.2.2.2.1
theorem EC.pl {a : Nat → Nat → Int32} {E : ENV} (h : EC a E) : ∀ i, i < 3 → ∀ p, p < E.n → a (22 + i) p = nI (E.pl i p) := h.2.2.2.2.2.2.2.2
theorem OLD_low {a a' : Nat → Nat → Int32} (h : OLD a) (e : ∀ k, k < 12 → a' k = a k) : OLD a' := by
  obtain ⟨h1, h2, h3, h4, h5, h6, h7, h8⟩ := h
  unfold OLD
  rw [e 1 (by omega), e 2 (by omega), e 3 (by omega), e 8 (by omega), e 9 (by omega), e 10 (by omega), e 11 (by omega)]
  refine ⟨h1, h2, h3, h4, h5, h6, h7, fun k hk1 hk2 => ?_⟩
  rw [e k (by omega)]
  exact h8 k hk1 hk2
theorem EC.low {a a' : Nat → Nat → Int32} {E : ENV} (h : EC a E) (e : ∀ k, k < 25 → a' k = a k) : EC a' E :=
  ⟨OLD_low h.o (fun k hk => e k (by omega)), by rw [e 13 (by omega)]; exact h.n, by rw [e 15 (by omega)]; exact h.tr, by rw [e 16 (by omega)]; exact h.hb, by rw [e 17 (by omega)]; exact h.rd, by rw [e 18 (by omega)]; exact h.fe, by rw [e 19 (by omega)]; exact h.dt, by rw [e 20 (by omega)]; exact h.wt, fun i hi => by rw [e (22 + i) (by omega)]; exact h.pl i hi⟩
theorem EC.put {a : Nat → Nat → Int32} {E : ENV} {q : Nat} {S : Nat → PS} (h : EC a E) (hq : SPc q) : EC (put a q S) E := by
  have := hq.ge
  exact h.low (fun k hk => put_o (by omega))
theorem EC.row {a : Nat → Nat → Int32} {E : ENV} {k : Nat} {g : Nat → Int32} (h : EC a E) (hk : 25 ≤ k) : EC (am_row a k g) E := h.low (fun k' hk' => ar_d (by omega))
/-- versions are numbers of four digits -/
def GV (S : Nat → PS) (n : Nat) : Prop := ∀ p, p < n → (S p).st ≠ 0 → ∃ v : Nat, v < 10000 ∧ (S p).ve = nI v
def unN (j : Nat) : Nat := match j with
  | 0 => 1000
  | 1 => 100
  | 2 => 10
  | _ => 1
theorem un_nI (j : Nat) : un j = nI (unN j) := by
  unfold un unN
  split
  · rfl
  · rfl
  · rfl
  · split
    · contradiction
    · contradiction
    · contradiction
    · rfl
theorem unN_b (j : Nat) : 0 < unN j ∧ unN j ≤ 1000 := by unfold unN; split <;> omega
theorem dg_nI {v j : Nat} (hv : v < 10000) : dg (nI v) j = nI (v / unN j % 10) := by
  have := unN_b j
  unfold dg
  rw [un_nI, pk_div (by omega) (by omega) (by omega)]
  have h2 : v / unN j ≤ v := Nat.div_le_self _ _
  exact pk_rem (d := 10) (by omega) (by omega) (by omega)
def toldN (v hb : Nat) : Nat := if hb = 0 then v else if v / unN (hb - 1) % 10 = 9 then v - 9 * unN (hb - 1) else v + unN (hb - 1)
theorem toldN_lt {v hb : Nat} (hv : v < 10000) : toldN v hb < 10000 := by
  unfold toldN
  split
  · exact hv
  · split
    · omega
    · rename_i h1 h2
      generalize hb - 1 = j at *
      unfold unN at *
      split at h2 <;> omega
theorem told_nI {v hb : Nat} (hv : v < 10000) : told (nI v) hb = nI (toldN v hb) := by
  unfold told toldN
  by_cases h0 : hb = 0
  · simp [h0]
  · rw [if_neg h0, if_neg h0, dg_nI hv]
    have h1 : (nI (v / unN (hb - 1) % 10) = 9) = (v / unN (hb - 1) % 10 = 9) := propext (nI_eq (b := 9) (by omega) (by omega))
    simp only [h1]
    by_cases h2 : v / unN (hb - 1) % 10 = 9
    · rw [if_pos h2, if_pos h2, un_nI]
      have h3 : 9 * unN (hb - 1) ≤ v := by
        generalize hb - 1 = j at *
        unfold unN at *
        split at h2 <;> omega
      rw [show (9 : Int32) = nI 9 from rfl, pk_mul, pk_sub h3]
    · rw [if_neg h2, if_neg h2, un_nI, nI_add]
def wtOf (E : ENV) (v : Int32) : Int32 := E.wt (dg v 1).toNatClampNeg
def loudF (E : ENV) (S : Nat → PS) (o : Nat) : Bool := decide ((S o).st = 1 ∧ ¬ E.fe o * wtOf E (S o).ve < 10)
def telF (E : ENV) (t : Int32) (S : Nat → PS) (p o : Nat) : Bool := (loudF E S o && decide (E.pl (spot t) o = E.pl (spot t) p)) && !decide (o = p)
def fadeF (t : Int32) (r : PS) : PS := if ¬ (r.st = 0 ∨ r.st = 3) ∧ ¬ t - r.la < 48 then (mkP 3 t r.ve r.fr r.la) else r
def hearF (E : ENV) (t : Int32) (r : PS) (p c : Nat) (tv : Int32) (tn : Nat) : PS :=
  if r.st = 1 then (mkP r.st r.si r.ve r.fr t)
  else if r.st = 0 ∨ r.st = 3 then mkP (if E.dt p < E.fe p + 2 * nI c then 1 else 2) t tv (nI tn) t
  else if E.dt p < E.fe p + 2 * nI c then (mkP 1 t r.ve r.fr t) else (mkP r.st r.si r.ve r.fr t)
def hourP (E : ENV) (t : Int32) (S : Nat → PS) (p : Nat) : PS :=
  if ctn (telF E t S p) E.n = 0 then fadeF t (S p)
  else hearF E t (S p) p (ctn (telF E t S p) E.n) (told (S (lst (telF E t S p) E.n)).ve (E.hb (lst (telF E t S p) E.n))) (lst (telF E t S p) E.n)
def hourF (E : ENV) (t : Int32) (S : Nat → PS) : Nat → PS := fun p => if p < E.n then hourP E t S p else S p
theorem one_0 : ((1 : Int32) = 0) = False := by decide
section HOUR
variable {d L q p : Nat} {b : Bool} {a : Nat → Nat → Int32} {Q : Option Value → am_H → Prop} {E : ENV} {S : Nat → PS} {t : Int32}
set_option maxRecDepth 100000 in
theorem sp_fade (hq : SPc q) (hp : p < 16) : CALL (d + 1) 64 [.ref (13 : Nat), .ref q, .int (nI p), .int t] (CT L, put a q S, RR b) Q = Q none (CT L, put a q (upS S p (fadeF t (S p))), RR b) := by
  obtain ⟨t0, t1, t2, t3, t4, t5⟩ := hq.tg (L := L)
  obtain ⟨r0, r1, r2, r3, r4⟩ := hq.rr (b := b)
  obtain ⟨i0, i1, i2, i3, i4⟩ := hq.is (b := b)
  obtain ⟨b1, b2, b3, b4, b5⟩ := hq.ib (L := L) hp
  have g := hq.ge
  have hc : (nI p).toNatClampNeg = p := nI_clamp (by omega)
  by_cases h1 : (S p).st = 0 ∨ (S p).st = 3
  · have hd : decide ((S p).st = 0 ∨ (S p).st = 3) = true := by simpa using h1
    simp (disch := (first | assumption | exact tg_12 | exact (show _ from rfl) | exact Nat.le_of_ble_eq_true rfl | exact bi_01 _ | exact Or.inl rfl | exact Or.inr rfl | omega | decide)) only [en_X9_fade, st_X9_fade_0, st_X9_fade_1, st_X9_fade_2, st_X9_fade_5, st_X9_fade_8, st_X9_fade_9, st_X9_fade_10, st_X9_fade_13, st_X9_fade_14, st_X9_fade_15, st_X9_fade_16, st_X9_fade_18, st_X9_fade_21, st_X9_fade_22, st_X9_fade_23, st_X9_fade_24, st_X9_fade_25, st_X9_fade_28, sp_isNewTo hq hp, put_1, hd, Option.toList_some, Option.toList_none, List.cons_append, List.nil_append, Option.getD_some, am_nlI, am_nlR, am_nlN, bi_eq0, if_true, if_false, bf_tf, bf_ft]
    rw [fadeF, if_neg (by simp [h1]), upS_id]
  · have hd : decide ((S p).st = 0 ∨ (S p).st = 3) = false := by simpa using h1
    by_cases h2 : t - (S p).la < 48
    · simp (disch := (first | assumption | exact tg_12 | exact (show _ from rfl) | exact Nat.le_of_ble_eq_true rfl | exact bi_01 _ | exact Or.inl rfl | exact Or.inr rfl | omega | decide)) only [en_X9_fade, st_X9_fade_0, st_X9_fade_1, st_X9_fade_2, st_X9_fade_5, st_X9_fade_8, st_X9_fade_9, st_X9_fade_10, st_X9_fade_13, st_X9_fade_14, st_X9_fade_15, st_X9_fade_16, st_X9_fade_18, st_X9_fade_21, st_X9_fade_22, st_X9_fade_23, st_X9_fade_24, st_X9_fade_25, st_X9_fade_28, sp_isNewTo hq hp, put_1, put_5, r4, hc, hd, if_pos h2, Option.toList_some, Option.toList_none, List.cons_append, List.nil_append, Option.getD_some, am_nlI, am_nlR, am_nlN, bi_eq0, if_true, if_false, bf_tf, bf_ft]
      rw [fadeF, if_neg (by simp [h2]), upS_id]
    · simp (disch := (first | assumption | exact tg_12 | exact (show _ from rfl) | exact Nat.le_of_ble_eq_true rfl | exact bi_01 _ | exact Or.inl rfl | exact Or.inr rfl | omega | decide)) only [en_X9_fade, st_X9_fade_0, st_X9_fade_1, st_X9_fade_2, st_X9_fade_5, st_X9_fade_8, st_X9_fade_9, st_X9_fade_10, st_X9_fade_13, st_X9_fade_14, st_X9_fade_15, st_X9_fade_16, st_X9_fade_18, st_X9_fade_21, st_X9_fade_22, st_X9_fade_23, st_X9_fade_24, st_X9_fade_25, st_X9_fade_28, sp_isNewTo hq hp, put_1, put_5, r4, hc, hd, if_neg h2, Option.toList_some, Option.toList_none, List.cons_append, List.nil_append, Option.getD_some, am_nlI, am_nlR, am_nlN, bi_eq0, if_true, if_false, bf_tf, bf_ft, sp_turn hq hp, put_u1, put_u2, mkP_st, mkP_si, mkP_ve, mkP_fr, mkP_la, upS_s, upS_u]
      rw [fadeF, if_pos ⟨h1, h2⟩]
set_option maxRecDepth 100000 in
theorem sp_hear {m : Nat} (hE : EOK E) (hC : EC a E) (hq : SPc q) (hp : p < E.n) (hm : m < 65536) (h0 : m ≠ 0) (hl : lowN 16 m < E.n) : CALL (d + 2) 63 [.ref (13 : Nat), .ref q, .int (nI p), .int (nI m), .int t] (CT L, put a q S, RR b) Q = Q none (CT L, put a q (upS S p (hearF E t (S p) p (popN 16 m) (told (S (lowN 16 m)).ve (E.hb (lowN 16 m))) (lowN 16 m))), RR b) := by
  have hn := hE.n
  have hp16 : p < 16 := by omega
  have hl16 : lowN 16 m < 16 := by omega
  obtain ⟨t0, t1, t2, t3, t4, t5⟩ := hq.tg (L := L)
  obtain ⟨r0, r1, r2, r3, r4⟩ := hq.rr (b := b)
  obtain ⟨i0, i1, i2, i3, i4⟩ := hq.is (b := b)
  obtain ⟨b1, b2, b3, b4, b5⟩ := hq.ib (L := L) hp16
  obtain ⟨c1, c2, c3, c4, c5⟩ := hq.ib (L := L) hl16
  have g := hq.ge
  have hc : (nI p).toNatClampNeg = p := nI_clamp (by omega)
  have hcl : (nI (lowN 16 m)).toNatClampNeg = lowN 16 m := nI_clamp (by omega)
  have k1 : ∀ T, put a q T 18 p = E.fe p := fun T => (hC.put hq).fe p hp
  have k2 : ∀ T, put a q T 19 p = E.dt p := fun T => (hC.put hq).dt p hp
  have k3 : ∀ T, put a q T 16 (lowN 16 m) = nI (E.hb (lowN 16 m)) := fun T => (hC.put hq).hb _ hl
  have k4 := hE.hb _ hl
  have k5 : ∀ T, OLD (put a q T) := fun T => (hC.put hq).o
  by_cases h1 : (S p).st = 1
  · simp (disch := (first | assumption | exact tg_12 | exact tg_13 | exact tg_2 | exact tg_20 | exact tg_14 | exact tg_15 | exact tg_16 | exact tg_17 | exact tg_18 | exact tg_19 | exact tg_21 | exact tg_22 | exact tg_23 | exact tg_24 | exact tg_25 | exact tg_26 | exact tg_33 | exact tg_34 | exact tg_35 | exact tg_36 | exact tg_37 | exact tg_38 | exact tg_39 | exact tg_40 | exact tg_41 | exact tg_42 | exact tg_43 | exact tg_52 | exact tg_1 | exact tg_3 | exact (show _ from rfl) | exact Nat.le_of_ble_eq_true rfl | exact bi_01 _ | exact Or.inl rfl | exact Or.inr rfl | exact ib_2 (by first | assumption | omega) | exact ib_20 (by first | assumption | omega) | exact ib_14 (by first | assumption | omega) | exact ib_15 (by first | assumption | omega) | exact ib_16 (by first | assumption | omega) | exact ib_17 (by first | assumption | omega) | exact ib_18 (by first | assumption | omega) | exact ib_19 (by first | assumption | omega) | exact ib_21 (by first | assumption | omega) | exact ib_22 (by first | assumption | omega) | exact ib_23 (by first | assumption | omega) | exact ib_24 (by first | assumption | omega) | exact ib_25 (by first | assumption | omega) | exact ib_26 (by first | assumption | omega) | exact ib_34 (by first | assumption | omega) | exact ib_36 (by first | assumption | omega) | exact ib_37 (by first | assumption | omega) | exact ib_38 (by first | assumption | omega) | exact ib_40 (by first | assumption | omega) | exact ib_41 (by first | assumption | omega) | exact ib_43 (by first | assumption | omega) | exact ib_52 (by first | assumption | omega) | exact ib_1 (by first | assumption | omega) | exact ib_3 (by first | assumption | omega) | omega | decide | exact il_14_0 | exact il_14_1 | exact il_14_2 | exact il_14_3 | exact il_14_4 | exact il_21_0 | exact il_21_1 | exact il_21_2)) only [en_X9_hear, st_X9_hear_0, st_X9_hear_1, st_X9_hear_4, st_X9_hear_5, st_X9_hear_7, st_X9_hear_8, st_X9_hear_9, st_X9_hear_12, st_X9_hear_13, st_X9_hear_14, st_X9_hear_15, st_X9_hear_18, st_X9_hear_19, st_X9_hear_20, st_X9_hear_23, st_X9_hear_24, st_X9_hear_25, st_X9_hear_26, st_X9_hear_27, st_X9_hear_28, st_X9_hear_29, st_X9_hear_32, st_X9_hear_33, st_X9_hear_34, st_X9_hear_35, st_X9_hear_38, st_X9_hear_39, st_X9_hear_40, st_X9_hear_41, st_X9_hear_42, st_X9_hear_45, st_X9_hear_46, st_X9_hear_49, st_X9_hear_50, st_X9_hear_52, st_X9_hear_53, st_X9_hear_54, st_X9_hear_57, st_X9_hear_60, st_X9_hear_61, st_X9_hear_64, st_X9_hear_66, st_X9_hear_67, st_X9_hear_68, st_X9_hear_69, st_X9_hear_72, st_X9_hear_74, st_X9_hear_75, st_X9_hear_76, st_X9_hear_79, st_X9_hear_80, st_X9_hear_81, st_X9_hear_83, st_X9_hear_84, st_X9_hear_87, st_X9_hear_89, st_X9_hear_92, st_X9_hear_93, st_X9_hear_94, st_X9_hear_96, st_X9_hear_99, st_X9_hear_100, st_X9_hear_103, st_X9_hear_104, st_X9_hear_106, st_X9_hear_109, st_X9_hear_112, st_X9_hear_114, st_X9_hear_117, st_X9_hear_118, st_X9_hear_119, st_X9_hear_120, st_X9_hear_122, st_X9_hear_125, rr_12_0, rr_12_1, rr_12_2, rr_12_3, rr_12_4, rr_12_5, rr_12_6, rr_12_7, rr_12_8, rr_12_9, rr_13_0, rr_13_1, rr_13_3, rr_13_4, rr_14_0, rr_14_1, rr_14_2, rr_14_3, rr_14_4, rr_21_0, rr_21_1, rr_21_2, rr_33_1, rr_35_0, rr_35_1, rr_35_3, rr_39_2, rr_39_3, rr_42_0, tc_0, tc_1, tc_2, tc_3, tc_4, tc_5, tc_6, tc_7, tc_8, tc_9, r0, r4, hc, put_1, put_u5, upS_s, mkP_st, if_pos h1, Option.toList_some, Option.toList_none, List.cons_append, List.nil_append, Option.getD_some, am_nlI, am_nlR, am_nlN, bi_eq0, if_true, if_false, bf_tf, bf_ft]
    rw [hearF, if_pos h1]
  · by_cases h2 : (S p).st = 0 ∨ (S p).st = 3
    · have hd : decide ((S p).st = 0 ∨ (S p).st = 3) = true := by simpa using h2
      by_cases h3 : E.dt p < E.fe p + 2 * nI (popN 16 m)
      · simp (disch := (first | assumption | exact tg_12 | exact tg_13 | exact tg_2 | exact tg_20 | exact tg_14 | exact tg_15 | exact tg_16 | exact tg_17 | exact tg_18 | exact tg_19 | exact tg_21 | exact tg_22 | exact tg_23 | exact tg_24 | exact tg_25 | exact tg_26 | exact tg_33 | exact tg_34 | exact tg_35 | exact tg_36 | exact tg_37 | exact tg_38 | exact tg_39 | exact tg_40 | exact tg_41 | exact tg_42 | exact tg_43 | exact tg_52 | exact tg_1 | exact tg_3 | exact (show _ from rfl) | exact Nat.le_of_ble_eq_true rfl | exact bi_01 _ | exact Or.inl rfl | exact Or.inr rfl | exact ib_2 (by first | assumption | omega) | exact ib_20 (by first | assumption | omega) | exact ib_14 (by first | assumption | omega) | exact ib_15 (by first | assumption | omega) | exact ib_16 (by first | assumption | omega) | exact ib_17 (by first | assumption | omega) | exact ib_18 (by first | assumption | omega) | exact ib_19 (by first | assumption | omega) | exact ib_21 (by first | assumption | omega) | exact ib_22 (by first | assumption | omega) | exact ib_23 (by first | assumption | omega) | exact ib_24 (by first | assumption | omega) | exact ib_25 (by first | assumption | omega) | exact ib_26 (by first | assumption | omega) | exact ib_34 (by first | assumption | omega) | exact ib_36 (by first | assumption | omega) | exact ib_37 (by first | assumption | omega) | exact ib_38 (by first | assumption | omega) | exact ib_40 (by first | assumption | omega) | exact ib_41 (by first | assumption | omega) | exact ib_43 (by first | assumption | omega) | exact ib_52 (by first | assumption | omega) | exact ib_1 (by first | assumption | omega) | exact ib_3 (by first | assumption | omega) | omega | decide | exact il_14_0 | exact il_14_1 | exact il_14_2 | exact il_14_3 | exact il_14_4 | exact il_21_0 | exact il_21_1 | exact il_21_2)) only [en_X9_hear, st_X9_hear_0, st_X9_hear_1, st_X9_hear_4, st_X9_hear_5, st_X9_hear_7, st_X9_hear_8, st_X9_hear_9, st_X9_hear_12, st_X9_hear_13, st_X9_hear_14, st_X9_hear_15, st_X9_hear_18, st_X9_hear_19, st_X9_hear_20, st_X9_hear_23, st_X9_hear_24, st_X9_hear_25, st_X9_hear_26, st_X9_hear_27, st_X9_hear_28, st_X9_hear_29, st_X9_hear_32, st_X9_hear_33, st_X9_hear_34, st_X9_hear_35, st_X9_hear_38, st_X9_hear_39, st_X9_hear_40, st_X9_hear_41, st_X9_hear_42, st_X9_hear_45, st_X9_hear_46, st_X9_hear_49, st_X9_hear_50, st_X9_hear_52, st_X9_hear_53, st_X9_hear_54, st_X9_hear_57, st_X9_hear_60, st_X9_hear_61, st_X9_hear_64, st_X9_hear_66, st_X9_hear_67, st_X9_hear_68, st_X9_hear_69, st_X9_hear_72, st_X9_hear_74, st_X9_hear_75, st_X9_hear_76, st_X9_hear_79, st_X9_hear_80, st_X9_hear_81, st_X9_hear_83, st_X9_hear_84, st_X9_hear_87, st_X9_hear_89, st_X9_hear_92, st_X9_hear_93, st_X9_hear_94, st_X9_hear_96, st_X9_hear_99, st_X9_hear_100, st_X9_hear_103, st_X9_hear_104, st_X9_hear_106, st_X9_hear_109, st_X9_hear_112, st_X9_hear_114, st_X9_hear_117, st_X9_hear_118, st_X9_hear_119, st_X9_hear_120, st_X9_hear_122, st_X9_hear_125, rr_12_0, rr_12_1, rr_12_2, rr_12_3, rr_12_4, rr_12_5, rr_12_6, rr_12_7, rr_12_8, rr_12_9, rr_13_0, rr_13_1, rr_13_3, rr_13_4, rr_14_0, rr_14_1, rr_14_2, rr_14_3, rr_14_4, rr_21_0, rr_21_1, rr_21_2, rr_33_1, rr_35_0, rr_35_1, rr_35_3, rr_39_2, rr_39_3, rr_42_0, tc_0, tc_1, tc_2, tc_3, tc_4, tc_5, tc_6, tc_7, tc_8, tc_9, r0, r2, r4, hc, hcl, put_1, put_3, put_u5, upS_s, upS_u, upS_la, mkP_st, mkP_si, mkP_ve, mkP_fr, mkP_la, if_neg h1, sp_bitCount hm, k1, k2, k3, if_pos h3, sp_isNewTo hq hp16, hd, sp_leastOf hm h0, sp_asTold (k5 _) k4, sp_take hq hp16, sp_turn hq hp16, put_u1, put_u2, mkP_st, mkP_si, mkP_ve, mkP_fr, mkP_la, put_u3, put_u4, Option.toList_some, Option.toList_none, List.cons_append, List.nil_append, Option.getD_some, am_nlI, am_nlR, am_nlN, bi_eq0, if_true, if_false, bf_tf, bf_ft, one_0]
        rw [hearF, if_neg h1, if_pos h2, if_pos h3]
      · simp (disch := (first | assumption | exact tg_12 | exact tg_13 | exact tg_2 | exact tg_20 | exact tg_14 | exact tg_15 | exact tg_16 | exact tg_17 | exact tg_18 | exact tg_19 | exact tg_21 | exact tg_22 | exact tg_23 | exact tg_24 | exact tg_25 | exact tg_26 | exact tg_33 | exact tg_34 | exact tg_35 | exact tg_36 | exact tg_37 | exact tg_38 | exact tg_39 | exact tg_40 | exact tg_41 | exact tg_42 | exact tg_43 | exact tg_52 | exact tg_1 | exact tg_3 | exact (show _ from rfl) | exact Nat.le_of_ble_eq_true rfl | exact bi_01 _ | exact Or.inl rfl | exact Or.inr rfl | exact ib_2 (by first | assumption | omega) | exact ib_20 (by first | assumption | omega) | exact ib_14 (by first | assumption | omega) | exact ib_15 (by first | assumption | omega) | exact ib_16 (by first | assumption | omega) | exact ib_17 (by first | assumption | omega) | exact ib_18 (by first | assumption | omega) | exact ib_19 (by first | assumption | omega) | exact ib_21 (by first | assumption | omega) | exact ib_22 (by first | assumption | omega) | exact ib_23 (by first | assumption | omega) | exact ib_24 (by first | assumption | omega) | exact ib_25 (by first | assumption | omega) | exact ib_26 (by first | assumption | omega) | exact ib_34 (by first | assumption | omega) | exact ib_36 (by first | assumption | omega) | exact ib_37 (by first | assumption | omega) | exact ib_38 (by first | assumption | omega) | exact ib_40 (by first | assumption | omega) | exact ib_41 (by first | assumption | omega) | exact ib_43 (by first | assumption | omega) | exact ib_52 (by first | assumption | omega) | exact ib_1 (by first | assumption | omega) | exact ib_3 (by first | assumption | omega) | omega | decide | exact il_14_0 | exact il_14_1 | exact il_14_2 | exact il_14_3 | exact il_14_4 | exact il_21_0 | exact il_21_1 | exact il_21_2)) only [en_X9_hear, st_X9_hear_0, st_X9_hear_1, st_X9_hear_4, st_X9_hear_5, st_X9_hear_7, st_X9_hear_8, st_X9_hear_9, st_X9_hear_12, st_X9_hear_13, st_X9_hear_14, st_X9_hear_15, st_X9_hear_18, st_X9_hear_19, st_X9_hear_20, st_X9_hear_23, st_X9_hear_24, st_X9_hear_25, st_X9_hear_26, st_X9_hear_27, st_X9_hear_28, st_X9_hear_29, st_X9_hear_32, st_X9_hear_33, st_X9_hear_34, st_X9_hear_35, st_X9_hear_38, st_X9_hear_39, st_X9_hear_40, st_X9_hear_41, st_X9_hear_42, st_X9_hear_45, st_X9_hear_46, st_X9_hear_49, st_X9_hear_50, st_X9_hear_52, st_X9_hear_53, st_X9_hear_54, st_X9_hear_57, st_X9_hear_60, st_X9_hear_61, st_X9_hear_64, st_X9_hear_66, st_X9_hear_67, st_X9_hear_68, st_X9_hear_69, st_X9_hear_72, st_X9_hear_74, st_X9_hear_75, st_X9_hear_76, st_X9_hear_79, st_X9_hear_80, st_X9_hear_81, st_X9_hear_83, st_X9_hear_84, st_X9_hear_87, st_X9_hear_89, st_X9_hear_92, st_X9_hear_93, st_X9_hear_94, st_X9_hear_96, st_X9_hear_99, st_X9_hear_100, st_X9_hear_103, st_X9_hear_104, st_X9_hear_106, st_X9_hear_109, st_X9_hear_112, st_X9_hear_114, st_X9_hear_117, st_X9_hear_118, st_X9_hear_119, st_X9_hear_120, st_X9_hear_122, st_X9_hear_125, rr_12_0, rr_12_1, rr_12_2, rr_12_3, rr_12_4, rr_12_5, rr_12_6, rr_12_7, rr_12_8, rr_12_9, rr_13_0, rr_13_1, rr_13_3, rr_13_4, rr_14_0, rr_14_1, rr_14_2, rr_14_3, rr_14_4, rr_21_0, rr_21_1, rr_21_2, rr_33_1, rr_35_0, rr_35_1, rr_35_3, rr_39_2, rr_39_3, rr_42_0, tc_0, tc_1, tc_2, tc_3, tc_4, tc_5, tc_6, tc_7, tc_8, tc_9, r0, r2, r4, hc, hcl, put_1, put_3, put_u5, upS_s, upS_u, upS_la, mkP_st, mkP_si, mkP_ve, mkP_fr, mkP_la, if_neg h1, sp_bitCount hm, k1, k2, k3, if_neg h3, sp_isNewTo hq hp16, hd, sp_leastOf hm h0, sp_asTold (k5 _) k4, sp_take hq hp16, sp_turn hq hp16, put_u1, put_u2, mkP_st, mkP_si, mkP_ve, mkP_fr, mkP_la, put_u3, put_u4, Option.toList_some, Option.toList_none, List.cons_append, List.nil_append, Option.getD_some, am_nlI, am_nlR, am_nlN, bi_eq0, if_true, if_false, bf_tf, bf_ft, one_0]
        rw [hearF, if_neg h1, if_pos h2, if_neg h3]
    · have hd : decide ((S p).st = 0 ∨ (S p).st = 3) = false := by simpa using h2
      by_cases h3 : E.dt p < E.fe p + 2 * nI (popN 16 m)
      · simp (disch := (first | assumption | exact tg_12 | exact tg_13 | exact tg_2 | exact tg_20 | exact tg_14 | exact tg_15 | exact tg_16 | exact tg_17 | exact tg_18 | exact tg_19 | exact tg_21 | exact tg_22 | exact tg_23 | exact tg_24 | exact tg_25 | exact tg_26 | exact tg_33 | exact tg_34 | exact tg_35 | exact tg_36 | exact tg_37 | exact tg_38 | exact tg_39 | exact tg_40 | exact tg_41 | exact tg_42 | exact tg_43 | exact tg_52 | exact tg_1 | exact tg_3 | exact (show _ from rfl) | exact Nat.le_of_ble_eq_true rfl | exact bi_01 _ | exact Or.inl rfl | exact Or.inr rfl | exact ib_2 (by first | assumption | omega) | exact ib_20 (by first | assumption | omega) | exact ib_14 (by first | assumption | omega) | exact ib_15 (by first | assumption | omega) | exact ib_16 (by first | assumption | omega) | exact ib_17 (by first | assumption | omega) | exact ib_18 (by first | assumption | omega) | exact ib_19 (by first | assumption | omega) | exact ib_21 (by first | assumption | omega) | exact ib_22 (by first | assumption | omega) | exact ib_23 (by first | assumption | omega) | exact ib_24 (by first | assumption | omega) | exact ib_25 (by first | assumption | omega) | exact ib_26 (by first | assumption | omega) | exact ib_34 (by first | assumption | omega) | exact ib_36 (by first | assumption | omega) | exact ib_37 (by first | assumption | omega) | exact ib_38 (by first | assumption | omega) | exact ib_40 (by first | assumption | omega) | exact ib_41 (by first | assumption | omega) | exact ib_43 (by first | assumption | omega) | exact ib_52 (by first | assumption | omega) | exact ib_1 (by first | assumption | omega) | exact ib_3 (by first | assumption | omega) | omega | decide | exact il_14_0 | exact il_14_1 | exact il_14_2 | exact il_14_3 | exact il_14_4 | exact il_21_0 | exact il_21_1 | exact il_21_2)) only [en_X9_hear, st_X9_hear_0, st_X9_hear_1, st_X9_hear_4, st_X9_hear_5, st_X9_hear_7, st_X9_hear_8, st_X9_hear_9, st_X9_hear_12, st_X9_hear_13, st_X9_hear_14, st_X9_hear_15, st_X9_hear_18, st_X9_hear_19, st_X9_hear_20, st_X9_hear_23, st_X9_hear_24, st_X9_hear_25, st_X9_hear_26, st_X9_hear_27, st_X9_hear_28, st_X9_hear_29, st_X9_hear_32, st_X9_hear_33, st_X9_hear_34, st_X9_hear_35, st_X9_hear_38, st_X9_hear_39, st_X9_hear_40, st_X9_hear_41, st_X9_hear_42, st_X9_hear_45, st_X9_hear_46, st_X9_hear_49, st_X9_hear_50, st_X9_hear_52, st_X9_hear_53, st_X9_hear_54, st_X9_hear_57, st_X9_hear_60, st_X9_hear_61, st_X9_hear_64, st_X9_hear_66, st_X9_hear_67, st_X9_hear_68, st_X9_hear_69, st_X9_hear_72, st_X9_hear_74, st_X9_hear_75, st_X9_hear_76, st_X9_hear_79, st_X9_hear_80, st_X9_hear_81, st_X9_hear_83, st_X9_hear_84, st_X9_hear_87, st_X9_hear_89, st_X9_hear_92, st_X9_hear_93, st_X9_hear_94, st_X9_hear_96, st_X9_hear_99, st_X9_hear_100, st_X9_hear_103, st_X9_hear_104, st_X9_hear_106, st_X9_hear_109, st_X9_hear_112, st_X9_hear_114, st_X9_hear_117, st_X9_hear_118, st_X9_hear_119, st_X9_hear_120, st_X9_hear_122, st_X9_hear_125, rr_12_0, rr_12_1, rr_12_2, rr_12_3, rr_12_4, rr_12_5, rr_12_6, rr_12_7, rr_12_8, rr_12_9, rr_13_0, rr_13_1, rr_13_3, rr_13_4, rr_14_0, rr_14_1, rr_14_2, rr_14_3, rr_14_4, rr_21_0, rr_21_1, rr_21_2, rr_33_1, rr_35_0, rr_35_1, rr_35_3, rr_39_2, rr_39_3, rr_42_0, tc_0, tc_1, tc_2, tc_3, tc_4, tc_5, tc_6, tc_7, tc_8, tc_9, r0, r2, r4, hc, hcl, put_1, put_3, put_u5, upS_s, upS_u, upS_la, mkP_st, mkP_si, mkP_ve, mkP_fr, mkP_la, if_neg h1, sp_bitCount hm, k1, k2, k3, if_pos h3, sp_isNewTo hq hp16, hd, sp_turn hq hp16, put_u1, put_u2, mkP_st, mkP_si, mkP_ve, mkP_fr, mkP_la, Option.toList_some, Option.toList_none, List.cons_append, List.nil_append, Option.getD_some, am_nlI, am_nlR, am_nlN, bi_eq0, if_true, if_false, bf_tf, bf_ft, one_0]
        rw [hearF, if_neg h1, if_neg h2, if_pos h3]
      · simp (disch := (first | assumption | exact tg_12 | exact tg_13 | exact tg_2 | exact tg_20 | exact tg_14 | exact tg_15 | exact tg_16 | exact tg_17 | exact tg_18 | exact tg_19 | exact tg_21 | exact tg_22 | exact tg_23 | exact tg_24 | exact tg_25 | exact tg_26 | exact tg_33 | exact tg_34 | exact tg_35 | exact tg_36 | exact tg_37 | exact tg_38 | exact tg_39 | exact tg_40 | exact tg_41 | exact tg_42 | exact tg_43 | exact tg_52 | exact tg_1 | exact tg_3 | exact (show _ from rfl) | exact Nat.le_of_ble_eq_true rfl | exact bi_01 _ | exact Or.inl rfl | exact Or.inr rfl | exact ib_2 (by first | assumption | omega) | exact ib_20 (by first | assumption | omega) | exact ib_14 (by first | assumption | omega) | exact ib_15 (by first | assumption | omega) | exact ib_16 (by first | assumption | omega) | exact ib_17 (by first | assumption | omega) | exact ib_18 (by first | assumption | omega) | exact ib_19 (by first | assumption | omega) | exact ib_21 (by first | assumption | omega) | exact ib_22 (by first | assumption | omega) | exact ib_23 (by first | assumption | omega) | exact ib_24 (by first | assumption | omega) | exact ib_25 (by first | assumption | omega) | exact ib_26 (by first | assumption | omega) | exact ib_34 (by first | assumption | omega) | exact ib_36 (by first | assumption | omega) | exact ib_37 (by first | assumption | omega) | exact ib_38 (by first | assumption | omega) | exact ib_40 (by first | assumption | omega) | exact ib_41 (by first | assumption | omega) | exact ib_43 (by first | assumption | omega) | exact ib_52 (by first | assumption | omega) | exact ib_1 (by first | assumption | omega) | exact ib_3 (by first | assumption | omega) | omega | decide | exact il_14_0 | exact il_14_1 | exact il_14_2 | exact il_14_3 | exact il_14_4 | exact il_21_0 | exact il_21_1 | exact il_21_2)) only [en_X9_hear, st_X9_hear_0, st_X9_hear_1, st_X9_hear_4, st_X9_hear_5, st_X9_hear_7, st_X9_hear_8, st_X9_hear_9, st_X9_hear_12, st_X9_hear_13, st_X9_hear_14, st_X9_hear_15, st_X9_hear_18, st_X9_hear_19, st_X9_hear_20, st_X9_hear_23, st_X9_hear_24, st_X9_hear_25, st_X9_hear_26, st_X9_hear_27, st_X9_hear_28, st_X9_hear_29, st_X9_hear_32, st_X9_hear_33, st_X9_hear_34, st_X9_hear_35, st_X9_hear_38, st_X9_hear_39, st_X9_hear_40, st_X9_hear_41, st_X9_hear_42, st_X9_hear_45, st_X9_hear_46, st_X9_hear_49, st_X9_hear_50, st_X9_hear_52, st_X9_hear_53, st_X9_hear_54, st_X9_hear_57, st_X9_hear_60, st_X9_hear_61, st_X9_hear_64, st_X9_hear_66, st_X9_hear_67, st_X9_hear_68, st_X9_hear_69, st_X9_hear_72, st_X9_hear_74, st_X9_hear_75, st_X9_hear_76, st_X9_hear_79, st_X9_hear_80, st_X9_hear_81, st_X9_hear_83, st_X9_hear_84, st_X9_hear_87, st_X9_hear_89, st_X9_hear_92, st_X9_hear_93, st_X9_hear_94, st_X9_hear_96, st_X9_hear_99, st_X9_hear_100, st_X9_hear_103, st_X9_hear_104, st_X9_hear_106, st_X9_hear_109, st_X9_hear_112, st_X9_hear_114, st_X9_hear_117, st_X9_hear_118, st_X9_hear_119, st_X9_hear_120, st_X9_hear_122, st_X9_hear_125, rr_12_0, rr_12_1, rr_12_2, rr_12_3, rr_12_4, rr_12_5, rr_12_6, rr_12_7, rr_12_8, rr_12_9, rr_13_0, rr_13_1, rr_13_3, rr_13_4, rr_14_0, rr_14_1, rr_14_2, rr_14_3, rr_14_4, rr_21_0, rr_21_1, rr_21_2, rr_33_1, rr_35_0, rr_35_1, rr_35_3, rr_39_2, rr_39_3, rr_42_0, tc_0, tc_1, tc_2, tc_3, tc_4, tc_5, tc_6, tc_7, tc_8, tc_9, r0, r2, r4, hc, hcl, put_1, put_3, put_u5, upS_s, upS_u, upS_la, mkP_st, mkP_si, mkP_ve, mkP_fr, mkP_la, if_neg h1, sp_bitCount hm, k1, k2, k3, if_neg h3, sp_isNewTo hq hp16, hd, Option.toList_some, Option.toList_none, List.cons_append, List.nil_append, Option.getD_some, am_nlI, am_nlR, am_nlN, bi_eq0, if_true, if_false, bf_tf, bf_ft, one_0]
        rw [hearF, if_neg h1, if_neg h2, if_neg h3]
end HOUR
