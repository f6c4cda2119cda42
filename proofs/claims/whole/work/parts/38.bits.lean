/-! masks of persons, how many and which the least -/
theorem nI_and (a b : Nat) : nI a &&& nI b = nI (a &&& b) := by
  apply Int32.toBitVec_inj.1
  show BitVec.ofNat 32 a &&& BitVec.ofNat 32 b = BitVec.ofNat 32 (a &&& b)
  apply BitVec.eq_of_getLsbD_eq
  intro i hi
  simp [hi]
theorem nI_or (a b : Nat) : nI a ||| nI b = nI (a ||| b) := by
  apply Int32.toBitVec_inj.1
  show BitVec.ofNat 32 a ||| BitVec.ofNat 32 b = BitVec.ofNat 32 (a ||| b)
  apply BitVec.eq_of_getLsbD_eq
  intro i hi
  simp [hi]
theorem sh1 : ∀ p, p < 31 → (1 : Int32) <<< (nI p &&& 31) = nI (2 ^ p) := by decide +kernel
def mk (f : Nat → Bool) : Nat → Nat
  | 0 => 0
  | n + 1 => mk f n + (if f n then 2 ^ n else 0)
theorem mk_lt (f : Nat → Bool) : ∀ n, mk f n < 2 ^ n
  | 0 => by simp [mk]
  | n + 1 => by
    have := mk_lt f n
    have e : 2 ^ (n + 1) = 2 ^ n + 2 ^ n := by rw [Nat.pow_succ]; omega
    unfold mk; split <;> omega
theorem mk_lt16 (f : Nat → Bool) {n : Nat} (h : n ≤ 16) : mk f n < 65536 := Nat.lt_of_lt_of_le (mk_lt f n) (Nat.le_trans (Nat.pow_le_pow_right (by decide) h) (by decide))
theorem mk_or (f : Nat → Bool) (n : Nat) : mk f n ||| 2 ^ n = mk f n + 2 ^ n := by
  have := Nat.two_pow_add_eq_or_of_lt (mk_lt f n) 1
  rw [Nat.mul_one] at this
  rw [Nat.or_comm, ← this, Nat.add_comm]
theorem mk_bit (f : Nat → Bool) : ∀ (n i : Nat), (mk f n).testBit i = (decide (i < n) && f i)
  | 0, i => by simp [mk]
  | n + 1, i => by
    have ih := mk_bit f n i
    unfold mk
    by_cases hf : f n = true
    · rw [if_pos hf, ← mk_or, Nat.testBit_or, ih, Nat.testBit_two_pow]
      by_cases h1 : n = i
      · subst h1; simp [hf]
      · by_cases h2 : i < n
        · simp [h1, h2, Nat.lt_succ_of_lt h2]
        · simp [h1, h2, show ¬ i < n + 1 by omega]
    · rw [if_neg hf, Nat.add_zero, ih]
      by_cases h1 : n = i
      · subst h1; simp at hf; simp [hf]
      · by_cases h2 : i < n
        · simp [h2, Nat.lt_succ_of_lt h2]
        · simp [h2, show ¬ i < n + 1 by omega]
theorem mk_cong {f g : Nat → Bool} : ∀ {n : Nat}, (∀ i, i < n → f i = g i) → mk f n = mk g n
  | 0, _ => rfl
  | n + 1, h => by unfold mk; rw [mk_cong (fun i hi => h i (by omega)), h n (by omega)]
/-- the mask less one's own bit -/
theorem mk_less (f : Nat → Bool) {n p : Nat} (hn : n ≤ 16) (hp : p < 16) : nI (mk f n) &&& (((1 : Int32) <<< (nI p &&& 31)) ^^^ (-1)) = nI (mk (fun o => f o && !decide (o = p)) n) := by
  rw [sh1 p (by omega)]
  apply Int32.toBitVec_inj.1
  show BitVec.ofNat 32 _ &&& (BitVec.ofNat 32 (2 ^ p) ^^^ BitVec.allOnes 32) = BitVec.ofNat 32 _
  apply BitVec.eq_of_getLsbD_eq
  intro i hi
  simp only [BitVec.getLsbD_and, BitVec.getLsbD_xor, BitVec.getLsbD_ofNat, BitVec.getLsbD_allOnes, mk_bit, Nat.testBit_two_pow, hi, decide_true, Bool.true_and]
  by_cases h1 : i < n <;> by_cases h2 : p = i
  · subst h2; simp
  · simp [h1, h2, Ne.symm h2]
  · simp [h1]
  · simp [h1]
theorem mk_shift (f : Nat → Bool) : ∀ n, mk f (n + 1) = (if f 0 then 1 else 0) + 2 * mk (fun i => f (i + 1)) n
  | 0 => by simp [mk]
  | n + 1 => by
    rw [mk, mk_shift f n, mk, Nat.mul_add, Nat.add_assoc]
    congr 2
    split <;> simp [Nat.pow_succ]; omega
def ctn (f : Nat → Bool) : Nat → Nat
  | 0 => 0
  | n + 1 => ctn f n + (if f n then 1 else 0)
theorem ctn_shift (f : Nat → Bool) : ∀ n, ctn f (n + 1) = (if f 0 then 1 else 0) + ctn (fun i => f (i + 1)) n
  | 0 => by simp [ctn]
  | n + 1 => by rw [ctn, ctn_shift f n, ctn]; omega
theorem ctn_le (f : Nat → Bool) : ∀ n, ctn f n ≤ n
  | 0 => Nat.le_refl 0
  | n + 1 => by have := ctn_le f n; unfold ctn; split <;> omega
theorem ctn_cong {f g : Nat → Bool} : ∀ {n : Nat}, (∀ i, i < n → f i = g i) → ctn f n = ctn g n
  | 0, _ => rfl
  | n + 1, h => by unfold ctn; rw [ctn_cong (fun i hi => h i (by omega)), h n (by omega)]
/-- the least that is (n: none) -/
def lst (f : Nat → Bool) : Nat → Nat
  | 0 => 0
  | n + 1 => if f 0 then 0 else lst (fun i => f (i + 1)) n + 1
theorem lst_cong : ∀ {n : Nat} {f g : Nat → Bool}, (∀ i, i < n → f i = g i) → lst f n = lst g n
  | 0, _, _, _ => rfl
  | n + 1, f, g, h => by unfold lst; rw [h 0 (by omega), lst_cong (n := n) (f := fun i => f (i + 1)) (g := fun i => g (i + 1)) (fun i hi => h (i + 1) (by omega))]
theorem lst_yes : ∀ {n : Nat} {f : Nat → Bool}, 0 < ctn f n → lst f n < n ∧ f (lst f n) = true ∧ ∀ i, i < lst f n → f i = false
  | 0, f, h => by simp [ctn] at h
  | n + 1, f, h => by
    rw [ctn_shift] at h
    unfold lst
    by_cases h0 : f 0 = true
    · rw [if_pos h0]
      exact ⟨by omega, h0, fun i hi => by omega⟩
    · rw [if_neg h0] at h ⊢
      obtain ⟨h1, h2, h3⟩ := lst_yes (n := n) (f := fun i => f (i + 1)) (by omega)
      refine ⟨by omega, h2, fun i hi => ?_⟩
      cases i with
      | zero => simpa using h0
      | succ i => exact h3 i (by omega)
theorem lst_is {n : Nat} {f : Nat → Bool} {i : Nat} (hi : i < n) (h : f i = true) (h2 : ∀ j, j < i → f j = false) : lst f n = i := by
  induction n generalizing f i with
  | zero => omega
  | succ n ih =>
    unfold lst
    cases i with
    | zero => rw [if_pos h]
    | succ i =>
      rw [if_neg (by rw [h2 0 (by omega)]; decide), ih (f := fun i => f (i + 1)) (i := i) (by omega) h (fun j hj => h2 (j + 1) (by omega))]
theorem mk_0 {f : Nat → Bool} : ∀ {n : Nat}, mk f n = 0 ↔ ctn f n = 0
  | 0 => by simp [mk, ctn]
  | n + 1 => by
    have ih := mk_0 (f := f) (n := n)
    have hp : 0 < 2 ^ n := Nat.two_pow_pos n
    unfold mk ctn
    split <;> omega
def popN : Nat → Nat → Nat
  | 0, _ => 0
  | k + 1, m => m % 2 + popN k (m / 2)
def lowN : Nat → Nat → Nat
  | 0, _ => 0
  | k + 1, m => match m % 2 with
    | 0 => lowN k (m / 2) + 1
    | _ => 0
def bcN (m : Nat) : Nat :=
  let x1 := m - (m / 2 &&& 1431655765)
  let x2 := (x1 &&& 858993459) + (x1 / 4 &&& 858993459)
  let x3 := (x2 + x2 / 16) &&& 252645135
  let x4 := x3 + x3 / 256
  let x5 := x4 + x4 / 65536
  x5 &&& 63
theorem and_split (a b c d : Nat) (hb : b < 256) (hd : d < 256) : (256 * a + b) &&& (256 * c + d) = 256 * (a &&& c) + (b &&& d) := by
  have hbd : (b &&& d) < 256 := Nat.lt_of_le_of_lt Nat.and_le_left hb
  apply Nat.eq_of_testBit_eq
  intro i
  rw [Nat.testBit_and, show 256 = 2 ^ 8 from rfl, Nat.testBit_two_pow_mul_add _ hb, Nat.testBit_two_pow_mul_add _ hd, Nat.testBit_two_pow_mul_add _ hbd]
  by_cases h : i < 8
  · simp [h, Nat.testBit_and]
  · simp [h, Nat.testBit_and]
set_option maxRecDepth 100000 in
theorem pc_1 : ∀ l, l < 256 → (l / 2 &&& 85) ≤ l ∧ l - (l / 2 &&& 85) < 171 := by decide +kernel
set_option maxRecDepth 100000 in
theorem pc_2 : ∀ h, h < 2 → ∀ l, l < 256 → ((128 * h + l / 2) &&& 85) = (l / 2 &&& 85) := by decide +kernel
set_option maxRecDepth 100000 in
theorem pc_3 : ∀ h, h < 4 → ∀ l, l < 171 → ((64 * h + l / 4) &&& 51) = (l / 4 &&& 51) := by decide +kernel
set_option maxRecDepth 100000 in
theorem pc_4 : ∀ l, l < 256 → ((l - (l / 2 &&& 85)) &&& 51) + ((l - (l / 2 &&& 85)) / 4 &&& 51) ≤ 68 ∧ (((l - (l / 2 &&& 85)) &&& 51) + ((l - (l / 2 &&& 85)) / 4 &&& 51)) % 16 ≤ 4 := by decide +kernel
set_option maxRecDepth 100000 in
theorem pc_5 : ∀ h, h < 5 → ∀ l, l < 69 → (l + (16 * h + l / 16)) < 256 ∧ ((l + (16 * h + l / 16)) &&& 15) = ((l + l / 16) &&& 15) := by decide +kernel
set_option maxRecDepth 100000 in
theorem pc_6 : ∀ l, l < 256 → (((((l - (l / 2 &&& 85)) &&& 51) + ((l - (l / 2 &&& 85)) / 4 &&& 51)) + (((l - (l / 2 &&& 85)) &&& 51) + ((l - (l / 2 &&& 85)) / 4 &&& 51)) / 16) &&& 15) = popN 8 l := by decide +kernel
theorem pop_le : ∀ k m, popN k m ≤ k
  | 0, m => Nat.le_refl 0
  | k + 1, m => by have := pop_le k (m / 2); unfold popN; omega
set_option maxRecDepth 100000 in
theorem pc_7 : ∀ l, l < 17 → (l &&& 63) = l := by decide +kernel
theorem pop_split : ∀ (k j m : Nat), popN (k + j) m = popN k m + popN j (m / 2 ^ k)
  | 0, j, m => by simp [popN]
  | k + 1, j, m => by
    rw [show k + 1 + j = (k + j) + 1 by omega, popN, popN, pop_split k j (m / 2), Nat.div_div_eq_div_mul, Nat.pow_succ, Nat.mul_comm 2]
    omega
theorem pop_low : ∀ (k m a : Nat), popN k (2 ^ k * a + m) = popN k m
  | 0, m, a => rfl
  | k + 1, m, a => by
    rw [popN, popN, show (2 ^ (k + 1) * a + m) / 2 = 2 ^ k * a + m / 2 by rw [Nat.pow_succ, Nat.mul_right_comm]; omega, pop_low k, show (2 ^ (k + 1) * a + m) % 2 = m % 2 by rw [Nat.pow_succ, Nat.mul_right_comm]; omega]
theorem pop_bc {m : Nat} (hm : m < 65536) : bcN m = popN 16 m := by
  obtain ⟨h, l, hh, hl, rfl⟩ : ∃ h l, h < 256 ∧ l < 256 ∧ m = 256 * h + l := ⟨m / 256, m % 256, by omega, by omega, by omega⟩
  have e1 : ((256 * h + l) / 2 &&& 1431655765) = 256 * (h / 2 &&& 85) + (l / 2 &&& 85) := by
    rw [show (256 * h + l) / 2 = 256 * (h / 2) + (128 * (h % 2) + l / 2) by omega, show 1431655765 = 256 * 5592405 + 85 from rfl, and_split _ _ _ _ (by omega) (by omega), pc_2 _ (by omega) _ hl, show 5592405 = 256 * 21845 + 85 from rfl]
    congr 1
    have := and_split 0 (h / 2) 21845 85 (by omega) (by omega)
    rw [Nat.mul_zero, Nat.zero_add, Nat.zero_and, Nat.mul_zero, Nat.zero_add] at this
    rw [this]
  have f1 := pc_1 h hh
  have f2 := pc_1 l hl
  have f3 := pc_4 h hh
  have f4 := pc_4 l hl
  have g1 := pc_6 h hh
  have g2 := pc_6 l hl
  unfold bcN
  dsimp only
  rw [e1, show 256 * h + l - (256 * (h / 2 &&& 85) + (l / 2 &&& 85)) = 256 * (h - (h / 2 &&& 85)) + (l - (l / 2 &&& 85)) by omega]
  revert f3 f4 g1 g2
  generalize h - (h / 2 &&& 85) = a1 at f1 ⊢
  generalize l - (l / 2 &&& 85) = b1 at f2 ⊢
  intro f3 f4 g1 g2
  have e2 : (256 * a1 + b1 &&& 858993459) = 256 * (a1 &&& 51) + (b1 &&& 51) := by
    rw [show 858993459 = 256 * 3355443 + 51 from rfl, and_split _ _ _ _ (by omega) (by omega), show 3355443 = 256 * 13107 + 51 from rfl]
    congr 1
    have := and_split 0 a1 13107 51 (by omega) (by omega)
    rw [Nat.mul_zero, Nat.zero_add, Nat.zero_and, Nat.mul_zero, Nat.zero_add] at this
    rw [this]
  have e3 : ((256 * a1 + b1) / 4 &&& 858993459) = 256 * (a1 / 4 &&& 51) + (b1 / 4 &&& 51) := by
    rw [show (256 * a1 + b1) / 4 = 256 * (a1 / 4) + (64 * (a1 % 4) + b1 / 4) by omega, show 858993459 = 256 * 3355443 + 51 from rfl, and_split _ _ _ _ (by omega) (by omega), pc_3 _ (by omega) _ f2.2, show 3355443 = 256 * 13107 + 51 from rfl]
    congr 1
    have := and_split 0 (a1 / 4) 13107 51 (by omega) (by omega)
    rw [Nat.mul_zero, Nat.zero_add, Nat.zero_and, Nat.mul_zero, Nat.zero_add] at this
    rw [this]
  rw [e2, e3, show 256 * (a1 &&& 51) + (b1 &&& 51) + (256 * (a1 / 4 &&& 51) + (b1 / 4 &&& 51)) = 256 * ((a1 &&& 51) + (a1 / 4 &&& 51)) + ((b1 &&& 51) + (b1 / 4 &&& 51)) by omega]
  revert f3 f4 g1 g2
  generalize (a1 &&& 51) + (a1 / 4 &&& 51) = a2
  generalize (b1 &&& 51) + (b1 / 4 &&& 51) = b2
  intro f3 f4 g1 g2
  have k5 := pc_5 (a2 % 16) (by omega) b2 (by omega)
  have e4 : (256 * a2 + b2 + (256 * a2 + b2) / 16 &&& 252645135) = 256 * popN 8 h + popN 8 l := by
    rw [show 256 * a2 + b2 + (256 * a2 + b2) / 16 = 256 * (a2 + a2 / 16) + (b2 + (16 * (a2 % 16) + b2 / 16)) by omega, show 252645135 = 256 * 986895 + 15 from rfl, and_split _ _ _ _ k5.1 (by omega), k5.2, g2, show 986895 = 256 * 3855 + 15 from rfl]
    congr 1
    have := and_split 0 (a2 + a2 / 16) 3855 15 (by omega) (by omega)
    rw [Nat.mul_zero, Nat.zero_add, Nat.zero_and, Nat.mul_zero, Nat.zero_add] at this
    rw [this, g1]
  have p1 := pop_le 8 h
  have p2 := pop_le 8 l
  rw [e4, show (256 * popN 8 h + popN 8 l) / 256 = popN 8 h by omega]
  have e5 : popN 16 (256 * h + l) = popN 8 l + popN 8 h := by
    rw [pop_split 8 8, show 256 = 2 ^ 8 from rfl, pop_low 8, show (2 ^ 8 * h + l) / 2 ^ 8 = h by omega]
  rw [e5, show 256 * popN 8 h + popN 8 l + popN 8 h + (256 * popN 8 h + popN 8 l + popN 8 h) / 65536 = 256 * popN 8 h + (popN 8 l + popN 8 h) by omega]
  have := and_split (popN 8 h) (popN 8 l + popN 8 h) 0 63 (by omega) (by omega)
  rw [Nat.mul_zero, Nat.zero_add, Nat.and_zero, Nat.mul_zero, Nat.zero_add] at this
  rw [this, pc_7 _ (by omega)]
theorem and_two (a b : Nat) : (2 * a) &&& (2 * b) = 2 * (a &&& b) := by
  apply Nat.eq_of_testBit_eq
  intro i
  cases i with
  | zero => simp [Nat.testBit_zero]
  | succ i =>
    rw [Nat.testBit_and, Nat.testBit_succ, Nat.testBit_succ, Nat.testBit_succ, show (2 * a) / 2 = a by omega, show (2 * b) / 2 = b by omega, show (2 * (a &&& b)) / 2 = (a &&& b) by omega, Nat.testBit_and]
theorem and_two1 (a b : Nat) : (2 * a + 1) &&& (2 * b + 1) = 2 * (a &&& b) + 1 := by
  apply Nat.eq_of_testBit_eq
  intro i
  cases i with
  | zero => simp [Nat.testBit_zero, Nat.testBit_and]
  | succ i =>
    rw [Nat.testBit_and, Nat.testBit_succ, Nat.testBit_succ, Nat.testBit_succ, show (2 * a + 1) / 2 = a by omega, show (2 * b + 1) / 2 = b by omega, show (2 * (a &&& b) + 1) / 2 = (a &&& b) by omega, Nat.testBit_and]
theorem and_com {k x : Nat} (h : x < 2 ^ k) : x &&& (2 ^ k - (x + 1)) = 0 := by
  apply Nat.eq_of_testBit_eq
  intro i
  rw [Nat.testBit_and, Nat.testBit_two_pow_sub_succ h]
  cases x.testBit i <;> simp
theorem low_two : ∀ (k j m : Nat), 0 < m → m < 2 ^ k → (m &&& (2 ^ (k + j) - m)) = 2 ^ lowN k m
  | 0, j, m, h0, h => by simp at h; omega
  | k + 1, j, m, h0, h => by
    have hk : 2 ^ (k + 1) = 2 * 2 ^ k := by rw [Nat.pow_succ, Nat.mul_comm]
    have hkj : 2 ^ (k + 1 + j) = 2 * 2 ^ (k + j) := by rw [show k + 1 + j = (k + j) + 1 by omega, Nat.pow_succ, Nat.mul_comm]
    have hle : 2 ^ k ≤ 2 ^ (k + j) := Nat.pow_le_pow_right (by decide) (by omega)
    rw [lowN]
    rcases Nat.mod_two_eq_zero_or_one m with e | e
    · rw [e]
      show _ = 2 ^ (lowN k (m / 2) + 1)
      obtain ⟨q, rfl⟩ : ∃ q, m = 2 * q := ⟨m / 2, by omega⟩
      rw [hkj, show 2 * 2 ^ (k + j) - 2 * q = 2 * (2 ^ (k + j) - q) by omega, and_two, show 2 * q / 2 = q by omega, low_two k j q (by omega) (by omega), Nat.pow_succ, Nat.mul_comm]
    · rw [e]
      show _ = 2 ^ 0
      obtain ⟨q, rfl⟩ : ∃ q, m = 2 * q + 1 := ⟨m / 2, by omega⟩
      rw [hkj, show 2 * 2 ^ (k + j) - (2 * q + 1) = 2 * (2 ^ (k + j) - (q + 1)) + 1 by omega, and_two1, and_com (by omega)]
theorem lowN_lt : ∀ (k m : Nat), 0 < m → m < 2 ^ k → lowN k m < k
  | 0, m, h0, h => by simp at h; omega
  | k + 1, m, h0, h => by
    rw [Nat.pow_succ] at h
    rw [lowN]
    rcases Nat.mod_two_eq_zero_or_one m with e | e
    · rw [e]
      show lowN k (m / 2) + 1 < k + 1
      have := lowN_lt k (m / 2) (by omega) (by omega)
      omega
    · rw [e]; show 0 < k + 1; omega
set_option maxRecDepth 100000 in
theorem pop_two : ∀ j, j < 16 → 2 ^ j - 1 < 65536 ∧ popN 16 (2 ^ j - 1) = j := by decide +kernel
theorem low_and {m : Nat} (h : m < 65536) (h0 : m ≠ 0) : (m &&& (4294967296 - m)) = 2 ^ lowN 16 m := low_two 16 16 m (by omega) h
theorem low_pop {m : Nat} (h : m < 65536) (h0 : m ≠ 0) : popN 16 ((m &&& (4294967296 - m)) - 1) = lowN 16 m := by
  rw [low_and h h0, (pop_two _ (lowN_lt 16 m (by omega) h)).2]
theorem popN_mk : ∀ (n k : Nat) (f : Nat → Bool), n ≤ k → popN k (mk f n) = ctn f n
  | 0, 0, f, _ => rfl
  | 0, k + 1, f, _ => by
    have := popN_mk 0 k f (Nat.zero_le k)
    simpa [popN, mk, ctn] using this
  | n + 1, 0, f, h => by omega
  | n + 1, k + 1, f, h => by
    rw [mk_shift, ctn_shift, popN, ← popN_mk n k (fun i => f (i + 1)) (by omega)]
    split
    · rw [show (1 + 2 * mk (fun i => f (i + 1)) n) / 2 = mk (fun i => f (i + 1)) n by omega]
      omega
    · rw [show (0 + 2 * mk (fun i => f (i + 1)) n) / 2 = mk (fun i => f (i + 1)) n by omega]
      omega
theorem lowN_mk : ∀ (n k : Nat) (f : Nat → Bool), n ≤ k → 0 < ctn f n → lowN k (mk f n) = lst f n
  | 0, k, f, _, h => by simp [ctn] at h
  | n + 1, 0, f, h, _ => by omega
  | n + 1, k + 1, f, h, hc => by
    rw [mk_shift, lst, lowN]
    rw [ctn_shift] at hc
    by_cases h0 : f 0 = true
    · rw [if_pos h0, if_pos h0]
      have e : (1 + 2 * mk (fun i => f (i + 1)) n) % 2 = 1 := by omega
      rw [e]
      rfl
    · rw [if_neg h0] at hc ⊢
      rw [if_neg h0]
      have e : (0 + 2 * mk (fun i => f (i + 1)) n) % 2 = 0 := by omega
      have e2 : (0 + 2 * mk (fun i => f (i + 1)) n) / 2 = mk (fun i => f (i + 1)) n := by omega
      rw [e, e2]
      show lowN k _ + 1 = _
      rw [lowN_mk n k (fun i => f (i + 1)) (by omega) (by omega)]
section BCT
variable {d : Nat} {h : am_H} {Q : Option Value → am_H → Prop}
theorem us1 {n : Nat} (hn : n < 2 ^ 32) : ((nI n).toUInt32 >>> ((1 : Int32).toUInt32 &&& Int32.toUInt32 31)).toInt32 = nI (n / 2) := pk_ushrN hn 1 1 (by decide)
theorem us2 {n : Nat} (hn : n < 2 ^ 32) : ((nI n).toUInt32 >>> ((2 : Int32).toUInt32 &&& Int32.toUInt32 31)).toInt32 = nI (n / 4) := pk_ushrN hn 2 2 (by decide)
theorem us4 {n : Nat} (hn : n < 2 ^ 32) : ((nI n).toUInt32 >>> ((4 : Int32).toUInt32 &&& Int32.toUInt32 31)).toInt32 = nI (n / 16) := pk_ushrN hn 4 4 (by decide)
theorem us8 {n : Nat} (hn : n < 2 ^ 32) : ((nI n).toUInt32 >>> ((8 : Int32).toUInt32 &&& Int32.toUInt32 31)).toInt32 = nI (n / 256) := pk_ushrN hn 8 8 (by decide)
theorem us16 {n : Nat} (hn : n < 2 ^ 32) : ((nI n).toUInt32 >>> ((16 : Int32).toUInt32 &&& Int32.toUInt32 31)).toInt32 = nI (n / 65536) := pk_ushrN hn 16 16 (by decide)
theorem bc_nI {m : Nat} (hm : m < 65536) : (let x1 := nI m - (((nI m).toUInt32 >>> ((1 : Int32).toUInt32 &&& Int32.toUInt32 31)).toInt32 &&& 1431655765); let x2 := (x1 &&& 858993459) + ((x1.toUInt32 >>> ((2 : Int32).toUInt32 &&& Int32.toUInt32 31)).toInt32 &&& 858993459); let x3 := (x2 + (x2.toUInt32 >>> ((4 : Int32).toUInt32 &&& Int32.toUInt32 31)).toInt32) &&& 252645135; let x4 := x3 + (x3.toUInt32 >>> ((8 : Int32).toUInt32 &&& Int32.toUInt32 31)).toInt32; let x5 := x4 + (x4.toUInt32 >>> ((16 : Int32).toUInt32 &&& Int32.toUInt32 31)).toInt32; x5 &&& 63) = nI (popN 16 m) := by
  rw [← pop_bc hm]
  dsimp only
  have k1 : (1431655765 : Int32) = nI 1431655765 := rfl
  have k2 : (858993459 : Int32) = nI 858993459 := rfl
  have k3 : (252645135 : Int32) = nI 252645135 := rfl
  have k4 : (63 : Int32) = nI 63 := rfl
  have a1 : (m / 2 &&& 1431655765) ≤ m / 2 := Nat.and_le_left
  have e1 : nI m - (((nI m).toUInt32 >>> ((1 : Int32).toUInt32 &&& Int32.toUInt32 31)).toInt32 &&& 1431655765) = nI (m - (m / 2 &&& 1431655765)) := by
    rw [us1 (by omega), k1, nI_and, pk_sub (by omega)]
  rw [e1]
  unfold bcN
  dsimp only
  generalize hx1 : m - (m / 2 &&& 1431655765) = x1
  have b1 : x1 < 65536 := by omega
  have c1 : (x1 &&& 858993459) ≤ x1 := Nat.and_le_left
  have c2 : (x1 / 4 &&& 858993459) ≤ x1 / 4 := Nat.and_le_left
  rw [us2 (by omega), k2, nI_and, nI_and, nI_add]
  generalize hx2 : (x1 &&& 858993459) + (x1 / 4 &&& 858993459) = x2
  have b2 : x2 < 200000 := by omega
  have c3 : ((x2 + x2 / 16) &&& 252645135) ≤ x2 + x2 / 16 := Nat.and_le_left
  rw [us4 (by omega), nI_add, k3, nI_and]
  generalize hx3 : ((x2 + x2 / 16) &&& 252645135) = x3
  have b3 : x3 < 400000 := by omega
  rw [us8 (by omega), nI_add, us16 (by omega), nI_add, k4, nI_and]
set_option maxRecDepth 100000 in
theorem sp_bitCount {m : Nat} (hm : m < 65536) : CALL d 202 [.int (nI m)] h Q = Q (some (.int (nI (popN 16 m)))) h := by
  simp (disch := (first | assumption | exact tg_12 | exact (show _ from rfl) | exact Nat.le_of_ble_eq_true rfl | exact bi_01 _ | exact Or.inl rfl | exact Or.inr rfl | omega | decide)) only [en_J6_bitCount_0f7a4, st_J6_bitCount_0f7a4_0, st_J6_bitCount_0f7a4_1, st_J6_bitCount_0f7a4_2, st_J6_bitCount_0f7a4_3, st_J6_bitCount_0f7a4_4, st_J6_bitCount_0f7a4_7, st_J6_bitCount_0f7a4_8, st_J6_bitCount_0f7a4_9, st_J6_bitCount_0f7a4_10, st_J6_bitCount_0f7a4_11, st_J6_bitCount_0f7a4_14, st_J6_bitCount_0f7a4_15, st_J6_bitCount_0f7a4_16, st_J6_bitCount_0f7a4_17, st_J6_bitCount_0f7a4_18, st_J6_bitCount_0f7a4_21, st_J6_bitCount_0f7a4_22, st_J6_bitCount_0f7a4_23, st_J6_bitCount_0f7a4_24, st_J6_bitCount_0f7a4_25, st_J6_bitCount_0f7a4_26, st_J6_bitCount_0f7a4_27, st_J6_bitCount_0f7a4_28, st_J6_bitCount_0f7a4_29, st_J6_bitCount_0f7a4_32, st_J6_bitCount_0f7a4_33, st_J6_bitCount_0f7a4_34, st_J6_bitCount_0f7a4_35, st_J6_bitCount_0f7a4_36, st_J6_bitCount_0f7a4_38, st_J6_bitCount_0f7a4_39, st_J6_bitCount_0f7a4_40, st_J6_bitCount_0f7a4_41, st_J6_bitCount_0f7a4_42, st_J6_bitCount_0f7a4_43, st_J6_bitCount_0f7a4_45, st_J6_bitCount_0f7a4_46, st_J6_bitCount_0f7a4_47, st_J6_bitCount_0f7a4_48, st_J6_bitCount_0f7a4_49, st_J6_bitCount_0f7a4_51, st_J6_bitCount_0f7a4_52]
  rw [← bc_nI hm]
theorem neg_nI {m : Nat} (hm : m ≤ 4294967296) : -nI m = nI (4294967296 - m) := by
  have h1 : nI (4294967296 - m) + nI m = 0 := by
    rw [nI_add, show 4294967296 - m + m = 4294967296 by omega]
    rfl
  have h2 : nI (4294967296 - m) = 0 - nI m := by rw [← h1]; exact (Int32.add_sub_cancel _ _).symm
  rw [h2]
  exact (Int32.zero_sub _).symm
set_option maxRecDepth 100000 in
theorem sp_leastOf {m : Nat} (hm : m < 65536) (h0 : m ≠ 0) : CALL (d + 1) 65 [.int (nI m)] h Q = Q (some (.int (nI (lowN 16 m)))) h := by
  have e0 := low_and hm h0
  have e2 := (pop_two _ (lowN_lt 16 m (by omega) hm)).1
  have c1 := Nat.two_pow_pos (lowN 16 m)
  have e1 : (nI m &&& -nI m) - 1 = nI ((m &&& (4294967296 - m)) - 1) ∧ (m &&& (4294967296 - m)) - 1 < 65536 := by
    refine ⟨?_, by omega⟩
    rw [neg_nI (by omega), nI_and]
    exact pk_sub (b := 1) (by omega)
  simp (disch := (first | assumption | exact tg_12 | exact (show _ from rfl) | exact Nat.le_of_ble_eq_true rfl | exact bi_01 _ | exact Or.inl rfl | exact Or.inr rfl | omega | decide)) only [en_X9_leastOf, st_X9_leastOf_0, st_X9_leastOf_1, st_X9_leastOf_2, st_X9_leastOf_3, st_X9_leastOf_4, st_X9_leastOf_5, st_X9_leastOf_6, st_X9_leastOf_9, e1.1, sp_bitCount e1.2, low_pop hm h0, Option.toList_some, Option.toList_none, List.cons_append, List.nil_append, Option.getD_some, am_nlI, am_nlR, am_nlN, bi_eq0, if_true, if_false, bf_tf, bf_ft]
end BCT
