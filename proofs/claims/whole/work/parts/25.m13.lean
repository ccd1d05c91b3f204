/-! SETS AS NUMBERS -/
theorem z_and (a b : Nat) : nI a &&& nI b = nI (a &&& b) := Int32.toBitVec_inj.mp (by
  show BitVec.ofNat 32 a &&& BitVec.ofNat 32 b = BitVec.ofNat 32 (a &&& b)
  rw [BitVec.ofNat_and])
theorem z_or (a b : Nat) : nI a ||| nI b = nI (a ||| b) := Int32.toBitVec_inj.mp (by
  show BitVec.ofNat 32 a ||| BitVec.ofNat 32 b = BitVec.ofNat 32 (a ||| b)
  rw [BitVec.ofNat_or])
theorem z_xor (a b : Nat) : nI a ^^^ nI b = nI (a ^^^ b) := Int32.toBitVec_inj.mp (by
  show BitVec.ofNat 32 a ^^^ BitVec.ofNat 32 b = BitVec.ofNat 32 (a ^^^ b)
  rw [BitVec.ofNat_xor])
theorem z_sm : ∀ k, k < 32 → ((nI k &&& 31).toBitVec.smod 32).toNat = k := by decide
theorem z_shrN {m k : Nat} (hm : m < 2147483648) (hk : k < 32) : z_shr (nI m) (nI k) = nI (m / 2 ^ k) := pk_shrN hm _ _ (z_sm k hk)
theorem z_sh1 : ∀ k, k < 32 → z_shl (nI 1) (nI k) = nI (2 ^ k) := by decide
theorem z_ng1 : z_ng 1 = nI 4294967295 := by decide
theorem f_has_tb {m k : Nat} (hm : m < 2147483648) (hk : k < 31) : f_has (nI m) k = m.testBit k := by
  have h : m / 2 ^ k % 2 < 2 := Nat.mod_lt _ (by omega)
  unfold f_has
  rw [z_shrN hm (by omega), z_and, Nat.and_one_is_mod, Nat.testBit_eq_decide_div_mod_eq]
  simp only [e_eq (show m / 2 ^ k % 2 < 2147483648 by omega) (show 1 < 2147483648 by omega)]
theorem z_sub_iff {k u : Nat} (hk : k < 2147483648) (hu : u < 2147483648) : (nI k &&& (nI u ^^^ z_ng 1) = 0) = ∀ i, k.testBit i = true → u.testBit i = true := by
  rw [z_ng1, z_xor, z_and]
  have hl : k &&& (u ^^^ 4294967295) < 2147483648 := Nat.lt_of_le_of_lt Nat.and_le_left hk
  rw [e_eq0 hl]
  refine propext ⟨fun h i hi => ?_, fun h => Nat.eq_of_testBit_eq fun i => ?_⟩
  · have h1 := congrArg (fun n => n.testBit i) h
    have hi31 : i < 31 := Decidable.byContradiction fun q => by
      rw [Nat.testBit_lt_two_pow (Nat.lt_of_lt_of_le hk (Nat.pow_le_pow_right (n := 2) (by omega) (show 31 ≤ i by omega)))] at hi
      cases hi
    simp only [Nat.testBit_and, Nat.testBit_xor, Nat.zero_testBit, hi, Bool.true_and] at h1
    rw [show (4294967295 : Nat) = 2 ^ 32 - 1 by decide, Nat.testBit_two_pow_sub_one, decide_eq_true (by omega), Bool.xor_true] at h1
    simpa using h1
  · rw [Nat.testBit_and, Nat.testBit_xor, Nat.zero_testBit, show (4294967295 : Nat) = 2 ^ 32 - 1 by decide, Nat.testBit_two_pow_sub_one]
    cases q : k.testBit i with
    | false => rfl
    | true =>
      have hi31 : i < 31 := Decidable.byContradiction fun q2 => by
        rw [Nat.testBit_lt_two_pow (Nat.lt_of_lt_of_le hk (Nat.pow_le_pow_right (n := 2) (by omega) (show 31 ≤ i by omega)))] at q
        cases q
      rw [h i q, decide_eq_true (by omega)]
      rfl
def f_bits (p : Nat → Bool) : Nat → Nat
  | 0 => 0
  | k + 1 => f_bits p k + (if p k = true then 2 ^ k else 0)
def f_cnt (p : Nat → Bool) : Nat → Nat
  | 0 => 0
  | k + 1 => f_cnt p k + (if p k = true then 1 else 0)
theorem f_cnt_le (p : Nat → Bool) : ∀ k, f_cnt p k ≤ k
  | 0 => Nat.le_refl _
  | k + 1 => by
    have := f_cnt_le p k
    unfold f_cnt
    split <;> omega
theorem f_cnt_mono {p q : Nat → Bool} (h : ∀ i, p i = true → q i = true) : ∀ k, f_cnt p k ≤ f_cnt q k
  | 0 => Nat.le_refl _
  | k + 1 => by
    have := f_cnt_mono h k
    unfold f_cnt
    by_cases c : p k = true
    · rw [if_pos c, if_pos (h k c)]; omega
    · rw [if_neg c]; split <;> omega
theorem f_cnt_congr {p q : Nat → Bool} : ∀ k, (∀ i, i < k → p i = q i) → f_cnt p k = f_cnt q k
  | 0, _ => rfl
  | k + 1, h => by
    unfold f_cnt
    rw [f_cnt_congr k fun i hi => h i (by omega), h k (by omega)]
theorem f_bits_lt (p : Nat → Bool) : ∀ k, f_bits p k < 2 ^ k
  | 0 => Nat.zero_lt_one
  | k + 1 => by
    have := f_bits_lt p k
    unfold f_bits
    rw [Nat.pow_succ]
    split <;> omega
theorem z_orbit {a k : Nat} (h : a < 2 ^ k) : a ||| 2 ^ k = a + 2 ^ k := by
  have := Nat.two_pow_add_eq_or_of_lt h 1
  rw [Nat.mul_one] at this
  rw [Nat.or_comm, Nat.add_comm, this]
theorem f_bits_tb (p : Nat → Bool) : ∀ k i, (f_bits p k).testBit i = (decide (i < k) && p i)
  | 0, i => by simp [f_bits]
  | k + 1, i => by
    have h1 := f_bits_tb p k i
    have h2 := f_bits_lt p k
    unfold f_bits
    split
    · next c =>
      rw [← z_orbit h2, Nat.testBit_or, h1, Nat.testBit_two_pow]
      by_cases q : k = i
      · subst q; simp [c]
      · by_cases q2 : i < k
        · simp [q, q2, show i < k + 1 by omega]
        · simp [q, q2, show ¬ i < k + 1 by omega]
    · next c =>
      rw [Nat.add_zero, h1]
      by_cases q : k = i
      · subst q; simp [c]
      · by_cases q2 : i < k
        · simp [q2, show i < k + 1 by omega]
        · simp [q2, show ¬ i < k + 1 by omega]
theorem f_bits_or {p : Nat → Bool} {k : Nat} (hk : k < 32) : nI (f_bits p k) ||| (if p k = true then z_shl (nI 1) (nI k) else nI 0) = nI (f_bits p (k + 1)) := by
  conv => rhs; unfold f_bits
  split
  · rw [z_sh1 k hk, z_or, z_orbit (f_bits_lt p k)]
  · rw [z_or, Nat.or_zero, Nat.add_zero]
theorem f_ones_tb {m : Nat} (hm : m < 2147483648) : ∀ k, k < 32 → f_ones (nI m) k = nI (f_cnt m.testBit k)
  | 0, _ => rfl
  | k + 1, hk => by
    unfold f_ones f_cnt
    rw [f_ones_tb hm k (by omega), z_shrN hm (by omega), z_and, Nat.and_one_is_mod, nI_add, Nat.testBit_eq_decide_div_mod_eq]
    have h : m / 2 ^ k % 2 < 2 := Nat.mod_lt _ (by omega)
    by_cases c : m / 2 ^ k % 2 = 1
    · rw [c, decide_eq_true rfl, if_pos rfl]
    · rw [show m / 2 ^ k % 2 = 0 by omega, decide_eq_false (by decide), if_neg (by decide)]
theorem f_those_b {s : ZS} {x : Int32} : ∀ k, k < 32 → f_those s x k = nI (f_bits (fun i => decide (s.2 0 i = x)) k)
  | 0, _ => rfl
  | k + 1, hk => by
    rw [← f_bits_or (by omega)]
    unfold f_those
    rw [f_those_b k (by omega)]
    simp only [decide_eq_true_eq]
theorem f_reached_b {s : ZS} {co : Int32} {r : ZW} : ∀ k, k < 32 → f_reached s co r k = nI (f_bits (fun i => (f_endOf s co r i).isSome) k)
  | 0, _ => rfl
  | k + 1, hk => by
    rw [← f_bits_or (by omega)]
    unfold f_reached
    rw [f_reached_b k (by omega)]
theorem f_downs_b {r : ZW} : ∀ k, k < 10 → (∀ i, i < k → r (58 + i) = nI 0 ∨ r (58 + i) = nI 1) → f_downs r k = nI (f_bits (fun i => decide (r (58 + i) = nI 1)) k)
  | 0, _, _ => rfl
  | k + 1, hk, h => by
    rw [← f_bits_or (by omega)]
    unfold f_downs
    rw [f_downs_b k (by omega) fun i hi => h i (by omega)]
    rcases h k (by omega) with e | e
    · rw [e, decide_eq_false (by decide), if_neg (by decide)]
      congr 1
      have : ∀ k, k < 10 → z_shl (nI 0) (nI k) = nI 0 := by decide
      exact this k (by omega)
    · rw [e, decide_eq_true rfl, if_pos rfl]
/-- the number of reached nodes -/
def f_rc (s : ZS) (co : Int32) (r : ZW) : Nat := f_cnt (fun i => (f_endOf s co r i).isSome) s.1.1
theorem f_bits_cnt {p : Nat → Bool} {n : Nat} : ∀ d, f_cnt (f_bits p n).testBit (n + d) = f_cnt p n
  | 0 => f_cnt_congr n fun i hi => by rw [f_bits_tb, decide_eq_true hi, Bool.true_and]
  | d + 1 => by
    show f_cnt (f_bits p n).testBit (n + d) + (if (f_bits p n).testBit (n + d) = true then 1 else 0) = f_cnt p n
    rw [f_bits_cnt d, f_bits_tb, decide_eq_false (by omega)]
    rfl
theorem f_ones_b {p : Nat → Bool} {n : Nat} (hn : n ≤ 9) : f_ones (nI (f_bits p n)) 9 = nI (f_cnt p n) := by
  have h1 := f_bits_lt p n
  have h2 : 2 ^ n ≤ 2 ^ 9 := Nat.pow_le_pow_right (by omega) hn
  rw [f_ones_tb (by omega) 9 (by omega)]
  have := f_bits_cnt (p := p) (n := n) (9 - n)
  rw [show n + (9 - n) = 9 by omega] at this
  rw [this]
theorem f_rc_eq {s : ZS} {co : Int32} {r : ZW} (hn : s.1.1 ≤ 8) : f_ones (f_reached s co r s.1.1) 9 = nI (f_rc s co r) := by
  rw [f_reached_b _ (by omega), f_ones_b (by omega)]
  rfl
theorem f_rc_le {s : ZS} {co : Int32} {r : ZW} : f_rc s co r ≤ s.1.1 := f_cnt_le _ _
