/-! THE READERS: when each two nodes have a link -/
def x_dg (F : Nat → Nat → Int32) (a : Nat) : Nat → Nat
  | 0 => 0
  | k + 1 => x_dg F a k + (if F 4 k = nI a ∨ F 5 k = nI a then 1 else 0)
def x_sum (f : Nat → Nat) : Nat → Nat
  | 0 => 0
  | k + 1 => x_sum f k + f k
/-- the links so far join different nodes, each pair once -/
def x_lv (F : Nat → Nat → Int32) (n l : Nat) : Prop := ∀ k, k < l → ∃ p q, p < n ∧ q < n ∧ p ≠ q ∧ F 4 k = nI p ∧ F 5 k = nI q ∧ f_lkd F p q k = false
theorem f_lkd_s {F : Nat → Nat → Int32} {a b : Nat} : ∀ l, f_lkd F a b l = f_lkd F b a l
  | 0 => rfl
  | l + 1 => by
    unfold f_lkd
    rw [f_lkd_s l, Bool.or_comm (decide (F 4 l = nI a) && decide (F 5 l = nI b))]
theorem f_cnt_add {p : Nat → Bool} {q : Nat} : ∀ n, q < n → p q = false → f_cnt (fun b => p b || decide (b = q)) n = f_cnt p n + 1
  | 0, h, _ => absurd h (Nat.not_lt_zero _)
  | n + 1, h, hp => by
    unfold f_cnt
    by_cases e : q = n
    · subst e
      have w := f_cnt_congr (p := fun b => p b || decide (b = q)) (q := p) q (fun i hi => by show (p i || decide (i = q)) = p i; rw [decide_eq_false (by omega), Bool.or_false])
      rw [w, hp, decide_eq_true rfl]
      rfl
    · have ih := f_cnt_add (p := p) n (by omega) hp
      have hne : decide (n = q) = false := decide_eq_false (fun z => e z.symm)
      rw [ih, hne, Bool.or_false]
      omega
theorem f_lkd_n {F : Nat → Nat → Int32} {a b p q l : Nat} (ha : a < 1000) (hb : b < 1000) (hp : p < 1000) (hq : q < 1000) (e1 : F 4 l = nI p) (e2 : F 5 l = nI q) : f_lkd F a b (l + 1) = (f_lkd F a b l || ((decide (p = a) && decide (q = b)) || (decide (p = b) && decide (q = a)))) := by
  show (f_lkd F a b l || ((decide (F 4 l = nI a) && decide (F 5 l = nI b)) || (decide (F 4 l = nI b) && decide (F 5 l = nI a)))) = _
  rw [e1, e2]
  simp (disch := omega) only [e_eq]
theorem x_dg_cnt {F : Nat → Nat → Int32} {n a : Nat} (hn : n ≤ 8) (ha : a < n) : ∀ l, x_lv F n l → x_dg F a l = f_cnt (fun b => decide (b ≠ a) && f_lkd F a b l) n
  | 0, _ => by
    have w := f_cnt_congr (p := fun b => decide (b ≠ a) && f_lkd F a b 0) (q := fun _ => false) n (fun i _ => by show (decide (i ≠ a) && false) = false; rw [Bool.and_false])
    have z : ∀ n, f_cnt (fun _ => false) n = 0 := fun n => by
      induction n with
      | zero => rfl
      | succ n ih => unfold f_cnt; rw [ih]; rfl
    rw [w, z]
    rfl
  | l + 1, hl => by
    have ih := x_dg_cnt hn ha l (fun k hk => hl k (by omega))
    obtain ⟨p, q, hp, hq, hpq, e1, e2, h0⟩ := hl l (by omega)
    have key : ∀ t, t < n → t ≠ a → f_lkd F a t l = false → (∀ b, b < n → ((decide (p = a) && decide (q = b)) || (decide (p = b) && decide (q = a))) = decide (b = t)) → f_cnt (fun b => decide (b ≠ a) && f_lkd F a b (l + 1)) n = f_cnt (fun b => decide (b ≠ a) && f_lkd F a b l) n + 1 := fun t ht hta h0 hb => by
      rw [← f_cnt_add (p := fun b => decide (b ≠ a) && f_lkd F a b l) (q := t) n ht (by show (decide (t ≠ a) && f_lkd F a t l) = false; rw [h0, Bool.and_false])]
      refine f_cnt_congr n fun b hb' => ?_
      show (decide (b ≠ a) && f_lkd F a b (l + 1)) = ((decide (b ≠ a) && f_lkd F a b l) || decide (b = t))
      rw [f_lkd_n (by omega) (by omega) (by omega) (by omega) e1 e2, hb b hb']
      by_cases c : b = a
      · rw [decide_eq_false (show ¬ b ≠ a from fun z => z c), decide_eq_false (show ¬ b = t by omega)]; rfl
      · rw [decide_eq_true (show b ≠ a from c)]; rfl
    show x_dg F a l + (if F 4 l = nI a ∨ F 5 l = nI a then 1 else 0) = _
    rw [e1, e2]
    simp (disch := omega) only [e_eq]
    by_cases ca : p = a
    · rw [if_pos (Or.inl ca), ih]
      refine (key q hq (by omega) (by rw [← ca]; exact h0) fun b hb => ?_).symm
      by_cases cb : b = q
      · rw [decide_eq_true ca, decide_eq_true cb, decide_eq_true cb.symm]; rfl
      · rw [decide_eq_true ca, decide_eq_false cb, decide_eq_false (show ¬ q = b from fun z => cb z.symm), decide_eq_false (show ¬ q = a by omega)]; simp
    · by_cases cq : q = a
      · rw [if_pos (Or.inr cq), ih]
        refine (key p hp ca (by rw [← cq, f_lkd_s]; exact h0) fun b hb => ?_).symm
        by_cases cb : b = p
        · rw [decide_eq_true cq, decide_eq_true cb, decide_eq_true cb.symm]; simp
        · rw [decide_eq_true cq, decide_eq_false cb, decide_eq_false (show ¬ p = b from fun z => cb z.symm), decide_eq_false ca]; rfl
      · rw [if_neg (fun z => z.elim ca cq), ih, Nat.add_zero]
        refine f_cnt_congr n fun b hb' => ?_
        show (decide (b ≠ a) && f_lkd F a b l) = (decide (b ≠ a) && f_lkd F a b (l + 1))
        rw [f_lkd_n (by omega) (by omega) (by omega) (by omega) e1 e2, decide_eq_false ca, decide_eq_false cq]
        simp
set_option maxRecDepth 100000 in
theorem x_sum_2 : ∀ n, n < 9 → ∀ p, p < n → ∀ q, q < n → p ≠ q → x_sum (fun a => if p = a ∨ q = a then 1 else 0) n = 2 := by decide +kernel
theorem x_sum_add {f g : Nat → Nat} : ∀ n, x_sum (fun a => f a + g a) n = x_sum f n + x_sum g n
  | 0 => rfl
  | n + 1 => by
    unfold x_sum
    rw [x_sum_add n]
    omega
theorem x_sum_congr {f g : Nat → Nat} : ∀ n, (∀ a, a < n → f a = g a) → x_sum f n = x_sum g n
  | 0, _ => rfl
  | n + 1, h => by
    unfold x_sum
    rw [x_sum_congr n (fun a ha => h a (by omega)), h n (by omega)]
theorem x_sum_dg {F : Nat → Nat → Int32} {n : Nat} (hn : n ≤ 8) : ∀ l, x_lv F n l → x_sum (fun a => x_dg F a l) n = 2 * l
  | 0, _ => by
    have z : ∀ n, x_sum (fun a => x_dg F a 0) n = 0 := fun n => by
      induction n with
      | zero => rfl
      | succ n ih => unfold x_sum; rw [ih]; rfl
    rw [z]
  | l + 1, hl => by
    have ih := x_sum_dg hn l (fun k hk => hl k (by omega))
    obtain ⟨p, q, hp, hq, hpq, e1, e2, _⟩ := hl l (by omega)
    have w := x_sum_congr (f := fun a => x_dg F a (l + 1)) (g := fun a => x_dg F a l + (if p = a ∨ q = a then 1 else 0)) n (fun a ha => by
      show x_dg F a l + (if F 4 l = nI a ∨ F 5 l = nI a then 1 else 0) = _
      rw [e1, e2]
      simp (disch := omega) only [e_eq])
    rw [w, x_sum_add, ih, x_sum_2 n (by omega) p hp q hq hpq]
    omega
theorem x_sum_le {f : Nat → Nat} {c : Nat} : ∀ n, (∀ a, a < n → f a ≤ c) → x_sum f n ≤ n * c
  | 0, _ => by simp [x_sum]
  | n + 1, h => by
    have := x_sum_le n (fun a ha => h a (by omega))
    have h2 := h n (by omega)
    unfold x_sum
    rw [Nat.succ_mul]
    omega
theorem x_sum_lt {f : Nat → Nat} {c a : Nat} : ∀ n, (∀ a, a < n → f a ≤ c) → a < n → f a < c → x_sum f n < n * c
  | 0, _, h, _ => absurd h (Nat.not_lt_zero _)
  | n + 1, h, ha, hf => by
    unfold x_sum
    rw [Nat.succ_mul]
    by_cases e : a = n
    · subst e
      have := x_sum_le a (fun b hb => h b (by omega))
      omega
    · have := x_sum_lt n (fun b hb => h b (by omega)) (by omega) hf
      have h2 := h n (by omega)
      omega
theorem f_cnt_ne : ∀ n, n < 9 → ∀ a, a < n → f_cnt (fun b => decide (b ≠ a)) n = n - 1 := by decide
theorem f_ful_iff {R : ZRd} {a : Nat} : ∀ n, f_ful R a n = true ↔ ∀ b, b < n → b ≠ a → f_lkd R.1.2 a b R.1.1.2 = true
  | 0 => ⟨fun _ b hb => absurd hb (Nat.not_lt_zero _), fun _ => rfl⟩
  | n + 1 => by
    unfold f_ful
    rw [Bool.and_eq_true, f_ful_iff n, Bool.or_eq_true, decide_eq_true_eq]
    constructor
    · rintro ⟨h1, h2⟩ b hb hba
      by_cases e : b = n
      · subst e; exact h2.resolve_left hba
      · exact h1 b (by omega) hba
    · intro h
      refine ⟨fun b hb hba => h b (by omega) hba, ?_⟩
      by_cases e : n = a
      · exact Or.inl e
      · exact Or.inr (h n (by omega) e)
/-- a node is full where it has a link with each other node -/
theorem f_ful_dg {R : ZRd} {a : Nat} (hn : R.1.1.1 ≤ 8) (ha : a < R.1.1.1) (hl : x_lv R.1.2 R.1.1.1 R.1.1.2) : x_dg R.1.2 a R.1.1.2 ≤ R.1.1.1 - 1 ∧ (f_ful R a R.1.1.1 = true ↔ R.1.1.1 - 1 ≤ x_dg R.1.2 a R.1.1.2) := by
  have hm : ∀ i, (decide (i ≠ a) && f_lkd R.1.2 a i R.1.1.2) = true → decide (i ≠ a) = true := fun i h => by
    rw [Bool.and_eq_true] at h; exact h.1
  have h1 := f_cnt_mono hm R.1.1.1
  rw [f_cnt_ne _ (by omega) a ha] at h1
  rw [x_dg_cnt hn ha _ hl]
  refine ⟨h1, ?_⟩
  rw [f_ful_iff]
  constructor
  · intro h
    rw [← f_cnt_ne _ (by omega) a ha]
    refine Nat.le_of_eq (f_cnt_congr _ fun b hb => ?_)
    by_cases e : b = a
    · rw [decide_eq_false (show ¬ b ≠ a from fun z => z e)]; rfl
    · rw [decide_eq_true (show b ≠ a from e), h b hb e]; rfl
  · intro h b hb hba
    cases q : f_lkd R.1.2 a b R.1.1.2 with
    | true => rfl
    | false =>
      have := f_cnt_lt hm R.1.1.1 b hb (by show (decide (b ≠ a) && f_lkd R.1.2 a b R.1.1.2) = false; rw [q, Bool.and_false]) (decide_eq_true hba)
      rw [f_cnt_ne _ (by omega) a ha] at this
      omega
theorem f_mal_iff {R : ZRd} : ∀ n, f_mal R n = true ↔ ∃ a, a < n ∧ f_ful R a R.1.1.1 = false
  | 0 => ⟨fun h => Bool.noConfusion h, fun ⟨a, h, _⟩ => absurd h (Nat.not_lt_zero _)⟩
  | n + 1 => by
    unfold f_mal
    rw [Bool.or_eq_true, f_mal_iff n, Bool.not_eq_true']
    constructor
    · rintro (⟨a, h1, h2⟩ | h)
      · exact ⟨a, by omega, h2⟩
      · exact ⟨n, by omega, h⟩
    · rintro ⟨a, h1, h2⟩
      by_cases e : a = n
      · subst e; exact Or.inr h2
      · exact Or.inl ⟨a, by omega, h2⟩
theorem x_even2 : ∀ n, n < 9 → ∀ l, l < 10 → (n * (n - 1) / 2 ≤ l ↔ n * (n - 1) ≤ 2 * l) := by decide
/-- there is room for a link -/
theorem f_mal_cnt {R : ZRd} (hn : R.1.1.1 ≤ 8) (hm : R.1.1.2 ≤ 9) (hl : x_lv R.1.2 R.1.1.1 R.1.1.2) : f_mal R R.1.1.1 = true ↔ R.1.1.2 < R.1.1.1 * (R.1.1.1 - 1) / 2 := by
  have h2 := x_sum_dg hn R.1.1.2 hl
  have h3 := x_even2 R.1.1.1 (by omega) R.1.1.2 (by omega)
  have hle := x_sum_le (f := fun a => x_dg R.1.2 a R.1.1.2) (c := R.1.1.1 - 1) R.1.1.1 (fun a ha => (f_ful_dg hn ha hl).1)
  rw [f_mal_iff]
  constructor
  · rintro ⟨a, ha, hf⟩
    have h4 := f_ful_dg hn ha hl
    have h5 : x_dg R.1.2 a R.1.1.2 < R.1.1.1 - 1 := by
      refine Nat.lt_of_not_le fun z => ?_
      rw [h4.2.mpr z] at hf
      cases hf
    have := x_sum_lt (f := fun a => x_dg R.1.2 a R.1.1.2) (c := R.1.1.1 - 1) R.1.1.1 (fun a ha => (f_ful_dg hn ha hl).1) ha h5
    omega
  · intro h
    refine Classical.byContradiction fun q => ?_
    have hall : ∀ a, a < R.1.1.1 → x_dg R.1.2 a R.1.1.2 = R.1.1.1 - 1 := fun a ha => by
      have h4 := f_ful_dg hn ha hl
      cases z : f_ful R a R.1.1.1 with
      | false => exact absurd ⟨a, ha, z⟩ q
      | true => exact Nat.le_antisymm h4.1 (h4.2.mp z)
    have e := x_sum_congr (f := fun a => x_dg R.1.2 a R.1.1.2) (g := fun _ => R.1.1.1 - 1) R.1.1.1 hall
    have c : ∀ n, x_sum (fun _ => R.1.1.1 - 1) n = n * (R.1.1.1 - 1) := fun n => by
      induction n with
      | zero => simp [x_sum]
      | succ n ih => unfold x_sum; rw [ih, Nat.succ_mul]
    rw [e, c] at h2
    omega
