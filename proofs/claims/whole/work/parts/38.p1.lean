/-! WHAT A NODE HEARS IN A ROUND, link by link -/
/-- who is at the other end of link k, if it is up -/
def x_from (s : ZS) (r : ZW) (n k : Nat) : Option Nat :=
  if r (58 + k) = 0 then (if s.2 3 k = nI n then some (z_ix (s.2 4 k)) else if s.2 4 k = nI n then some (z_ix (s.2 3 k)) else none) else none
abbrev ZH : Type := Bool × Option (Nat × Int32) × Option (Nat × Int32)
def x_bst (b : Option (Nat × Int32)) (m : Nat) (p : Int32) : Option (Nat × Int32) := match b with
  | none => some (m, p)
  | some c => if p < c.2 ∨ (p = c.2 ∧ m < c.1) then some (m, p) else some c
def x_hear (s : ZS) (co : Int32) (r : ZW) (n m : Nat) (air : Int32) (t : ZH) : ZH :=
  if f_offers s co r m = true then (if f_safe s r m n = true then (true, (if r n = nI m then some (m, f_offered s r m + air) else t.2.1), x_bst t.2.2 m (f_offered s r m + air)) else (true, t.2)) else t
def x_lk (s : ZS) (co : Int32) (r : ZW) (n k : Nat) (t : ZH) : ZH := match x_from s r n k with
  | none => t
  | some m => x_hear s co r n m (f_air s r k) t
def x_hrd (s : ZS) (co : Int32) (r : ZW) (n : Nat) : Nat → ZH
  | 0 => (false, none, none)
  | k + 1 => x_lk s co r n k (x_hrd s co r n k)
/-- the links join different nodes, each pair once -/
def f_ends (s : ZS) : Prop := (∀ k, k < s.1.2 → ∃ a b, a < s.1.1 ∧ b < s.1.1 ∧ a ≠ b ∧ s.2 3 k = nI a ∧ s.2 4 k = nI b) ∧ ∀ j k, j < s.1.2 → k < s.1.2 → f_is s (s.2 3 k) (s.2 4 k) j = true → j = k
/-- what a mesh keeps -/
def f_sok (s : ZS) : Prop := (s.1.1 ≤ 8 ∧ s.1.2 ≤ 9) ∧ (∀ i, i < s.1.1 → ((s.2 0 i = nI 0 ∨ s.2 0 i = nI 1) ∧ s.2 1 i = nI 0 ∧ s.2 2 i = nI 0) ∨ (s.2 0 i = nI 2 ∧ ∃ c p, 1 ≤ c ∧ c ≤ 9 ∧ p < c ∧ s.2 1 i = nI c ∧ s.2 2 i = nI p)) ∧ f_ends s ∧ ∀ k, k < s.1.2 → ∃ v, 1 ≤ v ∧ v ≤ 9 ∧ s.2 5 k = nI v
/-- costs after m rounds -/
def f_cst (s : ZS) (r : ZW) (m : Nat) : Prop := r 77 = nI m ∧ ∀ i, i < s.1.1 → ¬ r i = z_ng 9 → ∃ c, c ≤ 9 + 900 * m ∧ r (8 + i) = nI c
def f_off (s : ZS) (r : ZW) : Prop := ∀ i, i < s.1.1 → (∃ v, v ≤ 9 ∧ r (67 + i) = nI v ∧ (¬ s.2 0 i = 0 → v = 0)) ∧ (s.2 0 i = 0 → r i = z_ng 9)
/-- what a row keeps, in at most B rounds -/
def f_row (s : ZS) (B : Nat) (r : ZW) : Prop := f_rok s r ∧ f_dig s r ∧ f_dwn s r ∧ (∃ v, v ≤ 9 ∧ r 75 = nI v) ∧ f_off s r ∧ ∃ m, m ≤ B ∧ f_cst s r m
theorem f_sok.cyc {s : ZS} (h : f_sok s) : f_cyc s := fun i hi e => by
  rcases h.2.1 i hi with ⟨q, _⟩ | ⟨_, c, p, h1, h2, _, h4, _⟩
  · rw [e] at q; rcases q with q | q <;> exact absurd q (by decide)
  · rw [h4, e_eq0 (by omega)]; omega
theorem x_from_some {s : ZS} {r : ZW} {n k m : Nat} (hs : f_sok s) (hn : n < s.1.1) (hk : k < s.1.2) (h : x_from s r n k = some m) : r (58 + k) = 0 ∧ m < s.1.1 ∧ m ≠ n ∧ ((s.2 3 k = nI n ∧ s.2 4 k = nI m) ∨ (s.2 4 k = nI n ∧ s.2 3 k = nI m)) := by
  obtain ⟨a, b, ha, hb, hab, e1, e2⟩ := hs.2.2.1.1 k hk
  have h8 := hs.1.1
  unfold x_from at h
  by_cases c : r (58 + k) = 0
  · rw [if_pos c, e1, e2] at h
    simp (disch := omega) only [e_eq, e_ix] at h
    by_cases c1 : a = n
    · rw [if_pos c1] at h
      cases h
      exact ⟨c, hb, by omega, Or.inl ⟨by rw [e1, c1], e2⟩⟩
    · rw [if_neg c1] at h
      by_cases c2 : b = n
      · rw [if_pos c2] at h
        cases h
        exact ⟨c, ha, by omega, Or.inr ⟨by rw [e2, c2], e1⟩⟩
      · rw [if_neg c2] at h; cases h
  · rw [if_neg c] at h; cases h
theorem x_from_is {s : ZS} {r : ZW} {n k m : Nat} (hs : f_sok s) (hn : n < s.1.1) (hk : k < s.1.2) (hm : m < s.1.1) (c : r (58 + k) = 0) (h : f_is s (nI m) (nI n) k = true) : x_from s r n k = some m := by
  obtain ⟨a, b, ha, hb, hab, e1, e2⟩ := hs.2.2.1.1 k hk
  have h8 := hs.1.1
  unfold f_is at h
  unfold x_from
  rw [e1, e2] at h
  simp (disch := omega) only [e_eq] at h
  rw [if_pos c, e1, e2]
  simp (disch := omega) only [e_eq, e_ix]
  simp only [Bool.or_eq_true, Bool.and_eq_true, decide_eq_true_eq] at h
  rcases h with ⟨q1, q2⟩ | ⟨q1, q2⟩
  · rw [if_neg (by omega), if_pos q2, q1]
  · rw [if_pos q1, q2]
theorem x_from_u {s : ZS} {r : ZW} {n j k m : Nat} (hs : f_sok s) (hn : n < s.1.1) (hj : j < s.1.2) (hk : k < s.1.2) (h1 : x_from s r n j = some m) (h2 : x_from s r n k = some m) : j = k := by
  obtain ⟨_, _, _, q1⟩ := x_from_some hs hn hj h1
  obtain ⟨_, _, _, q2⟩ := x_from_some hs hn hk h2
  refine hs.2.2.1.2 j k hj hk ?_
  unfold f_is
  rcases q1 with ⟨a1, a2⟩ | ⟨a1, a2⟩ <;> rcases q2 with ⟨b1, b2⟩ | ⟨b1, b2⟩ <;> simp [a1, a2, b1, b2]
theorem f_link_some {s : ZS} {r : ZW} {a b : Int32} : ∀ n k, f_link s r a b n = some k → k < n ∧ r (58 + k) = 0 ∧ f_is s a b k = true
  | 0, k, h => by simp [f_link] at h
  | n + 1, k, h => by
    unfold f_link at h
    by_cases c : (f_is s a b n && decide (r (58 + n) = 0)) = true
    · rw [if_pos c] at h
      cases h
      simp only [Bool.and_eq_true, decide_eq_true_eq] at c
      exact ⟨by omega, c.2, c.1⟩
    · rw [if_neg c] at h
      have := f_link_some n k h
      exact ⟨by omega, this.2⟩
theorem f_link_none {s : ZS} {r : ZW} {a b : Int32} : ∀ n, f_link s r a b n = none → ∀ k, k < n → r (58 + k) = 0 → f_is s a b k = true → False
  | 0, _, k, hk, _, _ => absurd hk (Nat.not_lt_zero _)
  | n + 1, h, k, hk, h1, h2 => by
    unfold f_link at h
    by_cases c : (f_is s a b n && decide (r (58 + n) = 0)) = true
    · rw [if_pos c] at h; cases h
    · rw [if_neg c] at h
      by_cases e : k = n
      · subst e
        exact c (by rw [h1, h2]; simp)
      · exact f_link_none n h k (by omega) h1 h2
theorem f_link_from {s : ZS} {r : ZW} {n k m : Nat} (hs : f_sok s) (hn : n < s.1.1) (hm : m < s.1.1) : f_link s r (nI m) (nI n) s.1.2 = some k ↔ k < s.1.2 ∧ x_from s r n k = some m := by
  constructor
  · intro h
    obtain ⟨h1, h2, h3⟩ := f_link_some _ _ h
    exact ⟨h1, x_from_is hs hn h1 hm h2 h3⟩
  · rintro ⟨h1, h2⟩
    cases q : f_link s r (nI m) (nI n) s.1.2 with
    | none =>
      obtain ⟨c, _, _, d⟩ := x_from_some hs hn h1 h2
      exact absurd (f_link_none _ q k h1 c (by unfold f_is; rcases d with ⟨d1, d2⟩ | ⟨d1, d2⟩ <;> simp [d1, d2])) id
    | some j =>
      obtain ⟨a1, a2, a3⟩ := f_link_some _ _ q
      rw [x_from_u hs hn a1 h1 (x_from_is hs hn a1 hm a2 a3) h2]
theorem f_link_from0 {s : ZS} {r : ZW} {n m : Nat} (hs : f_sok s) (hn : n < s.1.1) (hm : m < s.1.1) (h : f_link s r (nI m) (nI n) s.1.2 = none) {k : Nat} (hk : k < s.1.2) : ¬ x_from s r n k = some m := fun q => by
  have := (f_link_from hs hn hm).mpr ⟨hk, q⟩
  rw [h] at this; cases this
/-- m makes n a feasible offer of price p, over a link below K -/
def x_cd (s : ZS) (co : Int32) (r : ZW) (n K m : Nat) (p : Int32) : Prop := ∃ k, k < K ∧ x_from s r n k = some m ∧ (f_offers s co r m = true ∧ f_safe s r m n = true) ∧ p = f_offered s r m + f_air s r k
theorem x_cd_s {s : ZS} {co : Int32} {r : ZW} {n K m : Nat} {p : Int32} : x_cd s co r n (K + 1) m p ↔ x_cd s co r n K m p ∨ (x_from s r n K = some m ∧ (f_offers s co r m = true ∧ f_safe s r m n = true) ∧ p = f_offered s r m + f_air s r K) := by
  constructor
  · rintro ⟨k, hk, h⟩
    by_cases e : k = K
    · subst e; exact Or.inr h
    · exact Or.inl ⟨k, by omega, h⟩
  · rintro (⟨k, hk, h⟩ | h)
    · exact ⟨k, by omega, h⟩
    · exact ⟨K, by omega, h⟩
theorem x_hrd_1 {s : ZS} {co : Int32} {r : ZW} {n : Nat} : ∀ K, (x_hrd s co r n K).1 = true ↔ ∃ k, k < K ∧ ∃ m, x_from s r n k = some m ∧ f_offers s co r m = true
  | 0 => ⟨fun h => Bool.noConfusion h, fun ⟨k, hk, _⟩ => absurd hk (Nat.not_lt_zero _)⟩
  | K + 1 => by
    have ih := x_hrd_1 (s := s) (co := co) (r := r) (n := n) K
    have e : ∀ P : Nat → Prop, (∃ k, k < K + 1 ∧ P k) ↔ (∃ k, k < K ∧ P k) ∨ P K := fun P => ⟨fun ⟨k, hk, h⟩ => by
      by_cases e : k = K
      · subst e; exact Or.inr h
      · exact Or.inl ⟨k, by omega, h⟩, fun h => h.elim (fun ⟨k, hk, h⟩ => ⟨k, by omega, h⟩) (fun h => ⟨K, by omega, h⟩)⟩
    rw [e, ← ih]
    show (x_lk s co r n K (x_hrd s co r n K)).1 = true ↔ _
    unfold x_lk
    cases q : x_from s r n K with
    | none => exact ⟨Or.inl, fun h => h.elim id fun ⟨m, h, _⟩ => by cases h⟩
    | some m =>
      show (x_hear s co r n m _ _).1 = true ↔ _
      unfold x_hear
      by_cases c : f_offers s co r m = true
      · rw [if_pos c]
        refine ⟨fun _ => Or.inr ⟨m, rfl, c⟩, fun _ => ?_⟩
        split <;> rfl
      · rw [if_neg c]
        exact ⟨Or.inl, fun h => h.elim id fun ⟨m', h, h2⟩ => by cases h; exact absurd h2 c⟩
theorem x_hrd_2 {s : ZS} {co : Int32} {r : ZW} {n : Nat} (hs : f_sok s) (hn : n < s.1.1) : ∀ K, K ≤ s.1.2 → ∀ m p, (x_hrd s co r n K).2.1 = some (m, p) ↔ x_cd s co r n K m p ∧ r n = nI m
  | 0, _, m, p => ⟨fun h => (by cases h), fun ⟨⟨k, hk, _⟩, _⟩ => absurd hk (Nat.not_lt_zero _)⟩
  | K + 1, hK, m, p => by
    have ih := x_hrd_2 (co := co) (r := r) hs hn K (by omega) m p
    have h8 := hs.1.1
    rw [x_cd_s]
    show (x_lk s co r n K (x_hrd s co r n K)).2.1 = some (m, p) ↔ _
    unfold x_lk
    cases q : x_from s r n K with
    | none =>
      show (x_hrd s co r n K).2.1 = some (m, p) ↔ _
      rw [ih]
      exact ⟨fun ⟨a, b⟩ => ⟨Or.inl a, b⟩, fun ⟨a, b⟩ => ⟨a.elim id (fun ⟨c, _⟩ => by cases c), b⟩⟩
    | some m0 =>
      obtain ⟨_, hm0, _, _⟩ := x_from_some hs hn (by omega) q
      show (x_hear s co r n m0 _ _).2.1 = some (m, p) ↔ _
      unfold x_hear
      by_cases c : f_offers s co r m0 = true
      · rw [if_pos c]
        by_cases c2 : f_safe s r m0 n = true
        · rw [if_pos c2]
          by_cases c3 : r n = nI m0
          · show (if r n = nI m0 then _ else _) = _ ↔ _
            rw [if_pos c3]
            constructor
            · intro h
              cases h
              exact ⟨Or.inr ⟨rfl, ⟨c, c2⟩, rfl⟩, c3⟩
            · rintro ⟨h1, h2⟩
              rcases h1 with ⟨k, hk, hf, _⟩ | ⟨h1, _, h3⟩
              · obtain ⟨_, hm, _, _⟩ := x_from_some hs hn (by omega) hf
                have e : m0 = m := by rw [h2, e_eq (by omega) (by omega)] at c3; exact c3.symm
                subst e
                have := x_from_u hs hn (by omega) (by omega) hf q
                omega
              · cases h1
                rw [h3]
          · show (if r n = nI m0 then _ else _) = _ ↔ _
            rw [if_neg c3, ih]
            refine ⟨fun ⟨a, b⟩ => ⟨Or.inl a, b⟩, fun ⟨a, b⟩ => ⟨a.elim id (fun ⟨d, _⟩ => ?_), b⟩⟩
            cases d
            exact absurd b c3
        · rw [if_neg c2]
          show (x_hrd s co r n K).2.1 = _ ↔ _
          rw [ih]
          refine ⟨fun ⟨a, b⟩ => ⟨Or.inl a, b⟩, fun ⟨a, b⟩ => ⟨a.elim id (fun ⟨d, d2, _⟩ => ?_), b⟩⟩
          cases d
          exact absurd d2.2 c2
      · rw [if_neg c, ih]
        refine ⟨fun ⟨a, b⟩ => ⟨Or.inl a, b⟩, fun ⟨a, b⟩ => ⟨a.elim id (fun ⟨d, d2, _⟩ => ?_), b⟩⟩
        cases d
        exact absurd d2.1 c
/-- (m, p) before (m', p') or the same -/
def x_le (m : Nat) (p : Int32) (m' : Nat) (p' : Int32) : Prop := p < p' ∨ (p = p' ∧ m ≤ m')
theorem x_le_t {m m' m'' : Nat} {p p' p'' : Int32} (h1 : x_le m p m' p') (h2 : x_le m' p' m'' p'') : x_le m p m'' p'' := by
  unfold x_le at *
  simp only [Int32.lt_iff_toInt_lt, ← Int32.toInt_inj] at *
  omega
theorem x_le_a {m m' : Nat} {p p' : Int32} (h1 : x_le m p m' p') (h2 : x_le m' p' m p) : m = m' ∧ p = p' := by
  unfold x_le at *
  simp only [Int32.lt_iff_toInt_lt, ← Int32.toInt_inj] at *
  omega
theorem x_le_n {m m' : Nat} {p p' : Int32} (h : ¬ (p < p' ∨ (p = p' ∧ m < m'))) : x_le m' p' m p := by
  unfold x_le
  simp only [Int32.lt_iff_toInt_lt, ← Int32.toInt_inj] at *
  omega
theorem x_le_r {m : Nat} {p : Int32} : x_le m p m p := Or.inr ⟨rfl, Nat.le_refl _⟩
/-- b is the first of those in C -/
def x_min (C : Nat → Int32 → Prop) : Option (Nat × Int32) → Prop
  | none => ∀ m p, ¬ C m p
  | some b => C b.1 b.2 ∧ ∀ m p, C m p → x_le b.1 b.2 m p
theorem x_min_u {C : Nat → Int32 → Prop} : ∀ a b, x_min C a → x_min C b → a = b
  | none, none, _, _ => rfl
  | none, some b, h1, h2 => absurd h2.1 (h1 _ _)
  | some a, none, h1, h2 => absurd h1.1 (h2 _ _)
  | some a, some b, h1, h2 => by
    have := x_le_a (h1.2 _ _ h2.1) (h2.2 _ _ h1.1)
    exact congrArg some (Prod.ext this.1 this.2)
theorem x_min_c {C D : Nat → Int32 → Prop} (h : ∀ m p, C m p ↔ D m p) {b : Option (Nat × Int32)} (hb : x_min C b) : x_min D b := by
  have : C = D := funext fun m => funext fun p => propext (h m p)
  rw [← this]; exact hb
theorem x_hrd_3 {s : ZS} {co : Int32} {r : ZW} {n : Nat} : ∀ K, x_min (x_cd s co r n K) (x_hrd s co r n K).2.2
  | 0 => fun m p ⟨k, hk, _⟩ => absurd hk (Nat.not_lt_zero _)
  | K + 1 => by
    have ih := x_hrd_3 (s := s) (co := co) (r := r) (n := n) K
    show x_min _ (x_lk s co r n K (x_hrd s co r n K)).2.2
    unfold x_lk
    cases q : x_from s r n K with
    | none =>
      refine x_min_c (fun m p => ?_) ih
      rw [x_cd_s]
      exact ⟨Or.inl, fun h => h.elim id (fun ⟨c, _⟩ => by rw [q] at c; cases c)⟩
    | some m0 =>
      show x_min _ (x_hear s co r n m0 _ _).2.2
      unfold x_hear
      by_cases c : f_offers s co r m0 = true ∧ f_safe s r m0 n = true
      · rw [if_pos c.1, if_pos c.2]
        show x_min _ (x_bst (x_hrd s co r n K).2.2 m0 _)
        cases w : (x_hrd s co r n K).2.2 with
        | none =>
          rw [w] at ih
          refine ⟨x_cd_s.mpr (Or.inr ⟨q, c, rfl⟩), fun m p h => ?_⟩
          rcases x_cd_s.mp h with h | ⟨h1, _, h3⟩
          · exact absurd h (ih m p)
          · rw [q] at h1
            cases h1
            rw [h3]
            exact x_le_r
        | some b =>
          rw [w] at ih
          show x_min _ (if _ then _ else _)
          split
          · rename_i d
            refine ⟨x_cd_s.mpr (Or.inr ⟨q, c, rfl⟩), fun m p h => ?_⟩
            rcases x_cd_s.mp h with h | ⟨h1, _, h3⟩
            · refine x_le_t ?_ (ih.2 m p h)
              exact d.elim Or.inl fun d => Or.inr ⟨d.1, Nat.le_of_lt d.2⟩
            · rw [q] at h1
              cases h1
              rw [h3]
              exact x_le_r
          · rename_i d
            refine ⟨x_cd_s.mpr (Or.inl ih.1), fun m p h => ?_⟩
            rcases x_cd_s.mp h with h | ⟨h1, _, h3⟩
            · exact ih.2 m p h
            · rw [q] at h1
              cases h1
              rw [h3]
              exact x_le_n d
      · have e : (x_hear s co r n m0 (f_air s r K) (x_hrd s co r n K)).2.2 = (x_hrd s co r n K).2.2 := by
          unfold x_hear
          by_cases c1 : f_offers s co r m0 = true
          · rw [if_pos c1, if_neg (fun c2 => c ⟨c1, c2⟩)]
          · rw [if_neg c1]
        unfold x_hear at e
        rw [e]
        refine x_min_c (fun m p => ?_) ih
        rw [x_cd_s]
        refine ⟨Or.inl, fun h => h.elim id (fun ⟨d, d2, _⟩ => ?_)⟩
        rw [q] at d
        cases d
        exact absurd d2 c
theorem f_best_min {s : ZS} {co : Int32} {A : ZW} {n : Nat} : ∀ k, x_min (fun m p => m < k ∧ f_good s co A m n = true ∧ p = f_price s co A m n) ((f_best s co A n k).map fun m => (m, f_price s co A m n))
  | 0 => fun m p h => absurd h.1 (Nat.not_lt_zero _)
  | k + 1 => by
    have ih := f_best_min (s := s) (co := co) (A := A) (n := n) k
    unfold f_best
    cases w : f_best s co A n k with
    | none =>
      rw [w] at ih
      by_cases c : f_good s co A k n = true
      · show x_min _ ((if _ then _ else _ : Option Nat).map _)
        rw [if_pos c]
        refine ⟨⟨Nat.lt_succ_self _, c, rfl⟩, fun m p ⟨h1, h2, h3⟩ => ?_⟩
        by_cases e : m = k
        · subst e; rw [h3]; exact x_le_r
        · exact absurd ⟨by omega, h2, h3⟩ (ih m p)
      · show x_min _ ((if _ then _ else _ : Option Nat).map _)
        rw [if_neg c]
        rintro m p ⟨h1, h2, h3⟩
        by_cases e : m = k
        · subst e; exact c h2
        · exact ih m p ⟨by omega, h2, h3⟩
    | some b =>
      rw [w] at ih
      by_cases c : f_good s co A k n = true ∧ f_price s co A k n < f_price s co A b n
      · show x_min _ ((if _ then _ else _ : Option Nat).map _)
        rw [if_pos (by rw [c.1, decide_eq_true c.2]; rfl)]
        refine ⟨⟨Nat.lt_succ_self _, c.1, rfl⟩, fun m p ⟨h1, h2, h3⟩ => ?_⟩
        by_cases e : m = k
        · subst e; rw [h3]; exact x_le_r
        · exact x_le_t (Or.inl c.2) (ih.2 m p ⟨by omega, h2, h3⟩)
      · show x_min _ ((if _ then _ else _ : Option Nat).map _)
        rw [if_neg (fun q => by simp only [Bool.and_eq_true, decide_eq_true_eq] at q; exact c q)]
        refine ⟨⟨Nat.lt_succ_of_lt ih.1.1, ih.1.2⟩, fun m p ⟨h1, h2, h3⟩ => ?_⟩
        by_cases e : m = k
        · subst e
          have h4 : ¬ (f_price s co A m n < f_price s co A b n ∨ (f_price s co A m n = f_price s co A b n ∧ m < b)) := by
            rintro (q | q)
            · exact c ⟨h2, q⟩
            · have := ih.1.1; show False; have h5 : b < m := ih.1.1; omega
          rw [h3]
          exact x_le_n h4
        · exact ih.2 m p ⟨by omega, h2, h3⟩
/-! prices are no NONE -/
set_option maxRecDepth 100000 in
theorem f_air_d : ∀ v, v < 10 → ∀ x, x < 10 → ∀ y, y < 10 → f_in ((nI 100 * nI v + (nI 10 - nI x) * (nI 10 - nI y) - nI 1) / ((nI 10 - nI x) * (nI 10 - nI y))) 0 900 = true := by decide +kernel
theorem f_air_b {s : ZS} {r : ZW} {k : Nat} (hs : f_sok s) (hr : f_dig s r) (hk : k < s.1.2) : ∃ t, t ≤ 900 ∧ f_air s r k = nI t := by
  obtain ⟨⟨x, hx, e1⟩, y, hy, e2⟩ := hr k hk
  obtain ⟨v, _, hv, e3⟩ := hs.2.2.2 k hk
  have h := f_air_d v (by omega) x (by omega) y (by omega)
  obtain ⟨t, _, ht, h⟩ := f_in_t (by omega) (by omega) h
  exact ⟨t, ht, by unfold f_air; rw [e1, e2, e3]; exact h⟩
theorem f_offered_b {s : ZS} {co : Int32} {r : ZW} {B m : Nat} (hr : f_row s B r) (hm : m < s.1.1) (h : f_offers s co r m = true) : ∃ c q, c ≤ 9 + 900 * q ∧ q ≤ B ∧ r 77 = nI q ∧ f_offered s r m = nI c := by
  obtain ⟨_, _, _, _, h5, q, hq, h6, h7⟩ := hr
  unfold f_offers at h
  unfold f_offered
  by_cases c : s.2 0 m = 0
  · rw [if_pos c]
    obtain ⟨⟨v, hv, e, _⟩, _⟩ := h5 m hm
    exact ⟨v, q, by omega, hq, h6, e⟩
  · rw [if_neg c] at h ⊢
    simp only [Bool.and_eq_true, decide_eq_true_eq] at h
    obtain ⟨v, hv, e⟩ := h7 m hm h.2
    exact ⟨v, q, hv, hq, h6, e⟩
theorem nI_ng {c : Nat} (h : c < 2000000000) : ¬ nI c = z_ng 9 := fun q => by
  have h1 := congrArg Int32.toInt q
  rw [nI_toInt (by omega)] at h1
  have h2 : (z_ng 9).toInt = -9 := by decide
  omega
theorem f_price_b {s : ZS} {co : Int32} {r : ZW} {B m k : Nat} (hs : f_sok s) (hr : f_row s B r) (hB : B ≤ 1000000) (hm : m < s.1.1) (hk : k < s.1.2) (h : f_offers s co r m = true) : ∃ c q, c ≤ 909 + 900 * q ∧ q ≤ B ∧ r 77 = nI q ∧ f_offered s r m + f_air s r k = nI c := by
  obtain ⟨c, q, h1, h2, h3, h4⟩ := f_offered_b hr hm h
  obtain ⟨t, ht, h5⟩ := f_air_b hs hr.2.1 hk
  exact ⟨c + t, q, by omega, h2, h3, by rw [h4, h5, nI_add]⟩
/-- an offer: over which link -/
theorem f_price_some {s : ZS} {co : Int32} {r : ZW} {B m n : Nat} (hs : f_sok s) (hr : f_row s B r) (hB : B ≤ 1000000) (hm : m < s.1.1) (hn : n < s.1.1) : ¬ f_price s co r m n = z_ng 9 ↔ ∃ k, k < s.1.2 ∧ x_from s r n k = some m ∧ f_offers s co r m = true ∧ f_price s co r m n = f_offered s r m + f_air s r k := by
  unfold f_price
  cases q : f_link s r (nI m) (nI n) s.1.2 with
  | none =>
    exact ⟨fun h => absurd rfl h, fun ⟨k, hk, h, _⟩ => absurd h (f_link_from0 hs hn hm q hk)⟩
  | some k =>
    obtain ⟨hk, hf⟩ := (f_link_from hs hn hm).mp q
    show ¬ (if f_offers s co r m = true then f_offered s r m + f_air s r k else z_ng 9) = z_ng 9 ↔ ∃ k', k' < s.1.2 ∧ x_from s r n k' = some m ∧ f_offers s co r m = true ∧ (if f_offers s co r m = true then f_offered s r m + f_air s r k else z_ng 9) = f_offered s r m + f_air s r k'
    by_cases c : f_offers s co r m = true
    · rw [if_pos c]
      obtain ⟨v, q, h1, h2, _, h3⟩ := f_price_b hs hr hB hm hk c
      refine ⟨fun _ => ⟨k, hk, hf, c, rfl⟩, fun _ => ?_⟩
      rw [h3]
      exact nI_ng (by omega)
    · rw [if_neg c]
      exact ⟨fun h => absurd rfl h, fun ⟨_, _, _, h, _⟩ => absurd h c⟩
theorem x_cd_good {s : ZS} {co : Int32} {r : ZW} {B n m : Nat} {p : Int32} (hs : f_sok s) (hr : f_row s B r) (hB : B ≤ 1000000) (hn : n < s.1.1) : x_cd s co r n s.1.2 m p ↔ m < s.1.1 ∧ f_good s co r m n = true ∧ p = f_price s co r m n := by
  unfold f_good
  simp only [Bool.and_eq_true, decide_eq_true_eq]
  constructor
  · rintro ⟨k, hk, hf, ⟨h1, h2⟩, h3⟩
    obtain ⟨_, hm, hne, _⟩ := x_from_some hs hn hk hf
    have hl := (f_link_from hs hn hm).mpr ⟨hk, hf⟩
    have hp : f_price s co r m n = f_offered s r m + f_air s r k := by
      unfold f_price
      rw [hl]
      exact if_pos h1
    exact ⟨hm, ⟨hne, (f_price_some hs hr hB hm hn).mpr ⟨k, hk, hf, h1, hp⟩, h2⟩, by rw [hp, h3]⟩
  · rintro ⟨hm, ⟨_, h1, h2⟩, h3⟩
    obtain ⟨k, hk, hf, h4, h5⟩ := (f_price_some hs hr hB hm hn).mp h1
    exact ⟨k, hk, hf, ⟨h4, h2⟩, by rw [h3, h5]⟩
theorem x_hrd_best {s : ZS} {co : Int32} {r : ZW} {B n : Nat} (hs : f_sok s) (hr : f_row s B r) (hB : B ≤ 1000000) (hn : n < s.1.1) : (x_hrd s co r n s.1.2).2.2 = (f_best s co r n s.1.1).map fun m => (m, f_price s co r m n) :=
  x_min_u _ _ (x_min_c (fun _ _ => x_cd_good hs hr hB hn) (x_hrd_3 s.1.2)) (f_best_min s.1.1)
theorem x_hrd_par {s : ZS} {co : Int32} {r : ZW} {B n : Nat} (hs : f_sok s) (hr : f_row s B r) (hB : B ≤ 1000000) (hn : n < s.1.1) : (x_hrd s co r n s.1.2).2.1 = match f_par r n with
    | none => none
    | some p => if f_good s co r p n = true then some (p, f_price s co r p n) else none := by
  have h8 := hs.1.1
  have key := x_hrd_2 (co := co) (r := r) hs hn s.1.2 (Nat.le_refl _)
  cases q : f_par r n with
  | none =>
    have hr9 : r n = z_ng 9 := by
      unfold f_par at q
      by_cases w : r n = z_ng 9
      · exact w
      · rw [if_neg w] at q; cases q
    cases w : (x_hrd s co r n s.1.2).2.1 with
    | none => rfl
    | some b =>
      obtain ⟨h1, h2⟩ := (key b.1 b.2).mp w
      obtain ⟨hm, _⟩ := (x_cd_good hs hr hB hn).mp h1
      exact absurd (h2.symm.trans hr9) (nI_ng (by omega))
  | some p =>
    obtain ⟨hp, e⟩ := f_par_lt hr.1.2.1 h8 hn q
    show _ = if _ then _ else _
    by_cases c : f_good s co r p n = true
    · rw [if_pos c]
      exact (key p _).mpr ⟨(x_cd_good hs hr hB hn).mpr ⟨hp, c, rfl⟩, e⟩
    · rw [if_neg c]
      cases w : (x_hrd s co r n s.1.2).2.1 with
      | none => rfl
      | some b =>
        obtain ⟨h1, h2⟩ := (key b.1 b.2).mp w
        obtain ⟨hm, h3, _⟩ := (x_cd_good hs hr hB hn).mp h1
        rw [e, e_eq (by omega) (by omega)] at h2
        rw [← h2] at h3
        exact absurd h3 c
theorem f_any_iff {s : ZS} {co : Int32} {A : ZW} {n : Nat} : ∀ k, f_any s co A n k = true ↔ ∃ m, m < k ∧ m ≠ n ∧ ¬ f_price s co A m n = z_ng 9
  | 0 => ⟨fun h => Bool.noConfusion h, fun ⟨m, h, _⟩ => absurd h (Nat.not_lt_zero _)⟩
  | k + 1 => by
    unfold f_any
    rw [Bool.or_eq_true, f_any_iff k, Bool.and_eq_true, decide_eq_true_eq, decide_eq_true_eq]
    constructor
    · rintro (⟨m, h1, h2⟩ | h)
      · exact ⟨m, by omega, h2⟩
      · exact ⟨k, by omega, h⟩
    · rintro ⟨m, h1, h2⟩
      by_cases e : m = k
      · subst e; exact Or.inr h2
      · exact Or.inl ⟨m, by omega, h2⟩
theorem x_hrd_any {s : ZS} {co : Int32} {r : ZW} {B n : Nat} (hs : f_sok s) (hr : f_row s B r) (hB : B ≤ 1000000) (hn : n < s.1.1) : (x_hrd s co r n s.1.2).1 = f_any s co r n s.1.1 := by
  rw [Bool.eq_iff_iff, x_hrd_1, f_any_iff]
  constructor
  · rintro ⟨k, hk, m, hf, ho⟩
    obtain ⟨_, hm, hne, _⟩ := x_from_some hs hn hk hf
    have hl := (f_link_from hs hn hm).mpr ⟨hk, hf⟩
    refine ⟨m, hm, hne, (f_price_some hs hr hB hm hn).mpr ⟨k, hk, hf, ho, ?_⟩⟩
    unfold f_price
    rw [hl]
    exact if_pos ho
  · rintro ⟨m, hm, _, h⟩
    obtain ⟨k, hk, hf, ho, _⟩ := (f_price_some hs hr hB hm hn).mp h
    exact ⟨k, hk, m, hf, ho⟩
