/-! THE WAY TO A GATEWAY: nine places are as good as the mesh's nodes -/
def x_g (s : ZS) (r : ZW) (k i : Nat) : Bool := decide (s.2 0 (f_end s r k i) = 0)
theorem f_par_lt {r : ZW} {n i p : Nat} (hp : f_pok r n) (hn : n ≤ 8) (hi : i < n) (h : f_par r i = some p) : p < n ∧ r i = nI p := by
  unfold f_par at h
  rcases hp i hi with q | ⟨j, hj, q⟩
  · rw [if_pos q] at h; cases h
  · rw [q, if_neg (by rw [z_on_n (by omega)]; exact not_false), e_ix (by omega)] at h
    cases h
    exact ⟨hj, q⟩
/-- the last step, taken at the end -/
theorem f_end_s {s : ZS} {r : ZW} : ∀ k i, f_end s r (k + 1) i = f_end s r 1 (f_end s r k i)
  | 0, i => rfl
  | k + 1, i => by
    by_cases c : s.2 0 i = 0
    · rw [f_end_0 c, f_end_0 c, f_end_0 c]
    · cases q : f_par r i with
      | none => rw [f_end_n q, f_end_n q, f_end_n q]
      | some p => rw [f_end_p c q, f_end_s k p, f_end_p c q]
theorem x_g_mono {s : ZS} {r : ZW} {k i : Nat} (h : x_g s r k i = true) : x_g s r (k + 1) i = true := by
  unfold x_g at h ⊢
  rw [decide_eq_true_eq] at h
  rw [f_end_s, f_end_0 h, decide_eq_true h]
theorem x_g_step {s : ZS} {r : ZW} {k i p : Nat} (c : ¬ s.2 0 i = 0) (h : f_par r i = some p) : x_g s r (k + 1) i = x_g s r k p := by
  unfold x_g
  rw [f_end_p c h]
/-- where nothing is added in a step, nothing is added later -/
theorem x_g_stable {s : ZS} {r : ZW} {k : Nat} (hp : f_pok r s.1.1) (hn : s.1.1 ≤ 8) (h : ∀ i, i < s.1.1 → x_g s r (k + 1) i = x_g s r k i) : ∀ d i, i < s.1.1 → x_g s r (k + d) i = x_g s r k i
  | 0, _, _ => rfl
  | d + 1, i, hi => by
    by_cases c : s.2 0 i = 0
    · unfold x_g
      rw [f_end_0 c, f_end_0 c]
    · cases q : f_par r i with
      | none =>
        unfold x_g
        rw [f_end_n q, f_end_n q]
      | some p =>
        have h1 := f_par_lt hp hn hi q
        rw [← Nat.add_assoc, x_g_step c q, x_g_stable hp hn h d p h1.1, ← x_g_step c q]
        exact h i hi
theorem f_cnt_lt {p q : Nat → Bool} (h : ∀ i, p i = true → q i = true) : ∀ n i, i < n → p i = false → q i = true → f_cnt p n < f_cnt q n
  | 0, i, hi, _, _ => absurd hi (Nat.not_lt_zero _)
  | n + 1, i, hi, h1, h2 => by
    unfold f_cnt
    by_cases c : i = n
    · subst c
      have := f_cnt_mono h i
      rw [h1, if_neg (by decide), if_pos h2]
      omega
    · have := f_cnt_lt h n i (by omega) h1 h2
      by_cases c2 : p n = true
      · rw [if_pos c2, if_pos (h n c2)]; omega
      · rw [if_neg c2]; split <;> omega
/-- after k steps nothing more is added, or at least k nodes are there -/
theorem x_g_cnt {s : ZS} {r : ZW} (hp : f_pok r s.1.1) (hn : s.1.1 ≤ 8) : ∀ k, (∃ j, j ≤ k ∧ ∀ i, i < s.1.1 → x_g s r (j + 1) i = x_g s r j i) ∨ k + 1 ≤ f_cnt (x_g s r (k + 1)) s.1.1
  | 0 => by
    by_cases c : ∀ i, i < s.1.1 → x_g s r (0 + 1) i = x_g s r 0 i
    · exact Or.inl ⟨0, Nat.le_refl _, c⟩
    · refine Or.inr ?_
      obtain ⟨i, hi⟩ := Classical.not_forall.mp c
      obtain ⟨hi1, hi2⟩ := Classical.not_imp.mp hi
      have h1 : x_g s r 0 i = false := by
        cases q : x_g s r 0 i with
        | false => rfl
        | true => exact absurd ((x_g_mono q).trans q.symm) hi2
      have h2 : x_g s r (0 + 1) i = true := by
        cases q : x_g s r (0 + 1) i with
        | true => rfl
        | false => exact absurd (q.trans h1.symm) hi2
      have := f_cnt_lt (p := x_g s r 0) (q := x_g s r (0 + 1)) (fun i => x_g_mono) s.1.1 i hi1 h1 h2
      omega
  | k + 1 => by
    rcases x_g_cnt hp hn k with ⟨j, hj, h⟩ | h
    · exact Or.inl ⟨j, by omega, h⟩
    · by_cases c : ∀ i, i < s.1.1 → x_g s r (k + 1 + 1) i = x_g s r (k + 1) i
      · exact Or.inl ⟨k + 1, Nat.le_refl _, c⟩
      · refine Or.inr ?_
        obtain ⟨i, hi⟩ := Classical.not_forall.mp c
        obtain ⟨hi1, hi2⟩ := Classical.not_imp.mp hi
        have h1 : x_g s r (k + 1) i = false := by
          cases q : x_g s r (k + 1) i with
          | false => rfl
          | true => exact absurd ((x_g_mono q).trans q.symm) hi2
        have h2 : x_g s r (k + 1 + 1) i = true := by
          cases q : x_g s r (k + 1 + 1) i with
          | true => rfl
          | false => exact absurd (q.trans h1.symm) hi2
        have := f_cnt_lt (p := x_g s r (k + 1)) (q := x_g s r (k + 1 + 1)) (fun i => x_g_mono) s.1.1 i hi1 h1 h2
        omega
theorem x_g_8 {s : ZS} {r : ZW} {i : Nat} (hp : f_pok r s.1.1) (hn : s.1.1 ≤ 8) (hi : i < s.1.1) : x_g s r 8 i = x_g s r s.1.1 i := by
  rcases x_g_cnt hp hn s.1.1 with ⟨j, hj, h⟩ | h
  · have h1 := x_g_stable hp hn h (8 - j) i hi
    have h2 := x_g_stable hp hn h (s.1.1 - j) i hi
    rw [show j + (8 - j) = 8 by omega] at h1
    rw [show j + (s.1.1 - j) = s.1.1 by omega] at h2
    rw [h1, h2]
  · have := f_cnt_le (x_g s r (s.1.1 + 1)) s.1.1
    omega
theorem f_end_more {s : ZS} {r : ZW} {k i : Nat} (h : x_g s r k i = true) : ∀ d, f_end s r (k + d) i = f_end s r k i
  | 0 => rfl
  | d + 1 => by
    unfold x_g at h
    rw [decide_eq_true_eq] at h
    rw [← Nat.add_assoc, f_end_s, f_end_more (by unfold x_g; rw [decide_eq_true h]) d, f_end_0 h]
theorem x_end_k {s : ZS} {r : ZW} (hp : f_pok r s.1.1) (hn : s.1.1 ≤ 8) : ∀ k i, i < s.1.1 → x_end s r (k + 1) (nI i) = if x_g s r k i = true then some (f_end s r k i) else none
  | 0, i, hi => by
    show (if f_idx (nI i) s.1.1 = true then (if s.2 0 (z_ix (nI i)) = 0 then some (z_ix (nI i)) else none) else none) = _
    rw [if_pos (f_idx_nI (by omega) hi), e_ix (by omega)]
    unfold x_g f_end
    simp only [decide_eq_true_eq]
  | k + 1, i, hi => by
    show (if f_idx (nI i) s.1.1 = true then (if s.2 0 (z_ix (nI i)) = 0 then some (z_ix (nI i)) else x_end s r (k + 1) (r (z_ix (nI i)))) else none) = _
    rw [if_pos (f_idx_nI (by omega) hi), e_ix (by omega)]
    by_cases c : s.2 0 i = 0
    · rw [if_pos c]
      unfold x_g
      rw [f_end_0 c, decide_eq_true c, if_pos rfl]
    · rw [if_neg c]
      cases q : f_par r i with
      | none =>
        have hr : r i = z_ng 9 := by
          unfold f_par at q
          by_cases w : r i = z_ng 9
          · exact w
          · rw [if_neg w] at q; cases q
        unfold x_g
        rw [hr, f_end_n q, decide_eq_false c, if_neg (by decide)]
        show (if f_idx (z_ng 9) s.1.1 = true then _ else none) = none
        rw [if_neg (by unfold f_idx; rw [decide_eq_false (by decide)]; simp)]
      | some p =>
        have h1 := f_par_lt hp hn hi q
        rw [h1.2, x_end_k hp hn k p h1.1, x_g_step c q, f_end_p c q]
theorem f_has255 : ∀ g, g < 8 → f_has (nI 255) g = true := by decide
theorem x_end_eq {s : ZS} {r : ZW} {i : Nat} (hp : f_pok r s.1.1) (hn : s.1.1 ≤ 8) (hi : i < s.1.1) : x_end s r 9 (nI i) = f_endOf s (nI 255) r i := by
  rw [x_end_k hp hn 8 i hi, x_g_8 hp hn hi]
  unfold f_endOf
  have hl := f_end_lt (s := s) hp hn s.1.1 i hi
  by_cases c : s.2 0 (f_end s r s.1.1 i) = 0
  · have hg : x_g s r s.1.1 i = true := by unfold x_g; rw [decide_eq_true c]
    rw [if_pos c, if_pos hg, if_pos (f_has255 _ (by omega))]
    have := f_end_more hg (8 - s.1.1)
    rw [show s.1.1 + (8 - s.1.1) = 8 by omega] at this
    rw [this]
  · rw [if_neg c, if_neg (by unfold x_g; rw [decide_eq_false c]; decide)]
