/-! A ROUND, place by place; what a row keeps -/
theorem f_rows_v {s : ZS} {co : Int32} {A : ZW} {m i : Nat} (hi : i < 8) : ∀ K, i < K → K ≤ 8 → f_rows s co A K (8 * m + i) = if f_acts s A i = true then f_put A i (f_new s co A i) (8 * m + i) else A (8 * m + i)
  | 0, h, _ => absurd h (Nat.not_lt_zero _)
  | K + 1, h, hK => by
    by_cases e : i = K
    · subst e
      by_cases c : f_acts s A i = true
      · rw [f_rows_a c, if_pos c]
        unfold f_put
        rw [f_rows_at m i hi i (Nat.le_refl _)]
      · rw [f_rows_n (by simpa using c), if_neg c, f_rows_at m i hi i (Nat.le_refl _)]
    · have ih := f_rows_v (s := s) (co := co) (A := A) (m := m) hi K (by omega) (by omega)
      by_cases c : f_acts s A K = true
      · rw [f_rows_a c, f_put_ne (by omega) hi e, ih]
      · rw [f_rows_n (by simpa using c), ih]
theorem f_go_v {s : ZS} {co : Int32} {A : ZW} {m i : Nat} (h8 : s.1.1 ≤ 8) (hi : i < s.1.1) (hm : m ≤ 4) : f_go s co A (8 * m + i) = if f_acts s A i = true then f_put A i (f_new s co A i) (8 * m + i) else A (8 * m + i) := by
  unfold f_go
  rw [if_neg (by omega), if_neg (by omega)]
  exact f_rows_v (by omega) s.1.1 hi h8
theorem f_go_5 {s : ZS} {co : Int32} {A : ZW} {i : Nat} (h8 : s.1.1 ≤ 8) (hi : i < s.1.1) (h : f_acts s A i = true) : f_go s co A i = (f_new s co A i).1 ∧ f_go s co A (8 + i) = (f_new s co A i).2.1 ∧ f_go s co A (16 + i) = (f_new s co A i).2.2.1 ∧ f_go s co A (24 + i) = (f_new s co A i).2.2.2.1 ∧ f_go s co A (32 + i) = (f_new s co A i).2.2.2.2 := by
  have g := fun m (hm : m ≤ 4) => f_go_v (co := co) (A := A) h8 hi hm
  simp only [h, if_true] at g
  have g0 := g 0 (by omega)
  have g1 := g 1 (by omega)
  have g2 := g 2 (by omega)
  have g3 := g 3 (by omega)
  have g4 := g 4 (by omega)
  rw [show 8 * 0 + i = i by omega] at g0
  rw [show 8 * 1 + i = 8 + i by omega] at g1
  rw [show 8 * 2 + i = 16 + i by omega] at g2
  rw [show 8 * 3 + i = 24 + i by omega] at g3
  rw [show 8 * 4 + i = 32 + i by omega] at g4
  rw [g0, g1, g2, g3, g4]
  unfold f_put
  refine ⟨if_pos rfl, ?_, ?_, ?_, ?_⟩
  · rw [if_neg (by omega), if_pos rfl]
  · rw [if_neg (by omega), if_neg (by omega), if_pos rfl]
  · rw [if_neg (by omega), if_neg (by omega), if_neg (by omega), if_pos rfl]
  · rw [if_neg (by omega), if_neg (by omega), if_neg (by omega), if_neg (by omega), if_pos rfl]
theorem f_go_5n {s : ZS} {co : Int32} {A : ZW} {i : Nat} (h8 : s.1.1 ≤ 8) (hi : i < s.1.1) (h : ¬ f_acts s A i = true) : f_go s co A i = A i ∧ f_go s co A (8 + i) = A (8 + i) ∧ f_go s co A (16 + i) = A (16 + i) ∧ f_go s co A (24 + i) = A (24 + i) ∧ f_go s co A (32 + i) = A (32 + i) := by
  have g := fun m (hm : m ≤ 4) => f_go_v (co := co) (A := A) h8 hi hm
  simp only [h, if_false] at g
  have g0 := g 0 (by omega)
  have g1 := g 1 (by omega)
  have g2 := g 2 (by omega)
  have g3 := g 3 (by omega)
  have g4 := g 4 (by omega)
  rw [show 8 * 0 + i = i by omega] at g0
  rw [show 8 * 1 + i = 8 + i by omega] at g1
  rw [show 8 * 2 + i = 16 + i by omega] at g2
  rw [show 8 * 3 + i = 24 + i by omega] at g3
  rw [show 8 * 4 + i = 32 + i by omega] at g4
  exact ⟨by simpa using g0, by simpa using g1, by simpa using g2, by simpa using g3, by simpa using g4⟩
theorem f_go_76 {s : ZS} {co : Int32} {A : ZW} : f_go s co A 76 = A 76 + (if f_asks s co A s.1.1 = true then nI 1 else nI 0) := by
  unfold f_go; rw [if_neg (by omega), if_pos rfl]
theorem f_go_77 {s : ZS} {co : Int32} {A : ZW} : f_go s co A 77 = A 77 + nI 1 := by
  unfold f_go; rw [if_pos rfl]
theorem f_good_price {s : ZS} {co : Int32} {r : ZW} {B m b n : Nat} (hs : f_sok s) (hr : f_row s B r) (hB : B ≤ 1000000) (hm : m ≤ B) (h7 : r 77 = nI m) (hb : b < s.1.1) (hn : n < s.1.1) (h : f_good s co r b n = true) : ∃ c, c ≤ 909 + 900 * m ∧ f_price s co r b n = nI c := by
  unfold f_good at h
  simp only [Bool.and_eq_true, decide_eq_true_eq] at h
  obtain ⟨k, hk, _, ho, h1⟩ := (f_price_some hs hr hB hb hn).mp h.2.1
  obtain ⟨c, q, h2, h3, h4, h5⟩ := f_price_b hs hr hB hb hk ho
  rw [h7, e_eq (by omega) (by omega)] at h4
  subst h4
  exact ⟨c, h2, by rw [h1, h5]⟩
theorem f_best_ok {s : ZS} {co : Int32} {A : ZW} {n : Nat} {b : Nat} (h : f_best s co A n s.1.1 = some b) : b < s.1.1 ∧ f_good s co A b n = true := by
  have := f_best_min (s := s) (co := co) (A := A) (n := n) s.1.1
  rw [h] at this
  exact ⟨this.1.1, this.1.2.1⟩
theorem f_st1_cost {s : ZS} {co : Int32} {r : ZW} {B m n : Nat} (hs : f_sok s) (hr : f_row s B r) (hB : B ≤ 1000000) (hm : m ≤ B) (h7 : r 77 = nI m) (hn : n < s.1.1) (h : ¬ (f_st1 s co r n).1 = z_ng 9) : ∃ c, c ≤ 909 + 900 * m ∧ (f_st1 s co r n).2.1 = nI c := by
  unfold f_st1 at h ⊢
  cases q : f_par r n with
  | none => rw [q] at h; exact absurd rfl h
  | some p =>
    rw [q] at h
    obtain ⟨hp, _⟩ := f_par_lt hr.1.2.1 hs.1.1 hn q
    by_cases c : f_good s co r p n = true
    · simp only [c, if_true]
      exact f_good_price hs hr hB hm h7 hp hn c
    · simp only [c] at h
      exact absurd rfl h
theorem f_st2_cost {s : ZS} {co : Int32} {r : ZW} {B m n : Nat} (hs : f_sok s) (hr : f_row s B r) (hB : B ≤ 1000000) (hm : m ≤ B) (h7 : r 77 = nI m) (hn : n < s.1.1) (h : ¬ (f_st2 s co r n).1 = z_ng 9) : ∃ c, c ≤ 909 + 900 * m ∧ (f_st2 s co r n).2.1 = nI c := by
  have h1 := f_st1_cost (co := co) hs hr hB hm h7 hn
  unfold f_st2 at h ⊢
  cases q : f_best s co r n s.1.1 with
  | none => rw [q] at h; exact h1 h
  | some b =>
    rw [q] at h
    obtain ⟨hb, hg⟩ := f_best_ok q
    by_cases c : (f_st1 s co r n).1 = z_ng 9 ∨ f_price s co r b n + r 75 < (f_st1 s co r n).2.1
    · simp only [if_pos c]
      exact f_good_price hs hr hB hm h7 hb hn hg
    · simp only [if_neg c]
      exact h1 (fun q => c (Or.inl q))
theorem f_new_cost {s : ZS} {co : Int32} {r : ZW} {n : Nat} (h : ¬ (f_new s co r n).1 = z_ng 9) : ¬ (f_st2 s co r n).1 = z_ng 9 ∧ (f_new s co r n).1 = (f_st2 s co r n).1 ∧ (f_new s co r n).2.1 = (f_st2 s co r n).2.1 := by
  unfold f_new at h ⊢
  by_cases c : (f_st2 s co r n).1 = z_ng 9
  · rw [if_pos c] at h; exact absurd rfl h
  · rw [if_neg c]
    refine ⟨c, ?_⟩
    split
    · exact ⟨rfl, rfl⟩
    · split <;> exact ⟨rfl, rfl⟩
theorem f_go_row {s : ZS} {co : Int32} {A : ZW} {B : Nat} (hs : f_sok s) (h : f_row s B A) (hB : B ≤ 1000000) : f_row s (B + 1) (f_go s co A) := by
  have h8 := hs.1
  obtain ⟨h1, h2, h3, h4, h5, m, hm, h6, h7⟩ := id h
  have hi : ∀ j, 40 ≤ j → j ≠ 76 → j ≠ 77 → f_go s co A j = A j := fun j a b c => f_go_hi h8.1 a b c
  refine ⟨f_go_rok h8 h1, fun k hk => ?_, fun k hk => ?_, ?_, fun i hi' => ⟨?_, fun c => ?_⟩, m + 1, by omega, ?_, fun i hi' hne => ?_⟩
  · rw [hi _ (by omega) (by omega) (by omega), hi _ (by omega) (by omega) (by omega)]; exact h2 k hk
  · rw [hi _ (by omega) (by omega) (by omega)]; exact h3 k hk
  · rw [hi _ (by omega) (by omega) (by omega)]; exact h4
  · rw [hi _ (by omega) (by omega) (by omega)]; exact (h5 i hi').1
  · rw [(f_go_5n (co := co) h8.1 hi' (by unfold f_acts; simp [c])).1]
    exact (h5 i hi').2 c
  · rw [f_go_77, h6, nI_add]
  · by_cases c : f_acts s A i = true
    · have g := f_go_5 (co := co) h8.1 hi' c
      rw [g.1] at hne
      obtain ⟨a1, a2, a3⟩ := f_new_cost hne
      obtain ⟨v, hv, e⟩ := f_st2_cost hs h hB hm h6 hi' a1
      exact ⟨v, by omega, by rw [g.2.1, a3, e]⟩
    · have g := f_go_5n (co := co) h8.1 hi' c
      rw [g.1] at hne
      obtain ⟨v, hv, e⟩ := h7 i hi' hne
      exact ⟨v, by omega, by rw [g.2.1, e]⟩
theorem f_row_mono {s : ZS} {A : ZW} {B C : Nat} (h : f_row s B A) (hBC : B ≤ C) : f_row s C A := by
  obtain ⟨h1, h2, h3, h4, h5, m, hm, h6⟩ := h
  exact ⟨h1, h2, h3, h4, h5, m, by omega, h6⟩
theorem f_gos_row {s : ZS} {co : Int32} (hs : f_sok s) : ∀ k A B, f_row s B A → B + k ≤ 1000000 → f_row s (B + k) (f_gos s co k A)
  | 0, A, B, h, _ => h
  | k + 1, A, B, h, hB => by
    have := f_gos_row (co := co) hs k (f_go s co A) (B + 1) (f_go_row hs h (by omega)) (by omega)
    rw [show B + (k + 1) = B + 1 + k by omega]
    exact this
theorem f_rok_set' {s : ZS} {r : ZW} {k : Nat} {v : Int32} (h8 : s.1.1 ≤ 8 ∧ s.1.2 ≤ 9) (h : f_rok s r) (hd : f_dig s (f_set r k v)) (hk : 40 ≤ k) (hk2 : k < 78) : f_rok s (f_set r k v) :=
  ⟨f_dig_pos hd, fun i hi => by
    show (if i = k then v else r i) = _ ∨ ∃ j, _ ∧ (if i = k then v else r i) = _
    rw [if_neg (by omega)]
    exact h.2.1 i hi, fun j hj => by
    show (if j = k then v else r j) = 0
    rw [if_neg (by omega)]
    exact h.2.2 j hj⟩
theorem f_set_ne {r : ZW} {k j : Nat} {v : Int32} (h : j ≠ k) : f_set r k v j = r j := if_neg h
theorem f_set_eq {r : ZW} {k : Nat} {v : Int32} : f_set r k v k = v := if_pos rfl
/-- one place of a row, changed as a change may -/
theorem f_row_set {s : ZS} {r : ZW} {B k : Nat} {v : Int32} (hs : f_sok s) (h : f_row s B r)
    (hv : (40 ≤ k ∧ k < 58 ∧ ∃ x, x ≤ 9 ∧ v = nI x) ∨ (58 ≤ k ∧ k < 67 ∧ (v = nI 0 ∨ v = nI 1)) ∨ (67 ≤ k ∧ k < 75 ∧ s.2 0 (k - 67) = 0 ∧ ∃ x, x ≤ 9 ∧ v = nI x) ∨ (k = 75 ∧ ∃ x, x ≤ 9 ∧ v = nI x)) : f_row s B (f_set r k v) := by
  have h8 := hs.1
  obtain ⟨h1, h2, h3, h4, h5, m, hm, h6, h7⟩ := id h
  have hk : 40 ≤ k ∧ k < 76 := by omega
  have hd : f_dig s (f_set r k v) := fun j hj => by
    refine ⟨?_, ?_⟩
    · by_cases c : 40 + j = k
      · rw [c, f_set_eq]
        rcases hv with ⟨_, _, x, hx, e⟩ | hv | hv | hv
        · exact ⟨x, hx, e⟩
        · omega
        · omega
        · omega
      · rw [f_set_ne c]; exact (h2 j hj).1
    · by_cases c : 49 + j = k
      · rw [c, f_set_eq]
        rcases hv with ⟨_, _, x, hx, e⟩ | hv | hv | hv
        · exact ⟨x, hx, e⟩
        · omega
        · omega
        · omega
      · rw [f_set_ne c]; exact (h2 j hj).2
  refine ⟨f_rok_set' h8 h1 hd hk.1 (by omega), hd, fun j hj => ?_, ?_, fun i hi => ⟨?_, fun c => ?_⟩, m, hm, ?_, fun i hi hne => ?_⟩
  · by_cases c : 58 + j = k
    · rw [c, f_set_eq]
      rcases hv with hv | hv | hv | hv
      · omega
      · exact hv.2.2
      · omega
      · omega
    · rw [f_set_ne c]; exact h3 j hj
  · by_cases c : 75 = k
    · rw [c, f_set_eq]
      rcases hv with hv | hv | hv | hv
      · omega
      · omega
      · omega
      · exact hv.2
    · rw [f_set_ne c]; exact h4
  · by_cases c : 67 + i = k
    · rw [c, f_set_eq]
      rcases hv with hv | hv | hv | hv
      · omega
      · omega
      · obtain ⟨_, _, g, x, hx, e⟩ := hv
        rw [← c, show 67 + i - 67 = i by omega] at g
        exact ⟨x, hx, e, fun q => absurd g q⟩
      · omega
    · rw [f_set_ne c]; exact (h5 i hi).1
  · rw [f_set_ne (by omega)]; exact (h5 i hi).2 c
  · rw [f_set_ne (by omega)]; exact h6
  · rw [f_set_ne (by omega)] at hne ⊢
    exact h7 i hi hne
