/-! WHAT IS SO OF BOTH REMAINS SO -/
section
variable {A : ZA} {B C : Nat} {r : ZW}
theorem IA.mono (h : IA A B) (hBC : B ≤ C) : IA A C := ⟨h.1, f_row_mono h.2.1 hBC, fun j hj => f_row_mono (h.2.2.1 j hj) hBC, fun t ht => ⟨(h.2.2.2.1 t ht).1, fun e => f_row_mono ((h.2.2.2.1 t ht).2 e) hBC⟩, h.2.2.2.2⟩
theorem IA.note (h : IA A B) : IA (a_note A) B := by
  refine ⟨h.1, h.2.1, fun j hj => ?_, h.2.2.2.1, h.2.2.2.2⟩
  replace hj : j < (if A.h < 14 then A.h + 1 else 14) := hj
  cases j with
  | zero => exact h.2.1
  | succ j => exact h.2.2.1 j (by split at hj <;> omega)
theorem IA.row (h : IA A B) (hr : f_row A.s B r) : IA (a_row A r) B := ⟨h.1, hr, h.2.2.1, h.2.2.2.1, h.2.2.2.2⟩
theorem IA.round {x : Int32} (h : IA A B) (hB : B ≤ 900000) : IA (a_round A x).2 (B + 99) := by
  unfold a_round
  cases q : f_in x 1 99 with
  | false => exact h.mono (by omega)
  | true =>
    obtain ⟨n, _, hn, rfl⟩ := f_in_t (by omega) (by omega) q
    rw [if_pos rfl, e_ix (by omega)]
    exact (h.mono (by omega)).note.row (f_row_mono (f_gos_row (co := nI 255) h.1 n A.r B h.2.1 (by omega)) (by omega))
theorem IA.turn {x : Int32} (h : IA A B) : IA (a_turn A x).2 B := by
  have h8 := h.1.1
  unfold a_turn
  cases q : f_idx x A.s.1.2 with
  | false => exact h
  | true =>
    obtain ⟨k, hk, rfl⟩ := f_idx_t (by omega) q
    rw [if_pos rfl, e_ix (by omega)]
    exact h.note.row (f_row_set h.1 h.2.1 (Or.inr (Or.inl ⟨by omega, by omega, f_one_dwn (h.2.1.2.2.1 k hk)⟩)))
theorem IA.lose {x b v : Int32} (h : IA A B) : IA (a_lose A x b v).2 B := by
  have h8 := h.1.1
  unfold a_lose
  cases q : f_idx x A.s.1.2 with
  | false => exact h
  | true =>
    rw [if_pos rfl]
    cases q2 : f_in v 0 9 with
    | false => exact h
    | true =>
      obtain ⟨k, hk, rfl⟩ := f_idx_t (by omega) q
      obtain ⟨w, _, hw, rfl⟩ := f_in_t (by omega) (by omega) q2
      rw [if_pos rfl, e_ix (by omega)]
      refine h.note.row (f_row_set h.1 h.2.1 (Or.inl ?_))
      split
      · exact ⟨by omega, by omega, w, hw, rfl⟩
      · exact ⟨by omega, by omega, w, hw, rfl⟩
theorem IA.offset {x v : Int32} (h : IA A B) : IA (a_offset A x v).2 B := by
  have h8 := h.1.1
  unfold a_offset
  cases q : f_gate A.s x with
  | false => exact h
  | true =>
    rw [if_pos rfl]
    cases q2 : f_in v 0 9 with
    | false => exact h
    | true =>
      obtain ⟨k, hk, rfl, h0⟩ := f_gate_t (by omega) q
      obtain ⟨w, _, hw, rfl⟩ := f_in_t (by omega) (by omega) q2
      rw [if_pos rfl, e_ix (by omega)]
      exact h.note.row (f_row_set h.1 h.2.1 (Or.inr (Or.inr (Or.inl ⟨by omega, by omega, by rw [show 67 + k - 67 = k by omega]; exact h0, w, hw, rfl⟩))))
theorem IA.margin {v : Int32} (h : IA A B) : IA (a_margin A v).2 B := by
  unfold a_margin
  cases q2 : f_in v 0 9 with
  | false => exact h
  | true =>
    obtain ⟨w, _, hw, rfl⟩ := f_in_t (by omega) (by omega) q2
    rw [if_pos rfl]
    exact h.note.row (f_row_set h.1 h.2.1 (Or.inr (Or.inr (Or.inr ⟨rfl, w, hw, rfl⟩))))
theorem IA.undo (h : IA A B) : IA (a_undo A).2 B := by
  unfold a_undo
  by_cases c : A.h = 0
  · rw [if_pos c]; exact h
  · rw [if_neg c]
    refine ⟨h.1, h.2.2.1 0 (by omega), fun j hj => ?_, h.2.2.2.1, h.2.2.2.2⟩
    replace hj : j < A.h - 1 := hj
    exact h.2.2.1 (j + 1) (by omega)
theorem IA.keep {x : Int32} (h : IA A B) : IA (a_keep A x).2 B := by
  unfold a_keep
  cases q : f_in x 0 1 with
  | false => exact h
  | true =>
    rw [if_pos rfl]
    refine ⟨h.1, h.2.1, h.2.2.1, fun t ht => ?_, h.2.2.2.2⟩
    show (f_set A.fl (z_ix x) (nI 1) t = nI 0 ∨ f_set A.fl (z_ix x) (nI 1) t = nI 1) ∧ (f_set A.fl (z_ix x) (nI 1) t = nI 1 → f_row A.s B (if t = z_ix x then A.r else A.K t))
    by_cases c : t = z_ix x
    · rw [if_pos c, c, f_set_eq]
      exact ⟨Or.inr rfl, fun _ => h.2.1⟩
    · rw [if_neg c, f_set_ne c]
      exact h.2.2.2.1 t ht
theorem IA.again {x : Int32} (h : IA A B) : IA (a_again A x).2 B := by
  unfold a_again
  cases q : f_in x 0 1 with
  | false => exact h
  | true =>
    rw [if_pos rfl]
    obtain ⟨t, _, ht, rfl⟩ := f_in_t (by omega) (by omega) q
    rw [e_ix (by omega)]
    have w := h.2.2.2.1 t (by omega)
    by_cases c : A.fl t = 0
    · rw [if_pos c]; exact h
    · rw [if_neg c]
      exact ⟨h.1, w.2 (w.1.resolve_left c), fun j hj => absurd hj (Nat.not_lt_zero _), h.2.2.2.1, h.2.2.2.2⟩
theorem IA.see {x n i : Int32} (h : IA A B) : IA (a_see A x n i).2 B := by
  have h8 := h.1.1
  unfold a_see
  cases q : f_idx x A.s.1.1 with
  | false => exact h
  | true =>
    rw [if_pos rfl]
    cases q2 : (f_in n 0 20 && f_in i 0 1) with
    | false => exact h
    | true =>
      rw [if_pos rfl]
      by_cases c : A.o = 6
      · rw [if_pos c]; exact h
      · rw [if_neg c]
        rw [Bool.and_eq_true] at q2
        obtain ⟨k, hk, rfl⟩ := f_idx_t (by omega) q
        obtain ⟨m, _, hm, rfl⟩ := f_in_t (by omega) (by omega) q2.1
        obtain ⟨b, _, hb, rfl⟩ := f_in_t (by omega) (by omega) q2.2
        refine ⟨h.1, h.2.1, h.2.2.1, h.2.2.2.1, fun j hj => ?_⟩
        replace hj : j < A.o + 1 := hj
        show (∃ v, v < 8 ∧ (if j = A.o then (if 0 = 0 then nI k else if 0 = 1 then nI m else nI b) else A.O 0 j) = nI v) ∧ (∃ v, v ≤ 20 ∧ (if j = A.o then (if 1 = 0 then nI k else if 1 = 1 then nI m else nI b) else A.O 1 j) = nI v) ∧ ((if j = A.o then (if 2 = 0 then nI k else if 2 = 1 then nI m else nI b) else A.O 2 j) = nI 0 ∨ (if j = A.o then (if 2 = 0 then nI k else if 2 = 1 then nI m else nI b) else A.O 2 j) = nI 1)
        by_cases e : j = A.o
        · simp only [if_pos e]
          refine ⟨⟨k, by omega, rfl⟩, ⟨m, hm, rfl⟩, ?_⟩
          rcases (show b = 0 ∨ b = 1 by omega) with rfl | rfl
          · exact Or.inl rfl
          · exact Or.inr rfl
        · simp only [if_neg e]
          exact h.2.2.2.2 j (by omega)
theorem IA.unsee (h : IA A B) : IA (a_unsee A).2 B := ⟨h.1, h.2.1, h.2.2.1, h.2.2.2.1, fun j hj => absurd hj (Nat.not_lt_zero _)⟩
theorem IA.seed {v : Int64} (h : IA A B) : IA (a_seed A v).2 B := h
theorem IA.write {x : Int32} (h : IA A B) : IA (a_write A x).2 B := by
  unfold a_write
  cases q : f_in x 0 255 with
  | false => exact h
  | true =>
    rw [if_pos rfl]
    split
    · exact h
    · exact h
theorem IA.wipe (h : IA A B) : IA (a_wipe A).2 B := h
theorem IA.drawn {x : Int32} (h : IA A B) : IA (a_drawn A x).2 B := by
  unfold a_drawn
  cases q : f_in x 1 20 with
  | false => exact h
  | true => rw [if_pos rfl]; exact h
end
