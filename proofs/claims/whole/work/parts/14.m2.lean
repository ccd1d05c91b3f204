theorem f_best_lt {s : ZS} {co : Int32} {A : ZW} {n : Nat} : ∀ k b, f_best s co A n k = some b → b < k
  | 0, b, h => by simp [f_best] at h
  | k + 1, b, h => by
    unfold f_best at h
    cases hb : f_best s co A n k with
    | none =>
      rw [hb] at h
      simp only at h
      split at h
      · cases h; omega
      · cases h
    | some c =>
      have := f_best_lt k c hb
      rw [hb] at h
      simp only at h
      split at h
      · cases h; omega
      · cases h; omega
/-- what a row's parents may be -/
def f_pok (r : ZW) (n : Nat) : Prop := ∀ i, i < n → r i = z_ng 9 ∨ ∃ j, j < n ∧ r i = nI j
theorem z_u2_if {f : Nat → Nat → Int32} {a k b j : Nat} {x : Int32} : z_u2 f a k x b j = if b = a ∧ j = k then x else f b j := rfl
section
variable {l : Launch} {G : ZG} {mi : Nat → Nat → Int32} {mr : Nat → Nat → Option Nat} {ml : Nat → Nat → Int64} {T : (Nat → Nat × Nat) × Nat × Nat} {Q : ZR}
theorem PMs.of {mi f : Nat → Nat → Int32} {s : ZS} (h : PMs mi s) (hf : ∀ b, 373 ≤ b → b < 381 → f b = mi b) : PMs f s := by
  obtain ⟨⟨h1, h2, h3, h4, h5, h6, h7, h8⟩, h9⟩ := h
  refine ⟨⟨?_, ?_, ?_, ?_, ?_, ?_, ?_, ?_⟩, h9⟩
  · rw [hf _ (by omega) (by omega)]; exact h1
  · rw [hf _ (by omega) (by omega)]; exact h2
  · rw [hf _ (by omega) (by omega)]; exact h3
  · rw [hf _ (by omega) (by omega)]; exact h4
  · rw [hf _ (by omega) (by omega)]; exact h5
  · rw [hf _ (by omega) (by omega)]; exact h6
  · rw [hf _ (by omega) (by omega)]; exact h7
  · rw [hf _ (by omega) (by omega)]; exact h8
/-- the row of a memory's cell w with three places of node n changed -/
def f_p3 (r : ZW) (n : Nat) (v : Int32 × Int32 × Int32) : ZW := fun j => if j = n then v.1 else if j = 8 + n then v.2.1 else if j = 16 + n then v.2.2 else r j
theorem z_row5 {r g : ZW} {n : Nat} {v : Int32 × Int32 × Int32 × Int32 × Int32} (h1 : g n = v.1) (h2 : g (8 + n) = v.2.1) (h3 : g (16 + n) = v.2.2.1) (h4 : g (24 + n) = v.2.2.2.1) (h5 : g (32 + n) = v.2.2.2.2) (h6 : ∀ j, j ≠ n → j ≠ 8 + n → j ≠ 16 + n → j ≠ 24 + n → j ≠ 32 + n → g j = r j) : ∀ j, g j = f_put r n v j := by
  intro j
  unfold f_put
  by_cases c1 : j = n
  · rw [if_pos c1, c1, h1]
  · rw [if_neg c1]
    by_cases c2 : j = 8 + n
    · rw [if_pos c2, c2, h2]
    · rw [if_neg c2]
      by_cases c3 : j = 16 + n
      · rw [if_pos c3, c3, h3]
      · rw [if_neg c3]
        by_cases c4 : j = 24 + n
        · rw [if_pos c4, c4, h4]
        · rw [if_neg c4]
          by_cases c5 : j = 32 + n
          · rw [if_pos c5, c5, h5]
          · rw [if_neg c5]; exact h6 j c1 c2 c3 c4 c5
theorem z_row3 {r g : ZW} {n : Nat} {v : Int32 × Int32 × Int32} (h1 : g n = v.1) (h2 : g (8 + n) = v.2.1) (h3 : g (16 + n) = v.2.2) (h6 : ∀ j, j ≠ n → j ≠ 8 + n → j ≠ 16 + n → g j = r j) : ∀ j, g j = f_p3 r n v j := by
  intro j
  unfold f_p3
  by_cases c1 : j = n
  · rw [if_pos c1, c1, h1]
  · rw [if_neg c1]
    by_cases c2 : j = 8 + n
    · rw [if_pos c2, c2, h2]
    · rw [if_neg c2]
      by_cases c3 : j = 16 + n
      · rw [if_pos c3, c3, h3]
      · rw [if_neg c3]; exact h6 j c1 c2 c3
theorem z_sw {w : Nat} {f g : Nat → Nat → Int32} {r : ZW} (h : ∀ c j, f c j = if c = w then r j else g c j) {b : Nat} (hb : b ≠ w) : f b = g b := funext fun j => by rw [h, if_neg hb]
theorem z_sr {w : Nat} {f g : Nat → Nat → Int32} {r : ZW} (h : ∀ c j, f c j = if c = w then r j else g c j) : f w = r := funext fun j => by rw [h, if_pos rfl]
set_option maxHeartbeats 4000000 in
theorem k_hears {s : ZS} {w n : Nat} (hS : SM T mr) (hs : PMs mi s) (hw : T.1 w = (2, 78)) (hw9 : w = 381 ∨ w = 382) (hn : n < s.1.1) (h0 : f_pos s (mi 383)) (hp : f_pok (mi 383) s.1.1)
    (e1 : mi w n = mi 383 n) (e2 : mi w (8 + n) = mi 383 (8 + n)) (e3 : mi w (16 + n) = mi 383 (16 + n)) (e4 : mi w (24 + n) = mi 383 (24 + n)) (e5 : mi w (32 + n) = mi 383 (32 + n))
    (h : ∀ f, (∀ c j, f c j = if c = w then f_put (mi w) n (f_new s (mi 373 23) (mi 383) n) j else mi c j) → Q (some (.int (z_bi (f_ask s (mi 373 23) (mi 383) n)))) (f, mr, ml, T)) : z_Ok l G m_Model_hears [.ref 373, .ref w, .int (nI n)] (mi, mr, ml, T) Q := by
  have h8 := hs.2
  have hn8 : n < 8 := by omega
  have h383 : T.1 383 = (2, 78) := by rw [hS.1.2.2.2.2.2.2.2.2.2.2.1]
  have fin : ∀ (f : Nat → Nat → Int32), (∀ c j, f c j = if c = w then f_p3 (mi w) n (f_st2 s (mi 373 23) (mi 383) n) j else mi c j) →
      z_W l G 134 (T.2.1, T.2.2) (fun v M' => Q v M' ∧ M'.2.2.2 = T) 263 [none, some (.ref w), some (.int (nI n)), none, none, some (.int (z_bi (f_any s (mi 373 23) (mi 383) n s.1.1))), none] [] (f, mr, ml, T) := by
    intro f hf
    have hw1 := z_sr hf
    refine z_run ck_134 13 bf_134_263 ?_
    simp (disch := omega) only [e_q0, e_nil, e_cons, e_q, e_qf, e_qt, e_af, z_hd, z_mk1, z_lg, z_s1, z_s2, z_kl, z_en, z_kI, z_fv, z_ic, z_c1, z_sh, z_pop, z_rc, z_tgt, z_tsw, z_lsw, z_nw, z_ac, o_kI, o_kL, o_ldi, o_ldl, o_lda, o_sti, o_sta, o_stl, o_inc, o_b2, o_bz, o_l2, o_lz, o_ls, o_lneg, o_i2l, o_l2i, o_lcmp, o_dup, o_dupx1, o_dup2, o_if, o_if2, o_ifnull, o_get, o_put, o_iald, o_zald, o_aald, o_alen, o_iast, o_zast, o_aast, o_new, o_newa, o_call, o_call1, o_callN, o_obj, o_reti, o_retl, o_ret, o_tsw, o_lsw, va_rf_s, va_rf_n, z_u2_s, z_u2_k, z_u2_f, z_uR_f, z_uL_f, e_ix, e_vp, e_lt, e_le, e_eq, e_lt0, e_eq0, e_b0, e_b1, e_10, e_11, true_or, or_true, false_or, nI_add, z_bi_0, z_bi_1, e_bb, z_uR_s, z_uR_k, z_uL_s, z_uL_k, true_and, and_true, and_self, not_true_eq_false, not_false_eq_true, forall_const, Option.toList, List.cons_append, List.nil_append, List.singleton_append, Nat.reduceAdd, Nat.zero_add, Nat.add_zero, Nat.reduceEqDiff, ↓reduceIte, ite_true, ite_false, reduceCtorEq, Int.cast_ofNat_Int, Int.reduceAdd, Int.reduceToNat, ne_eq, false_imp_iff, true_imp_iff, cl_134, bf_134_0, bf_134_62, bf_134_69, bf_134_79, bf_134_115, bf_134_119, bf_134_120, bf_134_168, bf_134_172, bf_134_178, bf_134_223, bf_134_263, bf_134_290, bf_134_332, bf_134_359, bo_134_0, bo_134_62, bo_134_69, bo_134_79, bo_134_115, bo_134_119, bo_134_120, bo_134_168, bo_134_172, bo_134_178, bo_134_223, bo_134_263, bo_134_290, bo_134_332, bo_134_359, hS, hs, hw, hw1]
    have g1 : f_p3 (mi w) n (f_st2 s (mi 373 23) (mi 383) n) n = (f_st2 s (mi 373 23) (mi 383) n).1 := by simp [f_p3]
    have g2 : f_p3 (mi w) n (f_st2 s (mi 373 23) (mi 383) n) (8 + n) = (f_st2 s (mi 373 23) (mi 383) n).2.1 := by simp [f_p3]
    have g3 : f_p3 (mi w) n (f_st2 s (mi 373 23) (mi 383) n) (16 + n) = (f_st2 s (mi 373 23) (mi 383) n).2.2 := by unfold f_p3; rw [if_neg (by omega), if_neg (by omega), if_pos rfl]
    have g4 : f_p3 (mi w) n (f_st2 s (mi 373 23) (mi 383) n) (24 + n) = mi 383 (24 + n) := by unfold f_p3; rw [if_neg (by omega), if_neg (by omega), if_neg (by omega), e4]
    have g5 : f_p3 (mi w) n (f_st2 s (mi 373 23) (mi 383) n) (32 + n) = mi 383 (32 + n) := by unfold f_p3; rw [if_neg (by omega), if_neg (by omega), if_neg (by omega), e5]
    simp only [g1, g2, g3, g4, g5]
    have gr : ∀ j, j ≠ n → j ≠ 8 + n → j ≠ 16 + n → f_p3 (mi w) n (f_st2 s (mi 373 23) (mi 383) n) j = mi w j := fun j c1 c2 c3 => by unfold f_p3; rw [if_neg c1, if_neg c2, if_neg c3]
    generalize f_p3 (mi w) n (f_st2 s (mi 373 23) (mi 383) n) = R at *
    unfold f_ask f_new at h
    refine ⟨fun c1 => ?_, fun c1 => ?_⟩
    · rw [c1] at h
      simp only [decide_true, Bool.true_and, if_true, ↓reduceIte] at h
      refine h _ (z_rw (z_ru (z_ru hf)) (z_row5 ?_ ?_ ?_ ?_ ?_ fun j q1 q2 q3 q4 q5 => ?_)) <;> simp (disch := omega) only [z_ie, z_in, if_true, ite_true, ↓reduceIte, g1, g2, g3, g4, g5, gr, c1]
    · have c1' := eq_false c1
      simp only [c1', decide_false, Bool.false_and, if_false, ↓reduceIte, z_bi] at h
      refine ⟨fun c2 => ⟨fun c3 => ?_, fun c3 => ?_⟩, fun c2 => ?_⟩
      · rw [if_neg (by rw [z_l32]; simp [c2]), if_neg (by rw [z_l32]; simp [c3])] at h
        refine h _ (z_rw hf (z_row5 ?_ ?_ ?_ ?_ ?_ fun j q1 q2 q3 q4 q5 => ?_)) <;> simp (disch := omega) only [z_ie, z_in, if_true, ite_true, ↓reduceIte, g1, g2, g3, g4, g5, gr]
      · rw [if_neg (by rw [z_l32]; simp [c2]), if_pos (by rw [z_l32]; exact c3)] at h
        refine h _ (z_rw (z_ru hf) (z_row5 ?_ ?_ ?_ ?_ ?_ fun j q1 q2 q3 q4 q5 => ?_)) <;> simp (disch := omega) only [z_ie, z_in, if_true, ite_true, ↓reduceIte, g1, g2, g3, g4, g5, gr]
      · rw [if_pos (by rw [z_l32]; exact c2)] at h
        refine h _ (z_rw (z_ru (z_ru hf)) (z_row5 ?_ ?_ ?_ ?_ ?_ fun j q1 q2 q3 q4 q5 => ?_)) <;> simp (disch := omega) only [z_ie, z_in, if_true, ite_true, ↓reduceIte, g1, g2, g3, g4, g5, gr]
  have loop : ∀ f, (∀ c j, f c j = if c = w then f_p3 (mi w) n (f_st1 s (mi 373 23) (mi 383) n) j else mi c j) →
      z_W l G 134 (T.2.1, T.2.2) (fun v M' => Q v M' ∧ M'.2.2.2 = T) 79 [some (.ref 373), some (.ref w), some (.int (nI n)), none, some (.int (z_on none)), some (.int (z_bi false)), some (.int (nI 0))] [] (f, mr, ml, T) := by
    intro f hf
    have hf3 := z_sw hf (b := 373) (by omega)
    have hf9 := z_sw hf (b := 383) (by omega)
    have hsf : PMs f s := hs.of fun b q1 q2 => z_sw hf (by omega)
    have hw1 := z_sr hf
    have hS' := hS
    have k1 : ∀ k, k < s.1.1 → (z_W l G 134 (T.2.1, T.2.2) (fun v M' => Q v M' ∧ M'.2.2.2 = T) 79 [some (.ref 373), some (.ref w), some (.int (nI n)), none, some (.int (z_on (f_best s (mi 373 23) (mi 383) n (k + 1)))), some (.int (z_bi (f_any s (mi 373 23) (mi 383) n (k + 1)))), some (.int (nI (k + 1)))] [] (f, mr, ml, T)) →
        z_W l G 134 (T.2.1, T.2.2) (fun v M' => Q v M' ∧ M'.2.2.2 = T) 120 [some (.ref 373), some (.ref w), some (.int (nI n)), none, some (.int (z_on (f_best s (mi 373 23) (mi 383) n k))), none, some (.int (nI k))] [.int (z_bi (f_any s (mi 373 23) (mi 383) n (k + 1)))] (f, mr, ml, T) := by
      intro k hk hnext
      refine z_run ck_134 13 bf_134_120 ?_
      clear hs
      have hs := hsf
      simp (disch := omega) only [e_q0, e_nil, e_cons, e_q, e_qf, e_qt, e_af, z_hd, z_mk1, z_lg, z_s1, z_s2, z_kl, z_en, z_kI, z_fv, z_ic, z_c1, z_sh, z_pop, z_rc, z_tgt, z_tsw, z_lsw, z_nw, z_ac, o_kI, o_kL, o_ldi, o_ldl, o_lda, o_sti, o_sta, o_stl, o_inc, o_b2, o_bz, o_l2, o_lz, o_ls, o_lneg, o_i2l, o_l2i, o_lcmp, o_dup, o_dupx1, o_dup2, o_if, o_if2, o_ifnull, o_get, o_put, o_iald, o_zald, o_aald, o_alen, o_iast, o_zast, o_aast, o_new, o_newa, o_call, o_call1, o_callN, o_obj, o_reti, o_retl, o_ret, o_tsw, o_lsw, va_rf_s, va_rf_n, z_u2_s, z_u2_k, z_u2_f, z_uR_f, z_uL_f, e_ix, e_vp, e_lt, e_le, e_eq, e_lt0, e_eq0, e_b0, e_b1, e_10, e_11, true_or, or_true, false_or, nI_add, z_bi_0, z_bi_1, e_bb, z_uR_s, z_uR_k, z_uL_s, z_uL_k, true_and, and_true, and_self, not_true_eq_false, not_false_eq_true, forall_const, Option.toList, List.cons_append, List.nil_append, List.singleton_append, Nat.reduceAdd, Nat.zero_add, Nat.add_zero, Nat.reduceEqDiff, ↓reduceIte, ite_true, ite_false, reduceCtorEq, Int.cast_ofNat_Int, Int.reduceAdd, Int.reduceToNat, ne_eq, false_imp_iff, true_imp_iff, cl_134, bf_134_0, bf_134_62, bf_134_69, bf_134_79, bf_134_115, bf_134_119, bf_134_120, bf_134_168, bf_134_172, bf_134_178, bf_134_223, bf_134_263, bf_134_290, bf_134_332, bf_134_359, bo_134_0, bo_134_62, bo_134_69, bo_134_79, bo_134_115, bo_134_119, bo_134_120, bo_134_168, bo_134_172, bo_134_178, bo_134_223, bo_134_263, bo_134_290, bo_134_332, bo_134_359, hS, hs, hw]
      refine k_isGood (w := 383) hS hs h383 (by rw [hf9]; exact h0) (by omega) (by omega) ?_
      simp (disch := omega) only [e_q0, e_nil, e_cons, e_q, e_qf, e_qt, e_af, z_hd, z_mk1, z_lg, z_s1, z_s2, z_kl, z_en, z_kI, z_fv, z_ic, z_c1, z_sh, z_pop, z_rc, z_tgt, z_tsw, z_lsw, z_nw, z_ac, o_kI, o_kL, o_ldi, o_ldl, o_lda, o_sti, o_sta, o_stl, o_inc, o_b2, o_bz, o_l2, o_lz, o_ls, o_lneg, o_i2l, o_l2i, o_lcmp, o_dup, o_dupx1, o_dup2, o_if, o_if2, o_ifnull, o_get, o_put, o_iald, o_zald, o_aald, o_alen, o_iast, o_zast, o_aast, o_new, o_newa, o_call, o_call1, o_callN, o_obj, o_reti, o_retl, o_ret, o_tsw, o_lsw, va_rf_s, va_rf_n, z_u2_s, z_u2_k, z_u2_f, z_uR_f, z_uL_f, e_ix, e_vp, e_lt, e_le, e_eq, e_lt0, e_eq0, e_b0, e_b1, e_10, e_11, true_or, or_true, false_or, nI_add, z_bi_0, z_bi_1, e_bb, z_uR_s, z_uR_k, z_uL_s, z_uL_k, true_and, and_true, and_self, not_true_eq_false, not_false_eq_true, forall_const, Option.toList, List.cons_append, List.nil_append, List.singleton_append, Nat.reduceAdd, Nat.zero_add, Nat.add_zero, Nat.reduceEqDiff, ↓reduceIte, ite_true, ite_false, reduceCtorEq, Int.cast_ofNat_Int, Int.reduceAdd, Int.reduceToNat, ne_eq, false_imp_iff, true_imp_iff, cl_134, bf_134_0, bf_134_62, bf_134_69, bf_134_79, bf_134_115, bf_134_119, bf_134_120, bf_134_168, bf_134_172, bf_134_178, bf_134_223, bf_134_263, bf_134_290, bf_134_332, bf_134_359, bo_134_0, bo_134_62, bo_134_69, bo_134_79, bo_134_115, bo_134_119, bo_134_120, bo_134_168, bo_134_172, bo_134_178, bo_134_223, bo_134_263, bo_134_290, bo_134_332, bo_134_359, hS, hs, hw, hf3, hf9]
      unfold f_best at hnext
      cases hb : f_best s (mi 373 23) (mi 383) n k with
      | none =>
        rw [hb] at hnext
        simp only [z_on, decide_true, decide_false, Bool.and_true, Bool.and_false, Bool.true_and, Bool.false_and, Bool.or_true, Bool.or_false, Bool.true_or, Bool.false_or, Bool.not_true, Bool.not_false, if_true, if_false, true_imp_iff, false_imp_iff, not_true_eq_false, not_false_eq_true, and_true, true_and, and_self, Bool.false_eq_true, Bool.true_eq_false, reduceCtorEq, ite_true, ite_false, ↓reduceIte, implies_true, ne_eq]
        refine ⟨fun c1 => ?_, fun c1 => ?_⟩
        · rw [c1] at hnext; exact hnext
        · simp only [Bool.not_eq_false] at c1; rw [c1] at hnext; exact hnext
      | some b =>
        have hb8 : b < k := f_best_lt _ _ hb
        rw [hb] at hnext
        refine ⟨fun c1 => ?_, fun c1 => ⟨fun c2 => ?_, fun c2 => ?_⟩⟩
        · rw [c1] at hnext; exact hnext
        · unfold z_on at c2; rw [z_on_n (by omega)] at c2; exact c2.elim
        · refine k_priceOf (w := 383) hS hs h383 (by rw [hf9]; exact h0) (by omega) ?_
          simp (disch := omega) only [e_q0, e_nil, e_cons, e_q, e_qf, e_qt, e_af, z_hd, z_mk1, z_lg, z_s1, z_s2, z_kl, z_en, z_kI, z_fv, z_ic, z_c1, z_sh, z_pop, z_rc, z_tgt, z_tsw, z_lsw, z_nw, z_ac, o_kI, o_kL, o_ldi, o_ldl, o_lda, o_sti, o_sta, o_stl, o_inc, o_b2, o_bz, o_l2, o_lz, o_ls, o_lneg, o_i2l, o_l2i, o_lcmp, o_dup, o_dupx1, o_dup2, o_if, o_if2, o_ifnull, o_get, o_put, o_iald, o_zald, o_aald, o_alen, o_iast, o_zast, o_aast, o_new, o_newa, o_call, o_call1, o_callN, o_obj, o_reti, o_retl, o_ret, o_tsw, o_lsw, va_rf_s, va_rf_n, z_u2_s, z_u2_k, z_u2_f, z_uR_f, z_uL_f, e_ix, e_vp, e_lt, e_le, e_eq, e_lt0, e_eq0, e_b0, e_b1, e_10, e_11, true_or, or_true, false_or, nI_add, z_bi_0, z_bi_1, e_bb, z_uR_s, z_uR_k, z_uL_s, z_uL_k, true_and, and_true, and_self, not_true_eq_false, not_false_eq_true, forall_const, Option.toList, List.cons_append, List.nil_append, List.singleton_append, Nat.reduceAdd, Nat.zero_add, Nat.add_zero, Nat.reduceEqDiff, ↓reduceIte, ite_true, ite_false, reduceCtorEq, Int.cast_ofNat_Int, Int.reduceAdd, Int.reduceToNat, ne_eq, false_imp_iff, true_imp_iff, cl_134, bf_134_0, bf_134_62, bf_134_69, bf_134_79, bf_134_115, bf_134_119, bf_134_120, bf_134_168, bf_134_172, bf_134_178, bf_134_223, bf_134_263, bf_134_290, bf_134_332, bf_134_359, bo_134_0, bo_134_62, bo_134_69, bo_134_79, bo_134_115, bo_134_119, bo_134_120, bo_134_168, bo_134_172, bo_134_178, bo_134_223, bo_134_263, bo_134_290, bo_134_332, bo_134_359, hS, hs, hw, hf3, hf9]
          refine k_priceOf (w := 383) hS hs h383 (by rw [hf9]; exact h0) (by omega) ?_
          simp (disch := omega) only [e_q0, e_nil, e_cons, e_q, e_qf, e_qt, e_af, z_hd, z_mk1, z_lg, z_s1, z_s2, z_kl, z_en, z_kI, z_fv, z_ic, z_c1, z_sh, z_pop, z_rc, z_tgt, z_tsw, z_lsw, z_nw, z_ac, o_kI, o_kL, o_ldi, o_ldl, o_lda, o_sti, o_sta, o_stl, o_inc, o_b2, o_bz, o_l2, o_lz, o_ls, o_lneg, o_i2l, o_l2i, o_lcmp, o_dup, o_dupx1, o_dup2, o_if, o_if2, o_ifnull, o_get, o_put, o_iald, o_zald, o_aald, o_alen, o_iast, o_zast, o_aast, o_new, o_newa, o_call, o_call1, o_callN, o_obj, o_reti, o_retl, o_ret, o_tsw, o_lsw, va_rf_s, va_rf_n, z_u2_s, z_u2_k, z_u2_f, z_uR_f, z_uL_f, e_ix, e_vp, e_lt, e_le, e_eq, e_lt0, e_eq0, e_b0, e_b1, e_10, e_11, true_or, or_true, false_or, nI_add, z_bi_0, z_bi_1, e_bb, z_uR_s, z_uR_k, z_uL_s, z_uL_k, true_and, and_true, and_self, not_true_eq_false, not_false_eq_true, forall_const, Option.toList, List.cons_append, List.nil_append, List.singleton_append, Nat.reduceAdd, Nat.zero_add, Nat.add_zero, Nat.reduceEqDiff, ↓reduceIte, ite_true, ite_false, reduceCtorEq, Int.cast_ofNat_Int, Int.reduceAdd, Int.reduceToNat, ne_eq, false_imp_iff, true_imp_iff, cl_134, bf_134_0, bf_134_62, bf_134_69, bf_134_79, bf_134_115, bf_134_119, bf_134_120, bf_134_168, bf_134_172, bf_134_178, bf_134_223, bf_134_263, bf_134_290, bf_134_332, bf_134_359, bo_134_0, bo_134_62, bo_134_69, bo_134_79, bo_134_115, bo_134_119, bo_134_120, bo_134_168, bo_134_172, bo_134_178, bo_134_223, bo_134_263, bo_134_290, bo_134_332, bo_134_359, hS, hs, hw, hf3, hf9]
          simp only [Bool.not_eq_false] at c1
          rw [c1] at hnext
          simp only [Bool.true_and, decide_eq_true_eq] at hnext
          refine ⟨fun c3 => ?_, fun c3 => ?_⟩
          · rw [if_neg (by rw [z_l32]; simp [c3])] at hnext; exact hnext
          · rw [if_pos (by rw [z_l32]; exact c3)] at hnext; exact hnext
    refine z_for (P := fun k (_ : Unit) => z_W l G 134 (T.2.1, T.2.2) (fun v M' => Q v M' ∧ M'.2.2.2 = T) 79 [some (.ref 373), some (.ref w), some (.int (nI n)), none, some (.int (z_on (f_best s (mi 373 23) (mi 383) n k))), some (.int (z_bi (f_any s (mi 373 23) (mi 383) n k))), some (.int (nI k))] [] (f, mr, ml, T)) s.1.1 (fun _ => ?_) (fun k hk ih _ => ?_) 0 (by omega) ()
    · refine z_run ck_134 13 bf_134_79 ?_
      simp (disch := omega) only [e_q0, e_nil, e_cons, e_q, e_qf, e_qt, e_af, z_hd, z_mk1, z_lg, z_s1, z_s2, z_kl, z_en, z_kI, z_fv, z_ic, z_c1, z_sh, z_pop, z_rc, z_tgt, z_tsw, z_lsw, z_nw, z_ac, o_kI, o_kL, o_ldi, o_ldl, o_lda, o_sti, o_sta, o_stl, o_inc, o_b2, o_bz, o_l2, o_lz, o_ls, o_lneg, o_i2l, o_l2i, o_lcmp, o_dup, o_dupx1, o_dup2, o_if, o_if2, o_ifnull, o_get, o_put, o_iald, o_zald, o_aald, o_alen, o_iast, o_zast, o_aast, o_new, o_newa, o_call, o_call1, o_callN, o_obj, o_reti, o_retl, o_ret, o_tsw, o_lsw, va_rf_s, va_rf_n, z_u2_s, z_u2_k, z_u2_f, z_uR_f, z_uL_f, e_ix, e_vp, e_lt, e_le, e_eq, e_lt0, e_eq0, e_b0, e_b1, e_10, e_11, true_or, or_true, false_or, nI_add, z_bi_0, z_bi_1, e_bb, z_uR_s, z_uR_k, z_uL_s, z_uL_k, true_and, and_true, and_self, not_true_eq_false, not_false_eq_true, forall_const, Option.toList, List.cons_append, List.nil_append, List.singleton_append, Nat.reduceAdd, Nat.zero_add, Nat.add_zero, Nat.reduceEqDiff, ↓reduceIte, ite_true, ite_false, reduceCtorEq, Int.cast_ofNat_Int, Int.reduceAdd, Int.reduceToNat, ne_eq, false_imp_iff, true_imp_iff, cl_134, bf_134_0, bf_134_62, bf_134_69, bf_134_79, bf_134_115, bf_134_119, bf_134_120, bf_134_168, bf_134_172, bf_134_178, bf_134_223, bf_134_263, bf_134_290, bf_134_332, bf_134_359, bo_134_0, bo_134_62, bo_134_69, bo_134_79, bo_134_115, bo_134_119, bo_134_120, bo_134_168, bo_134_172, bo_134_178, bo_134_223, bo_134_263, bo_134_290, bo_134_332, bo_134_359, hS, hsf, hw, Nat.le_refl]
      have hs0 := hs
      clear hs
      have hs := hsf
      have gr : ∀ j, j ≠ n → j ≠ 8 + n → j ≠ 16 + n → f_p3 (mi w) n (f_st1 s (mi 373 23) (mi 383) n) j = mi w j := fun j c1 c2 c3 => by unfold f_p3; rw [if_neg c1, if_neg c2, if_neg c3]
      have q1 : f_p3 (mi w) n (f_st1 s (mi 373 23) (mi 383) n) n = (f_st1 s (mi 373 23) (mi 383) n).1 := by simp [f_p3]
      have q2 : f_p3 (mi w) n (f_st1 s (mi 373 23) (mi 383) n) (8 + n) = (f_st1 s (mi 373 23) (mi 383) n).2.1 := by simp [f_p3]
      cases hb : f_best s (mi 373 23) (mi 383) n s.1.1 with
      | none =>
        have hst : f_st2 s (mi 373 23) (mi 383) n = f_st1 s (mi 373 23) (mi 383) n := by unfold f_st2; rw [hb]
        refine ⟨fun _ => ?_, fun c1 => absurd rfl c1⟩
        rw [← hst] at hf
        exact fin f hf
      | some b =>
        have hb8 : b < s.1.1 := f_best_lt _ _ hb
        refine ⟨fun c1 => ?_, fun _ => ?_⟩
        · unfold z_on at c1; rw [z_on_n (by omega)] at c1; exact c1.elim
        · simp only [hw1, q1, q2, z_on]
          have fin2 : ∀ (R : ZW) (f' : Nat → Nat → Int32), (f_st1 s (mi 373 23) (mi 383) n).1 = z_ng 9 ∨ f_price s (mi 373 23) (mi 383) b n + mi 383 75 < (f_st1 s (mi 373 23) (mi 383) n).2.1 →
              (∀ c j, f' c j = if c = w then R j else mi c j) → R n = nI b → R (8 + n) = f_price s (mi 373 23) (mi 383) b n → R (16 + n) = f_seq s (mi 383) b → (∀ j, j ≠ n → j ≠ 8 + n → j ≠ 16 + n → R j = mi w j) →
              z_W l G 134 (T.2.1, T.2.2) (fun v M' => Q v M' ∧ M'.2.2.2 = T) 263 [none, some (.ref w), some (.int (nI n)), none, none, some (.int (z_bi (f_any s (mi 373 23) (mi 383) n s.1.1))), none] [] (f', mr, ml, T) := by
            intro R f' hc hf' r1 r2 r3 r4
            have hst : f_st2 s (mi 373 23) (mi 383) n = (nI b, f_price s (mi 373 23) (mi 383) b n, f_seq s (mi 383) b) := by unfold f_st2; rw [hb]; exact if_pos hc
            exact fin f' (z_rw hf' (z_row3 (by rw [hst]; exact r1) (by rw [hst]; exact r2) (by rw [hst]; exact r3) r4))
          refine ⟨fun c1 => ?_, fun c1 => ?_⟩
          · have hu := z_ru (k := n) (x := nI b) hf
            have h39 : z_u2 f w n (nI b) 383 = mi 383 := z_sw hu (by omega)
            have h33 : z_u2 f w n (nI b) 373 = mi 373 := z_sw hu (by omega)
            refine k_priceOf (w := 383) hS (hs0.of fun b q1 q2 => z_sw hu (by omega)) h383 (by rw [h39]; exact h0) (by omega) ?_
            simp (disch := omega) only [e_q0, e_nil, e_cons, e_q, e_qf, e_qt, e_af, z_hd, z_mk1, z_lg, z_s1, z_s2, z_kl, z_en, z_kI, z_fv, z_ic, z_c1, z_sh, z_pop, z_rc, z_tgt, z_tsw, z_lsw, z_nw, z_ac, o_kI, o_kL, o_ldi, o_ldl, o_lda, o_sti, o_sta, o_stl, o_inc, o_b2, o_bz, o_l2, o_lz, o_ls, o_lneg, o_i2l, o_l2i, o_lcmp, o_dup, o_dupx1, o_dup2, o_if, o_if2, o_ifnull, o_get, o_put, o_iald, o_zald, o_aald, o_alen, o_iast, o_zast, o_aast, o_new, o_newa, o_call, o_call1, o_callN, o_obj, o_reti, o_retl, o_ret, o_tsw, o_lsw, va_rf_s, va_rf_n, z_u2_s, z_u2_k, z_u2_f, z_uR_f, z_uL_f, e_ix, e_vp, e_lt, e_le, e_eq, e_lt0, e_eq0, e_b0, e_b1, e_10, e_11, true_or, or_true, false_or, nI_add, z_bi_0, z_bi_1, e_bb, z_uR_s, z_uR_k, z_uL_s, z_uL_k, true_and, and_true, and_self, not_true_eq_false, not_false_eq_true, forall_const, Option.toList, List.cons_append, List.nil_append, List.singleton_append, Nat.reduceAdd, Nat.zero_add, Nat.add_zero, Nat.reduceEqDiff, ↓reduceIte, ite_true, ite_false, reduceCtorEq, Int.cast_ofNat_Int, Int.reduceAdd, Int.reduceToNat, ne_eq, false_imp_iff, true_imp_iff, cl_134, bf_134_0, bf_134_62, bf_134_69, bf_134_79, bf_134_115, bf_134_119, bf_134_120, bf_134_168, bf_134_172, bf_134_178, bf_134_223, bf_134_263, bf_134_290, bf_134_332, bf_134_359, bo_134_0, bo_134_62, bo_134_69, bo_134_79, bo_134_115, bo_134_119, bo_134_120, bo_134_168, bo_134_172, bo_134_178, bo_134_223, bo_134_263, bo_134_290, bo_134_332, bo_134_359, hS, hsf, hw, hf3, hf9]
            have hu2 := z_ru (k := 8 + n) (x := f_price s (mi 373 23) (mi 383) b n) hu
            have i39 : z_u2 (z_u2 f w n (nI b)) w (8 + n) (f_price s (mi 373 23) (mi 383) b n) 383 = mi 383 := z_sw hu2 (by omega)
            skip
            refine k_sequenceOf (w := 383) hS (hs0.of fun b q1 q2 => z_sw hu2 (by omega)) h383 (by omega) ?_
            simp (disch := omega) only [e_q0, e_nil, e_cons, e_q, e_qf, e_qt, e_af, z_hd, z_mk1, z_lg, z_s1, z_s2, z_kl, z_en, z_kI, z_fv, z_ic, z_c1, z_sh, z_pop, z_rc, z_tgt, z_tsw, z_lsw, z_nw, z_ac, o_kI, o_kL, o_ldi, o_ldl, o_lda, o_sti, o_sta, o_stl, o_inc, o_b2, o_bz, o_l2, o_lz, o_ls, o_lneg, o_i2l, o_l2i, o_lcmp, o_dup, o_dupx1, o_dup2, o_if, o_if2, o_ifnull, o_get, o_put, o_iald, o_zald, o_aald, o_alen, o_iast, o_zast, o_aast, o_new, o_newa, o_call, o_call1, o_callN, o_obj, o_reti, o_retl, o_ret, o_tsw, o_lsw, va_rf_s, va_rf_n, z_u2_s, z_u2_k, z_u2_f, z_uR_f, z_uL_f, e_ix, e_vp, e_lt, e_le, e_eq, e_lt0, e_eq0, e_b0, e_b1, e_10, e_11, true_or, or_true, false_or, nI_add, z_bi_0, z_bi_1, e_bb, z_uR_s, z_uR_k, z_uL_s, z_uL_k, true_and, and_true, and_self, not_true_eq_false, not_false_eq_true, forall_const, Option.toList, List.cons_append, List.nil_append, List.singleton_append, Nat.reduceAdd, Nat.zero_add, Nat.add_zero, Nat.reduceEqDiff, ↓reduceIte, ite_true, ite_false, reduceCtorEq, Int.cast_ofNat_Int, Int.reduceAdd, Int.reduceToNat, ne_eq, false_imp_iff, true_imp_iff, cl_134, bf_134_0, bf_134_62, bf_134_69, bf_134_79, bf_134_115, bf_134_119, bf_134_120, bf_134_168, bf_134_172, bf_134_178, bf_134_223, bf_134_263, bf_134_290, bf_134_332, bf_134_359, bo_134_0, bo_134_62, bo_134_69, bo_134_79, bo_134_115, bo_134_119, bo_134_120, bo_134_168, bo_134_172, bo_134_178, bo_134_223, bo_134_263, bo_134_290, bo_134_332, bo_134_359, hS, hsf, hw]
            skip
            refine fin2 _ _ (Or.inl c1) (z_ru hu2) ?_ ?_ ?_ fun j q1 q2 q3 => ?_ <;> simp (disch := omega) only [z_ie, z_in, if_true, ite_true, ↓reduceIte, gr, hf9]
          · refine k_priceOf (w := 383) hS hsf h383 (by rw [hf9]; exact h0) (by omega) ?_
            simp (disch := omega) only [e_q0, e_nil, e_cons, e_q, e_qf, e_qt, e_af, z_hd, z_mk1, z_lg, z_s1, z_s2, z_kl, z_en, z_kI, z_fv, z_ic, z_c1, z_sh, z_pop, z_rc, z_tgt, z_tsw, z_lsw, z_nw, z_ac, o_kI, o_kL, o_ldi, o_ldl, o_lda, o_sti, o_sta, o_stl, o_inc, o_b2, o_bz, o_l2, o_lz, o_ls, o_lneg, o_i2l, o_l2i, o_lcmp, o_dup, o_dupx1, o_dup2, o_if, o_if2, o_ifnull, o_get, o_put, o_iald, o_zald, o_aald, o_alen, o_iast, o_zast, o_aast, o_new, o_newa, o_call, o_call1, o_callN, o_obj, o_reti, o_retl, o_ret, o_tsw, o_lsw, va_rf_s, va_rf_n, z_u2_s, z_u2_k, z_u2_f, z_uR_f, z_uL_f, e_ix, e_vp, e_lt, e_le, e_eq, e_lt0, e_eq0, e_b0, e_b1, e_10, e_11, true_or, or_true, false_or, nI_add, z_bi_0, z_bi_1, e_bb, z_uR_s, z_uR_k, z_uL_s, z_uL_k, true_and, and_true, and_self, not_true_eq_false, not_false_eq_true, forall_const, Option.toList, List.cons_append, List.nil_append, List.singleton_append, Nat.reduceAdd, Nat.zero_add, Nat.add_zero, Nat.reduceEqDiff, ↓reduceIte, ite_true, ite_false, reduceCtorEq, Int.cast_ofNat_Int, Int.reduceAdd, Int.reduceToNat, ne_eq, false_imp_iff, true_imp_iff, cl_134, bf_134_0, bf_134_62, bf_134_69, bf_134_79, bf_134_115, bf_134_119, bf_134_120, bf_134_168, bf_134_172, bf_134_178, bf_134_223, bf_134_263, bf_134_290, bf_134_332, bf_134_359, bo_134_0, bo_134_62, bo_134_69, bo_134_79, bo_134_115, bo_134_119, bo_134_120, bo_134_168, bo_134_172, bo_134_178, bo_134_223, bo_134_263, bo_134_290, bo_134_332, bo_134_359, hS, hsf, hw, hf3, hf9]
            have hst0 : ¬ (f_price s (mi 373 23) (mi 383) b n + mi 383 75 < (f_st1 s (mi 373 23) (mi 383) n).2.1) → f_st2 s (mi 373 23) (mi 383) n = f_st1 s (mi 373 23) (mi 383) n := by
              intro hc
              unfold f_st2; rw [hb]; exact if_neg (fun q => q.elim c1 hc)
            refine ⟨fun c2 => ?_, fun c2 => ?_⟩
            · have hst := hst0 (by rw [z_l32]; simp [c2])
              rw [← hst] at hf
              exact fin f hf
            · have hu := z_ru (k := n) (x := nI b) hf
              have h39 : z_u2 f w n (nI b) 383 = mi 383 := z_sw hu (by omega)
              have h33 : z_u2 f w n (nI b) 373 = mi 373 := z_sw hu (by omega)
              refine k_priceOf (w := 383) hS (hs0.of fun b q1 q2 => z_sw hu (by omega)) h383 (by rw [h39]; exact h0) (by omega) ?_
              simp (disch := omega) only [e_q0, e_nil, e_cons, e_q, e_qf, e_qt, e_af, z_hd, z_mk1, z_lg, z_s1, z_s2, z_kl, z_en, z_kI, z_fv, z_ic, z_c1, z_sh, z_pop, z_rc, z_tgt, z_tsw, z_lsw, z_nw, z_ac, o_kI, o_kL, o_ldi, o_ldl, o_lda, o_sti, o_sta, o_stl, o_inc, o_b2, o_bz, o_l2, o_lz, o_ls, o_lneg, o_i2l, o_l2i, o_lcmp, o_dup, o_dupx1, o_dup2, o_if, o_if2, o_ifnull, o_get, o_put, o_iald, o_zald, o_aald, o_alen, o_iast, o_zast, o_aast, o_new, o_newa, o_call, o_call1, o_callN, o_obj, o_reti, o_retl, o_ret, o_tsw, o_lsw, va_rf_s, va_rf_n, z_u2_s, z_u2_k, z_u2_f, z_uR_f, z_uL_f, e_ix, e_vp, e_lt, e_le, e_eq, e_lt0, e_eq0, e_b0, e_b1, e_10, e_11, true_or, or_true, false_or, nI_add, z_bi_0, z_bi_1, e_bb, z_uR_s, z_uR_k, z_uL_s, z_uL_k, true_and, and_true, and_self, not_true_eq_false, not_false_eq_true, forall_const, Option.toList, List.cons_append, List.nil_append, List.singleton_append, Nat.reduceAdd, Nat.zero_add, Nat.add_zero, Nat.reduceEqDiff, ↓reduceIte, ite_true, ite_false, reduceCtorEq, Int.cast_ofNat_Int, Int.reduceAdd, Int.reduceToNat, ne_eq, false_imp_iff, true_imp_iff, cl_134, bf_134_0, bf_134_62, bf_134_69, bf_134_79, bf_134_115, bf_134_119, bf_134_120, bf_134_168, bf_134_172, bf_134_178, bf_134_223, bf_134_263, bf_134_290, bf_134_332, bf_134_359, bo_134_0, bo_134_62, bo_134_69, bo_134_79, bo_134_115, bo_134_119, bo_134_120, bo_134_168, bo_134_172, bo_134_178, bo_134_223, bo_134_263, bo_134_290, bo_134_332, bo_134_359, hS, hsf, hw, hf3, hf9]
              have hu2 := z_ru (k := 8 + n) (x := f_price s (mi 373 23) (mi 383) b n) hu
              have i39 : z_u2 (z_u2 f w n (nI b)) w (8 + n) (f_price s (mi 373 23) (mi 383) b n) 383 = mi 383 := z_sw hu2 (by omega)
              skip
              refine k_sequenceOf (w := 383) hS (hs0.of fun b q1 q2 => z_sw hu2 (by omega)) h383 (by omega) ?_
              simp (disch := omega) only [e_q0, e_nil, e_cons, e_q, e_qf, e_qt, e_af, z_hd, z_mk1, z_lg, z_s1, z_s2, z_kl, z_en, z_kI, z_fv, z_ic, z_c1, z_sh, z_pop, z_rc, z_tgt, z_tsw, z_lsw, z_nw, z_ac, o_kI, o_kL, o_ldi, o_ldl, o_lda, o_sti, o_sta, o_stl, o_inc, o_b2, o_bz, o_l2, o_lz, o_ls, o_lneg, o_i2l, o_l2i, o_lcmp, o_dup, o_dupx1, o_dup2, o_if, o_if2, o_ifnull, o_get, o_put, o_iald, o_zald, o_aald, o_alen, o_iast, o_zast, o_aast, o_new, o_newa, o_call, o_call1, o_callN, o_obj, o_reti, o_retl, o_ret, o_tsw, o_lsw, va_rf_s, va_rf_n, z_u2_s, z_u2_k, z_u2_f, z_uR_f, z_uL_f, e_ix, e_vp, e_lt, e_le, e_eq, e_lt0, e_eq0, e_b0, e_b1, e_10, e_11, true_or, or_true, false_or, nI_add, z_bi_0, z_bi_1, e_bb, z_uR_s, z_uR_k, z_uL_s, z_uL_k, true_and, and_true, and_self, not_true_eq_false, not_false_eq_true, forall_const, Option.toList, List.cons_append, List.nil_append, List.singleton_append, Nat.reduceAdd, Nat.zero_add, Nat.add_zero, Nat.reduceEqDiff, ↓reduceIte, ite_true, ite_false, reduceCtorEq, Int.cast_ofNat_Int, Int.reduceAdd, Int.reduceToNat, ne_eq, false_imp_iff, true_imp_iff, cl_134, bf_134_0, bf_134_62, bf_134_69, bf_134_79, bf_134_115, bf_134_119, bf_134_120, bf_134_168, bf_134_172, bf_134_178, bf_134_223, bf_134_263, bf_134_290, bf_134_332, bf_134_359, bo_134_0, bo_134_62, bo_134_69, bo_134_79, bo_134_115, bo_134_119, bo_134_120, bo_134_168, bo_134_172, bo_134_178, bo_134_223, bo_134_263, bo_134_290, bo_134_332, bo_134_359, hS, hsf, hw]
              skip
              refine fin2 _ _ (Or.inr (by rw [z_l32]; exact c2)) (z_ru hu2) ?_ ?_ ?_ fun j q1 q2 q3 => ?_ <;> simp (disch := omega) only [z_ie, z_in, if_true, ite_true, ↓reduceIte, gr, hf9]
    · refine z_run ck_134 13 bf_134_79 ?_
      have k2 := k1 k hk (ih ())
      simp (disch := omega) only [e_q0, e_nil, e_cons, e_q, e_qf, e_qt, e_af, z_hd, z_mk1, z_lg, z_s1, z_s2, z_kl, z_en, z_kI, z_fv, z_ic, z_c1, z_sh, z_pop, z_rc, z_tgt, z_tsw, z_lsw, z_nw, z_ac, o_kI, o_kL, o_ldi, o_ldl, o_lda, o_sti, o_sta, o_stl, o_inc, o_b2, o_bz, o_l2, o_lz, o_ls, o_lneg, o_i2l, o_l2i, o_lcmp, o_dup, o_dupx1, o_dup2, o_if, o_if2, o_ifnull, o_get, o_put, o_iald, o_zald, o_aald, o_alen, o_iast, o_zast, o_aast, o_new, o_newa, o_call, o_call1, o_callN, o_obj, o_reti, o_retl, o_ret, o_tsw, o_lsw, va_rf_s, va_rf_n, z_u2_s, z_u2_k, z_u2_f, z_uR_f, z_uL_f, e_ix, e_vp, e_lt, e_le, e_eq, e_lt0, e_eq0, e_b0, e_b1, e_10, e_11, true_or, or_true, false_or, nI_add, z_bi_0, z_bi_1, e_bb, z_uR_s, z_uR_k, z_uL_s, z_uL_k, true_and, and_true, and_self, not_true_eq_false, not_false_eq_true, forall_const, Option.toList, List.cons_append, List.nil_append, List.singleton_append, Nat.reduceAdd, Nat.zero_add, Nat.add_zero, Nat.reduceEqDiff, ↓reduceIte, ite_true, ite_false, reduceCtorEq, Int.cast_ofNat_Int, Int.reduceAdd, Int.reduceToNat, ne_eq, false_imp_iff, true_imp_iff, cl_134, bf_134_0, bf_134_62, bf_134_69, bf_134_79, bf_134_115, bf_134_119, bf_134_120, bf_134_168, bf_134_172, bf_134_178, bf_134_223, bf_134_263, bf_134_290, bf_134_332, bf_134_359, bo_134_0, bo_134_62, bo_134_69, bo_134_79, bo_134_115, bo_134_119, bo_134_120, bo_134_168, bo_134_172, bo_134_178, bo_134_223, bo_134_263, bo_134_290, bo_134_332, bo_134_359, hS, hsf, hw, Nat.not_le.mpr, hk]
      unfold f_any at k2
      refine ⟨fun c1 => ⟨fun c2 => ?_, fun c2 => ?_⟩, fun c1 => ?_⟩
      · rw [c1] at k2
        simp only [c2, ne_eq, not_true_eq_false, decide_false, Bool.false_and, Bool.or_false, z_bi] at k2
        rw [c2]; exact k2
      · refine k_priceOf (w := 383) hS hsf h383 (by rw [hf9]; exact h0) (by omega) ?_
        simp (disch := omega) only [e_q0, e_nil, e_cons, e_q, e_qf, e_qt, e_af, z_hd, z_mk1, z_lg, z_s1, z_s2, z_kl, z_en, z_kI, z_fv, z_ic, z_c1, z_sh, z_pop, z_rc, z_tgt, z_tsw, z_lsw, z_nw, z_ac, o_kI, o_kL, o_ldi, o_ldl, o_lda, o_sti, o_sta, o_stl, o_inc, o_b2, o_bz, o_l2, o_lz, o_ls, o_lneg, o_i2l, o_l2i, o_lcmp, o_dup, o_dupx1, o_dup2, o_if, o_if2, o_ifnull, o_get, o_put, o_iald, o_zald, o_aald, o_alen, o_iast, o_zast, o_aast, o_new, o_newa, o_call, o_call1, o_callN, o_obj, o_reti, o_retl, o_ret, o_tsw, o_lsw, va_rf_s, va_rf_n, z_u2_s, z_u2_k, z_u2_f, z_uR_f, z_uL_f, e_ix, e_vp, e_lt, e_le, e_eq, e_lt0, e_eq0, e_b0, e_b1, e_10, e_11, true_or, or_true, false_or, nI_add, z_bi_0, z_bi_1, e_bb, z_uR_s, z_uR_k, z_uL_s, z_uL_k, true_and, and_true, and_self, not_true_eq_false, not_false_eq_true, forall_const, Option.toList, List.cons_append, List.nil_append, List.singleton_append, Nat.reduceAdd, Nat.zero_add, Nat.add_zero, Nat.reduceEqDiff, ↓reduceIte, ite_true, ite_false, reduceCtorEq, Int.cast_ofNat_Int, Int.reduceAdd, Int.reduceToNat, ne_eq, false_imp_iff, true_imp_iff, cl_134, bf_134_0, bf_134_62, bf_134_69, bf_134_79, bf_134_115, bf_134_119, bf_134_120, bf_134_168, bf_134_172, bf_134_178, bf_134_223, bf_134_263, bf_134_290, bf_134_332, bf_134_359, bo_134_0, bo_134_62, bo_134_69, bo_134_79, bo_134_115, bo_134_119, bo_134_120, bo_134_168, bo_134_172, bo_134_178, bo_134_223, bo_134_263, bo_134_290, bo_134_332, bo_134_359, hS, hsf, hw, hf3, hf9]
        rw [c1] at k2
        simp only [eq_false c2, ne_eq, not_false_eq_true, decide_true, Bool.true_and, Bool.false_or] at k2
        refine ⟨fun c3 => ?_, fun c3 => ?_⟩
        · simp only [c3, not_true_eq_false, decide_false, z_bi] at k2; exact k2
        · simp only [c3, not_false_eq_true, decide_true, z_bi] at k2; exact k2
      · simp only [Bool.not_eq_false] at c1
        rw [c1] at k2
        simp only [Bool.true_or, z_bi] at k2
        exact k2
  refine z_okN cz_134.1 (by rw [cl_134]; exact Nat.le_of_ble_eq_true rfl) cz_134.2 (z_run ck_134 13 bf_134_0 ?_)
  simp (disch := omega) only [e_q0, e_nil, e_cons, e_q, e_qf, e_qt, e_af, z_hd, z_mk1, z_lg, z_s1, z_s2, z_kl, z_en, z_kI, z_fv, z_ic, z_c1, z_sh, z_pop, z_rc, z_tgt, z_tsw, z_lsw, z_nw, z_ac, o_kI, o_kL, o_ldi, o_ldl, o_lda, o_sti, o_sta, o_stl, o_inc, o_b2, o_bz, o_l2, o_lz, o_ls, o_lneg, o_i2l, o_l2i, o_lcmp, o_dup, o_dupx1, o_dup2, o_if, o_if2, o_ifnull, o_get, o_put, o_iald, o_zald, o_aald, o_alen, o_iast, o_zast, o_aast, o_new, o_newa, o_call, o_call1, o_callN, o_obj, o_reti, o_retl, o_ret, o_tsw, o_lsw, va_rf_s, va_rf_n, z_u2_s, z_u2_k, z_u2_f, z_uR_f, z_uL_f, e_ix, e_vp, e_lt, e_le, e_eq, e_lt0, e_eq0, e_b0, e_b1, e_10, e_11, true_or, or_true, false_or, nI_add, z_bi_0, z_bi_1, e_bb, z_uR_s, z_uR_k, z_uL_s, z_uL_k, true_and, and_true, and_self, not_true_eq_false, not_false_eq_true, forall_const, Option.toList, List.cons_append, List.nil_append, List.singleton_append, Nat.reduceAdd, Nat.zero_add, Nat.add_zero, Nat.reduceEqDiff, ↓reduceIte, ite_true, ite_false, reduceCtorEq, Int.cast_ofNat_Int, Int.reduceAdd, Int.reduceToNat, ne_eq, false_imp_iff, true_imp_iff, cl_134, bf_134_0, bf_134_62, bf_134_69, bf_134_79, bf_134_115, bf_134_119, bf_134_120, bf_134_168, bf_134_172, bf_134_178, bf_134_223, bf_134_263, bf_134_290, bf_134_332, bf_134_359, bo_134_0, bo_134_62, bo_134_69, bo_134_79, bo_134_115, bo_134_119, bo_134_120, bo_134_168, bo_134_172, bo_134_178, bo_134_223, bo_134_263, bo_134_290, bo_134_332, bo_134_359, hS, hs, hw]
  rcases hp n hn with hq | ⟨p, hp8, hq⟩
  · have hst : f_st1 s (mi 373 23) (mi 383) n = (z_ng 9, mi 383 (8 + n), mi 383 (16 + n)) := by unfold f_st1 f_par; rw [if_pos hq]
    simp (disch := omega) only [e_q0, e_nil, e_cons, e_q, e_qf, e_qt, e_af, z_hd, z_mk1, z_lg, z_s1, z_s2, z_kl, z_en, z_kI, z_fv, z_ic, z_c1, z_sh, z_pop, z_rc, z_tgt, z_tsw, z_lsw, z_nw, z_ac, o_kI, o_kL, o_ldi, o_ldl, o_lda, o_sti, o_sta, o_stl, o_inc, o_b2, o_bz, o_l2, o_lz, o_ls, o_lneg, o_i2l, o_l2i, o_lcmp, o_dup, o_dupx1, o_dup2, o_if, o_if2, o_ifnull, o_get, o_put, o_iald, o_zald, o_aald, o_alen, o_iast, o_zast, o_aast, o_new, o_newa, o_call, o_call1, o_callN, o_obj, o_reti, o_retl, o_ret, o_tsw, o_lsw, va_rf_s, va_rf_n, z_u2_s, z_u2_k, z_u2_f, z_uR_f, z_uL_f, e_ix, e_vp, e_lt, e_le, e_eq, e_lt0, e_eq0, e_b0, e_b1, e_10, e_11, true_or, or_true, false_or, nI_add, z_bi_0, z_bi_1, e_bb, z_uR_s, z_uR_k, z_uL_s, z_uL_k, true_and, and_true, and_self, not_true_eq_false, not_false_eq_true, forall_const, Option.toList, List.cons_append, List.nil_append, List.singleton_append, Nat.reduceAdd, Nat.zero_add, Nat.add_zero, Nat.reduceEqDiff, ↓reduceIte, ite_true, ite_false, reduceCtorEq, Int.cast_ofNat_Int, Int.reduceAdd, Int.reduceToNat, ne_eq, false_imp_iff, true_imp_iff, cl_134, bf_134_0, bf_134_62, bf_134_69, bf_134_79, bf_134_115, bf_134_119, bf_134_120, bf_134_168, bf_134_172, bf_134_178, bf_134_223, bf_134_263, bf_134_290, bf_134_332, bf_134_359, bo_134_0, bo_134_62, bo_134_69, bo_134_79, bo_134_115, bo_134_119, bo_134_120, bo_134_168, bo_134_172, bo_134_178, bo_134_223, bo_134_263, bo_134_290, bo_134_332, bo_134_359, hS, hs, hw, hq]
    refine loop _ fun c j => ?_
    rw [hst]
    simp only [z_u2_if, f_p3]
    by_cases c1 : c = w
    · subst c1
      by_cases c2 : j = n
      · simp [c2]
      · by_cases c3 : j = 8 + n
        · simp [c3, e2]
        · by_cases c4 : j = 16 + n
          · simp [c4, e3]
          · simp [c2, c3, c4]
    · simp [c1]
  · have hpr : f_par (mi 383) n = some p := by unfold f_par; rw [hq, if_neg (by rw [z_on_n (by omega)]; exact not_false), e_ix (by omega)]
    simp (disch := omega) only [e_q0, e_nil, e_cons, e_q, e_qf, e_qt, e_af, z_hd, z_mk1, z_lg, z_s1, z_s2, z_kl, z_en, z_kI, z_fv, z_ic, z_c1, z_sh, z_pop, z_rc, z_tgt, z_tsw, z_lsw, z_nw, z_ac, o_kI, o_kL, o_ldi, o_ldl, o_lda, o_sti, o_sta, o_stl, o_inc, o_b2, o_bz, o_l2, o_lz, o_ls, o_lneg, o_i2l, o_l2i, o_lcmp, o_dup, o_dupx1, o_dup2, o_if, o_if2, o_ifnull, o_get, o_put, o_iald, o_zald, o_aald, o_alen, o_iast, o_zast, o_aast, o_new, o_newa, o_call, o_call1, o_callN, o_obj, o_reti, o_retl, o_ret, o_tsw, o_lsw, va_rf_s, va_rf_n, z_u2_s, z_u2_k, z_u2_f, z_uR_f, z_uL_f, e_ix, e_vp, e_lt, e_le, e_eq, e_lt0, e_eq0, e_b0, e_b1, e_10, e_11, true_or, or_true, false_or, nI_add, z_bi_0, z_bi_1, e_bb, z_uR_s, z_uR_k, z_uL_s, z_uL_k, true_and, and_true, and_self, not_true_eq_false, not_false_eq_true, forall_const, Option.toList, List.cons_append, List.nil_append, List.singleton_append, Nat.reduceAdd, Nat.zero_add, Nat.add_zero, Nat.reduceEqDiff, ↓reduceIte, ite_true, ite_false, reduceCtorEq, Int.cast_ofNat_Int, Int.reduceAdd, Int.reduceToNat, ne_eq, false_imp_iff, true_imp_iff, cl_134, bf_134_0, bf_134_62, bf_134_69, bf_134_79, bf_134_115, bf_134_119, bf_134_120, bf_134_168, bf_134_172, bf_134_178, bf_134_223, bf_134_263, bf_134_290, bf_134_332, bf_134_359, bo_134_0, bo_134_62, bo_134_69, bo_134_79, bo_134_115, bo_134_119, bo_134_120, bo_134_168, bo_134_172, bo_134_178, bo_134_223, bo_134_263, bo_134_290, bo_134_332, bo_134_359, hS, hs, hw, hq, z_on_n]
    refine k_isGood (w := 383) hS hs h383 h0 (by omega) (by omega) ?_
    simp (disch := omega) only [e_q0, e_nil, e_cons, e_q, e_qf, e_qt, e_af, z_hd, z_mk1, z_lg, z_s1, z_s2, z_kl, z_en, z_kI, z_fv, z_ic, z_c1, z_sh, z_pop, z_rc, z_tgt, z_tsw, z_lsw, z_nw, z_ac, o_kI, o_kL, o_ldi, o_ldl, o_lda, o_sti, o_sta, o_stl, o_inc, o_b2, o_bz, o_l2, o_lz, o_ls, o_lneg, o_i2l, o_l2i, o_lcmp, o_dup, o_dupx1, o_dup2, o_if, o_if2, o_ifnull, o_get, o_put, o_iald, o_zald, o_aald, o_alen, o_iast, o_zast, o_aast, o_new, o_newa, o_call, o_call1, o_callN, o_obj, o_reti, o_retl, o_ret, o_tsw, o_lsw, va_rf_s, va_rf_n, z_u2_s, z_u2_k, z_u2_f, z_uR_f, z_uL_f, e_ix, e_vp, e_lt, e_le, e_eq, e_lt0, e_eq0, e_b0, e_b1, e_10, e_11, true_or, or_true, false_or, nI_add, z_bi_0, z_bi_1, e_bb, z_uR_s, z_uR_k, z_uL_s, z_uL_k, true_and, and_true, and_self, not_true_eq_false, not_false_eq_true, forall_const, Option.toList, List.cons_append, List.nil_append, List.singleton_append, Nat.reduceAdd, Nat.zero_add, Nat.add_zero, Nat.reduceEqDiff, ↓reduceIte, ite_true, ite_false, reduceCtorEq, Int.cast_ofNat_Int, Int.reduceAdd, Int.reduceToNat, ne_eq, false_imp_iff, true_imp_iff, cl_134, bf_134_0, bf_134_62, bf_134_69, bf_134_79, bf_134_115, bf_134_119, bf_134_120, bf_134_168, bf_134_172, bf_134_178, bf_134_223, bf_134_263, bf_134_290, bf_134_332, bf_134_359, bo_134_0, bo_134_62, bo_134_69, bo_134_79, bo_134_115, bo_134_119, bo_134_120, bo_134_168, bo_134_172, bo_134_178, bo_134_223, bo_134_263, bo_134_290, bo_134_332, bo_134_359, hS, hs, hw, hq]
    refine ⟨fun c0 => ?_, fun c0 => ?_⟩
    · have hst : f_st1 s (mi 373 23) (mi 383) n = (z_ng 9, mi 383 (8 + n), mi 383 (16 + n)) := by unfold f_st1; rw [hpr]; simp only [c0]; rfl
      refine loop _ fun c j => ?_
      rw [hst]
      simp only [z_u2_if, f_p3]
      by_cases c1 : c = w
      · subst c1
        by_cases c2 : j = n
        · simp [c2]
        · by_cases c3 : j = 8 + n
          · simp [c3, e2]
          · by_cases c4 : j = 16 + n
            · simp [c4, e3]
            · simp [c2, c3, c4]
      · simp [c1]
    · simp only [Bool.not_eq_false] at c0
      have hst : f_st1 s (mi 373 23) (mi 383) n = (mi 383 n, f_price s (mi 373 23) (mi 383) p n, f_seq s (mi 383) p) := by unfold f_st1; rw [hpr]; simp only [c0]; rfl
      refine k_priceOf (w := 383) hS hs h383 h0 (by omega) ?_
      simp (disch := omega) only [e_q0, e_nil, e_cons, e_q, e_qf, e_qt, e_af, z_hd, z_mk1, z_lg, z_s1, z_s2, z_kl, z_en, z_kI, z_fv, z_ic, z_c1, z_sh, z_pop, z_rc, z_tgt, z_tsw, z_lsw, z_nw, z_ac, o_kI, o_kL, o_ldi, o_ldl, o_lda, o_sti, o_sta, o_stl, o_inc, o_b2, o_bz, o_l2, o_lz, o_ls, o_lneg, o_i2l, o_l2i, o_lcmp, o_dup, o_dupx1, o_dup2, o_if, o_if2, o_ifnull, o_get, o_put, o_iald, o_zald, o_aald, o_alen, o_iast, o_zast, o_aast, o_new, o_newa, o_call, o_call1, o_callN, o_obj, o_reti, o_retl, o_ret, o_tsw, o_lsw, va_rf_s, va_rf_n, z_u2_s, z_u2_k, z_u2_f, z_uR_f, z_uL_f, e_ix, e_vp, e_lt, e_le, e_eq, e_lt0, e_eq0, e_b0, e_b1, e_10, e_11, true_or, or_true, false_or, nI_add, z_bi_0, z_bi_1, e_bb, z_uR_s, z_uR_k, z_uL_s, z_uL_k, true_and, and_true, and_self, not_true_eq_false, not_false_eq_true, forall_const, Option.toList, List.cons_append, List.nil_append, List.singleton_append, Nat.reduceAdd, Nat.zero_add, Nat.add_zero, Nat.reduceEqDiff, ↓reduceIte, ite_true, ite_false, reduceCtorEq, Int.cast_ofNat_Int, Int.reduceAdd, Int.reduceToNat, ne_eq, false_imp_iff, true_imp_iff, cl_134, bf_134_0, bf_134_62, bf_134_69, bf_134_79, bf_134_115, bf_134_119, bf_134_120, bf_134_168, bf_134_172, bf_134_178, bf_134_223, bf_134_263, bf_134_290, bf_134_332, bf_134_359, bo_134_0, bo_134_62, bo_134_69, bo_134_79, bo_134_115, bo_134_119, bo_134_120, bo_134_168, bo_134_172, bo_134_178, bo_134_223, bo_134_263, bo_134_290, bo_134_332, bo_134_359, hS, hs, hw, hq]
      have hu := z_ru (k := 8 + n) (x := f_price s (mi 373 23) (mi 383) p n) (z_ru0 (g := mi) (w := w))
      refine k_sequenceOf (w := 383) hS (hs.of fun b q1 q2 => z_sw hu (by omega)) h383 (by omega) ?_
      simp (disch := omega) only [e_q0, e_nil, e_cons, e_q, e_qf, e_qt, e_af, z_hd, z_mk1, z_lg, z_s1, z_s2, z_kl, z_en, z_kI, z_fv, z_ic, z_c1, z_sh, z_pop, z_rc, z_tgt, z_tsw, z_lsw, z_nw, z_ac, o_kI, o_kL, o_ldi, o_ldl, o_lda, o_sti, o_sta, o_stl, o_inc, o_b2, o_bz, o_l2, o_lz, o_ls, o_lneg, o_i2l, o_l2i, o_lcmp, o_dup, o_dupx1, o_dup2, o_if, o_if2, o_ifnull, o_get, o_put, o_iald, o_zald, o_aald, o_alen, o_iast, o_zast, o_aast, o_new, o_newa, o_call, o_call1, o_callN, o_obj, o_reti, o_retl, o_ret, o_tsw, o_lsw, va_rf_s, va_rf_n, z_u2_s, z_u2_k, z_u2_f, z_uR_f, z_uL_f, e_ix, e_vp, e_lt, e_le, e_eq, e_lt0, e_eq0, e_b0, e_b1, e_10, e_11, true_or, or_true, false_or, nI_add, z_bi_0, z_bi_1, e_bb, z_uR_s, z_uR_k, z_uL_s, z_uL_k, true_and, and_true, and_self, not_true_eq_false, not_false_eq_true, forall_const, Option.toList, List.cons_append, List.nil_append, List.singleton_append, Nat.reduceAdd, Nat.zero_add, Nat.add_zero, Nat.reduceEqDiff, ↓reduceIte, ite_true, ite_false, reduceCtorEq, Int.cast_ofNat_Int, Int.reduceAdd, Int.reduceToNat, ne_eq, false_imp_iff, true_imp_iff, cl_134, bf_134_0, bf_134_62, bf_134_69, bf_134_79, bf_134_115, bf_134_119, bf_134_120, bf_134_168, bf_134_172, bf_134_178, bf_134_223, bf_134_263, bf_134_290, bf_134_332, bf_134_359, bo_134_0, bo_134_62, bo_134_69, bo_134_79, bo_134_115, bo_134_119, bo_134_120, bo_134_168, bo_134_172, bo_134_178, bo_134_223, bo_134_263, bo_134_290, bo_134_332, bo_134_359, hS, hs, hw, hq]
      have h39 : z_u2 mi w (8 + n) (f_price s (mi 373 23) (mi 383) p n) 383 = mi 383 := z_sw hu (by omega)
      refine loop _ (z_rw (z_ru hu) (z_row3 ?_ ?_ ?_ fun j q1 q2 q3 => ?_)) <;> simp (disch := omega) only [z_ie, z_in, if_true, ite_true, ↓reduceIte, hst, e1]
end
