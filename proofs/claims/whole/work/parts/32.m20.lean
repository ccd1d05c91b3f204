def f_arr (a b : ZW) (k : Nat) : ZW := fun j => if j < k then a j else b j
theorem f_arr_s {a b : ZW} {k : Nat} {v : Int32} (hv : v = a k) : f_set (f_arr a b k) k v = f_arr a b (k + 1) := funext fun j => by
  unfold f_set f_arr
  by_cases q : j = k
  · rw [if_pos q, if_pos (by omega), q, hv]
  · rw [if_neg q]
    by_cases q2 : j < k
    · rw [if_pos q2, if_pos (by omega)]
    · rw [if_neg q2, if_neg (by omega)]
theorem f_arr_0 {a b : ZW} : f_arr a b 0 = b := funext fun j => if_neg (Nat.not_lt_zero _)
/-- the row of a mesh that is read, with k nodes' and l links' numbers -/
def f_mrow (F : Nat → Nat → Int32) (k l : Nat) : ZW := fun i => if 67 ≤ i ∧ i < 67 + k then F 3 (i - 67) else if 40 ≤ i ∧ i < 40 + l then F 6 (i - 40) else if 49 ≤ i ∧ i < 49 + l then F 7 (i - 49) else f_fresh i
theorem f_mrow_k {F : Nat → Nat → Int32} {k : Nat} : f_set (f_mrow F k 0) (67 + k) (F 3 k) = f_mrow F (k + 1) 0 := funext fun i => by
  unfold f_set f_mrow
  by_cases q : i = 67 + k
  · rw [if_pos q, if_pos (show 67 ≤ i ∧ i < 67 + (k + 1) by omega), q, show 67 + k - 67 = k by omega]
  · rw [if_neg q]
    by_cases q2 : 67 ≤ i ∧ i < 67 + k
    · rw [if_pos q2, if_pos (show 67 ≤ i ∧ i < 67 + (k + 1) by omega)]
    · rw [if_neg q2, if_neg (show ¬ (67 ≤ i ∧ i < 67 + (k + 1)) by omega)]
theorem f_mrow_l {F : Nat → Nat → Int32} {n k : Nat} (hk : k < 9) : f_set (f_set (f_mrow F n k) (40 + k) (F 6 k)) (49 + k) (F 7 k) = f_mrow F n (k + 1) := funext fun i => by
  unfold f_set f_mrow
  by_cases q : i = 49 + k
  · rw [if_pos q, if_neg (show ¬ (67 ≤ i ∧ i < 67 + n) by omega), if_neg (show ¬ (40 ≤ i ∧ i < 40 + (k + 1)) by omega), if_pos (show 49 ≤ i ∧ i < 49 + (k + 1) by omega), q, show 49 + k - 49 = k by omega]
  · rw [if_neg q]
    by_cases q1 : i = 40 + k
    · rw [if_pos q1, if_neg (show ¬ (67 ≤ i ∧ i < 67 + n) by omega), if_pos (show 40 ≤ i ∧ i < 40 + (k + 1) by omega), q1, show 40 + k - 40 = k by omega]
    · rw [if_neg q1]
      by_cases q2 : 67 ≤ i ∧ i < 67 + n
      · rw [if_pos q2, if_pos q2]
      · rw [if_neg q2, if_neg q2]
        by_cases q3 : 40 ≤ i ∧ i < 40 + k
        · rw [if_pos q3, if_pos (show 40 ≤ i ∧ i < 40 + (k + 1) by omega)]
        · rw [if_neg q3, if_neg (show ¬ (40 ≤ i ∧ i < 40 + (k + 1)) by omega)]
          by_cases q4 : 49 ≤ i ∧ i < 49 + k
          · rw [if_pos q4, if_pos (show 49 ≤ i ∧ i < 49 + (k + 1) by omega)]
          · rw [if_neg q4, if_neg (show ¬ (49 ≤ i ∧ i < 49 + (k + 1)) by omega)]
def f_mS (A : ZA) (R : ZRd) : Nat → Nat → Int32
  | 0 => f_arr (R.1.2 0) (A.s.2 0) R.1.1.1
  | 1 => f_arr (R.1.2 1) (A.s.2 1) R.1.1.1
  | 2 => f_arr (R.1.2 2) (A.s.2 2) R.1.1.1
  | 3 => f_arr (R.1.2 4) (A.s.2 3) R.1.1.2
  | 4 => f_arr (R.1.2 5) (A.s.2 4) R.1.1.2
  | _ => f_arr (R.1.2 8) (A.s.2 5) R.1.1.2
/-- the object that has read the mesh R -/
def a_read (A : ZA) (R : ZRd) : ZA := ((A.1.1, ((R.1.1, f_mS A R), f_set (f_mrow R.1.2 R.1.1.1 R.1.1.2) 75 R.2.1)), (0, A.H), (fun _ => nI 0, A.K), A.2.2.2)
def a_mesh (A : ZA) (F : Nat → Nat → Int32) (mg : Int32) : Int32 × ZA := if (rd_text A.txt A.len F mg).1 = z_ng 9 then (nI (rd_text A.txt A.len F mg).2.1.1.1, a_read A (rd_text A.txt A.len F mg).2) else (z_ng 3, A)
theorem rd_text_ok {txt : ZW} {len : Nat} {F : Nat → Nat → Int32} {mg : Int32} (h : len ≤ 100) (h2 : (rd_text txt len F mg).1 = z_ng 9) : rd_ok (rd_text txt len F mg).2 ∧ (rd_text txt len F mg).2.2.2.2 = 0 := by
  unfold rd_text at h2 ⊢
  split at h2
  · exact absurd h2 (by rw [z_on_n (by omega)]; exact id)
  · next q =>
    rw [if_neg q]
    exact rd_go_ok _ _ _ rd_0_ok h2 (by omega) (by omega)
section
variable {l : Launch} {G : ZG} {mi : Nat → Nat → Int32} {mr : Nat → Nat → Option Nat} {ml : Nat → Nat → Int64} {T : (Nat → Nat × Nat) × Nat × Nat} {Q : ZR} {A : ZA}
theorem k_mesh (hS : SM T mr) (hM : PA A mi ml) (hW : WA A) (hQ : ∀ f F mg, F = rd_F mi → mg = mi 373 37 → PA (a_mesh A F mg).2 f ml → (∀ c, c < 373 → f c = mi c) → Q (some (.int (a_mesh A F mg).1)) (f, mr, ml, T)) : z_Ok l G m_Model_mesh [.ref 373] (mi, mr, ml, T) Q := by
  unfold a_mesh at hQ
  refine z_okN cz_124.1 (by rw [cl_124]; exact Nat.le_of_ble_eq_true rfl) cz_124.2 (z_run ck_124 5 bf_124_0 ?_)
  simp (disch := omega) only [e_q0, e_nil, e_cons, e_q, e_qf, e_qt, e_af, z_hd, z_mk1, z_lg, z_s1, z_s2, z_kl, z_en, z_kI, z_fv, z_ic, z_c1, z_sh, z_pop, z_rc, z_tgt, z_tsw, z_lsw, z_nw, z_ac, o_kI, o_kL, o_ldi, o_ldl, o_lda, o_sti, o_sta, o_stl, o_inc, o_b2, o_bz, o_l2, o_lz, o_ls, o_lneg, o_i2l, o_l2i, o_lcmp, o_dup, o_dupx1, o_dup2, o_if, o_if2, o_ifnull, o_get, o_put, o_iald, o_zald, o_aald, o_alen, o_iast, o_zast, o_aast, o_new, o_newa, o_call, o_call1, o_callN, o_obj, o_reti, o_retl, o_ret, o_tsw, o_lsw, va_rf_s, va_rf_n, z_u2_s, z_u2_k, z_u2_f, z_uR_f, z_uL_f, e_ix, e_vp, e_lt, e_le, e_eq, e_lt0, e_eq0, e_b0, e_b1, e_10, e_11, true_or, or_true, false_or, nI_add, z_bi_0, z_bi_1, e_bb, z_uR_s, z_uR_k, z_uL_s, z_uL_k, true_and, and_true, and_self, not_true_eq_false, not_false_eq_true, forall_const, Option.toList, List.cons_append, List.nil_append, List.singleton_append, Nat.reduceAdd, Nat.zero_add, Nat.add_zero, Nat.reduceEqDiff, ↓reduceIte, ite_true, ite_false, reduceCtorEq, Int.cast_ofNat_Int, Int.reduceAdd, Int.reduceToNat, ne_eq, false_imp_iff, true_imp_iff, cl_124, bf_124_0, bf_124_12, bf_124_34, bf_124_99, bf_124_101, bf_124_181, bo_124_0, bo_124_12, bo_124_34, bo_124_99, bo_124_101, bo_124_181, hS]
  refine k_readText hS hM fun f F mg eF em f1 f2 => ?_
  have hQ1 := fun g => hQ g F mg eF em
  have rok := rd_text_ok (txt := A.txt) (F := F) (mg := mg) hM.2.1.2.1
  clear hQ
  generalize rd_text A.txt A.len F mg = E at hQ1 rok f1 ⊢
  obtain ⟨e, R⟩ := E
  simp (disch := omega) only [e_q0, e_nil, e_cons, e_q, e_qf, e_qt, e_af, z_hd, z_mk1, z_lg, z_s1, z_s2, z_kl, z_en, z_kI, z_fv, z_ic, z_c1, z_sh, z_pop, z_rc, z_tgt, z_tsw, z_lsw, z_nw, z_ac, o_kI, o_kL, o_ldi, o_ldl, o_lda, o_sti, o_sta, o_stl, o_inc, o_b2, o_bz, o_l2, o_lz, o_ls, o_lneg, o_i2l, o_l2i, o_lcmp, o_dup, o_dupx1, o_dup2, o_if, o_if2, o_ifnull, o_get, o_put, o_iald, o_zald, o_aald, o_alen, o_iast, o_zast, o_aast, o_new, o_newa, o_call, o_call1, o_callN, o_obj, o_reti, o_retl, o_ret, o_tsw, o_lsw, va_rf_s, va_rf_n, z_u2_s, z_u2_k, z_u2_f, z_uR_f, z_uL_f, e_ix, e_vp, e_lt, e_le, e_eq, e_lt0, e_eq0, e_b0, e_b1, e_10, e_11, true_or, or_true, false_or, nI_add, z_bi_0, z_bi_1, e_bb, z_uR_s, z_uR_k, z_uL_s, z_uL_k, true_and, and_true, and_self, not_true_eq_false, not_false_eq_true, forall_const, Option.toList, List.cons_append, List.nil_append, List.singleton_append, Nat.reduceAdd, Nat.zero_add, Nat.add_zero, Nat.reduceEqDiff, ↓reduceIte, ite_true, ite_false, reduceCtorEq, Int.cast_ofNat_Int, Int.reduceAdd, Int.reduceToNat, ne_eq, false_imp_iff, true_imp_iff, cl_124, bf_124_0, bf_124_12, bf_124_34, bf_124_99, bf_124_101, bf_124_181, bo_124_0, bo_124_12, bo_124_34, bo_124_99, bo_124_101, bo_124_181, hS]
  have hMf := hM.rd f2
  have f3 : ∀ c, c < 373 → f c = mi c := fun c hc => f2.1 c (by omega) (by omega)
  refine ⟨fun c => ?_, fun c => ?_⟩
  rotate_left 1
  · simp only [if_neg c] at hQ1
    exact hQ1 f hMf f3
  simp only [if_pos c] at hQ1
  obtain ⟨⟨r1, r2, r3, r4⟩, r5⟩ := rok c
  obtain ⟨⟨p1, p2, p3, p4, p5, p6, p7, p8, p9, p10, p11⟩, p12, p13, p14⟩ := f1
  have r1 : R.1.1.1 ≤ 8 := r1
  have r2 : R.1.1.2 ≤ 9 := r2
  have p1 : f 373 26 = nI R.1.1.1 := p1
  have p2 : f 373 31 = nI R.1.1.2 := p2
  have p12 : f 373 37 = R.2.1 := p12
  rw [p1, p2]
  refine k_fresh hS (by rw [z_u2_f (by omega), z_u2_f (by omega)]; rw [hMf.2.2.1.1]; exact hW.2.1.2.2) fun g g1 g2 => ?_
  have g3 : ∀ c, c ≠ 373 → c ≠ 381 → g c = f c := fun c c1 c2 => by rw [g2 c c2, z_u2_f c1, z_u2_f c1]
  have g4 : ∀ j, j ≠ 2 → j ≠ 6 → g 373 j = f 373 j := fun j c1 c2 => by rw [g2 373 (by omega), z_u2_k c2, z_u2_k c1]
  have g5 : g 373 2 = nI R.1.1.1 := by rw [g2 373 (by omega), z_u2_k (by omega), z_u2_s]
  have g6 : g 373 6 = nI R.1.1.2 := by rw [g2 373 (by omega), z_u2_s]
  simp (disch := omega) only [e_q0, e_nil, e_cons, e_q, e_qf, e_qt, e_af, z_hd, z_mk1, z_lg, z_s1, z_s2, z_kl, z_en, z_kI, z_fv, z_ic, z_c1, z_sh, z_pop, z_rc, z_tgt, z_tsw, z_lsw, z_nw, z_ac, o_kI, o_kL, o_ldi, o_ldl, o_lda, o_sti, o_sta, o_stl, o_inc, o_b2, o_bz, o_l2, o_lz, o_ls, o_lneg, o_i2l, o_l2i, o_lcmp, o_dup, o_dupx1, o_dup2, o_if, o_if2, o_ifnull, o_get, o_put, o_iald, o_zald, o_aald, o_alen, o_iast, o_zast, o_aast, o_new, o_newa, o_call, o_call1, o_callN, o_obj, o_reti, o_retl, o_ret, o_tsw, o_lsw, va_rf_s, va_rf_n, z_u2_s, z_u2_k, z_u2_f, z_uR_f, z_uL_f, e_ix, e_vp, e_lt, e_le, e_eq, e_lt0, e_eq0, e_b0, e_b1, e_10, e_11, true_or, or_true, false_or, nI_add, z_bi_0, z_bi_1, e_bb, z_uR_s, z_uR_k, z_uL_s, z_uL_k, true_and, and_true, and_self, not_true_eq_false, not_false_eq_true, forall_const, Option.toList, List.cons_append, List.nil_append, List.singleton_append, Nat.reduceAdd, Nat.zero_add, Nat.add_zero, Nat.reduceEqDiff, ↓reduceIte, ite_true, ite_false, reduceCtorEq, Int.cast_ofNat_Int, Int.reduceAdd, Int.reduceToNat, ne_eq, false_imp_iff, true_imp_iff, cl_124, bf_124_0, bf_124_12, bf_124_34, bf_124_99, bf_124_101, bf_124_181, bo_124_0, bo_124_12, bo_124_34, bo_124_99, bo_124_101, bo_124_181, hS]
  refine z_for (P := fun k w => ((∀ c, c ≠ 375 → c ≠ 376 → c ≠ 377 → c ≠ 381 → w c = g c) ∧ w 375 = f_arr (R.1.2 0) (f 375) k ∧ w 376 = f_arr (R.1.2 1) (f 376) k ∧ w 377 = f_arr (R.1.2 2) (f 377) k ∧ w 381 = f_mrow R.1.2 k 0) → z_W l G 124 (T.2.1, T.2.2) (fun v M' => Q v M' ∧ M'.2.2.2 = T) 34 [some (.ref 373), some (.int (nI k))] [] (w, mr, ml, T)) R.1.1.1 (fun w hw => ?_) (fun k hk ih w hw => ?_) 0 (by omega) g ⟨fun _ _ _ _ _ => rfl, by rw [f_arr_0]; exact g3 _ (by omega) (by omega), by rw [f_arr_0]; exact g3 _ (by omega) (by omega), by rw [f_arr_0]; exact g3 _ (by omega) (by omega), by rw [g1]; funext i; exact ((if_neg (by omega)).trans ((if_neg (by omega)).trans (if_neg (by omega)))).symm⟩
  · obtain ⟨w1, w2, w3, w4, w5⟩ := hw
    have e1 : w 373 2 = nI R.1.1.1 := by rw [w1 373 (by omega) (by omega) (by omega) (by omega)]; exact g5
    refine z_run ck_124 5 bf_124_34 ?_
    simp (disch := omega) only [e_q0, e_nil, e_cons, e_q, e_qf, e_qt, e_af, z_hd, z_mk1, z_lg, z_s1, z_s2, z_kl, z_en, z_kI, z_fv, z_ic, z_c1, z_sh, z_pop, z_rc, z_tgt, z_tsw, z_lsw, z_nw, z_ac, o_kI, o_kL, o_ldi, o_ldl, o_lda, o_sti, o_sta, o_stl, o_inc, o_b2, o_bz, o_l2, o_lz, o_ls, o_lneg, o_i2l, o_l2i, o_lcmp, o_dup, o_dupx1, o_dup2, o_if, o_if2, o_ifnull, o_get, o_put, o_iald, o_zald, o_aald, o_alen, o_iast, o_zast, o_aast, o_new, o_newa, o_call, o_call1, o_callN, o_obj, o_reti, o_retl, o_ret, o_tsw, o_lsw, va_rf_s, va_rf_n, z_u2_s, z_u2_k, z_u2_f, z_uR_f, z_uL_f, e_ix, e_vp, e_lt, e_le, e_eq, e_lt0, e_eq0, e_b0, e_b1, e_10, e_11, true_or, or_true, false_or, nI_add, z_bi_0, z_bi_1, e_bb, z_uR_s, z_uR_k, z_uL_s, z_uL_k, true_and, and_true, and_self, not_true_eq_false, not_false_eq_true, forall_const, Option.toList, List.cons_append, List.nil_append, List.singleton_append, Nat.reduceAdd, Nat.zero_add, Nat.add_zero, Nat.reduceEqDiff, ↓reduceIte, ite_true, ite_false, reduceCtorEq, Int.cast_ofNat_Int, Int.reduceAdd, Int.reduceToNat, ne_eq, false_imp_iff, true_imp_iff, cl_124, bf_124_0, bf_124_12, bf_124_34, bf_124_99, bf_124_101, bf_124_181, bo_124_0, bo_124_12, bo_124_34, bo_124_99, bo_124_101, bo_124_181, hS, e1, Nat.le_refl]
    refine z_for (P := fun k v => ((∀ c, c ≠ 378 → c ≠ 379 → c ≠ 380 → c ≠ 381 → v c = w c) ∧ v 378 = f_arr (R.1.2 4) (f 378) k ∧ v 379 = f_arr (R.1.2 5) (f 379) k ∧ v 380 = f_arr (R.1.2 8) (f 380) k ∧ v 381 = f_mrow R.1.2 R.1.1.1 k) → z_W l G 124 (T.2.1, T.2.2) (fun v M' => Q v M' ∧ M'.2.2.2 = T) 101 [some (.ref 373), some (.int (nI k))] [] (v, mr, ml, T)) R.1.1.2 (fun v hv => ?_) (fun k hk ih v hv => ?_) 0 (by omega) w ⟨fun _ _ _ _ _ => rfl, by rw [f_arr_0, w1 _ (by omega) (by omega) (by omega) (by omega)]; exact g3 _ (by omega) (by omega), by rw [f_arr_0, w1 _ (by omega) (by omega) (by omega) (by omega)]; exact g3 _ (by omega) (by omega), by rw [f_arr_0, w1 _ (by omega) (by omega) (by omega) (by omega)]; exact g3 _ (by omega) (by omega), w5⟩
    · obtain ⟨v1, v2, v3, v4, v5⟩ := hv
      have e2 : v 373 6 = nI R.1.1.2 := by rw [v1 373 (by omega) (by omega) (by omega) (by omega), w1 373 (by omega) (by omega) (by omega) (by omega)]; exact g6
      refine z_run ck_124 5 bf_124_101 ?_
      simp (disch := omega) only [e_q0, e_nil, e_cons, e_q, e_qf, e_qt, e_af, z_hd, z_mk1, z_lg, z_s1, z_s2, z_kl, z_en, z_kI, z_fv, z_ic, z_c1, z_sh, z_pop, z_rc, z_tgt, z_tsw, z_lsw, z_nw, z_ac, o_kI, o_kL, o_ldi, o_ldl, o_lda, o_sti, o_sta, o_stl, o_inc, o_b2, o_bz, o_l2, o_lz, o_ls, o_lneg, o_i2l, o_l2i, o_lcmp, o_dup, o_dupx1, o_dup2, o_if, o_if2, o_ifnull, o_get, o_put, o_iald, o_zald, o_aald, o_alen, o_iast, o_zast, o_aast, o_new, o_newa, o_call, o_call1, o_callN, o_obj, o_reti, o_retl, o_ret, o_tsw, o_lsw, va_rf_s, va_rf_n, z_u2_s, z_u2_k, z_u2_f, z_uR_f, z_uL_f, e_ix, e_vp, e_lt, e_le, e_eq, e_lt0, e_eq0, e_b0, e_b1, e_10, e_11, true_or, or_true, false_or, nI_add, z_bi_0, z_bi_1, e_bb, z_uR_s, z_uR_k, z_uL_s, z_uL_k, true_and, and_true, and_self, not_true_eq_false, not_false_eq_true, forall_const, Option.toList, List.cons_append, List.nil_append, List.singleton_append, Nat.reduceAdd, Nat.zero_add, Nat.add_zero, Nat.reduceEqDiff, ↓reduceIte, ite_true, ite_false, reduceCtorEq, Int.cast_ofNat_Int, Int.reduceAdd, Int.reduceToNat, ne_eq, false_imp_iff, true_imp_iff, cl_124, bf_124_0, bf_124_12, bf_124_34, bf_124_99, bf_124_101, bf_124_181, bo_124_0, bo_124_12, bo_124_34, bo_124_99, bo_124_101, bo_124_181, hS, e2, Nat.le_refl]
      have vA : ∀ c, c ≠ 373 → c ≠ 375 → c ≠ 376 → c ≠ 377 → c ≠ 378 → c ≠ 379 → c ≠ 380 → c ≠ 381 → v c = f c := fun c c1 c2 c3 c4 c5 c6 c7 c8 => by rw [v1 c c5 c6 c7 c8, w1 c c2 c3 c4 c8, g3 c c1 c8]
      have vB : v 373 = g 373 := by rw [v1 373 (by omega) (by omega) (by omega) (by omega), w1 373 (by omega) (by omega) (by omega) (by omega)]
      have e3 : v 373 2 = nI R.1.1.1 := by rw [vB]; exact g5
      have e4 : v 373 37 = R.2.1 := by rw [vB, g4 _ (by omega) (by omega)]; exact p12
      rw [e3, e4]
      have hf := hMf.2.2.1
      refine hQ1 _ ?_ fun c hc => by simp (disch := omega) only [z_u2_f, vA]; exact f3 c hc
      refine ⟨⟨⟨?_, ?_, ?_, ?_, ?_, ?_, ?_, ?_⟩, r1, r2⟩, ⟨?_, hMf.2.1.2.1, ?_⟩, ⟨?_, ?_, ?_, ?_⟩, ⟨z_u2_a (by omega) |>.trans (z_u2_a (by omega) |>.trans z_u2_s), Nat.zero_le _, ?_⟩, ?_, ?_, hMf.2.2.2.2.2.2⟩
      · simp (disch := omega) only [z_u2_f, z_u2_k]; exact e3
      · simp (disch := omega) only [z_u2_f, z_u2_k]; exact e2
      · simp (disch := omega) only [z_u2_f]
        rw [v1 _ (by omega) (by omega) (by omega) (by omega), w2, hMf.1.1.2.2.1]
        rfl
      · simp (disch := omega) only [z_u2_f]
        rw [v1 _ (by omega) (by omega) (by omega) (by omega), w3, hMf.1.1.2.2.2.1]
        rfl
      · simp (disch := omega) only [z_u2_f]
        rw [v1 _ (by omega) (by omega) (by omega) (by omega), w4, hMf.1.1.2.2.2.2.1]
        rfl
      · simp (disch := omega) only [z_u2_f]
        rw [v2, hMf.1.1.2.2.2.2.2.1]
        rfl
      · simp (disch := omega) only [z_u2_f]
        rw [v3, hMf.1.1.2.2.2.2.2.2.1]
        rfl
      · simp (disch := omega) only [z_u2_f]
        rw [v4, hMf.1.1.2.2.2.2.2.2.2]
        rfl
      · simp (disch := omega) only [z_u2_f, z_u2_k]
        rw [vB, g4 _ (by omega) (by omega)]; exact hMf.2.1.1
      · intro j hj
        simp (disch := omega) only [z_u2_f, vA]
        exact hMf.2.1.2.2 j hj
      · simp (disch := omega) only [z_u2_z, Nat.reduceEqDiff, ↓reduceIte, v5]
        rfl
      · simp (disch := omega) only [z_u2_f, vA]
        exact hf.2.1
      · simp (disch := omega) only [z_u2_f, vA]
        exact hf.2.2.1
      · simp (disch := omega) only [z_u2_f, z_u2_k]
        rw [vB, g4 _ (by omega) (by omega)]; exact hf.2.2.2
      · obtain ⟨p, q1, q2, _⟩ := hMf.2.2.2.1.2.2
        exact ⟨p, q1, by simp (disch := omega) only [z_u2_f, z_u2_k]; rw [vB, g4 _ (by omega) (by omega)]; exact q2, fun j hj => absurd hj (Nat.not_lt_zero _)⟩
      · intro t ht
        refine ⟨?_, fun k hk => ?_⟩
        · show _ = nI 0
          by_cases q : t = 1
          · rw [q, z_u2_s]
          · rw [z_u2_k q, show t = 0 by omega, z_u2_s]
        · simp (disch := omega) only [z_u2_f, vA]
          exact (hMf.2.2.2.2.1 t ht).2 k hk
      · have hO := hMf.2.2.2.2.2.1
        refine ⟨?_, hO.2.1, fun j hj => ?_⟩
        · simp (disch := omega) only [z_u2_f, z_u2_k]
          rw [vB, g4 _ (by omega) (by omega)]; exact hO.1
        · simp (disch := omega) only [z_u2_f, vA]
          exact hO.2.2 j hj
    · obtain ⟨v1, v2, v3, v4, v5⟩ := hv
      have hk' := Nat.not_le.mpr hk
      have e2 : v 373 6 = nI R.1.1.2 := by rw [v1 373 (by omega) (by omega) (by omega) (by omega), w1 373 (by omega) (by omega) (by omega) (by omega)]; exact g6
      refine z_run ck_124 5 bf_124_101 ?_
      simp (disch := omega) only [e_q0, e_nil, e_cons, e_q, e_qf, e_qt, e_af, z_hd, z_mk1, z_lg, z_s1, z_s2, z_kl, z_en, z_kI, z_fv, z_ic, z_c1, z_sh, z_pop, z_rc, z_tgt, z_tsw, z_lsw, z_nw, z_ac, o_kI, o_kL, o_ldi, o_ldl, o_lda, o_sti, o_sta, o_stl, o_inc, o_b2, o_bz, o_l2, o_lz, o_ls, o_lneg, o_i2l, o_l2i, o_lcmp, o_dup, o_dupx1, o_dup2, o_if, o_if2, o_ifnull, o_get, o_put, o_iald, o_zald, o_aald, o_alen, o_iast, o_zast, o_aast, o_new, o_newa, o_call, o_call1, o_callN, o_obj, o_reti, o_retl, o_ret, o_tsw, o_lsw, va_rf_s, va_rf_n, z_u2_s, z_u2_k, z_u2_f, z_uR_f, z_uL_f, e_ix, e_vp, e_lt, e_le, e_eq, e_lt0, e_eq0, e_b0, e_b1, e_10, e_11, true_or, or_true, false_or, nI_add, z_bi_0, z_bi_1, e_bb, z_uR_s, z_uR_k, z_uL_s, z_uL_k, true_and, and_true, and_self, not_true_eq_false, not_false_eq_true, forall_const, Option.toList, List.cons_append, List.nil_append, List.singleton_append, Nat.reduceAdd, Nat.zero_add, Nat.add_zero, Nat.reduceEqDiff, ↓reduceIte, ite_true, ite_false, reduceCtorEq, Int.cast_ofNat_Int, Int.reduceAdd, Int.reduceToNat, ne_eq, false_imp_iff, true_imp_iff, cl_124, bf_124_0, bf_124_12, bf_124_34, bf_124_99, bf_124_101, bf_124_181, bo_124_0, bo_124_12, bo_124_34, bo_124_99, bo_124_101, bo_124_181, hS, e2, hk']
      have vF : ∀ c, 392 ≤ c → v c = f c := fun c hc => by rw [v1 c (by omega) (by omega) (by omega) (by omega), w1 c (by omega) (by omega) (by omega) (by omega), g3 c (by omega) (by omega)]
      refine ih _ ⟨fun c c1 c2 c3 c4 => by simp (disch := omega) only [z_u2_f, v1], ?_, ?_, ?_, ?_⟩
      · simp (disch := omega) only [z_u2_z, Nat.reduceEqDiff, ↓reduceIte, v2]
        exact f_arr_s (by rw [vF 396 (by omega), p7])
      · simp (disch := omega) only [z_u2_z, Nat.reduceEqDiff, ↓reduceIte, v3]
        exact f_arr_s (by rw [vF 397 (by omega), p8])
      · simp (disch := omega) only [z_u2_z, Nat.reduceEqDiff, ↓reduceIte, v4]
        exact f_arr_s (by rw [vF 400 (by omega), p11])
      · simp (disch := omega) only [z_u2_z, Nat.reduceEqDiff, ↓reduceIte, v5]
        rw [vF 398 (by omega), vF 399 (by omega), p9, p10]
        exact f_mrow_l (by omega)
  · obtain ⟨w1, w2, w3, w4, w5⟩ := hw
    have hk' := Nat.not_le.mpr hk
    have e1 : w 373 2 = nI R.1.1.1 := by rw [w1 373 (by omega) (by omega) (by omega) (by omega)]; exact g5
    refine z_run ck_124 5 bf_124_34 ?_
    simp (disch := omega) only [e_q0, e_nil, e_cons, e_q, e_qf, e_qt, e_af, z_hd, z_mk1, z_lg, z_s1, z_s2, z_kl, z_en, z_kI, z_fv, z_ic, z_c1, z_sh, z_pop, z_rc, z_tgt, z_tsw, z_lsw, z_nw, z_ac, o_kI, o_kL, o_ldi, o_ldl, o_lda, o_sti, o_sta, o_stl, o_inc, o_b2, o_bz, o_l2, o_lz, o_ls, o_lneg, o_i2l, o_l2i, o_lcmp, o_dup, o_dupx1, o_dup2, o_if, o_if2, o_ifnull, o_get, o_put, o_iald, o_zald, o_aald, o_alen, o_iast, o_zast, o_aast, o_new, o_newa, o_call, o_call1, o_callN, o_obj, o_reti, o_retl, o_ret, o_tsw, o_lsw, va_rf_s, va_rf_n, z_u2_s, z_u2_k, z_u2_f, z_uR_f, z_uL_f, e_ix, e_vp, e_lt, e_le, e_eq, e_lt0, e_eq0, e_b0, e_b1, e_10, e_11, true_or, or_true, false_or, nI_add, z_bi_0, z_bi_1, e_bb, z_uR_s, z_uR_k, z_uL_s, z_uL_k, true_and, and_true, and_self, not_true_eq_false, not_false_eq_true, forall_const, Option.toList, List.cons_append, List.nil_append, List.singleton_append, Nat.reduceAdd, Nat.zero_add, Nat.add_zero, Nat.reduceEqDiff, ↓reduceIte, ite_true, ite_false, reduceCtorEq, Int.cast_ofNat_Int, Int.reduceAdd, Int.reduceToNat, ne_eq, false_imp_iff, true_imp_iff, cl_124, bf_124_0, bf_124_12, bf_124_34, bf_124_99, bf_124_101, bf_124_181, bo_124_0, bo_124_12, bo_124_34, bo_124_99, bo_124_101, bo_124_181, hS, e1, hk']
    have wF : ∀ c, 392 ≤ c → w c = f c := fun c hc => by rw [w1 c (by omega) (by omega) (by omega) (by omega), g3 c (by omega) (by omega)]
    refine ih _ ⟨fun c c1 c2 c3 c4 => by simp (disch := omega) only [z_u2_f, w1], ?_, ?_, ?_, ?_⟩
    · simp (disch := omega) only [z_u2_z, Nat.reduceEqDiff, ↓reduceIte, w2]
      exact f_arr_s (by rw [wF 392 (by omega), p3])
    · simp (disch := omega) only [z_u2_z, Nat.reduceEqDiff, ↓reduceIte, w3]
      exact f_arr_s (by rw [wF 393 (by omega), p4])
    · simp (disch := omega) only [z_u2_z, Nat.reduceEqDiff, ↓reduceIte, w4]
      exact f_arr_s (by rw [wF 394 (by omega), p5])
    · simp (disch := omega) only [z_u2_z, Nat.reduceEqDiff, ↓reduceIte, w5]
      rw [wF 395 (by omega), p6]
      exact f_mrow_k
end
