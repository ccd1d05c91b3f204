section
variable {l : Launch} {G : ZG} {mi : Nat → Nat → Int32} {mr : Nat → Nat → Option Nat} {ml : Nat → Nat → Int64} {T : (Nat → Nat × Nat) × Nat × Nat} {Q : ZR} {txt : ZW} {len k : Nat} {R : ZRd} {F : Nat → Nat → Int32}
theorem x_joinsR {L : Nat} {b c : Int32} (hT : T.1 L = (1, 1)) (h : Q (some (.int (z_bi ((decide (mi L 0 = b) && decide (mi L 1 = c)) || (decide (mi L 0 = c) && decide (mi L 1 = b)))))) (mi, mr, ml, T)) : z_Ok l G m_Link_joins [.ref L, .int b, .int c] (mi, mr, ml, T) Q := by
  refine z_okN cz_10.1 (by rw [cl_10]; exact Nat.le_of_ble_eq_true rfl) cz_10.2 (z_run ck_10 6 bf_10_0 ?_)
  simp (disch := omega) only [e_q0, e_nil, e_cons, e_q, e_qf, e_qt, e_af, z_hd, z_mk1, z_lg, z_s1, z_s2, z_kl, z_en, z_kI, z_fv, z_ic, z_c1, z_sh, z_pop, z_rc, z_tgt, z_tsw, z_lsw, z_nw, z_ac, o_kI, o_kL, o_ldi, o_ldl, o_lda, o_sti, o_sta, o_stl, o_inc, o_b2, o_bz, o_l2, o_lz, o_ls, o_lneg, o_i2l, o_l2i, o_lcmp, o_dup, o_dupx1, o_dup2, o_if, o_if2, o_ifnull, o_get, o_put, o_iald, o_zald, o_aald, o_alen, o_iast, o_zast, o_aast, o_new, o_newa, o_call, o_call1, o_callN, o_obj, o_reti, o_retl, o_ret, o_tsw, o_lsw, va_rf_s, va_rf_n, z_u2_s, z_u2_k, z_u2_f, z_uR_f, z_uL_f, e_ix, e_vp, e_lt, e_le, e_eq, e_lt0, e_eq0, e_b0, e_b1, e_10, e_11, true_or, or_true, false_or, nI_add, z_bi_0, z_bi_1, e_bb, z_uR_s, z_uR_k, z_uL_s, z_uL_k, true_and, and_true, and_self, not_true_eq_false, not_false_eq_true, forall_const, Option.toList, List.cons_append, List.nil_append, List.singleton_append, Nat.reduceAdd, Nat.zero_add, Nat.add_zero, Nat.reduceEqDiff, ↓reduceIte, ite_true, ite_false, reduceCtorEq, Int.cast_ofNat_Int, Int.reduceAdd, Int.reduceToNat, ne_eq, false_imp_iff, true_imp_iff, cl_10, bf_10_0, bf_10_16, bf_10_32, bf_10_36, bf_10_37, bo_10_0, bo_10_16, bo_10_32, bo_10_36, bo_10_37, hT]
  refine ⟨fun c1 => ⟨fun c2 => z_f1 h (by simp [c1, c2]), fun c2 => ⟨fun c3 => ⟨fun c4 => z_f1 h (by simp [c3, c4]), fun c4 => z_f0 h (by simp [c2, c4])⟩, fun c3 => z_f0 h (by simp [c2, c3])⟩⟩, fun c1 => ⟨fun c3 => ⟨fun c4 => z_f1 h (by simp [c3, c4]), fun c4 => z_f0 h (by simp [c1, c4])⟩, fun c3 => z_f0 h (by simp [c1, c3])⟩⟩
theorem f_lkd_up {a b : Nat} : ∀ d k, f_lkd F a b k = true → f_lkd F a b (k + d) = true
  | 0, k, h => h
  | d + 1, k, h => by
    rw [← Nat.add_assoc]
    unfold f_lkd
    rw [f_lkd_up d k h]
    rfl
theorem x_linkBetweenR {a b n : Nat} (hS : SC T mr) (hc : mi 25 3 = nI n) (hn : n ≤ 9) (hl : ∀ k, k < n → mi (25 + 11 + k) 0 = F 4 k ∧ mi (25 + 11 + k) 1 = F 5 k)
    (h0 : f_lkd F a b n = false → Q (some (.int (z_ng 9))) (mi, mr, ml, T)) (h1 : ∀ j, j < n → f_lkd F a b n = true → Q (some (.int (nI j))) (mi, mr, ml, T)) : z_Ok l G m_Mesh_linkBetween [.ref 25, .int (nI a), .int (nI b)] (mi, mr, ml, T) Q := by
  have s25 := hS.t
  refine z_okN cz_20.1 (by rw [cl_20]; exact Nat.le_of_ble_eq_true rfl) cz_20.2 (z_run ck_20 4 bf_20_0 ?_)
  simp (disch := omega) only [e_q0, e_nil, e_cons, e_q, e_qf, e_qt, e_af, z_hd, z_mk1, z_lg, z_s1, z_s2, z_kl, z_en, z_kI, z_fv, z_ic, z_c1, z_sh, z_pop, z_rc, z_tgt, z_tsw, z_lsw, z_nw, z_ac, o_kI, o_kL, o_ldi, o_ldl, o_lda, o_sti, o_sta, o_stl, o_inc, o_b2, o_bz, o_l2, o_lz, o_ls, o_lneg, o_i2l, o_l2i, o_lcmp, o_dup, o_dupx1, o_dup2, o_if, o_if2, o_ifnull, o_get, o_put, o_iald, o_zald, o_aald, o_alen, o_iast, o_zast, o_aast, o_new, o_newa, o_call, o_call1, o_callN, o_obj, o_reti, o_retl, o_ret, o_tsw, o_lsw, va_rf_s, va_rf_n, z_u2_s, z_u2_k, z_u2_f, z_uR_f, z_uL_f, e_ix, e_vp, e_lt, e_le, e_eq, e_lt0, e_eq0, e_b0, e_b1, e_10, e_11, true_or, or_true, false_or, nI_add, z_bi_0, z_bi_1, e_bb, z_uR_s, z_uR_k, z_uL_s, z_uL_k, true_and, and_true, and_self, not_true_eq_false, not_false_eq_true, forall_const, Option.toList, List.cons_append, List.nil_append, List.singleton_append, Nat.reduceAdd, Nat.zero_add, Nat.add_zero, Nat.reduceEqDiff, ↓reduceIte, ite_true, ite_false, reduceCtorEq, Int.cast_ofNat_Int, Int.reduceAdd, Int.reduceToNat, ne_eq, false_imp_iff, true_imp_iff, cl_20, bf_20_0, bf_20_2, bf_20_26, bf_20_32, bo_20_0, bo_20_2, bo_20_26, bo_20_32, s25]
  refine z_for (α := Unit) (P := fun k _ => f_lkd F a b k = false → z_W l G 20 (T.2.1, T.2.2) (fun v M' => Q v M' ∧ M'.2.2.2 = T) 2 [some (.ref 25), some (.int (nI a)), some (.int (nI b)), some (.int (nI k))] [] (mi, mr, ml, T)) n (fun _ hh => ?_) (fun k hk ih _ hh => ?_) 0 (by omega) () rfl
  · refine z_run ck_20 4 bf_20_2 ?_
    simp (disch := omega) only [e_q0, e_nil, e_cons, e_q, e_qf, e_qt, e_af, z_hd, z_mk1, z_lg, z_s1, z_s2, z_kl, z_en, z_kI, z_fv, z_ic, z_c1, z_sh, z_pop, z_rc, z_tgt, z_tsw, z_lsw, z_nw, z_ac, o_kI, o_kL, o_ldi, o_ldl, o_lda, o_sti, o_sta, o_stl, o_inc, o_b2, o_bz, o_l2, o_lz, o_ls, o_lneg, o_i2l, o_l2i, o_lcmp, o_dup, o_dupx1, o_dup2, o_if, o_if2, o_ifnull, o_get, o_put, o_iald, o_zald, o_aald, o_alen, o_iast, o_zast, o_aast, o_new, o_newa, o_call, o_call1, o_callN, o_obj, o_reti, o_retl, o_ret, o_tsw, o_lsw, va_rf_s, va_rf_n, z_u2_s, z_u2_k, z_u2_f, z_uR_f, z_uL_f, e_ix, e_vp, e_lt, e_le, e_eq, e_lt0, e_eq0, e_b0, e_b1, e_10, e_11, true_or, or_true, false_or, nI_add, z_bi_0, z_bi_1, e_bb, z_uR_s, z_uR_k, z_uL_s, z_uL_k, true_and, and_true, and_self, not_true_eq_false, not_false_eq_true, forall_const, Option.toList, List.cons_append, List.nil_append, List.singleton_append, Nat.reduceAdd, Nat.zero_add, Nat.add_zero, Nat.reduceEqDiff, ↓reduceIte, ite_true, ite_false, reduceCtorEq, Int.cast_ofNat_Int, Int.reduceAdd, Int.reduceToNat, ne_eq, false_imp_iff, true_imp_iff, cl_20, bf_20_0, bf_20_2, bf_20_26, bf_20_32, bo_20_0, bo_20_2, bo_20_26, bo_20_32, s25, hc, Nat.le_refl]
    exact h0 hh
  · have hk' := Nat.not_le.mpr hk
    have q1 : T.1 (36 + k) = (1, 1) ∧ mr 35 k = some (36 + k) := hS.2.1.2.2.2 k (by omega)
    have q2 : mi (36 + k) 0 = F 4 k ∧ mi (36 + k) 1 = F 5 k := hl k hk
    have e : f_lkd F a b (k + 1) = ((decide (F 4 k = nI a) && decide (F 5 k = nI b)) || (decide (F 4 k = nI b) && decide (F 5 k = nI a))) := by
      show (f_lkd F a b k || _) = _
      rw [hh, Bool.false_or]
    refine z_run ck_20 4 bf_20_2 ?_
    simp (disch := omega) only [e_q0, e_nil, e_cons, e_q, e_qf, e_qt, e_af, z_hd, z_mk1, z_lg, z_s1, z_s2, z_kl, z_en, z_kI, z_fv, z_ic, z_c1, z_sh, z_pop, z_rc, z_tgt, z_tsw, z_lsw, z_nw, z_ac, o_kI, o_kL, o_ldi, o_ldl, o_lda, o_sti, o_sta, o_stl, o_inc, o_b2, o_bz, o_l2, o_lz, o_ls, o_lneg, o_i2l, o_l2i, o_lcmp, o_dup, o_dupx1, o_dup2, o_if, o_if2, o_ifnull, o_get, o_put, o_iald, o_zald, o_aald, o_alen, o_iast, o_zast, o_aast, o_new, o_newa, o_call, o_call1, o_callN, o_obj, o_reti, o_retl, o_ret, o_tsw, o_lsw, va_rf_s, va_rf_n, z_u2_s, z_u2_k, z_u2_f, z_uR_f, z_uL_f, e_ix, e_vp, e_lt, e_le, e_eq, e_lt0, e_eq0, e_b0, e_b1, e_10, e_11, true_or, or_true, false_or, nI_add, z_bi_0, z_bi_1, e_bb, z_uR_s, z_uR_k, z_uL_s, z_uL_k, true_and, and_true, and_self, not_true_eq_false, not_false_eq_true, forall_const, Option.toList, List.cons_append, List.nil_append, List.singleton_append, Nat.reduceAdd, Nat.zero_add, Nat.add_zero, Nat.reduceEqDiff, ↓reduceIte, ite_true, ite_false, reduceCtorEq, Int.cast_ofNat_Int, Int.reduceAdd, Int.reduceToNat, ne_eq, false_imp_iff, true_imp_iff, cl_20, bf_20_0, bf_20_2, bf_20_26, bf_20_32, bo_20_0, bo_20_2, bo_20_26, bo_20_32, s25, hc, hk', q1, z_t5]
    refine x_joinsR q1.1 ?_
    rw [q2.1, q2.2, ← e]
    cases q : f_lkd F a b (k + 1) with
    | true =>
      have w := f_lkd_up (n - (k + 1)) (k + 1) q
      rw [show k + 1 + (n - (k + 1)) = n by omega] at w
      have w := h1 k hk w
      simp (disch := omega) only [e_q0, e_nil, e_cons, e_q, e_qf, e_qt, e_af, z_hd, z_mk1, z_lg, z_s1, z_s2, z_kl, z_en, z_kI, z_fv, z_ic, z_c1, z_sh, z_pop, z_rc, z_tgt, z_tsw, z_lsw, z_nw, z_ac, o_kI, o_kL, o_ldi, o_ldl, o_lda, o_sti, o_sta, o_stl, o_inc, o_b2, o_bz, o_l2, o_lz, o_ls, o_lneg, o_i2l, o_l2i, o_lcmp, o_dup, o_dupx1, o_dup2, o_if, o_if2, o_ifnull, o_get, o_put, o_iald, o_zald, o_aald, o_alen, o_iast, o_zast, o_aast, o_new, o_newa, o_call, o_call1, o_callN, o_obj, o_reti, o_retl, o_ret, o_tsw, o_lsw, va_rf_s, va_rf_n, z_u2_s, z_u2_k, z_u2_f, z_uR_f, z_uL_f, e_ix, e_vp, e_lt, e_le, e_eq, e_lt0, e_eq0, e_b0, e_b1, e_10, e_11, true_or, or_true, false_or, nI_add, z_bi_0, z_bi_1, e_bb, z_uR_s, z_uR_k, z_uL_s, z_uL_k, true_and, and_true, and_self, not_true_eq_false, not_false_eq_true, forall_const, Option.toList, List.cons_append, List.nil_append, List.singleton_append, Nat.reduceAdd, Nat.zero_add, Nat.add_zero, Nat.reduceEqDiff, ↓reduceIte, ite_true, ite_false, reduceCtorEq, Int.cast_ofNat_Int, Int.reduceAdd, Int.reduceToNat, ne_eq, false_imp_iff, true_imp_iff, cl_20, bf_20_0, bf_20_2, bf_20_26, bf_20_32, bo_20_0, bo_20_2, bo_20_26, bo_20_32, z_biT]
      exact w
    | false =>
      simp (disch := omega) only [e_q0, e_nil, e_cons, e_q, e_qf, e_qt, e_af, z_hd, z_mk1, z_lg, z_s1, z_s2, z_kl, z_en, z_kI, z_fv, z_ic, z_c1, z_sh, z_pop, z_rc, z_tgt, z_tsw, z_lsw, z_nw, z_ac, o_kI, o_kL, o_ldi, o_ldl, o_lda, o_sti, o_sta, o_stl, o_inc, o_b2, o_bz, o_l2, o_lz, o_ls, o_lneg, o_i2l, o_l2i, o_lcmp, o_dup, o_dupx1, o_dup2, o_if, o_if2, o_ifnull, o_get, o_put, o_iald, o_zald, o_aald, o_alen, o_iast, o_zast, o_aast, o_new, o_newa, o_call, o_call1, o_callN, o_obj, o_reti, o_retl, o_ret, o_tsw, o_lsw, va_rf_s, va_rf_n, z_u2_s, z_u2_k, z_u2_f, z_uR_f, z_uL_f, e_ix, e_vp, e_lt, e_le, e_eq, e_lt0, e_eq0, e_b0, e_b1, e_10, e_11, true_or, or_true, false_or, nI_add, z_bi_0, z_bi_1, e_bb, z_uR_s, z_uR_k, z_uL_s, z_uL_k, true_and, and_true, and_self, not_true_eq_false, not_false_eq_true, forall_const, Option.toList, List.cons_append, List.nil_append, List.singleton_append, Nat.reduceAdd, Nat.zero_add, Nat.add_zero, Nat.reduceEqDiff, ↓reduceIte, ite_true, ite_false, reduceCtorEq, Int.cast_ofNat_Int, Int.reduceAdd, Int.reduceToNat, ne_eq, false_imp_iff, true_imp_iff, cl_20, bf_20_0, bf_20_2, bf_20_26, bf_20_32, bo_20_0, bo_20_2, bo_20_26, bo_20_32, z_biF]
      exact ih () q
theorem x_deg_dg {n l : Nat} {a : Nat} : ∀ k, x_deg ((n, l), fun i => F (i + 1)) (nI a) k = x_dg F a k
  | 0 => rfl
  | k + 1 => by
    unfold x_deg x_dg
    rw [x_deg_dg k]
theorem x_pairs : ∀ n, n < 9 → nI n * (nI n - nI 1) / nI 2 = nI (n * (n - 1) / 2) := by decide
theorem f_idx_in {x : Int32} {n : Nat} (h : f_in x 0 (n - 1) = false) (h1 : 1 ≤ n) (h2 : n < 1000) : f_idx x n = false := by
  cases q : f_idx x n with
  | false => rfl
  | true =>
    obtain ⟨j, hj, rfl⟩ := f_idx_t h2 q
    rw [f_in_y (by omega) (by omega) (by omega)] at h
    cases h
theorem e_gn1 : (0 ≤ z_ng 1) = False := eq_false (by decide)
theorem x_readLink (hS : SC T mr) (hT : TX txt len mi k) (hM : RM mi R) (hI : rd_in R.1.2 R.1.1.1 R.1.1.2) (hp : R.2.2.2 = 0) (hk : k < len) (ht : txt k = nI 107)
    (h1 : ∀ f k' R', TX txt len f k' → TF f mi → RM f R' → rd_in R'.1.2 R'.1.1.1 R'.1.1.2 → R'.2.2.2 = 0 → k < k' → rd_g txt len k R = rd_g txt len k' R' → Q (some (.int (nI 1))) (f, mr, ml, T))
    (h0 : ∀ f p, TF f mi → p ≤ len → f 3 2 = nI p → (rd_g txt len k R).1 = nI p → Q (some (.int (nI 0))) (f, mr, ml, T)) : z_Ok l G m_Text_readLink [.ref 3, .ref 25] (mi, mr, ml, T) Q := by
  have s1 := hS.1
  have s25 := hS.t
  have n2 := hM.1.1
  have n3 := hM.1.2.1
  have n8 := hI.1
  have k2 := hT.1.2.1
  have kl := hT.2
  have et : rd_take R (txt k) = rd_sign R (txt k) := if_pos hp
  rw [ht] at et
  unfold rd_sign at et
  simp (disch := omega) only [e_eq, Nat.reduceEqDiff, or_false, if_true, if_false, ite_true, ite_false, ↓reduceIte] at et
  have hmc := f_mal_cnt n8.1 n8.2 hI.2.2.2
  have hpr := x_pairs R.1.1.1 (by omega)
  have hpl : R.1.1.1 * (R.1.1.1 - 1) / 2 ≤ 28 := by
    have e : ∀ n, n < 9 → n * (n - 1) / 2 ≤ 28 := by decide
    exact e _ (by omega)
  have no : ¬ (R.1.1.2 < 9 ∧ R.1.1.2 < R.1.1.1 * (R.1.1.1 - 1) / 2) → Q (some (.int (nI 0))) (mi, mr, ml, T) := fun q => by
    refine h0 mi k TF_refl kl.1 k2 (rd_g_no kl.1 (Or.inl hk) fun _ => ?_)
    rw [ht, et]
    show (f_mal R R.1.1.1 && decide (R.1.1.2 < 9)) = false
    cases z : f_mal R R.1.1.1 with
    | false => rfl
    | true => rw [decide_eq_false (fun w => q ⟨w, hmc.mp z⟩)]; rfl
  refine z_okN cz_54.1 (by rw [cl_54]; exact Nat.le_of_ble_eq_true rfl) cz_54.2 (z_run ck_54 13 bf_54_0 ?_)
  simp (disch := omega) only [e_q0, e_nil, e_cons, e_q, e_qf, e_qt, e_af, z_hd, z_mk1, z_lg, z_s1, z_s2, z_kl, z_en, z_kI, z_fv, z_ic, z_c1, z_sh, z_pop, z_rc, z_tgt, z_tsw, z_lsw, z_nw, z_ac, o_kI, o_kL, o_ldi, o_ldl, o_lda, o_sti, o_sta, o_stl, o_inc, o_b2, o_bz, o_l2, o_lz, o_ls, o_lneg, o_i2l, o_l2i, o_lcmp, o_dup, o_dupx1, o_dup2, o_if, o_if2, o_ifnull, o_get, o_put, o_iald, o_zald, o_aald, o_alen, o_iast, o_zast, o_aast, o_new, o_newa, o_call, o_call1, o_callN, o_obj, o_reti, o_retl, o_ret, o_tsw, o_lsw, va_rf_s, va_rf_n, z_u2_s, z_u2_k, z_u2_f, z_uR_f, z_uL_f, e_ix, e_vp, e_lt, e_le, e_eq, e_lt0, e_eq0, e_b0, e_b1, e_10, e_11, true_or, or_true, false_or, nI_add, z_bi_0, z_bi_1, e_bb, z_uR_s, z_uR_k, z_uL_s, z_uL_k, true_and, and_true, and_self, not_true_eq_false, not_false_eq_true, forall_const, Option.toList, List.cons_append, List.nil_append, List.singleton_append, Nat.reduceAdd, Nat.zero_add, Nat.add_zero, Nat.reduceEqDiff, ↓reduceIte, ite_true, ite_false, reduceCtorEq, Int.cast_ofNat_Int, Int.reduceAdd, Int.reduceToNat, ne_eq, false_imp_iff, true_imp_iff, cl_54, bf_54_0, bf_54_31, bf_54_33, bf_54_73, bf_54_75, bf_54_119, bf_54_121, bf_54_149, bf_54_156, bf_54_167, bf_54_174, bf_54_183, bo_54_0, bo_54_31, bo_54_33, bo_54_73, bo_54_75, bo_54_119, bo_54_121, bo_54_149, bo_54_156, bo_54_167, bo_54_174, bo_54_183, s1, s25, n2, n3, k2, hpr]
  refine ⟨fun q => no (by omega), fun q9 => ⟨fun qp => ?_, fun q => no (by omega)⟩⟩
  have hn2 : 2 ≤ R.1.1.1 := by
    refine Nat.le_of_not_lt fun z => ?_
    have e : ∀ n, n < 2 → n * (n - 1) / 2 = 0 := by decide
    have := e _ z
    omega
  have hmal := hmc.mpr qp
  rw [hmal, Bool.true_and, decide_eq_true (show R.1.1.2 < 9 by omega)] at et
  have eg : rd_g txt len k R = rd_g txt len (k + 1) (R.1, (R.2.1, nI 107, 1)) := rd_g_ok hk (by rw [ht]; exact et)
  have hp1 := PG_n (g := mi) (mi := mi) ⟨hT, fun _ _ => rfl, fun _ _ => rfl⟩ (show k + 1 ≤ len by omega)
  generalize z_u2 mi 3 2 (nI (k + 1)) = g1 at hp1
  have m2 : g1 25 2 = nI R.1.1.1 := by rw [hp1.2.1 25 (by omega)]; exact n2
  have m3 : g1 25 3 = nI R.1.1.2 := by rw [hp1.2.1 25 (by omega)]; exact n3
  have ml' : ∀ j, j < R.1.1.2 → g1 (25 + 11 + j) 0 = R.1.2 4 j ∧ g1 (25 + 11 + j) 1 = R.1.2 5 j := fun j hj => by
    rw [hp1.2.1 (25 + 11 + j) (by omega)]
    exact ⟨(hM.2.2 j hj).1, (hM.2.2 j hj).2.1⟩
  have fail1 : (k + 1 < len → (rd_link (R.1, (R.2.1, nI 107, 1)) (txt (k + 1) - nI 48)).1 = false) → Q (some (.int (nI 0))) (g1, mr, ml, T) := fun w => by
    refine h0 g1 (k + 1) (PG_TF hp1) (by omega) hp1.1.1.2.1 ?_
    rw [eg]
    refine rd_g_no (by omega) (Or.inr (by show ¬ 1 = 0; omega)) fun h => ?_
    rw [rd_take_k (by show ¬ 1 = 0; omega) rfl]
    exact w h
  rw [e_sub (show 1 ≤ R.1.1.1 by omega)]
  refine x_digitHere hS hp1.1 (by omega) (by omega) (fun a i1 _ i3 i4 => ?_) (fun i => ?_)
  · have hdg := f_ful_dg (R := R) (a := a) n8.1 (by omega) hI.2.2.2
    simp (disch := omega) only [e_q0, e_nil, e_cons, e_q, e_qf, e_qt, e_af, z_hd, z_mk1, z_lg, z_s1, z_s2, z_kl, z_en, z_kI, z_fv, z_ic, z_c1, z_sh, z_pop, z_rc, z_tgt, z_tsw, z_lsw, z_nw, z_ac, o_kI, o_kL, o_ldi, o_ldl, o_lda, o_sti, o_sta, o_stl, o_inc, o_b2, o_bz, o_l2, o_lz, o_ls, o_lneg, o_i2l, o_l2i, o_lcmp, o_dup, o_dupx1, o_dup2, o_if, o_if2, o_ifnull, o_get, o_put, o_iald, o_zald, o_aald, o_alen, o_iast, o_zast, o_aast, o_new, o_newa, o_call, o_call1, o_callN, o_obj, o_reti, o_retl, o_ret, o_tsw, o_lsw, va_rf_s, va_rf_n, z_u2_s, z_u2_k, z_u2_f, z_uR_f, z_uL_f, e_ix, e_vp, e_lt, e_le, e_eq, e_lt0, e_eq0, e_b0, e_b1, e_10, e_11, true_or, or_true, false_or, nI_add, z_bi_0, z_bi_1, e_bb, z_uR_s, z_uR_k, z_uL_s, z_uL_k, true_and, and_true, and_self, not_true_eq_false, not_false_eq_true, forall_const, Option.toList, List.cons_append, List.nil_append, List.singleton_append, Nat.reduceAdd, Nat.zero_add, Nat.add_zero, Nat.reduceEqDiff, ↓reduceIte, ite_true, ite_false, reduceCtorEq, Int.cast_ofNat_Int, Int.reduceAdd, Int.reduceToNat, ne_eq, false_imp_iff, true_imp_iff, cl_54, bf_54_0, bf_54_31, bf_54_33, bf_54_73, bf_54_75, bf_54_119, bf_54_121, bf_54_149, bf_54_156, bf_54_167, bf_54_174, bf_54_183, bo_54_0, bo_54_31, bo_54_33, bo_54_73, bo_54_75, bo_54_119, bo_54_121, bo_54_149, bo_54_156, bo_54_167, bo_54_174, bo_54_183, s25, m2, e_ge0]
    refine x_linksAt (s := ((R.1.1.1, R.1.1.2), fun i => R.1.2 (i + 1))) hS.2.1.2 m3 n8.2 ml' ?_
    rw [x_deg_dg]
    simp (disch := omega) only [e_q0, e_nil, e_cons, e_q, e_qf, e_qt, e_af, z_hd, z_mk1, z_lg, z_s1, z_s2, z_kl, z_en, z_kI, z_fv, z_ic, z_c1, z_sh, z_pop, z_rc, z_tgt, z_tsw, z_lsw, z_nw, z_ac, o_kI, o_kL, o_ldi, o_ldl, o_lda, o_sti, o_sta, o_stl, o_inc, o_b2, o_bz, o_l2, o_lz, o_ls, o_lneg, o_i2l, o_l2i, o_lcmp, o_dup, o_dupx1, o_dup2, o_if, o_if2, o_ifnull, o_get, o_put, o_iald, o_zald, o_aald, o_alen, o_iast, o_zast, o_aast, o_new, o_newa, o_call, o_call1, o_callN, o_obj, o_reti, o_retl, o_ret, o_tsw, o_lsw, va_rf_s, va_rf_n, z_u2_s, z_u2_k, z_u2_f, z_uR_f, z_uL_f, e_ix, e_vp, e_lt, e_le, e_eq, e_lt0, e_eq0, e_b0, e_b1, e_10, e_11, true_or, or_true, false_or, nI_add, z_bi_0, z_bi_1, e_bb, z_uR_s, z_uR_k, z_uL_s, z_uL_k, true_and, and_true, and_self, not_true_eq_false, not_false_eq_true, forall_const, Option.toList, List.cons_append, List.nil_append, List.singleton_append, Nat.reduceAdd, Nat.zero_add, Nat.add_zero, Nat.reduceEqDiff, ↓reduceIte, ite_true, ite_false, reduceCtorEq, Int.cast_ofNat_Int, Int.reduceAdd, Int.reduceToNat, ne_eq, false_imp_iff, true_imp_iff, cl_54, bf_54_0, bf_54_31, bf_54_33, bf_54_73, bf_54_75, bf_54_119, bf_54_121, bf_54_149, bf_54_156, bf_54_167, bf_54_174, bf_54_183, bo_54_0, bo_54_31, bo_54_33, bo_54_73, bo_54_75, bo_54_119, bo_54_121, bo_54_149, bo_54_156, bo_54_167, bo_54_174, bo_54_183, s1, s25, m2, e_sub]
    refine ⟨fun qd => ?_, fun qd => ?_⟩
    · have nf : f_ful R a R.1.1.1 = false := by
        cases z : f_ful R a R.1.1.1 with
        | false => rfl
        | true => have := hdg.2.mp z; omega
      have eg2 : rd_g txt len (k + 1) (R.1, (R.2.1, nI 107, 1)) = rd_g txt len (k + 1 + 1) ((R.1.1, z_u2 R.1.2 4 R.1.1.2 (nI a)), (R.2.1, nI 107, 2)) := rd_g_ok i1 (by
        rw [rd_take_k (by show ¬ 1 = 0; omega) rfl, i4]
        unfold rd_link
        rw [if_pos rfl, f_ful_2, e_ix (by omega), nf, f_idx_nI (j := a) (n := R.1.1.1) (by omega) (by omega)]
        rfl)
      have k3 := hp1.1.1.2.1
      have hp2 := PG_n hp1 (show k + 1 + 1 ≤ len by omega)
      simp (disch := omega) only [e_q0, e_nil, e_cons, e_q, e_qf, e_qt, e_af, z_hd, z_mk1, z_lg, z_s1, z_s2, z_kl, z_en, z_kI, z_fv, z_ic, z_c1, z_sh, z_pop, z_rc, z_tgt, z_tsw, z_lsw, z_nw, z_ac, o_kI, o_kL, o_ldi, o_ldl, o_lda, o_sti, o_sta, o_stl, o_inc, o_b2, o_bz, o_l2, o_lz, o_ls, o_lneg, o_i2l, o_l2i, o_lcmp, o_dup, o_dupx1, o_dup2, o_if, o_if2, o_ifnull, o_get, o_put, o_iald, o_zald, o_aald, o_alen, o_iast, o_zast, o_aast, o_new, o_newa, o_call, o_call1, o_callN, o_obj, o_reti, o_retl, o_ret, o_tsw, o_lsw, va_rf_s, va_rf_n, z_u2_s, z_u2_k, z_u2_f, z_uR_f, z_uL_f, e_ix, e_vp, e_lt, e_le, e_eq, e_lt0, e_eq0, e_b0, e_b1, e_10, e_11, true_or, or_true, false_or, nI_add, z_bi_0, z_bi_1, e_bb, z_uR_s, z_uR_k, z_uL_s, z_uL_k, true_and, and_true, and_self, not_true_eq_false, not_false_eq_true, forall_const, Option.toList, List.cons_append, List.nil_append, List.singleton_append, Nat.reduceAdd, Nat.zero_add, Nat.add_zero, Nat.reduceEqDiff, ↓reduceIte, ite_true, ite_false, reduceCtorEq, Int.cast_ofNat_Int, Int.reduceAdd, Int.reduceToNat, ne_eq, false_imp_iff, true_imp_iff, cl_54, bf_54_0, bf_54_31, bf_54_33, bf_54_73, bf_54_75, bf_54_119, bf_54_121, bf_54_149, bf_54_156, bf_54_167, bf_54_174, bf_54_183, bo_54_0, bo_54_31, bo_54_33, bo_54_73, bo_54_75, bo_54_119, bo_54_121, bo_54_149, bo_54_156, bo_54_167, bo_54_174, bo_54_183, s1, s25, m2, k3, e_sub]
      generalize z_u2 g1 3 2 (nI (k + 1 + 1)) = g2 at hp2
      have m2' : g2 25 2 = nI R.1.1.1 := by rw [hp2.2.1 25 (by omega)]; exact n2
      have m3' : g2 25 3 = nI R.1.1.2 := by rw [hp2.2.1 25 (by omega)]; exact n3
      have ml2 : ∀ j, j < R.1.1.2 → g2 (25 + 11 + j) 0 = R.1.2 4 j ∧ g2 (25 + 11 + j) 1 = R.1.2 5 j := fun j hj => by
        rw [hp2.2.1 (25 + 11 + j) (by omega)]
        exact ⟨(hM.2.2 j hj).1, (hM.2.2 j hj).2.1⟩
      have v4 : (z_u2 R.1.2 4 R.1.1.2 (nI a)) 4 R.1.1.2 = nI a := z_u2_s
      have fail2 : (k + 1 + 1 < len → (f_idx (txt (k + 1 + 1) - nI 48) R.1.1.1 && (decide (txt (k + 1 + 1) - nI 48 ≠ nI a) && !f_lkd R.1.2 a (z_ix (txt (k + 1 + 1) - nI 48)) R.1.1.2)) = false) → Q (some (.int (nI 0))) (g2, mr, ml, T) := fun w => by
        refine h0 g2 (k + 1 + 1) (PG_TF hp2) (by omega) hp2.1.1.2.1 ?_
        rw [eg, eg2]
        refine rd_g_no (by omega) (Or.inr (by show ¬ 2 = 0; omega)) fun h => ?_
        rw [rd_take_k (by show ¬ 2 = 0; omega) rfl]
        unfold rd_link
        rw [if_neg (by show ¬ 2 = 1; omega), if_pos rfl]
        show (f_idx (txt (k + 1 + 1) - nI 48) R.1.1.1 && (decide (txt (k + 1 + 1) - nI 48 ≠ (z_u2 R.1.2 4 R.1.1.2 (nI a)) 4 R.1.1.2) && !f_lkd (z_u2 R.1.2 4 R.1.1.2 (nI a)) (z_ix ((z_u2 R.1.2 4 R.1.1.2 (nI a)) 4 R.1.1.2)) (z_ix (txt (k + 1 + 1) - nI 48)) R.1.1.2)) = false
        rw [v4, e_ix (by omega), f_lkd_w _ (Nat.le_refl _)]
        exact w h
      refine x_digitHere hS hp2.1 (by omega) (by omega) (fun b j1 _ j3 j4 => ?_) (fun i => ?_)
      · simp (disch := omega) only [e_q0, e_nil, e_cons, e_q, e_qf, e_qt, e_af, z_hd, z_mk1, z_lg, z_s1, z_s2, z_kl, z_en, z_kI, z_fv, z_ic, z_c1, z_sh, z_pop, z_rc, z_tgt, z_tsw, z_lsw, z_nw, z_ac, o_kI, o_kL, o_ldi, o_ldl, o_lda, o_sti, o_sta, o_stl, o_inc, o_b2, o_bz, o_l2, o_lz, o_ls, o_lneg, o_i2l, o_l2i, o_lcmp, o_dup, o_dupx1, o_dup2, o_if, o_if2, o_ifnull, o_get, o_put, o_iald, o_zald, o_aald, o_alen, o_iast, o_zast, o_aast, o_new, o_newa, o_call, o_call1, o_callN, o_obj, o_reti, o_retl, o_ret, o_tsw, o_lsw, va_rf_s, va_rf_n, z_u2_s, z_u2_k, z_u2_f, z_uR_f, z_uL_f, e_ix, e_vp, e_lt, e_le, e_eq, e_lt0, e_eq0, e_b0, e_b1, e_10, e_11, true_or, or_true, false_or, nI_add, z_bi_0, z_bi_1, e_bb, z_uR_s, z_uR_k, z_uL_s, z_uL_k, true_and, and_true, and_self, not_true_eq_false, not_false_eq_true, forall_const, Option.toList, List.cons_append, List.nil_append, List.singleton_append, Nat.reduceAdd, Nat.zero_add, Nat.add_zero, Nat.reduceEqDiff, ↓reduceIte, ite_true, ite_false, reduceCtorEq, Int.cast_ofNat_Int, Int.reduceAdd, Int.reduceToNat, ne_eq, false_imp_iff, true_imp_iff, cl_54, bf_54_0, bf_54_31, bf_54_33, bf_54_73, bf_54_75, bf_54_119, bf_54_121, bf_54_149, bf_54_156, bf_54_167, bf_54_174, bf_54_183, bo_54_0, bo_54_31, bo_54_33, bo_54_73, bo_54_75, bo_54_119, bo_54_121, bo_54_149, bo_54_156, bo_54_167, bo_54_174, bo_54_183, e_ge0, s25]
        refine ⟨fun qe => ?_, fun qe => ?_⟩
        · refine fail2 fun h => ?_
          rw [j4, qe, decide_eq_false (fun z => z rfl)]
          simp
        refine x_linkBetweenR (F := R.1.2) (n := R.1.1.2) hS m3' n8.2 ml2 (fun hl => ?_) (fun jj hjj hl => ?_)
        · have eg3 : rd_g txt len (k + 1 + 1) ((R.1.1, z_u2 R.1.2 4 R.1.1.2 (nI a)), (R.2.1, nI 107, 2)) = rd_g txt len (k + 1 + 1 + 1) ((R.1.1, z_u2 (z_u2 R.1.2 4 R.1.1.2 (nI a)) 5 R.1.1.2 (nI b)), (R.2.1, nI 107, 3)) := rd_g_ok j1 (by
            rw [rd_take_k (by show ¬ 2 = 0; omega) rfl, j4]
            unfold rd_link
            rw [if_neg (by show ¬ 2 = 1; omega), if_pos rfl]
            show ((f_idx (nI b) R.1.1.1 && (decide (nI b ≠ (z_u2 R.1.2 4 R.1.1.2 (nI a)) 4 R.1.1.2) && !f_lkd (z_u2 R.1.2 4 R.1.1.2 (nI a)) (z_ix ((z_u2 R.1.2 4 R.1.1.2 (nI a)) 4 R.1.1.2)) (z_ix (nI b)) R.1.1.2)), _) = _
            rw [v4, e_ix (by omega), e_ix (by omega), f_lkd_w _ (Nat.le_refl _), hl, f_idx_nI (by omega) (by omega), decide_eq_true (show nI b ≠ nI a from fun z => qe (by rw [e_eq (by omega) (by omega)] at z; exact z))]
            rfl)
          have k4 := hp2.1.1.2.1
          have hp3 := PG_n hp2 (show k + 1 + 1 + 1 ≤ len by omega)
          simp (disch := omega) only [e_q0, e_nil, e_cons, e_q, e_qf, e_qt, e_af, z_hd, z_mk1, z_lg, z_s1, z_s2, z_kl, z_en, z_kI, z_fv, z_ic, z_c1, z_sh, z_pop, z_rc, z_tgt, z_tsw, z_lsw, z_nw, z_ac, o_kI, o_kL, o_ldi, o_ldl, o_lda, o_sti, o_sta, o_stl, o_inc, o_b2, o_bz, o_l2, o_lz, o_ls, o_lneg, o_i2l, o_l2i, o_lcmp, o_dup, o_dupx1, o_dup2, o_if, o_if2, o_ifnull, o_get, o_put, o_iald, o_zald, o_aald, o_alen, o_iast, o_zast, o_aast, o_new, o_newa, o_call, o_call1, o_callN, o_obj, o_reti, o_retl, o_ret, o_tsw, o_lsw, va_rf_s, va_rf_n, z_u2_s, z_u2_k, z_u2_f, z_uR_f, z_uL_f, e_ix, e_vp, e_lt, e_le, e_eq, e_lt0, e_eq0, e_b0, e_b1, e_10, e_11, true_or, or_true, false_or, nI_add, z_bi_0, z_bi_1, e_bb, z_uR_s, z_uR_k, z_uL_s, z_uL_k, true_and, and_true, and_self, not_true_eq_false, not_false_eq_true, forall_const, Option.toList, List.cons_append, List.nil_append, List.singleton_append, Nat.reduceAdd, Nat.zero_add, Nat.add_zero, Nat.reduceEqDiff, ↓reduceIte, ite_true, ite_false, reduceCtorEq, Int.cast_ofNat_Int, Int.reduceAdd, Int.reduceToNat, ne_eq, false_imp_iff, true_imp_iff, cl_54, bf_54_0, bf_54_31, bf_54_33, bf_54_73, bf_54_75, bf_54_119, bf_54_121, bf_54_149, bf_54_156, bf_54_167, bf_54_174, bf_54_183, bo_54_0, bo_54_31, bo_54_33, bo_54_73, bo_54_75, bo_54_119, bo_54_121, bo_54_149, bo_54_156, bo_54_167, bo_54_174, bo_54_183, s1, s25, k4]
          generalize z_u2 g2 3 2 (nI (k + 1 + 1 + 1)) = g3 at hp3
          refine ⟨fun _ => ?_, fun q => absurd (by decide) q⟩
          refine x_takeDigit hS hp3.1 (by omega) (by omega) (fun x x1 _ x3 x4 => ?_) (fun i => ?_)
          · have eg4 : rd_g txt len (k + 1 + 1 + 1) ((R.1.1, z_u2 (z_u2 R.1.2 4 R.1.1.2 (nI a)) 5 R.1.1.2 (nI b)), (R.2.1, nI 107, 3)) = rd_g txt len (k + 1 + 1 + 1 + 1) ((R.1.1, z_u2 (z_u2 (z_u2 R.1.2 4 R.1.1.2 (nI a)) 5 R.1.1.2 (nI b)) 6 R.1.1.2 (nI x)), (R.2.1, nI 107, 4)) := rd_g_ok x1 (by
              rw [rd_take_k (by show ¬ 3 = 0; omega) rfl, x4]
              unfold rd_link
              rw [if_neg (by show ¬ 3 = 1; omega), if_neg (by show ¬ 3 = 2; omega), if_pos rfl, f_in_y (by omega) x3 (by omega)])
            have hp4 := PG_n hp3 (show k + 1 + 1 + 1 + 1 ≤ len by omega)
            generalize z_u2 g3 3 2 (nI (k + 1 + 1 + 1 + 1)) = g4 at hp4
            simp (disch := omega) only [e_q0, e_nil, e_cons, e_q, e_qf, e_qt, e_af, z_hd, z_mk1, z_lg, z_s1, z_s2, z_kl, z_en, z_kI, z_fv, z_ic, z_c1, z_sh, z_pop, z_rc, z_tgt, z_tsw, z_lsw, z_nw, z_ac, o_kI, o_kL, o_ldi, o_ldl, o_lda, o_sti, o_sta, o_stl, o_inc, o_b2, o_bz, o_l2, o_lz, o_ls, o_lneg, o_i2l, o_l2i, o_lcmp, o_dup, o_dupx1, o_dup2, o_if, o_if2, o_ifnull, o_get, o_put, o_iald, o_zald, o_aald, o_alen, o_iast, o_zast, o_aast, o_new, o_newa, o_call, o_call1, o_callN, o_obj, o_reti, o_retl, o_ret, o_tsw, o_lsw, va_rf_s, va_rf_n, z_u2_s, z_u2_k, z_u2_f, z_uR_f, z_uL_f, e_ix, e_vp, e_lt, e_le, e_eq, e_lt0, e_eq0, e_b0, e_b1, e_10, e_11, true_or, or_true, false_or, nI_add, z_bi_0, z_bi_1, e_bb, z_uR_s, z_uR_k, z_uL_s, z_uL_k, true_and, and_true, and_self, not_true_eq_false, not_false_eq_true, forall_const, Option.toList, List.cons_append, List.nil_append, List.singleton_append, Nat.reduceAdd, Nat.zero_add, Nat.add_zero, Nat.reduceEqDiff, ↓reduceIte, ite_true, ite_false, reduceCtorEq, Int.cast_ofNat_Int, Int.reduceAdd, Int.reduceToNat, ne_eq, false_imp_iff, true_imp_iff, cl_54, bf_54_0, bf_54_31, bf_54_33, bf_54_73, bf_54_75, bf_54_119, bf_54_121, bf_54_149, bf_54_156, bf_54_167, bf_54_174, bf_54_183, bo_54_0, bo_54_31, bo_54_33, bo_54_73, bo_54_75, bo_54_119, bo_54_121, bo_54_149, bo_54_156, bo_54_167, bo_54_174, bo_54_183, e_ge0, s1]
            refine x_takeDigit hS hp4.1 (by omega) (by omega) (fun y y1 _ y3 y4 => ?_) (fun i => ?_)
            · have eg5 : rd_g txt len (k + 1 + 1 + 1 + 1) ((R.1.1, z_u2 (z_u2 (z_u2 R.1.2 4 R.1.1.2 (nI a)) 5 R.1.1.2 (nI b)) 6 R.1.1.2 (nI x)), (R.2.1, nI 107, 4)) = rd_g txt len (k + 1 + 1 + 1 + 1 + 1) ((R.1.1, z_u2 (z_u2 (z_u2 (z_u2 R.1.2 4 R.1.1.2 (nI a)) 5 R.1.1.2 (nI b)) 6 R.1.1.2 (nI x)) 7 R.1.1.2 (nI y)), (R.2.1, nI 107, 5)) := rd_g_ok y1 (by
                rw [rd_take_k (by show ¬ 4 = 0; omega) rfl, y4]
                unfold rd_link
                rw [if_neg (by show ¬ 4 = 1; omega), if_neg (by show ¬ 4 = 2; omega), if_neg (by show ¬ 4 = 3; omega), if_pos rfl, f_in_y (by omega) y3 (by omega)])
              have hp5 := PG_n hp4 (show k + 1 + 1 + 1 + 1 + 1 ≤ len by omega)
              generalize z_u2 g4 3 2 (nI (k + 1 + 1 + 1 + 1 + 1)) = g5 at hp5
              simp (disch := omega) only [e_q0, e_nil, e_cons, e_q, e_qf, e_qt, e_af, z_hd, z_mk1, z_lg, z_s1, z_s2, z_kl, z_en, z_kI, z_fv, z_ic, z_c1, z_sh, z_pop, z_rc, z_tgt, z_tsw, z_lsw, z_nw, z_ac, o_kI, o_kL, o_ldi, o_ldl, o_lda, o_sti, o_sta, o_stl, o_inc, o_b2, o_bz, o_l2, o_lz, o_ls, o_lneg, o_i2l, o_l2i, o_lcmp, o_dup, o_dupx1, o_dup2, o_if, o_if2, o_ifnull, o_get, o_put, o_iald, o_zald, o_aald, o_alen, o_iast, o_zast, o_aast, o_new, o_newa, o_call, o_call1, o_callN, o_obj, o_reti, o_retl, o_ret, o_tsw, o_lsw, va_rf_s, va_rf_n, z_u2_s, z_u2_k, z_u2_f, z_uR_f, z_uL_f, e_ix, e_vp, e_lt, e_le, e_eq, e_lt0, e_eq0, e_b0, e_b1, e_10, e_11, true_or, or_true, false_or, nI_add, z_bi_0, z_bi_1, e_bb, z_uR_s, z_uR_k, z_uL_s, z_uL_k, true_and, and_true, and_self, not_true_eq_false, not_false_eq_true, forall_const, Option.toList, List.cons_append, List.nil_append, List.singleton_append, Nat.reduceAdd, Nat.zero_add, Nat.add_zero, Nat.reduceEqDiff, ↓reduceIte, ite_true, ite_false, reduceCtorEq, Int.cast_ofNat_Int, Int.reduceAdd, Int.reduceToNat, ne_eq, false_imp_iff, true_imp_iff, cl_54, bf_54_0, bf_54_31, bf_54_33, bf_54_73, bf_54_75, bf_54_119, bf_54_121, bf_54_149, bf_54_156, bf_54_167, bf_54_174, bf_54_183, bo_54_0, bo_54_31, bo_54_33, bo_54_73, bo_54_75, bo_54_119, bo_54_121, bo_54_149, bo_54_156, bo_54_167, bo_54_174, bo_54_183, e_ge0, s1]
              refine x_takeDigit hS hp5.1 (by omega) (by omega) (fun v v1 v2 v3 v4' => ?_) (fun i => ?_)
              · have eg6 : rd_take ((R.1.1, z_u2 (z_u2 (z_u2 (z_u2 R.1.2 4 R.1.1.2 (nI a)) 5 R.1.1.2 (nI b)) 6 R.1.1.2 (nI x)) 7 R.1.1.2 (nI y)), (R.2.1, nI 107, 5)) (txt (k + 1 + 1 + 1 + 1 + 1)) = (true, (((R.1.1.1, R.1.1.2 + 1), z_u2 (z_u2 (z_u2 (z_u2 (z_u2 R.1.2 4 R.1.1.2 (nI a)) 5 R.1.1.2 (nI b)) 6 R.1.1.2 (nI x)) 7 R.1.1.2 (nI y)) 8 R.1.1.2 (nI v)), (R.2.1, nI 107, 0))) := by
                  rw [rd_take_k (by show ¬ 5 = 0; omega) rfl, v4']
                  unfold rd_link
                  rw [if_neg (by show ¬ 5 = 1; omega), if_neg (by show ¬ 5 = 2; omega), if_neg (by show ¬ 5 = 3; omega), if_neg (by show ¬ 5 = 4; omega), if_pos (f_in_y v2 v3 (by omega))]
                have hp6 := PG_n hp5 (show k + 1 + 1 + 1 + 1 + 1 + 1 ≤ len by omega)
                generalize z_u2 g5 3 2 (nI (k + 1 + 1 + 1 + 1 + 1 + 1)) = g6 at hp6
                have m3'' : g6 25 3 = nI R.1.1.2 := by rw [hp6.2.1 25 (by omega)]; exact n3
                have q1 : T.1 (36 + R.1.1.2) = (1, 1) ∧ mr 35 R.1.1.2 = some (36 + R.1.1.2) := hS.2.1.2.2.2 _ (by omega)
                simp (disch := omega) only [e_q0, e_nil, e_cons, e_q, e_qf, e_qt, e_af, z_hd, z_mk1, z_lg, z_s1, z_s2, z_kl, z_en, z_kI, z_fv, z_ic, z_c1, z_sh, z_pop, z_rc, z_tgt, z_tsw, z_lsw, z_nw, z_ac, o_kI, o_kL, o_ldi, o_ldl, o_lda, o_sti, o_sta, o_stl, o_inc, o_b2, o_bz, o_l2, o_lz, o_ls, o_lneg, o_i2l, o_l2i, o_lcmp, o_dup, o_dupx1, o_dup2, o_if, o_if2, o_ifnull, o_get, o_put, o_iald, o_zald, o_aald, o_alen, o_iast, o_zast, o_aast, o_new, o_newa, o_call, o_call1, o_callN, o_obj, o_reti, o_retl, o_ret, o_tsw, o_lsw, va_rf_s, va_rf_n, z_u2_s, z_u2_k, z_u2_f, z_uR_f, z_uL_f, e_ix, e_vp, e_lt, e_le, e_eq, e_lt0, e_eq0, e_b0, e_b1, e_10, e_11, true_or, or_true, false_or, nI_add, z_bi_0, z_bi_1, e_bb, z_uR_s, z_uR_k, z_uL_s, z_uL_k, true_and, and_true, and_self, not_true_eq_false, not_false_eq_true, forall_const, Option.toList, List.cons_append, List.nil_append, List.singleton_append, Nat.reduceAdd, Nat.zero_add, Nat.add_zero, Nat.reduceEqDiff, ↓reduceIte, ite_true, ite_false, reduceCtorEq, Int.cast_ofNat_Int, Int.reduceAdd, Int.reduceToNat, ne_eq, false_imp_iff, true_imp_iff, cl_54, bf_54_0, bf_54_31, bf_54_33, bf_54_73, bf_54_75, bf_54_119, bf_54_121, bf_54_149, bf_54_156, bf_54_167, bf_54_174, bf_54_183, bo_54_0, bo_54_31, bo_54_33, bo_54_73, bo_54_75, bo_54_119, bo_54_121, bo_54_149, bo_54_156, bo_54_167, bo_54_174, bo_54_183, e_ge0, s25, m3'', q1, z_t5]
                refine x_resetLink q1.1 x3 y3 fun f f1 e0 => ?_
                simp (disch := omega) only [e_q0, e_nil, e_cons, e_q, e_qf, e_qt, e_af, z_hd, z_mk1, z_lg, z_s1, z_s2, z_kl, z_en, z_kI, z_fv, z_ic, z_c1, z_sh, z_pop, z_rc, z_tgt, z_tsw, z_lsw, z_nw, z_ac, o_kI, o_kL, o_ldi, o_ldl, o_lda, o_sti, o_sta, o_stl, o_inc, o_b2, o_bz, o_l2, o_lz, o_ls, o_lneg, o_i2l, o_l2i, o_lcmp, o_dup, o_dupx1, o_dup2, o_if, o_if2, o_ifnull, o_get, o_put, o_iald, o_zald, o_aald, o_alen, o_iast, o_zast, o_aast, o_new, o_newa, o_call, o_call1, o_callN, o_obj, o_reti, o_retl, o_ret, o_tsw, o_lsw, va_rf_s, va_rf_n, z_u2_s, z_u2_k, z_u2_f, z_uR_f, z_uL_f, e_ix, e_vp, e_lt, e_le, e_eq, e_lt0, e_eq0, e_b0, e_b1, e_10, e_11, true_or, or_true, false_or, nI_add, z_bi_0, z_bi_1, e_bb, z_uR_s, z_uR_k, z_uL_s, z_uL_k, true_and, and_true, and_self, not_true_eq_false, not_false_eq_true, forall_const, Option.toList, List.cons_append, List.nil_append, List.singleton_append, Nat.reduceAdd, Nat.zero_add, Nat.add_zero, Nat.reduceEqDiff, ↓reduceIte, ite_true, ite_false, reduceCtorEq, Int.cast_ofNat_Int, Int.reduceAdd, Int.reduceToNat, ne_eq, false_imp_iff, true_imp_iff, cl_54, bf_54_0, bf_54_31, bf_54_33, bf_54_73, bf_54_75, bf_54_119, bf_54_121, bf_54_149, bf_54_156, bf_54_167, bf_54_174, bf_54_183, bo_54_0, bo_54_31, bo_54_33, bo_54_73, bo_54_75, bo_54_119, bo_54_121, bo_54_149, bo_54_156, bo_54_167, bo_54_174, bo_54_183]
                have fc : ∀ c, c ≠ 3 → c ≠ 25 → c ≠ 36 + R.1.1.2 → f c = mi c := fun c w1 w2 w3 => by rw [f1 c w3, z_u2_f w2, hp6.2.1 c w1]
                have f3 : f 3 = g6 3 := by rw [f1 3 (by omega), z_u2_f (by omega)]
                have f25 : ∀ j, f 25 j = z_u2 mi 25 3 (nI (R.1.1.2 + 1)) 25 j := fun j => by
                  rw [f1 25 (by omega)]
                  by_cases q : j = 3
                  · rw [q, z_u2_s, z_u2_s]
                  · rw [z_u2_k q, z_u2_k q, hp6.2.1 25 (by omega)]
                have ee : ∀ i j, (4 ≤ i → j ≠ R.1.1.2) → (z_u2 (z_u2 (z_u2 (z_u2 (z_u2 R.1.2 4 R.1.1.2 (nI a)) 5 R.1.1.2 (nI b)) 6 R.1.1.2 (nI x)) 7 R.1.1.2 (nI y)) 8 R.1.1.2 (nI v)) i j = R.1.2 i j := fun i j h => by
                  rw [z_u2_l h (by omega), z_u2_l h (by omega), z_u2_l h (by omega), z_u2_l h (by omega), z_u2_l h (by omega)]
                have u4 : (z_u2 (z_u2 (z_u2 (z_u2 (z_u2 R.1.2 4 R.1.1.2 (nI a)) 5 R.1.1.2 (nI b)) 6 R.1.1.2 (nI x)) 7 R.1.1.2 (nI y)) 8 R.1.1.2 (nI v)) 4 R.1.1.2 = nI a := by simp (disch := omega) only [z_u2_a, z_u2_s]
                have u5 : (z_u2 (z_u2 (z_u2 (z_u2 (z_u2 R.1.2 4 R.1.1.2 (nI a)) 5 R.1.1.2 (nI b)) 6 R.1.1.2 (nI x)) 7 R.1.1.2 (nI y)) 8 R.1.1.2 (nI v)) 5 R.1.1.2 = nI b := by simp (disch := omega) only [z_u2_a, z_u2_s]
                have u6 : (z_u2 (z_u2 (z_u2 (z_u2 (z_u2 R.1.2 4 R.1.1.2 (nI a)) 5 R.1.1.2 (nI b)) 6 R.1.1.2 (nI x)) 7 R.1.1.2 (nI y)) 8 R.1.1.2 (nI v)) 6 R.1.1.2 = nI x := by simp (disch := omega) only [z_u2_a, z_u2_s]
                have u7 : (z_u2 (z_u2 (z_u2 (z_u2 (z_u2 R.1.2 4 R.1.1.2 (nI a)) 5 R.1.1.2 (nI b)) 6 R.1.1.2 (nI x)) 7 R.1.1.2 (nI y)) 8 R.1.1.2 (nI v)) 7 R.1.1.2 = nI y := by simp (disch := omega) only [z_u2_a, z_u2_s]
                have u8 : (z_u2 (z_u2 (z_u2 (z_u2 (z_u2 R.1.2 4 R.1.1.2 (nI a)) 5 R.1.1.2 (nI b)) 6 R.1.1.2 (nI x)) 7 R.1.1.2 (nI y)) 8 R.1.1.2 (nI v)) 8 R.1.1.2 = nI v := by simp (disch := omega) only [z_u2_a, z_u2_s]
                have hba : a ≠ b := fun z => qe z.symm
                refine h1 _ (k + 1 + 1 + 1 + 1 + 1 + 1) _ (TX_next hp6.1 (by rw [f3]; exact hp6.1.1.2.1) (by rw [f3]) (by rw [fc 4 (by omega) (by omega) (by omega), hp6.2.1 4 (by omega)]) (by omega)) ⟨fun c w1 w2 => fc c w1 (by omega) (by omega), fun j hj => by rw [f3]; exact hp6.2.2 j hj⟩ (RM_link hM n8.1 (by omega) (by rw [f25, z_u2_s]) (fun j hj => by rw [f25, z_u2_k hj]) (fun c w1 w2 w3 => fc c (by omega) (by omega) (by omega)) ?_ ee) (rd_in_link (p := a) (q := b) hI (by omega) ee ⟨⟨x, x3, u6⟩, ⟨y, y3, u7⟩, v, v2, v3, u8⟩ (show a < R.1.1.1 by omega) (show b < R.1.1.1 by omega) hba u4 u5 hl) rfl (by omega) (eg.trans (eg2.trans (eg3.trans (eg4.trans (eg5.trans (rd_g_ok v1 eg6))))))
                unfold LD
                rw [u4, u5, u6, u7, u8]
                exact e0
              · simp (disch := omega) only [e_q0, e_nil, e_cons, e_q, e_qf, e_qt, e_af, z_hd, z_mk1, z_lg, z_s1, z_s2, z_kl, z_en, z_kI, z_fv, z_ic, z_c1, z_sh, z_pop, z_rc, z_tgt, z_tsw, z_lsw, z_nw, z_ac, o_kI, o_kL, o_ldi, o_ldl, o_lda, o_sti, o_sta, o_stl, o_inc, o_b2, o_bz, o_l2, o_lz, o_ls, o_lneg, o_i2l, o_l2i, o_lcmp, o_dup, o_dupx1, o_dup2, o_if, o_if2, o_ifnull, o_get, o_put, o_iald, o_zald, o_aald, o_alen, o_iast, o_zast, o_aast, o_new, o_newa, o_call, o_call1, o_callN, o_obj, o_reti, o_retl, o_ret, o_tsw, o_lsw, va_rf_s, va_rf_n, z_u2_s, z_u2_k, z_u2_f, z_uR_f, z_uL_f, e_ix, e_vp, e_lt, e_le, e_eq, e_lt0, e_eq0, e_b0, e_b1, e_10, e_11, true_or, or_true, false_or, nI_add, z_bi_0, z_bi_1, e_bb, z_uR_s, z_uR_k, z_uL_s, z_uL_k, true_and, and_true, and_self, not_true_eq_false, not_false_eq_true, forall_const, Option.toList, List.cons_append, List.nil_append, List.singleton_append, Nat.reduceAdd, Nat.zero_add, Nat.add_zero, Nat.reduceEqDiff, ↓reduceIte, ite_true, ite_false, reduceCtorEq, Int.cast_ofNat_Int, Int.reduceAdd, Int.reduceToNat, ne_eq, false_imp_iff, true_imp_iff, cl_54, bf_54_0, bf_54_31, bf_54_33, bf_54_73, bf_54_75, bf_54_119, bf_54_121, bf_54_149, bf_54_156, bf_54_167, bf_54_174, bf_54_183, bo_54_0, bo_54_31, bo_54_33, bo_54_73, bo_54_75, bo_54_119, bo_54_121, bo_54_149, bo_54_156, bo_54_167, bo_54_174, bo_54_183, e_gn1]
                refine h0 g5 (k + 1 + 1 + 1 + 1 + 1) (PG_TF hp5) (by omega) hp5.1.1.2.1 ?_
                rw [eg, eg2, eg3, eg4, eg5]
                refine rd_g_no (by omega) (Or.inr (by show ¬ 5 = 0; omega)) fun h => ?_
                rw [rd_take_k (by show ¬ 5 = 0; omega) rfl]
                unfold rd_link
                rw [if_neg (by show ¬ 5 = 1; omega), if_neg (by show ¬ 5 = 2; omega), if_neg (by show ¬ 5 = 3; omega), if_neg (by show ¬ 5 = 4; omega), i h, if_neg (by decide)]
            · simp (disch := omega) only [e_q0, e_nil, e_cons, e_q, e_qf, e_qt, e_af, z_hd, z_mk1, z_lg, z_s1, z_s2, z_kl, z_en, z_kI, z_fv, z_ic, z_c1, z_sh, z_pop, z_rc, z_tgt, z_tsw, z_lsw, z_nw, z_ac, o_kI, o_kL, o_ldi, o_ldl, o_lda, o_sti, o_sta, o_stl, o_inc, o_b2, o_bz, o_l2, o_lz, o_ls, o_lneg, o_i2l, o_l2i, o_lcmp, o_dup, o_dupx1, o_dup2, o_if, o_if2, o_ifnull, o_get, o_put, o_iald, o_zald, o_aald, o_alen, o_iast, o_zast, o_aast, o_new, o_newa, o_call, o_call1, o_callN, o_obj, o_reti, o_retl, o_ret, o_tsw, o_lsw, va_rf_s, va_rf_n, z_u2_s, z_u2_k, z_u2_f, z_uR_f, z_uL_f, e_ix, e_vp, e_lt, e_le, e_eq, e_lt0, e_eq0, e_b0, e_b1, e_10, e_11, true_or, or_true, false_or, nI_add, z_bi_0, z_bi_1, e_bb, z_uR_s, z_uR_k, z_uL_s, z_uL_k, true_and, and_true, and_self, not_true_eq_false, not_false_eq_true, forall_const, Option.toList, List.cons_append, List.nil_append, List.singleton_append, Nat.reduceAdd, Nat.zero_add, Nat.add_zero, Nat.reduceEqDiff, ↓reduceIte, ite_true, ite_false, reduceCtorEq, Int.cast_ofNat_Int, Int.reduceAdd, Int.reduceToNat, ne_eq, false_imp_iff, true_imp_iff, cl_54, bf_54_0, bf_54_31, bf_54_33, bf_54_73, bf_54_75, bf_54_119, bf_54_121, bf_54_149, bf_54_156, bf_54_167, bf_54_174, bf_54_183, bo_54_0, bo_54_31, bo_54_33, bo_54_73, bo_54_75, bo_54_119, bo_54_121, bo_54_149, bo_54_156, bo_54_167, bo_54_174, bo_54_183, e_gn1]
              refine h0 g4 (k + 1 + 1 + 1 + 1) (PG_TF hp4) (by omega) hp4.1.1.2.1 ?_
              rw [eg, eg2, eg3, eg4]
              refine rd_g_no (by omega) (Or.inr (by show ¬ 4 = 0; omega)) fun h => ?_
              rw [rd_take_k (by show ¬ 4 = 0; omega) rfl]
              unfold rd_link
              rw [if_neg (by show ¬ 4 = 1; omega), if_neg (by show ¬ 4 = 2; omega), if_neg (by show ¬ 4 = 3; omega), if_pos rfl]
              exact i h
          · simp (disch := omega) only [e_q0, e_nil, e_cons, e_q, e_qf, e_qt, e_af, z_hd, z_mk1, z_lg, z_s1, z_s2, z_kl, z_en, z_kI, z_fv, z_ic, z_c1, z_sh, z_pop, z_rc, z_tgt, z_tsw, z_lsw, z_nw, z_ac, o_kI, o_kL, o_ldi, o_ldl, o_lda, o_sti, o_sta, o_stl, o_inc, o_b2, o_bz, o_l2, o_lz, o_ls, o_lneg, o_i2l, o_l2i, o_lcmp, o_dup, o_dupx1, o_dup2, o_if, o_if2, o_ifnull, o_get, o_put, o_iald, o_zald, o_aald, o_alen, o_iast, o_zast, o_aast, o_new, o_newa, o_call, o_call1, o_callN, o_obj, o_reti, o_retl, o_ret, o_tsw, o_lsw, va_rf_s, va_rf_n, z_u2_s, z_u2_k, z_u2_f, z_uR_f, z_uL_f, e_ix, e_vp, e_lt, e_le, e_eq, e_lt0, e_eq0, e_b0, e_b1, e_10, e_11, true_or, or_true, false_or, nI_add, z_bi_0, z_bi_1, e_bb, z_uR_s, z_uR_k, z_uL_s, z_uL_k, true_and, and_true, and_self, not_true_eq_false, not_false_eq_true, forall_const, Option.toList, List.cons_append, List.nil_append, List.singleton_append, Nat.reduceAdd, Nat.zero_add, Nat.add_zero, Nat.reduceEqDiff, ↓reduceIte, ite_true, ite_false, reduceCtorEq, Int.cast_ofNat_Int, Int.reduceAdd, Int.reduceToNat, ne_eq, false_imp_iff, true_imp_iff, cl_54, bf_54_0, bf_54_31, bf_54_33, bf_54_73, bf_54_75, bf_54_119, bf_54_121, bf_54_149, bf_54_156, bf_54_167, bf_54_174, bf_54_183, bo_54_0, bo_54_31, bo_54_33, bo_54_73, bo_54_75, bo_54_119, bo_54_121, bo_54_149, bo_54_156, bo_54_167, bo_54_174, bo_54_183, e_gn1]
            refine h0 g3 (k + 1 + 1 + 1) (PG_TF hp3) (by omega) hp3.1.1.2.1 ?_
            rw [eg, eg2, eg3]
            refine rd_g_no (by omega) (Or.inr (by show ¬ 3 = 0; omega)) fun h => ?_
            rw [rd_take_k (by show ¬ 3 = 0; omega) rfl]
            unfold rd_link
            rw [if_neg (by show ¬ 3 = 1; omega), if_neg (by show ¬ 3 = 2; omega), if_pos rfl]
            exact i h
        · simp (disch := omega) only [e_q0, e_nil, e_cons, e_q, e_qf, e_qt, e_af, z_hd, z_mk1, z_lg, z_s1, z_s2, z_kl, z_en, z_kI, z_fv, z_ic, z_c1, z_sh, z_pop, z_rc, z_tgt, z_tsw, z_lsw, z_nw, z_ac, o_kI, o_kL, o_ldi, o_ldl, o_lda, o_sti, o_sta, o_stl, o_inc, o_b2, o_bz, o_l2, o_lz, o_ls, o_lneg, o_i2l, o_l2i, o_lcmp, o_dup, o_dupx1, o_dup2, o_if, o_if2, o_ifnull, o_get, o_put, o_iald, o_zald, o_aald, o_alen, o_iast, o_zast, o_aast, o_new, o_newa, o_call, o_call1, o_callN, o_obj, o_reti, o_retl, o_ret, o_tsw, o_lsw, va_rf_s, va_rf_n, z_u2_s, z_u2_k, z_u2_f, z_uR_f, z_uL_f, e_ix, e_vp, e_lt, e_le, e_eq, e_lt0, e_eq0, e_b0, e_b1, e_10, e_11, true_or, or_true, false_or, nI_add, z_bi_0, z_bi_1, e_bb, z_uR_s, z_uR_k, z_uL_s, z_uL_k, true_and, and_true, and_self, not_true_eq_false, not_false_eq_true, forall_const, Option.toList, List.cons_append, List.nil_append, List.singleton_append, Nat.reduceAdd, Nat.zero_add, Nat.add_zero, Nat.reduceEqDiff, ↓reduceIte, ite_true, ite_false, reduceCtorEq, Int.cast_ofNat_Int, Int.reduceAdd, Int.reduceToNat, ne_eq, false_imp_iff, true_imp_iff, cl_54, bf_54_0, bf_54_31, bf_54_33, bf_54_73, bf_54_75, bf_54_119, bf_54_121, bf_54_149, bf_54_156, bf_54_167, bf_54_174, bf_54_183, bo_54_0, bo_54_31, bo_54_33, bo_54_73, bo_54_75, bo_54_119, bo_54_121, bo_54_149, bo_54_156, bo_54_167, bo_54_174, bo_54_183, e_ge0, s1]
          refine fail2 fun h => ?_
          rw [j4, e_ix (by omega), hl]
          simp
      · simp (disch := omega) only [e_q0, e_nil, e_cons, e_q, e_qf, e_qt, e_af, z_hd, z_mk1, z_lg, z_s1, z_s2, z_kl, z_en, z_kI, z_fv, z_ic, z_c1, z_sh, z_pop, z_rc, z_tgt, z_tsw, z_lsw, z_nw, z_ac, o_kI, o_kL, o_ldi, o_ldl, o_lda, o_sti, o_sta, o_stl, o_inc, o_b2, o_bz, o_l2, o_lz, o_ls, o_lneg, o_i2l, o_l2i, o_lcmp, o_dup, o_dupx1, o_dup2, o_if, o_if2, o_ifnull, o_get, o_put, o_iald, o_zald, o_aald, o_alen, o_iast, o_zast, o_aast, o_new, o_newa, o_call, o_call1, o_callN, o_obj, o_reti, o_retl, o_ret, o_tsw, o_lsw, va_rf_s, va_rf_n, z_u2_s, z_u2_k, z_u2_f, z_uR_f, z_uL_f, e_ix, e_vp, e_lt, e_le, e_eq, e_lt0, e_eq0, e_b0, e_b1, e_10, e_11, true_or, or_true, false_or, nI_add, z_bi_0, z_bi_1, e_bb, z_uR_s, z_uR_k, z_uL_s, z_uL_k, true_and, and_true, and_self, not_true_eq_false, not_false_eq_true, forall_const, Option.toList, List.cons_append, List.nil_append, List.singleton_append, Nat.reduceAdd, Nat.zero_add, Nat.add_zero, Nat.reduceEqDiff, ↓reduceIte, ite_true, ite_false, reduceCtorEq, Int.cast_ofNat_Int, Int.reduceAdd, Int.reduceToNat, ne_eq, false_imp_iff, true_imp_iff, cl_54, bf_54_0, bf_54_31, bf_54_33, bf_54_73, bf_54_75, bf_54_119, bf_54_121, bf_54_149, bf_54_156, bf_54_167, bf_54_174, bf_54_183, bo_54_0, bo_54_31, bo_54_33, bo_54_73, bo_54_75, bo_54_119, bo_54_121, bo_54_149, bo_54_156, bo_54_167, bo_54_174, bo_54_183]
        refine ⟨fun _ => fail2 fun h => ?_, fun q => absurd (by decide) q⟩
        rw [f_idx_in (i h) (by omega) (by omega)]
        rfl
    · have nf : f_ful R a R.1.1.1 = true := hdg.2.mpr (by omega)
      refine fail1 fun h => ?_
      rw [i4]
      unfold rd_link
      rw [if_pos rfl]
      show (f_idx (nI a) R.1.1.1 && !f_ful (R.1, _) (z_ix (nI a)) R.1.1.1) = false
      rw [f_ful_2, e_ix (by omega), nf]
      simp
  · simp (disch := omega) only [e_q0, e_nil, e_cons, e_q, e_qf, e_qt, e_af, z_hd, z_mk1, z_lg, z_s1, z_s2, z_kl, z_en, z_kI, z_fv, z_ic, z_c1, z_sh, z_pop, z_rc, z_tgt, z_tsw, z_lsw, z_nw, z_ac, o_kI, o_kL, o_ldi, o_ldl, o_lda, o_sti, o_sta, o_stl, o_inc, o_b2, o_bz, o_l2, o_lz, o_ls, o_lneg, o_i2l, o_l2i, o_lcmp, o_dup, o_dupx1, o_dup2, o_if, o_if2, o_ifnull, o_get, o_put, o_iald, o_zald, o_aald, o_alen, o_iast, o_zast, o_aast, o_new, o_newa, o_call, o_call1, o_callN, o_obj, o_reti, o_retl, o_ret, o_tsw, o_lsw, va_rf_s, va_rf_n, z_u2_s, z_u2_k, z_u2_f, z_uR_f, z_uL_f, e_ix, e_vp, e_lt, e_le, e_eq, e_lt0, e_eq0, e_b0, e_b1, e_10, e_11, true_or, or_true, false_or, nI_add, z_bi_0, z_bi_1, e_bb, z_uR_s, z_uR_k, z_uL_s, z_uL_k, true_and, and_true, and_self, not_true_eq_false, not_false_eq_true, forall_const, Option.toList, List.cons_append, List.nil_append, List.singleton_append, Nat.reduceAdd, Nat.zero_add, Nat.add_zero, Nat.reduceEqDiff, ↓reduceIte, ite_true, ite_false, reduceCtorEq, Int.cast_ofNat_Int, Int.reduceAdd, Int.reduceToNat, ne_eq, false_imp_iff, true_imp_iff, cl_54, bf_54_0, bf_54_31, bf_54_33, bf_54_73, bf_54_75, bf_54_119, bf_54_121, bf_54_149, bf_54_156, bf_54_167, bf_54_174, bf_54_183, bo_54_0, bo_54_31, bo_54_33, bo_54_73, bo_54_75, bo_54_119, bo_54_121, bo_54_149, bo_54_156, bo_54_167, bo_54_174, bo_54_183]
    refine ⟨fun _ => fail1 fun h => ?_, fun q => absurd (by decide) q⟩
    unfold rd_link
    rw [if_pos rfl]
    show (f_idx (txt (k + 1) - nI 48) R.1.1.1 && _) = false
    rw [f_idx_in (i h) (by omega) (by omega)]
    rfl
end
