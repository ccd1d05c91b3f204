/-- what is read of a text: ((nodes, links), arrays: 0 sort, 1 cycle, 2 phase, 3 offset, 4 one, 5 other, 6 loss, 7 back, 8 slots), (margin, part, place) -/
abbrev ZRd : Type := ((Nat × Nat) × (Nat → Nat → Int32)) × (Int32 × Int32 × Nat)
abbrev PR (R : ZRd) (mi : Nat → Nat → Int32) : Prop := (mi 373 26 = nI R.1.1.1 ∧ mi 373 31 = nI R.1.1.2 ∧ mi 392 = R.1.2 0 ∧ mi 393 = R.1.2 1 ∧ mi 394 = R.1.2 2 ∧ mi 395 = R.1.2 3 ∧ mi 396 = R.1.2 4 ∧ mi 397 = R.1.2 5 ∧ mi 398 = R.1.2 6 ∧ mi 399 = R.1.2 7 ∧ mi 400 = R.1.2 8) ∧ (mi 373 37 = R.2.1 ∧ mi 373 38 = R.2.2.1 ∧ mi 373 39 = nI R.2.2.2)
/-- a link of those below l has the ends a and b -/
def f_lkd (F : Nat → Nat → Int32) (a b : Nat) : Nat → Bool
  | 0 => false
  | l + 1 => f_lkd F a b l || ((decide (F 4 l = nI a) && decide (F 5 l = nI b)) || (decide (F 4 l = nI b) && decide (F 5 l = nI a)))
def f_ful (R : ZRd) (a : Nat) : Nat → Bool
  | 0 => true
  | b + 1 => f_ful R a b && (decide (b = a) || f_lkd R.1.2 a b R.1.1.2)
def f_mal (R : ZRd) : Nat → Bool
  | 0 => false
  | a + 1 => f_mal R a || !f_ful R a R.1.1.1
section
variable {l : Launch} {G : ZG} {mi : Nat → Nat → Int32} {mr : Nat → Nat → Option Nat} {ml : Nat → Nat → Int64} {T : (Nat → Nat × Nat) × Nat × Nat} {Q : ZR} {R : ZRd}
theorem k_areLinkedAsRead {a b : Nat} (hS : SM T mr) (hR : PR R mi) (hn : R.1.1.2 ≤ 9) (hQ : Q (some (.int (z_bi (f_lkd R.1.2 a b R.1.1.2)))) (mi, mr, ml, T)) : z_Ok l G m_Model_areLinkedAsRead [.ref 373, .int (nI a), .int (nI b)] (mi, mr, ml, T) Q := by
  have hs := hR.1
  refine z_okN cz_114.1 (by rw [cl_114]; exact Nat.le_of_ble_eq_true rfl) cz_114.2 (z_run ck_114 7 bf_114_0 ?_)
  simp (disch := omega) only [e_q0, e_nil, e_cons, e_q, e_qf, e_qt, e_af, z_hd, z_mk1, z_lg, z_s1, z_s2, z_kl, z_en, z_kI, z_fv, z_ic, z_c1, z_sh, z_pop, z_rc, z_tgt, z_tsw, z_lsw, z_nw, z_ac, o_kI, o_kL, o_ldi, o_ldl, o_lda, o_sti, o_sta, o_stl, o_inc, o_b2, o_bz, o_l2, o_lz, o_ls, o_lneg, o_i2l, o_l2i, o_lcmp, o_dup, o_dupx1, o_dup2, o_if, o_if2, o_ifnull, o_get, o_put, o_iald, o_zald, o_aald, o_alen, o_iast, o_zast, o_aast, o_new, o_newa, o_call, o_call1, o_callN, o_obj, o_reti, o_retl, o_ret, o_tsw, o_lsw, va_rf_s, va_rf_n, z_u2_s, z_u2_k, z_u2_f, z_uR_f, z_uL_f, e_ix, e_vp, e_lt, e_le, e_eq, e_lt0, e_eq0, e_b0, e_b1, e_10, e_11, true_or, or_true, false_or, nI_add, z_bi_0, z_bi_1, e_bb, z_uR_s, z_uR_k, z_uL_s, z_uL_k, true_and, and_true, and_self, not_true_eq_false, not_false_eq_true, forall_const, Option.toList, List.cons_append, List.nil_append, List.singleton_append, Nat.reduceAdd, Nat.zero_add, Nat.add_zero, Nat.reduceEqDiff, ↓reduceIte, ite_true, ite_false, reduceCtorEq, Int.cast_ofNat_Int, Int.reduceAdd, Int.reduceToNat, ne_eq, false_imp_iff, true_imp_iff, cl_114, bf_114_0, bf_114_5, bf_114_40, bf_114_62, bf_114_66, bf_114_67, bf_114_74, bo_114_0, bo_114_5, bo_114_40, bo_114_62, bo_114_66, bo_114_67, bo_114_74, hS]
  refine z_for (α := Unit) (P := fun k _ => z_W l G 114 (T.2.1, T.2.2) (fun v M' => Q v M' ∧ M'.2.2.2 = T) 5 [some (.ref 373), some (.int (nI a)), some (.int (nI b)), some (.int (z_bi (f_lkd R.1.2 a b k))), some (.int (nI k))] [] (mi, mr, ml, T)) R.1.1.2 (fun _ => ?_) (fun k hk ih _ => ?_) 0 (by omega) ()
  · refine z_run ck_114 7 bf_114_5 ?_
    simp (disch := omega) only [e_q0, e_nil, e_cons, e_q, e_qf, e_qt, e_af, z_hd, z_mk1, z_lg, z_s1, z_s2, z_kl, z_en, z_kI, z_fv, z_ic, z_c1, z_sh, z_pop, z_rc, z_tgt, z_tsw, z_lsw, z_nw, z_ac, o_kI, o_kL, o_ldi, o_ldl, o_lda, o_sti, o_sta, o_stl, o_inc, o_b2, o_bz, o_l2, o_lz, o_ls, o_lneg, o_i2l, o_l2i, o_lcmp, o_dup, o_dupx1, o_dup2, o_if, o_if2, o_ifnull, o_get, o_put, o_iald, o_zald, o_aald, o_alen, o_iast, o_zast, o_aast, o_new, o_newa, o_call, o_call1, o_callN, o_obj, o_reti, o_retl, o_ret, o_tsw, o_lsw, va_rf_s, va_rf_n, z_u2_s, z_u2_k, z_u2_f, z_uR_f, z_uL_f, e_ix, e_vp, e_lt, e_le, e_eq, e_lt0, e_eq0, e_b0, e_b1, e_10, e_11, true_or, or_true, false_or, nI_add, z_bi_0, z_bi_1, e_bb, z_uR_s, z_uR_k, z_uL_s, z_uL_k, true_and, and_true, and_self, not_true_eq_false, not_false_eq_true, forall_const, Option.toList, List.cons_append, List.nil_append, List.singleton_append, Nat.reduceAdd, Nat.zero_add, Nat.add_zero, Nat.reduceEqDiff, ↓reduceIte, ite_true, ite_false, reduceCtorEq, Int.cast_ofNat_Int, Int.reduceAdd, Int.reduceToNat, ne_eq, false_imp_iff, true_imp_iff, cl_114, bf_114_0, bf_114_5, bf_114_40, bf_114_62, bf_114_66, bf_114_67, bf_114_74, bo_114_0, bo_114_5, bo_114_40, bo_114_62, bo_114_66, bo_114_67, bo_114_74, hS, hs, Nat.le_refl]
    exact hQ
  · have hk' := Nat.not_le.mpr hk
    have ih2 : ∀ v, v = f_lkd R.1.2 a b (k + 1) → z_W l G 114 (T.2.1, T.2.2) (fun v M' => Q v M' ∧ M'.2.2.2 = T) 5 [some (.ref 373), some (.int (nI a)), some (.int (nI b)), some (.int (z_bi v)), some (.int (nI (k + 1)))] [] (mi, mr, ml, T) := fun v hv => by rw [hv]; exact ih ()
    unfold f_lkd at ih2
    refine z_run ck_114 7 bf_114_5 ?_
    simp (disch := omega) only [e_q0, e_nil, e_cons, e_q, e_qf, e_qt, e_af, z_hd, z_mk1, z_lg, z_s1, z_s2, z_kl, z_en, z_kI, z_fv, z_ic, z_c1, z_sh, z_pop, z_rc, z_tgt, z_tsw, z_lsw, z_nw, z_ac, o_kI, o_kL, o_ldi, o_ldl, o_lda, o_sti, o_sta, o_stl, o_inc, o_b2, o_bz, o_l2, o_lz, o_ls, o_lneg, o_i2l, o_l2i, o_lcmp, o_dup, o_dupx1, o_dup2, o_if, o_if2, o_ifnull, o_get, o_put, o_iald, o_zald, o_aald, o_alen, o_iast, o_zast, o_aast, o_new, o_newa, o_call, o_call1, o_callN, o_obj, o_reti, o_retl, o_ret, o_tsw, o_lsw, va_rf_s, va_rf_n, z_u2_s, z_u2_k, z_u2_f, z_uR_f, z_uL_f, e_ix, e_vp, e_lt, e_le, e_eq, e_lt0, e_eq0, e_b0, e_b1, e_10, e_11, true_or, or_true, false_or, nI_add, z_bi_0, z_bi_1, e_bb, z_uR_s, z_uR_k, z_uL_s, z_uL_k, true_and, and_true, and_self, not_true_eq_false, not_false_eq_true, forall_const, Option.toList, List.cons_append, List.nil_append, List.singleton_append, Nat.reduceAdd, Nat.zero_add, Nat.add_zero, Nat.reduceEqDiff, ↓reduceIte, ite_true, ite_false, reduceCtorEq, Int.cast_ofNat_Int, Int.reduceAdd, Int.reduceToNat, ne_eq, false_imp_iff, true_imp_iff, cl_114, bf_114_0, bf_114_5, bf_114_40, bf_114_62, bf_114_66, bf_114_67, bf_114_74, bo_114_0, bo_114_5, bo_114_40, bo_114_62, bo_114_66, bo_114_67, bo_114_74, hS, hs, hk']
    refine ⟨fun c1 => ⟨fun c2 => ⟨fun c3 => ih2 true (by simp [c2, c3]), fun c3 => ⟨fun c4 => ⟨fun c5 => ih2 true (by simp [c4, c5]), fun c5 => ih2 false (by simp [c1, c3, c5])⟩, fun c4 => ih2 false (by simp [c1, c3, c4])⟩⟩, fun c2 => ⟨fun c4 => ⟨fun c5 => ih2 true (by simp [c4, c5]), fun c5 => ih2 false (by simp [c1, c2, c5])⟩, fun c4 => ih2 false (by simp [c1, c2, c4])⟩⟩, fun c1 => ih2 true ?_⟩
    rw [Bool.not_eq_false] at c1
    rw [c1]
    rfl
theorem k_isFullAsRead {a : Nat} (hS : SM T mr) (hR : PR R mi) (hn1 : R.1.1.1 ≤ 8) (hn : R.1.1.2 ≤ 9) (ha : a < 1000) (hQ : Q (some (.int (z_bi (f_ful R a R.1.1.1)))) (mi, mr, ml, T)) : z_Ok l G m_Model_isFullAsRead [.ref 373, .int (nI a)] (mi, mr, ml, T) Q := by
  have hs := hR.1
  refine z_okN cz_115.1 (by rw [cl_115]; exact Nat.le_of_ble_eq_true rfl) cz_115.2 (z_run ck_115 6 bf_115_0 ?_)
  simp (disch := omega) only [e_q0, e_nil, e_cons, e_q, e_qf, e_qt, e_af, z_hd, z_mk1, z_lg, z_s1, z_s2, z_kl, z_en, z_kI, z_fv, z_ic, z_c1, z_sh, z_pop, z_rc, z_tgt, z_tsw, z_lsw, z_nw, z_ac, o_kI, o_kL, o_ldi, o_ldl, o_lda, o_sti, o_sta, o_stl, o_inc, o_b2, o_bz, o_l2, o_lz, o_ls, o_lneg, o_i2l, o_l2i, o_lcmp, o_dup, o_dupx1, o_dup2, o_if, o_if2, o_ifnull, o_get, o_put, o_iald, o_zald, o_aald, o_alen, o_iast, o_zast, o_aast, o_new, o_newa, o_call, o_call1, o_callN, o_obj, o_reti, o_retl, o_ret, o_tsw, o_lsw, va_rf_s, va_rf_n, z_u2_s, z_u2_k, z_u2_f, z_uR_f, z_uL_f, e_ix, e_vp, e_lt, e_le, e_eq, e_lt0, e_eq0, e_b0, e_b1, e_10, e_11, true_or, or_true, false_or, nI_add, z_bi_0, z_bi_1, e_bb, z_uR_s, z_uR_k, z_uL_s, z_uL_k, true_and, and_true, and_self, not_true_eq_false, not_false_eq_true, forall_const, Option.toList, List.cons_append, List.nil_append, List.singleton_append, Nat.reduceAdd, Nat.zero_add, Nat.add_zero, Nat.reduceEqDiff, ↓reduceIte, ite_true, ite_false, reduceCtorEq, Int.cast_ofNat_Int, Int.reduceAdd, Int.reduceToNat, ne_eq, false_imp_iff, true_imp_iff, cl_115, bf_115_0, bf_115_4, bf_115_30, bf_115_34, bf_115_35, bf_115_42, bo_115_0, bo_115_4, bo_115_30, bo_115_34, bo_115_35, bo_115_42, hS]
  refine z_for (α := Unit) (P := fun k _ => z_W l G 115 (T.2.1, T.2.2) (fun v M' => Q v M' ∧ M'.2.2.2 = T) 4 [some (.ref 373), some (.int (nI a)), some (.int (z_bi (f_ful R a k))), some (.int (nI k))] [] (mi, mr, ml, T)) R.1.1.1 (fun _ => ?_) (fun k hk ih _ => ?_) 0 (by omega) ()
  · refine z_run ck_115 6 bf_115_4 ?_
    simp (disch := omega) only [e_q0, e_nil, e_cons, e_q, e_qf, e_qt, e_af, z_hd, z_mk1, z_lg, z_s1, z_s2, z_kl, z_en, z_kI, z_fv, z_ic, z_c1, z_sh, z_pop, z_rc, z_tgt, z_tsw, z_lsw, z_nw, z_ac, o_kI, o_kL, o_ldi, o_ldl, o_lda, o_sti, o_sta, o_stl, o_inc, o_b2, o_bz, o_l2, o_lz, o_ls, o_lneg, o_i2l, o_l2i, o_lcmp, o_dup, o_dupx1, o_dup2, o_if, o_if2, o_ifnull, o_get, o_put, o_iald, o_zald, o_aald, o_alen, o_iast, o_zast, o_aast, o_new, o_newa, o_call, o_call1, o_callN, o_obj, o_reti, o_retl, o_ret, o_tsw, o_lsw, va_rf_s, va_rf_n, z_u2_s, z_u2_k, z_u2_f, z_uR_f, z_uL_f, e_ix, e_vp, e_lt, e_le, e_eq, e_lt0, e_eq0, e_b0, e_b1, e_10, e_11, true_or, or_true, false_or, nI_add, z_bi_0, z_bi_1, e_bb, z_uR_s, z_uR_k, z_uL_s, z_uL_k, true_and, and_true, and_self, not_true_eq_false, not_false_eq_true, forall_const, Option.toList, List.cons_append, List.nil_append, List.singleton_append, Nat.reduceAdd, Nat.zero_add, Nat.add_zero, Nat.reduceEqDiff, ↓reduceIte, ite_true, ite_false, reduceCtorEq, Int.cast_ofNat_Int, Int.reduceAdd, Int.reduceToNat, ne_eq, false_imp_iff, true_imp_iff, cl_115, bf_115_0, bf_115_4, bf_115_30, bf_115_34, bf_115_35, bf_115_42, bo_115_0, bo_115_4, bo_115_30, bo_115_34, bo_115_35, bo_115_42, hS, hs, Nat.le_refl]
    exact hQ
  · have hk' := Nat.not_le.mpr hk
    have ih2 : ∀ v, v = f_ful R a (k + 1) → z_W l G 115 (T.2.1, T.2.2) (fun v M' => Q v M' ∧ M'.2.2.2 = T) 4 [some (.ref 373), some (.int (nI a)), some (.int (z_bi v)), some (.int (nI (k + 1)))] [] (mi, mr, ml, T) := fun v hv => by rw [hv]; exact ih ()
    unfold f_ful at ih2
    refine z_run ck_115 6 bf_115_4 ?_
    simp (disch := omega) only [e_q0, e_nil, e_cons, e_q, e_qf, e_qt, e_af, z_hd, z_mk1, z_lg, z_s1, z_s2, z_kl, z_en, z_kI, z_fv, z_ic, z_c1, z_sh, z_pop, z_rc, z_tgt, z_tsw, z_lsw, z_nw, z_ac, o_kI, o_kL, o_ldi, o_ldl, o_lda, o_sti, o_sta, o_stl, o_inc, o_b2, o_bz, o_l2, o_lz, o_ls, o_lneg, o_i2l, o_l2i, o_lcmp, o_dup, o_dupx1, o_dup2, o_if, o_if2, o_ifnull, o_get, o_put, o_iald, o_zald, o_aald, o_alen, o_iast, o_zast, o_aast, o_new, o_newa, o_call, o_call1, o_callN, o_obj, o_reti, o_retl, o_ret, o_tsw, o_lsw, va_rf_s, va_rf_n, z_u2_s, z_u2_k, z_u2_f, z_uR_f, z_uL_f, e_ix, e_vp, e_lt, e_le, e_eq, e_lt0, e_eq0, e_b0, e_b1, e_10, e_11, true_or, or_true, false_or, nI_add, z_bi_0, z_bi_1, e_bb, z_uR_s, z_uR_k, z_uL_s, z_uL_k, true_and, and_true, and_self, not_true_eq_false, not_false_eq_true, forall_const, Option.toList, List.cons_append, List.nil_append, List.singleton_append, Nat.reduceAdd, Nat.zero_add, Nat.add_zero, Nat.reduceEqDiff, ↓reduceIte, ite_true, ite_false, reduceCtorEq, Int.cast_ofNat_Int, Int.reduceAdd, Int.reduceToNat, ne_eq, false_imp_iff, true_imp_iff, cl_115, bf_115_0, bf_115_4, bf_115_30, bf_115_34, bf_115_35, bf_115_42, bo_115_0, bo_115_4, bo_115_30, bo_115_34, bo_115_35, bo_115_42, hS, hs, hk']
    refine ⟨fun c1 => ih2 false (by simp [c1]), fun c1 => ⟨fun c2 => ih2 true ?_, fun c2 => ?_⟩⟩
    · rw [Bool.not_eq_false] at c1
      rw [c1, decide_eq_true c2]
      rfl
    · rw [Bool.not_eq_false] at c1
      rw [c1, decide_eq_false c2] at ih2
      refine k_areLinkedAsRead hS hR hn ?_
      generalize f_lkd R.1.2 a k R.1.1.2 = b at ih2 ⊢
      simp (disch := omega) only [e_q0, e_nil, e_cons, e_q, e_qf, e_qt, e_af, z_hd, z_mk1, z_lg, z_s1, z_s2, z_kl, z_en, z_kI, z_fv, z_ic, z_c1, z_sh, z_pop, z_rc, z_tgt, z_tsw, z_lsw, z_nw, z_ac, o_kI, o_kL, o_ldi, o_ldl, o_lda, o_sti, o_sta, o_stl, o_inc, o_b2, o_bz, o_l2, o_lz, o_ls, o_lneg, o_i2l, o_l2i, o_lcmp, o_dup, o_dupx1, o_dup2, o_if, o_if2, o_ifnull, o_get, o_put, o_iald, o_zald, o_aald, o_alen, o_iast, o_zast, o_aast, o_new, o_newa, o_call, o_call1, o_callN, o_obj, o_reti, o_retl, o_ret, o_tsw, o_lsw, va_rf_s, va_rf_n, z_u2_s, z_u2_k, z_u2_f, z_uR_f, z_uL_f, e_ix, e_vp, e_lt, e_le, e_eq, e_lt0, e_eq0, e_b0, e_b1, e_10, e_11, true_or, or_true, false_or, nI_add, z_bi_0, z_bi_1, e_bb, z_uR_s, z_uR_k, z_uL_s, z_uL_k, true_and, and_true, and_self, not_true_eq_false, not_false_eq_true, forall_const, Option.toList, List.cons_append, List.nil_append, List.singleton_append, Nat.reduceAdd, Nat.zero_add, Nat.add_zero, Nat.reduceEqDiff, ↓reduceIte, ite_true, ite_false, reduceCtorEq, Int.cast_ofNat_Int, Int.reduceAdd, Int.reduceToNat, ne_eq, false_imp_iff, true_imp_iff, cl_115, bf_115_0, bf_115_4, bf_115_30, bf_115_34, bf_115_35, bf_115_42, bo_115_0, bo_115_4, bo_115_30, bo_115_34, bo_115_35, bo_115_42, hS]
      cases b
      · exact ⟨fun _ => ih2 false rfl, fun q => absurd rfl q⟩
      · exact ⟨fun q => absurd q (by decide), fun _ => ih2 true rfl⟩
theorem k_mayLink (hS : SM T mr) (hR : PR R mi) (hn1 : R.1.1.1 ≤ 8) (hn : R.1.1.2 ≤ 9) (hQ : Q (some (.int (z_bi (f_mal R R.1.1.1 && decide (R.1.1.2 < 9))))) (mi, mr, ml, T)) : z_Ok l G m_Model_mayLink [.ref 373] (mi, mr, ml, T) Q := by
  have hs := hR.1
  refine z_okN cz_116.1 (by rw [cl_116]; exact Nat.le_of_ble_eq_true rfl) cz_116.2 (z_run ck_116 8 bf_116_0 ?_)
  simp (disch := omega) only [e_q0, e_nil, e_cons, e_q, e_qf, e_qt, e_af, z_hd, z_mk1, z_lg, z_s1, z_s2, z_kl, z_en, z_kI, z_fv, z_ic, z_c1, z_sh, z_pop, z_rc, z_tgt, z_tsw, z_lsw, z_nw, z_ac, o_kI, o_kL, o_ldi, o_ldl, o_lda, o_sti, o_sta, o_stl, o_inc, o_b2, o_bz, o_l2, o_lz, o_ls, o_lneg, o_i2l, o_l2i, o_lcmp, o_dup, o_dupx1, o_dup2, o_if, o_if2, o_ifnull, o_get, o_put, o_iald, o_zald, o_aald, o_alen, o_iast, o_zast, o_aast, o_new, o_newa, o_call, o_call1, o_callN, o_obj, o_reti, o_retl, o_ret, o_tsw, o_lsw, va_rf_s, va_rf_n, z_u2_s, z_u2_k, z_u2_f, z_uR_f, z_uL_f, e_ix, e_vp, e_lt, e_le, e_eq, e_lt0, e_eq0, e_b0, e_b1, e_10, e_11, true_or, or_true, false_or, nI_add, z_bi_0, z_bi_1, e_bb, z_uR_s, z_uR_k, z_uL_s, z_uL_k, true_and, and_true, and_self, not_true_eq_false, not_false_eq_true, forall_const, Option.toList, List.cons_append, List.nil_append, List.singleton_append, Nat.reduceAdd, Nat.zero_add, Nat.add_zero, Nat.reduceEqDiff, ↓reduceIte, ite_true, ite_false, reduceCtorEq, Int.cast_ofNat_Int, Int.reduceAdd, Int.reduceToNat, ne_eq, false_imp_iff, true_imp_iff, cl_116, bf_116_0, bf_116_4, bf_116_24, bf_116_28, bf_116_29, bf_116_36, bf_116_53, bf_116_54, bo_116_0, bo_116_4, bo_116_24, bo_116_28, bo_116_29, bo_116_36, bo_116_53, bo_116_54, hS]
  refine z_for (α := Unit) (P := fun k _ => z_W l G 116 (T.2.1, T.2.2) (fun v M' => Q v M' ∧ M'.2.2.2 = T) 4 [some (.ref 373), some (.int (z_bi (f_mal R k))), some (.int (nI k))] [] (mi, mr, ml, T)) R.1.1.1 (fun _ => ?_) (fun k hk ih _ => ?_) 0 (by omega) ()
  · refine z_run ck_116 8 bf_116_4 ?_
    simp (disch := omega) only [e_q0, e_nil, e_cons, e_q, e_qf, e_qt, e_af, z_hd, z_mk1, z_lg, z_s1, z_s2, z_kl, z_en, z_kI, z_fv, z_ic, z_c1, z_sh, z_pop, z_rc, z_tgt, z_tsw, z_lsw, z_nw, z_ac, o_kI, o_kL, o_ldi, o_ldl, o_lda, o_sti, o_sta, o_stl, o_inc, o_b2, o_bz, o_l2, o_lz, o_ls, o_lneg, o_i2l, o_l2i, o_lcmp, o_dup, o_dupx1, o_dup2, o_if, o_if2, o_ifnull, o_get, o_put, o_iald, o_zald, o_aald, o_alen, o_iast, o_zast, o_aast, o_new, o_newa, o_call, o_call1, o_callN, o_obj, o_reti, o_retl, o_ret, o_tsw, o_lsw, va_rf_s, va_rf_n, z_u2_s, z_u2_k, z_u2_f, z_uR_f, z_uL_f, e_ix, e_vp, e_lt, e_le, e_eq, e_lt0, e_eq0, e_b0, e_b1, e_10, e_11, true_or, or_true, false_or, nI_add, z_bi_0, z_bi_1, e_bb, z_uR_s, z_uR_k, z_uL_s, z_uL_k, true_and, and_true, and_self, not_true_eq_false, not_false_eq_true, forall_const, Option.toList, List.cons_append, List.nil_append, List.singleton_append, Nat.reduceAdd, Nat.zero_add, Nat.add_zero, Nat.reduceEqDiff, ↓reduceIte, ite_true, ite_false, reduceCtorEq, Int.cast_ofNat_Int, Int.reduceAdd, Int.reduceToNat, ne_eq, false_imp_iff, true_imp_iff, cl_116, bf_116_0, bf_116_4, bf_116_24, bf_116_28, bf_116_29, bf_116_36, bf_116_53, bf_116_54, bo_116_0, bo_116_4, bo_116_24, bo_116_28, bo_116_29, bo_116_36, bo_116_53, bo_116_54, hS, hs, Nat.le_refl]
    exact ⟨fun c1 => z_f0 hQ (by simp [c1]), fun c1 => ⟨fun c2 => z_f0 hQ (by rw [decide_eq_false (by omega), Bool.and_false]), fun c2 => z_f1 hQ (by rw [Bool.not_eq_false] at c1; rw [c1, decide_eq_true (by omega)]; rfl)⟩⟩
  · have hk' := Nat.not_le.mpr hk
    have ih2 : ∀ v, v = f_mal R (k + 1) → z_W l G 116 (T.2.1, T.2.2) (fun v M' => Q v M' ∧ M'.2.2.2 = T) 4 [some (.ref 373), some (.int (z_bi v)), some (.int (nI (k + 1)))] [] (mi, mr, ml, T) := fun v hv => by rw [hv]; exact ih ()
    unfold f_mal at ih2
    refine z_run ck_116 8 bf_116_4 ?_
    simp (disch := omega) only [e_q0, e_nil, e_cons, e_q, e_qf, e_qt, e_af, z_hd, z_mk1, z_lg, z_s1, z_s2, z_kl, z_en, z_kI, z_fv, z_ic, z_c1, z_sh, z_pop, z_rc, z_tgt, z_tsw, z_lsw, z_nw, z_ac, o_kI, o_kL, o_ldi, o_ldl, o_lda, o_sti, o_sta, o_stl, o_inc, o_b2, o_bz, o_l2, o_lz, o_ls, o_lneg, o_i2l, o_l2i, o_lcmp, o_dup, o_dupx1, o_dup2, o_if, o_if2, o_ifnull, o_get, o_put, o_iald, o_zald, o_aald, o_alen, o_iast, o_zast, o_aast, o_new, o_newa, o_call, o_call1, o_callN, o_obj, o_reti, o_retl, o_ret, o_tsw, o_lsw, va_rf_s, va_rf_n, z_u2_s, z_u2_k, z_u2_f, z_uR_f, z_uL_f, e_ix, e_vp, e_lt, e_le, e_eq, e_lt0, e_eq0, e_b0, e_b1, e_10, e_11, true_or, or_true, false_or, nI_add, z_bi_0, z_bi_1, e_bb, z_uR_s, z_uR_k, z_uL_s, z_uL_k, true_and, and_true, and_self, not_true_eq_false, not_false_eq_true, forall_const, Option.toList, List.cons_append, List.nil_append, List.singleton_append, Nat.reduceAdd, Nat.zero_add, Nat.add_zero, Nat.reduceEqDiff, ↓reduceIte, ite_true, ite_false, reduceCtorEq, Int.cast_ofNat_Int, Int.reduceAdd, Int.reduceToNat, ne_eq, false_imp_iff, true_imp_iff, cl_116, bf_116_0, bf_116_4, bf_116_24, bf_116_28, bf_116_29, bf_116_36, bf_116_53, bf_116_54, bo_116_0, bo_116_4, bo_116_24, bo_116_28, bo_116_29, bo_116_36, bo_116_53, bo_116_54, hS, hs, hk']
    refine ⟨fun c1 => ?_, fun c1 => ih2 true (by rw [Bool.not_eq_false] at c1; rw [c1]; rfl)⟩
    rw [c1] at ih2
    refine k_isFullAsRead hS hR hn1 hn (by omega) ?_
    generalize f_ful R k R.1.1.1 = b at ih2 ⊢
    simp (disch := omega) only [e_q0, e_nil, e_cons, e_q, e_qf, e_qt, e_af, z_hd, z_mk1, z_lg, z_s1, z_s2, z_kl, z_en, z_kI, z_fv, z_ic, z_c1, z_sh, z_pop, z_rc, z_tgt, z_tsw, z_lsw, z_nw, z_ac, o_kI, o_kL, o_ldi, o_ldl, o_lda, o_sti, o_sta, o_stl, o_inc, o_b2, o_bz, o_l2, o_lz, o_ls, o_lneg, o_i2l, o_l2i, o_lcmp, o_dup, o_dupx1, o_dup2, o_if, o_if2, o_ifnull, o_get, o_put, o_iald, o_zald, o_aald, o_alen, o_iast, o_zast, o_aast, o_new, o_newa, o_call, o_call1, o_callN, o_obj, o_reti, o_retl, o_ret, o_tsw, o_lsw, va_rf_s, va_rf_n, z_u2_s, z_u2_k, z_u2_f, z_uR_f, z_uL_f, e_ix, e_vp, e_lt, e_le, e_eq, e_lt0, e_eq0, e_b0, e_b1, e_10, e_11, true_or, or_true, false_or, nI_add, z_bi_0, z_bi_1, e_bb, z_uR_s, z_uR_k, z_uL_s, z_uL_k, true_and, and_true, and_self, not_true_eq_false, not_false_eq_true, forall_const, Option.toList, List.cons_append, List.nil_append, List.singleton_append, Nat.reduceAdd, Nat.zero_add, Nat.add_zero, Nat.reduceEqDiff, ↓reduceIte, ite_true, ite_false, reduceCtorEq, Int.cast_ofNat_Int, Int.reduceAdd, Int.reduceToNat, ne_eq, false_imp_iff, true_imp_iff, cl_116, bf_116_0, bf_116_4, bf_116_24, bf_116_28, bf_116_29, bf_116_36, bf_116_53, bf_116_54, bo_116_0, bo_116_4, bo_116_24, bo_116_28, bo_116_29, bo_116_36, bo_116_53, bo_116_54, hS]
    cases b
    · first
      | exact ⟨fun _ => ih2 true rfl, fun q => absurd rfl q⟩
      | exact ih2 true rfl
    · first
      | exact ⟨fun q => absurd q (by decide), fun _ => ih2 false rfl⟩
      | exact ih2 false rfl
end
/-! taking a letter -/
def rd_sign (R : ZRd) (x : Int32) : Bool × ZRd :=
  if x = nI 103 ∨ x = nI 108 then (decide (R.1.1.1 < 8), (R.1, (R.2.1, x, 1)))
  else if x = nI 114 then (if R.1.1.1 = 8 then (false, (R.1, (R.2.1, x, 0))) else (true, (((R.1.1.1 + 1, R.1.1.2), z_u2 (z_u2 (z_u2 (z_u2 R.1.2 0 R.1.1.1 (nI 1)) 1 R.1.1.1 (nI 0)) 2 R.1.1.1 (nI 0)) 3 R.1.1.1 (nI 0)), (R.2.1, x, 0))))
  else if x = nI 107 then (f_mal R R.1.1.1 && decide (R.1.1.2 < 9), (R.1, (R.2.1, x, 1)))
  else (false, (R.1, (R.2.1, x, 1)))
def rd_gate (R : ZRd) (f : Int32) : Bool × ZRd :=
  if f_in f 0 9 = true then (true, (((R.1.1.1 + 1, R.1.1.2), z_u2 (z_u2 (z_u2 (z_u2 R.1.2 0 R.1.1.1 (nI 0)) 1 R.1.1.1 (nI 0)) 2 R.1.1.1 (nI 0)) 3 R.1.1.1 f), (R.2.1, R.2.2.1, 0)))
  else (false, (R.1, (R.2.1, R.2.2.1, 0)))
def rd_leaf (R : ZRd) (f : Int32) : Bool × ZRd :=
  if R.2.2.2 = 1 then (f_in f 1 9, ((R.1.1, z_u2 R.1.2 1 R.1.1.1 f), (R.2.1, R.2.2.1, 2)))
  else if nI 0 ≤ f ∧ f ≤ R.1.2 1 R.1.1.1 - nI 1 then (true, (((R.1.1.1 + 1, R.1.1.2), z_u2 (z_u2 (z_u2 R.1.2 0 R.1.1.1 (nI 2)) 2 R.1.1.1 f) 3 R.1.1.1 (nI 0)), (R.2.1, R.2.2.1, 0)))
  else (false, (R.1, (R.2.1, R.2.2.1, 0)))
def rd_link (R : ZRd) (f : Int32) : Bool × ZRd :=
  if R.2.2.2 = 1 then (f_idx f R.1.1.1 && !f_ful R (z_ix f) R.1.1.1, ((R.1.1, z_u2 R.1.2 4 R.1.1.2 f), (R.2.1, R.2.2.1, 2)))
  else if R.2.2.2 = 2 then (f_idx f R.1.1.1 && (decide (f ≠ R.1.2 4 R.1.1.2) && !f_lkd R.1.2 (z_ix (R.1.2 4 R.1.1.2)) (z_ix f) R.1.1.2), ((R.1.1, z_u2 R.1.2 5 R.1.1.2 f), (R.2.1, R.2.2.1, 3)))
  else if R.2.2.2 = 3 then (f_in f 0 9, ((R.1.1, z_u2 R.1.2 6 R.1.1.2 f), (R.2.1, R.2.2.1, 4)))
  else if R.2.2.2 = 4 then (f_in f 0 9, ((R.1.1, z_u2 R.1.2 7 R.1.1.2 f), (R.2.1, R.2.2.1, 5)))
  else if f_in f 1 9 = true then (true, (((R.1.1.1, R.1.1.2 + 1), z_u2 R.1.2 8 R.1.1.2 f), (R.2.1, R.2.2.1, 0)))
  else (false, (R.1, (R.2.1, R.2.2.1, 0)))
def rd_take (R : ZRd) (x : Int32) : Bool × ZRd :=
  if R.2.2.2 = 0 then rd_sign R x
  else if R.2.2.1 = nI 77 then (f_in (x - nI 48) 0 9, (R.1, (x - nI 48, R.2.2.1, 0)))
  else if R.2.2.1 = nI 103 then rd_gate R (x - nI 48)
  else if R.2.2.1 = nI 108 then rd_leaf R (x - nI 48)
  else rd_link R (x - nI 48)
/-- the letters that end a text's part -/
def rd_ok (R : ZRd) : Prop := R.1.1.1 ≤ 8 ∧ R.1.1.2 ≤ 9 ∧ R.2.2.2 ≤ 5 ∧ (R.2.2.2 = 0 ∨ R.2.2.1 = nI 77 ∨ ((R.2.2.1 = nI 103 ∨ R.2.2.1 = nI 108) ∧ R.1.1.1 < 8) ∨ (R.2.2.1 = nI 107 ∧ R.1.1.2 < 9 ∧ (R.2.2.2 = 2 → ∃ a, a < R.1.1.1 ∧ R.1.2 4 R.1.1.2 = nI a)))
theorem f_lkd_w {F : Nat → Nat → Int32} {a b i m : Nat} {v : Int32} : ∀ k, k ≤ m → f_lkd (z_u2 F i m v) a b k = f_lkd F a b k
  | 0, _ => rfl
  | k + 1, h => by
    unfold f_lkd
    rw [f_lkd_w k (by omega), z_u2_k (by omega), z_u2_k (by omega)]
section
variable {l : Launch} {G : ZG} {mi : Nat → Nat → Int32} {mr : Nat → Nat → Option Nat} {ml : Nat → Nat → Int64} {T : (Nat → Nat × Nat) × Nat × Nat} {Q : ZR} {R : ZRd}
/-- what reading may change: the arrays that are read into and the reader's fields -/
abbrev rd_fr (f mi : Nat → Nat → Int32) : Prop := (∀ c, c ≠ 373 → c < 392 → f c = mi c) ∧ ∀ j, j ≠ 26 → j ≠ 31 → j ≠ 37 → j ≠ 38 → j ≠ 39 → f 373 j = mi 373 j
theorem z_u2_z {F : Nat → Nat → Int32} {a k b : Nat} {v : Int32} : z_u2 F a k v b = if b = a then f_set (F a) k v else F b := by
  by_cases q : b = a
  · rw [if_pos q]
    subst q
    funext j
    by_cases q2 : j = k
    · rw [q2, z_u2_s]; exact (if_pos rfl).symm
    · rw [z_u2_k q2]; exact (if_neg q2).symm
  · rw [if_neg q, z_u2_f q]
theorem k_takeOfGateway {x : Int32} (hS : SM T mr) (hR : PR R mi) (hn : R.1.1.1 < 8) (hQ : ∀ f, PR (rd_gate R x).2 f → rd_fr f mi → Q (some (.int (z_bi (rd_gate R x).1))) (f, mr, ml, T)) : z_Ok l G m_Model_takeOfGateway [.ref 373, .int x] (mi, mr, ml, T) Q := by
  have hs := hR.1
  have ht := hR.2
  unfold rd_gate at hQ
  refine z_okN cz_118.1 (by rw [cl_118]; exact Nat.le_of_ble_eq_true rfl) cz_118.2 (z_run ck_118 3 bf_118_0 ?_)
  simp (disch := omega) only [e_q0, e_nil, e_cons, e_q, e_qf, e_qt, e_af, z_hd, z_mk1, z_lg, z_s1, z_s2, z_kl, z_en, z_kI, z_fv, z_ic, z_c1, z_sh, z_pop, z_rc, z_tgt, z_tsw, z_lsw, z_nw, z_ac, o_kI, o_kL, o_ldi, o_ldl, o_lda, o_sti, o_sta, o_stl, o_inc, o_b2, o_bz, o_l2, o_lz, o_ls, o_lneg, o_i2l, o_l2i, o_lcmp, o_dup, o_dupx1, o_dup2, o_if, o_if2, o_ifnull, o_get, o_put, o_iald, o_zald, o_aald, o_alen, o_iast, o_zast, o_aast, o_new, o_newa, o_call, o_call1, o_callN, o_obj, o_reti, o_retl, o_ret, o_tsw, o_lsw, va_rf_s, va_rf_n, z_u2_s, z_u2_k, z_u2_f, z_uR_f, z_uL_f, e_ix, e_vp, e_lt, e_le, e_eq, e_lt0, e_eq0, e_b0, e_b1, e_10, e_11, true_or, or_true, false_or, nI_add, z_bi_0, z_bi_1, e_bb, z_uR_s, z_uR_k, z_uL_s, z_uL_k, true_and, and_true, and_self, not_true_eq_false, not_false_eq_true, forall_const, Option.toList, List.cons_append, List.nil_append, List.singleton_append, Nat.reduceAdd, Nat.zero_add, Nat.add_zero, Nat.reduceEqDiff, ↓reduceIte, ite_true, ite_false, reduceCtorEq, Int.cast_ofNat_Int, Int.reduceAdd, Int.reduceToNat, ne_eq, false_imp_iff, true_imp_iff, cl_118, bf_118_0, bf_118_19, bo_118_0, bo_118_19, hS, hs, ht]
  refine k_inI (by omega) (by omega) ?_
  simp (disch := omega) only [e_q0, e_nil, e_cons, e_q, e_qf, e_qt, e_af, z_hd, z_mk1, z_lg, z_s1, z_s2, z_kl, z_en, z_kI, z_fv, z_ic, z_c1, z_sh, z_pop, z_rc, z_tgt, z_tsw, z_lsw, z_nw, z_ac, o_kI, o_kL, o_ldi, o_ldl, o_lda, o_sti, o_sta, o_stl, o_inc, o_b2, o_bz, o_l2, o_lz, o_ls, o_lneg, o_i2l, o_l2i, o_lcmp, o_dup, o_dupx1, o_dup2, o_if, o_if2, o_ifnull, o_get, o_put, o_iald, o_zald, o_aald, o_alen, o_iast, o_zast, o_aast, o_new, o_newa, o_call, o_call1, o_callN, o_obj, o_reti, o_retl, o_ret, o_tsw, o_lsw, va_rf_s, va_rf_n, z_u2_s, z_u2_k, z_u2_f, z_uR_f, z_uL_f, e_ix, e_vp, e_lt, e_le, e_eq, e_lt0, e_eq0, e_b0, e_b1, e_10, e_11, true_or, or_true, false_or, nI_add, z_bi_0, z_bi_1, e_bb, z_uR_s, z_uR_k, z_uL_s, z_uL_k, true_and, and_true, and_self, not_true_eq_false, not_false_eq_true, forall_const, Option.toList, List.cons_append, List.nil_append, List.singleton_append, Nat.reduceAdd, Nat.zero_add, Nat.add_zero, Nat.reduceEqDiff, ↓reduceIte, ite_true, ite_false, reduceCtorEq, Int.cast_ofNat_Int, Int.reduceAdd, Int.reduceToNat, ne_eq, false_imp_iff, true_imp_iff, cl_118, bf_118_0, bf_118_19, bo_118_0, bo_118_19, hS, hs, ht]
  refine ⟨fun c => ?_, fun c => ?_⟩
  · rw [if_neg (by rw [c]; decide)] at hQ
    refine hQ _ ?_ ⟨fun c c1 c2 => z_u2_f c1, fun j j1 j2 j3 j4 j5 => z_u2_k j5⟩
    simp (disch := omega) only [PR, z_u2_f, z_u2_k, z_u2_s, hs, ht, and_self]
  · rw [if_pos (by rw [← Bool.not_eq_false]; exact c)] at hQ
    refine hQ _ ?_ ⟨fun c c1 c2 => by simp (disch := omega) only [z_u2_f], fun j j1 j2 j3 j4 j5 => by simp (disch := omega) only [z_u2_f, z_u2_k]⟩
    simp (disch := omega) only [PR, z_u2_z, z_u2_f, z_u2_k, z_u2_s, hs, ht, and_self, Nat.reduceEqDiff, ↓reduceIte]
    done
end
