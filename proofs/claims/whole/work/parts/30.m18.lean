theorem f_ful_1 {R : ZRd} {i a : Nat} {v : Int32} {y : Int32 × Int32 × Nat} : ∀ k, f_ful ((R.1.1, z_u2 R.1.2 i R.1.1.2 v), y) a k = f_ful R a k
  | 0 => rfl
  | k + 1 => by
    unfold f_ful
    rw [f_ful_1 k, f_lkd_w _ (Nat.le_refl _)]
theorem f_ful_2 {R : ZRd} {a : Nat} {y : Int32 × Int32 × Nat} : ∀ k, f_ful (R.1, y) a k = f_ful R a k
  | 0 => rfl
  | k + 1 => by
    unfold f_ful
    rw [f_ful_2 k]
theorem f_mal_1 {R : ZRd} {y : Int32 × Int32 × Nat} : ∀ k, f_mal (R.1, y) k = f_mal R k
  | 0 => rfl
  | k + 1 => by
    unfold f_mal
    rw [f_mal_1 k, f_ful_2]
section
variable {l : Launch} {G : ZG} {mi : Nat → Nat → Int32} {mr : Nat → Nat → Option Nat} {ml : Nat → Nat → Int64} {T : (Nat → Nat × Nat) × Nat × Nat} {Q : ZR} {R : ZRd}
theorem k_takeSign {x : Int32} (hS : SM T mr) (hR : PR R mi) (hn : R.1.1.1 ≤ 8) (hm : R.1.1.2 ≤ 9) (hQ : ∀ f, PR (rd_sign R x).2 f → rd_fr f mi → Q (some (.int (z_bi (rd_sign R x).1))) (f, mr, ml, T)) : z_Ok l G m_Model_takeSign [.ref 373, .int x] (mi, mr, ml, T) Q := by
  have hs := hR.1
  have ht := hR.2
  have fr1 : rd_fr (z_u2 (z_u2 mi 373 38 x) 373 39 (nI 1)) mi := ⟨fun c c1 c2 => by rw [z_u2_f c1, z_u2_f c1], fun j j1 j2 j3 j4 j5 => by rw [z_u2_k j5, z_u2_k j4]⟩
  have pr1 : PR (R.1, (R.2.1, x, 1)) (z_u2 (z_u2 mi 373 38 x) 373 39 (nI 1)) := by
    simp (disch := omega) only [PR, z_u2_f, z_u2_k, z_u2_s, hs, ht, and_self]
  have rt : ∀ (Z : Bool × ZRd) (b : Bool) (f : Nat → Nat → Int32), Z = rd_sign R x → b = Z.1 → PR Z.2 f → rd_fr f mi → Q (some (.int (z_bi b))) (f, mr, ml, T) := fun Z b f h1 h2 h3 h4 => by subst h1; subst h2; exact hQ f h3 h4
  unfold rd_sign at rt
  refine z_okN cz_117.1 (by rw [cl_117]; exact Nat.le_of_ble_eq_true rfl) cz_117.2 (z_run ck_117 9 bf_117_0 ?_)
  simp (disch := omega) only [e_q0, e_nil, e_cons, e_q, e_qf, e_qt, e_af, z_hd, z_mk1, z_lg, z_s1, z_s2, z_kl, z_en, z_kI, z_fv, z_ic, z_c1, z_sh, z_pop, z_rc, z_tgt, z_tsw, z_lsw, z_nw, z_ac, o_kI, o_kL, o_ldi, o_ldl, o_lda, o_sti, o_sta, o_stl, o_inc, o_b2, o_bz, o_l2, o_lz, o_ls, o_lneg, o_i2l, o_l2i, o_lcmp, o_dup, o_dupx1, o_dup2, o_if, o_if2, o_ifnull, o_get, o_put, o_iald, o_zald, o_aald, o_alen, o_iast, o_zast, o_aast, o_new, o_newa, o_call, o_call1, o_callN, o_obj, o_reti, o_retl, o_ret, o_tsw, o_lsw, va_rf_s, va_rf_n, z_u2_s, z_u2_k, z_u2_f, z_uR_f, z_uL_f, e_ix, e_vp, e_lt, e_le, e_eq, e_lt0, e_eq0, e_b0, e_b1, e_10, e_11, true_or, or_true, false_or, nI_add, z_bi_0, z_bi_1, e_bb, z_uR_s, z_uR_k, z_uL_s, z_uL_k, true_and, and_true, and_self, not_true_eq_false, not_false_eq_true, forall_const, Option.toList, List.cons_append, List.nil_append, List.singleton_append, Nat.reduceAdd, Nat.zero_add, Nat.add_zero, Nat.reduceEqDiff, ↓reduceIte, ite_true, ite_false, reduceCtorEq, Int.cast_ofNat_Int, Int.reduceAdd, Int.reduceToNat, ne_eq, false_imp_iff, true_imp_iff, cl_117, bf_117_0, bf_117_52, bf_117_65, bf_117_66, bf_117_67, bf_117_83, bf_117_135, bf_117_140, bo_117_0, bo_117_52, bo_117_65, bo_117_66, bo_117_67, bo_117_83, bo_117_135, bo_117_140, hS, hs, ht]
  refine ⟨fun c1 => ?_, fun c1 => ⟨fun c2 => ?_, fun c2 => ⟨fun c3 => ?_, fun c3 => ⟨fun c4 => ?_, fun c4 => ?_⟩⟩⟩⟩
  · refine ⟨fun c => rt (false, _) false _ ?_ rfl pr1 fr1, fun c => rt (true, _) true _ ?_ rfl pr1 fr1⟩
    · rw [if_pos (Or.inl c1), decide_eq_false (by omega)]
    · rw [if_pos (Or.inl c1), decide_eq_true (by omega)]
  · refine k_mayLink hS pr1 hn hm ?_
    simp (disch := omega) only [e_q0, e_nil, e_cons, e_q, e_qf, e_qt, e_af, z_hd, z_mk1, z_lg, z_s1, z_s2, z_kl, z_en, z_kI, z_fv, z_ic, z_c1, z_sh, z_pop, z_rc, z_tgt, z_tsw, z_lsw, z_nw, z_ac, o_kI, o_kL, o_ldi, o_ldl, o_lda, o_sti, o_sta, o_stl, o_inc, o_b2, o_bz, o_l2, o_lz, o_ls, o_lneg, o_i2l, o_l2i, o_lcmp, o_dup, o_dupx1, o_dup2, o_if, o_if2, o_ifnull, o_get, o_put, o_iald, o_zald, o_aald, o_alen, o_iast, o_zast, o_aast, o_new, o_newa, o_call, o_call1, o_callN, o_obj, o_reti, o_retl, o_ret, o_tsw, o_lsw, va_rf_s, va_rf_n, z_u2_s, z_u2_k, z_u2_f, z_uR_f, z_uL_f, e_ix, e_vp, e_lt, e_le, e_eq, e_lt0, e_eq0, e_b0, e_b1, e_10, e_11, true_or, or_true, false_or, nI_add, z_bi_0, z_bi_1, e_bb, z_uR_s, z_uR_k, z_uL_s, z_uL_k, true_and, and_true, and_self, not_true_eq_false, not_false_eq_true, forall_const, Option.toList, List.cons_append, List.nil_append, List.singleton_append, Nat.reduceAdd, Nat.zero_add, Nat.add_zero, Nat.reduceEqDiff, ↓reduceIte, ite_true, ite_false, reduceCtorEq, Int.cast_ofNat_Int, Int.reduceAdd, Int.reduceToNat, ne_eq, false_imp_iff, true_imp_iff, cl_117, bf_117_0, bf_117_52, bf_117_65, bf_117_66, bf_117_67, bf_117_83, bf_117_135, bf_117_140, bo_117_0, bo_117_52, bo_117_65, bo_117_66, bo_117_67, bo_117_83, bo_117_135, bo_117_140, hS]
    refine rt (_, (R.1, (R.2.1, x, 1))) _ _ ?_ rfl pr1 fr1
    rw [if_neg (fun q => q.elim c1 (fun q => by rw [c2] at q; exact absurd q (by decide))), if_neg (fun q => by rw [c2] at q; exact absurd q (by decide)), if_pos c2, f_mal_1]
    rfl
  · refine ⟨fun c => rt (false, _) false _ ?_ rfl pr1 fr1, fun c => rt (true, _) true _ ?_ rfl pr1 fr1⟩
    · rw [if_pos (Or.inr c3), decide_eq_false (by omega)]
    · rw [if_pos (Or.inr c3), decide_eq_true (by omega)]
  · refine ⟨fun c => ?_, fun c => ?_⟩
    · refine rt (false, (R.1, (R.2.1, x, 0))) false _ ?_ rfl ?_ ?_
      · rw [if_neg (fun q => q.elim c1 c3), if_pos c4, if_pos c]
      · simp (disch := omega) only [PR, z_u2_f, z_u2_k, z_u2_s, hs, ht, and_self]
      · exact ⟨fun c c1 c2 => by simp (disch := omega) only [z_u2_f], fun j j1 j2 j3 j4 j5 => by simp (disch := omega) only [z_u2_k]⟩
    · have hn8 : R.1.1.1 < 8 := by omega
      rw [if_neg (fun q => q.elim c1 c3), if_pos c4, if_neg c] at rt
      rw [e_vp hn8 (by omega)]
      refine ⟨trivial, trivial, trivial, trivial, rt _ true _ rfl rfl ?_ ?_⟩
      · simp (disch := omega) only [PR, z_u2_z, z_u2_f, z_u2_k, z_u2_s, hs, ht, and_self, Nat.reduceEqDiff, ↓reduceIte]
      · exact ⟨fun c c1 c2 => by simp (disch := omega) only [z_u2_f], fun j j1 j2 j3 j4 j5 => by simp (disch := omega) only [z_u2_f, z_u2_k]⟩
  · refine rt _ false _ rfl ?_ ?_ ?_
    · rw [if_neg (fun q => q.elim c1 c3), if_neg c4, if_neg c2]
    · rw [if_neg (fun q => q.elim c1 c3), if_neg c4, if_neg c2]; exact pr1
    · exact fr1
theorem k_takeOfLeaf {x : Int32} (hS : SM T mr) (hR : PR R mi) (hn : R.1.1.1 < 8) (hp : R.2.2.2 ≤ 5) (hQ : ∀ f, PR (rd_leaf R x).2 f → rd_fr f mi → Q (some (.int (z_bi (rd_leaf R x).1))) (f, mr, ml, T)) : z_Ok l G m_Model_takeOfLeaf [.ref 373, .int x] (mi, mr, ml, T) Q := by
  have hs := hR.1
  have ht := hR.2
  unfold rd_leaf at hQ
  refine z_okN cz_119.1 (by rw [cl_119]; exact Nat.le_of_ble_eq_true rfl) cz_119.2 (z_run ck_119 4 bf_119_0 ?_)
  simp (disch := omega) only [e_q0, e_nil, e_cons, e_q, e_qf, e_qt, e_af, z_hd, z_mk1, z_lg, z_s1, z_s2, z_kl, z_en, z_kI, z_fv, z_ic, z_c1, z_sh, z_pop, z_rc, z_tgt, z_tsw, z_lsw, z_nw, z_ac, o_kI, o_kL, o_ldi, o_ldl, o_lda, o_sti, o_sta, o_stl, o_inc, o_b2, o_bz, o_l2, o_lz, o_ls, o_lneg, o_i2l, o_l2i, o_lcmp, o_dup, o_dupx1, o_dup2, o_if, o_if2, o_ifnull, o_get, o_put, o_iald, o_zald, o_aald, o_alen, o_iast, o_zast, o_aast, o_new, o_newa, o_call, o_call1, o_callN, o_obj, o_reti, o_retl, o_ret, o_tsw, o_lsw, va_rf_s, va_rf_n, z_u2_s, z_u2_k, z_u2_f, z_uR_f, z_uL_f, e_ix, e_vp, e_lt, e_le, e_eq, e_lt0, e_eq0, e_b0, e_b1, e_10, e_11, true_or, or_true, false_or, nI_add, z_bi_0, z_bi_1, e_bb, z_uR_s, z_uR_k, z_uL_s, z_uL_k, true_and, and_true, and_self, not_true_eq_false, not_false_eq_true, forall_const, Option.toList, List.cons_append, List.nil_append, List.singleton_append, Nat.reduceAdd, Nat.zero_add, Nat.add_zero, Nat.reduceEqDiff, ↓reduceIte, ite_true, ite_false, reduceCtorEq, Int.cast_ofNat_Int, Int.reduceAdd, Int.reduceToNat, ne_eq, false_imp_iff, true_imp_iff, cl_119, bf_119_0, bf_119_33, bf_119_61, bo_119_0, bo_119_33, bo_119_61, hS, hs, ht]
  refine ⟨fun c => ?_, fun c => ?_⟩
  · rw [if_pos c] at hQ
    refine k_inI (by omega) (by omega) ?_
    simp (disch := omega) only [e_q0, e_nil, e_cons, e_q, e_qf, e_qt, e_af, z_hd, z_mk1, z_lg, z_s1, z_s2, z_kl, z_en, z_kI, z_fv, z_ic, z_c1, z_sh, z_pop, z_rc, z_tgt, z_tsw, z_lsw, z_nw, z_ac, o_kI, o_kL, o_ldi, o_ldl, o_lda, o_sti, o_sta, o_stl, o_inc, o_b2, o_bz, o_l2, o_lz, o_ls, o_lneg, o_i2l, o_l2i, o_lcmp, o_dup, o_dupx1, o_dup2, o_if, o_if2, o_ifnull, o_get, o_put, o_iald, o_zald, o_aald, o_alen, o_iast, o_zast, o_aast, o_new, o_newa, o_call, o_call1, o_callN, o_obj, o_reti, o_retl, o_ret, o_tsw, o_lsw, va_rf_s, va_rf_n, z_u2_s, z_u2_k, z_u2_f, z_uR_f, z_uL_f, e_ix, e_vp, e_lt, e_le, e_eq, e_lt0, e_eq0, e_b0, e_b1, e_10, e_11, true_or, or_true, false_or, nI_add, z_bi_0, z_bi_1, e_bb, z_uR_s, z_uR_k, z_uL_s, z_uL_k, true_and, and_true, and_self, not_true_eq_false, not_false_eq_true, forall_const, Option.toList, List.cons_append, List.nil_append, List.singleton_append, Nat.reduceAdd, Nat.zero_add, Nat.add_zero, Nat.reduceEqDiff, ↓reduceIte, ite_true, ite_false, reduceCtorEq, Int.cast_ofNat_Int, Int.reduceAdd, Int.reduceToNat, ne_eq, false_imp_iff, true_imp_iff, cl_119, bf_119_0, bf_119_33, bf_119_61, bo_119_0, bo_119_33, bo_119_61, hS]
    refine hQ _ ?_ ⟨fun c c1 c2 => by simp (disch := omega) only [z_u2_f], fun j j1 j2 j3 j4 j5 => by simp (disch := omega) only [z_u2_f, z_u2_k]⟩
    simp (disch := omega) only [PR, z_u2_z, z_u2_f, z_u2_k, z_u2_s, hs, ht, and_self, Nat.reduceEqDiff, ↓reduceIte]
    done
  · rw [if_neg c] at hQ
    rw [e_lNI (by omega)]
    refine k_in ?_
    simp (disch := omega) only [e_q0, e_nil, e_cons, e_q, e_qf, e_qt, e_af, z_hd, z_mk1, z_lg, z_s1, z_s2, z_kl, z_en, z_kI, z_fv, z_ic, z_c1, z_sh, z_pop, z_rc, z_tgt, z_tsw, z_lsw, z_nw, z_ac, o_kI, o_kL, o_ldi, o_ldl, o_lda, o_sti, o_sta, o_stl, o_inc, o_b2, o_bz, o_l2, o_lz, o_ls, o_lneg, o_i2l, o_l2i, o_lcmp, o_dup, o_dupx1, o_dup2, o_if, o_if2, o_ifnull, o_get, o_put, o_iald, o_zald, o_aald, o_alen, o_iast, o_zast, o_aast, o_new, o_newa, o_call, o_call1, o_callN, o_obj, o_reti, o_retl, o_ret, o_tsw, o_lsw, va_rf_s, va_rf_n, z_u2_s, z_u2_k, z_u2_f, z_uR_f, z_uL_f, e_ix, e_vp, e_lt, e_le, e_eq, e_lt0, e_eq0, e_b0, e_b1, e_10, e_11, true_or, or_true, false_or, nI_add, z_bi_0, z_bi_1, e_bb, z_uR_s, z_uR_k, z_uL_s, z_uL_k, true_and, and_true, and_self, not_true_eq_false, not_false_eq_true, forall_const, Option.toList, List.cons_append, List.nil_append, List.singleton_append, Nat.reduceAdd, Nat.zero_add, Nat.add_zero, Nat.reduceEqDiff, ↓reduceIte, ite_true, ite_false, reduceCtorEq, Int.cast_ofNat_Int, Int.reduceAdd, Int.reduceToNat, ne_eq, false_imp_iff, true_imp_iff, cl_119, bf_119_0, bf_119_33, bf_119_61, bo_119_0, bo_119_33, bo_119_61, hS, e_wide]
    refine ⟨fun c => ?_, fun c => ?_⟩
    · rw [if_neg (fun q => by rw [decide_eq_true q.1, decide_eq_true q.2] at c; cases c)] at hQ
      refine hQ _ ?_ ⟨fun c c1 c2 => by simp (disch := omega) only [z_u2_f], fun j j1 j2 j3 j4 j5 => by simp (disch := omega) only [z_u2_f, z_u2_k]⟩
      simp (disch := omega) only [PR, z_u2_z, z_u2_f, z_u2_k, z_u2_s, hs, ht, and_self, Nat.reduceEqDiff, ↓reduceIte]
    · rw [Bool.not_eq_false, Bool.and_eq_true, decide_eq_true_eq, decide_eq_true_eq] at c
      rw [if_pos c] at hQ
      simp (disch := omega) only [e_q0, e_nil, e_cons, e_q, e_qf, e_qt, e_af, z_hd, z_mk1, z_lg, z_s1, z_s2, z_kl, z_en, z_kI, z_fv, z_ic, z_c1, z_sh, z_pop, z_rc, z_tgt, z_tsw, z_lsw, z_nw, z_ac, o_kI, o_kL, o_ldi, o_ldl, o_lda, o_sti, o_sta, o_stl, o_inc, o_b2, o_bz, o_l2, o_lz, o_ls, o_lneg, o_i2l, o_l2i, o_lcmp, o_dup, o_dupx1, o_dup2, o_if, o_if2, o_ifnull, o_get, o_put, o_iald, o_zald, o_aald, o_alen, o_iast, o_zast, o_aast, o_new, o_newa, o_call, o_call1, o_callN, o_obj, o_reti, o_retl, o_ret, o_tsw, o_lsw, va_rf_s, va_rf_n, z_u2_s, z_u2_k, z_u2_f, z_uR_f, z_uL_f, e_ix, e_vp, e_lt, e_le, e_eq, e_lt0, e_eq0, e_b0, e_b1, e_10, e_11, true_or, or_true, false_or, nI_add, z_bi_0, z_bi_1, e_bb, z_uR_s, z_uR_k, z_uL_s, z_uL_k, true_and, and_true, and_self, not_true_eq_false, not_false_eq_true, forall_const, Option.toList, List.cons_append, List.nil_append, List.singleton_append, Nat.reduceAdd, Nat.zero_add, Nat.add_zero, Nat.reduceEqDiff, ↓reduceIte, ite_true, ite_false, reduceCtorEq, Int.cast_ofNat_Int, Int.reduceAdd, Int.reduceToNat, ne_eq, false_imp_iff, true_imp_iff, cl_119, bf_119_0, bf_119_33, bf_119_61, bo_119_0, bo_119_33, bo_119_61, hS, hs]
      refine hQ _ ?_ ⟨fun c c1 c2 => by simp (disch := omega) only [z_u2_f], fun j j1 j2 j3 j4 j5 => by simp (disch := omega) only [z_u2_f, z_u2_k]⟩
      simp (disch := omega) only [PR, z_u2_z, z_u2_f, z_u2_k, z_u2_s, hs, ht, and_self, Nat.reduceEqDiff, ↓reduceIte]
      done
theorem k_takeOfLink {x : Int32} (hS : SM T mr) (hR : PR R mi) (hn : R.1.1.1 ≤ 8) (hm : R.1.1.2 < 9) (hp : R.2.2.2 ≤ 5) (hp1 : ¬ R.2.2.2 = 0) (ha : R.2.2.2 = 2 → ∃ a, a < R.1.1.1 ∧ R.1.2 4 R.1.1.2 = nI a) (hQ : ∀ f, PR (rd_link R x).2 f → rd_fr f mi → Q (some (.int (z_bi (rd_link R x).1))) (f, mr, ml, T)) : z_Ok l G m_Model_takeOfLink [.ref 373, .int x] (mi, mr, ml, T) Q := by
  have hs := hR.1
  have ht := hR.2
  unfold rd_link at hQ
  refine z_okN cz_120.1 (by rw [cl_120]; exact Nat.le_of_ble_eq_true rfl) cz_120.2 (z_run ck_120 12 bf_120_0 ?_)
  simp (disch := omega) only [e_q0, e_nil, e_cons, e_q, e_qf, e_qt, e_af, z_hd, z_mk1, z_lg, z_s1, z_s2, z_kl, z_en, z_kI, z_fv, z_ic, z_c1, z_sh, z_pop, z_rc, z_tgt, z_tsw, z_lsw, z_nw, z_ac, o_kI, o_kL, o_ldi, o_ldl, o_lda, o_sti, o_sta, o_stl, o_inc, o_b2, o_bz, o_l2, o_lz, o_ls, o_lneg, o_i2l, o_l2i, o_lcmp, o_dup, o_dupx1, o_dup2, o_if, o_if2, o_ifnull, o_get, o_put, o_iald, o_zald, o_aald, o_alen, o_iast, o_zast, o_aast, o_new, o_newa, o_call, o_call1, o_callN, o_obj, o_reti, o_retl, o_ret, o_tsw, o_lsw, va_rf_s, va_rf_n, z_u2_s, z_u2_k, z_u2_f, z_uR_f, z_uL_f, e_ix, e_vp, e_lt, e_le, e_eq, e_lt0, e_eq0, e_b0, e_b1, e_10, e_11, true_or, or_true, false_or, nI_add, z_bi_0, z_bi_1, e_bb, z_uR_s, z_uR_k, z_uL_s, z_uL_k, true_and, and_true, and_self, not_true_eq_false, not_false_eq_true, forall_const, Option.toList, List.cons_append, List.nil_append, List.singleton_append, Nat.reduceAdd, Nat.zero_add, Nat.add_zero, Nat.reduceEqDiff, ↓reduceIte, ite_true, ite_false, reduceCtorEq, Int.cast_ofNat_Int, Int.reduceAdd, Int.reduceToNat, ne_eq, false_imp_iff, true_imp_iff, cl_120, bf_120_0, bf_120_40, bf_120_80, bf_120_81, bf_120_82, bf_120_138, bf_120_139, bf_120_140, bf_120_162, bf_120_184, bf_120_203, bo_120_0, bo_120_40, bo_120_80, bo_120_81, bo_120_82, bo_120_138, bo_120_139, bo_120_140, bo_120_162, bo_120_184, bo_120_203, hS, hs, ht]
  refine ⟨fun c => absurd c (by omega), fun c => ?_, fun c => ?_, fun c => ?_, fun c => ?_, fun c => ?_⟩
  · rw [if_neg (by omega), if_neg (by omega), if_neg (by omega), if_neg (by omega)] at hQ
    refine k_inI (by omega) (by omega) ?_
    simp (disch := omega) only [e_q0, e_nil, e_cons, e_q, e_qf, e_qt, e_af, z_hd, z_mk1, z_lg, z_s1, z_s2, z_kl, z_en, z_kI, z_fv, z_ic, z_c1, z_sh, z_pop, z_rc, z_tgt, z_tsw, z_lsw, z_nw, z_ac, o_kI, o_kL, o_ldi, o_ldl, o_lda, o_sti, o_sta, o_stl, o_inc, o_b2, o_bz, o_l2, o_lz, o_ls, o_lneg, o_i2l, o_l2i, o_lcmp, o_dup, o_dupx1, o_dup2, o_if, o_if2, o_ifnull, o_get, o_put, o_iald, o_zald, o_aald, o_alen, o_iast, o_zast, o_aast, o_new, o_newa, o_call, o_call1, o_callN, o_obj, o_reti, o_retl, o_ret, o_tsw, o_lsw, va_rf_s, va_rf_n, z_u2_s, z_u2_k, z_u2_f, z_uR_f, z_uL_f, e_ix, e_vp, e_lt, e_le, e_eq, e_lt0, e_eq0, e_b0, e_b1, e_10, e_11, true_or, or_true, false_or, nI_add, z_bi_0, z_bi_1, e_bb, z_uR_s, z_uR_k, z_uL_s, z_uL_k, true_and, and_true, and_self, not_true_eq_false, not_false_eq_true, forall_const, Option.toList, List.cons_append, List.nil_append, List.singleton_append, Nat.reduceAdd, Nat.zero_add, Nat.add_zero, Nat.reduceEqDiff, ↓reduceIte, ite_true, ite_false, reduceCtorEq, Int.cast_ofNat_Int, Int.reduceAdd, Int.reduceToNat, ne_eq, false_imp_iff, true_imp_iff, cl_120, bf_120_0, bf_120_40, bf_120_80, bf_120_81, bf_120_82, bf_120_138, bf_120_139, bf_120_140, bf_120_162, bf_120_184, bf_120_203, bo_120_0, bo_120_40, bo_120_80, bo_120_81, bo_120_82, bo_120_138, bo_120_139, bo_120_140, bo_120_162, bo_120_184, bo_120_203, hS, hs]
    refine ⟨fun c => ?_, fun c => ?_⟩
    · rw [if_neg (by rw [c]; decide)] at hQ
      refine hQ _ ?_ ⟨fun c c1 c2 => by simp (disch := omega) only [z_u2_f], fun j j1 j2 j3 j4 j5 => by simp (disch := omega) only [z_u2_f, z_u2_k]⟩
      simp (disch := omega) only [PR, z_u2_z, z_u2_f, z_u2_k, z_u2_s, hs, ht, and_self, Nat.reduceEqDiff, ↓reduceIte]
    · rw [if_pos (by rw [← Bool.not_eq_false]; exact c)] at hQ
      refine hQ _ ?_ ⟨fun c c1 c2 => by simp (disch := omega) only [z_u2_f], fun j j1 j2 j3 j4 j5 => by simp (disch := omega) only [z_u2_f, z_u2_k]⟩
      simp (disch := omega) only [PR, z_u2_z, z_u2_f, z_u2_k, z_u2_s, hs, ht, and_self, Nat.reduceEqDiff, ↓reduceIte]
  · rw [if_pos c] at hQ
    have fr1 : rd_fr (z_u2 (z_u2 mi 396 R.1.1.2 x) 373 39 (nI 2)) mi := ⟨fun c c1 c2 => by simp (disch := omega) only [z_u2_f], fun j j1 j2 j3 j4 j5 => by simp (disch := omega) only [z_u2_f, z_u2_k]⟩
    have pr1 : PR ((R.1.1, z_u2 R.1.2 4 R.1.1.2 x), (R.2.1, R.2.2.1, 2)) (z_u2 (z_u2 mi 396 R.1.1.2 x) 373 39 (nI 2)) := by
      simp (disch := omega) only [PR, z_u2_z, z_u2_f, z_u2_k, z_u2_s, hs, ht, and_self, Nat.reduceEqDiff, ↓reduceIte]
    have hq := hQ _ pr1 fr1
    rw [e_lNI (by omega)]
    refine k_in ?_
    simp (disch := omega) only [e_wide, e_pred]
    rw [← f_idx]
    simp (disch := omega) only [e_q0, e_nil, e_cons, e_q, e_qf, e_qt, e_af, z_hd, z_mk1, z_lg, z_s1, z_s2, z_kl, z_en, z_kI, z_fv, z_ic, z_c1, z_sh, z_pop, z_rc, z_tgt, z_tsw, z_lsw, z_nw, z_ac, o_kI, o_kL, o_ldi, o_ldl, o_lda, o_sti, o_sta, o_stl, o_inc, o_b2, o_bz, o_l2, o_lz, o_ls, o_lneg, o_i2l, o_l2i, o_lcmp, o_dup, o_dupx1, o_dup2, o_if, o_if2, o_ifnull, o_get, o_put, o_iald, o_zald, o_aald, o_alen, o_iast, o_zast, o_aast, o_new, o_newa, o_call, o_call1, o_callN, o_obj, o_reti, o_retl, o_ret, o_tsw, o_lsw, va_rf_s, va_rf_n, z_u2_s, z_u2_k, z_u2_f, z_uR_f, z_uL_f, e_ix, e_vp, e_lt, e_le, e_eq, e_lt0, e_eq0, e_b0, e_b1, e_10, e_11, true_or, or_true, false_or, nI_add, z_bi_0, z_bi_1, e_bb, z_uR_s, z_uR_k, z_uL_s, z_uL_k, true_and, and_true, and_self, not_true_eq_false, not_false_eq_true, forall_const, Option.toList, List.cons_append, List.nil_append, List.singleton_append, Nat.reduceAdd, Nat.zero_add, Nat.add_zero, Nat.reduceEqDiff, ↓reduceIte, ite_true, ite_false, reduceCtorEq, Int.cast_ofNat_Int, Int.reduceAdd, Int.reduceToNat, ne_eq, false_imp_iff, true_imp_iff, cl_120, bf_120_0, bf_120_40, bf_120_80, bf_120_81, bf_120_82, bf_120_138, bf_120_139, bf_120_140, bf_120_162, bf_120_184, bf_120_203, bo_120_0, bo_120_40, bo_120_80, bo_120_81, bo_120_82, bo_120_138, bo_120_139, bo_120_140, bo_120_162, bo_120_184, bo_120_203, hS]
    refine ⟨fun c2 => z_f0 hq (by rw [c2]; rfl), fun c2 => ?_⟩
    rw [Bool.not_eq_false] at c2
    rw [c2] at hq
    obtain ⟨a, ha2, rfl⟩ := f_idx_t (by omega) c2
    rw [e_ix (by omega)] at hq
    refine k_isFullAsRead hS pr1 hn (Nat.le_of_lt hm) (by omega) ?_
    rw [f_ful_1]
    simp (disch := omega) only [e_q0, e_nil, e_cons, e_q, e_qf, e_qt, e_af, z_hd, z_mk1, z_lg, z_s1, z_s2, z_kl, z_en, z_kI, z_fv, z_ic, z_c1, z_sh, z_pop, z_rc, z_tgt, z_tsw, z_lsw, z_nw, z_ac, o_kI, o_kL, o_ldi, o_ldl, o_lda, o_sti, o_sta, o_stl, o_inc, o_b2, o_bz, o_l2, o_lz, o_ls, o_lneg, o_i2l, o_l2i, o_lcmp, o_dup, o_dupx1, o_dup2, o_if, o_if2, o_ifnull, o_get, o_put, o_iald, o_zald, o_aald, o_alen, o_iast, o_zast, o_aast, o_new, o_newa, o_call, o_call1, o_callN, o_obj, o_reti, o_retl, o_ret, o_tsw, o_lsw, va_rf_s, va_rf_n, z_u2_s, z_u2_k, z_u2_f, z_uR_f, z_uL_f, e_ix, e_vp, e_lt, e_le, e_eq, e_lt0, e_eq0, e_b0, e_b1, e_10, e_11, true_or, or_true, false_or, nI_add, z_bi_0, z_bi_1, e_bb, z_uR_s, z_uR_k, z_uL_s, z_uL_k, true_and, and_true, and_self, not_true_eq_false, not_false_eq_true, forall_const, Option.toList, List.cons_append, List.nil_append, List.singleton_append, Nat.reduceAdd, Nat.zero_add, Nat.add_zero, Nat.reduceEqDiff, ↓reduceIte, ite_true, ite_false, reduceCtorEq, Int.cast_ofNat_Int, Int.reduceAdd, Int.reduceToNat, ne_eq, false_imp_iff, true_imp_iff, cl_120, bf_120_0, bf_120_40, bf_120_80, bf_120_81, bf_120_82, bf_120_138, bf_120_139, bf_120_140, bf_120_162, bf_120_184, bf_120_203, bo_120_0, bo_120_40, bo_120_80, bo_120_81, bo_120_82, bo_120_138, bo_120_139, bo_120_140, bo_120_162, bo_120_184, bo_120_203, hS]
    exact ⟨fun c3 => z_f1 hq (by rw [c3]; rfl), fun c3 => z_f0 hq (by rw [Bool.not_eq_false] at c3; rw [c3]; rfl)⟩
  · rw [if_neg (by omega), if_pos c] at hQ
    have fr1 : rd_fr (z_u2 (z_u2 mi 397 R.1.1.2 x) 373 39 (nI 3)) mi := ⟨fun c c1 c2 => by simp (disch := omega) only [z_u2_f], fun j j1 j2 j3 j4 j5 => by simp (disch := omega) only [z_u2_f, z_u2_k]⟩
    have pr1 : PR ((R.1.1, z_u2 R.1.2 5 R.1.1.2 x), (R.2.1, R.2.2.1, 3)) (z_u2 (z_u2 mi 397 R.1.1.2 x) 373 39 (nI 3)) := by
      simp (disch := omega) only [PR, z_u2_z, z_u2_f, z_u2_k, z_u2_s, hs, ht, and_self, Nat.reduceEqDiff, ↓reduceIte]
    have hq := hQ _ pr1 fr1
    rw [e_lNI (by omega)]
    refine k_in ?_
    simp (disch := omega) only [e_wide, e_pred]
    rw [← f_idx]
    have hs4 := hs.2.2.2.2.2.2.1
    obtain ⟨b, hb, hbe⟩ := ha c
    rw [hbe, e_ix (by omega)] at hq
    simp (disch := omega) only [e_q0, e_nil, e_cons, e_q, e_qf, e_qt, e_af, z_hd, z_mk1, z_lg, z_s1, z_s2, z_kl, z_en, z_kI, z_fv, z_ic, z_c1, z_sh, z_pop, z_rc, z_tgt, z_tsw, z_lsw, z_nw, z_ac, o_kI, o_kL, o_ldi, o_ldl, o_lda, o_sti, o_sta, o_stl, o_inc, o_b2, o_bz, o_l2, o_lz, o_ls, o_lneg, o_i2l, o_l2i, o_lcmp, o_dup, o_dupx1, o_dup2, o_if, o_if2, o_ifnull, o_get, o_put, o_iald, o_zald, o_aald, o_alen, o_iast, o_zast, o_aast, o_new, o_newa, o_call, o_call1, o_callN, o_obj, o_reti, o_retl, o_ret, o_tsw, o_lsw, va_rf_s, va_rf_n, z_u2_s, z_u2_k, z_u2_f, z_uR_f, z_uL_f, e_ix, e_vp, e_lt, e_le, e_eq, e_lt0, e_eq0, e_b0, e_b1, e_10, e_11, true_or, or_true, false_or, nI_add, z_bi_0, z_bi_1, e_bb, z_uR_s, z_uR_k, z_uL_s, z_uL_k, true_and, and_true, and_self, not_true_eq_false, not_false_eq_true, forall_const, Option.toList, List.cons_append, List.nil_append, List.singleton_append, Nat.reduceAdd, Nat.zero_add, Nat.add_zero, Nat.reduceEqDiff, ↓reduceIte, ite_true, ite_false, reduceCtorEq, Int.cast_ofNat_Int, Int.reduceAdd, Int.reduceToNat, ne_eq, false_imp_iff, true_imp_iff, cl_120, bf_120_0, bf_120_40, bf_120_80, bf_120_81, bf_120_82, bf_120_138, bf_120_139, bf_120_140, bf_120_162, bf_120_184, bf_120_203, bo_120_0, bo_120_40, bo_120_80, bo_120_81, bo_120_82, bo_120_138, bo_120_139, bo_120_140, bo_120_162, bo_120_184, bo_120_203, hS, hs4, hbe]
    refine ⟨fun c2 => z_f0 hq (by rw [c2]; rfl), fun c2 => ?_⟩
    rw [Bool.not_eq_false] at c2
    rw [c2] at hq
    obtain ⟨a, ha2, rfl⟩ := f_idx_t (by omega) c2
    rw [e_ix (by omega)] at hq
    simp (disch := omega) only [e_q0, e_nil, e_cons, e_q, e_qf, e_qt, e_af, z_hd, z_mk1, z_lg, z_s1, z_s2, z_kl, z_en, z_kI, z_fv, z_ic, z_c1, z_sh, z_pop, z_rc, z_tgt, z_tsw, z_lsw, z_nw, z_ac, o_kI, o_kL, o_ldi, o_ldl, o_lda, o_sti, o_sta, o_stl, o_inc, o_b2, o_bz, o_l2, o_lz, o_ls, o_lneg, o_i2l, o_l2i, o_lcmp, o_dup, o_dupx1, o_dup2, o_if, o_if2, o_ifnull, o_get, o_put, o_iald, o_zald, o_aald, o_alen, o_iast, o_zast, o_aast, o_new, o_newa, o_call, o_call1, o_callN, o_obj, o_reti, o_retl, o_ret, o_tsw, o_lsw, va_rf_s, va_rf_n, z_u2_s, z_u2_k, z_u2_f, z_uR_f, z_uL_f, e_ix, e_vp, e_lt, e_le, e_eq, e_lt0, e_eq0, e_b0, e_b1, e_10, e_11, true_or, or_true, false_or, nI_add, z_bi_0, z_bi_1, e_bb, z_uR_s, z_uR_k, z_uL_s, z_uL_k, true_and, and_true, and_self, not_true_eq_false, not_false_eq_true, forall_const, Option.toList, List.cons_append, List.nil_append, List.singleton_append, Nat.reduceAdd, Nat.zero_add, Nat.add_zero, Nat.reduceEqDiff, ↓reduceIte, ite_true, ite_false, reduceCtorEq, Int.cast_ofNat_Int, Int.reduceAdd, Int.reduceToNat, ne_eq, false_imp_iff, true_imp_iff, cl_120, bf_120_0, bf_120_40, bf_120_80, bf_120_81, bf_120_82, bf_120_138, bf_120_139, bf_120_140, bf_120_162, bf_120_184, bf_120_203, bo_120_0, bo_120_40, bo_120_80, bo_120_81, bo_120_82, bo_120_138, bo_120_139, bo_120_140, bo_120_162, bo_120_184, bo_120_203, hS, hs4, hbe]
    refine ⟨fun c3 => z_f0 hq (by rw [c3]; simp), fun c3 => ?_⟩
    refine k_areLinkedAsRead hS pr1 (Nat.le_of_lt hm) ?_
    rw [f_lkd_w _ (Nat.le_refl _)]
    have c3' : nI a ≠ nI b := by rw [Ne, e_eq (by omega) (by omega)]; exact c3
    rw [decide_eq_true c3'] at hq
    simp (disch := omega) only [e_q0, e_nil, e_cons, e_q, e_qf, e_qt, e_af, z_hd, z_mk1, z_lg, z_s1, z_s2, z_kl, z_en, z_kI, z_fv, z_ic, z_c1, z_sh, z_pop, z_rc, z_tgt, z_tsw, z_lsw, z_nw, z_ac, o_kI, o_kL, o_ldi, o_ldl, o_lda, o_sti, o_sta, o_stl, o_inc, o_b2, o_bz, o_l2, o_lz, o_ls, o_lneg, o_i2l, o_l2i, o_lcmp, o_dup, o_dupx1, o_dup2, o_if, o_if2, o_ifnull, o_get, o_put, o_iald, o_zald, o_aald, o_alen, o_iast, o_zast, o_aast, o_new, o_newa, o_call, o_call1, o_callN, o_obj, o_reti, o_retl, o_ret, o_tsw, o_lsw, va_rf_s, va_rf_n, z_u2_s, z_u2_k, z_u2_f, z_uR_f, z_uL_f, e_ix, e_vp, e_lt, e_le, e_eq, e_lt0, e_eq0, e_b0, e_b1, e_10, e_11, true_or, or_true, false_or, nI_add, z_bi_0, z_bi_1, e_bb, z_uR_s, z_uR_k, z_uL_s, z_uL_k, true_and, and_true, and_self, not_true_eq_false, not_false_eq_true, forall_const, Option.toList, List.cons_append, List.nil_append, List.singleton_append, Nat.reduceAdd, Nat.zero_add, Nat.add_zero, Nat.reduceEqDiff, ↓reduceIte, ite_true, ite_false, reduceCtorEq, Int.cast_ofNat_Int, Int.reduceAdd, Int.reduceToNat, ne_eq, false_imp_iff, true_imp_iff, cl_120, bf_120_0, bf_120_40, bf_120_80, bf_120_81, bf_120_82, bf_120_138, bf_120_139, bf_120_140, bf_120_162, bf_120_184, bf_120_203, bo_120_0, bo_120_40, bo_120_80, bo_120_81, bo_120_82, bo_120_138, bo_120_139, bo_120_140, bo_120_162, bo_120_184, bo_120_203, hS]
    exact ⟨fun c3 => z_f1 hq (by rw [c3]; rfl), fun c3 => z_f0 hq (by rw [Bool.not_eq_false] at c3; rw [c3]; rfl)⟩
  · rw [if_neg (by omega), if_neg (by omega), if_pos c] at hQ
    refine k_inI (by omega) (by omega) ?_
    simp (disch := omega) only [e_q0, e_nil, e_cons, e_q, e_qf, e_qt, e_af, z_hd, z_mk1, z_lg, z_s1, z_s2, z_kl, z_en, z_kI, z_fv, z_ic, z_c1, z_sh, z_pop, z_rc, z_tgt, z_tsw, z_lsw, z_nw, z_ac, o_kI, o_kL, o_ldi, o_ldl, o_lda, o_sti, o_sta, o_stl, o_inc, o_b2, o_bz, o_l2, o_lz, o_ls, o_lneg, o_i2l, o_l2i, o_lcmp, o_dup, o_dupx1, o_dup2, o_if, o_if2, o_ifnull, o_get, o_put, o_iald, o_zald, o_aald, o_alen, o_iast, o_zast, o_aast, o_new, o_newa, o_call, o_call1, o_callN, o_obj, o_reti, o_retl, o_ret, o_tsw, o_lsw, va_rf_s, va_rf_n, z_u2_s, z_u2_k, z_u2_f, z_uR_f, z_uL_f, e_ix, e_vp, e_lt, e_le, e_eq, e_lt0, e_eq0, e_b0, e_b1, e_10, e_11, true_or, or_true, false_or, nI_add, z_bi_0, z_bi_1, e_bb, z_uR_s, z_uR_k, z_uL_s, z_uL_k, true_and, and_true, and_self, not_true_eq_false, not_false_eq_true, forall_const, Option.toList, List.cons_append, List.nil_append, List.singleton_append, Nat.reduceAdd, Nat.zero_add, Nat.add_zero, Nat.reduceEqDiff, ↓reduceIte, ite_true, ite_false, reduceCtorEq, Int.cast_ofNat_Int, Int.reduceAdd, Int.reduceToNat, ne_eq, false_imp_iff, true_imp_iff, cl_120, bf_120_0, bf_120_40, bf_120_80, bf_120_81, bf_120_82, bf_120_138, bf_120_139, bf_120_140, bf_120_162, bf_120_184, bf_120_203, bo_120_0, bo_120_40, bo_120_80, bo_120_81, bo_120_82, bo_120_138, bo_120_139, bo_120_140, bo_120_162, bo_120_184, bo_120_203, hS, hs]
    refine hQ _ ?_ ⟨fun c c1 c2 => by simp (disch := omega) only [z_u2_f], fun j j1 j2 j3 j4 j5 => by simp (disch := omega) only [z_u2_f, z_u2_k]⟩
    simp (disch := omega) only [PR, z_u2_z, z_u2_f, z_u2_k, z_u2_s, hs, ht, and_self, Nat.reduceEqDiff, ↓reduceIte]
  · rw [if_neg (by omega), if_neg (by omega), if_neg (by omega), if_pos c] at hQ
    refine k_inI (by omega) (by omega) ?_
    simp (disch := omega) only [e_q0, e_nil, e_cons, e_q, e_qf, e_qt, e_af, z_hd, z_mk1, z_lg, z_s1, z_s2, z_kl, z_en, z_kI, z_fv, z_ic, z_c1, z_sh, z_pop, z_rc, z_tgt, z_tsw, z_lsw, z_nw, z_ac, o_kI, o_kL, o_ldi, o_ldl, o_lda, o_sti, o_sta, o_stl, o_inc, o_b2, o_bz, o_l2, o_lz, o_ls, o_lneg, o_i2l, o_l2i, o_lcmp, o_dup, o_dupx1, o_dup2, o_if, o_if2, o_ifnull, o_get, o_put, o_iald, o_zald, o_aald, o_alen, o_iast, o_zast, o_aast, o_new, o_newa, o_call, o_call1, o_callN, o_obj, o_reti, o_retl, o_ret, o_tsw, o_lsw, va_rf_s, va_rf_n, z_u2_s, z_u2_k, z_u2_f, z_uR_f, z_uL_f, e_ix, e_vp, e_lt, e_le, e_eq, e_lt0, e_eq0, e_b0, e_b1, e_10, e_11, true_or, or_true, false_or, nI_add, z_bi_0, z_bi_1, e_bb, z_uR_s, z_uR_k, z_uL_s, z_uL_k, true_and, and_true, and_self, not_true_eq_false, not_false_eq_true, forall_const, Option.toList, List.cons_append, List.nil_append, List.singleton_append, Nat.reduceAdd, Nat.zero_add, Nat.add_zero, Nat.reduceEqDiff, ↓reduceIte, ite_true, ite_false, reduceCtorEq, Int.cast_ofNat_Int, Int.reduceAdd, Int.reduceToNat, ne_eq, false_imp_iff, true_imp_iff, cl_120, bf_120_0, bf_120_40, bf_120_80, bf_120_81, bf_120_82, bf_120_138, bf_120_139, bf_120_140, bf_120_162, bf_120_184, bf_120_203, bo_120_0, bo_120_40, bo_120_80, bo_120_81, bo_120_82, bo_120_138, bo_120_139, bo_120_140, bo_120_162, bo_120_184, bo_120_203, hS, hs]
    refine hQ _ ?_ ⟨fun c c1 c2 => by simp (disch := omega) only [z_u2_f], fun j j1 j2 j3 j4 j5 => by simp (disch := omega) only [z_u2_f, z_u2_k]⟩
    simp (disch := omega) only [PR, z_u2_z, z_u2_f, z_u2_k, z_u2_s, hs, ht, and_self, Nat.reduceEqDiff, ↓reduceIte]
theorem k_take {x : Int32} (hS : SM T mr) (hR : PR R mi) (ho : rd_ok R) (hQ : ∀ f, PR (rd_take R x).2 f → rd_fr f mi → Q (some (.int (z_bi (rd_take R x).1))) (f, mr, ml, T)) : z_Ok l G m_Model_take [.ref 373, .int x] (mi, mr, ml, T) Q := by
  have hs := hR.1
  have ht := hR.2
  obtain ⟨o1, o2, o3, o4⟩ := ho
  unfold rd_take at hQ
  refine z_okN cz_121.1 (by rw [cl_121]; exact Nat.le_of_ble_eq_true rfl) cz_121.2 (z_run ck_121 7 bf_121_0 ?_)
  simp (disch := omega) only [e_q0, e_nil, e_cons, e_q, e_qf, e_qt, e_af, z_hd, z_mk1, z_lg, z_s1, z_s2, z_kl, z_en, z_kI, z_fv, z_ic, z_c1, z_sh, z_pop, z_rc, z_tgt, z_tsw, z_lsw, z_nw, z_ac, o_kI, o_kL, o_ldi, o_ldl, o_lda, o_sti, o_sta, o_stl, o_inc, o_b2, o_bz, o_l2, o_lz, o_ls, o_lneg, o_i2l, o_l2i, o_lcmp, o_dup, o_dupx1, o_dup2, o_if, o_if2, o_ifnull, o_get, o_put, o_iald, o_zald, o_aald, o_alen, o_iast, o_zast, o_aast, o_new, o_newa, o_call, o_call1, o_callN, o_obj, o_reti, o_retl, o_ret, o_tsw, o_lsw, va_rf_s, va_rf_n, z_u2_s, z_u2_k, z_u2_f, z_uR_f, z_uL_f, e_ix, e_vp, e_lt, e_le, e_eq, e_lt0, e_eq0, e_b0, e_b1, e_10, e_11, true_or, or_true, false_or, nI_add, z_bi_0, z_bi_1, e_bb, z_uR_s, z_uR_k, z_uL_s, z_uL_k, true_and, and_true, and_self, not_true_eq_false, not_false_eq_true, forall_const, Option.toList, List.cons_append, List.nil_append, List.singleton_append, Nat.reduceAdd, Nat.zero_add, Nat.add_zero, Nat.reduceEqDiff, ↓reduceIte, ite_true, ite_false, reduceCtorEq, Int.cast_ofNat_Int, Int.reduceAdd, Int.reduceToNat, ne_eq, false_imp_iff, true_imp_iff, cl_121, bf_121_0, bf_121_13, bf_121_47, bf_121_64, bf_121_81, bf_121_86, bo_121_0, bo_121_13, bo_121_47, bo_121_64, bo_121_81, bo_121_86, hS, hs, ht]
  refine ⟨fun c => ?_, fun c => ⟨fun c1 => ?_, fun c1 => ⟨fun c2 => ?_, fun c2 => ⟨fun c3 => ?_, fun c3 => ?_⟩⟩⟩⟩
  · rw [if_pos c] at hQ
    refine k_takeSign hS hR o1 o2 fun f f1 f2 => ?_
    simp (disch := omega) only [e_q0, e_nil, e_cons, e_q, e_qf, e_qt, e_af, z_hd, z_mk1, z_lg, z_s1, z_s2, z_kl, z_en, z_kI, z_fv, z_ic, z_c1, z_sh, z_pop, z_rc, z_tgt, z_tsw, z_lsw, z_nw, z_ac, o_kI, o_kL, o_ldi, o_ldl, o_lda, o_sti, o_sta, o_stl, o_inc, o_b2, o_bz, o_l2, o_lz, o_ls, o_lneg, o_i2l, o_l2i, o_lcmp, o_dup, o_dupx1, o_dup2, o_if, o_if2, o_ifnull, o_get, o_put, o_iald, o_zald, o_aald, o_alen, o_iast, o_zast, o_aast, o_new, o_newa, o_call, o_call1, o_callN, o_obj, o_reti, o_retl, o_ret, o_tsw, o_lsw, va_rf_s, va_rf_n, z_u2_s, z_u2_k, z_u2_f, z_uR_f, z_uL_f, e_ix, e_vp, e_lt, e_le, e_eq, e_lt0, e_eq0, e_b0, e_b1, e_10, e_11, true_or, or_true, false_or, nI_add, z_bi_0, z_bi_1, e_bb, z_uR_s, z_uR_k, z_uL_s, z_uL_k, true_and, and_true, and_self, not_true_eq_false, not_false_eq_true, forall_const, Option.toList, List.cons_append, List.nil_append, List.singleton_append, Nat.reduceAdd, Nat.zero_add, Nat.add_zero, Nat.reduceEqDiff, ↓reduceIte, ite_true, ite_false, reduceCtorEq, Int.cast_ofNat_Int, Int.reduceAdd, Int.reduceToNat, ne_eq, false_imp_iff, true_imp_iff, cl_121, bf_121_0, bf_121_13, bf_121_47, bf_121_64, bf_121_81, bf_121_86, bo_121_0, bo_121_13, bo_121_47, bo_121_64, bo_121_81, bo_121_86, hS]
    exact hQ f f1 f2
  · rw [if_neg c, if_pos c1] at hQ
    refine k_inI (by omega) (by omega) ?_
    simp (disch := omega) only [e_q0, e_nil, e_cons, e_q, e_qf, e_qt, e_af, z_hd, z_mk1, z_lg, z_s1, z_s2, z_kl, z_en, z_kI, z_fv, z_ic, z_c1, z_sh, z_pop, z_rc, z_tgt, z_tsw, z_lsw, z_nw, z_ac, o_kI, o_kL, o_ldi, o_ldl, o_lda, o_sti, o_sta, o_stl, o_inc, o_b2, o_bz, o_l2, o_lz, o_ls, o_lneg, o_i2l, o_l2i, o_lcmp, o_dup, o_dupx1, o_dup2, o_if, o_if2, o_ifnull, o_get, o_put, o_iald, o_zald, o_aald, o_alen, o_iast, o_zast, o_aast, o_new, o_newa, o_call, o_call1, o_callN, o_obj, o_reti, o_retl, o_ret, o_tsw, o_lsw, va_rf_s, va_rf_n, z_u2_s, z_u2_k, z_u2_f, z_uR_f, z_uL_f, e_ix, e_vp, e_lt, e_le, e_eq, e_lt0, e_eq0, e_b0, e_b1, e_10, e_11, true_or, or_true, false_or, nI_add, z_bi_0, z_bi_1, e_bb, z_uR_s, z_uR_k, z_uL_s, z_uL_k, true_and, and_true, and_self, not_true_eq_false, not_false_eq_true, forall_const, Option.toList, List.cons_append, List.nil_append, List.singleton_append, Nat.reduceAdd, Nat.zero_add, Nat.add_zero, Nat.reduceEqDiff, ↓reduceIte, ite_true, ite_false, reduceCtorEq, Int.cast_ofNat_Int, Int.reduceAdd, Int.reduceToNat, ne_eq, false_imp_iff, true_imp_iff, cl_121, bf_121_0, bf_121_13, bf_121_47, bf_121_64, bf_121_81, bf_121_86, bo_121_0, bo_121_13, bo_121_47, bo_121_64, bo_121_81, bo_121_86, hS]
    refine hQ _ ?_ ⟨fun c c1 c2 => by simp (disch := omega) only [z_u2_f], fun j j1 j2 j3 j4 j5 => by simp (disch := omega) only [z_u2_f, z_u2_k]⟩
    simp (disch := omega) only [PR, z_u2_z, z_u2_f, z_u2_k, z_u2_s, hs, ht, and_self, Nat.reduceEqDiff, ↓reduceIte]
  · rw [if_neg c, if_neg c1, if_pos c2] at hQ
    have o5 : R.1.1.1 < 8 := by
      rcases o4 with q | q | q | q
      · exact absurd q c
      · exact absurd q c1
      · exact q.2
      · rw [q.1] at c2; exact absurd c2 (by decide)
    refine k_takeOfGateway hS hR o5 fun f f1 f2 => ?_
    simp (disch := omega) only [e_q0, e_nil, e_cons, e_q, e_qf, e_qt, e_af, z_hd, z_mk1, z_lg, z_s1, z_s2, z_kl, z_en, z_kI, z_fv, z_ic, z_c1, z_sh, z_pop, z_rc, z_tgt, z_tsw, z_lsw, z_nw, z_ac, o_kI, o_kL, o_ldi, o_ldl, o_lda, o_sti, o_sta, o_stl, o_inc, o_b2, o_bz, o_l2, o_lz, o_ls, o_lneg, o_i2l, o_l2i, o_lcmp, o_dup, o_dupx1, o_dup2, o_if, o_if2, o_ifnull, o_get, o_put, o_iald, o_zald, o_aald, o_alen, o_iast, o_zast, o_aast, o_new, o_newa, o_call, o_call1, o_callN, o_obj, o_reti, o_retl, o_ret, o_tsw, o_lsw, va_rf_s, va_rf_n, z_u2_s, z_u2_k, z_u2_f, z_uR_f, z_uL_f, e_ix, e_vp, e_lt, e_le, e_eq, e_lt0, e_eq0, e_b0, e_b1, e_10, e_11, true_or, or_true, false_or, nI_add, z_bi_0, z_bi_1, e_bb, z_uR_s, z_uR_k, z_uL_s, z_uL_k, true_and, and_true, and_self, not_true_eq_false, not_false_eq_true, forall_const, Option.toList, List.cons_append, List.nil_append, List.singleton_append, Nat.reduceAdd, Nat.zero_add, Nat.add_zero, Nat.reduceEqDiff, ↓reduceIte, ite_true, ite_false, reduceCtorEq, Int.cast_ofNat_Int, Int.reduceAdd, Int.reduceToNat, ne_eq, false_imp_iff, true_imp_iff, cl_121, bf_121_0, bf_121_13, bf_121_47, bf_121_64, bf_121_81, bf_121_86, bo_121_0, bo_121_13, bo_121_47, bo_121_64, bo_121_81, bo_121_86, hS]
    exact hQ f f1 f2
  · rw [if_neg c, if_neg c1, if_neg c2, if_pos c3] at hQ
    have o5 : R.1.1.1 < 8 := by
      rcases o4 with q | q | q | q
      · exact absurd q c
      · exact absurd q c1
      · exact q.2
      · rw [q.1] at c3; exact absurd c3 (by decide)
    refine k_takeOfLeaf hS hR o5 o3 fun f f1 f2 => ?_
    simp (disch := omega) only [e_q0, e_nil, e_cons, e_q, e_qf, e_qt, e_af, z_hd, z_mk1, z_lg, z_s1, z_s2, z_kl, z_en, z_kI, z_fv, z_ic, z_c1, z_sh, z_pop, z_rc, z_tgt, z_tsw, z_lsw, z_nw, z_ac, o_kI, o_kL, o_ldi, o_ldl, o_lda, o_sti, o_sta, o_stl, o_inc, o_b2, o_bz, o_l2, o_lz, o_ls, o_lneg, o_i2l, o_l2i, o_lcmp, o_dup, o_dupx1, o_dup2, o_if, o_if2, o_ifnull, o_get, o_put, o_iald, o_zald, o_aald, o_alen, o_iast, o_zast, o_aast, o_new, o_newa, o_call, o_call1, o_callN, o_obj, o_reti, o_retl, o_ret, o_tsw, o_lsw, va_rf_s, va_rf_n, z_u2_s, z_u2_k, z_u2_f, z_uR_f, z_uL_f, e_ix, e_vp, e_lt, e_le, e_eq, e_lt0, e_eq0, e_b0, e_b1, e_10, e_11, true_or, or_true, false_or, nI_add, z_bi_0, z_bi_1, e_bb, z_uR_s, z_uR_k, z_uL_s, z_uL_k, true_and, and_true, and_self, not_true_eq_false, not_false_eq_true, forall_const, Option.toList, List.cons_append, List.nil_append, List.singleton_append, Nat.reduceAdd, Nat.zero_add, Nat.add_zero, Nat.reduceEqDiff, ↓reduceIte, ite_true, ite_false, reduceCtorEq, Int.cast_ofNat_Int, Int.reduceAdd, Int.reduceToNat, ne_eq, false_imp_iff, true_imp_iff, cl_121, bf_121_0, bf_121_13, bf_121_47, bf_121_64, bf_121_81, bf_121_86, bo_121_0, bo_121_13, bo_121_47, bo_121_64, bo_121_81, bo_121_86, hS]
    exact hQ f f1 f2
  · rw [if_neg c, if_neg c1, if_neg c2, if_neg c3] at hQ
    have o5 := ((o4.resolve_left c).resolve_left c1).resolve_left (fun q => q.1.elim c2 c3)
    refine k_takeOfLink hS hR o1 o5.2.1 o3 c o5.2.2 fun f f1 f2 => ?_
    simp (disch := omega) only [e_q0, e_nil, e_cons, e_q, e_qf, e_qt, e_af, z_hd, z_mk1, z_lg, z_s1, z_s2, z_kl, z_en, z_kI, z_fv, z_ic, z_c1, z_sh, z_pop, z_rc, z_tgt, z_tsw, z_lsw, z_nw, z_ac, o_kI, o_kL, o_ldi, o_ldl, o_lda, o_sti, o_sta, o_stl, o_inc, o_b2, o_bz, o_l2, o_lz, o_ls, o_lneg, o_i2l, o_l2i, o_lcmp, o_dup, o_dupx1, o_dup2, o_if, o_if2, o_ifnull, o_get, o_put, o_iald, o_zald, o_aald, o_alen, o_iast, o_zast, o_aast, o_new, o_newa, o_call, o_call1, o_callN, o_obj, o_reti, o_retl, o_ret, o_tsw, o_lsw, va_rf_s, va_rf_n, z_u2_s, z_u2_k, z_u2_f, z_uR_f, z_uL_f, e_ix, e_vp, e_lt, e_le, e_eq, e_lt0, e_eq0, e_b0, e_b1, e_10, e_11, true_or, or_true, false_or, nI_add, z_bi_0, z_bi_1, e_bb, z_uR_s, z_uR_k, z_uL_s, z_uL_k, true_and, and_true, and_self, not_true_eq_false, not_false_eq_true, forall_const, Option.toList, List.cons_append, List.nil_append, List.singleton_append, Nat.reduceAdd, Nat.zero_add, Nat.add_zero, Nat.reduceEqDiff, ↓reduceIte, ite_true, ite_false, reduceCtorEq, Int.cast_ofNat_Int, Int.reduceAdd, Int.reduceToNat, ne_eq, false_imp_iff, true_imp_iff, cl_121, bf_121_0, bf_121_13, bf_121_47, bf_121_64, bf_121_81, bf_121_86, bo_121_0, bo_121_13, bo_121_47, bo_121_64, bo_121_81, bo_121_86, hS]
    exact hQ f f1 f2
end
