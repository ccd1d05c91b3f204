def x_deg (s : ZS) (x : Int32) : Nat → Nat
  | 0 => 0
  | k + 1 => x_deg s x k + (if s.2 3 k = x ∨ s.2 4 k = x then 1 else 0)
def x_pv (r : ZW) (k : Nat) : Nat := match f_par r k with
  | none => 8
  | some p => p
def x_all (r : ZW) : Nat → Nat
  | 0 => 0
  | k + 1 => x_all r k * 16 + x_pv r k
section
variable {l : Launch} {G : ZG} {mi : Nat → Nat → Int32} {mr : Nat → Nat → Option Nat} {ml : Nat → Nat → Int64} {T : (Nat → Nat × Nat) × Nat × Nat} {Q : ZR} {a : Nat} {s : ZS} {r : ZW}
theorem x_loadSpread (hS : SX T mr a) (hX : MX mi a s r) (h8 : s.1.1 ≤ 8) (hp : f_pok r s.1.1) (h : Q (some (.int (nI (f_most s (nI 255) r s.1.1) - nI ((f_least s (nI 255) r s.1.1).getD 8)))) (mi, mr, ml, T)) : z_Ok l G m_Mesh_loadSpread [.ref a] (mi, mr, ml, T) Q := by
  have h1 := hS.1
  have h2 := hX.1
  refine z_okN cz_29.1 (by rw [cl_29]; exact Nat.le_of_ble_eq_true rfl) cz_29.2 (z_run ck_29 4 bf_29_0 ?_)
  simp (disch := omega) only [e_q0, e_nil, e_cons, e_q, e_qf, e_qt, e_af, z_hd, z_mk1, z_lg, z_s1, z_s2, z_kl, z_en, z_kI, z_fv, z_ic, z_c1, z_sh, z_pop, z_rc, z_tgt, z_tsw, z_lsw, z_nw, z_ac, o_kI, o_kL, o_ldi, o_ldl, o_lda, o_sti, o_sta, o_stl, o_inc, o_b2, o_bz, o_l2, o_lz, o_ls, o_lneg, o_i2l, o_l2i, o_lcmp, o_dup, o_dupx1, o_dup2, o_if, o_if2, o_ifnull, o_get, o_put, o_iald, o_zald, o_aald, o_alen, o_iast, o_zast, o_aast, o_new, o_newa, o_call, o_call1, o_callN, o_obj, o_reti, o_retl, o_ret, o_tsw, o_lsw, va_rf_s, va_rf_n, z_u2_s, z_u2_k, z_u2_f, z_uR_f, z_uL_f, e_ix, e_vp, e_lt, e_le, e_eq, e_lt0, e_eq0, e_b0, e_b1, e_10, e_11, true_or, or_true, false_or, nI_add, z_bi_0, z_bi_1, e_bb, z_uR_s, z_uR_k, z_uL_s, z_uL_k, true_and, and_true, and_self, not_true_eq_false, not_false_eq_true, forall_const, Option.toList, List.cons_append, List.nil_append, List.singleton_append, Nat.reduceAdd, Nat.zero_add, Nat.add_zero, Nat.reduceEqDiff, ↓reduceIte, ite_true, ite_false, reduceCtorEq, Int.cast_ofNat_Int, Int.reduceAdd, Int.reduceToNat, ne_eq, false_imp_iff, true_imp_iff, cl_29, bf_29_0, bf_29_7, bf_29_48, bf_29_54, bo_29_0, bo_29_7, bo_29_48, bo_29_54, h1, h2]
  refine z_for (α := Unit) (P := fun k _ => z_W l G 29 (T.2.1, T.2.2) (fun v M' => Q v M' ∧ M'.2.2.2 = T) 7 [some (.ref a), some (.int (nI (f_most s (nI 255) r k))), some (.int (nI ((f_least s (nI 255) r k).getD 8))), some (.int (nI k)), none] [] (mi, mr, ml, T)) s.1.1 (fun _ => ?_) (fun k hk ih _ => ?_) 0 (by omega) ()
  · refine z_run ck_29 4 bf_29_7 ?_
    simp (disch := omega) only [e_q0, e_nil, e_cons, e_q, e_qf, e_qt, e_af, z_hd, z_mk1, z_lg, z_s1, z_s2, z_kl, z_en, z_kI, z_fv, z_ic, z_c1, z_sh, z_pop, z_rc, z_tgt, z_tsw, z_lsw, z_nw, z_ac, o_kI, o_kL, o_ldi, o_ldl, o_lda, o_sti, o_sta, o_stl, o_inc, o_b2, o_bz, o_l2, o_lz, o_ls, o_lneg, o_i2l, o_l2i, o_lcmp, o_dup, o_dupx1, o_dup2, o_if, o_if2, o_ifnull, o_get, o_put, o_iald, o_zald, o_aald, o_alen, o_iast, o_zast, o_aast, o_new, o_newa, o_call, o_call1, o_callN, o_obj, o_reti, o_retl, o_ret, o_tsw, o_lsw, va_rf_s, va_rf_n, z_u2_s, z_u2_k, z_u2_f, z_uR_f, z_uL_f, e_ix, e_vp, e_lt, e_le, e_eq, e_lt0, e_eq0, e_b0, e_b1, e_10, e_11, true_or, or_true, false_or, nI_add, z_bi_0, z_bi_1, e_bb, z_uR_s, z_uR_k, z_uL_s, z_uL_k, true_and, and_true, and_self, not_true_eq_false, not_false_eq_true, forall_const, Option.toList, List.cons_append, List.nil_append, List.singleton_append, Nat.reduceAdd, Nat.zero_add, Nat.add_zero, Nat.reduceEqDiff, ↓reduceIte, ite_true, ite_false, reduceCtorEq, Int.cast_ofNat_Int, Int.reduceAdd, Int.reduceToNat, ne_eq, false_imp_iff, true_imp_iff, cl_29, bf_29_0, bf_29_7, bf_29_48, bf_29_54, bo_29_0, bo_29_7, bo_29_48, bo_29_54, h1, h2, Nat.le_refl]
    exact h
  · have hk' := Nat.not_le.mpr hk
    have q1 := hS.2.1 k (by omega)
    have q2 := hX.2.1 k hk
    have ih2 := ih ()
    have b1 := f_most_le (s := s) (co := nI 255) (r := r) k
    have b2 : (f_least s (nI 255) r k).getD 8 ≤ 8 := by
      cases q : f_least s (nI 255) r k with
      | none => exact Nat.le_refl _
      | some m => have := f_least_le _ _ q; show m ≤ 8; omega
    have b3 := f_load_le (s := s) (co := nI 255) (r := r) (g := k) s.1.1
    unfold f_most f_least at ih2
    refine z_run ck_29 4 bf_29_7 ?_
    simp (disch := omega) only [e_q0, e_nil, e_cons, e_q, e_qf, e_qt, e_af, z_hd, z_mk1, z_lg, z_s1, z_s2, z_kl, z_en, z_kI, z_fv, z_ic, z_c1, z_sh, z_pop, z_rc, z_tgt, z_tsw, z_lsw, z_nw, z_ac, o_kI, o_kL, o_ldi, o_ldl, o_lda, o_sti, o_sta, o_stl, o_inc, o_b2, o_bz, o_l2, o_lz, o_ls, o_lneg, o_i2l, o_l2i, o_lcmp, o_dup, o_dupx1, o_dup2, o_if, o_if2, o_ifnull, o_get, o_put, o_iald, o_zald, o_aald, o_alen, o_iast, o_zast, o_aast, o_new, o_newa, o_call, o_call1, o_callN, o_obj, o_reti, o_retl, o_ret, o_tsw, o_lsw, va_rf_s, va_rf_n, z_u2_s, z_u2_k, z_u2_f, z_uR_f, z_uL_f, e_ix, e_vp, e_lt, e_le, e_eq, e_lt0, e_eq0, e_b0, e_b1, e_10, e_11, true_or, or_true, false_or, nI_add, z_bi_0, z_bi_1, e_bb, z_uR_s, z_uR_k, z_uL_s, z_uL_k, true_and, and_true, and_self, not_true_eq_false, not_false_eq_true, forall_const, Option.toList, List.cons_append, List.nil_append, List.singleton_append, Nat.reduceAdd, Nat.zero_add, Nat.add_zero, Nat.reduceEqDiff, ↓reduceIte, ite_true, ite_false, reduceCtorEq, Int.cast_ofNat_Int, Int.reduceAdd, Int.reduceToNat, ne_eq, false_imp_iff, true_imp_iff, cl_29, bf_29_0, bf_29_7, bf_29_48, bf_29_54, bo_29_0, bo_29_7, bo_29_48, bo_29_54, h1, h2, q1, q2, z_t4, z_t5, z_t6, hk']
    refine ⟨fun c => ?_, fun c => ?_⟩
    · simp only [c, if_true] at ih2
      refine x_load hS hX h8 hp (by omega) ?_
      simp (disch := omega) only [e_q0, e_nil, e_cons, e_q, e_qf, e_qt, e_af, z_hd, z_mk1, z_lg, z_s1, z_s2, z_kl, z_en, z_kI, z_fv, z_ic, z_c1, z_sh, z_pop, z_rc, z_tgt, z_tsw, z_lsw, z_nw, z_ac, o_kI, o_kL, o_ldi, o_ldl, o_lda, o_sti, o_sta, o_stl, o_inc, o_b2, o_bz, o_l2, o_lz, o_ls, o_lneg, o_i2l, o_l2i, o_lcmp, o_dup, o_dupx1, o_dup2, o_if, o_if2, o_ifnull, o_get, o_put, o_iald, o_zald, o_aald, o_alen, o_iast, o_zast, o_aast, o_new, o_newa, o_call, o_call1, o_callN, o_obj, o_reti, o_retl, o_ret, o_tsw, o_lsw, va_rf_s, va_rf_n, z_u2_s, z_u2_k, z_u2_f, z_uR_f, z_uL_f, e_ix, e_vp, e_lt, e_le, e_eq, e_lt0, e_eq0, e_b0, e_b1, e_10, e_11, true_or, or_true, false_or, nI_add, z_bi_0, z_bi_1, e_bb, z_uR_s, z_uR_k, z_uL_s, z_uL_k, true_and, and_true, and_self, not_true_eq_false, not_false_eq_true, forall_const, Option.toList, List.cons_append, List.nil_append, List.singleton_append, Nat.reduceAdd, Nat.zero_add, Nat.add_zero, Nat.reduceEqDiff, ↓reduceIte, ite_true, ite_false, reduceCtorEq, Int.cast_ofNat_Int, Int.reduceAdd, Int.reduceToNat, ne_eq, false_imp_iff, true_imp_iff, cl_29, bf_29_0, bf_29_7, bf_29_48, bf_29_54, bo_29_0, bo_29_7, bo_29_48, bo_29_54]
      refine x_max (by omega) (by omega) ?_
      simp (disch := omega) only [e_q0, e_nil, e_cons, e_q, e_qf, e_qt, e_af, z_hd, z_mk1, z_lg, z_s1, z_s2, z_kl, z_en, z_kI, z_fv, z_ic, z_c1, z_sh, z_pop, z_rc, z_tgt, z_tsw, z_lsw, z_nw, z_ac, o_kI, o_kL, o_ldi, o_ldl, o_lda, o_sti, o_sta, o_stl, o_inc, o_b2, o_bz, o_l2, o_lz, o_ls, o_lneg, o_i2l, o_l2i, o_lcmp, o_dup, o_dupx1, o_dup2, o_if, o_if2, o_ifnull, o_get, o_put, o_iald, o_zald, o_aald, o_alen, o_iast, o_zast, o_aast, o_new, o_newa, o_call, o_call1, o_callN, o_obj, o_reti, o_retl, o_ret, o_tsw, o_lsw, va_rf_s, va_rf_n, z_u2_s, z_u2_k, z_u2_f, z_uR_f, z_uL_f, e_ix, e_vp, e_lt, e_le, e_eq, e_lt0, e_eq0, e_b0, e_b1, e_10, e_11, true_or, or_true, false_or, nI_add, z_bi_0, z_bi_1, e_bb, z_uR_s, z_uR_k, z_uL_s, z_uL_k, true_and, and_true, and_self, not_true_eq_false, not_false_eq_true, forall_const, Option.toList, List.cons_append, List.nil_append, List.singleton_append, Nat.reduceAdd, Nat.zero_add, Nat.add_zero, Nat.reduceEqDiff, ↓reduceIte, ite_true, ite_false, reduceCtorEq, Int.cast_ofNat_Int, Int.reduceAdd, Int.reduceToNat, ne_eq, false_imp_iff, true_imp_iff, cl_29, bf_29_0, bf_29_7, bf_29_48, bf_29_54, bo_29_0, bo_29_7, bo_29_48, bo_29_54]
      refine x_min' (by omega) (by omega) ?_
      simp (disch := omega) only [e_q0, e_nil, e_cons, e_q, e_qf, e_qt, e_af, z_hd, z_mk1, z_lg, z_s1, z_s2, z_kl, z_en, z_kI, z_fv, z_ic, z_c1, z_sh, z_pop, z_rc, z_tgt, z_tsw, z_lsw, z_nw, z_ac, o_kI, o_kL, o_ldi, o_ldl, o_lda, o_sti, o_sta, o_stl, o_inc, o_b2, o_bz, o_l2, o_lz, o_ls, o_lneg, o_i2l, o_l2i, o_lcmp, o_dup, o_dupx1, o_dup2, o_if, o_if2, o_ifnull, o_get, o_put, o_iald, o_zald, o_aald, o_alen, o_iast, o_zast, o_aast, o_new, o_newa, o_call, o_call1, o_callN, o_obj, o_reti, o_retl, o_ret, o_tsw, o_lsw, va_rf_s, va_rf_n, z_u2_s, z_u2_k, z_u2_f, z_uR_f, z_uL_f, e_ix, e_vp, e_lt, e_le, e_eq, e_lt0, e_eq0, e_b0, e_b1, e_10, e_11, true_or, or_true, false_or, nI_add, z_bi_0, z_bi_1, e_bb, z_uR_s, z_uR_k, z_uL_s, z_uL_k, true_and, and_true, and_self, not_true_eq_false, not_false_eq_true, forall_const, Option.toList, List.cons_append, List.nil_append, List.singleton_append, Nat.reduceAdd, Nat.zero_add, Nat.add_zero, Nat.reduceEqDiff, ↓reduceIte, ite_true, ite_false, reduceCtorEq, Int.cast_ofNat_Int, Int.reduceAdd, Int.reduceToNat, ne_eq, false_imp_iff, true_imp_iff, cl_29, bf_29_0, bf_29_7, bf_29_48, bf_29_54, bo_29_0, bo_29_7, bo_29_48, bo_29_54]
      cases q : f_least s (nI 255) r k with
      | none =>
        rw [q] at ih2
        simp only [Option.getD_some, Option.getD_none] at ih2 ⊢
        rw [show (if f_load s (nI 255) r k s.1.1 < 8 then f_load s (nI 255) r k s.1.1 else 8) = f_load s (nI 255) r k s.1.1 by split <;> omega]
        exact ih2
      | some m =>
        rw [q] at ih2
        exact ih2
    · simp only [c, if_false] at ih2
      exact ih2
theorem x_linksAt {x : Int32} {n : Nat} (hS : SX T mr a) (hc : mi a 3 = nI n) (hn : n ≤ 9) (hl : ∀ k, k < n → mi (a + 11 + k) 0 = s.2 3 k ∧ mi (a + 11 + k) 1 = s.2 4 k) (h : Q (some (.int (nI (x_deg s x n)))) (mi, mr, ml, T)) : z_Ok l G m_Mesh_linksAt [.ref a, .int x] (mi, mr, ml, T) Q := by
  have h1 := hS.1
  refine z_okN cz_19.1 (by rw [cl_19]; exact Nat.le_of_ble_eq_true rfl) cz_19.2 (z_run ck_19 5 bf_19_0 ?_)
  simp (disch := omega) only [e_q0, e_nil, e_cons, e_q, e_qf, e_qt, e_af, z_hd, z_mk1, z_lg, z_s1, z_s2, z_kl, z_en, z_kI, z_fv, z_ic, z_c1, z_sh, z_pop, z_rc, z_tgt, z_tsw, z_lsw, z_nw, z_ac, o_kI, o_kL, o_ldi, o_ldl, o_lda, o_sti, o_sta, o_stl, o_inc, o_b2, o_bz, o_l2, o_lz, o_ls, o_lneg, o_i2l, o_l2i, o_lcmp, o_dup, o_dupx1, o_dup2, o_if, o_if2, o_ifnull, o_get, o_put, o_iald, o_zald, o_aald, o_alen, o_iast, o_zast, o_aast, o_new, o_newa, o_call, o_call1, o_callN, o_obj, o_reti, o_retl, o_ret, o_tsw, o_lsw, va_rf_s, va_rf_n, z_u2_s, z_u2_k, z_u2_f, z_uR_f, z_uL_f, e_ix, e_vp, e_lt, e_le, e_eq, e_lt0, e_eq0, e_b0, e_b1, e_10, e_11, true_or, or_true, false_or, nI_add, z_bi_0, z_bi_1, e_bb, z_uR_s, z_uR_k, z_uL_s, z_uL_k, true_and, and_true, and_self, not_true_eq_false, not_false_eq_true, forall_const, Option.toList, List.cons_append, List.nil_append, List.singleton_append, Nat.reduceAdd, Nat.zero_add, Nat.add_zero, Nat.reduceEqDiff, ↓reduceIte, ite_true, ite_false, reduceCtorEq, Int.cast_ofNat_Int, Int.reduceAdd, Int.reduceToNat, ne_eq, false_imp_iff, true_imp_iff, cl_19, bf_19_0, bf_19_4, bf_19_38, bf_19_41, bf_19_47, bo_19_0, bo_19_4, bo_19_38, bo_19_41, bo_19_47, h1, hc]
  refine z_for (α := Unit) (P := fun k _ => z_W l G 19 (T.2.1, T.2.2) (fun v M' => Q v M' ∧ M'.2.2.2 = T) 4 [some (.ref a), some (.int x), some (.int (nI (x_deg s x k))), some (.int (nI k))] [] (mi, mr, ml, T)) n (fun _ => ?_) (fun k hk ih _ => ?_) 0 (by omega) ()
  · refine z_run ck_19 5 bf_19_4 ?_
    simp (disch := omega) only [e_q0, e_nil, e_cons, e_q, e_qf, e_qt, e_af, z_hd, z_mk1, z_lg, z_s1, z_s2, z_kl, z_en, z_kI, z_fv, z_ic, z_c1, z_sh, z_pop, z_rc, z_tgt, z_tsw, z_lsw, z_nw, z_ac, o_kI, o_kL, o_ldi, o_ldl, o_lda, o_sti, o_sta, o_stl, o_inc, o_b2, o_bz, o_l2, o_lz, o_ls, o_lneg, o_i2l, o_l2i, o_lcmp, o_dup, o_dupx1, o_dup2, o_if, o_if2, o_ifnull, o_get, o_put, o_iald, o_zald, o_aald, o_alen, o_iast, o_zast, o_aast, o_new, o_newa, o_call, o_call1, o_callN, o_obj, o_reti, o_retl, o_ret, o_tsw, o_lsw, va_rf_s, va_rf_n, z_u2_s, z_u2_k, z_u2_f, z_uR_f, z_uL_f, e_ix, e_vp, e_lt, e_le, e_eq, e_lt0, e_eq0, e_b0, e_b1, e_10, e_11, true_or, or_true, false_or, nI_add, z_bi_0, z_bi_1, e_bb, z_uR_s, z_uR_k, z_uL_s, z_uL_k, true_and, and_true, and_self, not_true_eq_false, not_false_eq_true, forall_const, Option.toList, List.cons_append, List.nil_append, List.singleton_append, Nat.reduceAdd, Nat.zero_add, Nat.add_zero, Nat.reduceEqDiff, ↓reduceIte, ite_true, ite_false, reduceCtorEq, Int.cast_ofNat_Int, Int.reduceAdd, Int.reduceToNat, ne_eq, false_imp_iff, true_imp_iff, cl_19, bf_19_0, bf_19_4, bf_19_38, bf_19_41, bf_19_47, bo_19_0, bo_19_4, bo_19_38, bo_19_41, bo_19_47, h1, hc, Nat.le_refl]
    exact h
  · have hk' := Nat.not_le.mpr hk
    have q1 := hS.2.2 k (by omega)
    have q2 := hl k hk
    have ih2 := ih ()
    unfold x_deg at ih2
    refine z_run ck_19 5 bf_19_4 ?_
    simp (disch := omega) only [e_q0, e_nil, e_cons, e_q, e_qf, e_qt, e_af, z_hd, z_mk1, z_lg, z_s1, z_s2, z_kl, z_en, z_kI, z_fv, z_ic, z_c1, z_sh, z_pop, z_rc, z_tgt, z_tsw, z_lsw, z_nw, z_ac, o_kI, o_kL, o_ldi, o_ldl, o_lda, o_sti, o_sta, o_stl, o_inc, o_b2, o_bz, o_l2, o_lz, o_ls, o_lneg, o_i2l, o_l2i, o_lcmp, o_dup, o_dupx1, o_dup2, o_if, o_if2, o_ifnull, o_get, o_put, o_iald, o_zald, o_aald, o_alen, o_iast, o_zast, o_aast, o_new, o_newa, o_call, o_call1, o_callN, o_obj, o_reti, o_retl, o_ret, o_tsw, o_lsw, va_rf_s, va_rf_n, z_u2_s, z_u2_k, z_u2_f, z_uR_f, z_uL_f, e_ix, e_vp, e_lt, e_le, e_eq, e_lt0, e_eq0, e_b0, e_b1, e_10, e_11, true_or, or_true, false_or, nI_add, z_bi_0, z_bi_1, e_bb, z_uR_s, z_uR_k, z_uL_s, z_uL_k, true_and, and_true, and_self, not_true_eq_false, not_false_eq_true, forall_const, Option.toList, List.cons_append, List.nil_append, List.singleton_append, Nat.reduceAdd, Nat.zero_add, Nat.add_zero, Nat.reduceEqDiff, ↓reduceIte, ite_true, ite_false, reduceCtorEq, Int.cast_ofNat_Int, Int.reduceAdd, Int.reduceToNat, ne_eq, false_imp_iff, true_imp_iff, cl_19, bf_19_0, bf_19_4, bf_19_38, bf_19_41, bf_19_47, bo_19_0, bo_19_4, bo_19_38, bo_19_41, bo_19_47, h1, hc, q1, q2, z_t4, z_t5, z_t6, hk']
    refine ⟨fun c => ?_, fun c => ⟨fun c2 => ?_, fun c2 => ?_⟩⟩
    · rw [if_pos (Or.inl c)] at ih2; exact ih2
    · rw [if_pos (Or.inr c2)] at ih2; exact ih2
    · rw [if_neg (fun q => q.elim c c2)] at ih2; exact ih2
theorem x_allParents (hS : SX T mr a) (hX : MX mi a s r) (h8 : s.1.1 ≤ 8) (hp : f_pok r s.1.1) (h : Q (some (.long (lN (x_all r s.1.1)))) (mi, mr, ml, T)) : z_Ok l G m_Mesh_allParents [.ref a] (mi, mr, ml, T) Q := by
  have h1 := hS.1
  have h2 := hX.1
  refine z_okN cz_30.1 (by rw [cl_30]; exact Nat.le_of_ble_eq_true rfl) cz_30.2 (z_run ck_30 5 bf_30_0 ?_)
  simp (disch := omega) only [e_q0, e_nil, e_cons, e_q, e_qf, e_qt, e_af, z_hd, z_mk1, z_lg, z_s1, z_s2, z_kl, z_en, z_kI, z_fv, z_ic, z_c1, z_sh, z_pop, z_rc, z_tgt, z_tsw, z_lsw, z_nw, z_ac, o_kI, o_kL, o_ldi, o_ldl, o_lda, o_sti, o_sta, o_stl, o_inc, o_b2, o_bz, o_l2, o_lz, o_ls, o_lneg, o_i2l, o_l2i, o_lcmp, o_dup, o_dupx1, o_dup2, o_if, o_if2, o_ifnull, o_get, o_put, o_iald, o_zald, o_aald, o_alen, o_iast, o_zast, o_aast, o_new, o_newa, o_call, o_call1, o_callN, o_obj, o_reti, o_retl, o_ret, o_tsw, o_lsw, va_rf_s, va_rf_n, z_u2_s, z_u2_k, z_u2_f, z_uR_f, z_uL_f, e_ix, e_vp, e_lt, e_le, e_eq, e_lt0, e_eq0, e_b0, e_b1, e_10, e_11, true_or, or_true, false_or, nI_add, z_bi_0, z_bi_1, e_bb, z_uR_s, z_uR_k, z_uL_s, z_uL_k, true_and, and_true, and_self, not_true_eq_false, not_false_eq_true, forall_const, Option.toList, List.cons_append, List.nil_append, List.singleton_append, Nat.reduceAdd, Nat.zero_add, Nat.add_zero, Nat.reduceEqDiff, ↓reduceIte, ite_true, ite_false, reduceCtorEq, Int.cast_ofNat_Int, Int.reduceAdd, Int.reduceToNat, ne_eq, false_imp_iff, true_imp_iff, cl_30, bf_30_0, bf_30_4, bf_30_36, bf_30_45, bf_30_54, bo_30_0, bo_30_4, bo_30_36, bo_30_45, bo_30_54, h1, h2]
  refine z_for (α := Unit) (P := fun k _ => z_W l G 30 (T.2.1, T.2.2) (fun v M' => Q v M' ∧ M'.2.2.2 = T) 4 [some (.ref a), some (.long (lN (x_all r k))), none, some (.int (nI k))] [] (mi, mr, ml, T)) s.1.1 (fun _ => ?_) (fun k hk ih _ => ?_) 0 (by omega) ()
  · refine z_run ck_30 5 bf_30_4 ?_
    simp (disch := omega) only [e_q0, e_nil, e_cons, e_q, e_qf, e_qt, e_af, z_hd, z_mk1, z_lg, z_s1, z_s2, z_kl, z_en, z_kI, z_fv, z_ic, z_c1, z_sh, z_pop, z_rc, z_tgt, z_tsw, z_lsw, z_nw, z_ac, o_kI, o_kL, o_ldi, o_ldl, o_lda, o_sti, o_sta, o_stl, o_inc, o_b2, o_bz, o_l2, o_lz, o_ls, o_lneg, o_i2l, o_l2i, o_lcmp, o_dup, o_dupx1, o_dup2, o_if, o_if2, o_ifnull, o_get, o_put, o_iald, o_zald, o_aald, o_alen, o_iast, o_zast, o_aast, o_new, o_newa, o_call, o_call1, o_callN, o_obj, o_reti, o_retl, o_ret, o_tsw, o_lsw, va_rf_s, va_rf_n, z_u2_s, z_u2_k, z_u2_f, z_uR_f, z_uL_f, e_ix, e_vp, e_lt, e_le, e_eq, e_lt0, e_eq0, e_b0, e_b1, e_10, e_11, true_or, or_true, false_or, nI_add, z_bi_0, z_bi_1, e_bb, z_uR_s, z_uR_k, z_uL_s, z_uL_k, true_and, and_true, and_self, not_true_eq_false, not_false_eq_true, forall_const, Option.toList, List.cons_append, List.nil_append, List.singleton_append, Nat.reduceAdd, Nat.zero_add, Nat.add_zero, Nat.reduceEqDiff, ↓reduceIte, ite_true, ite_false, reduceCtorEq, Int.cast_ofNat_Int, Int.reduceAdd, Int.reduceToNat, ne_eq, false_imp_iff, true_imp_iff, cl_30, bf_30_0, bf_30_4, bf_30_36, bf_30_45, bf_30_54, bo_30_0, bo_30_4, bo_30_36, bo_30_45, bo_30_54, h1, h2, Nat.le_refl]
    exact h
  · have hk' := Nat.not_le.mpr hk
    have q1 := hS.2.1 k (by omega)
    have q2 := hX.2.1 k hk
    have ih2 := ih ()
    unfold x_all at ih2
    refine z_run ck_30 5 bf_30_4 ?_
    simp (disch := omega) only [e_q0, e_nil, e_cons, e_q, e_qf, e_qt, e_af, z_hd, z_mk1, z_lg, z_s1, z_s2, z_kl, z_en, z_kI, z_fv, z_ic, z_c1, z_sh, z_pop, z_rc, z_tgt, z_tsw, z_lsw, z_nw, z_ac, o_kI, o_kL, o_ldi, o_ldl, o_lda, o_sti, o_sta, o_stl, o_inc, o_b2, o_bz, o_l2, o_lz, o_ls, o_lneg, o_i2l, o_l2i, o_lcmp, o_dup, o_dupx1, o_dup2, o_if, o_if2, o_ifnull, o_get, o_put, o_iald, o_zald, o_aald, o_alen, o_iast, o_zast, o_aast, o_new, o_newa, o_call, o_call1, o_callN, o_obj, o_reti, o_retl, o_ret, o_tsw, o_lsw, va_rf_s, va_rf_n, z_u2_s, z_u2_k, z_u2_f, z_uR_f, z_uL_f, e_ix, e_vp, e_lt, e_le, e_eq, e_lt0, e_eq0, e_b0, e_b1, e_10, e_11, true_or, or_true, false_or, nI_add, z_bi_0, z_bi_1, e_bb, z_uR_s, z_uR_k, z_uL_s, z_uL_k, true_and, and_true, and_self, not_true_eq_false, not_false_eq_true, forall_const, Option.toList, List.cons_append, List.nil_append, List.singleton_append, Nat.reduceAdd, Nat.zero_add, Nat.add_zero, Nat.reduceEqDiff, ↓reduceIte, ite_true, ite_false, reduceCtorEq, Int.cast_ofNat_Int, Int.reduceAdd, Int.reduceToNat, ne_eq, false_imp_iff, true_imp_iff, cl_30, bf_30_0, bf_30_4, bf_30_36, bf_30_45, bf_30_54, bo_30_0, bo_30_4, bo_30_36, bo_30_45, bo_30_54, h1, h2, q1, q2, z_t4, z_t5, z_t6, hk']
    have e : ∀ p, p < 1000 → x_pv r k = p → lN (x_all r k) * lN 16 + (nI p).toInt64 = lN (x_all r k * 16 + x_pv r k) := fun p hp e => by
      rw [e, nI_l (by omega)]
      show Int64.ofNat _ * Int64.ofNat _ + Int64.ofNat _ = Int64.ofNat _
      rw [Int64.ofNat_add, Int64.ofNat_mul]
    refine ⟨fun c => ?_, fun c => ?_⟩
    · rw [e 8 (by omega) (by unfold x_pv f_par; rw [if_pos c])]
      exact ih2
    · obtain ⟨j, hj, e2⟩ := (hp k hk).resolve_left c
      rw [e2, e j (by omega) (by unfold x_pv f_par; rw [if_neg c, e2, e_ix (by omega)])]
      exact ih2
theorem x_lb_some {x y : Int32} : ∀ n k, x_lb s x y n = some k → k < n ∧ f_is s x y k = true
  | 0, k, h => by cases h
  | n + 1, k, h => by
    unfold x_lb at h
    cases q : x_lb s x y n with
    | some j =>
      rw [q] at h
      cases h
      have := x_lb_some n k q
      exact ⟨by omega, this.2⟩
    | none =>
      rw [q] at h
      simp only at h
      by_cases c : f_is s x y n = true
      · rw [if_pos c] at h; cases h; exact ⟨by omega, c⟩
      · rw [if_neg c] at h; cases h
theorem x_lb_none {x y : Int32} : ∀ n, x_lb s x y n = none → ∀ k, k < n → ¬ f_is s x y k = true
  | 0, _, k, hk => absurd hk (Nat.not_lt_zero _)
  | n + 1, h, k, hk => by
    unfold x_lb at h
    cases q : x_lb s x y n with
    | some j => rw [q] at h; cases h
    | none =>
      rw [q] at h
      simp only at h
      by_cases c : f_is s x y n = true
      · rw [if_pos c] at h; cases h
      · by_cases e : k = n
        · subst e; exact c
        · exact x_lb_none n q k (by omega)
theorem f_is_u {x y : Int32} {j k : Nat} (hs : f_sok s) (hj : j < s.1.2) (hk : k < s.1.2) (h1 : f_is s x y j = true) (h2 : f_is s x y k = true) : j = k := by
  refine hs.2.2.1.2 j k hj hk ?_
  unfold f_is at *
  simp only [Bool.or_eq_true, Bool.and_eq_true, decide_eq_true_eq] at *
  rcases h1 with ⟨a1, a2⟩ | ⟨a1, a2⟩ <;> rcases h2 with ⟨b1, b2⟩ | ⟨b1, b2⟩ <;> simp [a1, a2, b1, b2]
theorem x_openOffer {m n : Nat} (hS : SX T mr a) (hX : MX mi a s r) (hs : f_sok s) (hm : m < s.1.1) (hn : n < s.1.1)
    (h : ∀ f, (∀ c, c ≠ a + 2 + m → f c = mi c) → MX f a s r → OX (f (a + 2 + m)) s (nI 255) r m → Q (some (.int (z_on (if f_offers s (nI 255) r m = true then f_link s r (nI m) (nI n) s.1.2 else none)))) (f, mr, ml, T)) : z_Ok l G m_Mesh_openOffer [.ref a, .int (nI m), .int (nI n)] (mi, mr, ml, T) Q := by
  have h8 := hs.1
  have h1 := hS.1
  have h2 := hX.1
  have q1 := hS.2.1 m (by omega)
  have q2 := hX.2.1 m hm
  refine z_okN cz_21.1 (by rw [cl_21]; exact Nat.le_of_ble_eq_true rfl) cz_21.2 (z_run ck_21 5 bf_21_0 ?_)
  simp (disch := omega) only [e_q0, e_nil, e_cons, e_q, e_qf, e_qt, e_af, z_hd, z_mk1, z_lg, z_s1, z_s2, z_kl, z_en, z_kI, z_fv, z_ic, z_c1, z_sh, z_pop, z_rc, z_tgt, z_tsw, z_lsw, z_nw, z_ac, o_kI, o_kL, o_ldi, o_ldl, o_lda, o_sti, o_sta, o_stl, o_inc, o_b2, o_bz, o_l2, o_lz, o_ls, o_lneg, o_i2l, o_l2i, o_lcmp, o_dup, o_dupx1, o_dup2, o_if, o_if2, o_ifnull, o_get, o_put, o_iald, o_zald, o_aald, o_alen, o_iast, o_zast, o_aast, o_new, o_newa, o_call, o_call1, o_callN, o_obj, o_reti, o_retl, o_ret, o_tsw, o_lsw, va_rf_s, va_rf_n, z_u2_s, z_u2_k, z_u2_f, z_uR_f, z_uL_f, e_ix, e_vp, e_lt, e_le, e_eq, e_lt0, e_eq0, e_b0, e_b1, e_10, e_11, true_or, or_true, false_or, nI_add, z_bi_0, z_bi_1, e_bb, z_uR_s, z_uR_k, z_uL_s, z_uL_k, true_and, and_true, and_self, not_true_eq_false, not_false_eq_true, forall_const, Option.toList, List.cons_append, List.nil_append, List.singleton_append, Nat.reduceAdd, Nat.zero_add, Nat.add_zero, Nat.reduceEqDiff, ↓reduceIte, ite_true, ite_false, reduceCtorEq, Int.cast_ofNat_Int, Int.reduceAdd, Int.reduceToNat, ne_eq, false_imp_iff, true_imp_iff, cl_21, bf_21_0, bf_21_49, bf_21_54, bf_21_55, bo_21_0, bo_21_49, bo_21_54, bo_21_55, h1, h2, q1, z_t4, z_t5, z_t6]
  refine x_fixOffer (b := false) (co := nI 255) q1.1 q2 (fun _ => by rw [f_has255 m (by omega)]; rfl) fun f f1 f2 f3 => ?_
  have fa := f1 a (by omega)
  have hX2 : MX f a s r := ⟨by rw [fa]; exact h2, fun i hi => by
    by_cases e : i = m
    · subst e; exact NX.cong (hX.2.1 i hi) fun j hj => f2 j (by omega) (by omega) (by omega)
    · rw [f1 _ (by omega)]; exact hX.2.1 i hi, fun k hk => by rw [f1 _ (by omega)]; exact hX.2.2 k hk⟩
  simp (disch := omega) only [e_q0, e_nil, e_cons, e_q, e_qf, e_qt, e_af, z_hd, z_mk1, z_lg, z_s1, z_s2, z_kl, z_en, z_kI, z_fv, z_ic, z_c1, z_sh, z_pop, z_rc, z_tgt, z_tsw, z_lsw, z_nw, z_ac, o_kI, o_kL, o_ldi, o_ldl, o_lda, o_sti, o_sta, o_stl, o_inc, o_b2, o_bz, o_l2, o_lz, o_ls, o_lneg, o_i2l, o_l2i, o_lcmp, o_dup, o_dupx1, o_dup2, o_if, o_if2, o_ifnull, o_get, o_put, o_iald, o_zald, o_aald, o_alen, o_iast, o_zast, o_aast, o_new, o_newa, o_call, o_call1, o_callN, o_obj, o_reti, o_retl, o_ret, o_tsw, o_lsw, va_rf_s, va_rf_n, z_u2_s, z_u2_k, z_u2_f, z_uR_f, z_uL_f, e_ix, e_vp, e_lt, e_le, e_eq, e_lt0, e_eq0, e_b0, e_b1, e_10, e_11, true_or, or_true, false_or, nI_add, z_bi_0, z_bi_1, e_bb, z_uR_s, z_uR_k, z_uL_s, z_uL_k, true_and, and_true, and_self, not_true_eq_false, not_false_eq_true, forall_const, Option.toList, List.cons_append, List.nil_append, List.singleton_append, Nat.reduceAdd, Nat.zero_add, Nat.add_zero, Nat.reduceEqDiff, ↓reduceIte, ite_true, ite_false, reduceCtorEq, Int.cast_ofNat_Int, Int.reduceAdd, Int.reduceToNat, ne_eq, false_imp_iff, true_imp_iff, cl_21, bf_21_0, bf_21_49, bf_21_54, bf_21_55, bo_21_0, bo_21_49, bo_21_54, bo_21_55, h1, h2, q1, z_t4, z_t5, z_t6]
  refine x_linkBetween hS hX2 h8.2 ?_
  have hl : ∀ k, x_lb s (nI m) (nI n) s.1.2 = some k → k < s.1.2 ∧ f_is s (nI m) (nI n) k = true := fun k hk => x_lb_some _ _ hk
  have hl0 : x_lb s (nI m) (nI n) s.1.2 = none → f_link s r (nI m) (nI n) s.1.2 = none := fun e => by
    cases q : f_link s r (nI m) (nI n) s.1.2 with
    | none => rfl
    | some j =>
      obtain ⟨a1, _, a3⟩ := f_link_some _ _ q
      exact absurd a3 (x_lb_none _ e j a1)
  cases q : x_lb s (nI m) (nI n) s.1.2 with
  | none =>
    have e := hl0 q
    simp only [z_on]
    simp (disch := omega) only [e_q0, e_nil, e_cons, e_q, e_qf, e_qt, e_af, z_hd, z_mk1, z_lg, z_s1, z_s2, z_kl, z_en, z_kI, z_fv, z_ic, z_c1, z_sh, z_pop, z_rc, z_tgt, z_tsw, z_lsw, z_nw, z_ac, o_kI, o_kL, o_ldi, o_ldl, o_lda, o_sti, o_sta, o_stl, o_inc, o_b2, o_bz, o_l2, o_lz, o_ls, o_lneg, o_i2l, o_l2i, o_lcmp, o_dup, o_dupx1, o_dup2, o_if, o_if2, o_ifnull, o_get, o_put, o_iald, o_zald, o_aald, o_alen, o_iast, o_zast, o_aast, o_new, o_newa, o_call, o_call1, o_callN, o_obj, o_reti, o_retl, o_ret, o_tsw, o_lsw, va_rf_s, va_rf_n, z_u2_s, z_u2_k, z_u2_f, z_uR_f, z_uL_f, e_ix, e_vp, e_lt, e_le, e_eq, e_lt0, e_eq0, e_b0, e_b1, e_10, e_11, true_or, or_true, false_or, nI_add, z_bi_0, z_bi_1, e_bb, z_uR_s, z_uR_k, z_uL_s, z_uL_k, true_and, and_true, and_self, not_true_eq_false, not_false_eq_true, forall_const, Option.toList, List.cons_append, List.nil_append, List.singleton_append, Nat.reduceAdd, Nat.zero_add, Nat.add_zero, Nat.reduceEqDiff, ↓reduceIte, ite_true, ite_false, reduceCtorEq, Int.cast_ofNat_Int, Int.reduceAdd, Int.reduceToNat, ne_eq, false_imp_iff, true_imp_iff, cl_21, bf_21_0, bf_21_49, bf_21_54, bf_21_55, bo_21_0, bo_21_49, bo_21_54, bo_21_55]
    have hh := h f f1 hX2 f3
    rw [e, ite_self] at hh
    exact ⟨fun _ => hh, fun q => absurd (by decide) q⟩
  | some k =>
    obtain ⟨hk, hi⟩ := hl k q
    have q3 := hS.2.2 k (by omega)
    have q4 := hX2.2.2 k hk
    simp only [z_on]
    simp (disch := omega) only [e_q0, e_nil, e_cons, e_q, e_qf, e_qt, e_af, z_hd, z_mk1, z_lg, z_s1, z_s2, z_kl, z_en, z_kI, z_fv, z_ic, z_c1, z_sh, z_pop, z_rc, z_tgt, z_tsw, z_lsw, z_nw, z_ac, o_kI, o_kL, o_ldi, o_ldl, o_lda, o_sti, o_sta, o_stl, o_inc, o_b2, o_bz, o_l2, o_lz, o_ls, o_lneg, o_i2l, o_l2i, o_lcmp, o_dup, o_dupx1, o_dup2, o_if, o_if2, o_ifnull, o_get, o_put, o_iald, o_zald, o_aald, o_alen, o_iast, o_zast, o_aast, o_new, o_newa, o_call, o_call1, o_callN, o_obj, o_reti, o_retl, o_ret, o_tsw, o_lsw, va_rf_s, va_rf_n, z_u2_s, z_u2_k, z_u2_f, z_uR_f, z_uL_f, e_ix, e_vp, e_lt, e_le, e_eq, e_lt0, e_eq0, e_b0, e_b1, e_10, e_11, true_or, or_true, false_or, nI_add, z_bi_0, z_bi_1, e_bb, z_uR_s, z_uR_k, z_uL_s, z_uL_k, true_and, and_true, and_self, not_true_eq_false, not_false_eq_true, forall_const, Option.toList, List.cons_append, List.nil_append, List.singleton_append, Nat.reduceAdd, Nat.zero_add, Nat.add_zero, Nat.reduceEqDiff, ↓reduceIte, ite_true, ite_false, reduceCtorEq, Int.cast_ofNat_Int, Int.reduceAdd, Int.reduceToNat, ne_eq, false_imp_iff, true_imp_iff, cl_21, bf_21_0, bf_21_49, bf_21_54, bf_21_55, bo_21_0, bo_21_49, bo_21_54, bo_21_55, h1, fa, q3, q4, q1, z_t4, z_t5, z_t6, f3]
    have hh := h f f1 hX2 f3
    refine ⟨fun c => ⟨fun c2 => ?_, fun c2 => ?_⟩, fun c => ?_⟩
    · rw [if_neg (by rw [c2]; decide)] at hh; exact hh
    · rw [if_pos (by simpa using c2), (f_link_from hs hn hm).mpr ⟨hk, x_from_is hs hn hk hm c hi⟩] at hh
      exact hh
    · have e : f_link s r (nI m) (nI n) s.1.2 = none := by
        cases w : f_link s r (nI m) (nI n) s.1.2 with
        | none => rfl
        | some j =>
          obtain ⟨a1, a2, a3⟩ := f_link_some _ _ w
          have := f_is_u hs a1 hk a3 hi
          subst this
          exact absurd a2 c
      rw [e, ite_self] at hh
      exact hh
end
