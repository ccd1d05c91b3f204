/-! THE CLASS -/
theorem z_t4 : (4 ≤ 4 ∧ 4 ≤ 6) = True := by simp
theorem z_t5 : (4 ≤ 5 ∧ 5 ≤ 6) = True := by simp
theorem z_t6 : (4 ≤ 6 ∧ 6 ≤ 6) = True := by simp
theorem z_or0 (y : Int32) : y ||| nI 0 = y := by
  refine Int32.toBitVec_inj.mp ?_
  show y.toBitVec ||| 0#32 = y.toBitVec
  exact BitVec.or_zero
/-- the shape of a mesh of the class at address a -/
abbrev SX (T : (Nat → Nat × Nat) × Nat × Nat) (mr : Nat → Nat → Option Nat) (a : Nat) : Prop :=
  (T.1 a = (1, 2) ∧ T.1 (a + 1) = (4, 8) ∧ T.1 (a + 10) = (5, 9) ∧ mr a 0 = some (a + 1) ∧ mr a 1 = some (a + 10)) ∧
  (∀ i, i < 8 → T.1 (a + 2 + i) = (1, 3) ∧ mr (a + 1) i = some (a + 2 + i)) ∧ ∀ k, k < 9 → T.1 (a + 11 + k) = (1, 1) ∧ mr (a + 10) k = some (a + 11 + k)
/-- a node of the class -/
abbrev NX (f : ZW) (s : ZS) (r : ZW) (i : Nat) : Prop := (f 0 = s.2 0 i ∧ f 1 = r (67 + i) ∧ f 2 = s.2 1 i ∧ f 3 = s.2 2 i) ∧ f 4 = r i ∧ f 5 = (if r i = z_ng 9 then z_ng 9 else r (8 + i)) ∧ f 6 = (if r i = z_ng 9 then z_ng 9 else r (16 + i)) ∧ f 7 = r (24 + i) ∧ f 8 = r (32 + i)
/-- a link of the class -/
abbrev LX (f : ZW) (s : ZS) (r : ZW) (k : Nat) : Prop := f 0 = s.2 3 k ∧ f 1 = s.2 4 k ∧ f 2 = r (40 + k) ∧ f 3 = r (49 + k) ∧ f 4 = s.2 5 k ∧ f 5 = f_air s r k ∧ f 6 = r (58 + k)
/-- the mesh at a holds (s, r) -/
abbrev MX (mi : Nat → Nat → Int32) (a : Nat) (s : ZS) (r : ZW) : Prop := (mi a 2 = nI s.1.1 ∧ mi a 3 = nI s.1.2 ∧ mi a 4 = r 75 ∧ mi a 5 = r 76 ∧ mi a 6 = r 77) ∧ (∀ i, i < s.1.1 → NX (mi (a + 2 + i)) s r i) ∧ ∀ k, k < s.1.2 → LX (mi (a + 11 + k)) s r k
section
variable {l : Launch} {G : ZG} {mi : Nat → Nat → Int32} {mr : Nat → Nat → Option Nat} {ml : Nat → Nat → Int64} {T : (Nat → Nat × Nat) × Nat × Nat} {Q : ZR} {a : Nat} {s : ZS} {r : ZW}
theorem x_isWithin {x : Int32} {b c : Nat} (h : Q (some (.int (z_bi (f_in x b c)))) (mi, mr, ml, T)) : z_Ok l G m_MP_isWithin [.int x, .int (nI b), .int (nI c)] (mi, mr, ml, T) Q := by
  unfold f_in at h
  refine z_okN cz_88.1 (by rw [cl_88]; exact Nat.le_of_ble_eq_true rfl) cz_88.2 (z_run ck_88 4 bf_88_0 ?_)
  simp (disch := omega) only [e_q0, e_nil, e_cons, e_q, e_qf, e_qt, e_af, z_hd, z_mk1, z_lg, z_s1, z_s2, z_kl, z_en, z_kI, z_fv, z_ic, z_c1, z_sh, z_pop, z_rc, z_tgt, z_tsw, z_lsw, z_nw, z_ac, o_kI, o_kL, o_ldi, o_ldl, o_lda, o_sti, o_sta, o_stl, o_inc, o_b2, o_bz, o_l2, o_lz, o_ls, o_lneg, o_i2l, o_l2i, o_lcmp, o_dup, o_dupx1, o_dup2, o_if, o_if2, o_ifnull, o_get, o_put, o_iald, o_zald, o_aald, o_alen, o_iast, o_zast, o_aast, o_new, o_newa, o_call, o_call1, o_callN, o_obj, o_reti, o_retl, o_ret, o_tsw, o_lsw, va_rf_s, va_rf_n, z_u2_s, z_u2_k, z_u2_f, z_uR_f, z_uL_f, e_ix, e_vp, e_lt, e_le, e_eq, e_lt0, e_eq0, e_b0, e_b1, e_10, e_11, true_or, or_true, false_or, nI_add, z_bi_0, z_bi_1, e_bb, z_uR_s, z_uR_k, z_uL_s, z_uL_k, true_and, and_true, and_self, not_true_eq_false, not_false_eq_true, forall_const, Option.toList, List.cons_append, List.nil_append, List.singleton_append, Nat.reduceAdd, Nat.zero_add, Nat.add_zero, Nat.reduceEqDiff, ↓reduceIte, ite_true, ite_false, reduceCtorEq, Int.cast_ofNat_Int, Int.reduceAdd, Int.reduceToNat, ne_eq, false_imp_iff, true_imp_iff, cl_88, bf_88_0, bf_88_14, bf_88_15, bo_88_0, bo_88_14, bo_88_15]
  refine ⟨fun c1 => z_f0 h ?_, fun c1 => ⟨fun c2 => z_f0 h ?_, fun c2 => z_f1 h ?_⟩⟩
  · rw [decide_eq_false (Int32.not_le.mpr c1)]; rfl
  · rw [decide_eq_false (Int32.not_le.mpr c2), Bool.and_false]
  · rw [decide_eq_true (Int32.not_lt.mp c1), decide_eq_true (Int32.not_lt.mp c2)]; rfl
theorem x_idx {x : Int32} {n : Nat} {M : ZM} (h : Q (some (.int (z_bi (f_idx x n)))) M) : (x < 0 → Q (some (Value.int (nI 0))) M) ∧ (¬x < 0 → (nI n ≤ x → Q (some (Value.int (nI 0))) M) ∧ (¬nI n ≤ x → Q (some (Value.int (nI 1))) M)) := by
  unfold f_idx at h
  refine ⟨fun c1 => z_f0 h ?_, fun c1 => ⟨fun c2 => z_f0 h ?_, fun c2 => z_f1 h ?_⟩⟩
  · rw [decide_eq_false (show ¬ nI 0 ≤ x from Int32.not_le.mpr c1)]; rfl
  · rw [decide_eq_false (Int32.not_lt.mpr c2), Bool.and_false]
  · rw [decide_eq_true (show nI 0 ≤ x from Int32.not_lt.mp c1), decide_eq_true (Int32.not_le.mp c2)]; rfl
theorem x_hasNode {x : Int32} (hS : SX T mr a) (hX : MX mi a s r) (h : Q (some (.int (z_bi (f_idx x s.1.1)))) (mi, mr, ml, T)) : z_Ok l G m_Mesh_hasNode [.ref a, .int x] (mi, mr, ml, T) Q := by
  have h1 := hS.1
  have h2 := hX.1
  refine z_okN cz_14.1 (by rw [cl_14]; exact Nat.le_of_ble_eq_true rfl) cz_14.2 (z_run ck_14 4 bf_14_0 ?_)
  simp (disch := omega) only [e_q0, e_nil, e_cons, e_q, e_qf, e_qt, e_af, z_hd, z_mk1, z_lg, z_s1, z_s2, z_kl, z_en, z_kI, z_fv, z_ic, z_c1, z_sh, z_pop, z_rc, z_tgt, z_tsw, z_lsw, z_nw, z_ac, o_kI, o_kL, o_ldi, o_ldl, o_lda, o_sti, o_sta, o_stl, o_inc, o_b2, o_bz, o_l2, o_lz, o_ls, o_lneg, o_i2l, o_l2i, o_lcmp, o_dup, o_dupx1, o_dup2, o_if, o_if2, o_ifnull, o_get, o_put, o_iald, o_zald, o_aald, o_alen, o_iast, o_zast, o_aast, o_new, o_newa, o_call, o_call1, o_callN, o_obj, o_reti, o_retl, o_ret, o_tsw, o_lsw, va_rf_s, va_rf_n, z_u2_s, z_u2_k, z_u2_f, z_uR_f, z_uL_f, e_ix, e_vp, e_lt, e_le, e_eq, e_lt0, e_eq0, e_b0, e_b1, e_10, e_11, true_or, or_true, false_or, nI_add, z_bi_0, z_bi_1, e_bb, z_uR_s, z_uR_k, z_uL_s, z_uL_k, true_and, and_true, and_self, not_true_eq_false, not_false_eq_true, forall_const, Option.toList, List.cons_append, List.nil_append, List.singleton_append, Nat.reduceAdd, Nat.zero_add, Nat.add_zero, Nat.reduceEqDiff, ↓reduceIte, ite_true, ite_false, reduceCtorEq, Int.cast_ofNat_Int, Int.reduceAdd, Int.reduceToNat, ne_eq, false_imp_iff, true_imp_iff, cl_14, bf_14_0, bf_14_16, bf_14_17, bo_14_0, bo_14_16, bo_14_17, h1, h2]
  exact x_idx h
theorem x_hasLink {x : Int32} (hS : SX T mr a) (hX : MX mi a s r) (h : Q (some (.int (z_bi (f_idx x s.1.2)))) (mi, mr, ml, T)) : z_Ok l G m_Mesh_hasLink [.ref a, .int x] (mi, mr, ml, T) Q := by
  have h1 := hS.1
  have h2 := hX.1
  refine z_okN cz_15.1 (by rw [cl_15]; exact Nat.le_of_ble_eq_true rfl) cz_15.2 (z_run ck_15 4 bf_15_0 ?_)
  simp (disch := omega) only [e_q0, e_nil, e_cons, e_q, e_qf, e_qt, e_af, z_hd, z_mk1, z_lg, z_s1, z_s2, z_kl, z_en, z_kI, z_fv, z_ic, z_c1, z_sh, z_pop, z_rc, z_tgt, z_tsw, z_lsw, z_nw, z_ac, o_kI, o_kL, o_ldi, o_ldl, o_lda, o_sti, o_sta, o_stl, o_inc, o_b2, o_bz, o_l2, o_lz, o_ls, o_lneg, o_i2l, o_l2i, o_lcmp, o_dup, o_dupx1, o_dup2, o_if, o_if2, o_ifnull, o_get, o_put, o_iald, o_zald, o_aald, o_alen, o_iast, o_zast, o_aast, o_new, o_newa, o_call, o_call1, o_callN, o_obj, o_reti, o_retl, o_ret, o_tsw, o_lsw, va_rf_s, va_rf_n, z_u2_s, z_u2_k, z_u2_f, z_uR_f, z_uL_f, e_ix, e_vp, e_lt, e_le, e_eq, e_lt0, e_eq0, e_b0, e_b1, e_10, e_11, true_or, or_true, false_or, nI_add, z_bi_0, z_bi_1, e_bb, z_uR_s, z_uR_k, z_uL_s, z_uL_k, true_and, and_true, and_self, not_true_eq_false, not_false_eq_true, forall_const, Option.toList, List.cons_append, List.nil_append, List.singleton_append, Nat.reduceAdd, Nat.zero_add, Nat.add_zero, Nat.reduceEqDiff, ↓reduceIte, ite_true, ite_false, reduceCtorEq, Int.cast_ofNat_Int, Int.reduceAdd, Int.reduceToNat, ne_eq, false_imp_iff, true_imp_iff, cl_15, bf_15_0, bf_15_16, bf_15_17, bo_15_0, bo_15_16, bo_15_17, h1, h2]
  exact x_idx h
theorem x_isGateway {x : Int32} (hS : SX T mr a) (hX : MX mi a s r) (h8 : s.1.1 ≤ 8) (h : Q (some (.int (z_bi (f_gate s x)))) (mi, mr, ml, T)) : z_Ok l G m_Mesh_isGateway [.ref a, .int x] (mi, mr, ml, T) Q := by
  have h1 := hS.1
  have h2 := hX.1
  unfold f_gate at h
  refine z_okN cz_16.1 (by rw [cl_16]; exact Nat.le_of_ble_eq_true rfl) cz_16.2 (z_run ck_16 4 bf_16_0 ?_)
  simp (disch := omega) only [e_q0, e_nil, e_cons, e_q, e_qf, e_qt, e_af, z_hd, z_mk1, z_lg, z_s1, z_s2, z_kl, z_en, z_kI, z_fv, z_ic, z_c1, z_sh, z_pop, z_rc, z_tgt, z_tsw, z_lsw, z_nw, z_ac, o_kI, o_kL, o_ldi, o_ldl, o_lda, o_sti, o_sta, o_stl, o_inc, o_b2, o_bz, o_l2, o_lz, o_ls, o_lneg, o_i2l, o_l2i, o_lcmp, o_dup, o_dupx1, o_dup2, o_if, o_if2, o_ifnull, o_get, o_put, o_iald, o_zald, o_aald, o_alen, o_iast, o_zast, o_aast, o_new, o_newa, o_call, o_call1, o_callN, o_obj, o_reti, o_retl, o_ret, o_tsw, o_lsw, va_rf_s, va_rf_n, z_u2_s, z_u2_k, z_u2_f, z_uR_f, z_uL_f, e_ix, e_vp, e_lt, e_le, e_eq, e_lt0, e_eq0, e_b0, e_b1, e_10, e_11, true_or, or_true, false_or, nI_add, z_bi_0, z_bi_1, e_bb, z_uR_s, z_uR_k, z_uL_s, z_uL_k, true_and, and_true, and_self, not_true_eq_false, not_false_eq_true, forall_const, Option.toList, List.cons_append, List.nil_append, List.singleton_append, Nat.reduceAdd, Nat.zero_add, Nat.add_zero, Nat.reduceEqDiff, ↓reduceIte, ite_true, ite_false, reduceCtorEq, Int.cast_ofNat_Int, Int.reduceAdd, Int.reduceToNat, ne_eq, false_imp_iff, true_imp_iff, cl_16, bf_16_0, bf_16_24, bf_16_25, bo_16_0, bo_16_24, bo_16_25, h1, h2]
  refine x_hasNode hS hX ?_
  simp (disch := omega) only [e_q0, e_nil, e_cons, e_q, e_qf, e_qt, e_af, z_hd, z_mk1, z_lg, z_s1, z_s2, z_kl, z_en, z_kI, z_fv, z_ic, z_c1, z_sh, z_pop, z_rc, z_tgt, z_tsw, z_lsw, z_nw, z_ac, o_kI, o_kL, o_ldi, o_ldl, o_lda, o_sti, o_sta, o_stl, o_inc, o_b2, o_bz, o_l2, o_lz, o_ls, o_lneg, o_i2l, o_l2i, o_lcmp, o_dup, o_dupx1, o_dup2, o_if, o_if2, o_ifnull, o_get, o_put, o_iald, o_zald, o_aald, o_alen, o_iast, o_zast, o_aast, o_new, o_newa, o_call, o_call1, o_callN, o_obj, o_reti, o_retl, o_ret, o_tsw, o_lsw, va_rf_s, va_rf_n, z_u2_s, z_u2_k, z_u2_f, z_uR_f, z_uL_f, e_ix, e_vp, e_lt, e_le, e_eq, e_lt0, e_eq0, e_b0, e_b1, e_10, e_11, true_or, or_true, false_or, nI_add, z_bi_0, z_bi_1, e_bb, z_uR_s, z_uR_k, z_uL_s, z_uL_k, true_and, and_true, and_self, not_true_eq_false, not_false_eq_true, forall_const, Option.toList, List.cons_append, List.nil_append, List.singleton_append, Nat.reduceAdd, Nat.zero_add, Nat.add_zero, Nat.reduceEqDiff, ↓reduceIte, ite_true, ite_false, reduceCtorEq, Int.cast_ofNat_Int, Int.reduceAdd, Int.reduceToNat, ne_eq, false_imp_iff, true_imp_iff, cl_16, bf_16_0, bf_16_24, bf_16_25, bo_16_0, bo_16_24, bo_16_25, h1, h2]
  refine ⟨fun c => z_f0 h (by rw [c]; rfl), fun c => ?_⟩
  rw [Bool.not_eq_false] at c
  obtain ⟨i, hi, rfl⟩ := f_idx_t (by omega) c
  rw [c, e_ix (by omega)] at h
  have q1 := hS.2.1 i (by omega)
  have q2 := hX.2.1 i hi
  simp (disch := omega) only [e_q0, e_nil, e_cons, e_q, e_qf, e_qt, e_af, z_hd, z_mk1, z_lg, z_s1, z_s2, z_kl, z_en, z_kI, z_fv, z_ic, z_c1, z_sh, z_pop, z_rc, z_tgt, z_tsw, z_lsw, z_nw, z_ac, o_kI, o_kL, o_ldi, o_ldl, o_lda, o_sti, o_sta, o_stl, o_inc, o_b2, o_bz, o_l2, o_lz, o_ls, o_lneg, o_i2l, o_l2i, o_lcmp, o_dup, o_dupx1, o_dup2, o_if, o_if2, o_ifnull, o_get, o_put, o_iald, o_zald, o_aald, o_alen, o_iast, o_zast, o_aast, o_new, o_newa, o_call, o_call1, o_callN, o_obj, o_reti, o_retl, o_ret, o_tsw, o_lsw, va_rf_s, va_rf_n, z_u2_s, z_u2_k, z_u2_f, z_uR_f, z_uL_f, e_ix, e_vp, e_lt, e_le, e_eq, e_lt0, e_eq0, e_b0, e_b1, e_10, e_11, true_or, or_true, false_or, nI_add, z_bi_0, z_bi_1, e_bb, z_uR_s, z_uR_k, z_uL_s, z_uL_k, true_and, and_true, and_self, not_true_eq_false, not_false_eq_true, forall_const, Option.toList, List.cons_append, List.nil_append, List.singleton_append, Nat.reduceAdd, Nat.zero_add, Nat.add_zero, Nat.reduceEqDiff, ↓reduceIte, ite_true, ite_false, reduceCtorEq, Int.cast_ofNat_Int, Int.reduceAdd, Int.reduceToNat, ne_eq, false_imp_iff, true_imp_iff, cl_16, bf_16_0, bf_16_24, bf_16_25, bo_16_0, bo_16_24, bo_16_25, h1, h2, q1, q2, z_t4, z_t5, z_t6]
  exact ⟨fun c1 => z_f1 h (by rw [decide_eq_true c1]; rfl), fun c1 => z_f0 h (by rw [decide_eq_false c1]; rfl)⟩
theorem x_nodesOfKind {x : Int32} (hS : SX T mr a) (hX : MX mi a s r) (h8 : s.1.1 ≤ 8) (h : Q (some (.int (f_those s x s.1.1))) (mi, mr, ml, T)) : z_Ok l G m_Mesh_nodesOfKind [.ref a, .int x] (mi, mr, ml, T) Q := by
  have h1 := hS.1
  have h2 := hX.1
  refine z_okN cz_17.1 (by rw [cl_17]; exact Nat.le_of_ble_eq_true rfl) cz_17.2 (z_run ck_17 4 bf_17_0 ?_)
  simp (disch := omega) only [e_q0, e_nil, e_cons, e_q, e_qf, e_qt, e_af, z_hd, z_mk1, z_lg, z_s1, z_s2, z_kl, z_en, z_kI, z_fv, z_ic, z_c1, z_sh, z_pop, z_rc, z_tgt, z_tsw, z_lsw, z_nw, z_ac, o_kI, o_kL, o_ldi, o_ldl, o_lda, o_sti, o_sta, o_stl, o_inc, o_b2, o_bz, o_l2, o_lz, o_ls, o_lneg, o_i2l, o_l2i, o_lcmp, o_dup, o_dupx1, o_dup2, o_if, o_if2, o_ifnull, o_get, o_put, o_iald, o_zald, o_aald, o_alen, o_iast, o_zast, o_aast, o_new, o_newa, o_call, o_call1, o_callN, o_obj, o_reti, o_retl, o_ret, o_tsw, o_lsw, va_rf_s, va_rf_n, z_u2_s, z_u2_k, z_u2_f, z_uR_f, z_uL_f, e_ix, e_vp, e_lt, e_le, e_eq, e_lt0, e_eq0, e_b0, e_b1, e_10, e_11, true_or, or_true, false_or, nI_add, z_bi_0, z_bi_1, e_bb, z_uR_s, z_uR_k, z_uL_s, z_uL_k, true_and, and_true, and_self, not_true_eq_false, not_false_eq_true, forall_const, Option.toList, List.cons_append, List.nil_append, List.singleton_append, Nat.reduceAdd, Nat.zero_add, Nat.add_zero, Nat.reduceEqDiff, ↓reduceIte, ite_true, ite_false, reduceCtorEq, Int.cast_ofNat_Int, Int.reduceAdd, Int.reduceToNat, ne_eq, false_imp_iff, true_imp_iff, cl_17, bf_17_0, bf_17_4, bf_17_31, bf_17_37, bo_17_0, bo_17_4, bo_17_31, bo_17_37, h1, h2]
  refine z_for (α := Unit) (P := fun k _ => z_W l G 17 (T.2.1, T.2.2) (fun v M' => Q v M' ∧ M'.2.2.2 = T) 4 [some (.ref a), some (.int x), some (.int (f_those s x k)), some (.int (nI k))] [] (mi, mr, ml, T)) s.1.1 (fun _ => ?_) (fun k hk ih _ => ?_) 0 (by omega) ()
  · refine z_run ck_17 4 bf_17_4 ?_
    simp (disch := omega) only [e_q0, e_nil, e_cons, e_q, e_qf, e_qt, e_af, z_hd, z_mk1, z_lg, z_s1, z_s2, z_kl, z_en, z_kI, z_fv, z_ic, z_c1, z_sh, z_pop, z_rc, z_tgt, z_tsw, z_lsw, z_nw, z_ac, o_kI, o_kL, o_ldi, o_ldl, o_lda, o_sti, o_sta, o_stl, o_inc, o_b2, o_bz, o_l2, o_lz, o_ls, o_lneg, o_i2l, o_l2i, o_lcmp, o_dup, o_dupx1, o_dup2, o_if, o_if2, o_ifnull, o_get, o_put, o_iald, o_zald, o_aald, o_alen, o_iast, o_zast, o_aast, o_new, o_newa, o_call, o_call1, o_callN, o_obj, o_reti, o_retl, o_ret, o_tsw, o_lsw, va_rf_s, va_rf_n, z_u2_s, z_u2_k, z_u2_f, z_uR_f, z_uL_f, e_ix, e_vp, e_lt, e_le, e_eq, e_lt0, e_eq0, e_b0, e_b1, e_10, e_11, true_or, or_true, false_or, nI_add, z_bi_0, z_bi_1, e_bb, z_uR_s, z_uR_k, z_uL_s, z_uL_k, true_and, and_true, and_self, not_true_eq_false, not_false_eq_true, forall_const, Option.toList, List.cons_append, List.nil_append, List.singleton_append, Nat.reduceAdd, Nat.zero_add, Nat.add_zero, Nat.reduceEqDiff, ↓reduceIte, ite_true, ite_false, reduceCtorEq, Int.cast_ofNat_Int, Int.reduceAdd, Int.reduceToNat, ne_eq, false_imp_iff, true_imp_iff, cl_17, bf_17_0, bf_17_4, bf_17_31, bf_17_37, bo_17_0, bo_17_4, bo_17_31, bo_17_37, h1, h2, Nat.le_refl]
    exact h
  · have hk' := Nat.not_le.mpr hk
    have q1 := hS.2.1 k (by omega)
    have q2 := hX.2.1 k hk
    have ih2 := ih ()
    unfold f_those at ih2
    refine z_run ck_17 4 bf_17_4 ?_
    simp (disch := omega) only [e_q0, e_nil, e_cons, e_q, e_qf, e_qt, e_af, z_hd, z_mk1, z_lg, z_s1, z_s2, z_kl, z_en, z_kI, z_fv, z_ic, z_c1, z_sh, z_pop, z_rc, z_tgt, z_tsw, z_lsw, z_nw, z_ac, o_kI, o_kL, o_ldi, o_ldl, o_lda, o_sti, o_sta, o_stl, o_inc, o_b2, o_bz, o_l2, o_lz, o_ls, o_lneg, o_i2l, o_l2i, o_lcmp, o_dup, o_dupx1, o_dup2, o_if, o_if2, o_ifnull, o_get, o_put, o_iald, o_zald, o_aald, o_alen, o_iast, o_zast, o_aast, o_new, o_newa, o_call, o_call1, o_callN, o_obj, o_reti, o_retl, o_ret, o_tsw, o_lsw, va_rf_s, va_rf_n, z_u2_s, z_u2_k, z_u2_f, z_uR_f, z_uL_f, e_ix, e_vp, e_lt, e_le, e_eq, e_lt0, e_eq0, e_b0, e_b1, e_10, e_11, true_or, or_true, false_or, nI_add, z_bi_0, z_bi_1, e_bb, z_uR_s, z_uR_k, z_uL_s, z_uL_k, true_and, and_true, and_self, not_true_eq_false, not_false_eq_true, forall_const, Option.toList, List.cons_append, List.nil_append, List.singleton_append, Nat.reduceAdd, Nat.zero_add, Nat.add_zero, Nat.reduceEqDiff, ↓reduceIte, ite_true, ite_false, reduceCtorEq, Int.cast_ofNat_Int, Int.reduceAdd, Int.reduceToNat, ne_eq, false_imp_iff, true_imp_iff, cl_17, bf_17_0, bf_17_4, bf_17_31, bf_17_37, bo_17_0, bo_17_4, bo_17_31, bo_17_37, h1, h2, q1, q2, z_t4, z_t5, z_t6, hk']
    refine ⟨fun c => ?_, fun c => ?_⟩
    · rw [if_pos c] at ih2; exact ih2
    · rw [if_neg c, z_or0] at ih2; exact ih2
theorem x_downLinks (hS : SX T mr a) (hX : MX mi a s r) (h9 : s.1.2 ≤ 9) (hD : f_dwn s r) (h : Q (some (.int (f_downs r s.1.2))) (mi, mr, ml, T)) : z_Ok l G m_Mesh_downLinks [.ref a] (mi, mr, ml, T) Q := by
  have h1 := hS.1
  have h2 := hX.1
  refine z_okN cz_18.1 (by rw [cl_18]; exact Nat.le_of_ble_eq_true rfl) cz_18.2 (z_run ck_18 4 bf_18_0 ?_)
  simp (disch := omega) only [e_q0, e_nil, e_cons, e_q, e_qf, e_qt, e_af, z_hd, z_mk1, z_lg, z_s1, z_s2, z_kl, z_en, z_kI, z_fv, z_ic, z_c1, z_sh, z_pop, z_rc, z_tgt, z_tsw, z_lsw, z_nw, z_ac, o_kI, o_kL, o_ldi, o_ldl, o_lda, o_sti, o_sta, o_stl, o_inc, o_b2, o_bz, o_l2, o_lz, o_ls, o_lneg, o_i2l, o_l2i, o_lcmp, o_dup, o_dupx1, o_dup2, o_if, o_if2, o_ifnull, o_get, o_put, o_iald, o_zald, o_aald, o_alen, o_iast, o_zast, o_aast, o_new, o_newa, o_call, o_call1, o_callN, o_obj, o_reti, o_retl, o_ret, o_tsw, o_lsw, va_rf_s, va_rf_n, z_u2_s, z_u2_k, z_u2_f, z_uR_f, z_uL_f, e_ix, e_vp, e_lt, e_le, e_eq, e_lt0, e_eq0, e_b0, e_b1, e_10, e_11, true_or, or_true, false_or, nI_add, z_bi_0, z_bi_1, e_bb, z_uR_s, z_uR_k, z_uL_s, z_uL_k, true_and, and_true, and_self, not_true_eq_false, not_false_eq_true, forall_const, Option.toList, List.cons_append, List.nil_append, List.singleton_append, Nat.reduceAdd, Nat.zero_add, Nat.add_zero, Nat.reduceEqDiff, ↓reduceIte, ite_true, ite_false, reduceCtorEq, Int.cast_ofNat_Int, Int.reduceAdd, Int.reduceToNat, ne_eq, false_imp_iff, true_imp_iff, cl_18, bf_18_0, bf_18_4, bf_18_30, bf_18_36, bo_18_0, bo_18_4, bo_18_30, bo_18_36, h1, h2]
  refine z_for (α := Unit) (P := fun k _ => z_W l G 18 (T.2.1, T.2.2) (fun v M' => Q v M' ∧ M'.2.2.2 = T) 4 [some (.ref a), some (.int (f_downs r k)), some (.int (nI k))] [] (mi, mr, ml, T)) s.1.2 (fun _ => ?_) (fun k hk ih _ => ?_) 0 (by omega) ()
  · refine z_run ck_18 4 bf_18_4 ?_
    simp (disch := omega) only [e_q0, e_nil, e_cons, e_q, e_qf, e_qt, e_af, z_hd, z_mk1, z_lg, z_s1, z_s2, z_kl, z_en, z_kI, z_fv, z_ic, z_c1, z_sh, z_pop, z_rc, z_tgt, z_tsw, z_lsw, z_nw, z_ac, o_kI, o_kL, o_ldi, o_ldl, o_lda, o_sti, o_sta, o_stl, o_inc, o_b2, o_bz, o_l2, o_lz, o_ls, o_lneg, o_i2l, o_l2i, o_lcmp, o_dup, o_dupx1, o_dup2, o_if, o_if2, o_ifnull, o_get, o_put, o_iald, o_zald, o_aald, o_alen, o_iast, o_zast, o_aast, o_new, o_newa, o_call, o_call1, o_callN, o_obj, o_reti, o_retl, o_ret, o_tsw, o_lsw, va_rf_s, va_rf_n, z_u2_s, z_u2_k, z_u2_f, z_uR_f, z_uL_f, e_ix, e_vp, e_lt, e_le, e_eq, e_lt0, e_eq0, e_b0, e_b1, e_10, e_11, true_or, or_true, false_or, nI_add, z_bi_0, z_bi_1, e_bb, z_uR_s, z_uR_k, z_uL_s, z_uL_k, true_and, and_true, and_self, not_true_eq_false, not_false_eq_true, forall_const, Option.toList, List.cons_append, List.nil_append, List.singleton_append, Nat.reduceAdd, Nat.zero_add, Nat.add_zero, Nat.reduceEqDiff, ↓reduceIte, ite_true, ite_false, reduceCtorEq, Int.cast_ofNat_Int, Int.reduceAdd, Int.reduceToNat, ne_eq, false_imp_iff, true_imp_iff, cl_18, bf_18_0, bf_18_4, bf_18_30, bf_18_36, bo_18_0, bo_18_4, bo_18_30, bo_18_36, h1, h2, Nat.le_refl]
    exact h
  · have hk' := Nat.not_le.mpr hk
    have q1 := hS.2.2 k (by omega)
    have q2 := hX.2.2 k hk
    have ih2 := ih ()
    unfold f_downs at ih2
    refine z_run ck_18 4 bf_18_4 ?_
    simp (disch := omega) only [e_q0, e_nil, e_cons, e_q, e_qf, e_qt, e_af, z_hd, z_mk1, z_lg, z_s1, z_s2, z_kl, z_en, z_kI, z_fv, z_ic, z_c1, z_sh, z_pop, z_rc, z_tgt, z_tsw, z_lsw, z_nw, z_ac, o_kI, o_kL, o_ldi, o_ldl, o_lda, o_sti, o_sta, o_stl, o_inc, o_b2, o_bz, o_l2, o_lz, o_ls, o_lneg, o_i2l, o_l2i, o_lcmp, o_dup, o_dupx1, o_dup2, o_if, o_if2, o_ifnull, o_get, o_put, o_iald, o_zald, o_aald, o_alen, o_iast, o_zast, o_aast, o_new, o_newa, o_call, o_call1, o_callN, o_obj, o_reti, o_retl, o_ret, o_tsw, o_lsw, va_rf_s, va_rf_n, z_u2_s, z_u2_k, z_u2_f, z_uR_f, z_uL_f, e_ix, e_vp, e_lt, e_le, e_eq, e_lt0, e_eq0, e_b0, e_b1, e_10, e_11, true_or, or_true, false_or, nI_add, z_bi_0, z_bi_1, e_bb, z_uR_s, z_uR_k, z_uL_s, z_uL_k, true_and, and_true, and_self, not_true_eq_false, not_false_eq_true, forall_const, Option.toList, List.cons_append, List.nil_append, List.singleton_append, Nat.reduceAdd, Nat.zero_add, Nat.add_zero, Nat.reduceEqDiff, ↓reduceIte, ite_true, ite_false, reduceCtorEq, Int.cast_ofNat_Int, Int.reduceAdd, Int.reduceToNat, ne_eq, false_imp_iff, true_imp_iff, cl_18, bf_18_0, bf_18_4, bf_18_30, bf_18_36, bo_18_0, bo_18_4, bo_18_30, bo_18_36, h1, h2, q1, q2, z_t4, z_t5, z_t6, hk']
    refine ⟨fun c => ?_, fun c => ?_⟩
    · have e : ∀ k, k < 10 → z_shl (nI 0) (nI k) = nI 0 := by decide
      rw [show r (58 + k) = nI 0 from c, e k (by omega), z_or0] at ih2
      exact ih2
    · rw [(hD k hk).resolve_left c] at ih2
      exact ih2
end
