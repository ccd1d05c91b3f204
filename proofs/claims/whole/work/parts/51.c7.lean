/-- the row in which link k goes down now -/
abbrev x_dr (A : ZA) (k : Nat) : ZW := f_set A.r (58 + k) (nI 1)
theorem f_reached_tb {s : ZS} {co : Int32} {r : ZW} (h8 : s.1.1 ≤ 8) : ∃ rb, rb < 512 ∧ f_reached s co r s.1.1 = nI rb ∧ ∀ v, v < 8 → rb.testBit v = (f_idx (nI v) s.1.1 && (f_endOf s co r v).isSome) := by
  refine ⟨f_bits (fun i => (f_endOf s co r i).isSome) s.1.1, ?_, f_reached_b _ (by omega), fun v hv => ?_⟩
  · have hb := f_bits_lt (fun i => (f_endOf s co r i).isSome) s.1.1
    have hp : 2 ^ s.1.1 ≤ 2 ^ 8 := Nat.pow_le_pow_right (by omega) h8
    omega
  · rw [f_bits_tb, f_idx_nn (by omega) (by omega)]
section
variable {l : Launch} {G : ZG} {mi : Nat → Nat → Int32} {mr : Nat → Nat → Option Nat} {ml : Nat → Nat → Int64} {T : (Nat → Nat × Nat) × Nat × Nat} {Q : ZR} {A : ZA} {B : Nat}
theorem c_explainsAll {k : Nat} (hS : SC T mr) (hP : PX A mi ml) (hI : IA A B) (hB : B ≤ 900000) (hk : k < A.s.1.2)
    (h1 : ∀ f g, FX f mi g mr 25 → (∀ j, j < A.o → a_isSo A k j = true) → Q (some (.int (nI 1))) (f, g, ml, T))
    (h0 : ∀ f g, FX f mi g mr 25 → (∃ j, j < A.o ∧ a_isSo A k j = false) → Q (some (.int (nI 0))) (f, g, ml, T)) : z_Ok l G m_MP_explainsAll [.ref 2, .int (nI k)] (mi, mr, ml, T) Q := by
  have s1 := hS.1
  have s5 := hS.n
  have s25 := hS.t
  have h8 := hI.1.1
  have hr := f_row_set (k := 58 + k) (v := nI 1) hI.1 hI.2.1 (Or.inr (Or.inl ⟨by omega, by omega, Or.inr rfl⟩))
  have so : ∀ j, j < A.o → ∀ m, m ≤ 20 → A.O 1 j = nI m → ∀ rb : Nat, (∀ v, v < 8 → rb.testBit v = (f_idx (nI v) A.s.1.1 && (f_endOf A.s (nI 255) (f_gos A.s (nI 255) m (x_dr A k)) v).isSome)) → a_isSo A k j = decide (rb.testBit (z_ix (A.O 0 j)) = decide (A.O 2 j = nI 1)) := fun j hj m hm e rb hrb => by
    obtain ⟨⟨v, hv, i0⟩, _⟩ := hI.2.2.2.2 j hj
    unfold a_isSo
    rw [i0, e, e_ix (by omega), e_ix (by omega), hrb v hv]
  refine z_okN cz_94.1 (by rw [cl_94]; exact Nat.le_of_ble_eq_true rfl) cz_94.2 (z_run ck_94 4 bf_94_0 ?_)
  simp (disch := omega) only [e_q0, e_nil, e_cons, e_q, e_qf, e_qt, e_af, z_hd, z_mk1, z_lg, z_s1, z_s2, z_kl, z_en, z_kI, z_fv, z_ic, z_c1, z_sh, z_pop, z_rc, z_tgt, z_tsw, z_lsw, z_nw, z_ac, o_kI, o_kL, o_ldi, o_ldl, o_lda, o_sti, o_sta, o_stl, o_inc, o_b2, o_bz, o_l2, o_lz, o_ls, o_lneg, o_i2l, o_l2i, o_lcmp, o_dup, o_dupx1, o_dup2, o_if, o_if2, o_ifnull, o_get, o_put, o_iald, o_zald, o_aald, o_alen, o_iast, o_zast, o_aast, o_new, o_newa, o_call, o_call1, o_callN, o_obj, o_reti, o_retl, o_ret, o_tsw, o_lsw, va_rf_s, va_rf_n, z_u2_s, z_u2_k, z_u2_f, z_uR_f, z_uL_f, e_ix, e_vp, e_lt, e_le, e_eq, e_lt0, e_eq0, e_b0, e_b1, e_10, e_11, true_or, or_true, false_or, nI_add, z_bi_0, z_bi_1, e_bb, z_uR_s, z_uR_k, z_uL_s, z_uL_k, true_and, and_true, and_self, not_true_eq_false, not_false_eq_true, forall_const, Option.toList, List.cons_append, List.nil_append, List.singleton_append, Nat.reduceAdd, Nat.zero_add, Nat.add_zero, Nat.reduceEqDiff, ↓reduceIte, ite_true, ite_false, reduceCtorEq, Int.cast_ofNat_Int, Int.reduceAdd, Int.reduceToNat, ne_eq, false_imp_iff, true_imp_iff, cl_94, bf_94_0, bf_94_26, bf_94_52, bf_94_66, bo_94_0, bo_94_26, bo_94_52, bo_94_66, s1, s5, s25]
  refine c_toTrial hS hP hI fun f f1 f2 => ?_
  have q1 : T.1 (36 + k) = (1, 1) ∧ mr 35 k = some (36 + k) := hS.2.1.2.2.2 k (by omega)
  simp (disch := omega) only [e_q0, e_nil, e_cons, e_q, e_qf, e_qt, e_af, z_hd, z_mk1, z_lg, z_s1, z_s2, z_kl, z_en, z_kI, z_fv, z_ic, z_c1, z_sh, z_pop, z_rc, z_tgt, z_tsw, z_lsw, z_nw, z_ac, o_kI, o_kL, o_ldi, o_ldl, o_lda, o_sti, o_sta, o_stl, o_inc, o_b2, o_bz, o_l2, o_lz, o_ls, o_lneg, o_i2l, o_l2i, o_lcmp, o_dup, o_dupx1, o_dup2, o_if, o_if2, o_ifnull, o_get, o_put, o_iald, o_zald, o_aald, o_alen, o_iast, o_zast, o_aast, o_new, o_newa, o_call, o_call1, o_callN, o_obj, o_reti, o_retl, o_ret, o_tsw, o_lsw, va_rf_s, va_rf_n, z_u2_s, z_u2_k, z_u2_f, z_uR_f, z_uL_f, e_ix, e_vp, e_lt, e_le, e_eq, e_lt0, e_eq0, e_b0, e_b1, e_10, e_11, true_or, or_true, false_or, nI_add, z_bi_0, z_bi_1, e_bb, z_uR_s, z_uR_k, z_uL_s, z_uL_k, true_and, and_true, and_self, not_true_eq_false, not_false_eq_true, forall_const, Option.toList, List.cons_append, List.nil_append, List.singleton_append, Nat.reduceAdd, Nat.zero_add, Nat.add_zero, Nat.reduceEqDiff, ↓reduceIte, ite_true, ite_false, reduceCtorEq, Int.cast_ofNat_Int, Int.reduceAdd, Int.reduceToNat, ne_eq, false_imp_iff, true_imp_iff, cl_94, bf_94_0, bf_94_26, bf_94_52, bf_94_66, bo_94_0, bo_94_26, bo_94_52, bo_94_66, s1, s5, s25, q1, z_t5]
  refine z_for (α := (Nat → Nat → Int32) × (Nat → Nat → Option Nat)) (P := fun n p => FX p.1 mi p.2 mr 25 → MX p.1 25 A.s (f_gos A.s (nI 255) n (x_dr A k)) → (∀ j, j < A.o → ∀ m, m < n → A.O 1 j = nI m → a_isSo A k j = true) → z_W l G 94 (T.2.1, T.2.2) (fun v M' => Q v M' ∧ M'.2.2.2 = T) 26 [some (.ref 2), none, some (.int (nI n))] [] (p.1, p.2, ml, T)) 21 (fun p g1 g2 g3 => ?_) (fun n hn ih p g1 g2 g3 => ?_) 0 (by omega) (z_u2 f (36 + k) 6 (nI 1), mr) ⟨fun c hc => (z_u2_f (show c ≠ 36 + k by omega)).trans (f1 c (by omega)), fun _ _ => rfl⟩ (MX.tn f2 h8 hk) (fun _ _ m hm => absurd hm (Nat.not_lt_zero _))
  · refine z_run ck_94 4 bf_94_26 ?_
    simp (disch := omega) only [e_q0, e_nil, e_cons, e_q, e_qf, e_qt, e_af, z_hd, z_mk1, z_lg, z_s1, z_s2, z_kl, z_en, z_kI, z_fv, z_ic, z_c1, z_sh, z_pop, z_rc, z_tgt, z_tsw, z_lsw, z_nw, z_ac, o_kI, o_kL, o_ldi, o_ldl, o_lda, o_sti, o_sta, o_stl, o_inc, o_b2, o_bz, o_l2, o_lz, o_ls, o_lneg, o_i2l, o_l2i, o_lcmp, o_dup, o_dupx1, o_dup2, o_if, o_if2, o_ifnull, o_get, o_put, o_iald, o_zald, o_aald, o_alen, o_iast, o_zast, o_aast, o_new, o_newa, o_call, o_call1, o_callN, o_obj, o_reti, o_retl, o_ret, o_tsw, o_lsw, va_rf_s, va_rf_n, z_u2_s, z_u2_k, z_u2_f, z_uR_f, z_uL_f, e_ix, e_vp, e_lt, e_le, e_eq, e_lt0, e_eq0, e_b0, e_b1, e_10, e_11, true_or, or_true, false_or, nI_add, z_bi_0, z_bi_1, e_bb, z_uR_s, z_uR_k, z_uL_s, z_uL_k, true_and, and_true, and_self, not_true_eq_false, not_false_eq_true, forall_const, Option.toList, List.cons_append, List.nil_append, List.singleton_append, Nat.reduceAdd, Nat.zero_add, Nat.add_zero, Nat.reduceEqDiff, ↓reduceIte, ite_true, ite_false, reduceCtorEq, Int.cast_ofNat_Int, Int.reduceAdd, Int.reduceToNat, ne_eq, false_imp_iff, true_imp_iff, cl_94, bf_94_0, bf_94_26, bf_94_52, bf_94_66, bo_94_0, bo_94_26, bo_94_52, bo_94_66]
    have w := h1 p.1 p.2 g1 fun j hj => by
      obtain ⟨m, hm, e⟩ := (hI.2.2.2.2 j hj).2.1
      exact g3 j hj m (by omega) e
    exact ⟨fun _ => w, fun q => absurd (by omega) q⟩
  · obtain ⟨p1, p2, p3⟩ := PX.of25 g1 hP h8
    have hS' := SC.of hS p2
    have s1' := hS'.1
    have hrn := f_gos_row (co := nI 255) hI.1 n _ B hr (by omega)
    refine z_run ck_94 4 bf_94_26 ?_
    simp (disch := omega) only [e_q0, e_nil, e_cons, e_q, e_qf, e_qt, e_af, z_hd, z_mk1, z_lg, z_s1, z_s2, z_kl, z_en, z_kI, z_fv, z_ic, z_c1, z_sh, z_pop, z_rc, z_tgt, z_tsw, z_lsw, z_nw, z_ac, o_kI, o_kL, o_ldi, o_ldl, o_lda, o_sti, o_sta, o_stl, o_inc, o_b2, o_bz, o_l2, o_lz, o_ls, o_lneg, o_i2l, o_l2i, o_lcmp, o_dup, o_dupx1, o_dup2, o_if, o_if2, o_ifnull, o_get, o_put, o_iald, o_zald, o_aald, o_alen, o_iast, o_zast, o_aast, o_new, o_newa, o_call, o_call1, o_callN, o_obj, o_reti, o_retl, o_ret, o_tsw, o_lsw, va_rf_s, va_rf_n, z_u2_s, z_u2_k, z_u2_f, z_uR_f, z_uL_f, e_ix, e_vp, e_lt, e_le, e_eq, e_lt0, e_eq0, e_b0, e_b1, e_10, e_11, true_or, or_true, false_or, nI_add, z_bi_0, z_bi_1, e_bb, z_uR_s, z_uR_k, z_uL_s, z_uL_k, true_and, and_true, and_self, not_true_eq_false, not_false_eq_true, forall_const, Option.toList, List.cons_append, List.nil_append, List.singleton_append, Nat.reduceAdd, Nat.zero_add, Nat.add_zero, Nat.reduceEqDiff, ↓reduceIte, ite_true, ite_false, reduceCtorEq, Int.cast_ofNat_Int, Int.reduceAdd, Int.reduceToNat, ne_eq, false_imp_iff, true_imp_iff, cl_94, bf_94_0, bf_94_26, bf_94_52, bf_94_66, bo_94_0, bo_94_26, bo_94_52, bo_94_66, s1', s5, s25]
    refine ⟨fun c => absurd c (by omega), fun _ => ?_⟩
    refine x_reachedNodes hS'.2.1.2 g2 h8.1 hrn.1.2.1 ?_
    obtain ⟨rb, hb, eb, tb⟩ := f_reached_tb (s := A.s) (co := nI 255) (r := f_gos A.s (nI 255) n (x_dr A k)) h8.1
    rw [eb]
    simp (disch := omega) only [e_q0, e_nil, e_cons, e_q, e_qf, e_qt, e_af, z_hd, z_mk1, z_lg, z_s1, z_s2, z_kl, z_en, z_kI, z_fv, z_ic, z_c1, z_sh, z_pop, z_rc, z_tgt, z_tsw, z_lsw, z_nw, z_ac, o_kI, o_kL, o_ldi, o_ldl, o_lda, o_sti, o_sta, o_stl, o_inc, o_b2, o_bz, o_l2, o_lz, o_ls, o_lneg, o_i2l, o_l2i, o_lcmp, o_dup, o_dupx1, o_dup2, o_if, o_if2, o_ifnull, o_get, o_put, o_iald, o_zald, o_aald, o_alen, o_iast, o_zast, o_aast, o_new, o_newa, o_call, o_call1, o_callN, o_obj, o_reti, o_retl, o_ret, o_tsw, o_lsw, va_rf_s, va_rf_n, z_u2_s, z_u2_k, z_u2_f, z_uR_f, z_uL_f, e_ix, e_vp, e_lt, e_le, e_eq, e_lt0, e_eq0, e_b0, e_b1, e_10, e_11, true_or, or_true, false_or, nI_add, z_bi_0, z_bi_1, e_bb, z_uR_s, z_uR_k, z_uL_s, z_uL_k, true_and, and_true, and_self, not_true_eq_false, not_false_eq_true, forall_const, Option.toList, List.cons_append, List.nil_append, List.singleton_append, Nat.reduceAdd, Nat.zero_add, Nat.add_zero, Nat.reduceEqDiff, ↓reduceIte, ite_true, ite_false, reduceCtorEq, Int.cast_ofNat_Int, Int.reduceAdd, Int.reduceToNat, ne_eq, false_imp_iff, true_imp_iff, cl_94, bf_94_0, bf_94_26, bf_94_52, bf_94_66, bo_94_0, bo_94_26, bo_94_52, bo_94_66, s1', s5, s25]
    refine x_agreeAfter (mi := p.1) (mr := p.2) hS' p1.2.2.2.2.1.1 p1.2.2.2.2.1.2.1 p1.2.2.2.2.1.2.2 (by omega) hb hI.2.2.2.2 (fun hh => ?_) (fun j hj e hh => ?_)
    · simp (disch := omega) only [e_q0, e_nil, e_cons, e_q, e_qf, e_qt, e_af, z_hd, z_mk1, z_lg, z_s1, z_s2, z_kl, z_en, z_kI, z_fv, z_ic, z_c1, z_sh, z_pop, z_rc, z_tgt, z_tsw, z_lsw, z_nw, z_ac, o_kI, o_kL, o_ldi, o_ldl, o_lda, o_sti, o_sta, o_stl, o_inc, o_b2, o_bz, o_l2, o_lz, o_ls, o_lneg, o_i2l, o_l2i, o_lcmp, o_dup, o_dupx1, o_dup2, o_if, o_if2, o_ifnull, o_get, o_put, o_iald, o_zald, o_aald, o_alen, o_iast, o_zast, o_aast, o_new, o_newa, o_call, o_call1, o_callN, o_obj, o_reti, o_retl, o_ret, o_tsw, o_lsw, va_rf_s, va_rf_n, z_u2_s, z_u2_k, z_u2_f, z_uR_f, z_uL_f, e_ix, e_vp, e_lt, e_le, e_eq, e_lt0, e_eq0, e_b0, e_b1, e_10, e_11, true_or, or_true, false_or, nI_add, z_bi_0, z_bi_1, e_bb, z_uR_s, z_uR_k, z_uL_s, z_uL_k, true_and, and_true, and_self, not_true_eq_false, not_false_eq_true, forall_const, Option.toList, List.cons_append, List.nil_append, List.singleton_append, Nat.reduceAdd, Nat.zero_add, Nat.add_zero, Nat.reduceEqDiff, ↓reduceIte, ite_true, ite_false, reduceCtorEq, Int.cast_ofNat_Int, Int.reduceAdd, Int.reduceToNat, ne_eq, false_imp_iff, true_imp_iff, cl_94, bf_94_0, bf_94_26, bf_94_52, bf_94_66, bo_94_0, bo_94_26, bo_94_52, bo_94_66, s1', s5, s25]
      refine x_passRound (mi := p.1) (mr := p.2) (co := nI 255) hS'.2.1.2 g2 hI.1 hrn (by omega) (x_co0 h8.1) fun f' g' u1 u2 => ?_
      simp (disch := omega) only [e_q0, e_nil, e_cons, e_q, e_qf, e_qt, e_af, z_hd, z_mk1, z_lg, z_s1, z_s2, z_kl, z_en, z_kI, z_fv, z_ic, z_c1, z_sh, z_pop, z_rc, z_tgt, z_tsw, z_lsw, z_nw, z_ac, o_kI, o_kL, o_ldi, o_ldl, o_lda, o_sti, o_sta, o_stl, o_inc, o_b2, o_bz, o_l2, o_lz, o_ls, o_lneg, o_i2l, o_l2i, o_lcmp, o_dup, o_dupx1, o_dup2, o_if, o_if2, o_ifnull, o_get, o_put, o_iald, o_zald, o_aald, o_alen, o_iast, o_zast, o_aast, o_new, o_newa, o_call, o_call1, o_callN, o_obj, o_reti, o_retl, o_ret, o_tsw, o_lsw, va_rf_s, va_rf_n, z_u2_s, z_u2_k, z_u2_f, z_uR_f, z_uL_f, e_ix, e_vp, e_lt, e_le, e_eq, e_lt0, e_eq0, e_b0, e_b1, e_10, e_11, true_or, or_true, false_or, nI_add, z_bi_0, z_bi_1, e_bb, z_uR_s, z_uR_k, z_uL_s, z_uL_k, true_and, and_true, and_self, not_true_eq_false, not_false_eq_true, forall_const, Option.toList, List.cons_append, List.nil_append, List.singleton_append, Nat.reduceAdd, Nat.zero_add, Nat.add_zero, Nat.reduceEqDiff, ↓reduceIte, ite_true, ite_false, reduceCtorEq, Int.cast_ofNat_Int, Int.reduceAdd, Int.reduceToNat, ne_eq, false_imp_iff, true_imp_iff, cl_94, bf_94_0, bf_94_26, bf_94_52, bf_94_66, bo_94_0, bo_94_26, bo_94_52, bo_94_66]
      refine ih (f', g') (FX.trans u1 g1) (by rw [f_gos_s]; exact u2) fun j hj m hm e => ?_
      by_cases q : m = n
      · subst q
        rw [so j hj m (by omega) e rb tb, decide_eq_true_eq]
        exact (hh j hj e).symm
      · exact g3 j hj m (by omega) e
    · simp (disch := omega) only [e_q0, e_nil, e_cons, e_q, e_qf, e_qt, e_af, z_hd, z_mk1, z_lg, z_s1, z_s2, z_kl, z_en, z_kI, z_fv, z_ic, z_c1, z_sh, z_pop, z_rc, z_tgt, z_tsw, z_lsw, z_nw, z_ac, o_kI, o_kL, o_ldi, o_ldl, o_lda, o_sti, o_sta, o_stl, o_inc, o_b2, o_bz, o_l2, o_lz, o_ls, o_lneg, o_i2l, o_l2i, o_lcmp, o_dup, o_dupx1, o_dup2, o_if, o_if2, o_ifnull, o_get, o_put, o_iald, o_zald, o_aald, o_alen, o_iast, o_zast, o_aast, o_new, o_newa, o_call, o_call1, o_callN, o_obj, o_reti, o_retl, o_ret, o_tsw, o_lsw, va_rf_s, va_rf_n, z_u2_s, z_u2_k, z_u2_f, z_uR_f, z_uL_f, e_ix, e_vp, e_lt, e_le, e_eq, e_lt0, e_eq0, e_b0, e_b1, e_10, e_11, true_or, or_true, false_or, nI_add, z_bi_0, z_bi_1, e_bb, z_uR_s, z_uR_k, z_uL_s, z_uL_k, true_and, and_true, and_self, not_true_eq_false, not_false_eq_true, forall_const, Option.toList, List.cons_append, List.nil_append, List.singleton_append, Nat.reduceAdd, Nat.zero_add, Nat.add_zero, Nat.reduceEqDiff, ↓reduceIte, ite_true, ite_false, reduceCtorEq, Int.cast_ofNat_Int, Int.reduceAdd, Int.reduceToNat, ne_eq, false_imp_iff, true_imp_iff, cl_94, bf_94_0, bf_94_26, bf_94_52, bf_94_66, bo_94_0, bo_94_26, bo_94_52, bo_94_66]
      refine h0 p.1 p.2 g1 ⟨j, hj, ?_⟩
      rw [so j hj n (by omega) e rb tb, decide_eq_false_iff_not]
      exact fun q => hh q.symm
theorem f_may_iff {k : Nat} : ∀ o, f_may A k o = true ↔ A.r (58 + k) = 0 ∧ ∀ j, j < o → a_isSo A k j = true
  | 0 => by
    unfold f_may
    rw [decide_eq_true_eq]
    exact ⟨fun h => ⟨h, fun j hj => absurd hj (Nat.not_lt_zero _)⟩, fun h => h.1⟩
  | o + 1 => by
    unfold f_may
    rw [Bool.and_eq_true, f_may_iff o]
    constructor
    · rintro ⟨⟨h1, h2⟩, h3⟩
      refine ⟨h1, fun j hj => ?_⟩
      by_cases q : j = o
      · subst q; exact h3
      · exact h2 j (by omega)
    · rintro ⟨h1, h2⟩
      exact ⟨⟨h1, fun j hj => h2 j (by omega)⟩, h2 o (by omega)⟩
theorem c_which (hS : SC T mr) (hP : PX A mi ml) (hI : IA A B) (hB : B ≤ 900000) (hQ : ∀ f g, PX A f ml → FG g mr → (∀ c, 373 ≤ c → f c = mi c) → Q (some (.int (a_which A))) (f, g, ml, T)) : z_Ok l G m_MP_which [.ref 2] (mi, mr, ml, T) Q := by
  have s1 := hS.1
  have s5 := hS.n
  have h8 := hI.1.1
  refine z_okN cz_81.1 (by rw [cl_81]; exact Nat.le_of_ble_eq_true rfl) cz_81.2 (z_run ck_81 4 bf_81_0 ?_)
  simp (disch := omega) only [e_q0, e_nil, e_cons, e_q, e_qf, e_qt, e_af, z_hd, z_mk1, z_lg, z_s1, z_s2, z_kl, z_en, z_kI, z_fv, z_ic, z_c1, z_sh, z_pop, z_rc, z_tgt, z_tsw, z_lsw, z_nw, z_ac, o_kI, o_kL, o_ldi, o_ldl, o_lda, o_sti, o_sta, o_stl, o_inc, o_b2, o_bz, o_l2, o_lz, o_ls, o_lneg, o_i2l, o_l2i, o_lcmp, o_dup, o_dupx1, o_dup2, o_if, o_if2, o_ifnull, o_get, o_put, o_iald, o_zald, o_aald, o_alen, o_iast, o_zast, o_aast, o_new, o_newa, o_call, o_call1, o_callN, o_obj, o_reti, o_retl, o_ret, o_tsw, o_lsw, va_rf_s, va_rf_n, z_u2_s, z_u2_k, z_u2_f, z_uR_f, z_uL_f, e_ix, e_vp, e_lt, e_le, e_eq, e_lt0, e_eq0, e_b0, e_b1, e_10, e_11, true_or, or_true, false_or, nI_add, z_bi_0, z_bi_1, e_bb, z_uR_s, z_uR_k, z_uL_s, z_uL_k, true_and, and_true, and_self, not_true_eq_false, not_false_eq_true, forall_const, Option.toList, List.cons_append, List.nil_append, List.singleton_append, Nat.reduceAdd, Nat.zero_add, Nat.add_zero, Nat.reduceEqDiff, ↓reduceIte, ite_true, ite_false, reduceCtorEq, Int.cast_ofNat_Int, Int.reduceAdd, Int.reduceToNat, ne_eq, false_imp_iff, true_imp_iff, cl_81, bf_81_0, bf_81_4, bf_81_44, bf_81_50, bo_81_0, bo_81_4, bo_81_44, bo_81_50, s1, s5]
  refine z_for (α := (Nat → Nat → Int32) × (Nat → Nat → Option Nat)) (P := fun k p => FX p.1 mi p.2 mr 25 → z_W l G 81 (T.2.1, T.2.2) (fun v M' => Q v M' ∧ M'.2.2.2 = T) 4 [some (.ref 2), some (.int (f_which A k)), some (.int (nI k))] [] (p.1, p.2, ml, T)) A.s.1.2 (fun p g1 => ?_) (fun k hk ih p g1 => ?_) 0 (by omega) (mi, mr) ⟨fun _ _ => rfl, fun _ _ => rfl⟩
  · obtain ⟨p1, p2, p3⟩ := PX.of25 g1 hP h8
    have hS' := SC.of hS p2
    have s1' := hS'.1
    have s5' := hS'.n
    have n5 := p1.1.1
    refine z_run ck_81 4 bf_81_4 ?_
    simp (disch := omega) only [e_q0, e_nil, e_cons, e_q, e_qf, e_qt, e_af, z_hd, z_mk1, z_lg, z_s1, z_s2, z_kl, z_en, z_kI, z_fv, z_ic, z_c1, z_sh, z_pop, z_rc, z_tgt, z_tsw, z_lsw, z_nw, z_ac, o_kI, o_kL, o_ldi, o_ldl, o_lda, o_sti, o_sta, o_stl, o_inc, o_b2, o_bz, o_l2, o_lz, o_ls, o_lneg, o_i2l, o_l2i, o_lcmp, o_dup, o_dupx1, o_dup2, o_if, o_if2, o_ifnull, o_get, o_put, o_iald, o_zald, o_aald, o_alen, o_iast, o_zast, o_aast, o_new, o_newa, o_call, o_call1, o_callN, o_obj, o_reti, o_retl, o_ret, o_tsw, o_lsw, va_rf_s, va_rf_n, z_u2_s, z_u2_k, z_u2_f, z_uR_f, z_uL_f, e_ix, e_vp, e_lt, e_le, e_eq, e_lt0, e_eq0, e_b0, e_b1, e_10, e_11, true_or, or_true, false_or, nI_add, z_bi_0, z_bi_1, e_bb, z_uR_s, z_uR_k, z_uL_s, z_uL_k, true_and, and_true, and_self, not_true_eq_false, not_false_eq_true, forall_const, Option.toList, List.cons_append, List.nil_append, List.singleton_append, Nat.reduceAdd, Nat.zero_add, Nat.add_zero, Nat.reduceEqDiff, ↓reduceIte, ite_true, ite_false, reduceCtorEq, Int.cast_ofNat_Int, Int.reduceAdd, Int.reduceToNat, ne_eq, false_imp_iff, true_imp_iff, cl_81, bf_81_0, bf_81_4, bf_81_44, bf_81_50, bo_81_0, bo_81_4, bo_81_44, bo_81_50, s1', s5', n5, Nat.le_refl]
    exact hQ _ _ p1 p2 p3
  · obtain ⟨p1, p2, p3⟩ := PX.of25 g1 hP h8
    have hS' := SC.of hS p2
    have s1' := hS'.1
    have s5' := hS'.n
    have n5 := p1.1.1
    have hk' := Nat.not_le.mpr hk
    have q1 : T.1 (16 + k) = (1, 1) ∧ p.2 15 k = some (16 + k) := hS'.2.1.1.2.2 k (by omega)
    have q2 : p.1 (16 + k) 6 = A.r (58 + k) := (p1.1.2.2 k hk).2.2.2.2.2.2
    refine z_run ck_81 4 bf_81_4 ?_
    simp (disch := omega) only [e_q0, e_nil, e_cons, e_q, e_qf, e_qt, e_af, z_hd, z_mk1, z_lg, z_s1, z_s2, z_kl, z_en, z_kI, z_fv, z_ic, z_c1, z_sh, z_pop, z_rc, z_tgt, z_tsw, z_lsw, z_nw, z_ac, o_kI, o_kL, o_ldi, o_ldl, o_lda, o_sti, o_sta, o_stl, o_inc, o_b2, o_bz, o_l2, o_lz, o_ls, o_lneg, o_i2l, o_l2i, o_lcmp, o_dup, o_dupx1, o_dup2, o_if, o_if2, o_ifnull, o_get, o_put, o_iald, o_zald, o_aald, o_alen, o_iast, o_zast, o_aast, o_new, o_newa, o_call, o_call1, o_callN, o_obj, o_reti, o_retl, o_ret, o_tsw, o_lsw, va_rf_s, va_rf_n, z_u2_s, z_u2_k, z_u2_f, z_uR_f, z_uL_f, e_ix, e_vp, e_lt, e_le, e_eq, e_lt0, e_eq0, e_b0, e_b1, e_10, e_11, true_or, or_true, false_or, nI_add, z_bi_0, z_bi_1, e_bb, z_uR_s, z_uR_k, z_uL_s, z_uL_k, true_and, and_true, and_self, not_true_eq_false, not_false_eq_true, forall_const, Option.toList, List.cons_append, List.nil_append, List.singleton_append, Nat.reduceAdd, Nat.zero_add, Nat.add_zero, Nat.reduceEqDiff, ↓reduceIte, ite_true, ite_false, reduceCtorEq, Int.cast_ofNat_Int, Int.reduceAdd, Int.reduceToNat, ne_eq, false_imp_iff, true_imp_iff, cl_81, bf_81_0, bf_81_4, bf_81_44, bf_81_50, bo_81_0, bo_81_4, bo_81_44, bo_81_50, s1', s5', n5, hk', q1, q2, z_t5]
    have w := fun f g h => ih (f, g) h
    unfold f_which at w
    refine ⟨fun c => ?_, fun c => ?_⟩
    · refine c_explainsAll hS' p1 hI hB hk (fun f g u1 u2 => ?_) (fun f g u1 u2 => ?_)
      · have w := w f g (FX.trans u1 g1)
        rw [if_pos ((f_may_iff A.o).mpr ⟨c, u2⟩)] at w
        simp (disch := omega) only [e_q0, e_nil, e_cons, e_q, e_qf, e_qt, e_af, z_hd, z_mk1, z_lg, z_s1, z_s2, z_kl, z_en, z_kI, z_fv, z_ic, z_c1, z_sh, z_pop, z_rc, z_tgt, z_tsw, z_lsw, z_nw, z_ac, o_kI, o_kL, o_ldi, o_ldl, o_lda, o_sti, o_sta, o_stl, o_inc, o_b2, o_bz, o_l2, o_lz, o_ls, o_lneg, o_i2l, o_l2i, o_lcmp, o_dup, o_dupx1, o_dup2, o_if, o_if2, o_ifnull, o_get, o_put, o_iald, o_zald, o_aald, o_alen, o_iast, o_zast, o_aast, o_new, o_newa, o_call, o_call1, o_callN, o_obj, o_reti, o_retl, o_ret, o_tsw, o_lsw, va_rf_s, va_rf_n, z_u2_s, z_u2_k, z_u2_f, z_uR_f, z_uL_f, e_ix, e_vp, e_lt, e_le, e_eq, e_lt0, e_eq0, e_b0, e_b1, e_10, e_11, true_or, or_true, false_or, nI_add, z_bi_0, z_bi_1, e_bb, z_uR_s, z_uR_k, z_uL_s, z_uL_k, true_and, and_true, and_self, not_true_eq_false, not_false_eq_true, forall_const, Option.toList, List.cons_append, List.nil_append, List.singleton_append, Nat.reduceAdd, Nat.zero_add, Nat.add_zero, Nat.reduceEqDiff, ↓reduceIte, ite_true, ite_false, reduceCtorEq, Int.cast_ofNat_Int, Int.reduceAdd, Int.reduceToNat, ne_eq, false_imp_iff, true_imp_iff, cl_81, bf_81_0, bf_81_4, bf_81_44, bf_81_50, bo_81_0, bo_81_4, bo_81_44, bo_81_50]
        exact w
      · have w := w f g (FX.trans u1 g1)
        obtain ⟨j, hj, u3⟩ := u2
        rw [if_neg (fun q => by have := ((f_may_iff A.o).mp q).2 j hj; rw [u3] at this; cases this), z_or0] at w
        simp (disch := omega) only [e_q0, e_nil, e_cons, e_q, e_qf, e_qt, e_af, z_hd, z_mk1, z_lg, z_s1, z_s2, z_kl, z_en, z_kI, z_fv, z_ic, z_c1, z_sh, z_pop, z_rc, z_tgt, z_tsw, z_lsw, z_nw, z_ac, o_kI, o_kL, o_ldi, o_ldl, o_lda, o_sti, o_sta, o_stl, o_inc, o_b2, o_bz, o_l2, o_lz, o_ls, o_lneg, o_i2l, o_l2i, o_lcmp, o_dup, o_dupx1, o_dup2, o_if, o_if2, o_ifnull, o_get, o_put, o_iald, o_zald, o_aald, o_alen, o_iast, o_zast, o_aast, o_new, o_newa, o_call, o_call1, o_callN, o_obj, o_reti, o_retl, o_ret, o_tsw, o_lsw, va_rf_s, va_rf_n, z_u2_s, z_u2_k, z_u2_f, z_uR_f, z_uL_f, e_ix, e_vp, e_lt, e_le, e_eq, e_lt0, e_eq0, e_b0, e_b1, e_10, e_11, true_or, or_true, false_or, nI_add, z_bi_0, z_bi_1, e_bb, z_uR_s, z_uR_k, z_uL_s, z_uL_k, true_and, and_true, and_self, not_true_eq_false, not_false_eq_true, forall_const, Option.toList, List.cons_append, List.nil_append, List.singleton_append, Nat.reduceAdd, Nat.zero_add, Nat.add_zero, Nat.reduceEqDiff, ↓reduceIte, ite_true, ite_false, reduceCtorEq, Int.cast_ofNat_Int, Int.reduceAdd, Int.reduceToNat, ne_eq, false_imp_iff, true_imp_iff, cl_81, bf_81_0, bf_81_4, bf_81_44, bf_81_50, bo_81_0, bo_81_4, bo_81_44, bo_81_50]
        exact w
    · have w := w p.1 p.2 g1
      rw [if_neg (fun q => c ((f_may_iff A.o).mp q).1), z_or0] at w
      exact w
end
