section
variable {l : Launch} {G : ZG} {mi : Nat → Nat → Int32} {mr : Nat → Nat → Option Nat} {ml : Nat → Nat → Int64} {T : (Nat → Nat × Nat) × Nat × Nat} {Q : ZR} {A : ZA} {B : Nat} {s : ZS} {r : ZW}
/-- the other gateways -/
theorem f_oth {A : ZA} {g : Nat} (h8 : A.s.1.1 ≤ 8) (hg : g < A.s.1.1) (h0 : A.s.2 0 g = 0) : ∃ o, o < 256 ∧ nI (f_gwb A) &&& (z_shl (nI 1) (nI g) ^^^ z_ng 1) = nI o ∧ (∀ i, o.testBit i = ((f_gwb A).testBit i && !decide (i = g))) ∧ f_cnt o.testBit 9 + 1 = f_gn A := by
  have hb : f_gwb A < 2 ^ A.s.1.1 := f_bits_lt _ _
  have hp : 2 ^ A.s.1.1 ≤ 2 ^ 8 := Nat.pow_le_pow_right (by omega) h8
  have htb : ∀ i, (f_gwb A).testBit i = (decide (i < A.s.1.1) && decide (A.s.2 0 i = nI 0)) := fun i => f_bits_tb _ _ i
  have hi : ∀ i, (f_gwb A &&& (2 ^ g ^^^ 4294967295)).testBit i = ((f_gwb A).testBit i && !decide (i = g)) := fun i => by
    rw [Nat.testBit_and, Nat.testBit_xor, Nat.testBit_two_pow, htb]
    by_cases c : i < A.s.1.1
    · have e : ∀ i, i < 8 → (4294967295 : Nat).testBit i = true := by decide
      rw [e i (by omega)]
      by_cases q : i = g
      · rw [decide_eq_true q, decide_eq_true q.symm]; simp
      · rw [decide_eq_false q, decide_eq_false (show ¬ g = i from fun z => q z.symm)]; simp
    · rw [decide_eq_false c]; simp
  refine ⟨f_gwb A &&& (2 ^ g ^^^ 4294967295), Nat.lt_of_le_of_lt Nat.and_le_left (by omega), ?_, hi, ?_⟩
  · rw [z_sh1 g (by omega), z_ng1, z_xor, z_and]
  · have hg1 : (f_gwb A &&& (2 ^ g ^^^ 4294967295)).testBit g = false := by rw [hi, decide_eq_true rfl]; simp
    rw [← f_cnt_or hg1 9 (by omega)]
    have e : (f_gwb A &&& (2 ^ g ^^^ 4294967295)) ||| 2 ^ g = f_gwb A := by
      refine Nat.eq_of_testBit_eq fun i => ?_
      rw [Nat.testBit_or, hi, Nat.testBit_two_pow, htb]
      by_cases q : i = g
      · subst q
        rw [decide_eq_true rfl, decide_eq_true hg, decide_eq_true (show A.s.2 0 i = nI 0 from h0)]; rfl
      · rw [decide_eq_false q, decide_eq_false (show ¬ g = i from fun z => q z.symm)]; simp
    rw [e]
    have w := f_bits_cnt (p := fun i => decide (A.s.2 0 i = nI 0)) (n := A.s.1.1) (9 - A.s.1.1)
    rw [show A.s.1.1 + (9 - A.s.1.1) = 9 by omega] at w
    exact w
theorem z_fct_N : ∀ k, k < 9 → z_fct k = nI (f_facN k) := by decide
theorem f_wo_8 (h8 : A.s.1.1 ≤ 8) (m : Nat) : f_wo A m ≤ 8 := Nat.le_trans (f_wo_le A m) h8
theorem c_share {x : Int32} {b : Bool} (hS : SC T mr) (hP : PX A mi ml) (hI : IA A B) (hB : B ≤ 900000) (hQ : ∀ f g, PX A f ml → FG g mr → (∀ c, 373 ≤ c → f c = mi c) → Q (some (.int (a_share A x (z_bi b)))) (f, g, ml, T)) : z_Ok l G m_MP_share [.ref 2, .int x, .int (z_bi b)] (mi, mr, ml, T) Q := by
  have s1 := hS.1
  have s5 := hS.n
  have h8 := hI.1.1
  unfold a_share at hQ
  refine z_okN cz_82.1 (by rw [cl_82]; exact Nat.le_of_ble_eq_true rfl) cz_82.2 (z_run ck_82 5 bf_82_0 ?_)
  simp (disch := omega) only [e_q0, e_nil, e_cons, e_q, e_qf, e_qt, e_af, z_hd, z_mk1, z_lg, z_s1, z_s2, z_kl, z_en, z_kI, z_fv, z_ic, z_c1, z_sh, z_pop, z_rc, z_tgt, z_tsw, z_lsw, z_nw, z_ac, o_kI, o_kL, o_ldi, o_ldl, o_lda, o_sti, o_sta, o_stl, o_inc, o_b2, o_bz, o_l2, o_lz, o_ls, o_lneg, o_i2l, o_l2i, o_lcmp, o_dup, o_dupx1, o_dup2, o_if, o_if2, o_ifnull, o_get, o_put, o_iald, o_zald, o_aald, o_alen, o_iast, o_zast, o_aast, o_new, o_newa, o_call, o_call1, o_callN, o_obj, o_reti, o_retl, o_ret, o_tsw, o_lsw, va_rf_s, va_rf_n, z_u2_s, z_u2_k, z_u2_f, z_uR_f, z_uL_f, e_ix, e_vp, e_lt, e_le, e_eq, e_lt0, e_eq0, e_b0, e_b1, e_10, e_11, true_or, or_true, false_or, nI_add, z_bi_0, z_bi_1, e_bb, z_uR_s, z_uR_k, z_uL_s, z_uL_k, true_and, and_true, and_self, not_true_eq_false, not_false_eq_true, forall_const, Option.toList, List.cons_append, List.nil_append, List.singleton_append, Nat.reduceAdd, Nat.zero_add, Nat.add_zero, Nat.reduceEqDiff, ↓reduceIte, ite_true, ite_false, reduceCtorEq, Int.cast_ofNat_Int, Int.reduceAdd, Int.reduceToNat, ne_eq, false_imp_iff, true_imp_iff, cl_82, bf_82_0, bf_82_13, bf_82_40, bf_82_117, bf_82_123, bo_82_0, bo_82_13, bo_82_40, bo_82_117, bo_82_123, s1, s5]
  refine x_isGateway hS.2.1.1 hP.1 h8.1 ?_
  cases hq : f_gate A.s x with
  | false =>
    rw [hq] at hQ
    simp (disch := omega) only [e_q0, e_nil, e_cons, e_q, e_qf, e_qt, e_af, z_hd, z_mk1, z_lg, z_s1, z_s2, z_kl, z_en, z_kI, z_fv, z_ic, z_c1, z_sh, z_pop, z_rc, z_tgt, z_tsw, z_lsw, z_nw, z_ac, o_kI, o_kL, o_ldi, o_ldl, o_lda, o_sti, o_sta, o_stl, o_inc, o_b2, o_bz, o_l2, o_lz, o_ls, o_lneg, o_i2l, o_l2i, o_lcmp, o_dup, o_dupx1, o_dup2, o_if, o_if2, o_ifnull, o_get, o_put, o_iald, o_zald, o_aald, o_alen, o_iast, o_zast, o_aast, o_new, o_newa, o_call, o_call1, o_callN, o_obj, o_reti, o_retl, o_ret, o_tsw, o_lsw, va_rf_s, va_rf_n, z_u2_s, z_u2_k, z_u2_f, z_uR_f, z_uL_f, e_ix, e_vp, e_lt, e_le, e_eq, e_lt0, e_eq0, e_b0, e_b1, e_10, e_11, true_or, or_true, false_or, nI_add, z_bi_0, z_bi_1, e_bb, z_uR_s, z_uR_k, z_uL_s, z_uL_k, true_and, and_true, and_self, not_true_eq_false, not_false_eq_true, forall_const, Option.toList, List.cons_append, List.nil_append, List.singleton_append, Nat.reduceAdd, Nat.zero_add, Nat.add_zero, Nat.reduceEqDiff, ↓reduceIte, ite_true, ite_false, reduceCtorEq, Int.cast_ofNat_Int, Int.reduceAdd, Int.reduceToNat, ne_eq, false_imp_iff, true_imp_iff, cl_82, bf_82_0, bf_82_13, bf_82_40, bf_82_117, bf_82_123, bo_82_0, bo_82_13, bo_82_40, bo_82_117, bo_82_123, s1, s5, z_biF]
    exact hQ _ _ hP (fun _ _ _ => rfl) fun _ _ => rfl
  | true =>
    simp only [hq, if_true] at hQ
    obtain ⟨gw, hg, rfl, h0⟩ := f_gate_t (by omega) hq
    rw [e_ix (by omega)] at hQ
    simp (disch := omega) only [e_q0, e_nil, e_cons, e_q, e_qf, e_qt, e_af, z_hd, z_mk1, z_lg, z_s1, z_s2, z_kl, z_en, z_kI, z_fv, z_ic, z_c1, z_sh, z_pop, z_rc, z_tgt, z_tsw, z_lsw, z_nw, z_ac, o_kI, o_kL, o_ldi, o_ldl, o_lda, o_sti, o_sta, o_stl, o_inc, o_b2, o_bz, o_l2, o_lz, o_ls, o_lneg, o_i2l, o_l2i, o_lcmp, o_dup, o_dupx1, o_dup2, o_if, o_if2, o_ifnull, o_get, o_put, o_iald, o_zald, o_aald, o_alen, o_iast, o_zast, o_aast, o_new, o_newa, o_call, o_call1, o_callN, o_obj, o_reti, o_retl, o_ret, o_tsw, o_lsw, va_rf_s, va_rf_n, z_u2_s, z_u2_k, z_u2_f, z_uR_f, z_uL_f, e_ix, e_vp, e_lt, e_le, e_eq, e_lt0, e_eq0, e_b0, e_b1, e_10, e_11, true_or, or_true, false_or, nI_add, z_bi_0, z_bi_1, e_bb, z_uR_s, z_uR_k, z_uL_s, z_uL_k, true_and, and_true, and_self, not_true_eq_false, not_false_eq_true, forall_const, Option.toList, List.cons_append, List.nil_append, List.singleton_append, Nat.reduceAdd, Nat.zero_add, Nat.add_zero, Nat.reduceEqDiff, ↓reduceIte, ite_true, ite_false, reduceCtorEq, Int.cast_ofNat_Int, Int.reduceAdd, Int.reduceToNat, ne_eq, false_imp_iff, true_imp_iff, cl_82, bf_82_0, bf_82_13, bf_82_40, bf_82_117, bf_82_123, bo_82_0, bo_82_13, bo_82_40, bo_82_117, bo_82_123, s1, s5, z_biT]
    refine x_nodesOfKind hS.2.1.1 hP.1 h8.1 ?_
    rw [f_those_b _ (by omega), show f_bits (fun i => decide (A.s.2 0 i = nI 0)) A.s.1.1 = f_gwb A from rfl]
    obtain ⟨o, ho, eo, otb, ocn⟩ := f_oth (A := A) h8.1 hg h0
    simp (disch := omega) only [e_q0, e_nil, e_cons, e_q, e_qf, e_qt, e_af, z_hd, z_mk1, z_lg, z_s1, z_s2, z_kl, z_en, z_kI, z_fv, z_ic, z_c1, z_sh, z_pop, z_rc, z_tgt, z_tsw, z_lsw, z_nw, z_ac, o_kI, o_kL, o_ldi, o_ldl, o_lda, o_sti, o_sta, o_stl, o_inc, o_b2, o_bz, o_l2, o_lz, o_ls, o_lneg, o_i2l, o_l2i, o_lcmp, o_dup, o_dupx1, o_dup2, o_if, o_if2, o_ifnull, o_get, o_put, o_iald, o_zald, o_aald, o_alen, o_iast, o_zast, o_aast, o_new, o_newa, o_call, o_call1, o_callN, o_obj, o_reti, o_retl, o_ret, o_tsw, o_lsw, va_rf_s, va_rf_n, z_u2_s, z_u2_k, z_u2_f, z_uR_f, z_uL_f, e_ix, e_vp, e_lt, e_le, e_eq, e_lt0, e_eq0, e_b0, e_b1, e_10, e_11, true_or, or_true, false_or, nI_add, z_bi_0, z_bi_1, e_bb, z_uR_s, z_uR_k, z_uL_s, z_uL_k, true_and, and_true, and_self, not_true_eq_false, not_false_eq_true, forall_const, Option.toList, List.cons_append, List.nil_append, List.singleton_append, Nat.reduceAdd, Nat.zero_add, Nat.add_zero, Nat.reduceEqDiff, ↓reduceIte, ite_true, ite_false, reduceCtorEq, Int.cast_ofNat_Int, Int.reduceAdd, Int.reduceToNat, ne_eq, false_imp_iff, true_imp_iff, cl_82, bf_82_0, bf_82_13, bf_82_40, bf_82_117, bf_82_123, bo_82_0, bo_82_13, bo_82_40, bo_82_117, bo_82_123, s1, s5]
    rw [eo]
    refine x_bitCount (by omega) ?_
    simp (disch := omega) only [e_q0, e_nil, e_cons, e_q, e_qf, e_qt, e_af, z_hd, z_mk1, z_lg, z_s1, z_s2, z_kl, z_en, z_kI, z_fv, z_ic, z_c1, z_sh, z_pop, z_rc, z_tgt, z_tsw, z_lsw, z_nw, z_ac, o_kI, o_kL, o_ldi, o_ldl, o_lda, o_sti, o_sta, o_stl, o_inc, o_b2, o_bz, o_l2, o_lz, o_ls, o_lneg, o_i2l, o_l2i, o_lcmp, o_dup, o_dupx1, o_dup2, o_if, o_if2, o_ifnull, o_get, o_put, o_iald, o_zald, o_aald, o_alen, o_iast, o_zast, o_aast, o_new, o_newa, o_call, o_call1, o_callN, o_obj, o_reti, o_retl, o_ret, o_tsw, o_lsw, va_rf_s, va_rf_n, z_u2_s, z_u2_k, z_u2_f, z_uR_f, z_uL_f, e_ix, e_vp, e_lt, e_le, e_eq, e_lt0, e_eq0, e_b0, e_b1, e_10, e_11, true_or, or_true, false_or, nI_add, z_bi_0, z_bi_1, e_bb, z_uR_s, z_uR_k, z_uL_s, z_uL_k, true_and, and_true, and_self, not_true_eq_false, not_false_eq_true, forall_const, Option.toList, List.cons_append, List.nil_append, List.singleton_append, Nat.reduceAdd, Nat.zero_add, Nat.add_zero, Nat.reduceEqDiff, ↓reduceIte, ite_true, ite_false, reduceCtorEq, Int.cast_ofNat_Int, Int.reduceAdd, Int.reduceToNat, ne_eq, false_imp_iff, true_imp_iff, cl_82, bf_82_0, bf_82_13, bf_82_40, bf_82_117, bf_82_123, bo_82_0, bo_82_13, bo_82_40, bo_82_117, bo_82_123, s1, s5]
    have hgn := f_gn_le A
    refine z_for (α := (Nat → Nat → Int32) × (Nat → Nat → Option Nat)) (P := fun k p => FX p.1 mi p.2 mr 25 → z_W l G 82 (T.2.1, T.2.2) (fun v M' => Q v M' ∧ M'.2.2.2 = T) 40 [some (.ref 2), some (.int (nI gw)), some (.int (z_bi b)), some (.int (nI o)), some (.int (nI (f_cnt o.testBit 9))), some (.long (Int64.ofInt (f_more A gw k))), none, some (.int (nI k)), none, none, none] [] (p.1, p.2, ml, T)) 256 (fun p g1 => ?_) (fun k hk ih p g1 => ?_) 0 (by omega) (mi, mr) ⟨fun _ _ => rfl, fun _ _ => rfl⟩
    · refine z_run ck_82 5 bf_82_40 ?_
      simp (disch := omega) only [e_q0, e_nil, e_cons, e_q, e_qf, e_qt, e_af, z_hd, z_mk1, z_lg, z_s1, z_s2, z_kl, z_en, z_kI, z_fv, z_ic, z_c1, z_sh, z_pop, z_rc, z_tgt, z_tsw, z_lsw, z_nw, z_ac, o_kI, o_kL, o_ldi, o_ldl, o_lda, o_sti, o_sta, o_stl, o_inc, o_b2, o_bz, o_l2, o_lz, o_ls, o_lneg, o_i2l, o_l2i, o_lcmp, o_dup, o_dupx1, o_dup2, o_if, o_if2, o_ifnull, o_get, o_put, o_iald, o_zald, o_aald, o_alen, o_iast, o_zast, o_aast, o_new, o_newa, o_call, o_call1, o_callN, o_obj, o_reti, o_retl, o_ret, o_tsw, o_lsw, va_rf_s, va_rf_n, z_u2_s, z_u2_k, z_u2_f, z_uR_f, z_uL_f, e_ix, e_vp, e_lt, e_le, e_eq, e_lt0, e_eq0, e_b0, e_b1, e_10, e_11, true_or, or_true, false_or, nI_add, z_bi_0, z_bi_1, e_bb, z_uR_s, z_uR_k, z_uL_s, z_uL_k, true_and, and_true, and_self, not_true_eq_false, not_false_eq_true, forall_const, Option.toList, List.cons_append, List.nil_append, List.singleton_append, Nat.reduceAdd, Nat.zero_add, Nat.add_zero, Nat.reduceEqDiff, ↓reduceIte, ite_true, ite_false, reduceCtorEq, Int.cast_ofNat_Int, Int.reduceAdd, Int.reduceToNat, ne_eq, false_imp_iff, true_imp_iff, cl_82, bf_82_0, bf_82_13, bf_82_40, bf_82_117, bf_82_123, bo_82_0, bo_82_13, bo_82_40, bo_82_117, bo_82_123]
      obtain ⟨p1, p2, p3⟩ := PX.of25 g1 hP h8
      have w := hQ _ _ p1 p2 p3
      refine ⟨fun _ => ?_, fun q => absurd (Nat.le_refl _) q⟩
      have hb := f_more_le (A := A) h8.1 hg h0 256
      have hfc := f_facN_le (f_gn A) (by omega)
      obtain ⟨d, hd1, hd2, hd3⟩ := f_euc_200 (a := (f_more A gw 256).natAbs) (b := f_facN (f_gn A)) (by omega) hfc.2 (by omega)
      rw [ocn, z_fct_N _ (by omega), nI_l (by omega)]
      refine x_inLowestTerms (b := b) hd1 hd2 (by rw [f_abs_I (by omega) (by omega)]; exact hd3) ?_
      simp (disch := omega) only [e_q0, e_nil, e_cons, e_q, e_qf, e_qt, e_af, z_hd, z_mk1, z_lg, z_s1, z_s2, z_kl, z_en, z_kI, z_fv, z_ic, z_c1, z_sh, z_pop, z_rc, z_tgt, z_tsw, z_lsw, z_nw, z_ac, o_kI, o_kL, o_ldi, o_ldl, o_lda, o_sti, o_sta, o_stl, o_inc, o_b2, o_bz, o_l2, o_lz, o_ls, o_lneg, o_i2l, o_l2i, o_lcmp, o_dup, o_dupx1, o_dup2, o_if, o_if2, o_ifnull, o_get, o_put, o_iald, o_zald, o_aald, o_alen, o_iast, o_zast, o_aast, o_new, o_newa, o_call, o_call1, o_callN, o_obj, o_reti, o_retl, o_ret, o_tsw, o_lsw, va_rf_s, va_rf_n, z_u2_s, z_u2_k, z_u2_f, z_uR_f, z_uL_f, e_ix, e_vp, e_lt, e_le, e_eq, e_lt0, e_eq0, e_b0, e_b1, e_10, e_11, true_or, or_true, false_or, nI_add, z_bi_0, z_bi_1, e_bb, z_uR_s, z_uR_k, z_uL_s, z_uL_k, true_and, and_true, and_self, not_true_eq_false, not_false_eq_true, forall_const, Option.toList, List.cons_append, List.nil_append, List.singleton_append, Nat.reduceAdd, Nat.zero_add, Nat.add_zero, Nat.reduceEqDiff, ↓reduceIte, ite_true, ite_false, reduceCtorEq, Int.cast_ofNat_Int, Int.reduceAdd, Int.reduceToNat, ne_eq, false_imp_iff, true_imp_iff, cl_82, bf_82_0, bf_82_13, bf_82_40, bf_82_117, bf_82_123, bo_82_0, bo_82_13, bo_82_40, bo_82_117, bo_82_123]
      exact w
    · obtain ⟨p1, p2, p3⟩ := PX.of25 g1 hP h8
      have hS' := SC.of hS p2
      have hk' := Nat.not_le.mpr hk
      have e1 := z_subN (show k < 2147483648 by omega) (show o < 2147483648 by omega)
      have w := fun f g h => ih (f, g) h
      unfold f_more at w
      refine z_run ck_82 5 bf_82_40 ?_
      simp (disch := omega) only [e_q0, e_nil, e_cons, e_q, e_qf, e_qt, e_af, z_hd, z_mk1, z_lg, z_s1, z_s2, z_kl, z_en, z_kI, z_fv, z_ic, z_c1, z_sh, z_pop, z_rc, z_tgt, z_tsw, z_lsw, z_nw, z_ac, o_kI, o_kL, o_ldi, o_ldl, o_lda, o_sti, o_sta, o_stl, o_inc, o_b2, o_bz, o_l2, o_lz, o_ls, o_lneg, o_i2l, o_l2i, o_lcmp, o_dup, o_dupx1, o_dup2, o_if, o_if2, o_ifnull, o_get, o_put, o_iald, o_zald, o_aald, o_alen, o_iast, o_zast, o_aast, o_new, o_newa, o_call, o_call1, o_callN, o_obj, o_reti, o_retl, o_ret, o_tsw, o_lsw, va_rf_s, va_rf_n, z_u2_s, z_u2_k, z_u2_f, z_uR_f, z_uL_f, e_ix, e_vp, e_lt, e_le, e_eq, e_lt0, e_eq0, e_b0, e_b1, e_10, e_11, true_or, or_true, false_or, nI_add, z_bi_0, z_bi_1, e_bb, z_uR_s, z_uR_k, z_uL_s, z_uL_k, true_and, and_true, and_self, not_true_eq_false, not_false_eq_true, forall_const, Option.toList, List.cons_append, List.nil_append, List.singleton_append, Nat.reduceAdd, Nat.zero_add, Nat.add_zero, Nat.reduceEqDiff, ↓reduceIte, ite_true, ite_false, reduceCtorEq, Int.cast_ofNat_Int, Int.reduceAdd, Int.reduceToNat, ne_eq, false_imp_iff, true_imp_iff, cl_82, bf_82_0, bf_82_13, bf_82_40, bf_82_117, bf_82_123, bo_82_0, bo_82_13, bo_82_40, bo_82_117, bo_82_123, hk']
      refine x_bitCount (by omega) ?_
      have k9 := f_cnt_le k.testBit 9
      have o9 := f_cnt_le o.testBit 9
      simp (disch := omega) only [e_q0, e_nil, e_cons, e_q, e_qf, e_qt, e_af, z_hd, z_mk1, z_lg, z_s1, z_s2, z_kl, z_en, z_kI, z_fv, z_ic, z_c1, z_sh, z_pop, z_rc, z_tgt, z_tsw, z_lsw, z_nw, z_ac, o_kI, o_kL, o_ldi, o_ldl, o_lda, o_sti, o_sta, o_stl, o_inc, o_b2, o_bz, o_l2, o_lz, o_ls, o_lneg, o_i2l, o_l2i, o_lcmp, o_dup, o_dupx1, o_dup2, o_if, o_if2, o_ifnull, o_get, o_put, o_iald, o_zald, o_aald, o_alen, o_iast, o_zast, o_aast, o_new, o_newa, o_call, o_call1, o_callN, o_obj, o_reti, o_retl, o_ret, o_tsw, o_lsw, va_rf_s, va_rf_n, z_u2_s, z_u2_k, z_u2_f, z_uR_f, z_uL_f, e_ix, e_vp, e_lt, e_le, e_eq, e_lt0, e_eq0, e_b0, e_b1, e_10, e_11, true_or, or_true, false_or, nI_add, z_bi_0, z_bi_1, e_bb, z_uR_s, z_uR_k, z_uL_s, z_uL_k, true_and, and_true, and_self, not_true_eq_false, not_false_eq_true, forall_const, Option.toList, List.cons_append, List.nil_append, List.singleton_append, Nat.reduceAdd, Nat.zero_add, Nat.add_zero, Nat.reduceEqDiff, ↓reduceIte, ite_true, ite_false, reduceCtorEq, Int.cast_ofNat_Int, Int.reduceAdd, Int.reduceToNat, ne_eq, false_imp_iff, true_imp_iff, cl_82, bf_82_0, bf_82_13, bf_82_40, bf_82_117, bf_82_123, bo_82_0, bo_82_13, bo_82_40, bo_82_117, bo_82_123, hk', e1]
      have so : f_sub k o = true ↔ (f_sub k (f_gwb A) = true ∧ k.testBit gw = false) := by
        rw [f_sub_iff, f_sub_iff]
        constructor
        · intro q
          refine ⟨fun i hi => ?_, ?_⟩
          · have := q i hi
            rw [otb, Bool.and_eq_true] at this
            exact this.1
          · cases z : k.testBit gw with
            | false => rfl
            | true => have := q gw z; rw [otb, decide_eq_true rfl] at this; simp at this
        · rintro ⟨q1, q2⟩ i hi
          rw [otb, q1 i hi, decide_eq_false (show ¬ i = gw from fun z => by rw [z, q2] at hi; cases hi)]
          rfl
      refine ⟨fun c1 => ?_, fun c1 => ?_⟩
      · obtain ⟨c2, c3⟩ := so.mp c1
        have hc := f_sub_cnt h8.1 hg h0 c2 c3
        have ht : f_term A gw k = _ := if_pos ⟨c2, c3⟩
        rw [ht] at w
        have hor : k ||| 2 ^ gw < 2 ^ 8 := Nat.or_lt_two_pow (by omega) (Nat.pow_lt_pow_right (by omega) (by omega))
        have eor : nI k ||| z_shl (nI 1) (nI gw) = nI (k ||| 2 ^ gw) := by rw [z_sh1 gw (by omega), z_or]
        have s1' := hS'.1
        refine ⟨fun q => absurd q (by omega), fun _ => ?_⟩
        rw [pk_sub (show f_cnt k.testBit 9 ≤ f_cnt o.testBit 9 by omega), e_vp (by omega) (by omega), e_ix (by omega), z_fct_N _ (by omega), z_fct_N _ (by omega), eor]
        refine ⟨trivial, by rw [e_vp (by omega) (by omega)]; trivial, s1'.1.1, ?_⟩
        refine c_worth (mi := p.1) (mr := p.2) hS' p1 hI hB (by omega) fun f g u1 => ?_
        have u2 := FX.trans u1 g1
        obtain ⟨p1', p2', p3'⟩ := PX.of25 u2 hP h8
        have hS2 := SC.of hS p2'
        have s2 := hS2.1
        simp (disch := omega) only [e_q0, e_nil, e_cons, e_q, e_qf, e_qt, e_af, z_hd, z_mk1, z_lg, z_s1, z_s2, z_kl, z_en, z_kI, z_fv, z_ic, z_c1, z_sh, z_pop, z_rc, z_tgt, z_tsw, z_lsw, z_nw, z_ac, o_kI, o_kL, o_ldi, o_ldl, o_lda, o_sti, o_sta, o_stl, o_inc, o_b2, o_bz, o_l2, o_lz, o_ls, o_lneg, o_i2l, o_l2i, o_lcmp, o_dup, o_dupx1, o_dup2, o_if, o_if2, o_ifnull, o_get, o_put, o_iald, o_zald, o_aald, o_alen, o_iast, o_zast, o_aast, o_new, o_newa, o_call, o_call1, o_callN, o_obj, o_reti, o_retl, o_ret, o_tsw, o_lsw, va_rf_s, va_rf_n, z_u2_s, z_u2_k, z_u2_f, z_uR_f, z_uL_f, e_ix, e_vp, e_lt, e_le, e_eq, e_lt0, e_eq0, e_b0, e_b1, e_10, e_11, true_or, or_true, false_or, nI_add, z_bi_0, z_bi_1, e_bb, z_uR_s, z_uR_k, z_uL_s, z_uL_k, true_and, and_true, and_self, not_true_eq_false, not_false_eq_true, forall_const, Option.toList, List.cons_append, List.nil_append, List.singleton_append, Nat.reduceAdd, Nat.zero_add, Nat.add_zero, Nat.reduceEqDiff, ↓reduceIte, ite_true, ite_false, reduceCtorEq, Int.cast_ofNat_Int, Int.reduceAdd, Int.reduceToNat, ne_eq, false_imp_iff, true_imp_iff, cl_82, bf_82_0, bf_82_13, bf_82_40, bf_82_117, bf_82_123, bo_82_0, bo_82_13, bo_82_40, bo_82_117, bo_82_123, s2]
        refine c_worth (mi := f) (mr := g) hS2 p1' hI hB (by omega) fun f' g' v1 => ?_
        have w := w f' g' (FX.trans v1 u2)
        simp (disch := omega) only [e_q0, e_nil, e_cons, e_q, e_qf, e_qt, e_af, z_hd, z_mk1, z_lg, z_s1, z_s2, z_kl, z_en, z_kI, z_fv, z_ic, z_c1, z_sh, z_pop, z_rc, z_tgt, z_tsw, z_lsw, z_nw, z_ac, o_kI, o_kL, o_ldi, o_ldl, o_lda, o_sti, o_sta, o_stl, o_inc, o_b2, o_bz, o_l2, o_lz, o_ls, o_lneg, o_i2l, o_l2i, o_lcmp, o_dup, o_dupx1, o_dup2, o_if, o_if2, o_ifnull, o_get, o_put, o_iald, o_zald, o_aald, o_alen, o_iast, o_zast, o_aast, o_new, o_newa, o_call, o_call1, o_callN, o_obj, o_reti, o_retl, o_ret, o_tsw, o_lsw, va_rf_s, va_rf_n, z_u2_s, z_u2_k, z_u2_f, z_uR_f, z_uL_f, e_ix, e_vp, e_lt, e_le, e_eq, e_lt0, e_eq0, e_b0, e_b1, e_10, e_11, true_or, or_true, false_or, nI_add, z_bi_0, z_bi_1, e_bb, z_uR_s, z_uR_k, z_uL_s, z_uL_k, true_and, and_true, and_self, not_true_eq_false, not_false_eq_true, forall_const, Option.toList, List.cons_append, List.nil_append, List.singleton_append, Nat.reduceAdd, Nat.zero_add, Nat.add_zero, Nat.reduceEqDiff, ↓reduceIte, ite_true, ite_false, reduceCtorEq, Int.cast_ofNat_Int, Int.reduceAdd, Int.reduceToNat, ne_eq, false_imp_iff, true_imp_iff, cl_82, bf_82_0, bf_82_13, bf_82_40, bf_82_117, bf_82_123, bo_82_0, bo_82_13, bo_82_40, bo_82_117, bo_82_123]
        have hw1 := f_wo_8 h8.1 (k ||| 2 ^ gw)
        have hw2 := f_wo_8 h8.1 k
        have hfa := f_facN_le (f_cnt k.testBit 9) (by omega)
        have hfb := f_facN_le (f_cnt o.testBit 9 - f_cnt k.testBit 9) (by omega)
        have ew : (nI (f_wo A (k ||| 2 ^ gw)) - nI (f_wo A k)).toInt64 = Int64.ofInt ((f_wo A (k ||| 2 ^ gw) : Int) - (f_wo A k : Int)) := by
          rw [nI_I, nI_I, ← Int32.ofInt_sub, z_ofI32 (by omega) (by omega)]
        rw [show f_gn A - 1 - f_cnt k.testBit 9 = f_cnt o.testBit 9 - f_cnt k.testBit 9 by omega, Int64.ofInt_add, Int64.ofInt_mul, ← ew, ← lN_I, ← lN_mul] at w
        rw [nI_l (by omega), nI_l (by omega)]
        exact w
      · have ht : f_term A gw k = 0 := if_neg (fun q => c1 (so.mpr q))
        rw [ht, Int.add_zero] at w
        exact w p.1 p.2 g1
end
