section
variable {mi f : Nat → Nat → Int32} {a : Nat} {s : ZS} {r r' : ZW}
theorem MX.lk {k : Nat} (hX : MX mi a s r) (h8 : s.1.1 ≤ 8 ∧ s.1.2 ≤ 9) (hk : k < s.1.2) (e : ∀ c, c ≠ a + 11 + k → f c = mi c) (hr : ∀ j, j ≠ 40 + k → j ≠ 49 + k → j ≠ 58 + k → r' j = r j) (hL : LX (f (a + 11 + k)) s r' k) : MX f a s r' := by
  refine ⟨?_, fun i hi => ?_, fun j hj => ?_⟩
  · rw [e a (by omega), hr 75 (by omega) (by omega) (by omega), hr 76 (by omega) (by omega) (by omega), hr 77 (by omega) (by omega) (by omega)]; exact hX.1
  · rw [e (a + 2 + i) (by omega)]
    unfold NX
    rw [hr (67 + i) (by omega) (by omega) (by omega), hr i (by omega) (by omega) (by omega), hr (8 + i) (by omega) (by omega) (by omega), hr (16 + i) (by omega) (by omega) (by omega), hr (24 + i) (by omega) (by omega) (by omega), hr (32 + i) (by omega) (by omega) (by omega)]
    exact hX.2.1 i hi
  · by_cases q : j = k
    · subst q; exact hL
    · rw [e (a + 11 + j) (by omega)]
      unfold LX f_air
      rw [hr (40 + j) (by omega) (by omega) (by omega), hr (49 + j) (by omega) (by omega) (by omega), hr (58 + j) (by omega) (by omega) (by omega)]
      exact hX.2.2 j hj
theorem MX.nd {i : Nat} {v : Int32} (hX : MX mi a s r) (h8 : s.1.1 ≤ 8 ∧ s.1.2 ≤ 9) (hi : i < s.1.1) : MX (z_u2 mi (a + 2 + i) 1 v) a s (f_set r (67 + i) v) := by
  refine ⟨?_, fun j hj => ?_, fun j hj => ?_⟩
  · rw [z_u2_f (by omega), f_set_ne (by omega), f_set_ne (by omega), f_set_ne (by omega)]; exact hX.1
  · have w := hX.2.1 j hj
    unfold NX
    rw [f_set_ne (show j ≠ 67 + i by omega), f_set_ne (show 8 + j ≠ 67 + i by omega), f_set_ne (show 16 + j ≠ 67 + i by omega), f_set_ne (show 24 + j ≠ 67 + i by omega), f_set_ne (show 32 + j ≠ 67 + i by omega)]
    by_cases q : j = i
    · subst q
      rw [f_set_eq, z_u2_s, z_u2_k (by omega), z_u2_k (by omega), z_u2_k (by omega), z_u2_k (by omega), z_u2_k (by omega), z_u2_k (by omega), z_u2_k (by omega), z_u2_k (by omega)]
      exact ⟨⟨w.1.1, rfl, w.1.2.2⟩, w.2⟩
    · rw [f_set_ne (by omega), z_u2_f (by omega)]; exact w
  · rw [z_u2_f (by omega)]
    unfold LX f_air
    rw [f_set_ne (by omega), f_set_ne (by omega), f_set_ne (by omega)]
    exact hX.2.2 j hj
theorem MX.mg {v : Int32} (hX : MX mi a s r) (h8 : s.1.1 ≤ 8 ∧ s.1.2 ≤ 9) : MX (z_u2 mi a 4 v) a s (f_set r 75 v) := by
  refine ⟨?_, fun j hj => ?_, fun j hj => ?_⟩
  · rw [f_set_eq, f_set_ne (by omega), f_set_ne (by omega), z_u2_s, z_u2_k (by omega), z_u2_k (by omega), z_u2_k (by omega), z_u2_k (by omega)]
    exact ⟨hX.1.1, hX.1.2.1, rfl, hX.1.2.2.2⟩
  · rw [z_u2_f (by omega)]
    unfold NX
    rw [f_set_ne (by omega), f_set_ne (by omega), f_set_ne (by omega), f_set_ne (by omega), f_set_ne (by omega), f_set_ne (by omega)]
    exact hX.2.1 j hj
  · rw [z_u2_f (by omega)]
    unfold LX f_air
    rw [f_set_ne (by omega), f_set_ne (by omega), f_set_ne (by omega)]
    exact hX.2.2 j hj
/-- a link is turned -/
theorem MX.tn {k : Nat} {v : Int32} (hX : MX mi a s r) (h8 : s.1.1 ≤ 8 ∧ s.1.2 ≤ 9) (hk : k < s.1.2) : MX (z_u2 mi (a + 11 + k) 6 v) a s (f_set r (58 + k) v) := by
  refine MX.lk hX h8 hk (fun c hc => z_u2_f hc) (fun j _ _ hj => f_set_ne hj) ?_
  have w := hX.2.2 k hk
  unfold LX f_air
  rw [f_set_ne (show 40 + k ≠ 58 + k by omega), f_set_ne (show 49 + k ≠ 58 + k by omega), f_set_eq, z_u2_s, z_u2_k (by omega), z_u2_k (by omega), z_u2_k (by omega), z_u2_k (by omega), z_u2_k (by omega), z_u2_k (by omega)]
  exact ⟨w.1, w.2.1, w.2.2.1, w.2.2.2.1, w.2.2.2.2.1, w.2.2.2.2.2.1, rfl⟩
end
section
variable {l : Launch} {G : ZG} {mi : Nat → Nat → Int32} {mr : Nat → Nat → Option Nat} {ml : Nat → Nat → Int64} {T : (Nat → Nat × Nat) × Nat × Nat} {Q : ZR} {A : ZA} {B : Nat}
theorem e_ge0 {k : Nat} (h : k < 1000) : (0 ≤ nI k) = True := eq_true (by
  have e : (0 : Int32) = nI 0 := rfl
  rw [e, e_le (by omega) (by omega)]; omega)
theorem c_price {x y : Int32} (hS : SC T mr) (hP : PX A mi ml) (hI : IA A B) (hB : B ≤ 1000000) (hQ : ∀ f, PX A f ml → (∀ c, 373 ≤ c → f c = mi c) → Q (some (.int (if f_noTwo A.s x y = nI 0 then f_price A.s (nI 255) A.r (z_ix x) (z_ix y) else f_noTwo A.s x y))) (f, mr, ml, T)) : z_Ok l G m_MP_price [.ref 2, .int x, .int y] (mi, mr, ml, T) Q := by
  have s1 := hS.1
  have s5 := hS.n
  have h8 := hI.1.1
  refine z_okN cz_66.1 (by rw [cl_66]; exact Nat.le_of_ble_eq_true rfl) cz_66.2 (z_run ck_66 5 bf_66_0 ?_)
  simp (disch := omega) only [e_q0, e_nil, e_cons, e_q, e_qf, e_qt, e_af, z_hd, z_mk1, z_lg, z_s1, z_s2, z_kl, z_en, z_kI, z_fv, z_ic, z_c1, z_sh, z_pop, z_rc, z_tgt, z_tsw, z_lsw, z_nw, z_ac, o_kI, o_kL, o_ldi, o_ldl, o_lda, o_sti, o_sta, o_stl, o_inc, o_b2, o_bz, o_l2, o_lz, o_ls, o_lneg, o_i2l, o_l2i, o_lcmp, o_dup, o_dupx1, o_dup2, o_if, o_if2, o_ifnull, o_get, o_put, o_iald, o_zald, o_aald, o_alen, o_iast, o_zast, o_aast, o_new, o_newa, o_call, o_call1, o_callN, o_obj, o_reti, o_retl, o_ret, o_tsw, o_lsw, va_rf_s, va_rf_n, z_u2_s, z_u2_k, z_u2_f, z_uR_f, z_uL_f, e_ix, e_vp, e_lt, e_le, e_eq, e_lt0, e_eq0, e_b0, e_b1, e_10, e_11, true_or, or_true, false_or, nI_add, z_bi_0, z_bi_1, e_bb, z_uR_s, z_uR_k, z_uL_s, z_uL_k, true_and, and_true, and_self, not_true_eq_false, not_false_eq_true, forall_const, Option.toList, List.cons_append, List.nil_append, List.singleton_append, Nat.reduceAdd, Nat.zero_add, Nat.add_zero, Nat.reduceEqDiff, ↓reduceIte, ite_true, ite_false, reduceCtorEq, Int.cast_ofNat_Int, Int.reduceAdd, Int.reduceToNat, ne_eq, false_imp_iff, true_imp_iff, cl_66, bf_66_0, bf_66_13, bf_66_34, bf_66_60, bo_66_0, bo_66_13, bo_66_34, bo_66_60, s1, s5]
  refine c_offerError hS hP hI ?_
  simp (disch := omega) only [e_q0, e_nil, e_cons, e_q, e_qf, e_qt, e_af, z_hd, z_mk1, z_lg, z_s1, z_s2, z_kl, z_en, z_kI, z_fv, z_ic, z_c1, z_sh, z_pop, z_rc, z_tgt, z_tsw, z_lsw, z_nw, z_ac, o_kI, o_kL, o_ldi, o_ldl, o_lda, o_sti, o_sta, o_stl, o_inc, o_b2, o_bz, o_l2, o_lz, o_ls, o_lneg, o_i2l, o_l2i, o_lcmp, o_dup, o_dupx1, o_dup2, o_if, o_if2, o_ifnull, o_get, o_put, o_iald, o_zald, o_aald, o_alen, o_iast, o_zast, o_aast, o_new, o_newa, o_call, o_call1, o_callN, o_obj, o_reti, o_retl, o_ret, o_tsw, o_lsw, va_rf_s, va_rf_n, z_u2_s, z_u2_k, z_u2_f, z_uR_f, z_uL_f, e_ix, e_vp, e_lt, e_le, e_eq, e_lt0, e_eq0, e_b0, e_b1, e_10, e_11, true_or, or_true, false_or, nI_add, z_bi_0, z_bi_1, e_bb, z_uR_s, z_uR_k, z_uL_s, z_uL_k, true_and, and_true, and_self, not_true_eq_false, not_false_eq_true, forall_const, Option.toList, List.cons_append, List.nil_append, List.singleton_append, Nat.reduceAdd, Nat.zero_add, Nat.add_zero, Nat.reduceEqDiff, ↓reduceIte, ite_true, ite_false, reduceCtorEq, Int.cast_ofNat_Int, Int.reduceAdd, Int.reduceToNat, ne_eq, false_imp_iff, true_imp_iff, cl_66, bf_66_0, bf_66_13, bf_66_34, bf_66_60, bo_66_0, bo_66_13, bo_66_34, bo_66_60, s1, s5]
  refine ⟨fun c => ?_, fun c => ?_⟩
  · replace c : f_noTwo A.s x y = nI 0 := c
    obtain ⟨i, j, ⟨hi, rfl⟩, ⟨hj, rfl⟩, hij, h0⟩ := f_noTwo_0 h8.1 c
    simp only [c, if_true] at hQ
    rw [e_ix (by omega), e_ix (by omega)] at hQ
    refine x_openOffer hS.2.1.1 hP.1 hI.1 hi hj fun f f1 f2 f3 => ?_
    have hP' : PX A f ml := PX.row hP h8 (fun c _ c2 => f1 c (by omega)) f2
    have hq := hQ f hP' fun c hc => f1 c (by omega)
    unfold f_price at hq
    have q1 : T.1 (7 + i) = (1, 3) ∧ mr 6 i = some (7 + i) := hS.2.1.1.2.1 i (by omega)
    by_cases ho : f_offers A.s (nI 255) A.r i = true
    · rw [if_pos ho]
      cases hl : f_link A.s A.r (nI i) (nI j) A.s.1.2 with
      | none =>
        rw [hl] at hq
        simp only [z_on]
        simp (disch := omega) only [e_q0, e_nil, e_cons, e_q, e_qf, e_qt, e_af, z_hd, z_mk1, z_lg, z_s1, z_s2, z_kl, z_en, z_kI, z_fv, z_ic, z_c1, z_sh, z_pop, z_rc, z_tgt, z_tsw, z_lsw, z_nw, z_ac, o_kI, o_kL, o_ldi, o_ldl, o_lda, o_sti, o_sta, o_stl, o_inc, o_b2, o_bz, o_l2, o_lz, o_ls, o_lneg, o_i2l, o_l2i, o_lcmp, o_dup, o_dupx1, o_dup2, o_if, o_if2, o_ifnull, o_get, o_put, o_iald, o_zald, o_aald, o_alen, o_iast, o_zast, o_aast, o_new, o_newa, o_call, o_call1, o_callN, o_obj, o_reti, o_retl, o_ret, o_tsw, o_lsw, va_rf_s, va_rf_n, z_u2_s, z_u2_k, z_u2_f, z_uR_f, z_uL_f, e_ix, e_vp, e_lt, e_le, e_eq, e_lt0, e_eq0, e_b0, e_b1, e_10, e_11, true_or, or_true, false_or, nI_add, z_bi_0, z_bi_1, e_bb, z_uR_s, z_uR_k, z_uL_s, z_uL_k, true_and, and_true, and_self, not_true_eq_false, not_false_eq_true, forall_const, Option.toList, List.cons_append, List.nil_append, List.singleton_append, Nat.reduceAdd, Nat.zero_add, Nat.add_zero, Nat.reduceEqDiff, ↓reduceIte, ite_true, ite_false, reduceCtorEq, Int.cast_ofNat_Int, Int.reduceAdd, Int.reduceToNat, ne_eq, false_imp_iff, true_imp_iff, cl_66, bf_66_0, bf_66_13, bf_66_34, bf_66_60, bo_66_0, bo_66_13, bo_66_34, bo_66_60]
        exact ⟨fun q => absurd q (by decide), fun _ => hq⟩
      | some k =>
        have hk := f_link_lt _ _ hl
        rw [hl] at hq
        simp only [ho, if_true] at hq
        have q2 : T.1 (16 + k) = (1, 1) ∧ mr 15 k = some (16 + k) := hS.2.1.1.2.2 k (by omega)
        have q3 : f (7 + i) 11 = f_offered A.s A.r i := (f3.2 ho).2
        have q4 : f (16 + k) 5 = f_air A.s A.r k := (f2.2.2 k hk).2.2.2.2.2.1
        simp only [z_on]
        simp (disch := omega) only [e_q0, e_nil, e_cons, e_q, e_qf, e_qt, e_af, z_hd, z_mk1, z_lg, z_s1, z_s2, z_kl, z_en, z_kI, z_fv, z_ic, z_c1, z_sh, z_pop, z_rc, z_tgt, z_tsw, z_lsw, z_nw, z_ac, o_kI, o_kL, o_ldi, o_ldl, o_lda, o_sti, o_sta, o_stl, o_inc, o_b2, o_bz, o_l2, o_lz, o_ls, o_lneg, o_i2l, o_l2i, o_lcmp, o_dup, o_dupx1, o_dup2, o_if, o_if2, o_ifnull, o_get, o_put, o_iald, o_zald, o_aald, o_alen, o_iast, o_zast, o_aast, o_new, o_newa, o_call, o_call1, o_callN, o_obj, o_reti, o_retl, o_ret, o_tsw, o_lsw, va_rf_s, va_rf_n, z_u2_s, z_u2_k, z_u2_f, z_uR_f, z_uL_f, e_ix, e_vp, e_lt, e_le, e_eq, e_lt0, e_eq0, e_b0, e_b1, e_10, e_11, true_or, or_true, false_or, nI_add, z_bi_0, z_bi_1, e_bb, z_uR_s, z_uR_k, z_uL_s, z_uL_k, true_and, and_true, and_self, not_true_eq_false, not_false_eq_true, forall_const, Option.toList, List.cons_append, List.nil_append, List.singleton_append, Nat.reduceAdd, Nat.zero_add, Nat.add_zero, Nat.reduceEqDiff, ↓reduceIte, ite_true, ite_false, reduceCtorEq, Int.cast_ofNat_Int, Int.reduceAdd, Int.reduceToNat, ne_eq, false_imp_iff, true_imp_iff, cl_66, bf_66_0, bf_66_13, bf_66_34, bf_66_60, bo_66_0, bo_66_13, bo_66_34, bo_66_60, s1, s5, q1, q2, q3, q4, z_t4, z_t5, e_ge0]
        exact hq
    · rw [if_neg ho]
      have e : f_price A.s (nI 255) A.r i j = z_ng 9 := by
        unfold f_price
        cases f_link A.s A.r (nI i) (nI j) A.s.1.2 with
        | none => rfl
        | some k => exact if_neg ho
      replace hq := hQ f hP' fun c hc => f1 c (by omega)
      rw [e] at hq
      simp only [z_on]
      simp (disch := omega) only [e_q0, e_nil, e_cons, e_q, e_qf, e_qt, e_af, z_hd, z_mk1, z_lg, z_s1, z_s2, z_kl, z_en, z_kI, z_fv, z_ic, z_c1, z_sh, z_pop, z_rc, z_tgt, z_tsw, z_lsw, z_nw, z_ac, o_kI, o_kL, o_ldi, o_ldl, o_lda, o_sti, o_sta, o_stl, o_inc, o_b2, o_bz, o_l2, o_lz, o_ls, o_lneg, o_i2l, o_l2i, o_lcmp, o_dup, o_dupx1, o_dup2, o_if, o_if2, o_ifnull, o_get, o_put, o_iald, o_zald, o_aald, o_alen, o_iast, o_zast, o_aast, o_new, o_newa, o_call, o_call1, o_callN, o_obj, o_reti, o_retl, o_ret, o_tsw, o_lsw, va_rf_s, va_rf_n, z_u2_s, z_u2_k, z_u2_f, z_uR_f, z_uL_f, e_ix, e_vp, e_lt, e_le, e_eq, e_lt0, e_eq0, e_b0, e_b1, e_10, e_11, true_or, or_true, false_or, nI_add, z_bi_0, z_bi_1, e_bb, z_uR_s, z_uR_k, z_uL_s, z_uL_k, true_and, and_true, and_self, not_true_eq_false, not_false_eq_true, forall_const, Option.toList, List.cons_append, List.nil_append, List.singleton_append, Nat.reduceAdd, Nat.zero_add, Nat.add_zero, Nat.reduceEqDiff, ↓reduceIte, ite_true, ite_false, reduceCtorEq, Int.cast_ofNat_Int, Int.reduceAdd, Int.reduceToNat, ne_eq, false_imp_iff, true_imp_iff, cl_66, bf_66_0, bf_66_13, bf_66_34, bf_66_60, bo_66_0, bo_66_13, bo_66_34, bo_66_60]
      exact ⟨fun q => absurd q (by decide), fun _ => hq⟩
  · simp only [if_neg (show ¬ f_noTwo A.s x y = nI 0 from c)] at hQ
    exact hQ _ hP fun _ _ => rfl
theorem c_safe {x y : Int32} (hS : SC T mr) (hP : PX A mi ml) (hI : IA A B) (hB : B ≤ 1000000) (hQ : ∀ f, PX A f ml → (∀ c, 373 ≤ c → f c = mi c) → Q (some (.int (if f_noTwo A.s x y = nI 0 then (if f_price A.s (nI 255) A.r (z_ix x) (z_ix y) = z_ng 9 then z_ng 9 else z_bi (f_safe A.s A.r (z_ix x) (z_ix y))) else f_noTwo A.s x y))) (f, mr, ml, T)) : z_Ok l G m_MP_safe [.ref 2, .int x, .int y] (mi, mr, ml, T) Q := by
  have s1 := hS.1
  have s5 := hS.n
  have h8 := hI.1.1
  refine z_okN cz_67.1 (by rw [cl_67]; exact Nat.le_of_ble_eq_true rfl) cz_67.2 (z_run ck_67 6 bf_67_0 ?_)
  simp (disch := omega) only [e_q0, e_nil, e_cons, e_q, e_qf, e_qt, e_af, z_hd, z_mk1, z_lg, z_s1, z_s2, z_kl, z_en, z_kI, z_fv, z_ic, z_c1, z_sh, z_pop, z_rc, z_tgt, z_tsw, z_lsw, z_nw, z_ac, o_kI, o_kL, o_ldi, o_ldl, o_lda, o_sti, o_sta, o_stl, o_inc, o_b2, o_bz, o_l2, o_lz, o_ls, o_lneg, o_i2l, o_l2i, o_lcmp, o_dup, o_dupx1, o_dup2, o_if, o_if2, o_ifnull, o_get, o_put, o_iald, o_zald, o_aald, o_alen, o_iast, o_zast, o_aast, o_new, o_newa, o_call, o_call1, o_callN, o_obj, o_reti, o_retl, o_ret, o_tsw, o_lsw, va_rf_s, va_rf_n, z_u2_s, z_u2_k, z_u2_f, z_uR_f, z_uL_f, e_ix, e_vp, e_lt, e_le, e_eq, e_lt0, e_eq0, e_b0, e_b1, e_10, e_11, true_or, or_true, false_or, nI_add, z_bi_0, z_bi_1, e_bb, z_uR_s, z_uR_k, z_uL_s, z_uL_k, true_and, and_true, and_self, not_true_eq_false, not_false_eq_true, forall_const, Option.toList, List.cons_append, List.nil_append, List.singleton_append, Nat.reduceAdd, Nat.zero_add, Nat.add_zero, Nat.reduceEqDiff, ↓reduceIte, ite_true, ite_false, reduceCtorEq, Int.cast_ofNat_Int, Int.reduceAdd, Int.reduceToNat, ne_eq, false_imp_iff, true_imp_iff, cl_67, bf_67_0, bf_67_13, bf_67_28, bf_67_56, bf_67_57, bo_67_0, bo_67_13, bo_67_28, bo_67_56, bo_67_57, s1, s5]
  refine c_offerError hS hP hI ?_
  simp (disch := omega) only [e_q0, e_nil, e_cons, e_q, e_qf, e_qt, e_af, z_hd, z_mk1, z_lg, z_s1, z_s2, z_kl, z_en, z_kI, z_fv, z_ic, z_c1, z_sh, z_pop, z_rc, z_tgt, z_tsw, z_lsw, z_nw, z_ac, o_kI, o_kL, o_ldi, o_ldl, o_lda, o_sti, o_sta, o_stl, o_inc, o_b2, o_bz, o_l2, o_lz, o_ls, o_lneg, o_i2l, o_l2i, o_lcmp, o_dup, o_dupx1, o_dup2, o_if, o_if2, o_ifnull, o_get, o_put, o_iald, o_zald, o_aald, o_alen, o_iast, o_zast, o_aast, o_new, o_newa, o_call, o_call1, o_callN, o_obj, o_reti, o_retl, o_ret, o_tsw, o_lsw, va_rf_s, va_rf_n, z_u2_s, z_u2_k, z_u2_f, z_uR_f, z_uL_f, e_ix, e_vp, e_lt, e_le, e_eq, e_lt0, e_eq0, e_b0, e_b1, e_10, e_11, true_or, or_true, false_or, nI_add, z_bi_0, z_bi_1, e_bb, z_uR_s, z_uR_k, z_uL_s, z_uL_k, true_and, and_true, and_self, not_true_eq_false, not_false_eq_true, forall_const, Option.toList, List.cons_append, List.nil_append, List.singleton_append, Nat.reduceAdd, Nat.zero_add, Nat.add_zero, Nat.reduceEqDiff, ↓reduceIte, ite_true, ite_false, reduceCtorEq, Int.cast_ofNat_Int, Int.reduceAdd, Int.reduceToNat, ne_eq, false_imp_iff, true_imp_iff, cl_67, bf_67_0, bf_67_13, bf_67_28, bf_67_56, bf_67_57, bo_67_0, bo_67_13, bo_67_28, bo_67_56, bo_67_57, s1, s5]
  refine ⟨fun c => ?_, fun c => ?_⟩
  · replace c : f_noTwo A.s x y = nI 0 := c
    obtain ⟨i, j, ⟨hi, rfl⟩, ⟨hj, rfl⟩, hij, h0⟩ := f_noTwo_0 h8.1 c
    simp only [c, if_true] at hQ
    rw [e_ix (by omega), e_ix (by omega)] at hQ
    refine x_openOffer hS.2.1.1 hP.1 hI.1 hi hj fun f f1 f2 f3 => ?_
    have hP' : PX A f ml := PX.row hP h8 (fun c _ c2 => f1 c (by omega)) f2
    have hq := hQ f hP' fun c hc => f1 c (by omega)
    have q1 : T.1 (7 + i) = (1, 3) ∧ mr 6 i = some (7 + i) := hS.2.1.1.2.1 i (by omega)
    have q1' : T.1 (7 + j) = (1, 3) ∧ mr 6 j = some (7 + j) := hS.2.1.1.2.1 j (by omega)
    have key := f_price_some (co := nI 255) hI.1 hI.2.1 hB hi hj
    have no : (∀ k, k < A.s.1.2 → x_from A.s A.r j k = some i → ¬ f_offers A.s (nI 255) A.r i = true) → f_price A.s (nI 255) A.r i j = z_ng 9 := fun w => Classical.byContradiction fun q => by
      obtain ⟨k, hk, hf, ho, _⟩ := key.mp q
      exact w k hk hf ho
    by_cases ho : f_offers A.s (nI 255) A.r i = true
    · rw [if_pos ho]
      cases hl : f_link A.s A.r (nI i) (nI j) A.s.1.2 with
      | none =>
        rw [if_pos (no fun k hk hf => absurd hf (f_link_from0 hI.1 hj hi hl hk))] at hq
        simp only [z_on]
        simp (disch := omega) only [e_q0, e_nil, e_cons, e_q, e_qf, e_qt, e_af, z_hd, z_mk1, z_lg, z_s1, z_s2, z_kl, z_en, z_kI, z_fv, z_ic, z_c1, z_sh, z_pop, z_rc, z_tgt, z_tsw, z_lsw, z_nw, z_ac, o_kI, o_kL, o_ldi, o_ldl, o_lda, o_sti, o_sta, o_stl, o_inc, o_b2, o_bz, o_l2, o_lz, o_ls, o_lneg, o_i2l, o_l2i, o_lcmp, o_dup, o_dupx1, o_dup2, o_if, o_if2, o_ifnull, o_get, o_put, o_iald, o_zald, o_aald, o_alen, o_iast, o_zast, o_aast, o_new, o_newa, o_call, o_call1, o_callN, o_obj, o_reti, o_retl, o_ret, o_tsw, o_lsw, va_rf_s, va_rf_n, z_u2_s, z_u2_k, z_u2_f, z_uR_f, z_uL_f, e_ix, e_vp, e_lt, e_le, e_eq, e_lt0, e_eq0, e_b0, e_b1, e_10, e_11, true_or, or_true, false_or, nI_add, z_bi_0, z_bi_1, e_bb, z_uR_s, z_uR_k, z_uL_s, z_uL_k, true_and, and_true, and_self, not_true_eq_false, not_false_eq_true, forall_const, Option.toList, List.cons_append, List.nil_append, List.singleton_append, Nat.reduceAdd, Nat.zero_add, Nat.add_zero, Nat.reduceEqDiff, ↓reduceIte, ite_true, ite_false, reduceCtorEq, Int.cast_ofNat_Int, Int.reduceAdd, Int.reduceToNat, ne_eq, false_imp_iff, true_imp_iff, cl_67, bf_67_0, bf_67_13, bf_67_28, bf_67_56, bf_67_57, bo_67_0, bo_67_13, bo_67_28, bo_67_56, bo_67_57]
        exact ⟨fun q => absurd q (by decide), fun _ => hq⟩
      | some k =>
        obtain ⟨hk, hf⟩ := (f_link_from hI.1 hj hi).mp hl
        rw [if_neg (key.mpr ⟨k, hk, hf, ho, by unfold f_price; rw [hl]; exact if_pos ho⟩)] at hq
        simp only [z_on]
        simp (disch := omega) only [e_q0, e_nil, e_cons, e_q, e_qf, e_qt, e_af, z_hd, z_mk1, z_lg, z_s1, z_s2, z_kl, z_en, z_kI, z_fv, z_ic, z_c1, z_sh, z_pop, z_rc, z_tgt, z_tsw, z_lsw, z_nw, z_ac, o_kI, o_kL, o_ldi, o_ldl, o_lda, o_sti, o_sta, o_stl, o_inc, o_b2, o_bz, o_l2, o_lz, o_ls, o_lneg, o_i2l, o_l2i, o_lcmp, o_dup, o_dupx1, o_dup2, o_if, o_if2, o_ifnull, o_get, o_put, o_iald, o_zald, o_aald, o_alen, o_iast, o_zast, o_aast, o_new, o_newa, o_call, o_call1, o_callN, o_obj, o_reti, o_retl, o_ret, o_tsw, o_lsw, va_rf_s, va_rf_n, z_u2_s, z_u2_k, z_u2_f, z_uR_f, z_uL_f, e_ix, e_vp, e_lt, e_le, e_eq, e_lt0, e_eq0, e_b0, e_b1, e_10, e_11, true_or, or_true, false_or, nI_add, z_bi_0, z_bi_1, e_bb, z_uR_s, z_uR_k, z_uL_s, z_uL_k, true_and, and_true, and_self, not_true_eq_false, not_false_eq_true, forall_const, Option.toList, List.cons_append, List.nil_append, List.singleton_append, Nat.reduceAdd, Nat.zero_add, Nat.add_zero, Nat.reduceEqDiff, ↓reduceIte, ite_true, ite_false, reduceCtorEq, Int.cast_ofNat_Int, Int.reduceAdd, Int.reduceToNat, ne_eq, false_imp_iff, true_imp_iff, cl_67, bf_67_0, bf_67_13, bf_67_28, bf_67_56, bf_67_57, bo_67_0, bo_67_13, bo_67_28, bo_67_56, bo_67_57, s1, s5, q1, q1', z_t4, z_t5, e_ge0]
        refine x_isFeasible (mi := f) (s := A.s) (r := A.r) q1'.1 q1.1 (f2.2.1 j hj) f3 ho ?_
        generalize f_safe A.s A.r i j = bb at hq
        simp (disch := omega) only [e_q0, e_nil, e_cons, e_q, e_qf, e_qt, e_af, z_hd, z_mk1, z_lg, z_s1, z_s2, z_kl, z_en, z_kI, z_fv, z_ic, z_c1, z_sh, z_pop, z_rc, z_tgt, z_tsw, z_lsw, z_nw, z_ac, o_kI, o_kL, o_ldi, o_ldl, o_lda, o_sti, o_sta, o_stl, o_inc, o_b2, o_bz, o_l2, o_lz, o_ls, o_lneg, o_i2l, o_l2i, o_lcmp, o_dup, o_dupx1, o_dup2, o_if, o_if2, o_ifnull, o_get, o_put, o_iald, o_zald, o_aald, o_alen, o_iast, o_zast, o_aast, o_new, o_newa, o_call, o_call1, o_callN, o_obj, o_reti, o_retl, o_ret, o_tsw, o_lsw, va_rf_s, va_rf_n, z_u2_s, z_u2_k, z_u2_f, z_uR_f, z_uL_f, e_ix, e_vp, e_lt, e_le, e_eq, e_lt0, e_eq0, e_b0, e_b1, e_10, e_11, true_or, or_true, false_or, nI_add, z_bi_0, z_bi_1, e_bb, z_uR_s, z_uR_k, z_uL_s, z_uL_k, true_and, and_true, and_self, not_true_eq_false, not_false_eq_true, forall_const, Option.toList, List.cons_append, List.nil_append, List.singleton_append, Nat.reduceAdd, Nat.zero_add, Nat.add_zero, Nat.reduceEqDiff, ↓reduceIte, ite_true, ite_false, reduceCtorEq, Int.cast_ofNat_Int, Int.reduceAdd, Int.reduceToNat, ne_eq, false_imp_iff, true_imp_iff, cl_67, bf_67_0, bf_67_13, bf_67_28, bf_67_56, bf_67_57, bo_67_0, bo_67_13, bo_67_28, bo_67_56, bo_67_57]
        exact ⟨fun c => by rw [c] at hq; exact hq, fun c => by rw [Bool.not_eq_false] at c; rw [c] at hq; exact hq⟩
    · rw [if_neg ho]
      rw [if_pos (no fun k hk hf => ho)] at hq
      simp only [z_on]
      simp (disch := omega) only [e_q0, e_nil, e_cons, e_q, e_qf, e_qt, e_af, z_hd, z_mk1, z_lg, z_s1, z_s2, z_kl, z_en, z_kI, z_fv, z_ic, z_c1, z_sh, z_pop, z_rc, z_tgt, z_tsw, z_lsw, z_nw, z_ac, o_kI, o_kL, o_ldi, o_ldl, o_lda, o_sti, o_sta, o_stl, o_inc, o_b2, o_bz, o_l2, o_lz, o_ls, o_lneg, o_i2l, o_l2i, o_lcmp, o_dup, o_dupx1, o_dup2, o_if, o_if2, o_ifnull, o_get, o_put, o_iald, o_zald, o_aald, o_alen, o_iast, o_zast, o_aast, o_new, o_newa, o_call, o_call1, o_callN, o_obj, o_reti, o_retl, o_ret, o_tsw, o_lsw, va_rf_s, va_rf_n, z_u2_s, z_u2_k, z_u2_f, z_uR_f, z_uL_f, e_ix, e_vp, e_lt, e_le, e_eq, e_lt0, e_eq0, e_b0, e_b1, e_10, e_11, true_or, or_true, false_or, nI_add, z_bi_0, z_bi_1, e_bb, z_uR_s, z_uR_k, z_uL_s, z_uL_k, true_and, and_true, and_self, not_true_eq_false, not_false_eq_true, forall_const, Option.toList, List.cons_append, List.nil_append, List.singleton_append, Nat.reduceAdd, Nat.zero_add, Nat.add_zero, Nat.reduceEqDiff, ↓reduceIte, ite_true, ite_false, reduceCtorEq, Int.cast_ofNat_Int, Int.reduceAdd, Int.reduceToNat, ne_eq, false_imp_iff, true_imp_iff, cl_67, bf_67_0, bf_67_13, bf_67_28, bf_67_56, bf_67_57, bo_67_0, bo_67_13, bo_67_28, bo_67_56, bo_67_57]
      exact ⟨fun q => absurd q (by decide), fun _ => hq⟩
  · simp only [if_neg (show ¬ f_noTwo A.s x y = nI 0 from c)] at hQ
    exact hQ _ hP fun _ _ => rfl
theorem c_turn {x : Int32} (hS : SC T mr) (hP : PX A mi ml) (hI : IA A B) (hQ : ∀ f, PX (a_turn A x).2 f ml → (∀ c, 373 ≤ c → f c = mi c) → Q (some (.int (a_turn A x).1)) (f, mr, ml, T)) : z_Ok l G m_MP_turn [.ref 2, .int x] (mi, mr, ml, T) Q := by
  have s1 := hS.1
  have s5 := hS.n
  have h8 := hI.1.1
  unfold a_turn at hQ
  refine z_okN cz_69.1 (by rw [cl_69]; exact Nat.le_of_ble_eq_true rfl) cz_69.2 (z_run ck_69 5 bf_69_0 ?_)
  simp (disch := omega) only [e_q0, e_nil, e_cons, e_q, e_qf, e_qt, e_af, z_hd, z_mk1, z_lg, z_s1, z_s2, z_kl, z_en, z_kI, z_fv, z_ic, z_c1, z_sh, z_pop, z_rc, z_tgt, z_tsw, z_lsw, z_nw, z_ac, o_kI, o_kL, o_ldi, o_ldl, o_lda, o_sti, o_sta, o_stl, o_inc, o_b2, o_bz, o_l2, o_lz, o_ls, o_lneg, o_i2l, o_l2i, o_lcmp, o_dup, o_dupx1, o_dup2, o_if, o_if2, o_ifnull, o_get, o_put, o_iald, o_zald, o_aald, o_alen, o_iast, o_zast, o_aast, o_new, o_newa, o_call, o_call1, o_callN, o_obj, o_reti, o_retl, o_ret, o_tsw, o_lsw, va_rf_s, va_rf_n, z_u2_s, z_u2_k, z_u2_f, z_uR_f, z_uL_f, e_ix, e_vp, e_lt, e_le, e_eq, e_lt0, e_eq0, e_b0, e_b1, e_10, e_11, true_or, or_true, false_or, nI_add, z_bi_0, z_bi_1, e_bb, z_uR_s, z_uR_k, z_uL_s, z_uL_k, true_and, and_true, and_self, not_true_eq_false, not_false_eq_true, forall_const, Option.toList, List.cons_append, List.nil_append, List.singleton_append, Nat.reduceAdd, Nat.zero_add, Nat.add_zero, Nat.reduceEqDiff, ↓reduceIte, ite_true, ite_false, reduceCtorEq, Int.cast_ofNat_Int, Int.reduceAdd, Int.reduceToNat, ne_eq, false_imp_iff, true_imp_iff, cl_69, bf_69_0, bf_69_13, bf_69_55, bf_69_56, bo_69_0, bo_69_13, bo_69_55, bo_69_56, s1, s5]
  refine x_hasLink hS.2.1.1 hP.1 ?_
  cases hq : f_idx x A.s.1.2 with
  | false =>
    rw [hq] at hQ
    simp (disch := omega) only [e_q0, e_nil, e_cons, e_q, e_qf, e_qt, e_af, z_hd, z_mk1, z_lg, z_s1, z_s2, z_kl, z_en, z_kI, z_fv, z_ic, z_c1, z_sh, z_pop, z_rc, z_tgt, z_tsw, z_lsw, z_nw, z_ac, o_kI, o_kL, o_ldi, o_ldl, o_lda, o_sti, o_sta, o_stl, o_inc, o_b2, o_bz, o_l2, o_lz, o_ls, o_lneg, o_i2l, o_l2i, o_lcmp, o_dup, o_dupx1, o_dup2, o_if, o_if2, o_ifnull, o_get, o_put, o_iald, o_zald, o_aald, o_alen, o_iast, o_zast, o_aast, o_new, o_newa, o_call, o_call1, o_callN, o_obj, o_reti, o_retl, o_ret, o_tsw, o_lsw, va_rf_s, va_rf_n, z_u2_s, z_u2_k, z_u2_f, z_uR_f, z_uL_f, e_ix, e_vp, e_lt, e_le, e_eq, e_lt0, e_eq0, e_b0, e_b1, e_10, e_11, true_or, or_true, false_or, nI_add, z_bi_0, z_bi_1, e_bb, z_uR_s, z_uR_k, z_uL_s, z_uL_k, true_and, and_true, and_self, not_true_eq_false, not_false_eq_true, forall_const, Option.toList, List.cons_append, List.nil_append, List.singleton_append, Nat.reduceAdd, Nat.zero_add, Nat.add_zero, Nat.reduceEqDiff, ↓reduceIte, ite_true, ite_false, reduceCtorEq, Int.cast_ofNat_Int, Int.reduceAdd, Int.reduceToNat, ne_eq, false_imp_iff, true_imp_iff, cl_69, bf_69_0, bf_69_13, bf_69_55, bf_69_56, bo_69_0, bo_69_13, bo_69_55, bo_69_56, s1, s5, z_biF]
    exact hQ _ hP fun _ _ => rfl
  | true =>
    simp only [hq, if_true] at hQ
    obtain ⟨k, hk, rfl⟩ := f_idx_t (by omega) hq
    rw [e_ix (by omega)] at hQ
    simp (disch := omega) only [e_q0, e_nil, e_cons, e_q, e_qf, e_qt, e_af, z_hd, z_mk1, z_lg, z_s1, z_s2, z_kl, z_en, z_kI, z_fv, z_ic, z_c1, z_sh, z_pop, z_rc, z_tgt, z_tsw, z_lsw, z_nw, z_ac, o_kI, o_kL, o_ldi, o_ldl, o_lda, o_sti, o_sta, o_stl, o_inc, o_b2, o_bz, o_l2, o_lz, o_ls, o_lneg, o_i2l, o_l2i, o_lcmp, o_dup, o_dupx1, o_dup2, o_if, o_if2, o_ifnull, o_get, o_put, o_iald, o_zald, o_aald, o_alen, o_iast, o_zast, o_aast, o_new, o_newa, o_call, o_call1, o_callN, o_obj, o_reti, o_retl, o_ret, o_tsw, o_lsw, va_rf_s, va_rf_n, z_u2_s, z_u2_k, z_u2_f, z_uR_f, z_uL_f, e_ix, e_vp, e_lt, e_le, e_eq, e_lt0, e_eq0, e_b0, e_b1, e_10, e_11, true_or, or_true, false_or, nI_add, z_bi_0, z_bi_1, e_bb, z_uR_s, z_uR_k, z_uL_s, z_uL_k, true_and, and_true, and_self, not_true_eq_false, not_false_eq_true, forall_const, Option.toList, List.cons_append, List.nil_append, List.singleton_append, Nat.reduceAdd, Nat.zero_add, Nat.add_zero, Nat.reduceEqDiff, ↓reduceIte, ite_true, ite_false, reduceCtorEq, Int.cast_ofNat_Int, Int.reduceAdd, Int.reduceToNat, ne_eq, false_imp_iff, true_imp_iff, cl_69, bf_69_0, bf_69_13, bf_69_55, bf_69_56, bo_69_0, bo_69_13, bo_69_55, bo_69_56, s1, s5, z_biT]
    refine c_push hS hP hI fun f f1 f2 => ?_
    have q1 : T.1 (16 + k) = (1, 1) ∧ mr 15 k = some (16 + k) := hS.2.1.1.2.2 k (by omega)
    simp (disch := omega) only [e_q0, e_nil, e_cons, e_q, e_qf, e_qt, e_af, z_hd, z_mk1, z_lg, z_s1, z_s2, z_kl, z_en, z_kI, z_fv, z_ic, z_c1, z_sh, z_pop, z_rc, z_tgt, z_tsw, z_lsw, z_nw, z_ac, o_kI, o_kL, o_ldi, o_ldl, o_lda, o_sti, o_sta, o_stl, o_inc, o_b2, o_bz, o_l2, o_lz, o_ls, o_lneg, o_i2l, o_l2i, o_lcmp, o_dup, o_dupx1, o_dup2, o_if, o_if2, o_ifnull, o_get, o_put, o_iald, o_zald, o_aald, o_alen, o_iast, o_zast, o_aast, o_new, o_newa, o_call, o_call1, o_callN, o_obj, o_reti, o_retl, o_ret, o_tsw, o_lsw, va_rf_s, va_rf_n, z_u2_s, z_u2_k, z_u2_f, z_uR_f, z_uL_f, e_ix, e_vp, e_lt, e_le, e_eq, e_lt0, e_eq0, e_b0, e_b1, e_10, e_11, true_or, or_true, false_or, nI_add, z_bi_0, z_bi_1, e_bb, z_uR_s, z_uR_k, z_uL_s, z_uL_k, true_and, and_true, and_self, not_true_eq_false, not_false_eq_true, forall_const, Option.toList, List.cons_append, List.nil_append, List.singleton_append, Nat.reduceAdd, Nat.zero_add, Nat.add_zero, Nat.reduceEqDiff, ↓reduceIte, ite_true, ite_false, reduceCtorEq, Int.cast_ofNat_Int, Int.reduceAdd, Int.reduceToNat, ne_eq, false_imp_iff, true_imp_iff, cl_69, bf_69_0, bf_69_13, bf_69_55, bf_69_56, bo_69_0, bo_69_13, bo_69_55, bo_69_56, s1, s5, q1, z_t5]
    have hd := hI.2.1.2.2.1 k hk
    have key : ∀ b : Bool, A.r (58 + k) = z_bi b → z_bi (!b) = nI 1 - A.r (58 + k) := fun b e => by rw [e]; cases b <;> decide
    obtain ⟨b, hb⟩ : ∃ b : Bool, A.r (58 + k) = z_bi b := hd.elim (fun e => ⟨false, e⟩) (fun e => ⟨true, e⟩)
    have key := key b hb
    have q6 : f (16 + k) 6 = z_bi b := by rw [← hb]; exact (f1.1.2.2 k hk).2.2.2.2.2.2
    refine x_flip q1.1 q6 ?_
    have q7 : z_u2 f (16 + k) 6 (z_bi (!b)) (16 + k) 6 = z_bi (!b) := z_u2_s
    simp (disch := omega) only [e_q0, e_nil, e_cons, e_q, e_qf, e_qt, e_af, z_hd, z_mk1, z_lg, z_s1, z_s2, z_kl, z_en, z_kI, z_fv, z_ic, z_c1, z_sh, z_pop, z_rc, z_tgt, z_tsw, z_lsw, z_nw, z_ac, o_kI, o_kL, o_ldi, o_ldl, o_lda, o_sti, o_sta, o_stl, o_inc, o_b2, o_bz, o_l2, o_lz, o_ls, o_lneg, o_i2l, o_l2i, o_lcmp, o_dup, o_dupx1, o_dup2, o_if, o_if2, o_ifnull, o_get, o_put, o_iald, o_zald, o_aald, o_alen, o_iast, o_zast, o_aast, o_new, o_newa, o_call, o_call1, o_callN, o_obj, o_reti, o_retl, o_ret, o_tsw, o_lsw, va_rf_s, va_rf_n, z_u2_s, z_u2_k, z_u2_f, z_uR_f, z_uL_f, e_ix, e_vp, e_lt, e_le, e_eq, e_lt0, e_eq0, e_b0, e_b1, e_10, e_11, true_or, or_true, false_or, nI_add, z_bi_0, z_bi_1, e_bb, z_uR_s, z_uR_k, z_uL_s, z_uL_k, true_and, and_true, and_self, not_true_eq_false, not_false_eq_true, forall_const, Option.toList, List.cons_append, List.nil_append, List.singleton_append, Nat.reduceAdd, Nat.zero_add, Nat.add_zero, Nat.reduceEqDiff, ↓reduceIte, ite_true, ite_false, reduceCtorEq, Int.cast_ofNat_Int, Int.reduceAdd, Int.reduceToNat, ne_eq, false_imp_iff, true_imp_iff, cl_69, bf_69_0, bf_69_13, bf_69_55, bf_69_56, bo_69_0, bo_69_13, bo_69_55, bo_69_56, s1, s5, q1, z_t5, q7]
    have hq := hQ (z_u2 f (16 + k) 6 (z_bi (!b))) (PX.row f1 h8 (fun c _ c2 => z_u2_f (by omega)) (by rw [key]; exact MX.tn f1.1 h8 hk)) fun c hc => by rw [z_u2_f (by omega)]; exact f2 c hc
    rw [← key] at hq
    cases b with
    | false => exact ⟨fun c => (by cases c), fun _ => hq⟩
    | true => exact ⟨fun _ => hq, fun c => absurd rfl c⟩
theorem c_lose {x v : Int32} {b : Bool} (hS : SC T mr) (hP : PX A mi ml) (hI : IA A B) (hQ : ∀ f, PX (a_lose A x (z_bi b) v).2 f ml → (∀ c, 373 ≤ c → f c = mi c) → Q (some (.int (a_lose A x (z_bi b) v).1)) (f, mr, ml, T)) : z_Ok l G m_MP_lose [.ref 2, .int x, .int (z_bi b), .int v] (mi, mr, ml, T) Q := by
  have s1 := hS.1
  have s5 := hS.n
  have h8 := hI.1.1
  unfold a_lose at hQ
  refine z_okN cz_70.1 (by rw [cl_70]; exact Nat.le_of_ble_eq_true rfl) cz_70.2 (z_run ck_70 4 bf_70_0 ?_)
  simp (disch := omega) only [e_q0, e_nil, e_cons, e_q, e_qf, e_qt, e_af, z_hd, z_mk1, z_lg, z_s1, z_s2, z_kl, z_en, z_kI, z_fv, z_ic, z_c1, z_sh, z_pop, z_rc, z_tgt, z_tsw, z_lsw, z_nw, z_ac, o_kI, o_kL, o_ldi, o_ldl, o_lda, o_sti, o_sta, o_stl, o_inc, o_b2, o_bz, o_l2, o_lz, o_ls, o_lneg, o_i2l, o_l2i, o_lcmp, o_dup, o_dupx1, o_dup2, o_if, o_if2, o_ifnull, o_get, o_put, o_iald, o_zald, o_aald, o_alen, o_iast, o_zast, o_aast, o_new, o_newa, o_call, o_call1, o_callN, o_obj, o_reti, o_retl, o_ret, o_tsw, o_lsw, va_rf_s, va_rf_n, z_u2_s, z_u2_k, z_u2_f, z_uR_f, z_uL_f, e_ix, e_vp, e_lt, e_le, e_eq, e_lt0, e_eq0, e_b0, e_b1, e_10, e_11, true_or, or_true, false_or, nI_add, z_bi_0, z_bi_1, e_bb, z_uR_s, z_uR_k, z_uL_s, z_uL_k, true_and, and_true, and_self, not_true_eq_false, not_false_eq_true, forall_const, Option.toList, List.cons_append, List.nil_append, List.singleton_append, Nat.reduceAdd, Nat.zero_add, Nat.add_zero, Nat.reduceEqDiff, ↓reduceIte, ite_true, ite_false, reduceCtorEq, Int.cast_ofNat_Int, Int.reduceAdd, Int.reduceToNat, ne_eq, false_imp_iff, true_imp_iff, cl_70, bf_70_0, bf_70_13, bf_70_26, bo_70_0, bo_70_13, bo_70_26, s1, s5]
  refine x_hasLink hS.2.1.1 hP.1 ?_
  cases hq : f_idx x A.s.1.2 with
  | false =>
    rw [hq] at hQ
    simp (disch := omega) only [e_q0, e_nil, e_cons, e_q, e_qf, e_qt, e_af, z_hd, z_mk1, z_lg, z_s1, z_s2, z_kl, z_en, z_kI, z_fv, z_ic, z_c1, z_sh, z_pop, z_rc, z_tgt, z_tsw, z_lsw, z_nw, z_ac, o_kI, o_kL, o_ldi, o_ldl, o_lda, o_sti, o_sta, o_stl, o_inc, o_b2, o_bz, o_l2, o_lz, o_ls, o_lneg, o_i2l, o_l2i, o_lcmp, o_dup, o_dupx1, o_dup2, o_if, o_if2, o_ifnull, o_get, o_put, o_iald, o_zald, o_aald, o_alen, o_iast, o_zast, o_aast, o_new, o_newa, o_call, o_call1, o_callN, o_obj, o_reti, o_retl, o_ret, o_tsw, o_lsw, va_rf_s, va_rf_n, z_u2_s, z_u2_k, z_u2_f, z_uR_f, z_uL_f, e_ix, e_vp, e_lt, e_le, e_eq, e_lt0, e_eq0, e_b0, e_b1, e_10, e_11, true_or, or_true, false_or, nI_add, z_bi_0, z_bi_1, e_bb, z_uR_s, z_uR_k, z_uL_s, z_uL_k, true_and, and_true, and_self, not_true_eq_false, not_false_eq_true, forall_const, Option.toList, List.cons_append, List.nil_append, List.singleton_append, Nat.reduceAdd, Nat.zero_add, Nat.add_zero, Nat.reduceEqDiff, ↓reduceIte, ite_true, ite_false, reduceCtorEq, Int.cast_ofNat_Int, Int.reduceAdd, Int.reduceToNat, ne_eq, false_imp_iff, true_imp_iff, cl_70, bf_70_0, bf_70_13, bf_70_26, bo_70_0, bo_70_13, bo_70_26, s1, s5, z_biF]
    exact hQ _ hP fun _ _ => rfl
  | true =>
    simp only [hq, if_true] at hQ
    obtain ⟨k, hk, rfl⟩ := f_idx_t (by omega) hq
    rw [e_ix (by omega)] at hQ
    simp (disch := omega) only [e_q0, e_nil, e_cons, e_q, e_qf, e_qt, e_af, z_hd, z_mk1, z_lg, z_s1, z_s2, z_kl, z_en, z_kI, z_fv, z_ic, z_c1, z_sh, z_pop, z_rc, z_tgt, z_tsw, z_lsw, z_nw, z_ac, o_kI, o_kL, o_ldi, o_ldl, o_lda, o_sti, o_sta, o_stl, o_inc, o_b2, o_bz, o_l2, o_lz, o_ls, o_lneg, o_i2l, o_l2i, o_lcmp, o_dup, o_dupx1, o_dup2, o_if, o_if2, o_ifnull, o_get, o_put, o_iald, o_zald, o_aald, o_alen, o_iast, o_zast, o_aast, o_new, o_newa, o_call, o_call1, o_callN, o_obj, o_reti, o_retl, o_ret, o_tsw, o_lsw, va_rf_s, va_rf_n, z_u2_s, z_u2_k, z_u2_f, z_uR_f, z_uL_f, e_ix, e_vp, e_lt, e_le, e_eq, e_lt0, e_eq0, e_b0, e_b1, e_10, e_11, true_or, or_true, false_or, nI_add, z_bi_0, z_bi_1, e_bb, z_uR_s, z_uR_k, z_uL_s, z_uL_k, true_and, and_true, and_self, not_true_eq_false, not_false_eq_true, forall_const, Option.toList, List.cons_append, List.nil_append, List.singleton_append, Nat.reduceAdd, Nat.zero_add, Nat.add_zero, Nat.reduceEqDiff, ↓reduceIte, ite_true, ite_false, reduceCtorEq, Int.cast_ofNat_Int, Int.reduceAdd, Int.reduceToNat, ne_eq, false_imp_iff, true_imp_iff, cl_70, bf_70_0, bf_70_13, bf_70_26, bo_70_0, bo_70_13, bo_70_26, s1, s5, z_biT]
    refine x_isWithin ?_
    cases hq2 : f_in v 0 9 with
    | false =>
      rw [hq2] at hQ
      simp (disch := omega) only [e_q0, e_nil, e_cons, e_q, e_qf, e_qt, e_af, z_hd, z_mk1, z_lg, z_s1, z_s2, z_kl, z_en, z_kI, z_fv, z_ic, z_c1, z_sh, z_pop, z_rc, z_tgt, z_tsw, z_lsw, z_nw, z_ac, o_kI, o_kL, o_ldi, o_ldl, o_lda, o_sti, o_sta, o_stl, o_inc, o_b2, o_bz, o_l2, o_lz, o_ls, o_lneg, o_i2l, o_l2i, o_lcmp, o_dup, o_dupx1, o_dup2, o_if, o_if2, o_ifnull, o_get, o_put, o_iald, o_zald, o_aald, o_alen, o_iast, o_zast, o_aast, o_new, o_newa, o_call, o_call1, o_callN, o_obj, o_reti, o_retl, o_ret, o_tsw, o_lsw, va_rf_s, va_rf_n, z_u2_s, z_u2_k, z_u2_f, z_uR_f, z_uL_f, e_ix, e_vp, e_lt, e_le, e_eq, e_lt0, e_eq0, e_b0, e_b1, e_10, e_11, true_or, or_true, false_or, nI_add, z_bi_0, z_bi_1, e_bb, z_uR_s, z_uR_k, z_uL_s, z_uL_k, true_and, and_true, and_self, not_true_eq_false, not_false_eq_true, forall_const, Option.toList, List.cons_append, List.nil_append, List.singleton_append, Nat.reduceAdd, Nat.zero_add, Nat.add_zero, Nat.reduceEqDiff, ↓reduceIte, ite_true, ite_false, reduceCtorEq, Int.cast_ofNat_Int, Int.reduceAdd, Int.reduceToNat, ne_eq, false_imp_iff, true_imp_iff, cl_70, bf_70_0, bf_70_13, bf_70_26, bo_70_0, bo_70_13, bo_70_26, s1, s5, z_biF]
      exact hQ _ hP fun _ _ => rfl
    | true =>
      simp only [hq2, if_true] at hQ
      obtain ⟨w, _, hw, rfl⟩ := f_in_t (by omega) (by omega) hq2
      simp (disch := omega) only [e_q0, e_nil, e_cons, e_q, e_qf, e_qt, e_af, z_hd, z_mk1, z_lg, z_s1, z_s2, z_kl, z_en, z_kI, z_fv, z_ic, z_c1, z_sh, z_pop, z_rc, z_tgt, z_tsw, z_lsw, z_nw, z_ac, o_kI, o_kL, o_ldi, o_ldl, o_lda, o_sti, o_sta, o_stl, o_inc, o_b2, o_bz, o_l2, o_lz, o_ls, o_lneg, o_i2l, o_l2i, o_lcmp, o_dup, o_dupx1, o_dup2, o_if, o_if2, o_ifnull, o_get, o_put, o_iald, o_zald, o_aald, o_alen, o_iast, o_zast, o_aast, o_new, o_newa, o_call, o_call1, o_callN, o_obj, o_reti, o_retl, o_ret, o_tsw, o_lsw, va_rf_s, va_rf_n, z_u2_s, z_u2_k, z_u2_f, z_uR_f, z_uL_f, e_ix, e_vp, e_lt, e_le, e_eq, e_lt0, e_eq0, e_b0, e_b1, e_10, e_11, true_or, or_true, false_or, nI_add, z_bi_0, z_bi_1, e_bb, z_uR_s, z_uR_k, z_uL_s, z_uL_k, true_and, and_true, and_self, not_true_eq_false, not_false_eq_true, forall_const, Option.toList, List.cons_append, List.nil_append, List.singleton_append, Nat.reduceAdd, Nat.zero_add, Nat.add_zero, Nat.reduceEqDiff, ↓reduceIte, ite_true, ite_false, reduceCtorEq, Int.cast_ofNat_Int, Int.reduceAdd, Int.reduceToNat, ne_eq, false_imp_iff, true_imp_iff, cl_70, bf_70_0, bf_70_13, bf_70_26, bo_70_0, bo_70_13, bo_70_26, s1, s5, z_biT]
      refine c_push hS hP hI fun f f1 f2 => ?_
      have q1 : T.1 (16 + k) = (1, 1) ∧ mr 15 k = some (16 + k) := hS.2.1.1.2.2 k (by omega)
      simp (disch := omega) only [e_q0, e_nil, e_cons, e_q, e_qf, e_qt, e_af, z_hd, z_mk1, z_lg, z_s1, z_s2, z_kl, z_en, z_kI, z_fv, z_ic, z_c1, z_sh, z_pop, z_rc, z_tgt, z_tsw, z_lsw, z_nw, z_ac, o_kI, o_kL, o_ldi, o_ldl, o_lda, o_sti, o_sta, o_stl, o_inc, o_b2, o_bz, o_l2, o_lz, o_ls, o_lneg, o_i2l, o_l2i, o_lcmp, o_dup, o_dupx1, o_dup2, o_if, o_if2, o_ifnull, o_get, o_put, o_iald, o_zald, o_aald, o_alen, o_iast, o_zast, o_aast, o_new, o_newa, o_call, o_call1, o_callN, o_obj, o_reti, o_retl, o_ret, o_tsw, o_lsw, va_rf_s, va_rf_n, z_u2_s, z_u2_k, z_u2_f, z_uR_f, z_uL_f, e_ix, e_vp, e_lt, e_le, e_eq, e_lt0, e_eq0, e_b0, e_b1, e_10, e_11, true_or, or_true, false_or, nI_add, z_bi_0, z_bi_1, e_bb, z_uR_s, z_uR_k, z_uL_s, z_uL_k, true_and, and_true, and_self, not_true_eq_false, not_false_eq_true, forall_const, Option.toList, List.cons_append, List.nil_append, List.singleton_append, Nat.reduceAdd, Nat.zero_add, Nat.add_zero, Nat.reduceEqDiff, ↓reduceIte, ite_true, ite_false, reduceCtorEq, Int.cast_ofNat_Int, Int.reduceAdd, Int.reduceToNat, ne_eq, false_imp_iff, true_imp_iff, cl_70, bf_70_0, bf_70_13, bf_70_26, bo_70_0, bo_70_13, bo_70_26, s1, s5, q1, z_t5]
      obtain ⟨⟨u, hu, e1⟩, u', hu', e2⟩ := hI.2.1.2.1 k hk
      obtain ⟨vv, _, _, e3⟩ := hI.1.2.2.2 k hk
      have lk := f1.1.2.2 k hk
      have hL := hS.2.1.1.2.2 k (by omega)
      refine x_setLoss (mi := f) (x := u) (y := u') (v := vv) hL.1 hu hu' hw (by rw [← e1]; exact lk.2.2.1) (by rw [← e2]; exact lk.2.2.2.1) (by rw [← e3]; exact lk.2.2.2.2.1) fun g g1 g2 g3 g4 g5 => ?_
      have ea : f_air A.s (f_lose A.r (z_bi b) k (nI w)) k = g (5 + 11 + k) 5 := by
        rw [g5]
        unfold f_air f_lose
        rw [e3]
        cases b with
        | false => rw [show (if z_bi false = 0 then 40 else 49) = 40 from rfl, f_set_eq, f_set_ne (by omega), e2]; rfl
        | true => rw [show (if z_bi true = 0 then 40 else 49) = 49 from rfl, f_set_eq, f_set_ne (by omega), e1]; rfl
      have hX : MX g 5 A.s (f_lose A.r (z_bi b) k (nI w)) := by
        refine MX.lk f1.1 h8 hk g1 (fun j h1 h2 h3 => ?_) ?_
        · unfold f_lose
          cases b with
          | false => exact f_set_ne h1
          | true => exact f_set_ne h2
        · unfold LX
          rw [ea, g2 0 (by omega) (by omega) (by omega), g2 1 (by omega) (by omega) (by omega), g2 4 (by omega) (by omega) (by omega), g2 6 (by omega) (by omega) (by omega), g3, g4]
          refine ⟨lk.1, lk.2.1, ?_, ?_, lk.2.2.2.2.1, rfl, ?_⟩
          · unfold f_lose
            cases b with
            | false => exact f_set_eq.symm
            | true => exact ((f_set_ne (show 40 + k ≠ 49 + k by omega)).trans e1).symm
          · unfold f_lose
            cases b with
            | false => exact ((f_set_ne (show 49 + k ≠ 40 + k by omega)).trans e2).symm
            | true => exact f_set_eq.symm
          · unfold f_lose
            cases b with
            | false => exact lk.2.2.2.2.2.2.trans (f_set_ne (show 58 + k ≠ 40 + k by omega)).symm
            | true => exact lk.2.2.2.2.2.2.trans (f_set_ne (show 58 + k ≠ 49 + k by omega)).symm
      have hq := hQ g (PX.row f1 h8 (fun c _ c2 => g1 c (by omega)) hX) fun c hc => by rw [g1 c (by omega)]; exact f2 c hc
      rw [ea] at hq
      simp (disch := omega) only [e_q0, e_nil, e_cons, e_q, e_qf, e_qt, e_af, z_hd, z_mk1, z_lg, z_s1, z_s2, z_kl, z_en, z_kI, z_fv, z_ic, z_c1, z_sh, z_pop, z_rc, z_tgt, z_tsw, z_lsw, z_nw, z_ac, o_kI, o_kL, o_ldi, o_ldl, o_lda, o_sti, o_sta, o_stl, o_inc, o_b2, o_bz, o_l2, o_lz, o_ls, o_lneg, o_i2l, o_l2i, o_lcmp, o_dup, o_dupx1, o_dup2, o_if, o_if2, o_ifnull, o_get, o_put, o_iald, o_zald, o_aald, o_alen, o_iast, o_zast, o_aast, o_new, o_newa, o_call, o_call1, o_callN, o_obj, o_reti, o_retl, o_ret, o_tsw, o_lsw, va_rf_s, va_rf_n, z_u2_s, z_u2_k, z_u2_f, z_uR_f, z_uL_f, e_ix, e_vp, e_lt, e_le, e_eq, e_lt0, e_eq0, e_b0, e_b1, e_10, e_11, true_or, or_true, false_or, nI_add, z_bi_0, z_bi_1, e_bb, z_uR_s, z_uR_k, z_uL_s, z_uL_k, true_and, and_true, and_self, not_true_eq_false, not_false_eq_true, forall_const, Option.toList, List.cons_append, List.nil_append, List.singleton_append, Nat.reduceAdd, Nat.zero_add, Nat.add_zero, Nat.reduceEqDiff, ↓reduceIte, ite_true, ite_false, reduceCtorEq, Int.cast_ofNat_Int, Int.reduceAdd, Int.reduceToNat, ne_eq, false_imp_iff, true_imp_iff, cl_70, bf_70_0, bf_70_13, bf_70_26, bo_70_0, bo_70_13, bo_70_26, s1, s5, q1, z_t5]
      exact hq
theorem c_offset {x v : Int32} (hS : SC T mr) (hP : PX A mi ml) (hI : IA A B) (hQ : ∀ f, PX (a_offset A x v).2 f ml → (∀ c, 373 ≤ c → f c = mi c) → Q (some (.int (a_offset A x v).1)) (f, mr, ml, T)) : z_Ok l G m_MP_offset [.ref 2, .int x, .int v] (mi, mr, ml, T) Q := by
  have s1 := hS.1
  have s5 := hS.n
  have h8 := hI.1.1
  unfold a_offset at hQ
  refine z_okN cz_71.1 (by rw [cl_71]; exact Nat.le_of_ble_eq_true rfl) cz_71.2 (z_run ck_71 4 bf_71_0 ?_)
  simp (disch := omega) only [e_q0, e_nil, e_cons, e_q, e_qf, e_qt, e_af, z_hd, z_mk1, z_lg, z_s1, z_s2, z_kl, z_en, z_kI, z_fv, z_ic, z_c1, z_sh, z_pop, z_rc, z_tgt, z_tsw, z_lsw, z_nw, z_ac, o_kI, o_kL, o_ldi, o_ldl, o_lda, o_sti, o_sta, o_stl, o_inc, o_b2, o_bz, o_l2, o_lz, o_ls, o_lneg, o_i2l, o_l2i, o_lcmp, o_dup, o_dupx1, o_dup2, o_if, o_if2, o_ifnull, o_get, o_put, o_iald, o_zald, o_aald, o_alen, o_iast, o_zast, o_aast, o_new, o_newa, o_call, o_call1, o_callN, o_obj, o_reti, o_retl, o_ret, o_tsw, o_lsw, va_rf_s, va_rf_n, z_u2_s, z_u2_k, z_u2_f, z_uR_f, z_uL_f, e_ix, e_vp, e_lt, e_le, e_eq, e_lt0, e_eq0, e_b0, e_b1, e_10, e_11, true_or, or_true, false_or, nI_add, z_bi_0, z_bi_1, e_bb, z_uR_s, z_uR_k, z_uL_s, z_uL_k, true_and, and_true, and_self, not_true_eq_false, not_false_eq_true, forall_const, Option.toList, List.cons_append, List.nil_append, List.singleton_append, Nat.reduceAdd, Nat.zero_add, Nat.add_zero, Nat.reduceEqDiff, ↓reduceIte, ite_true, ite_false, reduceCtorEq, Int.cast_ofNat_Int, Int.reduceAdd, Int.reduceToNat, ne_eq, false_imp_iff, true_imp_iff, cl_71, bf_71_0, bf_71_13, bf_71_26, bo_71_0, bo_71_13, bo_71_26, s1, s5]
  refine x_isGateway hS.2.1.1 hP.1 h8.1 ?_
  cases hq : f_gate A.s x with
  | false =>
    rw [hq] at hQ
    simp (disch := omega) only [e_q0, e_nil, e_cons, e_q, e_qf, e_qt, e_af, z_hd, z_mk1, z_lg, z_s1, z_s2, z_kl, z_en, z_kI, z_fv, z_ic, z_c1, z_sh, z_pop, z_rc, z_tgt, z_tsw, z_lsw, z_nw, z_ac, o_kI, o_kL, o_ldi, o_ldl, o_lda, o_sti, o_sta, o_stl, o_inc, o_b2, o_bz, o_l2, o_lz, o_ls, o_lneg, o_i2l, o_l2i, o_lcmp, o_dup, o_dupx1, o_dup2, o_if, o_if2, o_ifnull, o_get, o_put, o_iald, o_zald, o_aald, o_alen, o_iast, o_zast, o_aast, o_new, o_newa, o_call, o_call1, o_callN, o_obj, o_reti, o_retl, o_ret, o_tsw, o_lsw, va_rf_s, va_rf_n, z_u2_s, z_u2_k, z_u2_f, z_uR_f, z_uL_f, e_ix, e_vp, e_lt, e_le, e_eq, e_lt0, e_eq0, e_b0, e_b1, e_10, e_11, true_or, or_true, false_or, nI_add, z_bi_0, z_bi_1, e_bb, z_uR_s, z_uR_k, z_uL_s, z_uL_k, true_and, and_true, and_self, not_true_eq_false, not_false_eq_true, forall_const, Option.toList, List.cons_append, List.nil_append, List.singleton_append, Nat.reduceAdd, Nat.zero_add, Nat.add_zero, Nat.reduceEqDiff, ↓reduceIte, ite_true, ite_false, reduceCtorEq, Int.cast_ofNat_Int, Int.reduceAdd, Int.reduceToNat, ne_eq, false_imp_iff, true_imp_iff, cl_71, bf_71_0, bf_71_13, bf_71_26, bo_71_0, bo_71_13, bo_71_26, s1, s5, z_biF]
    exact hQ _ hP fun _ _ => rfl
  | true =>
    simp only [hq, if_true] at hQ
    obtain ⟨k, hk, rfl, h0⟩ := f_gate_t (by omega) hq
    rw [e_ix (by omega)] at hQ
    simp (disch := omega) only [e_q0, e_nil, e_cons, e_q, e_qf, e_qt, e_af, z_hd, z_mk1, z_lg, z_s1, z_s2, z_kl, z_en, z_kI, z_fv, z_ic, z_c1, z_sh, z_pop, z_rc, z_tgt, z_tsw, z_lsw, z_nw, z_ac, o_kI, o_kL, o_ldi, o_ldl, o_lda, o_sti, o_sta, o_stl, o_inc, o_b2, o_bz, o_l2, o_lz, o_ls, o_lneg, o_i2l, o_l2i, o_lcmp, o_dup, o_dupx1, o_dup2, o_if, o_if2, o_ifnull, o_get, o_put, o_iald, o_zald, o_aald, o_alen, o_iast, o_zast, o_aast, o_new, o_newa, o_call, o_call1, o_callN, o_obj, o_reti, o_retl, o_ret, o_tsw, o_lsw, va_rf_s, va_rf_n, z_u2_s, z_u2_k, z_u2_f, z_uR_f, z_uL_f, e_ix, e_vp, e_lt, e_le, e_eq, e_lt0, e_eq0, e_b0, e_b1, e_10, e_11, true_or, or_true, false_or, nI_add, z_bi_0, z_bi_1, e_bb, z_uR_s, z_uR_k, z_uL_s, z_uL_k, true_and, and_true, and_self, not_true_eq_false, not_false_eq_true, forall_const, Option.toList, List.cons_append, List.nil_append, List.singleton_append, Nat.reduceAdd, Nat.zero_add, Nat.add_zero, Nat.reduceEqDiff, ↓reduceIte, ite_true, ite_false, reduceCtorEq, Int.cast_ofNat_Int, Int.reduceAdd, Int.reduceToNat, ne_eq, false_imp_iff, true_imp_iff, cl_71, bf_71_0, bf_71_13, bf_71_26, bo_71_0, bo_71_13, bo_71_26, s1, s5, z_biT]
    refine x_isWithin ?_
    cases hq2 : f_in v 0 9 with
    | false =>
      rw [hq2] at hQ
      simp (disch := omega) only [e_q0, e_nil, e_cons, e_q, e_qf, e_qt, e_af, z_hd, z_mk1, z_lg, z_s1, z_s2, z_kl, z_en, z_kI, z_fv, z_ic, z_c1, z_sh, z_pop, z_rc, z_tgt, z_tsw, z_lsw, z_nw, z_ac, o_kI, o_kL, o_ldi, o_ldl, o_lda, o_sti, o_sta, o_stl, o_inc, o_b2, o_bz, o_l2, o_lz, o_ls, o_lneg, o_i2l, o_l2i, o_lcmp, o_dup, o_dupx1, o_dup2, o_if, o_if2, o_ifnull, o_get, o_put, o_iald, o_zald, o_aald, o_alen, o_iast, o_zast, o_aast, o_new, o_newa, o_call, o_call1, o_callN, o_obj, o_reti, o_retl, o_ret, o_tsw, o_lsw, va_rf_s, va_rf_n, z_u2_s, z_u2_k, z_u2_f, z_uR_f, z_uL_f, e_ix, e_vp, e_lt, e_le, e_eq, e_lt0, e_eq0, e_b0, e_b1, e_10, e_11, true_or, or_true, false_or, nI_add, z_bi_0, z_bi_1, e_bb, z_uR_s, z_uR_k, z_uL_s, z_uL_k, true_and, and_true, and_self, not_true_eq_false, not_false_eq_true, forall_const, Option.toList, List.cons_append, List.nil_append, List.singleton_append, Nat.reduceAdd, Nat.zero_add, Nat.add_zero, Nat.reduceEqDiff, ↓reduceIte, ite_true, ite_false, reduceCtorEq, Int.cast_ofNat_Int, Int.reduceAdd, Int.reduceToNat, ne_eq, false_imp_iff, true_imp_iff, cl_71, bf_71_0, bf_71_13, bf_71_26, bo_71_0, bo_71_13, bo_71_26, s1, s5, z_biF]
      exact hQ _ hP fun _ _ => rfl
    | true =>
      simp only [hq2, if_true] at hQ
      simp (disch := omega) only [e_q0, e_nil, e_cons, e_q, e_qf, e_qt, e_af, z_hd, z_mk1, z_lg, z_s1, z_s2, z_kl, z_en, z_kI, z_fv, z_ic, z_c1, z_sh, z_pop, z_rc, z_tgt, z_tsw, z_lsw, z_nw, z_ac, o_kI, o_kL, o_ldi, o_ldl, o_lda, o_sti, o_sta, o_stl, o_inc, o_b2, o_bz, o_l2, o_lz, o_ls, o_lneg, o_i2l, o_l2i, o_lcmp, o_dup, o_dupx1, o_dup2, o_if, o_if2, o_ifnull, o_get, o_put, o_iald, o_zald, o_aald, o_alen, o_iast, o_zast, o_aast, o_new, o_newa, o_call, o_call1, o_callN, o_obj, o_reti, o_retl, o_ret, o_tsw, o_lsw, va_rf_s, va_rf_n, z_u2_s, z_u2_k, z_u2_f, z_uR_f, z_uL_f, e_ix, e_vp, e_lt, e_le, e_eq, e_lt0, e_eq0, e_b0, e_b1, e_10, e_11, true_or, or_true, false_or, nI_add, z_bi_0, z_bi_1, e_bb, z_uR_s, z_uR_k, z_uL_s, z_uL_k, true_and, and_true, and_self, not_true_eq_false, not_false_eq_true, forall_const, Option.toList, List.cons_append, List.nil_append, List.singleton_append, Nat.reduceAdd, Nat.zero_add, Nat.add_zero, Nat.reduceEqDiff, ↓reduceIte, ite_true, ite_false, reduceCtorEq, Int.cast_ofNat_Int, Int.reduceAdd, Int.reduceToNat, ne_eq, false_imp_iff, true_imp_iff, cl_71, bf_71_0, bf_71_13, bf_71_26, bo_71_0, bo_71_13, bo_71_26, s1, s5, z_biT]
      refine c_push hS hP hI fun f f1 f2 => ?_
      have q1 : T.1 (7 + k) = (1, 3) ∧ mr 6 k = some (7 + k) := hS.2.1.1.2.1 k (by omega)
      have q2 : f (7 + k) 1 = A.r (67 + k) := (f1.1.2.1 k hk).1.2.1
      simp (disch := omega) only [e_q0, e_nil, e_cons, e_q, e_qf, e_qt, e_af, z_hd, z_mk1, z_lg, z_s1, z_s2, z_kl, z_en, z_kI, z_fv, z_ic, z_c1, z_sh, z_pop, z_rc, z_tgt, z_tsw, z_lsw, z_nw, z_ac, o_kI, o_kL, o_ldi, o_ldl, o_lda, o_sti, o_sta, o_stl, o_inc, o_b2, o_bz, o_l2, o_lz, o_ls, o_lneg, o_i2l, o_l2i, o_lcmp, o_dup, o_dupx1, o_dup2, o_if, o_if2, o_ifnull, o_get, o_put, o_iald, o_zald, o_aald, o_alen, o_iast, o_zast, o_aast, o_new, o_newa, o_call, o_call1, o_callN, o_obj, o_reti, o_retl, o_ret, o_tsw, o_lsw, va_rf_s, va_rf_n, z_u2_s, z_u2_k, z_u2_f, z_uR_f, z_uL_f, e_ix, e_vp, e_lt, e_le, e_eq, e_lt0, e_eq0, e_b0, e_b1, e_10, e_11, true_or, or_true, false_or, nI_add, z_bi_0, z_bi_1, e_bb, z_uR_s, z_uR_k, z_uL_s, z_uL_k, true_and, and_true, and_self, not_true_eq_false, not_false_eq_true, forall_const, Option.toList, List.cons_append, List.nil_append, List.singleton_append, Nat.reduceAdd, Nat.zero_add, Nat.add_zero, Nat.reduceEqDiff, ↓reduceIte, ite_true, ite_false, reduceCtorEq, Int.cast_ofNat_Int, Int.reduceAdd, Int.reduceToNat, ne_eq, false_imp_iff, true_imp_iff, cl_71, bf_71_0, bf_71_13, bf_71_26, bo_71_0, bo_71_13, bo_71_26, s1, s5, q1, q2, z_t4]
      exact hQ _ (PX.row f1 h8 (fun c _ c2 => z_u2_f (by omega)) (MX.nd f1.1 h8 hk)) fun c hc => by rw [z_u2_f (by omega)]; exact f2 c hc
theorem c_margin {v : Int32} (hS : SC T mr) (hP : PX A mi ml) (hI : IA A B) (hQ : ∀ f, PX (a_margin A v).2 f ml → (∀ c, 373 ≤ c → f c = mi c) → Q (some (.int (a_margin A v).1)) (f, mr, ml, T)) : z_Ok l G m_MP_margin [.ref 2, .int v] (mi, mr, ml, T) Q := by
  have s1 := hS.1
  have s5 := hS.n
  have h8 := hI.1.1
  unfold a_margin at hQ
  refine z_okN cz_72.1 (by rw [cl_72]; exact Nat.le_of_ble_eq_true rfl) cz_72.2 (z_run ck_72 3 bf_72_0 ?_)
  simp (disch := omega) only [e_q0, e_nil, e_cons, e_q, e_qf, e_qt, e_af, z_hd, z_mk1, z_lg, z_s1, z_s2, z_kl, z_en, z_kI, z_fv, z_ic, z_c1, z_sh, z_pop, z_rc, z_tgt, z_tsw, z_lsw, z_nw, z_ac, o_kI, o_kL, o_ldi, o_ldl, o_lda, o_sti, o_sta, o_stl, o_inc, o_b2, o_bz, o_l2, o_lz, o_ls, o_lneg, o_i2l, o_l2i, o_lcmp, o_dup, o_dupx1, o_dup2, o_if, o_if2, o_ifnull, o_get, o_put, o_iald, o_zald, o_aald, o_alen, o_iast, o_zast, o_aast, o_new, o_newa, o_call, o_call1, o_callN, o_obj, o_reti, o_retl, o_ret, o_tsw, o_lsw, va_rf_s, va_rf_n, z_u2_s, z_u2_k, z_u2_f, z_uR_f, z_uL_f, e_ix, e_vp, e_lt, e_le, e_eq, e_lt0, e_eq0, e_b0, e_b1, e_10, e_11, true_or, or_true, false_or, nI_add, z_bi_0, z_bi_1, e_bb, z_uR_s, z_uR_k, z_uL_s, z_uL_k, true_and, and_true, and_self, not_true_eq_false, not_false_eq_true, forall_const, Option.toList, List.cons_append, List.nil_append, List.singleton_append, Nat.reduceAdd, Nat.zero_add, Nat.add_zero, Nat.reduceEqDiff, ↓reduceIte, ite_true, ite_false, reduceCtorEq, Int.cast_ofNat_Int, Int.reduceAdd, Int.reduceToNat, ne_eq, false_imp_iff, true_imp_iff, cl_72, bf_72_0, bf_72_13, bo_72_0, bo_72_13, s1, s5]
  refine x_isWithin ?_
  cases hq2 : f_in v 0 9 with
  | false =>
    rw [hq2] at hQ
    simp (disch := omega) only [e_q0, e_nil, e_cons, e_q, e_qf, e_qt, e_af, z_hd, z_mk1, z_lg, z_s1, z_s2, z_kl, z_en, z_kI, z_fv, z_ic, z_c1, z_sh, z_pop, z_rc, z_tgt, z_tsw, z_lsw, z_nw, z_ac, o_kI, o_kL, o_ldi, o_ldl, o_lda, o_sti, o_sta, o_stl, o_inc, o_b2, o_bz, o_l2, o_lz, o_ls, o_lneg, o_i2l, o_l2i, o_lcmp, o_dup, o_dupx1, o_dup2, o_if, o_if2, o_ifnull, o_get, o_put, o_iald, o_zald, o_aald, o_alen, o_iast, o_zast, o_aast, o_new, o_newa, o_call, o_call1, o_callN, o_obj, o_reti, o_retl, o_ret, o_tsw, o_lsw, va_rf_s, va_rf_n, z_u2_s, z_u2_k, z_u2_f, z_uR_f, z_uL_f, e_ix, e_vp, e_lt, e_le, e_eq, e_lt0, e_eq0, e_b0, e_b1, e_10, e_11, true_or, or_true, false_or, nI_add, z_bi_0, z_bi_1, e_bb, z_uR_s, z_uR_k, z_uL_s, z_uL_k, true_and, and_true, and_self, not_true_eq_false, not_false_eq_true, forall_const, Option.toList, List.cons_append, List.nil_append, List.singleton_append, Nat.reduceAdd, Nat.zero_add, Nat.add_zero, Nat.reduceEqDiff, ↓reduceIte, ite_true, ite_false, reduceCtorEq, Int.cast_ofNat_Int, Int.reduceAdd, Int.reduceToNat, ne_eq, false_imp_iff, true_imp_iff, cl_72, bf_72_0, bf_72_13, bo_72_0, bo_72_13, s1, s5, z_biF]
    exact hQ _ hP fun _ _ => rfl
  | true =>
    simp only [hq2, if_true] at hQ
    simp (disch := omega) only [e_q0, e_nil, e_cons, e_q, e_qf, e_qt, e_af, z_hd, z_mk1, z_lg, z_s1, z_s2, z_kl, z_en, z_kI, z_fv, z_ic, z_c1, z_sh, z_pop, z_rc, z_tgt, z_tsw, z_lsw, z_nw, z_ac, o_kI, o_kL, o_ldi, o_ldl, o_lda, o_sti, o_sta, o_stl, o_inc, o_b2, o_bz, o_l2, o_lz, o_ls, o_lneg, o_i2l, o_l2i, o_lcmp, o_dup, o_dupx1, o_dup2, o_if, o_if2, o_ifnull, o_get, o_put, o_iald, o_zald, o_aald, o_alen, o_iast, o_zast, o_aast, o_new, o_newa, o_call, o_call1, o_callN, o_obj, o_reti, o_retl, o_ret, o_tsw, o_lsw, va_rf_s, va_rf_n, z_u2_s, z_u2_k, z_u2_f, z_uR_f, z_uL_f, e_ix, e_vp, e_lt, e_le, e_eq, e_lt0, e_eq0, e_b0, e_b1, e_10, e_11, true_or, or_true, false_or, nI_add, z_bi_0, z_bi_1, e_bb, z_uR_s, z_uR_k, z_uL_s, z_uL_k, true_and, and_true, and_self, not_true_eq_false, not_false_eq_true, forall_const, Option.toList, List.cons_append, List.nil_append, List.singleton_append, Nat.reduceAdd, Nat.zero_add, Nat.add_zero, Nat.reduceEqDiff, ↓reduceIte, ite_true, ite_false, reduceCtorEq, Int.cast_ofNat_Int, Int.reduceAdd, Int.reduceToNat, ne_eq, false_imp_iff, true_imp_iff, cl_72, bf_72_0, bf_72_13, bo_72_0, bo_72_13, s1, s5, z_biT]
    refine c_push hS hP hI fun f f1 f2 => ?_
    have q2 : f 5 4 = A.r 75 := f1.1.1.2.2.1
    simp (disch := omega) only [e_q0, e_nil, e_cons, e_q, e_qf, e_qt, e_af, z_hd, z_mk1, z_lg, z_s1, z_s2, z_kl, z_en, z_kI, z_fv, z_ic, z_c1, z_sh, z_pop, z_rc, z_tgt, z_tsw, z_lsw, z_nw, z_ac, o_kI, o_kL, o_ldi, o_ldl, o_lda, o_sti, o_sta, o_stl, o_inc, o_b2, o_bz, o_l2, o_lz, o_ls, o_lneg, o_i2l, o_l2i, o_lcmp, o_dup, o_dupx1, o_dup2, o_if, o_if2, o_ifnull, o_get, o_put, o_iald, o_zald, o_aald, o_alen, o_iast, o_zast, o_aast, o_new, o_newa, o_call, o_call1, o_callN, o_obj, o_reti, o_retl, o_ret, o_tsw, o_lsw, va_rf_s, va_rf_n, z_u2_s, z_u2_k, z_u2_f, z_uR_f, z_uL_f, e_ix, e_vp, e_lt, e_le, e_eq, e_lt0, e_eq0, e_b0, e_b1, e_10, e_11, true_or, or_true, false_or, nI_add, z_bi_0, z_bi_1, e_bb, z_uR_s, z_uR_k, z_uL_s, z_uL_k, true_and, and_true, and_self, not_true_eq_false, not_false_eq_true, forall_const, Option.toList, List.cons_append, List.nil_append, List.singleton_append, Nat.reduceAdd, Nat.zero_add, Nat.add_zero, Nat.reduceEqDiff, ↓reduceIte, ite_true, ite_false, reduceCtorEq, Int.cast_ofNat_Int, Int.reduceAdd, Int.reduceToNat, ne_eq, false_imp_iff, true_imp_iff, cl_72, bf_72_0, bf_72_13, bo_72_0, bo_72_13, s1, s5, q2]
    exact hQ _ (PX.row f1 h8 (fun c _ c2 => z_u2_f (by omega)) (MX.mg f1.1 h8)) fun c hc => by rw [z_u2_f (by omega)]; exact f2 c hc
theorem c_undo (hS : SC T mr) (hP : PX A mi ml) (hI : IA A B) (hQ : ∀ f, PX (a_undo A).2 f ml → (∀ c, 373 ≤ c → f c = mi c) → Q (some (.int (a_undo A).1)) (f, mr, ml, T)) : z_Ok l G m_MP_undo [.ref 2] (mi, mr, ml, T) Q := by
  have s1 := hS.1
  have s5 := hS.n
  have h8 := hI.1.1
  have h3 := hP.2.2.1.1
  have h4 := hP.2.2.1.2.1
  refine z_okN cz_73.1 (by rw [cl_73]; exact Nat.le_of_ble_eq_true rfl) cz_73.2 (z_run ck_73 3 bf_73_0 ?_)
  simp (disch := omega) only [e_q0, e_nil, e_cons, e_q, e_qf, e_qt, e_af, z_hd, z_mk1, z_lg, z_s1, z_s2, z_kl, z_en, z_kI, z_fv, z_ic, z_c1, z_sh, z_pop, z_rc, z_tgt, z_tsw, z_lsw, z_nw, z_ac, o_kI, o_kL, o_ldi, o_ldl, o_lda, o_sti, o_sta, o_stl, o_inc, o_b2, o_bz, o_l2, o_lz, o_ls, o_lneg, o_i2l, o_l2i, o_lcmp, o_dup, o_dupx1, o_dup2, o_if, o_if2, o_ifnull, o_get, o_put, o_iald, o_zald, o_aald, o_alen, o_iast, o_zast, o_aast, o_new, o_newa, o_call, o_call1, o_callN, o_obj, o_reti, o_retl, o_ret, o_tsw, o_lsw, va_rf_s, va_rf_n, z_u2_s, z_u2_k, z_u2_f, z_uR_f, z_uL_f, e_ix, e_vp, e_lt, e_le, e_eq, e_lt0, e_eq0, e_b0, e_b1, e_10, e_11, true_or, or_true, false_or, nI_add, z_bi_0, z_bi_1, e_bb, z_uR_s, z_uR_k, z_uL_s, z_uL_k, true_and, and_true, and_self, not_true_eq_false, not_false_eq_true, forall_const, Option.toList, List.cons_append, List.nil_append, List.singleton_append, Nat.reduceAdd, Nat.zero_add, Nat.add_zero, Nat.reduceEqDiff, ↓reduceIte, ite_true, ite_false, reduceCtorEq, Int.cast_ofNat_Int, Int.reduceAdd, Int.reduceToNat, ne_eq, false_imp_iff, true_imp_iff, cl_73, bf_73_0, bf_73_13, bo_73_0, bo_73_13, s1, s5, h3]
  refine ⟨fun c => ?_, fun c => ?_⟩
  · unfold a_undo at hQ
    rw [if_pos c] at hQ
    exact hQ _ hP fun _ _ => rfl
  · refine c_pop hS hP hI (by omega) fun f f1 f2 => ?_
    have hq := hQ f f1 f2
    have e : f 45 2 = nI (a_undo A).2.h := f1.2.2.1.1
    unfold a_undo at hq e
    rw [if_neg c] at hq e
    simp (disch := omega) only [e_q0, e_nil, e_cons, e_q, e_qf, e_qt, e_af, z_hd, z_mk1, z_lg, z_s1, z_s2, z_kl, z_en, z_kI, z_fv, z_ic, z_c1, z_sh, z_pop, z_rc, z_tgt, z_tsw, z_lsw, z_nw, z_ac, o_kI, o_kL, o_ldi, o_ldl, o_lda, o_sti, o_sta, o_stl, o_inc, o_b2, o_bz, o_l2, o_lz, o_ls, o_lneg, o_i2l, o_l2i, o_lcmp, o_dup, o_dupx1, o_dup2, o_if, o_if2, o_ifnull, o_get, o_put, o_iald, o_zald, o_aald, o_alen, o_iast, o_zast, o_aast, o_new, o_newa, o_call, o_call1, o_callN, o_obj, o_reti, o_retl, o_ret, o_tsw, o_lsw, va_rf_s, va_rf_n, z_u2_s, z_u2_k, z_u2_f, z_uR_f, z_uL_f, e_ix, e_vp, e_lt, e_le, e_eq, e_lt0, e_eq0, e_b0, e_b1, e_10, e_11, true_or, or_true, false_or, nI_add, z_bi_0, z_bi_1, e_bb, z_uR_s, z_uR_k, z_uL_s, z_uL_k, true_and, and_true, and_self, not_true_eq_false, not_false_eq_true, forall_const, Option.toList, List.cons_append, List.nil_append, List.singleton_append, Nat.reduceAdd, Nat.zero_add, Nat.add_zero, Nat.reduceEqDiff, ↓reduceIte, ite_true, ite_false, reduceCtorEq, Int.cast_ofNat_Int, Int.reduceAdd, Int.reduceToNat, ne_eq, false_imp_iff, true_imp_iff, cl_73, bf_73_0, bf_73_13, bo_73_0, bo_73_13, s1, s5, e]
    exact hq
end
