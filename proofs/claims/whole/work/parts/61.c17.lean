section
variable {l : Launch} {G : ZG} {mi : Nat → Nat → Int32} {mr : Nat → Nat → Option Nat} {ml : Nat → Nat → Int64} {T : (Nat → Nat × Nat) × Nat × Nat} {Q : ZR} {txt : ZW} {len k : Nat} {R : ZRd}
/-- the place alone has moved -/
abbrev PG (txt : ZW) (len : Nat) (g mi : Nat → Nat → Int32) (k : Nat) : Prop := TX txt len g k ∧ (∀ c, c ≠ 3 → g c = mi c) ∧ ∀ j, j ≠ 2 → g 3 j = mi 3 j
theorem PG_n {g : Nat → Nat → Int32} {k' : Nat} (h : PG txt len g mi k) (hk : k' ≤ len) : PG txt len (z_u2 g 3 2 (nI k')) mi k' :=
  ⟨TX_next h.1 z_u2_s (z_u2_k (by omega)) (z_u2_f (by omega)) hk, fun c hc => by rw [z_u2_f hc]; exact h.2.1 c hc, fun j hj => by rw [z_u2_k hj]; exact h.2.2 j hj⟩
theorem PG_TF {g : Nat → Nat → Int32} (h : PG txt len g mi k) : TF g mi := ⟨fun c c1 _ => h.2.1 c c1, h.2.2⟩
theorem f_in_y {v a b : Nat} (h1 : a ≤ v) (h2 : v ≤ b) (hb : b < 1000) : f_in (nI v) a b = true := by
  unfold f_in
  simp (disch := omega) only [e_le]
  rw [decide_eq_true h1, decide_eq_true h2]
  rfl
theorem x_readLeaf (hS : SC T mr) (hT : TX txt len mi k) (hM : RM mi R) (hI : rd_in R.1.2 R.1.1.1 R.1.1.2) (hp : R.2.2.2 = 0) (hk : k < len) (ht : txt k = nI 108)
    (h1 : ∀ f k' R', TX txt len f k' → TF f mi → RM f R' → rd_in R'.1.2 R'.1.1.1 R'.1.1.2 → R'.2.2.2 = 0 → k < k' → rd_g txt len k R = rd_g txt len k' R' → Q (some (.int (nI 1))) (f, mr, ml, T))
    (h0 : ∀ f p, TF f mi → p ≤ len → f 3 2 = nI p → (rd_g txt len k R).1 = nI p → Q (some (.int (nI 0))) (f, mr, ml, T)) : z_Ok l G m_Text_readLeaf [.ref 3, .ref 25] (mi, mr, ml, T) Q := by
  have s1 := hS.1
  have s25 := hS.t
  have n2 := hM.1.1
  have n8 := hI.1
  have k2 := hT.1.2.1
  have kl := hT.2
  have et : rd_take R (txt k) = rd_sign R (txt k) := if_pos hp
  rw [ht] at et
  unfold rd_sign at et
  simp (disch := omega) only [e_eq, Nat.reduceEqDiff, or_true, if_true, ite_true, ↓reduceIte] at et
  refine z_okN cz_53.1 (by rw [cl_53]; exact Nat.le_of_ble_eq_true rfl) cz_53.2 (z_run ck_53 5 bf_53_0 ?_)
  by_cases c : R.1.1.1 = 8
  · simp (disch := omega) only [e_q0, e_nil, e_cons, e_q, e_qf, e_qt, e_af, z_hd, z_mk1, z_lg, z_s1, z_s2, z_kl, z_en, z_kI, z_fv, z_ic, z_c1, z_sh, z_pop, z_rc, z_tgt, z_tsw, z_lsw, z_nw, z_ac, o_kI, o_kL, o_ldi, o_ldl, o_lda, o_sti, o_sta, o_stl, o_inc, o_b2, o_bz, o_l2, o_lz, o_ls, o_lneg, o_i2l, o_l2i, o_lcmp, o_dup, o_dupx1, o_dup2, o_if, o_if2, o_ifnull, o_get, o_put, o_iald, o_zald, o_aald, o_alen, o_iast, o_zast, o_aast, o_new, o_newa, o_call, o_call1, o_callN, o_obj, o_reti, o_retl, o_ret, o_tsw, o_lsw, va_rf_s, va_rf_n, z_u2_s, z_u2_k, z_u2_f, z_uR_f, z_uL_f, e_ix, e_vp, e_lt, e_le, e_eq, e_lt0, e_eq0, e_b0, e_b1, e_10, e_11, true_or, or_true, false_or, nI_add, z_bi_0, z_bi_1, e_bb, z_uR_s, z_uR_k, z_uL_s, z_uL_k, true_and, and_true, and_self, not_true_eq_false, not_false_eq_true, forall_const, Option.toList, List.cons_append, List.nil_append, List.singleton_append, Nat.reduceAdd, Nat.zero_add, Nat.add_zero, Nat.reduceEqDiff, ↓reduceIte, ite_true, ite_false, reduceCtorEq, Int.cast_ofNat_Int, Int.reduceAdd, Int.reduceToNat, ne_eq, false_imp_iff, true_imp_iff, cl_53, bf_53_0, bf_53_11, bf_53_35, bf_53_50, bo_53_0, bo_53_11, bo_53_35, bo_53_50, s1, s25, n2, c]
    exact ⟨fun q => absurd q (by omega), fun _ => h0 mi k TF_refl kl.1 k2 (rd_g_no kl.1 (Or.inl hk) fun _ => by rw [ht, et]; exact decide_eq_false (by omega))⟩
  · have q1 : T.1 (27 + R.1.1.1) = (1, 3) ∧ mr 26 R.1.1.1 = some (27 + R.1.1.1) := hS.2.1.2.2.1 _ (by omega)
    rw [decide_eq_true (show R.1.1.1 < 8 by omega)] at et
    have eg : rd_g txt len k R = rd_g txt len (k + 1) (R.1, (R.2.1, nI 108, 1)) := rd_g_ok hk (by rw [ht]; exact et)
    simp (disch := omega) only [e_q0, e_nil, e_cons, e_q, e_qf, e_qt, e_af, z_hd, z_mk1, z_lg, z_s1, z_s2, z_kl, z_en, z_kI, z_fv, z_ic, z_c1, z_sh, z_pop, z_rc, z_tgt, z_tsw, z_lsw, z_nw, z_ac, o_kI, o_kL, o_ldi, o_ldl, o_lda, o_sti, o_sta, o_stl, o_inc, o_b2, o_bz, o_l2, o_lz, o_ls, o_lneg, o_i2l, o_l2i, o_lcmp, o_dup, o_dupx1, o_dup2, o_if, o_if2, o_ifnull, o_get, o_put, o_iald, o_zald, o_aald, o_alen, o_iast, o_zast, o_aast, o_new, o_newa, o_call, o_call1, o_callN, o_obj, o_reti, o_retl, o_ret, o_tsw, o_lsw, va_rf_s, va_rf_n, z_u2_s, z_u2_k, z_u2_f, z_uR_f, z_uL_f, e_ix, e_vp, e_lt, e_le, e_eq, e_lt0, e_eq0, e_b0, e_b1, e_10, e_11, true_or, or_true, false_or, nI_add, z_bi_0, z_bi_1, e_bb, z_uR_s, z_uR_k, z_uL_s, z_uL_k, true_and, and_true, and_self, not_true_eq_false, not_false_eq_true, forall_const, Option.toList, List.cons_append, List.nil_append, List.singleton_append, Nat.reduceAdd, Nat.zero_add, Nat.add_zero, Nat.reduceEqDiff, ↓reduceIte, ite_true, ite_false, reduceCtorEq, Int.cast_ofNat_Int, Int.reduceAdd, Int.reduceToNat, ne_eq, false_imp_iff, true_imp_iff, cl_53, bf_53_0, bf_53_11, bf_53_35, bf_53_50, bo_53_0, bo_53_11, bo_53_35, bo_53_50, s1, s25, n2, k2, q1, z_t4]
    refine ⟨fun _ => ?_, fun q => absurd q (by omega)⟩
    have hp1 := PG_n (g := mi) (mi := mi) ⟨hT, fun _ _ => rfl, fun _ _ => rfl⟩ (show k + 1 ≤ len by omega)
    generalize z_u2 mi 3 2 (nI (k + 1)) = g1 at hp1
    refine x_takeDigit hS hp1.1 (by omega) (by omega) (fun c1 i1 i2 i3 i4 => ?_) (fun i => ?_)
    · have hp2 := PG_n hp1 (show k + 1 + 1 ≤ len by omega)
      generalize z_u2 g1 3 2 (nI (k + 1 + 1)) = g2 at hp2
      have eg2 : rd_g txt len (k + 1) (R.1, (R.2.1, nI 108, 1)) = rd_g txt len (k + 1 + 1) ((R.1.1, z_u2 R.1.2 1 R.1.1.1 (nI c1)), (R.2.1, nI 108, 2)) := rd_g_ok i1 (by
        rw [rd_take_l (by show ¬ 1 = 0; omega) rfl, i4]
        unfold rd_leaf
        rw [if_pos rfl, f_in_y i2 i3 (by omega)])
      simp (disch := omega) only [e_q0, e_nil, e_cons, e_q, e_qf, e_qt, e_af, z_hd, z_mk1, z_lg, z_s1, z_s2, z_kl, z_en, z_kI, z_fv, z_ic, z_c1, z_sh, z_pop, z_rc, z_tgt, z_tsw, z_lsw, z_nw, z_ac, o_kI, o_kL, o_ldi, o_ldl, o_lda, o_sti, o_sta, o_stl, o_inc, o_b2, o_bz, o_l2, o_lz, o_ls, o_lneg, o_i2l, o_l2i, o_lcmp, o_dup, o_dupx1, o_dup2, o_if, o_if2, o_ifnull, o_get, o_put, o_iald, o_zald, o_aald, o_alen, o_iast, o_zast, o_aast, o_new, o_newa, o_call, o_call1, o_callN, o_obj, o_reti, o_retl, o_ret, o_tsw, o_lsw, va_rf_s, va_rf_n, z_u2_s, z_u2_k, z_u2_f, z_uR_f, z_uL_f, e_ix, e_vp, e_lt, e_le, e_eq, e_lt0, e_eq0, e_b0, e_b1, e_10, e_11, true_or, or_true, false_or, nI_add, z_bi_0, z_bi_1, e_bb, z_uR_s, z_uR_k, z_uL_s, z_uL_k, true_and, and_true, and_self, not_true_eq_false, not_false_eq_true, forall_const, Option.toList, List.cons_append, List.nil_append, List.singleton_append, Nat.reduceAdd, Nat.zero_add, Nat.add_zero, Nat.reduceEqDiff, ↓reduceIte, ite_true, ite_false, reduceCtorEq, Int.cast_ofNat_Int, Int.reduceAdd, Int.reduceToNat, ne_eq, false_imp_iff, true_imp_iff, cl_53, bf_53_0, bf_53_11, bf_53_35, bf_53_50, bo_53_0, bo_53_11, bo_53_35, bo_53_50, s1, s25, e_ge0, e_sub]
      refine x_takeDigit hS hp2.1 (by omega) (by omega) (fun p1 j1 j2 j3 j4 => ?_) (fun i => ?_)
      · have hp3 := PG_n hp2 (show k + 1 + 1 + 1 ≤ len by omega)
        generalize z_u2 g2 3 2 (nI (k + 1 + 1 + 1)) = g3 at hp3
        have n3 : g3 25 2 = nI R.1.1.1 := by rw [hp3.2.1 25 (by omega)]; exact n2
        simp (disch := omega) only [e_q0, e_nil, e_cons, e_q, e_qf, e_qt, e_af, z_hd, z_mk1, z_lg, z_s1, z_s2, z_kl, z_en, z_kI, z_fv, z_ic, z_c1, z_sh, z_pop, z_rc, z_tgt, z_tsw, z_lsw, z_nw, z_ac, o_kI, o_kL, o_ldi, o_ldl, o_lda, o_sti, o_sta, o_stl, o_inc, o_b2, o_bz, o_l2, o_lz, o_ls, o_lneg, o_i2l, o_l2i, o_lcmp, o_dup, o_dupx1, o_dup2, o_if, o_if2, o_ifnull, o_get, o_put, o_iald, o_zald, o_aald, o_alen, o_iast, o_zast, o_aast, o_new, o_newa, o_call, o_call1, o_callN, o_obj, o_reti, o_retl, o_ret, o_tsw, o_lsw, va_rf_s, va_rf_n, z_u2_s, z_u2_k, z_u2_f, z_uR_f, z_uL_f, e_ix, e_vp, e_lt, e_le, e_eq, e_lt0, e_eq0, e_b0, e_b1, e_10, e_11, true_or, or_true, false_or, nI_add, z_bi_0, z_bi_1, e_bb, z_uR_s, z_uR_k, z_uL_s, z_uL_k, true_and, and_true, and_self, not_true_eq_false, not_false_eq_true, forall_const, Option.toList, List.cons_append, List.nil_append, List.singleton_append, Nat.reduceAdd, Nat.zero_add, Nat.add_zero, Nat.reduceEqDiff, ↓reduceIte, ite_true, ite_false, reduceCtorEq, Int.cast_ofNat_Int, Int.reduceAdd, Int.reduceToNat, ne_eq, false_imp_iff, true_imp_iff, cl_53, bf_53_0, bf_53_11, bf_53_35, bf_53_50, bo_53_0, bo_53_11, bo_53_35, bo_53_50, s1, s25, n3, q1, z_t4, e_ge0]
        refine x_resetNode q1.1 fun f f1 e0 e1 e2 e3 e4 => ?_
        simp (disch := omega) only [e_q0, e_nil, e_cons, e_q, e_qf, e_qt, e_af, z_hd, z_mk1, z_lg, z_s1, z_s2, z_kl, z_en, z_kI, z_fv, z_ic, z_c1, z_sh, z_pop, z_rc, z_tgt, z_tsw, z_lsw, z_nw, z_ac, o_kI, o_kL, o_ldi, o_ldl, o_lda, o_sti, o_sta, o_stl, o_inc, o_b2, o_bz, o_l2, o_lz, o_ls, o_lneg, o_i2l, o_l2i, o_lcmp, o_dup, o_dupx1, o_dup2, o_if, o_if2, o_ifnull, o_get, o_put, o_iald, o_zald, o_aald, o_alen, o_iast, o_zast, o_aast, o_new, o_newa, o_call, o_call1, o_callN, o_obj, o_reti, o_retl, o_ret, o_tsw, o_lsw, va_rf_s, va_rf_n, z_u2_s, z_u2_k, z_u2_f, z_uR_f, z_uL_f, e_ix, e_vp, e_lt, e_le, e_eq, e_lt0, e_eq0, e_b0, e_b1, e_10, e_11, true_or, or_true, false_or, nI_add, z_bi_0, z_bi_1, e_bb, z_uR_s, z_uR_k, z_uL_s, z_uL_k, true_and, and_true, and_self, not_true_eq_false, not_false_eq_true, forall_const, Option.toList, List.cons_append, List.nil_append, List.singleton_append, Nat.reduceAdd, Nat.zero_add, Nat.add_zero, Nat.reduceEqDiff, ↓reduceIte, ite_true, ite_false, reduceCtorEq, Int.cast_ofNat_Int, Int.reduceAdd, Int.reduceToNat, ne_eq, false_imp_iff, true_imp_iff, cl_53, bf_53_0, bf_53_11, bf_53_35, bf_53_50, bo_53_0, bo_53_11, bo_53_35, bo_53_50, q1]
        have e12 : z_u2 R.1.2 1 R.1.1.1 (nI c1) 1 R.1.1.1 = nI c1 := z_u2_s
        have eg3 : rd_take ((R.1.1, z_u2 R.1.2 1 R.1.1.1 (nI c1)), (R.2.1, nI 108, 2)) (txt (k + 1 + 1)) = (true, (((R.1.1.1 + 1, R.1.1.2), z_u2 (z_u2 (z_u2 (z_u2 R.1.2 1 R.1.1.1 (nI c1)) 0 R.1.1.1 (nI 2)) 2 R.1.1.1 (nI p1)) 3 R.1.1.1 (nI 0)), (R.2.1, nI 108, 0))) := by
          rw [rd_take_l (by show ¬ 2 = 0; omega) rfl, j4]
          unfold rd_leaf
          rw [if_neg (by show ¬ 2 = 1; omega)]
          show (if nI 0 ≤ nI p1 ∧ nI p1 ≤ z_u2 R.1.2 1 R.1.1.1 (nI c1) 1 R.1.1.1 - nI 1 then _ else _) = _
          rw [if_pos (by rw [e12, e_sub (by omega), e_le (by omega) (by omega), e_le (by omega) (by omega)]; omega)]
        have fc : ∀ c, c ≠ 3 → c ≠ 25 → c ≠ 27 + R.1.1.1 → (z_u2 (z_u2 f (27 + R.1.1.1) 2 (nI c1)) (27 + R.1.1.1) 3 (nI p1)) c = mi c := fun c x1 x2 x3 => by rw [z_u2_f x3, z_u2_f x3, f1 c x3, z_u2_f x2, hp3.2.1 c x1]
        have f3 : (z_u2 (z_u2 f (27 + R.1.1.1) 2 (nI c1)) (27 + R.1.1.1) 3 (nI p1)) 3 = g3 3 := by rw [z_u2_f (by omega), z_u2_f (by omega), f1 3 (by omega), z_u2_f (by omega)]
        have f25 : ∀ j, (z_u2 (z_u2 f (27 + R.1.1.1) 2 (nI c1)) (27 + R.1.1.1) 3 (nI p1)) 25 j = z_u2 mi 25 2 (nI (R.1.1.1 + 1)) 25 j := fun j => by
          rw [z_u2_f (by omega), z_u2_f (by omega), f1 25 (by omega)]
          by_cases q : j = 2
          · rw [q, z_u2_s, z_u2_s]
          · rw [z_u2_k q, z_u2_k q, hp3.2.1 25 (by omega)]
        have ee : ∀ i j, (i < 4 → j ≠ R.1.1.1) → (z_u2 (z_u2 (z_u2 (z_u2 R.1.2 1 R.1.1.1 (nI c1)) 0 R.1.1.1 (nI 2)) 2 R.1.1.1 (nI p1)) 3 R.1.1.1 (nI 0)) i j = R.1.2 i j := fun i j h => by
          rw [z_u2_i h (by omega), z_u2_i h (by omega), z_u2_i h (by omega), z_u2_i h (by omega)]
        have v0 : (z_u2 (z_u2 (z_u2 (z_u2 R.1.2 1 R.1.1.1 (nI c1)) 0 R.1.1.1 (nI 2)) 2 R.1.1.1 (nI p1)) 3 R.1.1.1 (nI 0)) 0 R.1.1.1 = nI 2 := by simp (disch := omega) only [z_u2_a, z_u2_s]
        have v1 : (z_u2 (z_u2 (z_u2 (z_u2 R.1.2 1 R.1.1.1 (nI c1)) 0 R.1.1.1 (nI 2)) 2 R.1.1.1 (nI p1)) 3 R.1.1.1 (nI 0)) 1 R.1.1.1 = nI c1 := by simp (disch := omega) only [z_u2_a, z_u2_s]
        have v2 : (z_u2 (z_u2 (z_u2 (z_u2 R.1.2 1 R.1.1.1 (nI c1)) 0 R.1.1.1 (nI 2)) 2 R.1.1.1 (nI p1)) 3 R.1.1.1 (nI 0)) 2 R.1.1.1 = nI p1 := by simp (disch := omega) only [z_u2_a, z_u2_s]
        have v3 : (z_u2 (z_u2 (z_u2 (z_u2 R.1.2 1 R.1.1.1 (nI c1)) 0 R.1.1.1 (nI 2)) 2 R.1.1.1 (nI p1)) 3 R.1.1.1 (nI 0)) 3 R.1.1.1 = nI 0 := by simp (disch := omega) only [z_u2_a, z_u2_s]
        have w0 : ∀ j, j ≠ 2 → j ≠ 3 → (z_u2 (z_u2 f (27 + R.1.1.1) 2 (nI c1)) (27 + R.1.1.1) 3 (nI p1)) (25 + 2 + R.1.1.1) j = f (27 + R.1.1.1) j := fun j hj hj3 => by rw [z_u2_k hj3, z_u2_k hj]
        have w2 : (z_u2 (z_u2 f (27 + R.1.1.1) 2 (nI c1)) (27 + R.1.1.1) 3 (nI p1)) (25 + 2 + R.1.1.1) 2 = nI c1 := by rw [z_u2_k (by omega)]; exact z_u2_s
        have w3 : (z_u2 (z_u2 f (27 + R.1.1.1) 2 (nI c1)) (27 + R.1.1.1) 3 (nI p1)) (25 + 2 + R.1.1.1) 3 = nI p1 := z_u2_s
        refine h1 _ (k + 1 + 1 + 1) _ (TX_next hp3.1 (by rw [f3]; exact hp3.1.1.2.1) (by rw [f3]) (by rw [fc 4 (by omega) (by omega) (by omega), hp3.2.1 4 (by omega)]) (by omega)) ⟨fun c x1 x2 => fc c x1 (by omega) (by omega), fun j hj => by rw [f3]; exact hp3.2.2 j hj⟩ (RM_node hM (by omega) n8.2 (by rw [f25, z_u2_s]) (fun j hj => by rw [f25, z_u2_k hj]) (fun c x1 x2 x3 => fc c (by omega) (by omega) (by omega)) ⟨⟨?_, ?_, ?_, ?_⟩, ?_⟩ ee) (rd_in_node hI (by omega) ee (Or.inr (Or.inr ⟨v0, v3, c1, p1, i2, i3, by omega, v1, v2⟩))) rfl (by omega) (eg.trans (eg2.trans (rd_g_ok j1 eg3)))
        · rw [w0 0 (by omega) (by omega), v0]; exact e0
        · rw [w0 1 (by omega) (by omega), v3]; exact e1
        · rw [w2, v1]
        · rw [w3, v2]
        · rw [w0 4 (by omega) (by omega), w0 5 (by omega) (by omega), w0 6 (by omega) (by omega), w0 7 (by omega) (by omega), w0 8 (by omega) (by omega)]; exact e4
      · simp (disch := omega) only [e_q0, e_nil, e_cons, e_q, e_qf, e_qt, e_af, z_hd, z_mk1, z_lg, z_s1, z_s2, z_kl, z_en, z_kI, z_fv, z_ic, z_c1, z_sh, z_pop, z_rc, z_tgt, z_tsw, z_lsw, z_nw, z_ac, o_kI, o_kL, o_ldi, o_ldl, o_lda, o_sti, o_sta, o_stl, o_inc, o_b2, o_bz, o_l2, o_lz, o_ls, o_lneg, o_i2l, o_l2i, o_lcmp, o_dup, o_dupx1, o_dup2, o_if, o_if2, o_ifnull, o_get, o_put, o_iald, o_zald, o_aald, o_alen, o_iast, o_zast, o_aast, o_new, o_newa, o_call, o_call1, o_callN, o_obj, o_reti, o_retl, o_ret, o_tsw, o_lsw, va_rf_s, va_rf_n, z_u2_s, z_u2_k, z_u2_f, z_uR_f, z_uL_f, e_ix, e_vp, e_lt, e_le, e_eq, e_lt0, e_eq0, e_b0, e_b1, e_10, e_11, true_or, or_true, false_or, nI_add, z_bi_0, z_bi_1, e_bb, z_uR_s, z_uR_k, z_uL_s, z_uL_k, true_and, and_true, and_self, not_true_eq_false, not_false_eq_true, forall_const, Option.toList, List.cons_append, List.nil_append, List.singleton_append, Nat.reduceAdd, Nat.zero_add, Nat.add_zero, Nat.reduceEqDiff, ↓reduceIte, ite_true, ite_false, reduceCtorEq, Int.cast_ofNat_Int, Int.reduceAdd, Int.reduceToNat, ne_eq, false_imp_iff, true_imp_iff, cl_53, bf_53_0, bf_53_11, bf_53_35, bf_53_50, bo_53_0, bo_53_11, bo_53_35, bo_53_50]
        refine ⟨fun q => absurd q (by decide), fun _ => ?_⟩
        refine h0 g2 (k + 1 + 1) (PG_TF hp2) (by omega) hp2.1.1.2.1 ?_
        rw [eg, eg2]
        refine rd_g_no (by omega) (Or.inr (by show ¬ 2 = 0; omega)) fun h => ?_
        rw [rd_take_l (by show ¬ 2 = 0; omega) rfl]
        unfold rd_leaf
        rw [if_neg (by show ¬ 2 = 1; omega)]
        have w := i h
        unfold f_in at w
        rw [Bool.and_eq_false_iff, decide_eq_false_iff_not, decide_eq_false_iff_not] at w
        rw [if_neg (by
          rw [show (((R.1.1, z_u2 R.1.2 1 R.1.1.1 (nI c1)), (R.2.1, nI 108, 2)) : ZRd).1.2 1 R.1.1.1 = nI c1 from z_u2_s, e_sub (by omega)]
          exact fun q => w.elim (fun z => z q.1) (fun z => z q.2))]
    · simp (disch := omega) only [e_q0, e_nil, e_cons, e_q, e_qf, e_qt, e_af, z_hd, z_mk1, z_lg, z_s1, z_s2, z_kl, z_en, z_kI, z_fv, z_ic, z_c1, z_sh, z_pop, z_rc, z_tgt, z_tsw, z_lsw, z_nw, z_ac, o_kI, o_kL, o_ldi, o_ldl, o_lda, o_sti, o_sta, o_stl, o_inc, o_b2, o_bz, o_l2, o_lz, o_ls, o_lneg, o_i2l, o_l2i, o_lcmp, o_dup, o_dupx1, o_dup2, o_if, o_if2, o_ifnull, o_get, o_put, o_iald, o_zald, o_aald, o_alen, o_iast, o_zast, o_aast, o_new, o_newa, o_call, o_call1, o_callN, o_obj, o_reti, o_retl, o_ret, o_tsw, o_lsw, va_rf_s, va_rf_n, z_u2_s, z_u2_k, z_u2_f, z_uR_f, z_uL_f, e_ix, e_vp, e_lt, e_le, e_eq, e_lt0, e_eq0, e_b0, e_b1, e_10, e_11, true_or, or_true, false_or, nI_add, z_bi_0, z_bi_1, e_bb, z_uR_s, z_uR_k, z_uL_s, z_uL_k, true_and, and_true, and_self, not_true_eq_false, not_false_eq_true, forall_const, Option.toList, List.cons_append, List.nil_append, List.singleton_append, Nat.reduceAdd, Nat.zero_add, Nat.add_zero, Nat.reduceEqDiff, ↓reduceIte, ite_true, ite_false, reduceCtorEq, Int.cast_ofNat_Int, Int.reduceAdd, Int.reduceToNat, ne_eq, false_imp_iff, true_imp_iff, cl_53, bf_53_0, bf_53_11, bf_53_35, bf_53_50, bo_53_0, bo_53_11, bo_53_35, bo_53_50]
      refine ⟨fun q => absurd q (by decide), fun _ => ?_⟩
      refine h0 g1 (k + 1) (PG_TF hp1) (by omega) hp1.1.1.2.1 ?_
      rw [eg]
      refine rd_g_no (by omega) (Or.inr (by show ¬ 1 = 0; omega)) fun h => ?_
      rw [rd_take_l (by show ¬ 1 = 0; omega) rfl]
      unfold rd_leaf
      rw [if_pos rfl]
      exact i h
end
