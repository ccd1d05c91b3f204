section
variable {l : Launch} {G : ZG} {mi : Nat → Nat → Int32} {mr : Nat → Nat → Option Nat} {ml : Nat → Nat → Int64} {T : (Nat → Nat × Nat) × Nat × Nat} {Q : ZR} {txt : ZW} {len k : Nat} {R : ZRd}
theorem RM_node {f : Nat → Nat → Int32} {F' : Nat → Nat → Int32} {sg : Int32} {ph : Nat} (hM : RM mi R) (hn : R.1.1.1 < 8) (hl : R.1.1.2 ≤ 9) (h2 : f 25 2 = nI (R.1.1.1 + 1)) (h25 : ∀ j, j ≠ 2 → f 25 j = mi 25 j) (hc : ∀ c, 25 < c → c < 45 → c ≠ 25 + 2 + R.1.1.1 → f c = mi c)
    (hN : ND (f (25 + 2 + R.1.1.1)) F' R.1.1.1) (e : ∀ i j, (i < 4 → j ≠ R.1.1.1) → F' i j = R.1.2 i j) : RM f (((R.1.1.1 + 1, R.1.1.2), F'), (R.2.1, sg, ph)) := by
  obtain ⟨⟨a2, a3, a4, a5, a6⟩, b, c⟩ := hM
  refine ⟨⟨h2, by rw [h25 3 (by omega)]; exact a3, by rw [h25 4 (by omega)]; exact a4, by rw [h25 5 (by omega)]; exact a5, by rw [h25 6 (by omega)]; exact a6⟩, fun i hi => ?_, fun k hk => ?_⟩
  · by_cases q : i = R.1.1.1
    · subst q; exact hN
    · have hi' : i < R.1.1.1 + 1 := hi
      have w := b i (by omega)
      show ND (f (25 + 2 + i)) F' i
      rw [hc (25 + 2 + i) (by omega) (by omega) (by omega)]
      unfold ND
      rw [e 0 i (by omega), e 1 i (by omega), e 2 i (by omega), e 3 i (by omega)]
      exact w
  · have hk' : k < R.1.1.2 := hk
    have w := c k hk
    show LD (f (25 + 11 + k)) F' k
    rw [hc (25 + 11 + k) (by omega) (by omega) (by omega)]
    unfold LD
    rw [e 4 k (by omega), e 5 k (by omega), e 6 k (by omega), e 7 k (by omega), e 8 k (by omega)]
    exact w
theorem RM_link {f : Nat → Nat → Int32} {F' : Nat → Nat → Int32} {sg : Int32} {ph : Nat} (hM : RM mi R) (hn : R.1.1.1 ≤ 8) (hl : R.1.1.2 < 9) (h2 : f 25 3 = nI (R.1.1.2 + 1)) (h25 : ∀ j, j ≠ 3 → f 25 j = mi 25 j) (hc : ∀ c, 25 < c → c < 45 → c ≠ 25 + 11 + R.1.1.2 → f c = mi c)
    (hL : LD (f (25 + 11 + R.1.1.2)) F' R.1.1.2) (e : ∀ i j, (4 ≤ i → j ≠ R.1.1.2) → F' i j = R.1.2 i j) : RM f (((R.1.1.1, R.1.1.2 + 1), F'), (R.2.1, sg, ph)) := by
  obtain ⟨⟨a2, a3, a4, a5, a6⟩, b, c⟩ := hM
  refine ⟨⟨by rw [h25 2 (by omega)]; exact a2, h2, by rw [h25 4 (by omega)]; exact a4, by rw [h25 5 (by omega)]; exact a5, by rw [h25 6 (by omega)]; exact a6⟩, fun i hi => ?_, fun k hk => ?_⟩
  · have hi' : i < R.1.1.1 := hi
    have w := b i hi
    show ND (f (25 + 2 + i)) F' i
    rw [hc (25 + 2 + i) (by omega) (by omega) (by omega)]
    unfold ND
    rw [e 0 i (by omega), e 1 i (by omega), e 2 i (by omega), e 3 i (by omega)]
    exact w
  · by_cases q : k = R.1.1.2
    · subst q; exact hL
    · have hk' : k < R.1.1.2 + 1 := hk
      have w := c k (by omega)
      show LD (f (25 + 11 + k)) F' k
      rw [hc (25 + 11 + k) (by omega) (by omega) (by omega)]
      unfold LD
      rw [e 4 k (by omega), e 5 k (by omega), e 6 k (by omega), e 7 k (by omega), e 8 k (by omega)]
      exact w
theorem TX_next {f : Nat → Nat → Int32} {k' : Nat} (hT : TX txt len mi k) (h2 : f 3 2 = nI k') (h1 : f 3 1 = mi 3 1) (h4 : f 4 = mi 4) (hk : k' ≤ len) : TX txt len f k' := ⟨⟨by rw [h1]; exact hT.1.1, h2, by rw [h4]; exact hT.1.2.2⟩, hk, hT.2.2⟩
theorem z_u2_i {F : Nat → Nat → Int32} {a n i j : Nat} {v : Int32} (h : i < 4 → j ≠ n) (ha : a < 4) : z_u2 F a n v i j = F i j := by
  by_cases c : i = a
  · exact z_u2_k (h (by omega))
  · exact z_u2_a c
theorem z_u2_l {F : Nat → Nat → Int32} {a n i j : Nat} {v : Int32} (h : 4 ≤ i → j ≠ n) (ha : 4 ≤ a) : z_u2 F a n v i j = F i j := by
  by_cases c : i = a
  · exact z_u2_k (h (by omega))
  · exact z_u2_a c
theorem rd_take_g {x : Int32} (hp : ¬ R.2.2.2 = 0) (hs : R.2.2.1 = nI 103) : rd_take R x = rd_gate R (x - nI 48) := by
  unfold rd_take
  rw [if_neg hp, hs, if_neg (by decide), if_pos rfl]
theorem rd_take_l {x : Int32} (hp : ¬ R.2.2.2 = 0) (hs : R.2.2.1 = nI 108) : rd_take R x = rd_leaf R (x - nI 48) := by
  unfold rd_take
  rw [if_neg hp, hs, if_neg (by decide), if_neg (by decide), if_pos rfl]
theorem rd_take_k {x : Int32} (hp : ¬ R.2.2.2 = 0) (hs : R.2.2.1 = nI 107) : rd_take R x = rd_link R (x - nI 48) := by
  unfold rd_take
  rw [if_neg hp, hs, if_neg (by decide), if_neg (by decide), if_neg (by decide)]
theorem TF_refl : TF mi mi := ⟨fun _ _ _ => rfl, fun _ _ => rfl⟩
theorem x_readRouter (hS : SC T mr) (hT : TX txt len mi k) (hM : RM mi R) (hI : rd_in R.1.2 R.1.1.1 R.1.1.2) (hp : R.2.2.2 = 0) (hk : k < len) (ht : txt k = nI 114)
    (h1 : ∀ f k' R', TX txt len f k' → TF f mi → RM f R' → rd_in R'.1.2 R'.1.1.1 R'.1.1.2 → R'.2.2.2 = 0 → k < k' → rd_g txt len k R = rd_g txt len k' R' → Q (some (.int (nI 1))) (f, mr, ml, T))
    (h0 : ∀ f p, TF f mi → p ≤ len → f 3 2 = nI p → (rd_g txt len k R).1 = nI p → Q (some (.int (nI 0))) (f, mr, ml, T)) : z_Ok l G m_Text_readRouter [.ref 3, .ref 25] (mi, mr, ml, T) Q := by
  have s1 := hS.1
  have s25 := hS.t
  have n2 := hM.1.1
  have n8 := hI.1
  have k2 := hT.1.2.1
  have kl := hT.2
  have et : rd_take R (txt k) = rd_sign R (txt k) := if_pos hp
  rw [ht] at et
  unfold rd_sign at et
  simp (disch := omega) only [e_eq, Nat.reduceEqDiff, false_or, or_false, if_false, if_true, ite_true, ite_false, ↓reduceIte] at et
  refine z_okN cz_52.1 (by rw [cl_52]; exact Nat.le_of_ble_eq_true rfl) cz_52.2 (z_run ck_52 3 bf_52_0 ?_)
  by_cases c : R.1.1.1 = 8
  · simp (disch := omega) only [e_q0, e_nil, e_cons, e_q, e_qf, e_qt, e_af, z_hd, z_mk1, z_lg, z_s1, z_s2, z_kl, z_en, z_kI, z_fv, z_ic, z_c1, z_sh, z_pop, z_rc, z_tgt, z_tsw, z_lsw, z_nw, z_ac, o_kI, o_kL, o_ldi, o_ldl, o_lda, o_sti, o_sta, o_stl, o_inc, o_b2, o_bz, o_l2, o_lz, o_ls, o_lneg, o_i2l, o_l2i, o_lcmp, o_dup, o_dupx1, o_dup2, o_if, o_if2, o_ifnull, o_get, o_put, o_iald, o_zald, o_aald, o_alen, o_iast, o_zast, o_aast, o_new, o_newa, o_call, o_call1, o_callN, o_obj, o_reti, o_retl, o_ret, o_tsw, o_lsw, va_rf_s, va_rf_n, z_u2_s, z_u2_k, z_u2_f, z_uR_f, z_uL_f, e_ix, e_vp, e_lt, e_le, e_eq, e_lt0, e_eq0, e_b0, e_b1, e_10, e_11, true_or, or_true, false_or, nI_add, z_bi_0, z_bi_1, e_bb, z_uR_s, z_uR_k, z_uL_s, z_uL_k, true_and, and_true, and_self, not_true_eq_false, not_false_eq_true, forall_const, Option.toList, List.cons_append, List.nil_append, List.singleton_append, Nat.reduceAdd, Nat.zero_add, Nat.add_zero, Nat.reduceEqDiff, ↓reduceIte, ite_true, ite_false, reduceCtorEq, Int.cast_ofNat_Int, Int.reduceAdd, Int.reduceToNat, ne_eq, false_imp_iff, true_imp_iff, cl_52, bf_52_0, bf_52_11, bo_52_0, bo_52_11, s1, s25, n2, c]
    exact ⟨fun q => absurd q (by omega), fun _ => h0 mi k TF_refl kl.1 k2 (rd_g_no kl.1 (Or.inl hk) fun _ => by rw [ht, et, if_pos c])⟩
  · have q1 : T.1 (27 + R.1.1.1) = (1, 3) ∧ mr 26 R.1.1.1 = some (27 + R.1.1.1) := hS.2.1.2.2.1 _ (by omega)
    rw [if_neg c] at et
    simp (disch := omega) only [e_q0, e_nil, e_cons, e_q, e_qf, e_qt, e_af, z_hd, z_mk1, z_lg, z_s1, z_s2, z_kl, z_en, z_kI, z_fv, z_ic, z_c1, z_sh, z_pop, z_rc, z_tgt, z_tsw, z_lsw, z_nw, z_ac, o_kI, o_kL, o_ldi, o_ldl, o_lda, o_sti, o_sta, o_stl, o_inc, o_b2, o_bz, o_l2, o_lz, o_ls, o_lneg, o_i2l, o_l2i, o_lcmp, o_dup, o_dupx1, o_dup2, o_if, o_if2, o_ifnull, o_get, o_put, o_iald, o_zald, o_aald, o_alen, o_iast, o_zast, o_aast, o_new, o_newa, o_call, o_call1, o_callN, o_obj, o_reti, o_retl, o_ret, o_tsw, o_lsw, va_rf_s, va_rf_n, z_u2_s, z_u2_k, z_u2_f, z_uR_f, z_uL_f, e_ix, e_vp, e_lt, e_le, e_eq, e_lt0, e_eq0, e_b0, e_b1, e_10, e_11, true_or, or_true, false_or, nI_add, z_bi_0, z_bi_1, e_bb, z_uR_s, z_uR_k, z_uL_s, z_uL_k, true_and, and_true, and_self, not_true_eq_false, not_false_eq_true, forall_const, Option.toList, List.cons_append, List.nil_append, List.singleton_append, Nat.reduceAdd, Nat.zero_add, Nat.add_zero, Nat.reduceEqDiff, ↓reduceIte, ite_true, ite_false, reduceCtorEq, Int.cast_ofNat_Int, Int.reduceAdd, Int.reduceToNat, ne_eq, false_imp_iff, true_imp_iff, cl_52, bf_52_0, bf_52_11, bo_52_0, bo_52_11, s1, s25, n2, k2, q1, z_t4]
    refine ⟨fun _ => ?_, fun q => absurd q (by omega)⟩
    refine x_resetNode q1.1 fun f f1 e0 e1 e2 e3 e4 => ?_
    simp (disch := omega) only [e_q0, e_nil, e_cons, e_q, e_qf, e_qt, e_af, z_hd, z_mk1, z_lg, z_s1, z_s2, z_kl, z_en, z_kI, z_fv, z_ic, z_c1, z_sh, z_pop, z_rc, z_tgt, z_tsw, z_lsw, z_nw, z_ac, o_kI, o_kL, o_ldi, o_ldl, o_lda, o_sti, o_sta, o_stl, o_inc, o_b2, o_bz, o_l2, o_lz, o_ls, o_lneg, o_i2l, o_l2i, o_lcmp, o_dup, o_dupx1, o_dup2, o_if, o_if2, o_ifnull, o_get, o_put, o_iald, o_zald, o_aald, o_alen, o_iast, o_zast, o_aast, o_new, o_newa, o_call, o_call1, o_callN, o_obj, o_reti, o_retl, o_ret, o_tsw, o_lsw, va_rf_s, va_rf_n, z_u2_s, z_u2_k, z_u2_f, z_uR_f, z_uL_f, e_ix, e_vp, e_lt, e_le, e_eq, e_lt0, e_eq0, e_b0, e_b1, e_10, e_11, true_or, or_true, false_or, nI_add, z_bi_0, z_bi_1, e_bb, z_uR_s, z_uR_k, z_uL_s, z_uL_k, true_and, and_true, and_self, not_true_eq_false, not_false_eq_true, forall_const, Option.toList, List.cons_append, List.nil_append, List.singleton_append, Nat.reduceAdd, Nat.zero_add, Nat.add_zero, Nat.reduceEqDiff, ↓reduceIte, ite_true, ite_false, reduceCtorEq, Int.cast_ofNat_Int, Int.reduceAdd, Int.reduceToNat, ne_eq, false_imp_iff, true_imp_iff, cl_52, bf_52_0, bf_52_11, bo_52_0, bo_52_11]
    have fc : ∀ c, c ≠ 3 → c ≠ 25 → c ≠ 27 + R.1.1.1 → f c = mi c := fun c c1 c2 c3 => by rw [f1 c c3, z_u2_f c2, z_u2_f c1]
    have f3 : f 3 = z_u2 mi 3 2 (nI (k + 1)) 3 := by rw [f1 3 (by omega), z_u2_f (by omega)]
    have f25 : ∀ j, f 25 j = z_u2 mi 25 2 (nI (R.1.1.1 + 1)) 25 j := fun j => by
      rw [f1 25 (by omega)]
      by_cases q : j = 2
      · rw [q, z_u2_s, z_u2_s]
      · rw [z_u2_k q, z_u2_k q, z_u2_k q]
    have ee : ∀ i j, (i < 4 → j ≠ R.1.1.1) → z_u2 (z_u2 (z_u2 (z_u2 R.1.2 0 R.1.1.1 (nI 1)) 1 R.1.1.1 (nI 0)) 2 R.1.1.1 (nI 0)) 3 R.1.1.1 (nI 0) i j = R.1.2 i j := fun i j h => by
      rw [z_u2_i h (by omega), z_u2_i h (by omega), z_u2_i h (by omega), z_u2_i h (by omega)]
    have v0 : z_u2 (z_u2 (z_u2 (z_u2 R.1.2 0 R.1.1.1 (nI 1)) 1 R.1.1.1 (nI 0)) 2 R.1.1.1 (nI 0)) 3 R.1.1.1 (nI 0) 0 R.1.1.1 = nI 1 := by simp (disch := omega) only [z_u2_a, z_u2_s]
    have v1 : z_u2 (z_u2 (z_u2 (z_u2 R.1.2 0 R.1.1.1 (nI 1)) 1 R.1.1.1 (nI 0)) 2 R.1.1.1 (nI 0)) 3 R.1.1.1 (nI 0) 1 R.1.1.1 = nI 0 := by simp (disch := omega) only [z_u2_a, z_u2_s]
    have v2 : z_u2 (z_u2 (z_u2 (z_u2 R.1.2 0 R.1.1.1 (nI 1)) 1 R.1.1.1 (nI 0)) 2 R.1.1.1 (nI 0)) 3 R.1.1.1 (nI 0) 2 R.1.1.1 = nI 0 := by simp (disch := omega) only [z_u2_a, z_u2_s]
    have v3 : z_u2 (z_u2 (z_u2 (z_u2 R.1.2 0 R.1.1.1 (nI 1)) 1 R.1.1.1 (nI 0)) 2 R.1.1.1 (nI 0)) 3 R.1.1.1 (nI 0) 3 R.1.1.1 = nI 0 := by simp (disch := omega) only [z_u2_a, z_u2_s]
    refine h1 f (k + 1) _ (TX_next hT (by rw [f3, z_u2_s]) (by rw [f3, z_u2_k (by omega)]) (fc 4 (by omega) (by omega) (by omega)) (by omega)) ⟨fun c c1 c2 => fc c c1 (by omega) (by omega), fun j hj => by rw [f3, z_u2_k hj]⟩ (RM_node hM (by omega) n8.2 (by rw [f25, z_u2_s]) (fun j hj => by rw [f25, z_u2_k hj]) (fun c c1 c2 c3 => fc c (by omega) (by omega) (by omega)) ⟨⟨?_, ?_, ?_, ?_⟩, e4⟩ ee) (rd_in_node hI (by omega) ee (Or.inr (Or.inl ⟨v0, v1, v2, v3⟩))) rfl (by omega) (rd_g_ok hk (by rw [ht]; exact et))
    · rw [v0]; exact e0
    · rw [v3]; exact e1
    · rw [v1]; exact e2
    · rw [v2]; exact e3
theorem x_readGateway (hS : SC T mr) (hT : TX txt len mi k) (hM : RM mi R) (hI : rd_in R.1.2 R.1.1.1 R.1.1.2) (hp : R.2.2.2 = 0) (hk : k < len) (ht : txt k = nI 103)
    (h1 : ∀ f k' R', TX txt len f k' → TF f mi → RM f R' → rd_in R'.1.2 R'.1.1.1 R'.1.1.2 → R'.2.2.2 = 0 → k < k' → rd_g txt len k R = rd_g txt len k' R' → Q (some (.int (nI 1))) (f, mr, ml, T))
    (h0 : ∀ f p, TF f mi → p ≤ len → f 3 2 = nI p → (rd_g txt len k R).1 = nI p → Q (some (.int (nI 0))) (f, mr, ml, T)) : z_Ok l G m_Text_readGateway [.ref 3, .ref 25] (mi, mr, ml, T) Q := by
  have s1 := hS.1
  have s25 := hS.t
  have n2 := hM.1.1
  have n8 := hI.1
  have k2 := hT.1.2.1
  have kl := hT.2
  have et : rd_take R (txt k) = rd_sign R (txt k) := if_pos hp
  rw [ht] at et
  unfold rd_sign at et
  simp (disch := omega) only [e_eq, Nat.reduceEqDiff, true_or, if_true, ite_true, ↓reduceIte] at et
  refine z_okN cz_51.1 (by rw [cl_51]; exact Nat.le_of_ble_eq_true rfl) cz_51.2 (z_run ck_51 4 bf_51_0 ?_)
  by_cases c : R.1.1.1 = 8
  · simp (disch := omega) only [e_q0, e_nil, e_cons, e_q, e_qf, e_qt, e_af, z_hd, z_mk1, z_lg, z_s1, z_s2, z_kl, z_en, z_kI, z_fv, z_ic, z_c1, z_sh, z_pop, z_rc, z_tgt, z_tsw, z_lsw, z_nw, z_ac, o_kI, o_kL, o_ldi, o_ldl, o_lda, o_sti, o_sta, o_stl, o_inc, o_b2, o_bz, o_l2, o_lz, o_ls, o_lneg, o_i2l, o_l2i, o_lcmp, o_dup, o_dupx1, o_dup2, o_if, o_if2, o_ifnull, o_get, o_put, o_iald, o_zald, o_aald, o_alen, o_iast, o_zast, o_aast, o_new, o_newa, o_call, o_call1, o_callN, o_obj, o_reti, o_retl, o_ret, o_tsw, o_lsw, va_rf_s, va_rf_n, z_u2_s, z_u2_k, z_u2_f, z_uR_f, z_uL_f, e_ix, e_vp, e_lt, e_le, e_eq, e_lt0, e_eq0, e_b0, e_b1, e_10, e_11, true_or, or_true, false_or, nI_add, z_bi_0, z_bi_1, e_bb, z_uR_s, z_uR_k, z_uL_s, z_uL_k, true_and, and_true, and_self, not_true_eq_false, not_false_eq_true, forall_const, Option.toList, List.cons_append, List.nil_append, List.singleton_append, Nat.reduceAdd, Nat.zero_add, Nat.add_zero, Nat.reduceEqDiff, ↓reduceIte, ite_true, ite_false, reduceCtorEq, Int.cast_ofNat_Int, Int.reduceAdd, Int.reduceToNat, ne_eq, false_imp_iff, true_imp_iff, cl_51, bf_51_0, bf_51_11, bf_51_35, bo_51_0, bo_51_11, bo_51_35, s1, s25, n2, c]
    exact ⟨fun q => absurd q (by omega), fun _ => h0 mi k TF_refl kl.1 k2 (rd_g_no kl.1 (Or.inl hk) fun _ => by rw [ht, et]; exact decide_eq_false (by omega))⟩
  · have q1 : T.1 (27 + R.1.1.1) = (1, 3) ∧ mr 26 R.1.1.1 = some (27 + R.1.1.1) := hS.2.1.2.2.1 _ (by omega)
    rw [decide_eq_true (show R.1.1.1 < 8 by omega)] at et
    have eg : rd_g txt len k R = rd_g txt len (k + 1) (R.1, (R.2.1, nI 103, 1)) := rd_g_ok hk (by rw [ht]; exact et)
    have n2' : z_u2 mi 3 2 (nI (k + 1)) 25 2 = nI R.1.1.1 := by rw [z_u2_f (by omega)]; exact n2
    simp (disch := omega) only [e_q0, e_nil, e_cons, e_q, e_qf, e_qt, e_af, z_hd, z_mk1, z_lg, z_s1, z_s2, z_kl, z_en, z_kI, z_fv, z_ic, z_c1, z_sh, z_pop, z_rc, z_tgt, z_tsw, z_lsw, z_nw, z_ac, o_kI, o_kL, o_ldi, o_ldl, o_lda, o_sti, o_sta, o_stl, o_inc, o_b2, o_bz, o_l2, o_lz, o_ls, o_lneg, o_i2l, o_l2i, o_lcmp, o_dup, o_dupx1, o_dup2, o_if, o_if2, o_ifnull, o_get, o_put, o_iald, o_zald, o_aald, o_alen, o_iast, o_zast, o_aast, o_new, o_newa, o_call, o_call1, o_callN, o_obj, o_reti, o_retl, o_ret, o_tsw, o_lsw, va_rf_s, va_rf_n, z_u2_s, z_u2_k, z_u2_f, z_uR_f, z_uL_f, e_ix, e_vp, e_lt, e_le, e_eq, e_lt0, e_eq0, e_b0, e_b1, e_10, e_11, true_or, or_true, false_or, nI_add, z_bi_0, z_bi_1, e_bb, z_uR_s, z_uR_k, z_uL_s, z_uL_k, true_and, and_true, and_self, not_true_eq_false, not_false_eq_true, forall_const, Option.toList, List.cons_append, List.nil_append, List.singleton_append, Nat.reduceAdd, Nat.zero_add, Nat.add_zero, Nat.reduceEqDiff, ↓reduceIte, ite_true, ite_false, reduceCtorEq, Int.cast_ofNat_Int, Int.reduceAdd, Int.reduceToNat, ne_eq, false_imp_iff, true_imp_iff, cl_51, bf_51_0, bf_51_11, bf_51_35, bo_51_0, bo_51_11, bo_51_35, s1, s25, n2, k2, q1, z_t4]
    refine ⟨fun _ => ?_, fun q => absurd q (by omega)⟩
    have hT1 : TX txt len (z_u2 mi 3 2 (nI (k + 1))) (k + 1) := TX_next hT z_u2_s (z_u2_k (by omega)) (z_u2_f (by omega)) (by omega)
    refine x_takeDigit hS hT1 (by omega) (by omega) (fun v g1 g2 g3 g4 => ?_) (fun g => ?_)
    · have n3 : z_u2 (z_u2 mi 3 2 (nI (k + 1))) 3 2 (nI (k + 1 + 1)) 25 2 = nI R.1.1.1 := by rw [z_u2_f (by omega)]; exact n2'
      simp (disch := omega) only [e_q0, e_nil, e_cons, e_q, e_qf, e_qt, e_af, z_hd, z_mk1, z_lg, z_s1, z_s2, z_kl, z_en, z_kI, z_fv, z_ic, z_c1, z_sh, z_pop, z_rc, z_tgt, z_tsw, z_lsw, z_nw, z_ac, o_kI, o_kL, o_ldi, o_ldl, o_lda, o_sti, o_sta, o_stl, o_inc, o_b2, o_bz, o_l2, o_lz, o_ls, o_lneg, o_i2l, o_l2i, o_lcmp, o_dup, o_dupx1, o_dup2, o_if, o_if2, o_ifnull, o_get, o_put, o_iald, o_zald, o_aald, o_alen, o_iast, o_zast, o_aast, o_new, o_newa, o_call, o_call1, o_callN, o_obj, o_reti, o_retl, o_ret, o_tsw, o_lsw, va_rf_s, va_rf_n, z_u2_s, z_u2_k, z_u2_f, z_uR_f, z_uL_f, e_ix, e_vp, e_lt, e_le, e_eq, e_lt0, e_eq0, e_b0, e_b1, e_10, e_11, true_or, or_true, false_or, nI_add, z_bi_0, z_bi_1, e_bb, z_uR_s, z_uR_k, z_uL_s, z_uL_k, true_and, and_true, and_self, not_true_eq_false, not_false_eq_true, forall_const, Option.toList, List.cons_append, List.nil_append, List.singleton_append, Nat.reduceAdd, Nat.zero_add, Nat.add_zero, Nat.reduceEqDiff, ↓reduceIte, ite_true, ite_false, reduceCtorEq, Int.cast_ofNat_Int, Int.reduceAdd, Int.reduceToNat, ne_eq, false_imp_iff, true_imp_iff, cl_51, bf_51_0, bf_51_11, bf_51_35, bo_51_0, bo_51_11, bo_51_35, s1, s25, n3, q1, z_t4, e_ge0]
      refine x_resetNode q1.1 fun f f1 e0 e1 e2 e3 e4 => ?_
      simp (disch := omega) only [e_q0, e_nil, e_cons, e_q, e_qf, e_qt, e_af, z_hd, z_mk1, z_lg, z_s1, z_s2, z_kl, z_en, z_kI, z_fv, z_ic, z_c1, z_sh, z_pop, z_rc, z_tgt, z_tsw, z_lsw, z_nw, z_ac, o_kI, o_kL, o_ldi, o_ldl, o_lda, o_sti, o_sta, o_stl, o_inc, o_b2, o_bz, o_l2, o_lz, o_ls, o_lneg, o_i2l, o_l2i, o_lcmp, o_dup, o_dupx1, o_dup2, o_if, o_if2, o_ifnull, o_get, o_put, o_iald, o_zald, o_aald, o_alen, o_iast, o_zast, o_aast, o_new, o_newa, o_call, o_call1, o_callN, o_obj, o_reti, o_retl, o_ret, o_tsw, o_lsw, va_rf_s, va_rf_n, z_u2_s, z_u2_k, z_u2_f, z_uR_f, z_uL_f, e_ix, e_vp, e_lt, e_le, e_eq, e_lt0, e_eq0, e_b0, e_b1, e_10, e_11, true_or, or_true, false_or, nI_add, z_bi_0, z_bi_1, e_bb, z_uR_s, z_uR_k, z_uL_s, z_uL_k, true_and, and_true, and_self, not_true_eq_false, not_false_eq_true, forall_const, Option.toList, List.cons_append, List.nil_append, List.singleton_append, Nat.reduceAdd, Nat.zero_add, Nat.add_zero, Nat.reduceEqDiff, ↓reduceIte, ite_true, ite_false, reduceCtorEq, Int.cast_ofNat_Int, Int.reduceAdd, Int.reduceToNat, ne_eq, false_imp_iff, true_imp_iff, cl_51, bf_51_0, bf_51_11, bf_51_35, bo_51_0, bo_51_11, bo_51_35, q1]
      have eg2 : rd_take (R.1, (R.2.1, nI 103, 1)) (txt (k + 1)) = (true, (((R.1.1.1 + 1, R.1.1.2), z_u2 (z_u2 (z_u2 (z_u2 R.1.2 0 R.1.1.1 (nI 0)) 1 R.1.1.1 (nI 0)) 2 R.1.1.1 (nI 0)) 3 R.1.1.1 (nI v)), (R.2.1, nI 103, 0))) := by
        rw [rd_take_g (by show ¬ 1 = 0; omega) rfl, g4]
        have e : ∀ v, v < 10 → f_in (nI v) 0 9 = true := by decide
        unfold rd_gate
        rw [e v (by omega)]
        rfl
      have fc : ∀ c, c ≠ 3 → c ≠ 25 → c ≠ 27 + R.1.1.1 → z_u2 f (27 + R.1.1.1) 1 (nI v) c = mi c := fun c c1 c2 c3 => by rw [z_u2_f c3, f1 c c3, z_u2_f c2, z_u2_f c1, z_u2_f c1]
      have f3 : z_u2 f (27 + R.1.1.1) 1 (nI v) 3 = z_u2 (z_u2 mi 3 2 (nI (k + 1))) 3 2 (nI (k + 1 + 1)) 3 := by rw [z_u2_f (by omega), f1 3 (by omega), z_u2_f (by omega)]
      have f25 : ∀ j, z_u2 f (27 + R.1.1.1) 1 (nI v) 25 j = z_u2 mi 25 2 (nI (R.1.1.1 + 1)) 25 j := fun j => by
        rw [z_u2_f (by omega), f1 25 (by omega)]
        by_cases q : j = 2
        · rw [q, z_u2_s, z_u2_s]
        · rw [z_u2_k q, z_u2_k q, z_u2_k q, z_u2_k q]
      have ee : ∀ i j, (i < 4 → j ≠ R.1.1.1) → z_u2 (z_u2 (z_u2 (z_u2 R.1.2 0 R.1.1.1 (nI 0)) 1 R.1.1.1 (nI 0)) 2 R.1.1.1 (nI 0)) 3 R.1.1.1 (nI v) i j = R.1.2 i j := fun i j h => by
        rw [z_u2_i h (by omega), z_u2_i h (by omega), z_u2_i h (by omega), z_u2_i h (by omega)]
      have v0 : z_u2 (z_u2 (z_u2 (z_u2 R.1.2 0 R.1.1.1 (nI 0)) 1 R.1.1.1 (nI 0)) 2 R.1.1.1 (nI 0)) 3 R.1.1.1 (nI v) 0 R.1.1.1 = nI 0 := by simp (disch := omega) only [z_u2_a, z_u2_s]
      have v1 : z_u2 (z_u2 (z_u2 (z_u2 R.1.2 0 R.1.1.1 (nI 0)) 1 R.1.1.1 (nI 0)) 2 R.1.1.1 (nI 0)) 3 R.1.1.1 (nI v) 1 R.1.1.1 = nI 0 := by simp (disch := omega) only [z_u2_a, z_u2_s]
      have v2 : z_u2 (z_u2 (z_u2 (z_u2 R.1.2 0 R.1.1.1 (nI 0)) 1 R.1.1.1 (nI 0)) 2 R.1.1.1 (nI 0)) 3 R.1.1.1 (nI v) 2 R.1.1.1 = nI 0 := by simp (disch := omega) only [z_u2_a, z_u2_s]
      have v3 : z_u2 (z_u2 (z_u2 (z_u2 R.1.2 0 R.1.1.1 (nI 0)) 1 R.1.1.1 (nI 0)) 2 R.1.1.1 (nI 0)) 3 R.1.1.1 (nI v) 3 R.1.1.1 = nI v := by simp (disch := omega) only [z_u2_a, z_u2_s]
      have w0 : ∀ j, j ≠ 1 → z_u2 f (27 + R.1.1.1) 1 (nI v) (25 + 2 + R.1.1.1) j = f (27 + R.1.1.1) j := fun j hj => by rw [z_u2_k hj]
      have w1 : z_u2 f (27 + R.1.1.1) 1 (nI v) (25 + 2 + R.1.1.1) 1 = nI v := z_u2_s
      refine h1 _ (k + 1 + 1) _ (TX_next hT (by rw [f3, z_u2_s]) (by rw [f3, z_u2_k (by omega), z_u2_k (by omega)]) (fc 4 (by omega) (by omega) (by omega)) (by omega)) ⟨fun c c1 c2 => fc c c1 (by omega) (by omega), fun j hj => by rw [f3, z_u2_k hj, z_u2_k hj]⟩ (RM_node hM (by omega) n8.2 (by rw [f25, z_u2_s]) (fun j hj => by rw [f25, z_u2_k hj]) (fun c c1 c2 c3 => fc c (by omega) (by omega) (by omega)) ⟨⟨?_, ?_, ?_, ?_⟩, ?_⟩ ee) (rd_in_node hI (by omega) ee (Or.inl ⟨v0, v1, v2, v, g3, v3⟩)) rfl (by omega) (eg.trans (rd_g_ok g1 eg2))
      · rw [w0 0 (by omega), v0]; exact e0
      · rw [w1, v3]
      · rw [w0 2 (by omega), v1]; exact e2
      · rw [w0 3 (by omega), v2]; exact e3
      · rw [w0 4 (by omega), w0 5 (by omega), w0 6 (by omega), w0 7 (by omega), w0 8 (by omega)]; exact e4
    · simp (disch := omega) only [e_q0, e_nil, e_cons, e_q, e_qf, e_qt, e_af, z_hd, z_mk1, z_lg, z_s1, z_s2, z_kl, z_en, z_kI, z_fv, z_ic, z_c1, z_sh, z_pop, z_rc, z_tgt, z_tsw, z_lsw, z_nw, z_ac, o_kI, o_kL, o_ldi, o_ldl, o_lda, o_sti, o_sta, o_stl, o_inc, o_b2, o_bz, o_l2, o_lz, o_ls, o_lneg, o_i2l, o_l2i, o_lcmp, o_dup, o_dupx1, o_dup2, o_if, o_if2, o_ifnull, o_get, o_put, o_iald, o_zald, o_aald, o_alen, o_iast, o_zast, o_aast, o_new, o_newa, o_call, o_call1, o_callN, o_obj, o_reti, o_retl, o_ret, o_tsw, o_lsw, va_rf_s, va_rf_n, z_u2_s, z_u2_k, z_u2_f, z_uR_f, z_uL_f, e_ix, e_vp, e_lt, e_le, e_eq, e_lt0, e_eq0, e_b0, e_b1, e_10, e_11, true_or, or_true, false_or, nI_add, z_bi_0, z_bi_1, e_bb, z_uR_s, z_uR_k, z_uL_s, z_uL_k, true_and, and_true, and_self, not_true_eq_false, not_false_eq_true, forall_const, Option.toList, List.cons_append, List.nil_append, List.singleton_append, Nat.reduceAdd, Nat.zero_add, Nat.add_zero, Nat.reduceEqDiff, ↓reduceIte, ite_true, ite_false, reduceCtorEq, Int.cast_ofNat_Int, Int.reduceAdd, Int.reduceToNat, ne_eq, false_imp_iff, true_imp_iff, cl_51, bf_51_0, bf_51_11, bf_51_35, bo_51_0, bo_51_11, bo_51_35, s1, s25]
      refine ⟨fun q => absurd q (by decide), fun _ => ?_⟩
      refine h0 _ (k + 1) ⟨fun c c1 c2 => z_u2_f c1, fun j hj => z_u2_k hj⟩ (by omega) z_u2_s ?_
      rw [eg]
      refine rd_g_no (by omega) (Or.inr (by show ¬ 1 = 0; omega)) fun h => ?_
      rw [rd_take_g (by show ¬ 1 = 0; omega) rfl]
      unfold rd_gate
      rw [g h]
      rfl
end
