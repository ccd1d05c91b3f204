/-- where the way from p ends, in d places at most -/
def x_end (s : ZS) (r : ZW) : Nat → Int32 → Option Nat
  | 0, _ => none
  | d + 1, p => if f_idx p s.1.1 = true then (if s.2 0 (z_ix p) = 0 then some (z_ix p) else x_end s r d (r (z_ix p))) else none
/-- the first link of those below k that joins a and b -/
def x_lb (s : ZS) (a b : Int32) : Nat → Option Nat
  | 0 => none
  | k + 1 => match x_lb s a b k with
    | some j => some j
    | none => if f_is s a b k = true then some k else none
section
variable {l : Launch} {G : ZG} {mi : Nat → Nat → Int32} {mr : Nat → Nat → Option Nat} {ml : Nat → Nat → Int64} {T : (Nat → Nat × Nat) × Nat × Nat} {Q : ZR} {a : Nat} {s : ZS} {r : ZW}
theorem x_endOfRoute0 {i : Nat} (hS : SX T mr a) (hX : MX mi a s r) (h8 : s.1.1 ≤ 8) (hi : i < s.1.1) (h : Q (some (.int (z_on (x_end s r 9 (nI i))))) (mi, mr, ml, T)) : z_Ok l G m_Mesh_endOfRoute [.ref a, .int (nI i)] (mi, mr, ml, T) Q := by
  have h1 := hS.1
  have h2 := hX.1
  refine z_okN cz_25.1 (by rw [cl_25]; exact Nat.le_of_ble_eq_true rfl) cz_25.2 (z_run ck_25 4 bf_25_0 ?_)
  simp (disch := omega) only [e_q0, e_nil, e_cons, e_q, e_qf, e_qt, e_af, z_hd, z_mk1, z_lg, z_s1, z_s2, z_kl, z_en, z_kI, z_fv, z_ic, z_c1, z_sh, z_pop, z_rc, z_tgt, z_tsw, z_lsw, z_nw, z_ac, o_kI, o_kL, o_ldi, o_ldl, o_lda, o_sti, o_sta, o_stl, o_inc, o_b2, o_bz, o_l2, o_lz, o_ls, o_lneg, o_i2l, o_l2i, o_lcmp, o_dup, o_dupx1, o_dup2, o_if, o_if2, o_ifnull, o_get, o_put, o_iald, o_zald, o_aald, o_alen, o_iast, o_zast, o_aast, o_new, o_newa, o_call, o_call1, o_callN, o_obj, o_reti, o_retl, o_ret, o_tsw, o_lsw, va_rf_s, va_rf_n, z_u2_s, z_u2_k, z_u2_f, z_uR_f, z_uL_f, e_ix, e_vp, e_lt, e_le, e_eq, e_lt0, e_eq0, e_b0, e_b1, e_10, e_11, true_or, or_true, false_or, nI_add, z_bi_0, z_bi_1, e_bb, z_uR_s, z_uR_k, z_uL_s, z_uL_k, true_and, and_true, and_self, not_true_eq_false, not_false_eq_true, forall_const, Option.toList, List.cons_append, List.nil_append, List.singleton_append, Nat.reduceAdd, Nat.zero_add, Nat.add_zero, Nat.reduceEqDiff, ↓reduceIte, ite_true, ite_false, reduceCtorEq, Int.cast_ofNat_Int, Int.reduceAdd, Int.reduceToNat, ne_eq, false_imp_iff, true_imp_iff, cl_25, bf_25_0, bf_25_4, bf_25_32, bf_25_48, bo_25_0, bo_25_4, bo_25_32, bo_25_48, h1, h2]
  refine z_for (α := Int32) (P := fun k p => x_end s r 9 (nI i) = x_end s r (9 - k) p → z_W l G 25 (T.2.1, T.2.2) (fun v M' => Q v M' ∧ M'.2.2.2 = T) 4 [some (.ref a), none, some (.int p), some (.int (nI k))] [] (mi, mr, ml, T)) 9 (fun p hp => ?_) (fun k hk ih p hp => ?_) 0 (by omega) (nI i) rfl
  · refine z_run ck_25 4 bf_25_4 ?_
    simp (disch := omega) only [e_q0, e_nil, e_cons, e_q, e_qf, e_qt, e_af, z_hd, z_mk1, z_lg, z_s1, z_s2, z_kl, z_en, z_kI, z_fv, z_ic, z_c1, z_sh, z_pop, z_rc, z_tgt, z_tsw, z_lsw, z_nw, z_ac, o_kI, o_kL, o_ldi, o_ldl, o_lda, o_sti, o_sta, o_stl, o_inc, o_b2, o_bz, o_l2, o_lz, o_ls, o_lneg, o_i2l, o_l2i, o_lcmp, o_dup, o_dupx1, o_dup2, o_if, o_if2, o_ifnull, o_get, o_put, o_iald, o_zald, o_aald, o_alen, o_iast, o_zast, o_aast, o_new, o_newa, o_call, o_call1, o_callN, o_obj, o_reti, o_retl, o_ret, o_tsw, o_lsw, va_rf_s, va_rf_n, z_u2_s, z_u2_k, z_u2_f, z_uR_f, z_uL_f, e_ix, e_vp, e_lt, e_le, e_eq, e_lt0, e_eq0, e_b0, e_b1, e_10, e_11, true_or, or_true, false_or, nI_add, z_bi_0, z_bi_1, e_bb, z_uR_s, z_uR_k, z_uL_s, z_uL_k, true_and, and_true, and_self, not_true_eq_false, not_false_eq_true, forall_const, Option.toList, List.cons_append, List.nil_append, List.singleton_append, Nat.reduceAdd, Nat.zero_add, Nat.add_zero, Nat.reduceEqDiff, ↓reduceIte, ite_true, ite_false, reduceCtorEq, Int.cast_ofNat_Int, Int.reduceAdd, Int.reduceToNat, ne_eq, false_imp_iff, true_imp_iff, cl_25, bf_25_0, bf_25_4, bf_25_32, bf_25_48, bo_25_0, bo_25_4, bo_25_32, bo_25_48, h1, h2]
    have hp : x_end s r 9 (nI i) = none := hp
    rw [hp] at h
    exact ⟨fun _ => h, fun q => absurd q (by omega)⟩
  · have hk' : k ≤ 8 := by omega
    have hp : x_end s r 9 (nI i) = if f_idx p s.1.1 = true then (if s.2 0 (z_ix p) = 0 then some (z_ix p) else x_end s r (9 - (k + 1)) (r (z_ix p))) else none := by
      rw [hp, show 9 - k = 9 - (k + 1) + 1 by omega]
      rfl
    refine z_run ck_25 4 bf_25_4 ?_
    simp (disch := omega) only [e_q0, e_nil, e_cons, e_q, e_qf, e_qt, e_af, z_hd, z_mk1, z_lg, z_s1, z_s2, z_kl, z_en, z_kI, z_fv, z_ic, z_c1, z_sh, z_pop, z_rc, z_tgt, z_tsw, z_lsw, z_nw, z_ac, o_kI, o_kL, o_ldi, o_ldl, o_lda, o_sti, o_sta, o_stl, o_inc, o_b2, o_bz, o_l2, o_lz, o_ls, o_lneg, o_i2l, o_l2i, o_lcmp, o_dup, o_dupx1, o_dup2, o_if, o_if2, o_ifnull, o_get, o_put, o_iald, o_zald, o_aald, o_alen, o_iast, o_zast, o_aast, o_new, o_newa, o_call, o_call1, o_callN, o_obj, o_reti, o_retl, o_ret, o_tsw, o_lsw, va_rf_s, va_rf_n, z_u2_s, z_u2_k, z_u2_f, z_uR_f, z_uL_f, e_ix, e_vp, e_lt, e_le, e_eq, e_lt0, e_eq0, e_b0, e_b1, e_10, e_11, true_or, or_true, false_or, nI_add, z_bi_0, z_bi_1, e_bb, z_uR_s, z_uR_k, z_uL_s, z_uL_k, true_and, and_true, and_self, not_true_eq_false, not_false_eq_true, forall_const, Option.toList, List.cons_append, List.nil_append, List.singleton_append, Nat.reduceAdd, Nat.zero_add, Nat.add_zero, Nat.reduceEqDiff, ↓reduceIte, ite_true, ite_false, reduceCtorEq, Int.cast_ofNat_Int, Int.reduceAdd, Int.reduceToNat, ne_eq, false_imp_iff, true_imp_iff, cl_25, bf_25_0, bf_25_4, bf_25_32, bf_25_48, bo_25_0, bo_25_4, bo_25_32, bo_25_48, h1, h2]
    refine ⟨fun q => absurd q (by omega), fun _ => ?_⟩
    refine x_hasNode hS hX ?_
    simp (disch := omega) only [e_q0, e_nil, e_cons, e_q, e_qf, e_qt, e_af, z_hd, z_mk1, z_lg, z_s1, z_s2, z_kl, z_en, z_kI, z_fv, z_ic, z_c1, z_sh, z_pop, z_rc, z_tgt, z_tsw, z_lsw, z_nw, z_ac, o_kI, o_kL, o_ldi, o_ldl, o_lda, o_sti, o_sta, o_stl, o_inc, o_b2, o_bz, o_l2, o_lz, o_ls, o_lneg, o_i2l, o_l2i, o_lcmp, o_dup, o_dupx1, o_dup2, o_if, o_if2, o_ifnull, o_get, o_put, o_iald, o_zald, o_aald, o_alen, o_iast, o_zast, o_aast, o_new, o_newa, o_call, o_call1, o_callN, o_obj, o_reti, o_retl, o_ret, o_tsw, o_lsw, va_rf_s, va_rf_n, z_u2_s, z_u2_k, z_u2_f, z_uR_f, z_uL_f, e_ix, e_vp, e_lt, e_le, e_eq, e_lt0, e_eq0, e_b0, e_b1, e_10, e_11, true_or, or_true, false_or, nI_add, z_bi_0, z_bi_1, e_bb, z_uR_s, z_uR_k, z_uL_s, z_uL_k, true_and, and_true, and_self, not_true_eq_false, not_false_eq_true, forall_const, Option.toList, List.cons_append, List.nil_append, List.singleton_append, Nat.reduceAdd, Nat.zero_add, Nat.add_zero, Nat.reduceEqDiff, ↓reduceIte, ite_true, ite_false, reduceCtorEq, Int.cast_ofNat_Int, Int.reduceAdd, Int.reduceToNat, ne_eq, false_imp_iff, true_imp_iff, cl_25, bf_25_0, bf_25_4, bf_25_32, bf_25_48, bo_25_0, bo_25_4, bo_25_32, bo_25_48, h1, h2]
    refine ⟨fun c => ?_, fun c => ?_⟩
    · rw [c, if_neg (by decide)] at hp
      rw [hp] at h
      exact h
    · rw [Bool.not_eq_false] at c
      rw [if_pos c] at hp
      obtain ⟨j, hj, rfl⟩ := f_idx_t (by omega) c
      rw [e_ix (by omega)] at hp
      have q1 := hS.2.1 j (by omega)
      have q2 := hX.2.1 j hj
      simp (disch := omega) only [e_q0, e_nil, e_cons, e_q, e_qf, e_qt, e_af, z_hd, z_mk1, z_lg, z_s1, z_s2, z_kl, z_en, z_kI, z_fv, z_ic, z_c1, z_sh, z_pop, z_rc, z_tgt, z_tsw, z_lsw, z_nw, z_ac, o_kI, o_kL, o_ldi, o_ldl, o_lda, o_sti, o_sta, o_stl, o_inc, o_b2, o_bz, o_l2, o_lz, o_ls, o_lneg, o_i2l, o_l2i, o_lcmp, o_dup, o_dupx1, o_dup2, o_if, o_if2, o_ifnull, o_get, o_put, o_iald, o_zald, o_aald, o_alen, o_iast, o_zast, o_aast, o_new, o_newa, o_call, o_call1, o_callN, o_obj, o_reti, o_retl, o_ret, o_tsw, o_lsw, va_rf_s, va_rf_n, z_u2_s, z_u2_k, z_u2_f, z_uR_f, z_uL_f, e_ix, e_vp, e_lt, e_le, e_eq, e_lt0, e_eq0, e_b0, e_b1, e_10, e_11, true_or, or_true, false_or, nI_add, z_bi_0, z_bi_1, e_bb, z_uR_s, z_uR_k, z_uL_s, z_uL_k, true_and, and_true, and_self, not_true_eq_false, not_false_eq_true, forall_const, Option.toList, List.cons_append, List.nil_append, List.singleton_append, Nat.reduceAdd, Nat.zero_add, Nat.add_zero, Nat.reduceEqDiff, ↓reduceIte, ite_true, ite_false, reduceCtorEq, Int.cast_ofNat_Int, Int.reduceAdd, Int.reduceToNat, ne_eq, false_imp_iff, true_imp_iff, cl_25, bf_25_0, bf_25_4, bf_25_32, bf_25_48, bo_25_0, bo_25_4, bo_25_32, bo_25_48, h1, h2, q1, q2, z_t4, z_t5, z_t6]
      refine ⟨fun c => ?_, fun c => ?_⟩
      · rw [if_pos c] at hp
        rw [hp] at h
        exact h
      · rw [if_neg c] at hp
        exact ih _ hp
theorem x_joins {k : Nat} {b c : Int32} {L : Nat} (hT : T.1 L = (1, 1)) (hX : LX (mi L) s r k) (h : Q (some (.int (z_bi (f_is s b c k)))) (mi, mr, ml, T)) : z_Ok l G m_Link_joins [.ref L, .int b, .int c] (mi, mr, ml, T) Q := by
  unfold f_is at h
  refine z_okN cz_10.1 (by rw [cl_10]; exact Nat.le_of_ble_eq_true rfl) cz_10.2 (z_run ck_10 6 bf_10_0 ?_)
  simp (disch := omega) only [e_q0, e_nil, e_cons, e_q, e_qf, e_qt, e_af, z_hd, z_mk1, z_lg, z_s1, z_s2, z_kl, z_en, z_kI, z_fv, z_ic, z_c1, z_sh, z_pop, z_rc, z_tgt, z_tsw, z_lsw, z_nw, z_ac, o_kI, o_kL, o_ldi, o_ldl, o_lda, o_sti, o_sta, o_stl, o_inc, o_b2, o_bz, o_l2, o_lz, o_ls, o_lneg, o_i2l, o_l2i, o_lcmp, o_dup, o_dupx1, o_dup2, o_if, o_if2, o_ifnull, o_get, o_put, o_iald, o_zald, o_aald, o_alen, o_iast, o_zast, o_aast, o_new, o_newa, o_call, o_call1, o_callN, o_obj, o_reti, o_retl, o_ret, o_tsw, o_lsw, va_rf_s, va_rf_n, z_u2_s, z_u2_k, z_u2_f, z_uR_f, z_uL_f, e_ix, e_vp, e_lt, e_le, e_eq, e_lt0, e_eq0, e_b0, e_b1, e_10, e_11, true_or, or_true, false_or, nI_add, z_bi_0, z_bi_1, e_bb, z_uR_s, z_uR_k, z_uL_s, z_uL_k, true_and, and_true, and_self, not_true_eq_false, not_false_eq_true, forall_const, Option.toList, List.cons_append, List.nil_append, List.singleton_append, Nat.reduceAdd, Nat.zero_add, Nat.add_zero, Nat.reduceEqDiff, ↓reduceIte, ite_true, ite_false, reduceCtorEq, Int.cast_ofNat_Int, Int.reduceAdd, Int.reduceToNat, ne_eq, false_imp_iff, true_imp_iff, cl_10, bf_10_0, bf_10_16, bf_10_32, bf_10_36, bf_10_37, bo_10_0, bo_10_16, bo_10_32, bo_10_36, bo_10_37, hT, hX]
  refine ⟨fun c1 => ⟨fun c2 => z_f1 h (by simp [c1, c2]), fun c2 => ⟨fun c3 => ⟨fun c4 => z_f1 h (by simp [c3, c4]), fun c4 => z_f0 h (by simp [c2, c4])⟩, fun c3 => z_f0 h (by simp [c2, c3])⟩⟩, fun c1 => ⟨fun c3 => ⟨fun c4 => z_f1 h (by simp [c3, c4]), fun c4 => z_f0 h (by simp [c1, c4])⟩, fun c3 => z_f0 h (by simp [c1, c3])⟩⟩
theorem x_linkBetween {b c : Int32} (hS : SX T mr a) (hX : MX mi a s r) (h9 : s.1.2 ≤ 9) (h : Q (some (.int (z_on (x_lb s b c s.1.2)))) (mi, mr, ml, T)) : z_Ok l G m_Mesh_linkBetween [.ref a, .int b, .int c] (mi, mr, ml, T) Q := by
  have h1 := hS.1
  have h2 := hX.1
  have sm : ∀ d k j, x_lb s b c k = some j → x_lb s b c (k + d) = some j := by
    intro d
    induction d with
    | zero => intro k j h; exact h
    | succ d ih =>
      intro k j h
      rw [← Nat.add_assoc]
      unfold x_lb
      rw [ih k j h]
  refine z_okN cz_20.1 (by rw [cl_20]; exact Nat.le_of_ble_eq_true rfl) cz_20.2 (z_run ck_20 4 bf_20_0 ?_)
  simp (disch := omega) only [e_q0, e_nil, e_cons, e_q, e_qf, e_qt, e_af, z_hd, z_mk1, z_lg, z_s1, z_s2, z_kl, z_en, z_kI, z_fv, z_ic, z_c1, z_sh, z_pop, z_rc, z_tgt, z_tsw, z_lsw, z_nw, z_ac, o_kI, o_kL, o_ldi, o_ldl, o_lda, o_sti, o_sta, o_stl, o_inc, o_b2, o_bz, o_l2, o_lz, o_ls, o_lneg, o_i2l, o_l2i, o_lcmp, o_dup, o_dupx1, o_dup2, o_if, o_if2, o_ifnull, o_get, o_put, o_iald, o_zald, o_aald, o_alen, o_iast, o_zast, o_aast, o_new, o_newa, o_call, o_call1, o_callN, o_obj, o_reti, o_retl, o_ret, o_tsw, o_lsw, va_rf_s, va_rf_n, z_u2_s, z_u2_k, z_u2_f, z_uR_f, z_uL_f, e_ix, e_vp, e_lt, e_le, e_eq, e_lt0, e_eq0, e_b0, e_b1, e_10, e_11, true_or, or_true, false_or, nI_add, z_bi_0, z_bi_1, e_bb, z_uR_s, z_uR_k, z_uL_s, z_uL_k, true_and, and_true, and_self, not_true_eq_false, not_false_eq_true, forall_const, Option.toList, List.cons_append, List.nil_append, List.singleton_append, Nat.reduceAdd, Nat.zero_add, Nat.add_zero, Nat.reduceEqDiff, ↓reduceIte, ite_true, ite_false, reduceCtorEq, Int.cast_ofNat_Int, Int.reduceAdd, Int.reduceToNat, ne_eq, false_imp_iff, true_imp_iff, cl_20, bf_20_0, bf_20_2, bf_20_26, bf_20_32, bo_20_0, bo_20_2, bo_20_26, bo_20_32, h1, h2]
  refine z_for (α := Unit) (P := fun k _ => x_lb s b c k = none → z_W l G 20 (T.2.1, T.2.2) (fun v M' => Q v M' ∧ M'.2.2.2 = T) 2 [some (.ref a), some (.int b), some (.int c), some (.int (nI k))] [] (mi, mr, ml, T)) s.1.2 (fun _ hn => ?_) (fun k hk ih _ hn => ?_) 0 (by omega) () rfl
  · refine z_run ck_20 4 bf_20_2 ?_
    simp (disch := omega) only [e_q0, e_nil, e_cons, e_q, e_qf, e_qt, e_af, z_hd, z_mk1, z_lg, z_s1, z_s2, z_kl, z_en, z_kI, z_fv, z_ic, z_c1, z_sh, z_pop, z_rc, z_tgt, z_tsw, z_lsw, z_nw, z_ac, o_kI, o_kL, o_ldi, o_ldl, o_lda, o_sti, o_sta, o_stl, o_inc, o_b2, o_bz, o_l2, o_lz, o_ls, o_lneg, o_i2l, o_l2i, o_lcmp, o_dup, o_dupx1, o_dup2, o_if, o_if2, o_ifnull, o_get, o_put, o_iald, o_zald, o_aald, o_alen, o_iast, o_zast, o_aast, o_new, o_newa, o_call, o_call1, o_callN, o_obj, o_reti, o_retl, o_ret, o_tsw, o_lsw, va_rf_s, va_rf_n, z_u2_s, z_u2_k, z_u2_f, z_uR_f, z_uL_f, e_ix, e_vp, e_lt, e_le, e_eq, e_lt0, e_eq0, e_b0, e_b1, e_10, e_11, true_or, or_true, false_or, nI_add, z_bi_0, z_bi_1, e_bb, z_uR_s, z_uR_k, z_uL_s, z_uL_k, true_and, and_true, and_self, not_true_eq_false, not_false_eq_true, forall_const, Option.toList, List.cons_append, List.nil_append, List.singleton_append, Nat.reduceAdd, Nat.zero_add, Nat.add_zero, Nat.reduceEqDiff, ↓reduceIte, ite_true, ite_false, reduceCtorEq, Int.cast_ofNat_Int, Int.reduceAdd, Int.reduceToNat, ne_eq, false_imp_iff, true_imp_iff, cl_20, bf_20_0, bf_20_2, bf_20_26, bf_20_32, bo_20_0, bo_20_2, bo_20_26, bo_20_32, h1, h2, Nat.le_refl]
    rw [hn] at h
    exact h
  · have hk' := Nat.not_le.mpr hk
    have q1 := hS.2.2 k (by omega)
    have q2 := hX.2.2 k hk
    have ih2 := ih ()
    have e : x_lb s b c (k + 1) = if f_is s b c k = true then some k else none := by
      show (match x_lb s b c k with | some j => some j | none => if f_is s b c k = true then some k else none) = _
      rw [hn]
    refine z_run ck_20 4 bf_20_2 ?_
    simp (disch := omega) only [e_q0, e_nil, e_cons, e_q, e_qf, e_qt, e_af, z_hd, z_mk1, z_lg, z_s1, z_s2, z_kl, z_en, z_kI, z_fv, z_ic, z_c1, z_sh, z_pop, z_rc, z_tgt, z_tsw, z_lsw, z_nw, z_ac, o_kI, o_kL, o_ldi, o_ldl, o_lda, o_sti, o_sta, o_stl, o_inc, o_b2, o_bz, o_l2, o_lz, o_ls, o_lneg, o_i2l, o_l2i, o_lcmp, o_dup, o_dupx1, o_dup2, o_if, o_if2, o_ifnull, o_get, o_put, o_iald, o_zald, o_aald, o_alen, o_iast, o_zast, o_aast, o_new, o_newa, o_call, o_call1, o_callN, o_obj, o_reti, o_retl, o_ret, o_tsw, o_lsw, va_rf_s, va_rf_n, z_u2_s, z_u2_k, z_u2_f, z_uR_f, z_uL_f, e_ix, e_vp, e_lt, e_le, e_eq, e_lt0, e_eq0, e_b0, e_b1, e_10, e_11, true_or, or_true, false_or, nI_add, z_bi_0, z_bi_1, e_bb, z_uR_s, z_uR_k, z_uL_s, z_uL_k, true_and, and_true, and_self, not_true_eq_false, not_false_eq_true, forall_const, Option.toList, List.cons_append, List.nil_append, List.singleton_append, Nat.reduceAdd, Nat.zero_add, Nat.add_zero, Nat.reduceEqDiff, ↓reduceIte, ite_true, ite_false, reduceCtorEq, Int.cast_ofNat_Int, Int.reduceAdd, Int.reduceToNat, ne_eq, false_imp_iff, true_imp_iff, cl_20, bf_20_0, bf_20_2, bf_20_26, bf_20_32, bo_20_0, bo_20_2, bo_20_26, bo_20_32, h1, h2, q1, z_t4, z_t5, z_t6, hk']
    refine x_joins q1.1 q2 ?_
    simp (disch := omega) only [e_q0, e_nil, e_cons, e_q, e_qf, e_qt, e_af, z_hd, z_mk1, z_lg, z_s1, z_s2, z_kl, z_en, z_kI, z_fv, z_ic, z_c1, z_sh, z_pop, z_rc, z_tgt, z_tsw, z_lsw, z_nw, z_ac, o_kI, o_kL, o_ldi, o_ldl, o_lda, o_sti, o_sta, o_stl, o_inc, o_b2, o_bz, o_l2, o_lz, o_ls, o_lneg, o_i2l, o_l2i, o_lcmp, o_dup, o_dupx1, o_dup2, o_if, o_if2, o_ifnull, o_get, o_put, o_iald, o_zald, o_aald, o_alen, o_iast, o_zast, o_aast, o_new, o_newa, o_call, o_call1, o_callN, o_obj, o_reti, o_retl, o_ret, o_tsw, o_lsw, va_rf_s, va_rf_n, z_u2_s, z_u2_k, z_u2_f, z_uR_f, z_uL_f, e_ix, e_vp, e_lt, e_le, e_eq, e_lt0, e_eq0, e_b0, e_b1, e_10, e_11, true_or, or_true, false_or, nI_add, z_bi_0, z_bi_1, e_bb, z_uR_s, z_uR_k, z_uL_s, z_uL_k, true_and, and_true, and_self, not_true_eq_false, not_false_eq_true, forall_const, Option.toList, List.cons_append, List.nil_append, List.singleton_append, Nat.reduceAdd, Nat.zero_add, Nat.add_zero, Nat.reduceEqDiff, ↓reduceIte, ite_true, ite_false, reduceCtorEq, Int.cast_ofNat_Int, Int.reduceAdd, Int.reduceToNat, ne_eq, false_imp_iff, true_imp_iff, cl_20, bf_20_0, bf_20_2, bf_20_26, bf_20_32, bo_20_0, bo_20_2, bo_20_26, bo_20_32, h1, h2, q1]
    refine ⟨fun c1 => ?_, fun c1 => ?_⟩
    · rw [if_neg (by rw [c1]; decide)] at e
      exact ih2 e
    · rw [Bool.not_eq_false] at c1
      rw [if_pos c1] at e
      have := sm (s.1.2 - (k + 1)) (k + 1) k e
      rw [show k + 1 + (s.1.2 - (k + 1)) = s.1.2 by omega] at this
      rw [this] at h
      exact h
end
