section
variable {l : Launch} {G : ZG} {mi : Nat → Nat → Int32} {mr : Nat → Nat → Option Nat} {ml : Nat → Nat → Int64} {T : (Nat → Nat × Nat) × Nat × Nat} {Q : ZR} {A : ZA} {B : Nat} {s : ZS} {r : ZW}
theorem f_evt_row {c a b : Nat} {e : Bool} (hs : f_sok s) (hr : f_row s B r) (hB : B ≤ 900000) (ha : a < 10) (hb : b < 10) : f_row s (B + 99) (f_event s (nI 255) r c a b e).2 := by
  have h8 := hs.1
  have h0 := f_row_mono hr (show B ≤ B + 99 by omega)
  unfold f_event
  split
  · split
    · exact h0
    · exact f_row_mono (f_gos_row (co := nI 255) hs (10 * a + b) r B hr (by omega)) (by omega)
  split
  · split
    · rename_i q
      exact f_row_set hs h0 (Or.inr (Or.inl ⟨by omega, by omega, f_one_dwn (hr.2.2.1 a q.1)⟩))
    · exact h0
  split
  · split
    · rename_i q
      exact f_row_set hs h0 (Or.inr (Or.inr (Or.inl ⟨by omega, by omega, by rw [show 67 + a - 67 = a by omega]; exact q.1.2, b, by omega, rfl⟩)))
    · exact h0
  split
  · exact h0
  split
  · exact h0
  split
  · exact h0
  split
  · exact h0
  · exact h0
theorem c_judge {x : Int32} {y : Int64} (hS : SC T mr) (hP : PX A mi ml) (hI : IA A B) (hB : B ≤ 800000) (hQ : ∀ f g, PX A f ml → FG g mr → (∀ c, 373 ≤ c → f c = mi c) → Q (some (.int (a_judge A x y))) (f, g, ml, T)) : z_Ok l G m_MP_judge [.ref 2, .int x, .long y] (mi, mr, ml, T) Q := by
  have s1 := hS.1
  have s5 := hS.n
  have s25 := hS.t
  have h8 := hI.1.1
  unfold a_judge at hQ
  have bad : ¬ (f_in x 1 3 = true ∧ 0 ≤ y.toInt ∧ y.toInt < ((100000 ^ z_ix x : Nat) : Int)) → Q (some (.int (z_ng 2))) (mi, mr, ml, T) := fun q => by
    have w := hQ mi mr hP (fun _ _ _ => rfl) fun _ _ => rfl
    rw [if_neg q] at w
    exact w
  refine z_okN cz_78.1 (by rw [cl_78]; exact Nat.le_of_ble_eq_true rfl) cz_78.2 (z_run ck_78 6 bf_78_0 ?_)
  simp (disch := omega) only [e_q0, e_nil, e_cons, e_q, e_qf, e_qt, e_af, z_hd, z_mk1, z_lg, z_s1, z_s2, z_kl, z_en, z_kI, z_fv, z_ic, z_c1, z_sh, z_pop, z_rc, z_tgt, z_tsw, z_lsw, z_nw, z_ac, o_kI, o_kL, o_ldi, o_ldl, o_lda, o_sti, o_sta, o_stl, o_inc, o_b2, o_bz, o_l2, o_lz, o_ls, o_lneg, o_i2l, o_l2i, o_lcmp, o_dup, o_dupx1, o_dup2, o_if, o_if2, o_ifnull, o_get, o_put, o_iald, o_zald, o_aald, o_alen, o_iast, o_zast, o_aast, o_new, o_newa, o_call, o_call1, o_callN, o_obj, o_reti, o_retl, o_ret, o_tsw, o_lsw, va_rf_s, va_rf_n, z_u2_s, z_u2_k, z_u2_f, z_uR_f, z_uL_f, e_ix, e_vp, e_lt, e_le, e_eq, e_lt0, e_eq0, e_b0, e_b1, e_10, e_11, true_or, or_true, false_or, nI_add, z_bi_0, z_bi_1, e_bb, z_uR_s, z_uR_k, z_uL_s, z_uL_k, true_and, and_true, and_self, not_true_eq_false, not_false_eq_true, forall_const, Option.toList, List.cons_append, List.nil_append, List.singleton_append, Nat.reduceAdd, Nat.zero_add, Nat.add_zero, Nat.reduceEqDiff, ↓reduceIte, ite_true, ite_false, reduceCtorEq, Int.cast_ofNat_Int, Int.reduceAdd, Int.reduceToNat, ne_eq, false_imp_iff, true_imp_iff, cl_78, bf_78_0, bf_78_25, bf_78_28, bf_78_42, bf_78_77, bf_78_83, bo_78_0, bo_78_25, bo_78_28, bo_78_42, bo_78_77, bo_78_83, s1, s5, s25]
  refine x_isWithin ?_
  cases hq2 : f_in x 1 3 with
  | false =>
    simp (disch := omega) only [e_q0, e_nil, e_cons, e_q, e_qf, e_qt, e_af, z_hd, z_mk1, z_lg, z_s1, z_s2, z_kl, z_en, z_kI, z_fv, z_ic, z_c1, z_sh, z_pop, z_rc, z_tgt, z_tsw, z_lsw, z_nw, z_ac, o_kI, o_kL, o_ldi, o_ldl, o_lda, o_sti, o_sta, o_stl, o_inc, o_b2, o_bz, o_l2, o_lz, o_ls, o_lneg, o_i2l, o_l2i, o_lcmp, o_dup, o_dupx1, o_dup2, o_if, o_if2, o_ifnull, o_get, o_put, o_iald, o_zald, o_aald, o_alen, o_iast, o_zast, o_aast, o_new, o_newa, o_call, o_call1, o_callN, o_obj, o_reti, o_retl, o_ret, o_tsw, o_lsw, va_rf_s, va_rf_n, z_u2_s, z_u2_k, z_u2_f, z_uR_f, z_uL_f, e_ix, e_vp, e_lt, e_le, e_eq, e_lt0, e_eq0, e_b0, e_b1, e_10, e_11, true_or, or_true, false_or, nI_add, z_bi_0, z_bi_1, e_bb, z_uR_s, z_uR_k, z_uL_s, z_uL_k, true_and, and_true, and_self, not_true_eq_false, not_false_eq_true, forall_const, Option.toList, List.cons_append, List.nil_append, List.singleton_append, Nat.reduceAdd, Nat.zero_add, Nat.add_zero, Nat.reduceEqDiff, ↓reduceIte, ite_true, ite_false, reduceCtorEq, Int.cast_ofNat_Int, Int.reduceAdd, Int.reduceToNat, ne_eq, false_imp_iff, true_imp_iff, cl_78, bf_78_0, bf_78_25, bf_78_28, bf_78_42, bf_78_77, bf_78_83, bo_78_0, bo_78_25, bo_78_28, bo_78_42, bo_78_77, bo_78_83, s1, s5, z_biF]
    exact bad (fun q => by rw [hq2] at q; exact absurd q.1 (by decide))
  | true =>
    obtain ⟨n, hn1, hn, rfl⟩ := f_in_t (by omega) (by omega) hq2
    rw [e_ix (by omega)] at hQ bad
    simp (disch := omega) only [e_q0, e_nil, e_cons, e_q, e_qf, e_qt, e_af, z_hd, z_mk1, z_lg, z_s1, z_s2, z_kl, z_en, z_kI, z_fv, z_ic, z_c1, z_sh, z_pop, z_rc, z_tgt, z_tsw, z_lsw, z_nw, z_ac, o_kI, o_kL, o_ldi, o_ldl, o_lda, o_sti, o_sta, o_stl, o_inc, o_b2, o_bz, o_l2, o_lz, o_ls, o_lneg, o_i2l, o_l2i, o_lcmp, o_dup, o_dupx1, o_dup2, o_if, o_if2, o_ifnull, o_get, o_put, o_iald, o_zald, o_aald, o_alen, o_iast, o_zast, o_aast, o_new, o_newa, o_call, o_call1, o_callN, o_obj, o_reti, o_retl, o_ret, o_tsw, o_lsw, va_rf_s, va_rf_n, z_u2_s, z_u2_k, z_u2_f, z_uR_f, z_uL_f, e_ix, e_vp, e_lt, e_le, e_eq, e_lt0, e_eq0, e_b0, e_b1, e_10, e_11, true_or, or_true, false_or, nI_add, z_bi_0, z_bi_1, e_bb, z_uR_s, z_uR_k, z_uL_s, z_uL_k, true_and, and_true, and_self, not_true_eq_false, not_false_eq_true, forall_const, Option.toList, List.cons_append, List.nil_append, List.singleton_append, Nat.reduceAdd, Nat.zero_add, Nat.add_zero, Nat.reduceEqDiff, ↓reduceIte, ite_true, ite_false, reduceCtorEq, Int.cast_ofNat_Int, Int.reduceAdd, Int.reduceToNat, ne_eq, false_imp_iff, true_imp_iff, cl_78, bf_78_0, bf_78_25, bf_78_28, bf_78_42, bf_78_77, bf_78_83, bo_78_0, bo_78_25, bo_78_28, bo_78_42, bo_78_77, bo_78_83, s1, s5, s25, z_biT, lg_lt]
    have y0 : (y < lN 0) = (y.toInt < 0) := propext (by rw [Int64.lt_iff_toInt_lt, lN_Z (by omega)]; rfl)
    refine ⟨fun c => ?_, fun c => ?_⟩
    · rw [y0] at c
      exact bad (fun q => by omega)
    rw [y0] at c
    obtain ⟨v, hv, ev⟩ : ∃ v : Nat, v < 9223372036854775808 ∧ y = lN v := by
      have hy := Int64.toInt_lt y
      exact ⟨y.toInt.toNat, by omega, lN_Zi (by omega) (by omega)⟩
    have evi : y.toInt = (v : Int) := by rw [ev, lN_Z hv]
    rw [evi] at hQ bad
    subst ev
    refine x_withoutEvents hv (by omega) ?_
    have hp : 0 < 100000 ^ n := Nat.pow_pos (by omega)
    simp (disch := omega) only [e_q0, e_nil, e_cons, e_q, e_qf, e_qt, e_af, z_hd, z_mk1, z_lg, z_s1, z_s2, z_kl, z_en, z_kI, z_fv, z_ic, z_c1, z_sh, z_pop, z_rc, z_tgt, z_tsw, z_lsw, z_nw, z_ac, o_kI, o_kL, o_ldi, o_ldl, o_lda, o_sti, o_sta, o_stl, o_inc, o_b2, o_bz, o_l2, o_lz, o_ls, o_lneg, o_i2l, o_l2i, o_lcmp, o_dup, o_dupx1, o_dup2, o_if, o_if2, o_ifnull, o_get, o_put, o_iald, o_zald, o_aald, o_alen, o_iast, o_zast, o_aast, o_new, o_newa, o_call, o_call1, o_callN, o_obj, o_reti, o_retl, o_ret, o_tsw, o_lsw, va_rf_s, va_rf_n, z_u2_s, z_u2_k, z_u2_f, z_uR_f, z_uL_f, e_ix, e_vp, e_lt, e_le, e_eq, e_lt0, e_eq0, e_b0, e_b1, e_10, e_11, true_or, or_true, false_or, nI_add, z_bi_0, z_bi_1, e_bb, z_uR_s, z_uR_k, z_uL_s, z_uL_k, true_and, and_true, and_self, not_true_eq_false, not_false_eq_true, forall_const, Option.toList, List.cons_append, List.nil_append, List.singleton_append, Nat.reduceAdd, Nat.zero_add, Nat.add_zero, Nat.reduceEqDiff, ↓reduceIte, ite_true, ite_false, reduceCtorEq, Int.cast_ofNat_Int, Int.reduceAdd, Int.reduceToNat, ne_eq, false_imp_iff, true_imp_iff, cl_78, bf_78_0, bf_78_25, bf_78_28, bf_78_42, bf_78_77, bf_78_83, bo_78_0, bo_78_25, bo_78_28, bo_78_42, bo_78_77, bo_78_83, s1, s5, s25, z_biT, lg_eq]
    have hdl : v / 100000 ^ n ≤ v := Nat.div_le_self _ _
    have ec : (lN (v / 100000 ^ n) = lN 0) = (v < 100000 ^ n) := propext (by
      constructor
      · intro q
        have := congrArg Int64.toInt q
        rw [lN_Z (by omega), lN_Z (by omega)] at this
        rcases Nat.div_eq_zero_iff.mp (show v / 100000 ^ n = 0 by omega) with w | w
        · omega
        · exact w
      · intro q
        rw [Nat.div_eq_of_lt q])
    refine ⟨fun c2 => ?_, fun c2 => ?_⟩
    · rw [ec] at c2
      rw [if_pos ⟨hq2, by omega, by omega⟩, show ((v : Int)).toNat = v from rfl] at hQ
      refine c_toTrial hS hP hI fun f f1 f2 => ?_
      simp (disch := omega) only [e_q0, e_nil, e_cons, e_q, e_qf, e_qt, e_af, z_hd, z_mk1, z_lg, z_s1, z_s2, z_kl, z_en, z_kI, z_fv, z_ic, z_c1, z_sh, z_pop, z_rc, z_tgt, z_tsw, z_lsw, z_nw, z_ac, o_kI, o_kL, o_ldi, o_ldl, o_lda, o_sti, o_sta, o_stl, o_inc, o_b2, o_bz, o_l2, o_lz, o_ls, o_lneg, o_i2l, o_l2i, o_lcmp, o_dup, o_dupx1, o_dup2, o_if, o_if2, o_ifnull, o_get, o_put, o_iald, o_zald, o_aald, o_alen, o_iast, o_zast, o_aast, o_new, o_newa, o_call, o_call1, o_callN, o_obj, o_reti, o_retl, o_ret, o_tsw, o_lsw, va_rf_s, va_rf_n, z_u2_s, z_u2_k, z_u2_f, z_uR_f, z_uL_f, e_ix, e_vp, e_lt, e_le, e_eq, e_lt0, e_eq0, e_b0, e_b1, e_10, e_11, true_or, or_true, false_or, nI_add, z_bi_0, z_bi_1, e_bb, z_uR_s, z_uR_k, z_uL_s, z_uL_k, true_and, and_true, and_self, not_true_eq_false, not_false_eq_true, forall_const, Option.toList, List.cons_append, List.nil_append, List.singleton_append, Nat.reduceAdd, Nat.zero_add, Nat.add_zero, Nat.reduceEqDiff, ↓reduceIte, ite_true, ite_false, reduceCtorEq, Int.cast_ofNat_Int, Int.reduceAdd, Int.reduceToNat, ne_eq, false_imp_iff, true_imp_iff, cl_78, bf_78_0, bf_78_25, bf_78_28, bf_78_42, bf_78_77, bf_78_83, bo_78_0, bo_78_25, bo_78_28, bo_78_42, bo_78_77, bo_78_83, s1, s5, s25]
      refine z_for (α := (Nat → Nat → Int32) × (Nat → Nat → Option Nat) × ZW) (P := fun k p => FX p.1 mi p.2.1 mr 25 → MX p.1 25 A.s p.2.2 → f_row A.s (B + 99 * k) p.2.2 → f_jdg A n v n 0 A.r = f_jdg A n v (n - k) k p.2.2 → z_W l G 78 (T.2.1, T.2.2) (fun v M' => Q v M' ∧ M'.2.2.2 = T) 42 [some (.ref 2), some (.int (nI n)), some (.long (lN v)), none, some (.int (nI k)), none] [] (p.1, p.2.1, ml, T)) n (fun p g1 g2 g3 g4 => ?_) (fun k hk ih p g1 g2 g3 g4 => ?_) 0 (by omega) (f, mr, A.r) ⟨fun c hc => f1 c (by omega), fun _ _ => rfl⟩ f2 (by simpa using hI.2.1) rfl
      · refine z_run ck_78 6 bf_78_42 ?_
        simp (disch := omega) only [e_q0, e_nil, e_cons, e_q, e_qf, e_qt, e_af, z_hd, z_mk1, z_lg, z_s1, z_s2, z_kl, z_en, z_kI, z_fv, z_ic, z_c1, z_sh, z_pop, z_rc, z_tgt, z_tsw, z_lsw, z_nw, z_ac, o_kI, o_kL, o_ldi, o_ldl, o_lda, o_sti, o_sta, o_stl, o_inc, o_b2, o_bz, o_l2, o_lz, o_ls, o_lneg, o_i2l, o_l2i, o_lcmp, o_dup, o_dupx1, o_dup2, o_if, o_if2, o_ifnull, o_get, o_put, o_iald, o_zald, o_aald, o_alen, o_iast, o_zast, o_aast, o_new, o_newa, o_call, o_call1, o_callN, o_obj, o_reti, o_retl, o_ret, o_tsw, o_lsw, va_rf_s, va_rf_n, z_u2_s, z_u2_k, z_u2_f, z_uR_f, z_uL_f, e_ix, e_vp, e_lt, e_le, e_eq, e_lt0, e_eq0, e_b0, e_b1, e_10, e_11, true_or, or_true, false_or, nI_add, z_bi_0, z_bi_1, e_bb, z_uR_s, z_uR_k, z_uL_s, z_uL_k, true_and, and_true, and_self, not_true_eq_false, not_false_eq_true, forall_const, Option.toList, List.cons_append, List.nil_append, List.singleton_append, Nat.reduceAdd, Nat.zero_add, Nat.add_zero, Nat.reduceEqDiff, ↓reduceIte, ite_true, ite_false, reduceCtorEq, Int.cast_ofNat_Int, Int.reduceAdd, Int.reduceToNat, ne_eq, false_imp_iff, true_imp_iff, cl_78, bf_78_0, bf_78_25, bf_78_28, bf_78_42, bf_78_77, bf_78_83, bo_78_0, bo_78_25, bo_78_28, bo_78_42, bo_78_77, bo_78_83, Nat.le_refl]
        obtain ⟨p1, p2, p3⟩ := PX.of25 g1 hP h8
        have w := hQ _ _ p1 p2 p3
        rw [g4, Nat.sub_self] at w
        exact w
      · obtain ⟨p1, p2, p3⟩ := PX.of25 g1 hP h8
        have hS' := SC.of hS p2
        have s1' := hS'.1
        have hk' := Nat.not_le.mpr hk
        refine z_run ck_78 6 bf_78_42 ?_
        simp (disch := omega) only [e_q0, e_nil, e_cons, e_q, e_qf, e_qt, e_af, z_hd, z_mk1, z_lg, z_s1, z_s2, z_kl, z_en, z_kI, z_fv, z_ic, z_c1, z_sh, z_pop, z_rc, z_tgt, z_tsw, z_lsw, z_nw, z_ac, o_kI, o_kL, o_ldi, o_ldl, o_lda, o_sti, o_sta, o_stl, o_inc, o_b2, o_bz, o_l2, o_lz, o_ls, o_lneg, o_i2l, o_l2i, o_lcmp, o_dup, o_dupx1, o_dup2, o_if, o_if2, o_ifnull, o_get, o_put, o_iald, o_zald, o_aald, o_alen, o_iast, o_zast, o_aast, o_new, o_newa, o_call, o_call1, o_callN, o_obj, o_reti, o_retl, o_ret, o_tsw, o_lsw, va_rf_s, va_rf_n, z_u2_s, z_u2_k, z_u2_f, z_uR_f, z_uL_f, e_ix, e_vp, e_lt, e_le, e_eq, e_lt0, e_eq0, e_b0, e_b1, e_10, e_11, true_or, or_true, false_or, nI_add, z_bi_0, z_bi_1, e_bb, z_uR_s, z_uR_k, z_uL_s, z_uL_k, true_and, and_true, and_self, not_true_eq_false, not_false_eq_true, forall_const, Option.toList, List.cons_append, List.nil_append, List.singleton_append, Nat.reduceAdd, Nat.zero_add, Nat.add_zero, Nat.reduceEqDiff, ↓reduceIte, ite_true, ite_false, reduceCtorEq, Int.cast_ofNat_Int, Int.reduceAdd, Int.reduceToNat, ne_eq, false_imp_iff, true_imp_iff, cl_78, bf_78_0, bf_78_25, bf_78_28, bf_78_42, bf_78_77, bf_78_83, bo_78_0, bo_78_25, bo_78_28, bo_78_42, bo_78_77, bo_78_83, s1', s5, s25, hk', e_sub]
        refine x_withoutEvents hv (by omega) ?_
        have hdl2 : v / 100000 ^ (n - 1 - k) ≤ v := Nat.div_le_self _ _
        have hfl : v / 100000 ^ (n - 1 - k) % 100000 < 100000 := Nat.mod_lt _ (by omega)
        have ez : (z_lrem (lN (v / 100000 ^ (n - 1 - k))) (lN 100000)).toInt32 = nI (v / 100000 ^ (n - 1 - k) % 100000) := by
          rw [z_lremN (by omega) (by omega) (by omega), e_lNI (by omega), Int32.toInt32_toInt64]
        have g5 : f_jdg A n v n 0 A.r = if (f_event A.s (nI 255) p.2.2 (v / 100000 ^ (n - 1 - k) % 100000 / 10000) (v / 100000 ^ (n - 1 - k) % 100000 / 1000 % 10) (v / 100000 ^ (n - 1 - k) % 100000 / 100 % 10) (decide (v / 100000 ^ (n - 1 - k) % 100000 / 10 % 10 = 0 ∧ v / 100000 ^ (n - 1 - k) % 100000 % 10 = 0))).1 = true
            then f_jdg A n v (n - (k + 1)) (k + 1) (f_event A.s (nI 255) p.2.2 (v / 100000 ^ (n - 1 - k) % 100000 / 10000) (v / 100000 ^ (n - 1 - k) % 100000 / 1000 % 10) (v / 100000 ^ (n - 1 - k) % 100000 / 100 % 10) (decide (v / 100000 ^ (n - 1 - k) % 100000 / 10 % 10 = 0 ∧ v / 100000 ^ (n - 1 - k) % 100000 % 10 = 0))).2
            else nI k := by
          rw [g4, show n - k = n - (k + 1) + 1 by omega]
          rfl
        generalize v / 100000 ^ (n - 1 - k) % 100000 = w at *
        have hev := f_evt_row (c := w / 10000) (a := w / 1000 % 10) (b := w / 100 % 10) (e := decide (w / 10 % 10 = 0 ∧ w % 10 = 0)) hI.1 g3 (by omega) (by omega) (by omega)
        have n0 : ¬ lN 100000 = lN 0 := lN_ne0 (by omega) (by omega)
        simp (disch := omega) only [e_q0, e_nil, e_cons, e_q, e_qf, e_qt, e_af, z_hd, z_mk1, z_lg, z_s1, z_s2, z_kl, z_en, z_kI, z_fv, z_ic, z_c1, z_sh, z_pop, z_rc, z_tgt, z_tsw, z_lsw, z_nw, z_ac, o_kI, o_kL, o_ldi, o_ldl, o_lda, o_sti, o_sta, o_stl, o_inc, o_b2, o_bz, o_l2, o_lz, o_ls, o_lneg, o_i2l, o_l2i, o_lcmp, o_dup, o_dupx1, o_dup2, o_if, o_if2, o_ifnull, o_get, o_put, o_iald, o_zald, o_aald, o_alen, o_iast, o_zast, o_aast, o_new, o_newa, o_call, o_call1, o_callN, o_obj, o_reti, o_retl, o_ret, o_tsw, o_lsw, va_rf_s, va_rf_n, z_u2_s, z_u2_k, z_u2_f, z_uR_f, z_uL_f, e_ix, e_vp, e_lt, e_le, e_eq, e_lt0, e_eq0, e_b0, e_b1, e_10, e_11, true_or, or_true, false_or, nI_add, z_bi_0, z_bi_1, e_bb, z_uR_s, z_uR_k, z_uL_s, z_uL_k, true_and, and_true, and_self, not_true_eq_false, not_false_eq_true, forall_const, Option.toList, List.cons_append, List.nil_append, List.singleton_append, Nat.reduceAdd, Nat.zero_add, Nat.add_zero, Nat.reduceEqDiff, ↓reduceIte, ite_true, ite_false, reduceCtorEq, Int.cast_ofNat_Int, Int.reduceAdd, Int.reduceToNat, ne_eq, false_imp_iff, true_imp_iff, cl_78, bf_78_0, bf_78_25, bf_78_28, bf_78_42, bf_78_77, bf_78_83, bo_78_0, bo_78_25, bo_78_28, bo_78_42, bo_78_77, bo_78_83, s1', s5, s25, ez]
        refine ⟨n0, c_happens (mi := p.1) (mr := p.2.1) (s := A.s) (r := p.2.2) hS' g2 hI.1 g3 (by omega) hfl fun f' g' u1 u2 => ?_⟩
        generalize f_event A.s (nI 255) p.2.2 (w / 10000) (w / 1000 % 10) (w / 100 % 10) (decide (w / 10 % 10 = 0 ∧ w % 10 = 0)) = ev at *
        obtain ⟨eb, er⟩ := ev
        have u3 := FX.trans u1 g1
        obtain ⟨p1', p2', p3'⟩ := PX.of25 u3 hP h8
        cases eb with
        | true =>
          simp (disch := omega) only [e_q0, e_nil, e_cons, e_q, e_qf, e_qt, e_af, z_hd, z_mk1, z_lg, z_s1, z_s2, z_kl, z_en, z_kI, z_fv, z_ic, z_c1, z_sh, z_pop, z_rc, z_tgt, z_tsw, z_lsw, z_nw, z_ac, o_kI, o_kL, o_ldi, o_ldl, o_lda, o_sti, o_sta, o_stl, o_inc, o_b2, o_bz, o_l2, o_lz, o_ls, o_lneg, o_i2l, o_l2i, o_lcmp, o_dup, o_dupx1, o_dup2, o_if, o_if2, o_ifnull, o_get, o_put, o_iald, o_zald, o_aald, o_alen, o_iast, o_zast, o_aast, o_new, o_newa, o_call, o_call1, o_callN, o_obj, o_reti, o_retl, o_ret, o_tsw, o_lsw, va_rf_s, va_rf_n, z_u2_s, z_u2_k, z_u2_f, z_uR_f, z_uL_f, e_ix, e_vp, e_lt, e_le, e_eq, e_lt0, e_eq0, e_b0, e_b1, e_10, e_11, true_or, or_true, false_or, nI_add, z_bi_0, z_bi_1, e_bb, z_uR_s, z_uR_k, z_uL_s, z_uL_k, true_and, and_true, and_self, not_true_eq_false, not_false_eq_true, forall_const, Option.toList, List.cons_append, List.nil_append, List.singleton_append, Nat.reduceAdd, Nat.zero_add, Nat.add_zero, Nat.reduceEqDiff, ↓reduceIte, ite_true, ite_false, reduceCtorEq, Int.cast_ofNat_Int, Int.reduceAdd, Int.reduceToNat, ne_eq, false_imp_iff, true_imp_iff, cl_78, bf_78_0, bf_78_25, bf_78_28, bf_78_42, bf_78_77, bf_78_83, bo_78_0, bo_78_25, bo_78_28, bo_78_42, bo_78_77, bo_78_83, z_biT]
          exact ih (f', g', er) u3 (u2 rfl) (by rw [show B + 99 * (k + 1) = B + 99 * k + 99 by omega]; exact hev) (by rw [g5]; exact if_pos rfl)
        | false =>
          have w := hQ _ _ p1' p2' p3'
          rw [g5, if_neg (show ¬ ((false, er) : Bool × ZW).1 = true from fun q => by cases q)] at w
          simp (disch := omega) only [e_q0, e_nil, e_cons, e_q, e_qf, e_qt, e_af, z_hd, z_mk1, z_lg, z_s1, z_s2, z_kl, z_en, z_kI, z_fv, z_ic, z_c1, z_sh, z_pop, z_rc, z_tgt, z_tsw, z_lsw, z_nw, z_ac, o_kI, o_kL, o_ldi, o_ldl, o_lda, o_sti, o_sta, o_stl, o_inc, o_b2, o_bz, o_l2, o_lz, o_ls, o_lneg, o_i2l, o_l2i, o_lcmp, o_dup, o_dupx1, o_dup2, o_if, o_if2, o_ifnull, o_get, o_put, o_iald, o_zald, o_aald, o_alen, o_iast, o_zast, o_aast, o_new, o_newa, o_call, o_call1, o_callN, o_obj, o_reti, o_retl, o_ret, o_tsw, o_lsw, va_rf_s, va_rf_n, z_u2_s, z_u2_k, z_u2_f, z_uR_f, z_uL_f, e_ix, e_vp, e_lt, e_le, e_eq, e_lt0, e_eq0, e_b0, e_b1, e_10, e_11, true_or, or_true, false_or, nI_add, z_bi_0, z_bi_1, e_bb, z_uR_s, z_uR_k, z_uL_s, z_uL_k, true_and, and_true, and_self, not_true_eq_false, not_false_eq_true, forall_const, Option.toList, List.cons_append, List.nil_append, List.singleton_append, Nat.reduceAdd, Nat.zero_add, Nat.add_zero, Nat.reduceEqDiff, ↓reduceIte, ite_true, ite_false, reduceCtorEq, Int.cast_ofNat_Int, Int.reduceAdd, Int.reduceToNat, ne_eq, false_imp_iff, true_imp_iff, cl_78, bf_78_0, bf_78_25, bf_78_28, bf_78_42, bf_78_77, bf_78_83, bo_78_0, bo_78_25, bo_78_28, bo_78_42, bo_78_77, bo_78_83, z_biF]
          exact w
    · rw [ec] at c2
      exact bad (fun q => by omega)
end
