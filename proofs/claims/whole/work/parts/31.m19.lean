/-- the letters from k on, d of them -/
def rd_go (txt : ZW) (len : Nat) : Nat → Nat → ZRd → Int32 × ZRd
  | 0, _, R => (if R.2.2.2 = 0 then z_ng 9 else nI len, R)
  | d + 1, k, R => if (rd_take R (txt k)).1 = true then rd_go txt len d (k + 1) (rd_take R (txt k)).2 else (nI k, (rd_take R (txt k)).2)
def rd_0 (F : Nat → Nat → Int32) (mg : Int32) : ZRd := (((0, 0), F), (mg, nI 77, 1))
/-- the error position or NONE, and what was read; F, mg: what was there before -/
def rd_text (txt : ZW) (len : Nat) (F : Nat → Nat → Int32) (mg : Int32) : Int32 × ZRd := if len = 0 ∨ ¬ txt 0 = nI 77 then (nI 0, rd_0 F mg) else rd_go txt len (len - 1) 1 (rd_0 F mg)
theorem rd_0_ok {F : Nat → Nat → Int32} {mg : Int32} : rd_ok (rd_0 F mg) := ⟨Nat.zero_le _, Nat.zero_le _, by show 1 ≤ 5; omega, Or.inr (Or.inl rfl)⟩
theorem rd_take_ok {R : ZRd} {x : Int32} (h : rd_ok R) (ht : (rd_take R x).1 = true) : rd_ok (rd_take R x).2 := by
  obtain ⟨h1, h2, h3, h4⟩ := h
  unfold rd_take at ht ⊢
  by_cases c : R.2.2.2 = 0
  · rw [if_pos c] at ht ⊢
    unfold rd_sign at ht ⊢
    by_cases c1 : x = nI 103 ∨ x = nI 108
    · rw [if_pos c1] at ht ⊢
      exact ⟨h1, h2, by simp, Or.inr (Or.inr (Or.inl ⟨c1, of_decide_eq_true ht⟩))⟩
    rw [if_neg c1] at ht ⊢
    by_cases c2 : x = nI 114
    · rw [if_pos c2] at ht ⊢
      by_cases c3 : R.1.1.1 = 8
      · rw [if_pos c3] at ht; cases ht
      · rw [if_neg c3]
        exact ⟨by show R.1.1.1 + 1 ≤ 8; omega, h2, by simp, Or.inl rfl⟩
    rw [if_neg c2] at ht ⊢
    by_cases c3 : x = nI 107
    · rw [if_pos c3] at ht ⊢
      simp only [Bool.and_eq_true, decide_eq_true_eq] at ht
      exact ⟨h1, h2, by simp, Or.inr (Or.inr (Or.inr ⟨c3, ht.2, fun q => by cases q⟩))⟩
    · rw [if_neg c3] at ht; cases ht
  rw [if_neg c] at ht ⊢
  by_cases c1 : R.2.2.1 = nI 77
  · rw [if_pos c1] at ht ⊢
    exact ⟨h1, h2, by simp, Or.inl rfl⟩
  rw [if_neg c1] at ht ⊢
  by_cases c2 : R.2.2.1 = nI 103
  · rw [if_pos c2] at ht ⊢
    unfold rd_gate at ht ⊢
    split at ht
    · next q =>
      rw [if_pos q]
      have : R.1.1.1 < 8 := by
        rcases h4 with q | q | q | q
        · exact absurd q c
        · exact absurd q c1
        · exact q.2
        · rw [q.1] at c2; exact absurd c2 (by decide)
      exact ⟨by show R.1.1.1 + 1 ≤ 8; omega, h2, by simp, Or.inl rfl⟩
    · cases ht
  rw [if_neg c2] at ht ⊢
  by_cases c3 : R.2.2.1 = nI 108
  · rw [if_pos c3] at ht ⊢
    have h5 : R.1.1.1 < 8 := by
      rcases h4 with q | q | q | q
      · exact absurd q c
      · exact absurd q c1
      · exact q.2
      · rw [q.1] at c3; exact absurd c3 (by decide)
    unfold rd_leaf at ht ⊢
    by_cases c4 : R.2.2.2 = 1
    · rw [if_pos c4] at ht ⊢
      exact ⟨h1, h2, by simp, Or.inr (Or.inr (Or.inl ⟨Or.inr c3, h5⟩))⟩
    · rw [if_neg c4] at ht ⊢
      split at ht
      · next q =>
        rw [if_pos q]
        exact ⟨by show R.1.1.1 + 1 ≤ 8; omega, h2, by simp, Or.inl rfl⟩
      · cases ht
  rw [if_neg c3] at ht ⊢
  have h5 := ((h4.resolve_left c).resolve_left c1).resolve_left (fun q => q.1.elim c2 c3)
  unfold rd_link at ht ⊢
  by_cases c4 : R.2.2.2 = 1
  · rw [if_pos c4] at ht ⊢
    simp only [Bool.and_eq_true] at ht
    obtain ⟨a, ha, hae⟩ := f_idx_t (by omega) ht.1
    exact ⟨h1, h2, by simp, Or.inr (Or.inr (Or.inr ⟨h5.1, h5.2.1, fun _ => ⟨a, ha, z_u2_s.trans hae⟩⟩))⟩
  rw [if_neg c4] at ht ⊢
  by_cases c5 : R.2.2.2 = 2
  · rw [if_pos c5] at ht ⊢
    exact ⟨h1, h2, by simp, Or.inr (Or.inr (Or.inr ⟨h5.1, h5.2.1, fun q => by cases q⟩))⟩
  rw [if_neg c5] at ht ⊢
  by_cases c6 : R.2.2.2 = 3
  · rw [if_pos c6] at ht ⊢
    exact ⟨h1, h2, by simp, Or.inr (Or.inr (Or.inr ⟨h5.1, h5.2.1, fun q => by cases q⟩))⟩
  rw [if_neg c6] at ht ⊢
  by_cases c7 : R.2.2.2 = 4
  · rw [if_pos c7] at ht ⊢
    exact ⟨h1, h2, by simp, Or.inr (Or.inr (Or.inr ⟨h5.1, h5.2.1, fun q => by cases q⟩))⟩
  rw [if_neg c7] at ht ⊢
  split at ht
  · next q =>
    rw [if_pos q]
    exact ⟨h1, by show R.1.1.2 + 1 ≤ 9; omega, by simp, Or.inl rfl⟩
  · cases ht
theorem rd_go_ok {txt : ZW} {len : Nat} : ∀ d k R, rd_ok R → (rd_go txt len d k R).1 = z_ng 9 → k + d < 1000 → len < 1000 → rd_ok (rd_go txt len d k R).2 ∧ (rd_go txt len d k R).2.2.2.2 = 0
  | 0, k, R, h, h2, h3, h4 => by
    unfold rd_go at h2 ⊢
    by_cases c : R.2.2.2 = 0
    · exact ⟨h, c⟩
    · rw [if_neg c] at h2
      exact absurd h2 (by rw [z_on_n h4]; exact id)
  | d + 1, k, R, h, h2, h3, h4 => by
    unfold rd_go at h2 ⊢
    by_cases c : (rd_take R (txt k)).1 = true
    · rw [if_pos c] at h2 ⊢
      exact rd_go_ok d (k + 1) _ (rd_take_ok h c) h2 (by omega) h4
    · rw [if_neg c] at h2
      exact absurd h2 (by rw [z_on_n (by omega)]; exact id)
section
variable {l : Launch} {G : ZG} {mi : Nat → Nat → Int32} {mr : Nat → Nat → Option Nat} {ml : Nat → Nat → Int64} {T : (Nat → Nat × Nat) × Nat × Nat} {Q : ZR} {A : ZA}
theorem PA.rd {f : Nat → Nat → Int32} (hM : PA A mi ml) (h : rd_fr f mi) : PA A f ml :=
  PM.cong hM ⟨h.2 1 (by omega) (by omega) (by omega) (by omega) (by omega), h.2 2 (by omega) (by omega) (by omega) (by omega) (by omega), h.2 6 (by omega) (by omega) (by omega) (by omega) (by omega), h.2 14 (by omega) (by omega) (by omega) (by omega) (by omega), h.2 15 (by omega) (by omega) (by omega) (by omega) (by omega), h.2 21 (by omega) (by omega) (by omega) (by omega) (by omega), h.2 23 (by omega) (by omega) (by omega) (by omega) (by omega)⟩
    (fun c c1 c2 _ _ _ => h.1 c (by omega) (by omega)) (by rw [h.1 _ (by omega) (by omega)]; exact hM.2.2.1.1) (by rw [h.1 _ (by omega) (by omega)]; exact hM.2.2.1.2.1) (by rw [h.1 _ (by omega) (by omega)]; exact hM.2.2.1.2.2.1)
theorem rd_fr.trans {f g : Nat → Nat → Int32} (h1 : rd_fr f g) (h2 : rd_fr g mi) : rd_fr f mi := ⟨fun c c1 c2 => (h1.1 c c1 c2).trans (h2.1 c c1 c2), fun j j1 j2 j3 j4 j5 => (h1.2 j j1 j2 j3 j4 j5).trans (h2.2 j j1 j2 j3 j4 j5)⟩
/-- the arrays that are read into, in a memory -/
def rd_F (mi : Nat → Nat → Int32) : Nat → Nat → Int32 := fun i => mi (392 + i)
theorem k_readText (hS : SM T mr) (hM : PA A mi ml) (hQ : ∀ f F mg, F = rd_F mi → mg = mi 373 37 → PR (rd_text A.txt A.len F mg).2 f → rd_fr f mi → Q (some (.int (rd_text A.txt A.len F mg).1)) (f, mr, ml, T)) : z_Ok l G m_Model_readText [.ref 373] (mi, mr, ml, T) Q := by
  have hl : A.len ≤ 100 := hM.2.1.2.1
  have hle := hM.2.1.1
  have htx := hM.2.1.2.2
  have pr1 : PR (rd_0 (rd_F mi) (mi 373 37)) (z_u2 (z_u2 (z_u2 (z_u2 mi 373 26 (nI 0)) 373 31 (nI 0)) 373 38 (nI 77)) 373 39 (nI 1)) := by
    simp (disch := omega) only [PR, rd_0, rd_F, z_u2_f, z_u2_k, z_u2_s, and_self]
  have fr1 : rd_fr (z_u2 (z_u2 (z_u2 (z_u2 mi 373 26 (nI 0)) 373 31 (nI 0)) 373 38 (nI 77)) 373 39 (nI 1)) mi := ⟨fun c c1 c2 => by simp (disch := omega) only [z_u2_f], fun j j1 j2 j3 j4 j5 => by simp (disch := omega) only [z_u2_f, z_u2_k]⟩
  have hQ1 := fun f => hQ f (rd_F mi) (mi 373 37) rfl rfl
  generalize rd_F mi = F at pr1 hQ1
  generalize mi 373 37 = mg at pr1 hQ1
  clear hQ
  unfold rd_text at hQ1
  refine z_okN cz_122.1 (by rw [cl_122]; exact Nat.le_of_ble_eq_true rfl) cz_122.2 (z_run ck_122 8 bf_122_0 ?_)
  simp (disch := omega) only [e_q0, e_nil, e_cons, e_q, e_qf, e_qt, e_af, z_hd, z_mk1, z_lg, z_s1, z_s2, z_kl, z_en, z_kI, z_fv, z_ic, z_c1, z_sh, z_pop, z_rc, z_tgt, z_tsw, z_lsw, z_nw, z_ac, o_kI, o_kL, o_ldi, o_ldl, o_lda, o_sti, o_sta, o_stl, o_inc, o_b2, o_bz, o_l2, o_lz, o_ls, o_lneg, o_i2l, o_l2i, o_lcmp, o_dup, o_dupx1, o_dup2, o_if, o_if2, o_ifnull, o_get, o_put, o_iald, o_zald, o_aald, o_alen, o_iast, o_zast, o_aast, o_new, o_newa, o_call, o_call1, o_callN, o_obj, o_reti, o_retl, o_ret, o_tsw, o_lsw, va_rf_s, va_rf_n, z_u2_s, z_u2_k, z_u2_f, z_uR_f, z_uL_f, e_ix, e_vp, e_lt, e_le, e_eq, e_lt0, e_eq0, e_b0, e_b1, e_10, e_11, true_or, or_true, false_or, nI_add, z_bi_0, z_bi_1, e_bb, z_uR_s, z_uR_k, z_uL_s, z_uL_k, true_and, and_true, and_self, not_true_eq_false, not_false_eq_true, forall_const, Option.toList, List.cons_append, List.nil_append, List.singleton_append, Nat.reduceAdd, Nat.zero_add, Nat.add_zero, Nat.reduceEqDiff, ↓reduceIte, ite_true, ite_false, reduceCtorEq, Int.cast_ofNat_Int, Int.reduceAdd, Int.reduceToNat, ne_eq, false_imp_iff, true_imp_iff, cl_122, bf_122_0, bf_122_39, bf_122_41, bf_122_43, bf_122_66, bf_122_72, bf_122_84, bf_122_88, bo_122_0, bo_122_39, bo_122_41, bo_122_43, bo_122_66, bo_122_72, bo_122_84, bo_122_88, hS, hle]
  generalize z_u2 (z_u2 (z_u2 (z_u2 mi 373 26 (nI 0)) 373 31 (nI 0)) 373 38 (nI 77)) 373 39 (nI 1) = g at pr1 fr1 ⊢
  refine ⟨fun c => ?_, fun c => ⟨fun c1 => ?_, fun c1 => ?_⟩⟩
  · rw [if_pos (Or.inl c)] at hQ1
    exact hQ1 g pr1 fr1
  · rw [htx 0 (by omega)] at c1
    rw [if_neg (fun q => q.elim c (fun q => q c1))] at hQ1
    refine z_for (α := (Nat → Nat → Int32) × ZRd) (P := fun k z => (PR z.2 z.1 ∧ rd_fr z.1 mi ∧ rd_ok z.2 ∧ rd_go A.txt A.len (A.len - 1) 1 (rd_0 F mg) = rd_go A.txt A.len (A.len - k) k z.2) → z_W l G 122 (T.2.1, T.2.2) (fun v M' => Q v M' ∧ M'.2.2.2 = T) 43 [some (.ref 373), some (.int (nI k))] [] (z.1, mr, ml, T)) A.len (fun z hz => ?_) (fun k hk ih z hz => ?_) 1 (by omega) (g, rd_0 F mg) ⟨pr1, fr1, rd_0_ok, rfl⟩
    · obtain ⟨f, R⟩ := z
      obtain ⟨z1, z2, z3, z4⟩ := hz
      rw [Nat.sub_self] at z4
      rw [z4] at hQ1
      unfold rd_go at hQ1
      have e1 : f 373 1 = nI A.len := (z2.2 1 (by omega) (by omega) (by omega) (by omega) (by omega)).trans hle
      have e2 : f 373 39 = nI R.2.2.2 := z1.2.2.2
      have e3 : R.2.2.2 ≤ 5 := z3.2.2.1
      refine z_run ck_122 8 bf_122_43 ?_
      simp (disch := omega) only [e_q0, e_nil, e_cons, e_q, e_qf, e_qt, e_af, z_hd, z_mk1, z_lg, z_s1, z_s2, z_kl, z_en, z_kI, z_fv, z_ic, z_c1, z_sh, z_pop, z_rc, z_tgt, z_tsw, z_lsw, z_nw, z_ac, o_kI, o_kL, o_ldi, o_ldl, o_lda, o_sti, o_sta, o_stl, o_inc, o_b2, o_bz, o_l2, o_lz, o_ls, o_lneg, o_i2l, o_l2i, o_lcmp, o_dup, o_dupx1, o_dup2, o_if, o_if2, o_ifnull, o_get, o_put, o_iald, o_zald, o_aald, o_alen, o_iast, o_zast, o_aast, o_new, o_newa, o_call, o_call1, o_callN, o_obj, o_reti, o_retl, o_ret, o_tsw, o_lsw, va_rf_s, va_rf_n, z_u2_s, z_u2_k, z_u2_f, z_uR_f, z_uL_f, e_ix, e_vp, e_lt, e_le, e_eq, e_lt0, e_eq0, e_b0, e_b1, e_10, e_11, true_or, or_true, false_or, nI_add, z_bi_0, z_bi_1, e_bb, z_uR_s, z_uR_k, z_uL_s, z_uL_k, true_and, and_true, and_self, not_true_eq_false, not_false_eq_true, forall_const, Option.toList, List.cons_append, List.nil_append, List.singleton_append, Nat.reduceAdd, Nat.zero_add, Nat.add_zero, Nat.reduceEqDiff, ↓reduceIte, ite_true, ite_false, reduceCtorEq, Int.cast_ofNat_Int, Int.reduceAdd, Int.reduceToNat, ne_eq, false_imp_iff, true_imp_iff, cl_122, bf_122_0, bf_122_39, bf_122_41, bf_122_43, bf_122_66, bf_122_72, bf_122_84, bf_122_88, bo_122_0, bo_122_39, bo_122_41, bo_122_43, bo_122_66, bo_122_72, bo_122_84, bo_122_88, hS, e1, e2, Nat.le_refl]
      refine ⟨fun c => ?_, fun c => ?_⟩
      · simp only [if_pos c] at hQ1
        exact hQ1 f z1 z2
      · simp only [if_neg c] at hQ1
        exact hQ1 f z1 z2
    · obtain ⟨f, R⟩ := z
      obtain ⟨z1, z2, z3, z4⟩ := hz
      have hk' := Nat.not_le.mpr hk
      rw [show A.len - k = A.len - (k + 1) + 1 by omega, rd_go.eq_2] at z4
      have e1 : f 373 1 = nI A.len := (z2.2 1 (by omega) (by omega) (by omega) (by omega) (by omega)).trans hle
      have e2 : f 374 k = A.txt k := (congrFun (z2.1 374 (by omega) (by omega)) k).trans (htx k hk)
      refine z_run ck_122 8 bf_122_43 ?_
      simp (disch := omega) only [e_q0, e_nil, e_cons, e_q, e_qf, e_qt, e_af, z_hd, z_mk1, z_lg, z_s1, z_s2, z_kl, z_en, z_kI, z_fv, z_ic, z_c1, z_sh, z_pop, z_rc, z_tgt, z_tsw, z_lsw, z_nw, z_ac, o_kI, o_kL, o_ldi, o_ldl, o_lda, o_sti, o_sta, o_stl, o_inc, o_b2, o_bz, o_l2, o_lz, o_ls, o_lneg, o_i2l, o_l2i, o_lcmp, o_dup, o_dupx1, o_dup2, o_if, o_if2, o_ifnull, o_get, o_put, o_iald, o_zald, o_aald, o_alen, o_iast, o_zast, o_aast, o_new, o_newa, o_call, o_call1, o_callN, o_obj, o_reti, o_retl, o_ret, o_tsw, o_lsw, va_rf_s, va_rf_n, z_u2_s, z_u2_k, z_u2_f, z_uR_f, z_uL_f, e_ix, e_vp, e_lt, e_le, e_eq, e_lt0, e_eq0, e_b0, e_b1, e_10, e_11, true_or, or_true, false_or, nI_add, z_bi_0, z_bi_1, e_bb, z_uR_s, z_uR_k, z_uL_s, z_uL_k, true_and, and_true, and_self, not_true_eq_false, not_false_eq_true, forall_const, Option.toList, List.cons_append, List.nil_append, List.singleton_append, Nat.reduceAdd, Nat.zero_add, Nat.add_zero, Nat.reduceEqDiff, ↓reduceIte, ite_true, ite_false, reduceCtorEq, Int.cast_ofNat_Int, Int.reduceAdd, Int.reduceToNat, ne_eq, false_imp_iff, true_imp_iff, cl_122, bf_122_0, bf_122_39, bf_122_41, bf_122_43, bf_122_66, bf_122_72, bf_122_84, bf_122_88, bo_122_0, bo_122_39, bo_122_41, bo_122_43, bo_122_66, bo_122_72, bo_122_84, bo_122_88, hS, e1, e2, hk']
      refine k_take (R := R) hS z1 z3 fun w w1 w2 => ?_
      have tok := rd_take_ok (x := A.txt k) z3
      simp only at z4 tok
      generalize rd_take R (A.txt k) = E at z4 w1 tok ⊢
      simp (disch := omega) only [e_q0, e_nil, e_cons, e_q, e_qf, e_qt, e_af, z_hd, z_mk1, z_lg, z_s1, z_s2, z_kl, z_en, z_kI, z_fv, z_ic, z_c1, z_sh, z_pop, z_rc, z_tgt, z_tsw, z_lsw, z_nw, z_ac, o_kI, o_kL, o_ldi, o_ldl, o_lda, o_sti, o_sta, o_stl, o_inc, o_b2, o_bz, o_l2, o_lz, o_ls, o_lneg, o_i2l, o_l2i, o_lcmp, o_dup, o_dupx1, o_dup2, o_if, o_if2, o_ifnull, o_get, o_put, o_iald, o_zald, o_aald, o_alen, o_iast, o_zast, o_aast, o_new, o_newa, o_call, o_call1, o_callN, o_obj, o_reti, o_retl, o_ret, o_tsw, o_lsw, va_rf_s, va_rf_n, z_u2_s, z_u2_k, z_u2_f, z_uR_f, z_uL_f, e_ix, e_vp, e_lt, e_le, e_eq, e_lt0, e_eq0, e_b0, e_b1, e_10, e_11, true_or, or_true, false_or, nI_add, z_bi_0, z_bi_1, e_bb, z_uR_s, z_uR_k, z_uL_s, z_uL_k, true_and, and_true, and_self, not_true_eq_false, not_false_eq_true, forall_const, Option.toList, List.cons_append, List.nil_append, List.singleton_append, Nat.reduceAdd, Nat.zero_add, Nat.add_zero, Nat.reduceEqDiff, ↓reduceIte, ite_true, ite_false, reduceCtorEq, Int.cast_ofNat_Int, Int.reduceAdd, Int.reduceToNat, ne_eq, false_imp_iff, true_imp_iff, cl_122, bf_122_0, bf_122_39, bf_122_41, bf_122_43, bf_122_66, bf_122_72, bf_122_84, bf_122_88, bo_122_0, bo_122_39, bo_122_41, bo_122_43, bo_122_66, bo_122_72, bo_122_84, bo_122_88, hS]
      refine ⟨fun c => ?_, fun c => ?_⟩
      · rw [if_neg (by rw [c]; decide)] at z4
        rw [z4] at hQ1
        exact hQ1 w w1 (w2.trans z2)
      · rw [Bool.not_eq_false] at c
        rw [if_pos c] at z4
        exact ih (w, E.2) ⟨w1, w2.trans z2, tok c, z4⟩
  · rw [htx 0 (by omega)] at c1
    rw [if_pos (Or.inr c1)] at hQ1
    exact hQ1 g pr1 fr1
theorem k_fault (hS : SM T mr) (hM : PA A mi ml) (hQ : ∀ f F mg, F = rd_F mi → mg = mi 373 37 → PA A f ml → (∀ c, c < 373 → f c = mi c) → Q (some (.int (rd_text A.txt A.len F mg).1)) (f, mr, ml, T)) : z_Ok l G m_Model_fault [.ref 373] (mi, mr, ml, T) Q := by
  refine z_okN cz_123.1 (by rw [cl_123]; exact Nat.le_of_ble_eq_true rfl) cz_123.2 (z_run ck_123 2 bf_123_0 ?_)
  simp (disch := omega) only [e_q0, e_nil, e_cons, e_q, e_qf, e_qt, e_af, z_hd, z_mk1, z_lg, z_s1, z_s2, z_kl, z_en, z_kI, z_fv, z_ic, z_c1, z_sh, z_pop, z_rc, z_tgt, z_tsw, z_lsw, z_nw, z_ac, o_kI, o_kL, o_ldi, o_ldl, o_lda, o_sti, o_sta, o_stl, o_inc, o_b2, o_bz, o_l2, o_lz, o_ls, o_lneg, o_i2l, o_l2i, o_lcmp, o_dup, o_dupx1, o_dup2, o_if, o_if2, o_ifnull, o_get, o_put, o_iald, o_zald, o_aald, o_alen, o_iast, o_zast, o_aast, o_new, o_newa, o_call, o_call1, o_callN, o_obj, o_reti, o_retl, o_ret, o_tsw, o_lsw, va_rf_s, va_rf_n, z_u2_s, z_u2_k, z_u2_f, z_uR_f, z_uL_f, e_ix, e_vp, e_lt, e_le, e_eq, e_lt0, e_eq0, e_b0, e_b1, e_10, e_11, true_or, or_true, false_or, nI_add, z_bi_0, z_bi_1, e_bb, z_uR_s, z_uR_k, z_uL_s, z_uL_k, true_and, and_true, and_self, not_true_eq_false, not_false_eq_true, forall_const, Option.toList, List.cons_append, List.nil_append, List.singleton_append, Nat.reduceAdd, Nat.zero_add, Nat.add_zero, Nat.reduceEqDiff, ↓reduceIte, ite_true, ite_false, reduceCtorEq, Int.cast_ofNat_Int, Int.reduceAdd, Int.reduceToNat, ne_eq, false_imp_iff, true_imp_iff, cl_123, bf_123_0, bo_123_0, hS]
  refine k_readText hS hM fun f F mg eF em f1 f2 => ?_
  simp (disch := omega) only [e_q0, e_nil, e_cons, e_q, e_qf, e_qt, e_af, z_hd, z_mk1, z_lg, z_s1, z_s2, z_kl, z_en, z_kI, z_fv, z_ic, z_c1, z_sh, z_pop, z_rc, z_tgt, z_tsw, z_lsw, z_nw, z_ac, o_kI, o_kL, o_ldi, o_ldl, o_lda, o_sti, o_sta, o_stl, o_inc, o_b2, o_bz, o_l2, o_lz, o_ls, o_lneg, o_i2l, o_l2i, o_lcmp, o_dup, o_dupx1, o_dup2, o_if, o_if2, o_ifnull, o_get, o_put, o_iald, o_zald, o_aald, o_alen, o_iast, o_zast, o_aast, o_new, o_newa, o_call, o_call1, o_callN, o_obj, o_reti, o_retl, o_ret, o_tsw, o_lsw, va_rf_s, va_rf_n, z_u2_s, z_u2_k, z_u2_f, z_uR_f, z_uL_f, e_ix, e_vp, e_lt, e_le, e_eq, e_lt0, e_eq0, e_b0, e_b1, e_10, e_11, true_or, or_true, false_or, nI_add, z_bi_0, z_bi_1, e_bb, z_uR_s, z_uR_k, z_uL_s, z_uL_k, true_and, and_true, and_self, not_true_eq_false, not_false_eq_true, forall_const, Option.toList, List.cons_append, List.nil_append, List.singleton_append, Nat.reduceAdd, Nat.zero_add, Nat.add_zero, Nat.reduceEqDiff, ↓reduceIte, ite_true, ite_false, reduceCtorEq, Int.cast_ofNat_Int, Int.reduceAdd, Int.reduceToNat, ne_eq, false_imp_iff, true_imp_iff, cl_123, bf_123_0, bo_123_0, hS]
  exact hQ f F mg eF em (hM.rd f2) fun c hc => f2.1 c (by omega) (by omega)
/-- a row before its first round -/
def f_fresh : ZW := fun k => if k < 8 then z_ng 9 else if 32 ≤ k ∧ k < 40 then nI 9999 else nI 0
theorem k_fresh (hS : SM T mr) (hz : z_hi (mi 381)) (hQ : ∀ f, f 381 = f_fresh → (∀ c, c ≠ 381 → f c = mi c) → Q none (f, mr, ml, T)) : z_Ok l G m_Model_fresh [.ref 373] (mi, mr, ml, T) Q := by
  refine z_okN cz_101.1 (by rw [cl_101]; exact Nat.le_of_ble_eq_true rfl) cz_101.2 (z_run ck_101 6 bf_101_0 ?_)
  simp (disch := omega) only [e_q0, e_nil, e_cons, e_q, e_qf, e_qt, e_af, z_hd, z_mk1, z_lg, z_s1, z_s2, z_kl, z_en, z_kI, z_fv, z_ic, z_c1, z_sh, z_pop, z_rc, z_tgt, z_tsw, z_lsw, z_nw, z_ac, o_kI, o_kL, o_ldi, o_ldl, o_lda, o_sti, o_sta, o_stl, o_inc, o_b2, o_bz, o_l2, o_lz, o_ls, o_lneg, o_i2l, o_l2i, o_lcmp, o_dup, o_dupx1, o_dup2, o_if, o_if2, o_ifnull, o_get, o_put, o_iald, o_zald, o_aald, o_alen, o_iast, o_zast, o_aast, o_new, o_newa, o_call, o_call1, o_callN, o_obj, o_reti, o_retl, o_ret, o_tsw, o_lsw, va_rf_s, va_rf_n, z_u2_s, z_u2_k, z_u2_f, z_uR_f, z_uL_f, e_ix, e_vp, e_lt, e_le, e_eq, e_lt0, e_eq0, e_b0, e_b1, e_10, e_11, true_or, or_true, false_or, nI_add, z_bi_0, z_bi_1, e_bb, z_uR_s, z_uR_k, z_uL_s, z_uL_k, true_and, and_true, and_self, not_true_eq_false, not_false_eq_true, forall_const, Option.toList, List.cons_append, List.nil_append, List.singleton_append, Nat.reduceAdd, Nat.zero_add, Nat.add_zero, Nat.reduceEqDiff, ↓reduceIte, ite_true, ite_false, reduceCtorEq, Int.cast_ofNat_Int, Int.reduceAdd, Int.reduceToNat, ne_eq, false_imp_iff, true_imp_iff, cl_101, bf_101_0, bf_101_2, bf_101_24, bf_101_42, bf_101_43, bf_101_50, bo_101_0, bo_101_2, bo_101_24, bo_101_42, bo_101_43, bo_101_50, hS]
  refine z_for (P := fun k f => (∀ c j, f c j = if c = 381 then (if j < k then f_fresh j else mi 381 j) else mi c j) → z_W l G 101 (T.2.1, T.2.2) (fun v M' => Q v M' ∧ M'.2.2.2 = T) 2 [some (.ref 373), some (.int (nI k))] [] (f, mr, ml, T)) 78 (fun f hf => ?_) (fun k hk ih f hf => ?_) 0 (by omega) mi (fun c j => by
    by_cases q : c = 381
    · rw [if_pos q, if_neg (Nat.not_lt_zero _), q]
    · rw [if_neg q])
  · refine z_run ck_101 6 bf_101_2 ?_
    simp (disch := omega) only [e_q0, e_nil, e_cons, e_q, e_qf, e_qt, e_af, z_hd, z_mk1, z_lg, z_s1, z_s2, z_kl, z_en, z_kI, z_fv, z_ic, z_c1, z_sh, z_pop, z_rc, z_tgt, z_tsw, z_lsw, z_nw, z_ac, o_kI, o_kL, o_ldi, o_ldl, o_lda, o_sti, o_sta, o_stl, o_inc, o_b2, o_bz, o_l2, o_lz, o_ls, o_lneg, o_i2l, o_l2i, o_lcmp, o_dup, o_dupx1, o_dup2, o_if, o_if2, o_ifnull, o_get, o_put, o_iald, o_zald, o_aald, o_alen, o_iast, o_zast, o_aast, o_new, o_newa, o_call, o_call1, o_callN, o_obj, o_reti, o_retl, o_ret, o_tsw, o_lsw, va_rf_s, va_rf_n, z_u2_s, z_u2_k, z_u2_f, z_uR_f, z_uL_f, e_ix, e_vp, e_lt, e_le, e_eq, e_lt0, e_eq0, e_b0, e_b1, e_10, e_11, true_or, or_true, false_or, nI_add, z_bi_0, z_bi_1, e_bb, z_uR_s, z_uR_k, z_uL_s, z_uL_k, true_and, and_true, and_self, not_true_eq_false, not_false_eq_true, forall_const, Option.toList, List.cons_append, List.nil_append, List.singleton_append, Nat.reduceAdd, Nat.zero_add, Nat.add_zero, Nat.reduceEqDiff, ↓reduceIte, ite_true, ite_false, reduceCtorEq, Int.cast_ofNat_Int, Int.reduceAdd, Int.reduceToNat, ne_eq, false_imp_iff, true_imp_iff, cl_101, bf_101_0, bf_101_2, bf_101_24, bf_101_42, bf_101_43, bf_101_50, bo_101_0, bo_101_2, bo_101_24, bo_101_42, bo_101_43, bo_101_50, hS, Nat.le_refl]
    refine hQ f (funext fun j => ?_) fun c hc => z_sw hf hc
    rw [hf, if_pos rfl]
    by_cases q : j < 78
    · rw [if_pos q]
    · rw [if_neg q, hz j (by omega)]
      unfold f_fresh
      rw [if_neg (by omega), if_neg (by omega)]
      rfl
  · have hk' := Nat.not_le.mpr hk
    have st : ∀ v, v = f_fresh k → z_W l G 101 (T.2.1, T.2.2) (fun v M' => Q v M' ∧ M'.2.2.2 = T) 2 [some (.ref 373), some (.int (nI (k + 1)))] [] (z_u2 f 381 k v, mr, ml, T) := fun v hv => ih _ (z_rw (z_ru hf) fun j => by
      by_cases q : j = k
      · rw [if_pos q, if_pos (by omega), q, hv]
      · rw [if_neg q]
        by_cases q2 : j < k
        · rw [if_pos q2, if_pos (by omega)]
        · rw [if_neg q2, if_neg (by omega)])
    unfold f_fresh at st
    refine z_run ck_101 6 bf_101_2 ?_
    simp (disch := omega) only [e_q0, e_nil, e_cons, e_q, e_qf, e_qt, e_af, z_hd, z_mk1, z_lg, z_s1, z_s2, z_kl, z_en, z_kI, z_fv, z_ic, z_c1, z_sh, z_pop, z_rc, z_tgt, z_tsw, z_lsw, z_nw, z_ac, o_kI, o_kL, o_ldi, o_ldl, o_lda, o_sti, o_sta, o_stl, o_inc, o_b2, o_bz, o_l2, o_lz, o_ls, o_lneg, o_i2l, o_l2i, o_lcmp, o_dup, o_dupx1, o_dup2, o_if, o_if2, o_ifnull, o_get, o_put, o_iald, o_zald, o_aald, o_alen, o_iast, o_zast, o_aast, o_new, o_newa, o_call, o_call1, o_callN, o_obj, o_reti, o_retl, o_ret, o_tsw, o_lsw, va_rf_s, va_rf_n, z_u2_s, z_u2_k, z_u2_f, z_uR_f, z_uL_f, e_ix, e_vp, e_lt, e_le, e_eq, e_lt0, e_eq0, e_b0, e_b1, e_10, e_11, true_or, or_true, false_or, nI_add, z_bi_0, z_bi_1, e_bb, z_uR_s, z_uR_k, z_uL_s, z_uL_k, true_and, and_true, and_self, not_true_eq_false, not_false_eq_true, forall_const, Option.toList, List.cons_append, List.nil_append, List.singleton_append, Nat.reduceAdd, Nat.zero_add, Nat.add_zero, Nat.reduceEqDiff, ↓reduceIte, ite_true, ite_false, reduceCtorEq, Int.cast_ofNat_Int, Int.reduceAdd, Int.reduceToNat, ne_eq, false_imp_iff, true_imp_iff, cl_101, bf_101_0, bf_101_2, bf_101_24, bf_101_42, bf_101_43, bf_101_50, bo_101_0, bo_101_2, bo_101_24, bo_101_42, bo_101_43, bo_101_50, hS, hk']
    refine ⟨fun c => ⟨fun c1 => st _ ?_, fun c1 => ⟨fun c2 => st _ ?_, fun c2 => st _ ?_⟩⟩, fun c => st _ ?_⟩
    · rw [if_neg (by omega), if_neg (by omega)]
    · rw [if_neg (by omega), if_neg (by omega)]
    · rw [if_neg (by omega), if_pos (by omega)]
    · rw [if_pos (by omega)]
end
