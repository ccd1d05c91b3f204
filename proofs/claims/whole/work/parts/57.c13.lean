set_option maxRecDepth 100000 in
theorem x_tb9 : ∀ rb, rb < 512 → ∀ v, v < 9 → ((nI rb &&& z_shl (nI 1) (nI v) = 0) ↔ rb.testBit v = false) := by decide +kernel
section
variable {l : Launch} {G : ZG} {mi : Nat → Nat → Int32} {mr : Nat → Nat → Option Nat} {ml : Nat → Nat → Int64} {T : (Nat → Nat × Nat) × Nat × Nat} {Q : ZR} {A : ZA} {B : Nat} {s : ZS} {r : ZW}
theorem f_dn_0 {m : Nat} : f_dn r m 0 = r := funext fun i => if_neg (by omega)
theorem f_dn_s {m k : Nat} : f_dn r m (k + 1) = if m.testBit k = true then f_set (f_dn r m k) (58 + k) (nI 1) else f_dn r m k := by
  funext i
  by_cases c : m.testBit k = true
  · rw [if_pos c]
    by_cases q : i = 58 + k
    · rw [q, f_set_eq]
      unfold f_dn
      rw [show 58 + k - 58 = k by omega]
      exact if_pos ⟨by omega, by omega, c⟩
    · rw [f_set_ne q]
      unfold f_dn
      by_cases w : 58 ≤ i ∧ i < 58 + k ∧ m.testBit (i - 58) = true
      · rw [if_pos w, if_pos ⟨w.1, by omega, w.2.2⟩]
      · rw [if_neg w, if_neg (fun z => w ⟨z.1, by omega, z.2.2⟩)]
  · rw [if_neg c]
    unfold f_dn
    by_cases w : 58 ≤ i ∧ i < 58 + k ∧ m.testBit (i - 58) = true
    · rw [if_pos w, if_pos ⟨w.1, by omega, w.2.2⟩]
    · rw [if_neg w, if_neg (fun z => w ⟨z.1, by
        by_cases q : i = 58 + k
        · rw [q, show 58 + k - 58 = k by omega] at z; exact absurd z.2.2 c
        · omega, z.2.2⟩)]
theorem f_dn_row {m : Nat} (hs : f_sok s) (h : f_row s B r) : ∀ k, k ≤ 9 → f_row s B (f_dn r m k)
  | 0, _ => by rw [f_dn_0]; exact h
  | k + 1, hk => by
    rw [f_dn_s]
    split
    · exact f_row_set hs (f_dn_row hs h k (by omega)) (Or.inr (Or.inl ⟨by omega, by omega, Or.inr rfl⟩))
    · exact f_dn_row hs h k (by omega)
theorem c_reachesAll {m : Nat} (hS : SC T mr) (hP : PX A mi ml) (hI : IA A B) (hB : B ≤ 900000) (hm : m < 512) (h : ∀ f g, FX f mi g mr 25 → Q (some (.int (z_bi (f_all A m)))) (f, g, ml, T)) : z_Ok l G m_MP_reachesAllWithout [.ref 2, .int (nI m)] (mi, mr, ml, T) Q := by
  have s1 := hS.1
  have s5 := hS.n
  have s25 := hS.t
  have h8 := hI.1.1
  refine z_okN cz_96.1 (by rw [cl_96]; exact Nat.le_of_ble_eq_true rfl) cz_96.2 (z_run ck_96 6 bf_96_0 ?_)
  simp (disch := omega) only [e_q0, e_nil, e_cons, e_q, e_qf, e_qt, e_af, z_hd, z_mk1, z_lg, z_s1, z_s2, z_kl, z_en, z_kI, z_fv, z_ic, z_c1, z_sh, z_pop, z_rc, z_tgt, z_tsw, z_lsw, z_nw, z_ac, o_kI, o_kL, o_ldi, o_ldl, o_lda, o_sti, o_sta, o_stl, o_inc, o_b2, o_bz, o_l2, o_lz, o_ls, o_lneg, o_i2l, o_l2i, o_lcmp, o_dup, o_dupx1, o_dup2, o_if, o_if2, o_ifnull, o_get, o_put, o_iald, o_zald, o_aald, o_alen, o_iast, o_zast, o_aast, o_new, o_newa, o_call, o_call1, o_callN, o_obj, o_reti, o_retl, o_ret, o_tsw, o_lsw, va_rf_s, va_rf_n, z_u2_s, z_u2_k, z_u2_f, z_uR_f, z_uL_f, e_ix, e_vp, e_lt, e_le, e_eq, e_lt0, e_eq0, e_b0, e_b1, e_10, e_11, true_or, or_true, false_or, nI_add, z_bi_0, z_bi_1, e_bb, z_uR_s, z_uR_k, z_uL_s, z_uL_k, true_and, and_true, and_self, not_true_eq_false, not_false_eq_true, forall_const, Option.toList, List.cons_append, List.nil_append, List.singleton_append, Nat.reduceAdd, Nat.zero_add, Nat.add_zero, Nat.reduceEqDiff, ↓reduceIte, ite_true, ite_false, reduceCtorEq, Int.cast_ofNat_Int, Int.reduceAdd, Int.reduceToNat, ne_eq, false_imp_iff, true_imp_iff, cl_96, bf_96_0, bf_96_13, bf_96_45, bf_96_51, bf_96_85, bf_96_86, bo_96_0, bo_96_13, bo_96_45, bo_96_51, bo_96_85, bo_96_86, s1, s5, s25]
  refine c_toTrial hS hP hI fun f f1 f2 => ?_
  simp (disch := omega) only [e_q0, e_nil, e_cons, e_q, e_qf, e_qt, e_af, z_hd, z_mk1, z_lg, z_s1, z_s2, z_kl, z_en, z_kI, z_fv, z_ic, z_c1, z_sh, z_pop, z_rc, z_tgt, z_tsw, z_lsw, z_nw, z_ac, o_kI, o_kL, o_ldi, o_ldl, o_lda, o_sti, o_sta, o_stl, o_inc, o_b2, o_bz, o_l2, o_lz, o_ls, o_lneg, o_i2l, o_l2i, o_lcmp, o_dup, o_dupx1, o_dup2, o_if, o_if2, o_ifnull, o_get, o_put, o_iald, o_zald, o_aald, o_alen, o_iast, o_zast, o_aast, o_new, o_newa, o_call, o_call1, o_callN, o_obj, o_reti, o_retl, o_ret, o_tsw, o_lsw, va_rf_s, va_rf_n, z_u2_s, z_u2_k, z_u2_f, z_uR_f, z_uL_f, e_ix, e_vp, e_lt, e_le, e_eq, e_lt0, e_eq0, e_b0, e_b1, e_10, e_11, true_or, or_true, false_or, nI_add, z_bi_0, z_bi_1, e_bb, z_uR_s, z_uR_k, z_uL_s, z_uL_k, true_and, and_true, and_self, not_true_eq_false, not_false_eq_true, forall_const, Option.toList, List.cons_append, List.nil_append, List.singleton_append, Nat.reduceAdd, Nat.zero_add, Nat.add_zero, Nat.reduceEqDiff, ↓reduceIte, ite_true, ite_false, reduceCtorEq, Int.cast_ofNat_Int, Int.reduceAdd, Int.reduceToNat, ne_eq, false_imp_iff, true_imp_iff, cl_96, bf_96_0, bf_96_13, bf_96_45, bf_96_51, bf_96_85, bf_96_86, bo_96_0, bo_96_13, bo_96_45, bo_96_51, bo_96_85, bo_96_86, s1, s5, s25]
  refine z_for (P := fun k f => (∀ c, ¬ (25 ≤ c ∧ c < 45) → f c = mi c) → MX f 25 A.s (f_dn A.r m k) → z_W l G 96 (T.2.1, T.2.2) (fun v M' => Q v M' ∧ M'.2.2.2 = T) 13 [some (.ref 2), some (.int (nI m)), some (.int (nI k))] [] (f, mr, ml, T)) A.s.1.2 (fun f f1 f2 => ?_) (fun k hk ih f f1 f2 => ?_) 0 (by omega) f f1 (by rw [f_dn_0]; exact f2)
  · have n25 : f 25 3 = nI A.s.1.2 := f2.1.2.1
    have hr0 := f_dn_row (m := m) hI.1 hI.2.1 A.s.1.2 h8.2
    refine z_run ck_96 6 bf_96_13 ?_
    simp (disch := omega) only [e_q0, e_nil, e_cons, e_q, e_qf, e_qt, e_af, z_hd, z_mk1, z_lg, z_s1, z_s2, z_kl, z_en, z_kI, z_fv, z_ic, z_c1, z_sh, z_pop, z_rc, z_tgt, z_tsw, z_lsw, z_nw, z_ac, o_kI, o_kL, o_ldi, o_ldl, o_lda, o_sti, o_sta, o_stl, o_inc, o_b2, o_bz, o_l2, o_lz, o_ls, o_lneg, o_i2l, o_l2i, o_lcmp, o_dup, o_dupx1, o_dup2, o_if, o_if2, o_ifnull, o_get, o_put, o_iald, o_zald, o_aald, o_alen, o_iast, o_zast, o_aast, o_new, o_newa, o_call, o_call1, o_callN, o_obj, o_reti, o_retl, o_ret, o_tsw, o_lsw, va_rf_s, va_rf_n, z_u2_s, z_u2_k, z_u2_f, z_uR_f, z_uL_f, e_ix, e_vp, e_lt, e_le, e_eq, e_lt0, e_eq0, e_b0, e_b1, e_10, e_11, true_or, or_true, false_or, nI_add, z_bi_0, z_bi_1, e_bb, z_uR_s, z_uR_k, z_uL_s, z_uL_k, true_and, and_true, and_self, not_true_eq_false, not_false_eq_true, forall_const, Option.toList, List.cons_append, List.nil_append, List.singleton_append, Nat.reduceAdd, Nat.zero_add, Nat.add_zero, Nat.reduceEqDiff, ↓reduceIte, ite_true, ite_false, reduceCtorEq, Int.cast_ofNat_Int, Int.reduceAdd, Int.reduceToNat, ne_eq, false_imp_iff, true_imp_iff, cl_96, bf_96_0, bf_96_13, bf_96_45, bf_96_51, bf_96_85, bf_96_86, bo_96_0, bo_96_13, bo_96_45, bo_96_51, bo_96_85, bo_96_86, s1, s25, n25, Nat.le_refl]
    refine x_passRounds (mi := f) (co := nI 255) hS.2.1.2 f2 hI.1 hr0 (by omega) (by omega) (x_co0 h8.1) fun f' g' g1 g2 => ?_
    have g4 : FX f' mi g' mr 25 := FX.trans g1 ⟨fun c hc => f1 c (by omega), fun _ _ => rfl⟩
    have hS' := SC.of hS (FG.t g4.2)
    have s1' := hS'.1
    have hr := f_gos_row (co := nI 255) hI.1 20 _ B hr0 (by omega)
    have n25 : f' 25 2 = nI A.s.1.1 := g2.1.1
    have s25' := hS'.t
    simp (disch := omega) only [e_q0, e_nil, e_cons, e_q, e_qf, e_qt, e_af, z_hd, z_mk1, z_lg, z_s1, z_s2, z_kl, z_en, z_kI, z_fv, z_ic, z_c1, z_sh, z_pop, z_rc, z_tgt, z_tsw, z_lsw, z_nw, z_ac, o_kI, o_kL, o_ldi, o_ldl, o_lda, o_sti, o_sta, o_stl, o_inc, o_b2, o_bz, o_l2, o_lz, o_ls, o_lneg, o_i2l, o_l2i, o_lcmp, o_dup, o_dupx1, o_dup2, o_if, o_if2, o_ifnull, o_get, o_put, o_iald, o_zald, o_aald, o_alen, o_iast, o_zast, o_aast, o_new, o_newa, o_call, o_call1, o_callN, o_obj, o_reti, o_retl, o_ret, o_tsw, o_lsw, va_rf_s, va_rf_n, z_u2_s, z_u2_k, z_u2_f, z_uR_f, z_uL_f, e_ix, e_vp, e_lt, e_le, e_eq, e_lt0, e_eq0, e_b0, e_b1, e_10, e_11, true_or, or_true, false_or, nI_add, z_bi_0, z_bi_1, e_bb, z_uR_s, z_uR_k, z_uL_s, z_uL_k, true_and, and_true, and_self, not_true_eq_false, not_false_eq_true, forall_const, Option.toList, List.cons_append, List.nil_append, List.singleton_append, Nat.reduceAdd, Nat.zero_add, Nat.add_zero, Nat.reduceEqDiff, ↓reduceIte, ite_true, ite_false, reduceCtorEq, Int.cast_ofNat_Int, Int.reduceAdd, Int.reduceToNat, ne_eq, false_imp_iff, true_imp_iff, cl_96, bf_96_0, bf_96_13, bf_96_45, bf_96_51, bf_96_85, bf_96_86, bo_96_0, bo_96_13, bo_96_45, bo_96_51, bo_96_85, bo_96_86, s1', s25']
    refine x_reachedNodes hS'.2.1.2 g2 h8.1 hr.1.2.1 ?_
    simp (disch := omega) only [e_q0, e_nil, e_cons, e_q, e_qf, e_qt, e_af, z_hd, z_mk1, z_lg, z_s1, z_s2, z_kl, z_en, z_kI, z_fv, z_ic, z_c1, z_sh, z_pop, z_rc, z_tgt, z_tsw, z_lsw, z_nw, z_ac, o_kI, o_kL, o_ldi, o_ldl, o_lda, o_sti, o_sta, o_stl, o_inc, o_b2, o_bz, o_l2, o_lz, o_ls, o_lneg, o_i2l, o_l2i, o_lcmp, o_dup, o_dupx1, o_dup2, o_if, o_if2, o_ifnull, o_get, o_put, o_iald, o_zald, o_aald, o_alen, o_iast, o_zast, o_aast, o_new, o_newa, o_call, o_call1, o_callN, o_obj, o_reti, o_retl, o_ret, o_tsw, o_lsw, va_rf_s, va_rf_n, z_u2_s, z_u2_k, z_u2_f, z_uR_f, z_uL_f, e_ix, e_vp, e_lt, e_le, e_eq, e_lt0, e_eq0, e_b0, e_b1, e_10, e_11, true_or, or_true, false_or, nI_add, z_bi_0, z_bi_1, e_bb, z_uR_s, z_uR_k, z_uL_s, z_uL_k, true_and, and_true, and_self, not_true_eq_false, not_false_eq_true, forall_const, Option.toList, List.cons_append, List.nil_append, List.singleton_append, Nat.reduceAdd, Nat.zero_add, Nat.add_zero, Nat.reduceEqDiff, ↓reduceIte, ite_true, ite_false, reduceCtorEq, Int.cast_ofNat_Int, Int.reduceAdd, Int.reduceToNat, ne_eq, false_imp_iff, true_imp_iff, cl_96, bf_96_0, bf_96_13, bf_96_45, bf_96_51, bf_96_85, bf_96_86, bo_96_0, bo_96_13, bo_96_45, bo_96_51, bo_96_85, bo_96_86, s1']
    refine x_bitsR h8.1 ?_
    rw [f_rc_eq h8.1]
    have hl := f_rc_le (s := A.s) (co := nI 255) (r := f_gos A.s (nI 255) 20 (f_dn A.r m A.s.1.2))
    have w := h f' g' g4
    unfold f_all at w
    simp (disch := omega) only [e_q0, e_nil, e_cons, e_q, e_qf, e_qt, e_af, z_hd, z_mk1, z_lg, z_s1, z_s2, z_kl, z_en, z_kI, z_fv, z_ic, z_c1, z_sh, z_pop, z_rc, z_tgt, z_tsw, z_lsw, z_nw, z_ac, o_kI, o_kL, o_ldi, o_ldl, o_lda, o_sti, o_sta, o_stl, o_inc, o_b2, o_bz, o_l2, o_lz, o_ls, o_lneg, o_i2l, o_l2i, o_lcmp, o_dup, o_dupx1, o_dup2, o_if, o_if2, o_ifnull, o_get, o_put, o_iald, o_zald, o_aald, o_alen, o_iast, o_zast, o_aast, o_new, o_newa, o_call, o_call1, o_callN, o_obj, o_reti, o_retl, o_ret, o_tsw, o_lsw, va_rf_s, va_rf_n, z_u2_s, z_u2_k, z_u2_f, z_uR_f, z_uL_f, e_ix, e_vp, e_lt, e_le, e_eq, e_lt0, e_eq0, e_b0, e_b1, e_10, e_11, true_or, or_true, false_or, nI_add, z_bi_0, z_bi_1, e_bb, z_uR_s, z_uR_k, z_uL_s, z_uL_k, true_and, and_true, and_self, not_true_eq_false, not_false_eq_true, forall_const, Option.toList, List.cons_append, List.nil_append, List.singleton_append, Nat.reduceAdd, Nat.zero_add, Nat.add_zero, Nat.reduceEqDiff, ↓reduceIte, ite_true, ite_false, reduceCtorEq, Int.cast_ofNat_Int, Int.reduceAdd, Int.reduceToNat, ne_eq, false_imp_iff, true_imp_iff, cl_96, bf_96_0, bf_96_13, bf_96_45, bf_96_51, bf_96_85, bf_96_86, bo_96_0, bo_96_13, bo_96_45, bo_96_51, bo_96_85, bo_96_86, s1', n25, s25]
    exact ⟨fun c => by rw [decide_eq_true c] at w; exact w, fun c => by rw [decide_eq_false c] at w; exact w⟩
  · have n25 : f 25 3 = nI A.s.1.2 := f2.1.2.1
    have hk' := Nat.not_le.mpr hk
    have tb : (nI m &&& z_shl (nI 1) (nI k) = 0) = (m.testBit k = false) := propext (x_tb9 m hm k (by omega))
    have q1 : T.1 (36 + k) = (1, 1) ∧ mr 35 k = some (36 + k) := hS.2.1.2.2.2 k (by omega)
    have e := f_dn_s (r := A.r) (m := m) (k := k)
    refine z_run ck_96 6 bf_96_13 ?_
    simp (disch := omega) only [e_q0, e_nil, e_cons, e_q, e_qf, e_qt, e_af, z_hd, z_mk1, z_lg, z_s1, z_s2, z_kl, z_en, z_kI, z_fv, z_ic, z_c1, z_sh, z_pop, z_rc, z_tgt, z_tsw, z_lsw, z_nw, z_ac, o_kI, o_kL, o_ldi, o_ldl, o_lda, o_sti, o_sta, o_stl, o_inc, o_b2, o_bz, o_l2, o_lz, o_ls, o_lneg, o_i2l, o_l2i, o_lcmp, o_dup, o_dupx1, o_dup2, o_if, o_if2, o_ifnull, o_get, o_put, o_iald, o_zald, o_aald, o_alen, o_iast, o_zast, o_aast, o_new, o_newa, o_call, o_call1, o_callN, o_obj, o_reti, o_retl, o_ret, o_tsw, o_lsw, va_rf_s, va_rf_n, z_u2_s, z_u2_k, z_u2_f, z_uR_f, z_uL_f, e_ix, e_vp, e_lt, e_le, e_eq, e_lt0, e_eq0, e_b0, e_b1, e_10, e_11, true_or, or_true, false_or, nI_add, z_bi_0, z_bi_1, e_bb, z_uR_s, z_uR_k, z_uL_s, z_uL_k, true_and, and_true, and_self, not_true_eq_false, not_false_eq_true, forall_const, Option.toList, List.cons_append, List.nil_append, List.singleton_append, Nat.reduceAdd, Nat.zero_add, Nat.add_zero, Nat.reduceEqDiff, ↓reduceIte, ite_true, ite_false, reduceCtorEq, Int.cast_ofNat_Int, Int.reduceAdd, Int.reduceToNat, ne_eq, false_imp_iff, true_imp_iff, cl_96, bf_96_0, bf_96_13, bf_96_45, bf_96_51, bf_96_85, bf_96_86, bo_96_0, bo_96_13, bo_96_45, bo_96_51, bo_96_85, bo_96_86, s1, s25, n25, hk', tb, q1, z_t5]
    refine ⟨fun c => ?_, fun c => ?_⟩
    · rw [if_neg (by rw [c]; decide)] at e
      exact ih f f1 (by rw [e]; exact f2)
    · rw [if_pos (by simpa using c)] at e
      exact ih _ (fun c hc => by rw [z_u2_f (by omega)]; exact f1 c hc) (by rw [e]; exact MX.tn f2 h8 hk)
theorem f_ct_out {x m : Nat} (h : 2 ^ A.s.1.2 ≤ m) : f_ct A x m = 0 := by
  refine if_neg fun q => ?_
  have hu := f_bits_lt (fun i => decide (A.r (58 + i) = nI 0)) A.s.1.2
  have h1 := q.1
  unfold f_sub f_ups at h1
  rw [decide_eq_true_eq] at h1
  have := Nat.and_le_right (n := m) (m := f_bits (fun i => decide (A.r (58 + i) = nI 0)) A.s.1.2)
  omega
theorem f_abv_out {x : Nat} : ∀ d, f_abv A x (2 ^ A.s.1.2 + d) = f_abv A x (2 ^ A.s.1.2)
  | 0 => rfl
  | d + 1 => by
    show f_abv A x (2 ^ A.s.1.2 + d) + f_ct A x (2 ^ A.s.1.2 + d) = _
    rw [f_abv_out d, f_ct_out (by omega), Nat.add_zero]
theorem lN_add' (a b : Nat) : lN a + lN b = lN (a + b) := by
  show Int64.ofNat _ + Int64.ofNat _ = Int64.ofNat _
  rw [Int64.ofNat_add]
theorem lg_le {x y : Int64} : (lg_cmp x y ≤ 0) = ¬ y < x := by
  rw [← lg_gt]
  exact propext Int32.not_lt.symm
theorem c_chance {x : Int32} {b : Bool} (hS : SC T mr) (hP : PX A mi ml) (hI : IA A B) (hB : B ≤ 900000) (hQ : ∀ f g, PX A f ml → FG g mr → (∀ c, 373 ≤ c → f c = mi c) → Q (some (.int (a_chance A x (z_bi b)))) (f, g, ml, T)) : z_Ok l G m_MP_chance [.ref 2, .int x, .int (z_bi b)] (mi, mr, ml, T) Q := by
  have s1 := hS.1
  have s5 := hS.n
  have h8 := hI.1.1
  unfold a_chance at hQ
  refine z_okN cz_83.1 (by rw [cl_83]; exact Nat.le_of_ble_eq_true rfl) cz_83.2 (z_run ck_83 5 bf_83_0 ?_)
  simp (disch := omega) only [e_q0, e_nil, e_cons, e_q, e_qf, e_qt, e_af, z_hd, z_mk1, z_lg, z_s1, z_s2, z_kl, z_en, z_kI, z_fv, z_ic, z_c1, z_sh, z_pop, z_rc, z_tgt, z_tsw, z_lsw, z_nw, z_ac, o_kI, o_kL, o_ldi, o_ldl, o_lda, o_sti, o_sta, o_stl, o_inc, o_b2, o_bz, o_l2, o_lz, o_ls, o_lneg, o_i2l, o_l2i, o_lcmp, o_dup, o_dupx1, o_dup2, o_if, o_if2, o_ifnull, o_get, o_put, o_iald, o_zald, o_aald, o_alen, o_iast, o_zast, o_aast, o_new, o_newa, o_call, o_call1, o_callN, o_obj, o_reti, o_retl, o_ret, o_tsw, o_lsw, va_rf_s, va_rf_n, z_u2_s, z_u2_k, z_u2_f, z_uR_f, z_uL_f, e_ix, e_vp, e_lt, e_le, e_eq, e_lt0, e_eq0, e_b0, e_b1, e_10, e_11, true_or, or_true, false_or, nI_add, z_bi_0, z_bi_1, e_bb, z_uR_s, z_uR_k, z_uL_s, z_uL_k, true_and, and_true, and_self, not_true_eq_false, not_false_eq_true, forall_const, Option.toList, List.cons_append, List.nil_append, List.singleton_append, Nat.reduceAdd, Nat.zero_add, Nat.add_zero, Nat.reduceEqDiff, ↓reduceIte, ite_true, ite_false, reduceCtorEq, Int.cast_ofNat_Int, Int.reduceAdd, Int.reduceToNat, ne_eq, false_imp_iff, true_imp_iff, cl_83, bf_83_0, bf_83_13, bf_83_47, bf_83_115, bf_83_121, bo_83_0, bo_83_13, bo_83_47, bo_83_115, bo_83_121, s1, s5]
  refine x_isWithin ?_
  cases hq : f_in x 0 10 with
  | false =>
    rw [hq] at hQ
    simp (disch := omega) only [e_q0, e_nil, e_cons, e_q, e_qf, e_qt, e_af, z_hd, z_mk1, z_lg, z_s1, z_s2, z_kl, z_en, z_kI, z_fv, z_ic, z_c1, z_sh, z_pop, z_rc, z_tgt, z_tsw, z_lsw, z_nw, z_ac, o_kI, o_kL, o_ldi, o_ldl, o_lda, o_sti, o_sta, o_stl, o_inc, o_b2, o_bz, o_l2, o_lz, o_ls, o_lneg, o_i2l, o_l2i, o_lcmp, o_dup, o_dupx1, o_dup2, o_if, o_if2, o_ifnull, o_get, o_put, o_iald, o_zald, o_aald, o_alen, o_iast, o_zast, o_aast, o_new, o_newa, o_call, o_call1, o_callN, o_obj, o_reti, o_retl, o_ret, o_tsw, o_lsw, va_rf_s, va_rf_n, z_u2_s, z_u2_k, z_u2_f, z_uR_f, z_uL_f, e_ix, e_vp, e_lt, e_le, e_eq, e_lt0, e_eq0, e_b0, e_b1, e_10, e_11, true_or, or_true, false_or, nI_add, z_bi_0, z_bi_1, e_bb, z_uR_s, z_uR_k, z_uL_s, z_uL_k, true_and, and_true, and_self, not_true_eq_false, not_false_eq_true, forall_const, Option.toList, List.cons_append, List.nil_append, List.singleton_append, Nat.reduceAdd, Nat.zero_add, Nat.add_zero, Nat.reduceEqDiff, ↓reduceIte, ite_true, ite_false, reduceCtorEq, Int.cast_ofNat_Int, Int.reduceAdd, Int.reduceToNat, ne_eq, false_imp_iff, true_imp_iff, cl_83, bf_83_0, bf_83_13, bf_83_47, bf_83_115, bf_83_121, bo_83_0, bo_83_13, bo_83_47, bo_83_115, bo_83_121, s1, s5, z_biF]
    exact hQ _ _ hP (fun _ _ _ => rfl) fun _ _ => rfl
  | true =>
    simp only [hq, if_true] at hQ
    obtain ⟨n, _, hn, rfl⟩ := f_in_t (by omega) (by omega) hq
    rw [e_ix (by omega)] at hQ
    have n5 := hP.1.1
    simp (disch := omega) only [e_q0, e_nil, e_cons, e_q, e_qf, e_qt, e_af, z_hd, z_mk1, z_lg, z_s1, z_s2, z_kl, z_en, z_kI, z_fv, z_ic, z_c1, z_sh, z_pop, z_rc, z_tgt, z_tsw, z_lsw, z_nw, z_ac, o_kI, o_kL, o_ldi, o_ldl, o_lda, o_sti, o_sta, o_stl, o_inc, o_b2, o_bz, o_l2, o_lz, o_ls, o_lneg, o_i2l, o_l2i, o_lcmp, o_dup, o_dupx1, o_dup2, o_if, o_if2, o_ifnull, o_get, o_put, o_iald, o_zald, o_aald, o_alen, o_iast, o_zast, o_aast, o_new, o_newa, o_call, o_call1, o_callN, o_obj, o_reti, o_retl, o_ret, o_tsw, o_lsw, va_rf_s, va_rf_n, z_u2_s, z_u2_k, z_u2_f, z_uR_f, z_uL_f, e_ix, e_vp, e_lt, e_le, e_eq, e_lt0, e_eq0, e_b0, e_b1, e_10, e_11, true_or, or_true, false_or, nI_add, z_bi_0, z_bi_1, e_bb, z_uR_s, z_uR_k, z_uL_s, z_uL_k, true_and, and_true, and_self, not_true_eq_false, not_false_eq_true, forall_const, Option.toList, List.cons_append, List.nil_append, List.singleton_append, Nat.reduceAdd, Nat.zero_add, Nat.add_zero, Nat.reduceEqDiff, ↓reduceIte, ite_true, ite_false, reduceCtorEq, Int.cast_ofNat_Int, Int.reduceAdd, Int.reduceToNat, ne_eq, false_imp_iff, true_imp_iff, cl_83, bf_83_0, bf_83_13, bf_83_47, bf_83_115, bf_83_121, bo_83_0, bo_83_13, bo_83_47, bo_83_115, bo_83_121, s1, s5, n5, z_biT]
    refine x_downLinks hS.2.1.1 hP.1 h8.2 hI.2.1.2.2.1 ?_
    have eu := f_ups_eq (A := A) hI.2.1.2.2.1 h8.2
    simp (disch := omega) only [e_q0, e_nil, e_cons, e_q, e_qf, e_qt, e_af, z_hd, z_mk1, z_lg, z_s1, z_s2, z_kl, z_en, z_kI, z_fv, z_ic, z_c1, z_sh, z_pop, z_rc, z_tgt, z_tsw, z_lsw, z_nw, z_ac, o_kI, o_kL, o_ldi, o_ldl, o_lda, o_sti, o_sta, o_stl, o_inc, o_b2, o_bz, o_l2, o_lz, o_ls, o_lneg, o_i2l, o_l2i, o_lcmp, o_dup, o_dupx1, o_dup2, o_if, o_if2, o_ifnull, o_get, o_put, o_iald, o_zald, o_aald, o_alen, o_iast, o_zast, o_aast, o_new, o_newa, o_call, o_call1, o_callN, o_obj, o_reti, o_retl, o_ret, o_tsw, o_lsw, va_rf_s, va_rf_n, z_u2_s, z_u2_k, z_u2_f, z_uR_f, z_uL_f, e_ix, e_vp, e_lt, e_le, e_eq, e_lt0, e_eq0, e_b0, e_b1, e_10, e_11, true_or, or_true, false_or, nI_add, z_bi_0, z_bi_1, e_bb, z_uR_s, z_uR_k, z_uL_s, z_uL_k, true_and, and_true, and_self, not_true_eq_false, not_false_eq_true, forall_const, Option.toList, List.cons_append, List.nil_append, List.singleton_append, Nat.reduceAdd, Nat.zero_add, Nat.add_zero, Nat.reduceEqDiff, ↓reduceIte, ite_true, ite_false, reduceCtorEq, Int.cast_ofNat_Int, Int.reduceAdd, Int.reduceToNat, ne_eq, false_imp_iff, true_imp_iff, cl_83, bf_83_0, bf_83_13, bf_83_47, bf_83_115, bf_83_121, bo_83_0, bo_83_13, bo_83_47, bo_83_115, bo_83_121, s1, s5, n5]
    rw [eu]
    have hu : f_ups A < 2 ^ A.s.1.2 := f_bits_lt _ _
    have hp : 2 ^ A.s.1.2 ≤ 2 ^ 9 := Nat.pow_le_pow_right (by omega) h8.2
    have cu : f_cnt (f_ups A).testBit 9 = f_un A := by
      have w := f_bits_cnt (p := fun i => decide (A.r (58 + i) = nI 0)) (n := A.s.1.2) (9 - A.s.1.2)
      rw [show A.s.1.2 + (9 - A.s.1.2) = 9 by omega] at w
      exact w
    have un := f_un_le A
    refine x_bitCount (by omega) ?_
    rw [cu]
    simp (disch := omega) only [e_q0, e_nil, e_cons, e_q, e_qf, e_qt, e_af, z_hd, z_mk1, z_lg, z_s1, z_s2, z_kl, z_en, z_kI, z_fv, z_ic, z_c1, z_sh, z_pop, z_rc, z_tgt, z_tsw, z_lsw, z_nw, z_ac, o_kI, o_kL, o_ldi, o_ldl, o_lda, o_sti, o_sta, o_stl, o_inc, o_b2, o_bz, o_l2, o_lz, o_ls, o_lneg, o_i2l, o_l2i, o_lcmp, o_dup, o_dupx1, o_dup2, o_if, o_if2, o_ifnull, o_get, o_put, o_iald, o_zald, o_aald, o_alen, o_iast, o_zast, o_aast, o_new, o_newa, o_call, o_call1, o_callN, o_obj, o_reti, o_retl, o_ret, o_tsw, o_lsw, va_rf_s, va_rf_n, z_u2_s, z_u2_k, z_u2_f, z_uR_f, z_uL_f, e_ix, e_vp, e_lt, e_le, e_eq, e_lt0, e_eq0, e_b0, e_b1, e_10, e_11, true_or, or_true, false_or, nI_add, z_bi_0, z_bi_1, e_bb, z_uR_s, z_uR_k, z_uL_s, z_uL_k, true_and, and_true, and_self, not_true_eq_false, not_false_eq_true, forall_const, Option.toList, List.cons_append, List.nil_append, List.singleton_append, Nat.reduceAdd, Nat.zero_add, Nat.add_zero, Nat.reduceEqDiff, ↓reduceIte, ite_true, ite_false, reduceCtorEq, Int.cast_ofNat_Int, Int.reduceAdd, Int.reduceToNat, ne_eq, false_imp_iff, true_imp_iff, cl_83, bf_83_0, bf_83_13, bf_83_47, bf_83_115, bf_83_121, bo_83_0, bo_83_13, bo_83_47, bo_83_115, bo_83_121, s1, s5, n5]
    refine z_for (α := (Nat → Nat → Int32) × (Nat → Nat → Option Nat)) (P := fun k p => FX p.1 mi p.2 mr 25 → z_W l G 83 (T.2.1, T.2.2) (fun v M' => Q v M' ∧ M'.2.2.2 = T) 47 [some (.ref 2), some (.int (nI n)), some (.int (z_bi b)), some (.int (nI (f_ups A))), some (.int (nI (f_un A))), some (.long (lN (f_abv A n k))), none, some (.int (nI k)), none, none, none] [] (p.1, p.2, ml, T)) 512 (fun p g1 => ?_) (fun k hk ih p g1 => ?_) 0 (by omega) (mi, mr) ⟨fun _ _ => rfl, fun _ _ => rfl⟩
    · refine z_run ck_83 5 bf_83_47 ?_
      simp (disch := omega) only [e_q0, e_nil, e_cons, e_q, e_qf, e_qt, e_af, z_hd, z_mk1, z_lg, z_s1, z_s2, z_kl, z_en, z_kI, z_fv, z_ic, z_c1, z_sh, z_pop, z_rc, z_tgt, z_tsw, z_lsw, z_nw, z_ac, o_kI, o_kL, o_ldi, o_ldl, o_lda, o_sti, o_sta, o_stl, o_inc, o_b2, o_bz, o_l2, o_lz, o_ls, o_lneg, o_i2l, o_l2i, o_lcmp, o_dup, o_dupx1, o_dup2, o_if, o_if2, o_ifnull, o_get, o_put, o_iald, o_zald, o_aald, o_alen, o_iast, o_zast, o_aast, o_new, o_newa, o_call, o_call1, o_callN, o_obj, o_reti, o_retl, o_ret, o_tsw, o_lsw, va_rf_s, va_rf_n, z_u2_s, z_u2_k, z_u2_f, z_uR_f, z_uL_f, e_ix, e_vp, e_lt, e_le, e_eq, e_lt0, e_eq0, e_b0, e_b1, e_10, e_11, true_or, or_true, false_or, nI_add, z_bi_0, z_bi_1, e_bb, z_uR_s, z_uR_k, z_uL_s, z_uL_k, true_and, and_true, and_self, not_true_eq_false, not_false_eq_true, forall_const, Option.toList, List.cons_append, List.nil_append, List.singleton_append, Nat.reduceAdd, Nat.zero_add, Nat.add_zero, Nat.reduceEqDiff, ↓reduceIte, ite_true, ite_false, reduceCtorEq, Int.cast_ofNat_Int, Int.reduceAdd, Int.reduceToNat, ne_eq, false_imp_iff, true_imp_iff, cl_83, bf_83_0, bf_83_13, bf_83_47, bf_83_115, bf_83_121, bo_83_0, bo_83_13, bo_83_47, bo_83_115, bo_83_121]
      obtain ⟨p1, p2, p3⟩ := PX.of25 g1 hP h8
      have w := hQ _ _ p1 p2 p3
      refine ⟨fun _ => ?_, fun q => absurd (Nat.le_refl _) q⟩
      have e := f_abv_out (A := A) (x := n) (512 - 2 ^ A.s.1.2)
      rw [show 2 ^ A.s.1.2 + (512 - 2 ^ A.s.1.2) = 512 by omega] at e
      rw [e]
      have hb := f_abv_le (A := A) (x := n) hn h8.2 (2 ^ A.s.1.2)
      have hpw := z_pw (x := 10) (n := f_un A) (by omega) (by omega)
      have hp0 : 0 < 10 ^ f_un A := Nat.pow_pos (by omega)
      obtain ⟨d, hd1, hd2, hd3⟩ := f_euc_200 (a := f_abv A n (2 ^ A.s.1.2)) (b := 10 ^ f_un A) (by omega) hp0 (by omega)
      refine x_power (by omega) (by omega) ?_
      simp (disch := omega) only [e_q0, e_nil, e_cons, e_q, e_qf, e_qt, e_af, z_hd, z_mk1, z_lg, z_s1, z_s2, z_kl, z_en, z_kI, z_fv, z_ic, z_c1, z_sh, z_pop, z_rc, z_tgt, z_tsw, z_lsw, z_nw, z_ac, o_kI, o_kL, o_ldi, o_ldl, o_lda, o_sti, o_sta, o_stl, o_inc, o_b2, o_bz, o_l2, o_lz, o_ls, o_lneg, o_i2l, o_l2i, o_lcmp, o_dup, o_dupx1, o_dup2, o_if, o_if2, o_ifnull, o_get, o_put, o_iald, o_zald, o_aald, o_alen, o_iast, o_zast, o_aast, o_new, o_newa, o_call, o_call1, o_callN, o_obj, o_reti, o_retl, o_ret, o_tsw, o_lsw, va_rf_s, va_rf_n, z_u2_s, z_u2_k, z_u2_f, z_uR_f, z_uL_f, e_ix, e_vp, e_lt, e_le, e_eq, e_lt0, e_eq0, e_b0, e_b1, e_10, e_11, true_or, or_true, false_or, nI_add, z_bi_0, z_bi_1, e_bb, z_uR_s, z_uR_k, z_uL_s, z_uL_k, true_and, and_true, and_self, not_true_eq_false, not_false_eq_true, forall_const, Option.toList, List.cons_append, List.nil_append, List.singleton_append, Nat.reduceAdd, Nat.zero_add, Nat.add_zero, Nat.reduceEqDiff, ↓reduceIte, ite_true, ite_false, reduceCtorEq, Int.cast_ofNat_Int, Int.reduceAdd, Int.reduceToNat, ne_eq, false_imp_iff, true_imp_iff, cl_83, bf_83_0, bf_83_13, bf_83_47, bf_83_115, bf_83_121, bo_83_0, bo_83_13, bo_83_47, bo_83_115, bo_83_121]
      refine x_inLowestTerms (b := b) hd1 hd2 ?_ ?_
      · have ea : f_abs (lN (f_abv A n (2 ^ A.s.1.2))) = lN (f_abv A n (2 ^ A.s.1.2)) := by
          rw [lN_I, f_abs_I (by omega) (by omega)]; rfl
        rw [ea]; exact hd3
      · simp (disch := omega) only [e_q0, e_nil, e_cons, e_q, e_qf, e_qt, e_af, z_hd, z_mk1, z_lg, z_s1, z_s2, z_kl, z_en, z_kI, z_fv, z_ic, z_c1, z_sh, z_pop, z_rc, z_tgt, z_tsw, z_lsw, z_nw, z_ac, o_kI, o_kL, o_ldi, o_ldl, o_lda, o_sti, o_sta, o_stl, o_inc, o_b2, o_bz, o_l2, o_lz, o_ls, o_lneg, o_i2l, o_l2i, o_lcmp, o_dup, o_dupx1, o_dup2, o_if, o_if2, o_ifnull, o_get, o_put, o_iald, o_zald, o_aald, o_alen, o_iast, o_zast, o_aast, o_new, o_newa, o_call, o_call1, o_callN, o_obj, o_reti, o_retl, o_ret, o_tsw, o_lsw, va_rf_s, va_rf_n, z_u2_s, z_u2_k, z_u2_f, z_uR_f, z_uL_f, e_ix, e_vp, e_lt, e_le, e_eq, e_lt0, e_eq0, e_b0, e_b1, e_10, e_11, true_or, or_true, false_or, nI_add, z_bi_0, z_bi_1, e_bb, z_uR_s, z_uR_k, z_uL_s, z_uL_k, true_and, and_true, and_self, not_true_eq_false, not_false_eq_true, forall_const, Option.toList, List.cons_append, List.nil_append, List.singleton_append, Nat.reduceAdd, Nat.zero_add, Nat.add_zero, Nat.reduceEqDiff, ↓reduceIte, ite_true, ite_false, reduceCtorEq, Int.cast_ofNat_Int, Int.reduceAdd, Int.reduceToNat, ne_eq, false_imp_iff, true_imp_iff, cl_83, bf_83_0, bf_83_13, bf_83_47, bf_83_115, bf_83_121, bo_83_0, bo_83_13, bo_83_47, bo_83_115, bo_83_121]
        exact w
    · obtain ⟨p1, p2, p3⟩ := PX.of25 g1 hP h8
      have hS' := SC.of hS p2
      have hk' := Nat.not_le.mpr hk
      have e1 := z_subN (show k < 2147483648 by omega) (show f_ups A < 2147483648 by omega)
      have w := fun f g h => ih (f, g) h
      unfold f_abv at w
      refine z_run ck_83 5 bf_83_47 ?_
      simp (disch := omega) only [e_q0, e_nil, e_cons, e_q, e_qf, e_qt, e_af, z_hd, z_mk1, z_lg, z_s1, z_s2, z_kl, z_en, z_kI, z_fv, z_ic, z_c1, z_sh, z_pop, z_rc, z_tgt, z_tsw, z_lsw, z_nw, z_ac, o_kI, o_kL, o_ldi, o_ldl, o_lda, o_sti, o_sta, o_stl, o_inc, o_b2, o_bz, o_l2, o_lz, o_ls, o_lneg, o_i2l, o_l2i, o_lcmp, o_dup, o_dupx1, o_dup2, o_if, o_if2, o_ifnull, o_get, o_put, o_iald, o_zald, o_aald, o_alen, o_iast, o_zast, o_aast, o_new, o_newa, o_call, o_call1, o_callN, o_obj, o_reti, o_retl, o_ret, o_tsw, o_lsw, va_rf_s, va_rf_n, z_u2_s, z_u2_k, z_u2_f, z_uR_f, z_uL_f, e_ix, e_vp, e_lt, e_le, e_eq, e_lt0, e_eq0, e_b0, e_b1, e_10, e_11, true_or, or_true, false_or, nI_add, z_bi_0, z_bi_1, e_bb, z_uR_s, z_uR_k, z_uL_s, z_uL_k, true_and, and_true, and_self, not_true_eq_false, not_false_eq_true, forall_const, Option.toList, List.cons_append, List.nil_append, List.singleton_append, Nat.reduceAdd, Nat.zero_add, Nat.add_zero, Nat.reduceEqDiff, ↓reduceIte, ite_true, ite_false, reduceCtorEq, Int.cast_ofNat_Int, Int.reduceAdd, Int.reduceToNat, ne_eq, false_imp_iff, true_imp_iff, cl_83, bf_83_0, bf_83_13, bf_83_47, bf_83_115, bf_83_121, bo_83_0, bo_83_13, bo_83_47, bo_83_115, bo_83_121, hk', e1]
      refine ⟨fun c => ?_, fun c => ?_⟩
      · have hc := f_ups_cnt h8.2 c
        have k9 := f_cnt_le k.testBit 9
        refine x_bitCount (by omega) ?_
        simp (disch := omega) only [e_q0, e_nil, e_cons, e_q, e_qf, e_qt, e_af, z_hd, z_mk1, z_lg, z_s1, z_s2, z_kl, z_en, z_kI, z_fv, z_ic, z_c1, z_sh, z_pop, z_rc, z_tgt, z_tsw, z_lsw, z_nw, z_ac, o_kI, o_kL, o_ldi, o_ldl, o_lda, o_sti, o_sta, o_stl, o_inc, o_b2, o_bz, o_l2, o_lz, o_ls, o_lneg, o_i2l, o_l2i, o_lcmp, o_dup, o_dupx1, o_dup2, o_if, o_if2, o_ifnull, o_get, o_put, o_iald, o_zald, o_aald, o_alen, o_iast, o_zast, o_aast, o_new, o_newa, o_call, o_call1, o_callN, o_obj, o_reti, o_retl, o_ret, o_tsw, o_lsw, va_rf_s, va_rf_n, z_u2_s, z_u2_k, z_u2_f, z_uR_f, z_uL_f, e_ix, e_vp, e_lt, e_le, e_eq, e_lt0, e_eq0, e_b0, e_b1, e_10, e_11, true_or, or_true, false_or, nI_add, z_bi_0, z_bi_1, e_bb, z_uR_s, z_uR_k, z_uL_s, z_uL_k, true_and, and_true, and_self, not_true_eq_false, not_false_eq_true, forall_const, Option.toList, List.cons_append, List.nil_append, List.singleton_append, Nat.reduceAdd, Nat.zero_add, Nat.add_zero, Nat.reduceEqDiff, ↓reduceIte, ite_true, ite_false, reduceCtorEq, Int.cast_ofNat_Int, Int.reduceAdd, Int.reduceToNat, ne_eq, false_imp_iff, true_imp_iff, cl_83, bf_83_0, bf_83_13, bf_83_47, bf_83_115, bf_83_121, bo_83_0, bo_83_13, bo_83_47, bo_83_115, bo_83_121]
        refine x_power (by omega) (by omega) ?_
        simp (disch := omega) only [e_q0, e_nil, e_cons, e_q, e_qf, e_qt, e_af, z_hd, z_mk1, z_lg, z_s1, z_s2, z_kl, z_en, z_kI, z_fv, z_ic, z_c1, z_sh, z_pop, z_rc, z_tgt, z_tsw, z_lsw, z_nw, z_ac, o_kI, o_kL, o_ldi, o_ldl, o_lda, o_sti, o_sta, o_stl, o_inc, o_b2, o_bz, o_l2, o_lz, o_ls, o_lneg, o_i2l, o_l2i, o_lcmp, o_dup, o_dupx1, o_dup2, o_if, o_if2, o_ifnull, o_get, o_put, o_iald, o_zald, o_aald, o_alen, o_iast, o_zast, o_aast, o_new, o_newa, o_call, o_call1, o_callN, o_obj, o_reti, o_retl, o_ret, o_tsw, o_lsw, va_rf_s, va_rf_n, z_u2_s, z_u2_k, z_u2_f, z_uR_f, z_uL_f, e_ix, e_vp, e_lt, e_le, e_eq, e_lt0, e_eq0, e_b0, e_b1, e_10, e_11, true_or, or_true, false_or, nI_add, z_bi_0, z_bi_1, e_bb, z_uR_s, z_uR_k, z_uL_s, z_uL_k, true_and, and_true, and_self, not_true_eq_false, not_false_eq_true, forall_const, Option.toList, List.cons_append, List.nil_append, List.singleton_append, Nat.reduceAdd, Nat.zero_add, Nat.add_zero, Nat.reduceEqDiff, ↓reduceIte, ite_true, ite_false, reduceCtorEq, Int.cast_ofNat_Int, Int.reduceAdd, Int.reduceToNat, ne_eq, false_imp_iff, true_imp_iff, cl_83, bf_83_0, bf_83_13, bf_83_47, bf_83_115, bf_83_121, bo_83_0, bo_83_13, bo_83_47, bo_83_115, bo_83_121, e_sub]
        refine x_power (by omega) (by omega) ?_
        simp (disch := omega) only [e_q0, e_nil, e_cons, e_q, e_qf, e_qt, e_af, z_hd, z_mk1, z_lg, z_s1, z_s2, z_kl, z_en, z_kI, z_fv, z_ic, z_c1, z_sh, z_pop, z_rc, z_tgt, z_tsw, z_lsw, z_nw, z_ac, o_kI, o_kL, o_ldi, o_ldl, o_lda, o_sti, o_sta, o_stl, o_inc, o_b2, o_bz, o_l2, o_lz, o_ls, o_lneg, o_i2l, o_l2i, o_lcmp, o_dup, o_dupx1, o_dup2, o_if, o_if2, o_ifnull, o_get, o_put, o_iald, o_zald, o_aald, o_alen, o_iast, o_zast, o_aast, o_new, o_newa, o_call, o_call1, o_callN, o_obj, o_reti, o_retl, o_ret, o_tsw, o_lsw, va_rf_s, va_rf_n, z_u2_s, z_u2_k, z_u2_f, z_uR_f, z_uL_f, e_ix, e_vp, e_lt, e_le, e_eq, e_lt0, e_eq0, e_b0, e_b1, e_10, e_11, true_or, or_true, false_or, nI_add, z_bi_0, z_bi_1, e_bb, z_uR_s, z_uR_k, z_uL_s, z_uL_k, true_and, and_true, and_self, not_true_eq_false, not_false_eq_true, forall_const, Option.toList, List.cons_append, List.nil_append, List.singleton_append, Nat.reduceAdd, Nat.zero_add, Nat.add_zero, Nat.reduceEqDiff, ↓reduceIte, ite_true, ite_false, reduceCtorEq, Int.cast_ofNat_Int, Int.reduceAdd, Int.reduceToNat, ne_eq, false_imp_iff, true_imp_iff, cl_83, bf_83_0, bf_83_13, bf_83_47, bf_83_115, bf_83_121, bo_83_0, bo_83_13, bo_83_47, bo_83_115, bo_83_121, lN_mul, lg_le]
        have hw1 := z_pw (x := n) (n := f_cnt k.testBit 9) (by omega) k9
        have hw2 := z_pw (x := 10 - n) (n := f_un A - f_cnt k.testBit 9) (by omega) (by omega)
        have hwm := Nat.mul_le_mul hw1 hw2
        have ect : f_ct A n k = if f_sub k (f_ups A) = true ∧ f_all A k = true then n ^ f_cnt k.testBit 9 * (10 - n) ^ (f_un A - f_cnt k.testBit 9) else 0 := rfl
        generalize n ^ f_cnt k.testBit 9 * (10 - n) ^ (f_un A - f_cnt k.testBit 9) = W at *
        have hlt : (lN 0 < lN W) = (0 < W) := propext (by rw [Int64.lt_iff_toInt_lt, lN_Z (by omega), lN_Z (by omega)]; omega)
        refine ⟨fun c2 => ?_, fun c2 => ⟨hS'.1.1.1, ?_⟩⟩
        · rw [hlt] at c2
          have : f_ct A n k = 0 := by rw [ect]; split <;> omega
          rw [this, Nat.add_zero] at w
          exact w p.1 p.2 g1
        · refine c_reachesAll (mi := p.1) (mr := p.2) hS' p1 hI hB (by omega) fun f' g' v1 => ?_
          have w := w f' g' (FX.trans v1 g1)
          cases hal : f_all A k with
          | true =>
            rw [ect, if_pos ⟨c, hal⟩, ← lN_add'] at w
            simp (disch := omega) only [e_q0, e_nil, e_cons, e_q, e_qf, e_qt, e_af, z_hd, z_mk1, z_lg, z_s1, z_s2, z_kl, z_en, z_kI, z_fv, z_ic, z_c1, z_sh, z_pop, z_rc, z_tgt, z_tsw, z_lsw, z_nw, z_ac, o_kI, o_kL, o_ldi, o_ldl, o_lda, o_sti, o_sta, o_stl, o_inc, o_b2, o_bz, o_l2, o_lz, o_ls, o_lneg, o_i2l, o_l2i, o_lcmp, o_dup, o_dupx1, o_dup2, o_if, o_if2, o_ifnull, o_get, o_put, o_iald, o_zald, o_aald, o_alen, o_iast, o_zast, o_aast, o_new, o_newa, o_call, o_call1, o_callN, o_obj, o_reti, o_retl, o_ret, o_tsw, o_lsw, va_rf_s, va_rf_n, z_u2_s, z_u2_k, z_u2_f, z_uR_f, z_uL_f, e_ix, e_vp, e_lt, e_le, e_eq, e_lt0, e_eq0, e_b0, e_b1, e_10, e_11, true_or, or_true, false_or, nI_add, z_bi_0, z_bi_1, e_bb, z_uR_s, z_uR_k, z_uL_s, z_uL_k, true_and, and_true, and_self, not_true_eq_false, not_false_eq_true, forall_const, Option.toList, List.cons_append, List.nil_append, List.singleton_append, Nat.reduceAdd, Nat.zero_add, Nat.add_zero, Nat.reduceEqDiff, ↓reduceIte, ite_true, ite_false, reduceCtorEq, Int.cast_ofNat_Int, Int.reduceAdd, Int.reduceToNat, ne_eq, false_imp_iff, true_imp_iff, cl_83, bf_83_0, bf_83_13, bf_83_47, bf_83_115, bf_83_121, bo_83_0, bo_83_13, bo_83_47, bo_83_115, bo_83_121, z_biT]
            exact w
          | false =>
            rw [ect, if_neg (fun q => by rw [hal] at q; exact absurd q.2 (by decide)), Nat.add_zero] at w
            simp (disch := omega) only [e_q0, e_nil, e_cons, e_q, e_qf, e_qt, e_af, z_hd, z_mk1, z_lg, z_s1, z_s2, z_kl, z_en, z_kI, z_fv, z_ic, z_c1, z_sh, z_pop, z_rc, z_tgt, z_tsw, z_lsw, z_nw, z_ac, o_kI, o_kL, o_ldi, o_ldl, o_lda, o_sti, o_sta, o_stl, o_inc, o_b2, o_bz, o_l2, o_lz, o_ls, o_lneg, o_i2l, o_l2i, o_lcmp, o_dup, o_dupx1, o_dup2, o_if, o_if2, o_ifnull, o_get, o_put, o_iald, o_zald, o_aald, o_alen, o_iast, o_zast, o_aast, o_new, o_newa, o_call, o_call1, o_callN, o_obj, o_reti, o_retl, o_ret, o_tsw, o_lsw, va_rf_s, va_rf_n, z_u2_s, z_u2_k, z_u2_f, z_uR_f, z_uL_f, e_ix, e_vp, e_lt, e_le, e_eq, e_lt0, e_eq0, e_b0, e_b1, e_10, e_11, true_or, or_true, false_or, nI_add, z_bi_0, z_bi_1, e_bb, z_uR_s, z_uR_k, z_uL_s, z_uL_k, true_and, and_true, and_self, not_true_eq_false, not_false_eq_true, forall_const, Option.toList, List.cons_append, List.nil_append, List.singleton_append, Nat.reduceAdd, Nat.zero_add, Nat.add_zero, Nat.reduceEqDiff, ↓reduceIte, ite_true, ite_false, reduceCtorEq, Int.cast_ofNat_Int, Int.reduceAdd, Int.reduceToNat, ne_eq, false_imp_iff, true_imp_iff, cl_83, bf_83_0, bf_83_13, bf_83_47, bf_83_115, bf_83_121, bo_83_0, bo_83_13, bo_83_47, bo_83_115, bo_83_121, z_biF]
            exact w
      · have e0 : f_ct A n k = 0 := if_neg (fun q => c q.1)
        rw [e0, Nat.add_zero] at w
        exact w p.1 p.2 g1
end
