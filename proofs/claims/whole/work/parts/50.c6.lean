theorem f_lm {s : ZS} {co : Int32} {r : ZW} {g : Nat} (h0 : s.2 0 g = 0) : ∀ k, g < k → ∃ m, f_least s co r k = some m ∧ m ≤ f_most s co r k
  | 0, h => absurd h (Nat.not_lt_zero _)
  | k + 1, h => by
    unfold f_least f_most
    by_cases c : s.2 0 k = 0
    · simp only [c, if_true]
      cases q : f_least s co r k with
      | none =>
        refine ⟨_, rfl, ?_⟩
        split <;> omega
      | some m =>
        have hm : m ≤ f_most s co r k ∨ True := Or.inr trivial
        refine ⟨_, rfl, ?_⟩
        split <;> split <;> omega
    · simp only [c, if_false]
      have : g ≠ k := fun q => c (by rw [← q]; exact h0)
      exact f_lm h0 k (by omega)
theorem f_spread_b {s : ZS} {co : Int32} {r : ZW} {g : Nat} (h8 : s.1.1 ≤ 8) (hg : g < s.1.1) (h0 : s.2 0 g = 0) : ∃ m, m ≤ 8 ∧ f_spread s co r = nI m ∧ nI (f_most s co r s.1.1) - nI ((f_least s co r s.1.1).getD 8) = nI m := by
  obtain ⟨m, e, hm⟩ := f_lm (co := co) (r := r) h0 s.1.1 hg
  have hM := f_most_le (s := s) (co := co) (r := r) s.1.1
  have e2 : nI (f_most s co r s.1.1) - nI m = nI (f_most s co r s.1.1 - m) := e_sub hm
  refine ⟨f_most s co r s.1.1 - m, by omega, ?_, ?_⟩
  · unfold f_spread
    rw [e]
    exact e2
  · rw [e]
    exact e2
def x_eb : Option (Nat × Int32) → Int32
  | none => nI 0
  | some b => nI b.1
def x_es : Option (Nat × Int32) → Int32
  | none => nI 9
  | some b => b.2
section
variable {l : Launch} {G : ZG} {mi : Nat → Nat → Int32} {mr : Nat → Nat → Option Nat} {ml : Nat → Nat → Int64} {T : (Nat → Nat × Nat) × Nat × Nat} {Q : ZR} {A : ZA} {B : Nat}
theorem c_even {x : Int32} (hS : SC T mr) (hP : PX A mi ml) (hI : IA A B) (hB : B ≤ 900000) (hQ : ∀ f g, PX A f ml → FG g mr → (∀ c, 373 ≤ c → f c = mi c) → Q (some (.int (a_even A x))) (f, g, ml, T)) : z_Ok l G m_MP_even [.ref 2, .int x] (mi, mr, ml, T) Q := by
  have s1 := hS.1
  have s5 := hS.n
  have s25 := hS.t
  have h8 := hI.1.1
  unfold a_even at hQ
  refine z_okN cz_77.1 (by rw [cl_77]; exact Nat.le_of_ble_eq_true rfl) cz_77.2 (z_run ck_77 5 bf_77_0 ?_)
  simp (disch := omega) only [e_q0, e_nil, e_cons, e_q, e_qf, e_qt, e_af, z_hd, z_mk1, z_lg, z_s1, z_s2, z_kl, z_en, z_kI, z_fv, z_ic, z_c1, z_sh, z_pop, z_rc, z_tgt, z_tsw, z_lsw, z_nw, z_ac, o_kI, o_kL, o_ldi, o_ldl, o_lda, o_sti, o_sta, o_stl, o_inc, o_b2, o_bz, o_l2, o_lz, o_ls, o_lneg, o_i2l, o_l2i, o_lcmp, o_dup, o_dupx1, o_dup2, o_if, o_if2, o_ifnull, o_get, o_put, o_iald, o_zald, o_aald, o_alen, o_iast, o_zast, o_aast, o_new, o_newa, o_call, o_call1, o_callN, o_obj, o_reti, o_retl, o_ret, o_tsw, o_lsw, va_rf_s, va_rf_n, z_u2_s, z_u2_k, z_u2_f, z_uR_f, z_uL_f, e_ix, e_vp, e_lt, e_le, e_eq, e_lt0, e_eq0, e_b0, e_b1, e_10, e_11, true_or, or_true, false_or, nI_add, z_bi_0, z_bi_1, e_bb, z_uR_s, z_uR_k, z_uL_s, z_uL_k, true_and, and_true, and_self, not_true_eq_false, not_false_eq_true, forall_const, Option.toList, List.cons_append, List.nil_append, List.singleton_append, Nat.reduceAdd, Nat.zero_add, Nat.add_zero, Nat.reduceEqDiff, ↓reduceIte, ite_true, ite_false, reduceCtorEq, Int.cast_ofNat_Int, Int.reduceAdd, Int.reduceToNat, ne_eq, false_imp_iff, true_imp_iff, cl_77, bf_77_0, bf_77_13, bf_77_21, bf_77_84, bf_77_90, bo_77_0, bo_77_13, bo_77_21, bo_77_84, bo_77_90, s1, s5, s25]
  refine x_isGateway hS.2.1.1 hP.1 h8.1 ?_
  cases hq : f_gate A.s x with
  | false =>
    rw [hq] at hQ
    simp (disch := omega) only [e_q0, e_nil, e_cons, e_q, e_qf, e_qt, e_af, z_hd, z_mk1, z_lg, z_s1, z_s2, z_kl, z_en, z_kI, z_fv, z_ic, z_c1, z_sh, z_pop, z_rc, z_tgt, z_tsw, z_lsw, z_nw, z_ac, o_kI, o_kL, o_ldi, o_ldl, o_lda, o_sti, o_sta, o_stl, o_inc, o_b2, o_bz, o_l2, o_lz, o_ls, o_lneg, o_i2l, o_l2i, o_lcmp, o_dup, o_dupx1, o_dup2, o_if, o_if2, o_ifnull, o_get, o_put, o_iald, o_zald, o_aald, o_alen, o_iast, o_zast, o_aast, o_new, o_newa, o_call, o_call1, o_callN, o_obj, o_reti, o_retl, o_ret, o_tsw, o_lsw, va_rf_s, va_rf_n, z_u2_s, z_u2_k, z_u2_f, z_uR_f, z_uL_f, e_ix, e_vp, e_lt, e_le, e_eq, e_lt0, e_eq0, e_b0, e_b1, e_10, e_11, true_or, or_true, false_or, nI_add, z_bi_0, z_bi_1, e_bb, z_uR_s, z_uR_k, z_uL_s, z_uL_k, true_and, and_true, and_self, not_true_eq_false, not_false_eq_true, forall_const, Option.toList, List.cons_append, List.nil_append, List.singleton_append, Nat.reduceAdd, Nat.zero_add, Nat.add_zero, Nat.reduceEqDiff, ↓reduceIte, ite_true, ite_false, reduceCtorEq, Int.cast_ofNat_Int, Int.reduceAdd, Int.reduceToNat, ne_eq, false_imp_iff, true_imp_iff, cl_77, bf_77_0, bf_77_13, bf_77_21, bf_77_84, bf_77_90, bo_77_0, bo_77_13, bo_77_21, bo_77_84, bo_77_90, s1, s5, z_biF]
    exact hQ _ _ hP (fun _ _ _ => rfl) fun _ _ => rfl
  | true =>
    simp only [hq, if_true] at hQ
    obtain ⟨gw, hg, rfl, h0⟩ := f_gate_t (by omega) hq
    rw [e_ix (by omega)] at hQ
    simp (disch := omega) only [e_q0, e_nil, e_cons, e_q, e_qf, e_qt, e_af, z_hd, z_mk1, z_lg, z_s1, z_s2, z_kl, z_en, z_kI, z_fv, z_ic, z_c1, z_sh, z_pop, z_rc, z_tgt, z_tsw, z_lsw, z_nw, z_ac, o_kI, o_kL, o_ldi, o_ldl, o_lda, o_sti, o_sta, o_stl, o_inc, o_b2, o_bz, o_l2, o_lz, o_ls, o_lneg, o_i2l, o_l2i, o_lcmp, o_dup, o_dupx1, o_dup2, o_if, o_if2, o_ifnull, o_get, o_put, o_iald, o_zald, o_aald, o_alen, o_iast, o_zast, o_aast, o_new, o_newa, o_call, o_call1, o_callN, o_obj, o_reti, o_retl, o_ret, o_tsw, o_lsw, va_rf_s, va_rf_n, z_u2_s, z_u2_k, z_u2_f, z_uR_f, z_uL_f, e_ix, e_vp, e_lt, e_le, e_eq, e_lt0, e_eq0, e_b0, e_b1, e_10, e_11, true_or, or_true, false_or, nI_add, z_bi_0, z_bi_1, e_bb, z_uR_s, z_uR_k, z_uL_s, z_uL_k, true_and, and_true, and_self, not_true_eq_false, not_false_eq_true, forall_const, Option.toList, List.cons_append, List.nil_append, List.singleton_append, Nat.reduceAdd, Nat.zero_add, Nat.add_zero, Nat.reduceEqDiff, ↓reduceIte, ite_true, ite_false, reduceCtorEq, Int.cast_ofNat_Int, Int.reduceAdd, Int.reduceToNat, ne_eq, false_imp_iff, true_imp_iff, cl_77, bf_77_0, bf_77_13, bf_77_21, bf_77_84, bf_77_90, bo_77_0, bo_77_13, bo_77_21, bo_77_84, bo_77_90, s1, s5, z_biT]
    refine z_for (α := (Nat → Nat → Int32) × (Nat → Nat → Option Nat)) (P := fun k p => FX p.1 mi p.2 mr 25 → z_W l G 77 (T.2.1, T.2.2) (fun v M' => Q v M' ∧ M'.2.2.2 = T) 21 [some (.ref 2), some (.int (nI gw)), some (.int (x_eb (f_even A gw k))), some (.int (x_es (f_even A gw k))), some (.int (nI k)), none] [] (p.1, p.2, ml, T)) 10 (fun p h1 => ?_) (fun k hk ih p h1 => ?_) 0 (by omega) (mi, mr) ⟨fun _ _ => rfl, fun _ _ => rfl⟩
    · refine z_run ck_77 5 bf_77_21 ?_
      simp (disch := omega) only [e_q0, e_nil, e_cons, e_q, e_qf, e_qt, e_af, z_hd, z_mk1, z_lg, z_s1, z_s2, z_kl, z_en, z_kI, z_fv, z_ic, z_c1, z_sh, z_pop, z_rc, z_tgt, z_tsw, z_lsw, z_nw, z_ac, o_kI, o_kL, o_ldi, o_ldl, o_lda, o_sti, o_sta, o_stl, o_inc, o_b2, o_bz, o_l2, o_lz, o_ls, o_lneg, o_i2l, o_l2i, o_lcmp, o_dup, o_dupx1, o_dup2, o_if, o_if2, o_ifnull, o_get, o_put, o_iald, o_zald, o_aald, o_alen, o_iast, o_zast, o_aast, o_new, o_newa, o_call, o_call1, o_callN, o_obj, o_reti, o_retl, o_ret, o_tsw, o_lsw, va_rf_s, va_rf_n, z_u2_s, z_u2_k, z_u2_f, z_uR_f, z_uL_f, e_ix, e_vp, e_lt, e_le, e_eq, e_lt0, e_eq0, e_b0, e_b1, e_10, e_11, true_or, or_true, false_or, nI_add, z_bi_0, z_bi_1, e_bb, z_uR_s, z_uR_k, z_uL_s, z_uL_k, true_and, and_true, and_self, not_true_eq_false, not_false_eq_true, forall_const, Option.toList, List.cons_append, List.nil_append, List.singleton_append, Nat.reduceAdd, Nat.zero_add, Nat.add_zero, Nat.reduceEqDiff, ↓reduceIte, ite_true, ite_false, reduceCtorEq, Int.cast_ofNat_Int, Int.reduceAdd, Int.reduceToNat, ne_eq, false_imp_iff, true_imp_iff, cl_77, bf_77_0, bf_77_13, bf_77_21, bf_77_84, bf_77_90, bo_77_0, bo_77_13, bo_77_21, bo_77_84, bo_77_90]
      obtain ⟨p1, p2, p3⟩ := PX.of25 h1 hP h8
      have hq := hQ _ _ p1 p2 p3
      refine ⟨fun _ => ?_, fun q => absurd (by omega) q⟩
      cases q : f_even A gw 10 with
      | none => exact (f_even_0 A gw 10 (by omega) q).elim
      | some b => rw [q] at hq; exact hq
    · obtain ⟨p1, p2, p3⟩ := PX.of25 h1 hP h8
      have hS' := SC.of hS p2
      have s1' := hS'.1
      have s25' := hS'.t
      refine z_run ck_77 5 bf_77_21 ?_
      simp (disch := omega) only [e_q0, e_nil, e_cons, e_q, e_qf, e_qt, e_af, z_hd, z_mk1, z_lg, z_s1, z_s2, z_kl, z_en, z_kI, z_fv, z_ic, z_c1, z_sh, z_pop, z_rc, z_tgt, z_tsw, z_lsw, z_nw, z_ac, o_kI, o_kL, o_ldi, o_ldl, o_lda, o_sti, o_sta, o_stl, o_inc, o_b2, o_bz, o_l2, o_lz, o_ls, o_lneg, o_i2l, o_l2i, o_lcmp, o_dup, o_dupx1, o_dup2, o_if, o_if2, o_ifnull, o_get, o_put, o_iald, o_zald, o_aald, o_alen, o_iast, o_zast, o_aast, o_new, o_newa, o_call, o_call1, o_callN, o_obj, o_reti, o_retl, o_ret, o_tsw, o_lsw, va_rf_s, va_rf_n, z_u2_s, z_u2_k, z_u2_f, z_uR_f, z_uL_f, e_ix, e_vp, e_lt, e_le, e_eq, e_lt0, e_eq0, e_b0, e_b1, e_10, e_11, true_or, or_true, false_or, nI_add, z_bi_0, z_bi_1, e_bb, z_uR_s, z_uR_k, z_uL_s, z_uL_k, true_and, and_true, and_self, not_true_eq_false, not_false_eq_true, forall_const, Option.toList, List.cons_append, List.nil_append, List.singleton_append, Nat.reduceAdd, Nat.zero_add, Nat.add_zero, Nat.reduceEqDiff, ↓reduceIte, ite_true, ite_false, reduceCtorEq, Int.cast_ofNat_Int, Int.reduceAdd, Int.reduceToNat, ne_eq, false_imp_iff, true_imp_iff, cl_77, bf_77_0, bf_77_13, bf_77_21, bf_77_84, bf_77_90, bo_77_0, bo_77_13, bo_77_21, bo_77_84, bo_77_90, s1', s5, s25']
      refine ⟨fun c => absurd c (by omega), fun _ => ?_⟩
      refine c_toTrial hS' p1 hI fun f f1 f2 => ?_
      have q1 : T.1 (27 + gw) = (1, 3) ∧ p.2 26 gw = some (27 + gw) := hS'.2.1.2.2.1 gw (by omega)
      simp (disch := omega) only [e_q0, e_nil, e_cons, e_q, e_qf, e_qt, e_af, z_hd, z_mk1, z_lg, z_s1, z_s2, z_kl, z_en, z_kI, z_fv, z_ic, z_c1, z_sh, z_pop, z_rc, z_tgt, z_tsw, z_lsw, z_nw, z_ac, o_kI, o_kL, o_ldi, o_ldl, o_lda, o_sti, o_sta, o_stl, o_inc, o_b2, o_bz, o_l2, o_lz, o_ls, o_lneg, o_i2l, o_l2i, o_lcmp, o_dup, o_dupx1, o_dup2, o_if, o_if2, o_ifnull, o_get, o_put, o_iald, o_zald, o_aald, o_alen, o_iast, o_zast, o_aast, o_new, o_newa, o_call, o_call1, o_callN, o_obj, o_reti, o_retl, o_ret, o_tsw, o_lsw, va_rf_s, va_rf_n, z_u2_s, z_u2_k, z_u2_f, z_uR_f, z_uL_f, e_ix, e_vp, e_lt, e_le, e_eq, e_lt0, e_eq0, e_b0, e_b1, e_10, e_11, true_or, or_true, false_or, nI_add, z_bi_0, z_bi_1, e_bb, z_uR_s, z_uR_k, z_uL_s, z_uL_k, true_and, and_true, and_self, not_true_eq_false, not_false_eq_true, forall_const, Option.toList, List.cons_append, List.nil_append, List.singleton_append, Nat.reduceAdd, Nat.zero_add, Nat.add_zero, Nat.reduceEqDiff, ↓reduceIte, ite_true, ite_false, reduceCtorEq, Int.cast_ofNat_Int, Int.reduceAdd, Int.reduceToNat, ne_eq, false_imp_iff, true_imp_iff, cl_77, bf_77_0, bf_77_13, bf_77_21, bf_77_84, bf_77_90, bo_77_0, bo_77_13, bo_77_21, bo_77_84, bo_77_90, s1', s5, s25', q1, z_t4]
      have hr := f_row_set (k := 67 + gw) (v := nI k) hI.1 hI.2.1 (Or.inr (Or.inr (Or.inl ⟨by omega, by omega, by rw [show 67 + gw - 67 = gw by omega]; exact h0, k, by omega, rfl⟩)))
      have hr2 := f_gos_row (co := nI 255) hI.1 20 _ B hr (by omega)
      refine x_passRounds (mi := z_u2 f (27 + gw) 1 (nI k)) (co := nI 255) (s := A.s) (r := f_set A.r (67 + gw) (nI k)) hS'.2.1.2 (MX.nd f2 h8 hg) hI.1 hr (by omega) (by omega) (x_co0 h8.1) fun f' g' g1 g2 => ?_
      have g4 : FX f' mi g' mr 25 := FX.trans g1 ⟨fun c hc => by rw [z_u2_f (by omega), f1 c hc]; exact h1.1 c hc, h1.2⟩
      have hS2 := SC.of hS (FG.t g4.2)
      have s1'' := hS2.1
      simp (disch := omega) only [e_q0, e_nil, e_cons, e_q, e_qf, e_qt, e_af, z_hd, z_mk1, z_lg, z_s1, z_s2, z_kl, z_en, z_kI, z_fv, z_ic, z_c1, z_sh, z_pop, z_rc, z_tgt, z_tsw, z_lsw, z_nw, z_ac, o_kI, o_kL, o_ldi, o_ldl, o_lda, o_sti, o_sta, o_stl, o_inc, o_b2, o_bz, o_l2, o_lz, o_ls, o_lneg, o_i2l, o_l2i, o_lcmp, o_dup, o_dupx1, o_dup2, o_if, o_if2, o_ifnull, o_get, o_put, o_iald, o_zald, o_aald, o_alen, o_iast, o_zast, o_aast, o_new, o_newa, o_call, o_call1, o_callN, o_obj, o_reti, o_retl, o_ret, o_tsw, o_lsw, va_rf_s, va_rf_n, z_u2_s, z_u2_k, z_u2_f, z_uR_f, z_uL_f, e_ix, e_vp, e_lt, e_le, e_eq, e_lt0, e_eq0, e_b0, e_b1, e_10, e_11, true_or, or_true, false_or, nI_add, z_bi_0, z_bi_1, e_bb, z_uR_s, z_uR_k, z_uL_s, z_uL_k, true_and, and_true, and_self, not_true_eq_false, not_false_eq_true, forall_const, Option.toList, List.cons_append, List.nil_append, List.singleton_append, Nat.reduceAdd, Nat.zero_add, Nat.add_zero, Nat.reduceEqDiff, ↓reduceIte, ite_true, ite_false, reduceCtorEq, Int.cast_ofNat_Int, Int.reduceAdd, Int.reduceToNat, ne_eq, false_imp_iff, true_imp_iff, cl_77, bf_77_0, bf_77_13, bf_77_21, bf_77_84, bf_77_90, bo_77_0, bo_77_13, bo_77_21, bo_77_84, bo_77_90, s1'', s5, s25']
      refine x_loadSpread hS2.2.1.2 g2 h8.1 hr2.1.2.1 ?_
      have w := ih (f', g') g4
      unfold f_even at w
      obtain ⟨m, hm, em, em2⟩ := f_spread_b (co := nI 255) (r := f_gos A.s (nI 255) 20 (f_set A.r (67 + gw) (nI k))) h8.1 hg h0
      rw [em2]
      rw [em] at w
      simp (disch := omega) only [e_q0, e_nil, e_cons, e_q, e_qf, e_qt, e_af, z_hd, z_mk1, z_lg, z_s1, z_s2, z_kl, z_en, z_kI, z_fv, z_ic, z_c1, z_sh, z_pop, z_rc, z_tgt, z_tsw, z_lsw, z_nw, z_ac, o_kI, o_kL, o_ldi, o_ldl, o_lda, o_sti, o_sta, o_stl, o_inc, o_b2, o_bz, o_l2, o_lz, o_ls, o_lneg, o_i2l, o_l2i, o_lcmp, o_dup, o_dupx1, o_dup2, o_if, o_if2, o_ifnull, o_get, o_put, o_iald, o_zald, o_aald, o_alen, o_iast, o_zast, o_aast, o_new, o_newa, o_call, o_call1, o_callN, o_obj, o_reti, o_retl, o_ret, o_tsw, o_lsw, va_rf_s, va_rf_n, z_u2_s, z_u2_k, z_u2_f, z_uR_f, z_uL_f, e_ix, e_vp, e_lt, e_le, e_eq, e_lt0, e_eq0, e_b0, e_b1, e_10, e_11, true_or, or_true, false_or, nI_add, z_bi_0, z_bi_1, e_bb, z_uR_s, z_uR_k, z_uL_s, z_uL_k, true_and, and_true, and_self, not_true_eq_false, not_false_eq_true, forall_const, Option.toList, List.cons_append, List.nil_append, List.singleton_append, Nat.reduceAdd, Nat.zero_add, Nat.add_zero, Nat.reduceEqDiff, ↓reduceIte, ite_true, ite_false, reduceCtorEq, Int.cast_ofNat_Int, Int.reduceAdd, Int.reduceToNat, ne_eq, false_imp_iff, true_imp_iff, cl_77, bf_77_0, bf_77_13, bf_77_21, bf_77_84, bf_77_90, bo_77_0, bo_77_13, bo_77_21, bo_77_84, bo_77_90]
      cases q : f_even A gw k with
      | none =>
        rw [q] at w
        refine ⟨fun c => absurd (show nI 9 ≤ nI m from c) (by rw [e_le (by omega) (by omega)]; omega), fun _ => w⟩
      | some b =>
        rw [q] at w
        simp only at w
        refine ⟨fun c => ?_, fun c => ?_⟩
        · rw [if_neg (Int32.not_lt.mpr (show b.2 ≤ nI m from c))] at w; exact w
        · rw [if_pos (Int32.not_le.mp (show ¬ b.2 ≤ nI m from c))] at w; exact w
set_option maxRecDepth 100000 in
theorem x_tb : ∀ rb, rb < 512 → ∀ v, v < 8 → ((nI rb &&& z_shl (nI 1) (nI v) = 0) ↔ rb.testBit v = false) := by decide +kernel
theorem x_agreeAfter {n : Nat} {rb : Nat} (hS : SC T mr) (h9 : mi 369 3 = nI A.o) (ho : A.o ≤ 6) (hO : ∀ j, j < A.o → mi 370 j = A.O 0 j ∧ mi 371 j = A.O 1 j ∧ mi 372 j = A.O 2 j) (hn : n < 1000) (hr : rb < 512)
    (hI : ∀ j, j < A.o → (∃ v, v < 8 ∧ A.O 0 j = nI v) ∧ (∃ m, m ≤ 20 ∧ A.O 1 j = nI m) ∧ (A.O 2 j = nI 0 ∨ A.O 2 j = nI 1))
    (h1 : (∀ j, j < A.o → A.O 1 j = nI n → (decide (A.O 2 j = nI 1) = rb.testBit (z_ix (A.O 0 j)))) → Q (some (.int (nI 1))) (mi, mr, ml, T)) (h0 : ∀ j, j < A.o → A.O 1 j = nI n → ¬ (decide (A.O 2 j = nI 1) = rb.testBit (z_ix (A.O 0 j))) → Q (some (.int (nI 0))) (mi, mr, ml, T)) :
    z_Ok l G m_Observations_agreeAfter [.ref 369, .int (nI n), .int (nI rb)] (mi, mr, ml, T) Q := by
  have s1 := hS.1
  refine z_okN cz_46.1 (by rw [cl_46]; exact Nat.le_of_ble_eq_true rfl) cz_46.2 (z_run ck_46 6 bf_46_0 ?_)
  simp (disch := omega) only [e_q0, e_nil, e_cons, e_q, e_qf, e_qt, e_af, z_hd, z_mk1, z_lg, z_s1, z_s2, z_kl, z_en, z_kI, z_fv, z_ic, z_c1, z_sh, z_pop, z_rc, z_tgt, z_tsw, z_lsw, z_nw, z_ac, o_kI, o_kL, o_ldi, o_ldl, o_lda, o_sti, o_sta, o_stl, o_inc, o_b2, o_bz, o_l2, o_lz, o_ls, o_lneg, o_i2l, o_l2i, o_lcmp, o_dup, o_dupx1, o_dup2, o_if, o_if2, o_ifnull, o_get, o_put, o_iald, o_zald, o_aald, o_alen, o_iast, o_zast, o_aast, o_new, o_newa, o_call, o_call1, o_callN, o_obj, o_reti, o_retl, o_ret, o_tsw, o_lsw, va_rf_s, va_rf_n, z_u2_s, z_u2_k, z_u2_f, z_uR_f, z_uL_f, e_ix, e_vp, e_lt, e_le, e_eq, e_lt0, e_eq0, e_b0, e_b1, e_10, e_11, true_or, or_true, false_or, nI_add, z_bi_0, z_bi_1, e_bb, z_uR_s, z_uR_k, z_uL_s, z_uL_k, true_and, and_true, and_self, not_true_eq_false, not_false_eq_true, forall_const, Option.toList, List.cons_append, List.nil_append, List.singleton_append, Nat.reduceAdd, Nat.zero_add, Nat.add_zero, Nat.reduceEqDiff, ↓reduceIte, ite_true, ite_false, reduceCtorEq, Int.cast_ofNat_Int, Int.reduceAdd, Int.reduceToNat, ne_eq, false_imp_iff, true_imp_iff, cl_46, bf_46_0, bf_46_2, bf_46_43, bf_46_44, bf_46_49, bf_46_55, bo_46_0, bo_46_2, bo_46_43, bo_46_44, bo_46_49, bo_46_55, s1]
  refine z_for (α := Unit) (P := fun k _ => (∀ j, j < k → A.O 1 j = nI n → (decide (A.O 2 j = nI 1) = rb.testBit (z_ix (A.O 0 j)))) → z_W l G 46 (T.2.1, T.2.2) (fun v M' => Q v M' ∧ M'.2.2.2 = T) 2 [some (.ref 369), some (.int (nI n)), some (.int (nI rb)), some (.int (nI k))] [] (mi, mr, ml, T)) A.o (fun _ hh => ?_) (fun k hk ih _ hh => ?_) 0 (by omega) () (fun j hj => absurd hj (Nat.not_lt_zero _))
  · refine z_run ck_46 6 bf_46_2 ?_
    simp (disch := omega) only [e_q0, e_nil, e_cons, e_q, e_qf, e_qt, e_af, z_hd, z_mk1, z_lg, z_s1, z_s2, z_kl, z_en, z_kI, z_fv, z_ic, z_c1, z_sh, z_pop, z_rc, z_tgt, z_tsw, z_lsw, z_nw, z_ac, o_kI, o_kL, o_ldi, o_ldl, o_lda, o_sti, o_sta, o_stl, o_inc, o_b2, o_bz, o_l2, o_lz, o_ls, o_lneg, o_i2l, o_l2i, o_lcmp, o_dup, o_dupx1, o_dup2, o_if, o_if2, o_ifnull, o_get, o_put, o_iald, o_zald, o_aald, o_alen, o_iast, o_zast, o_aast, o_new, o_newa, o_call, o_call1, o_callN, o_obj, o_reti, o_retl, o_ret, o_tsw, o_lsw, va_rf_s, va_rf_n, z_u2_s, z_u2_k, z_u2_f, z_uR_f, z_uL_f, e_ix, e_vp, e_lt, e_le, e_eq, e_lt0, e_eq0, e_b0, e_b1, e_10, e_11, true_or, or_true, false_or, nI_add, z_bi_0, z_bi_1, e_bb, z_uR_s, z_uR_k, z_uL_s, z_uL_k, true_and, and_true, and_self, not_true_eq_false, not_false_eq_true, forall_const, Option.toList, List.cons_append, List.nil_append, List.singleton_append, Nat.reduceAdd, Nat.zero_add, Nat.add_zero, Nat.reduceEqDiff, ↓reduceIte, ite_true, ite_false, reduceCtorEq, Int.cast_ofNat_Int, Int.reduceAdd, Int.reduceToNat, ne_eq, false_imp_iff, true_imp_iff, cl_46, bf_46_0, bf_46_2, bf_46_43, bf_46_44, bf_46_49, bf_46_55, bo_46_0, bo_46_2, bo_46_43, bo_46_44, bo_46_49, bo_46_55, s1, h9, Nat.le_refl]
    exact h1 hh
  · have hk' := Nat.not_le.mpr hk
    obtain ⟨e0, e1, e2⟩ := hO k hk
    obtain ⟨⟨v, hv, i0⟩, ⟨m, hm, i1⟩, i2⟩ := hI k hk
    rw [i0] at e0
    rw [i1] at e1
    refine z_run ck_46 6 bf_46_2 ?_
    simp (disch := omega) only [e_q0, e_nil, e_cons, e_q, e_qf, e_qt, e_af, z_hd, z_mk1, z_lg, z_s1, z_s2, z_kl, z_en, z_kI, z_fv, z_ic, z_c1, z_sh, z_pop, z_rc, z_tgt, z_tsw, z_lsw, z_nw, z_ac, o_kI, o_kL, o_ldi, o_ldl, o_lda, o_sti, o_sta, o_stl, o_inc, o_b2, o_bz, o_l2, o_lz, o_ls, o_lneg, o_i2l, o_l2i, o_lcmp, o_dup, o_dupx1, o_dup2, o_if, o_if2, o_ifnull, o_get, o_put, o_iald, o_zald, o_aald, o_alen, o_iast, o_zast, o_aast, o_new, o_newa, o_call, o_call1, o_callN, o_obj, o_reti, o_retl, o_ret, o_tsw, o_lsw, va_rf_s, va_rf_n, z_u2_s, z_u2_k, z_u2_f, z_uR_f, z_uL_f, e_ix, e_vp, e_lt, e_le, e_eq, e_lt0, e_eq0, e_b0, e_b1, e_10, e_11, true_or, or_true, false_or, nI_add, z_bi_0, z_bi_1, e_bb, z_uR_s, z_uR_k, z_uL_s, z_uL_k, true_and, and_true, and_self, not_true_eq_false, not_false_eq_true, forall_const, Option.toList, List.cons_append, List.nil_append, List.singleton_append, Nat.reduceAdd, Nat.zero_add, Nat.add_zero, Nat.reduceEqDiff, ↓reduceIte, ite_true, ite_false, reduceCtorEq, Int.cast_ofNat_Int, Int.reduceAdd, Int.reduceToNat, ne_eq, false_imp_iff, true_imp_iff, cl_46, bf_46_0, bf_46_2, bf_46_43, bf_46_44, bf_46_49, bf_46_55, bo_46_0, bo_46_2, bo_46_43, bo_46_44, bo_46_49, bo_46_55, s1, h9, hk', e0, e1, e2]
    have tb := x_tb rb hr v hv
    have ez : z_ix (A.O 0 k) = v := by rw [i0, e_ix (by omega)]
    have go : ∀ h : A.O 1 k = nI n → (decide (A.O 2 k = nI 1) = rb.testBit v), z_W l G 46 (T.2.1, T.2.2) (fun v M' => Q v M' ∧ M'.2.2.2 = T) 2 [some (.ref 369), some (.int (nI n)), some (.int (nI rb)), some (.int (nI (k + 1)))] [] (mi, mr, ml, T) := fun h => ih () fun j hj e => by
      by_cases q : j = k
      · subst q; rw [ez]; exact h e
      · exact hh j (by omega) e
    refine ⟨fun c => ⟨fun c2 => ⟨fun c3 => go fun _ => ?_, fun c3 => h0 k hk (by rw [i1, c]) ?_⟩, fun c2 => ⟨fun c3 => go fun _ => ?_, fun c3 => h0 k hk (by rw [i1, c]) ?_⟩⟩, fun c => go fun e => ?_⟩
    · rw [tb.mp c2, c3]; decide
    · rw [ez, tb.mp c2, i2.resolve_left c3]; decide
    · rw [tb] at c2
      rw [Bool.not_eq_false] at c2
      rw [c2, c3]; decide
    · rw [tb] at c2
      rw [Bool.not_eq_false] at c2
      rw [ez, c2, i2.resolve_right c3]; decide
    · rw [i1, e_eq (by omega) (by omega)] at e
      exact absurd e c
end
