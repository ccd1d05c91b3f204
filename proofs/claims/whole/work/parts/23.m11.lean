theorem z_dv (x : Int64) : ∃ j, j < 2147483648 ∧ (z_lushr x (nI 33)).toInt32 = nI j := by
  have hx := x.toUInt64.toNat_lt
  have e : (nI 33).toInt64.toUInt64 &&& Int64.toUInt64 63 = 33 := by decide
  have e2 : (x.toUInt64 >>> (33 : UInt64)).toNat = x.toUInt64.toNat / 8589934592 := by
    rw [UInt64.toNat_shiftRight, Nat.shiftRight_eq_div_pow]
    rfl
  have e3 : (x.toUInt64 >>> (33 : UInt64)).toInt64 = lN (x.toUInt64.toNat / 8589934592) := by
    refine Int64.toBitVec_inj.mp (BitVec.eq_of_toNat_eq ?_)
    show (x.toUInt64 >>> (33 : UInt64)).toNat = (x.toUInt64.toNat / 8589934592) % 2 ^ 64
    rw [e2, Nat.mod_eq_of_lt (by omega)]
  refine ⟨x.toUInt64.toNat / 8589934592, by omega, ?_⟩
  unfold z_lushr
  rw [e, e3, lN_i]
def f_nsd (sd : Int64) : Int64 := sd * lN 6364136223846793005 + lN 1442695040888963407
def f_dv (sd : Int64) : Int32 := (z_lushr (f_nsd sd) (nI 33)).toInt32
def f_drow (s : ZS) (r : ZW) (v : Int32) : ZW := f_set r (58 + z_ix (z_rem v (nI s.1.2))) (if z_rem (v / nI 16) (nI 2) = 0 then nI 1 - r (58 + z_ix (z_rem v (nI s.1.2))) else r (58 + z_ix (z_rem v (nI s.1.2))))
/-- k draws: the row, the random number, the sum -/
def f_draw (A : ZA) : Nat → ZW × Int64 × Int32
  | 0 => (A.r, A.sd, nI 0)
  | k + 1 => if A.s.1.2 = 0 then ((f_draw A k).1, f_nsd (f_draw A k).2.1, (f_draw A k).2.2) else (f_go A.s (nI 255) (f_drow A.s (f_draw A k).1 (f_dv (f_draw A k).2.1)), f_nsd (f_draw A k).2.1, (f_draw A k).2.2 + (nI A.s.1.1 - f_ones (f_reached A.s (nI 255) (f_go A.s (nI 255) (f_drow A.s (f_draw A k).1 (f_dv (f_draw A k).2.1))) A.s.1.1) 9))
def a_drawn (A : ZA) (x : Int32) : Int32 × ZA := if f_in x 1 20 then ((f_draw A (z_ix x)).2.2, (a_seed A (f_draw A (z_ix x)).2.1).2) else (z_ng 2, A)
section
variable {l : Launch} {G : ZG} {mi : Nat → Nat → Int32} {mr : Nat → Nat → Option Nat} {ml : Nat → Nat → Int64} {T : (Nat → Nat × Nat) × Nat × Nat} {Q : ZR} {A : ZA}
theorem PA.sd {v : Int64} (hM : PA A mi ml) : PA (a_seed A v).2 mi (z_uL ml 373 22 v) := ⟨hM.1, hM.2.1, hM.2.2.1, hM.2.2.2.1, hM.2.2.2.2.1, hM.2.2.2.2.2.1, z_uL_s⟩
theorem k_drawn {x : Int32} (hS : SM T mr) (hM : PA A mi ml) (hW : WA A) (hQ : ∀ f g, PA (a_drawn A x).2 f g → (∀ c, c < 373 → f c = mi c) → (∀ c, c < 373 → g c = ml c) → Q (some (.int (a_drawn A x).1)) (f, mr, g, T)) : z_Ok l G m_Model_drawn [.ref 373, .int x] (mi, mr, ml, T) Q := by
  have hs := hM.1
  have h8 := hs.2
  have hw2 : T.1 382 = (2, 78) := by rw [hS.1.2.2.2.2.2.2.2.2.2.1]
  unfold a_drawn at hQ
  refine z_okN cz_172.1 (by rw [cl_172]; exact Nat.le_of_ble_eq_true rfl) cz_172.2 (z_run ck_172 7 bf_172_0 ?_)
  simp (disch := omega) only [e_q0, e_nil, e_cons, e_q, e_qf, e_qt, e_af, z_hd, z_mk1, z_lg, z_s1, z_s2, z_kl, z_en, z_kI, z_fv, z_ic, z_c1, z_sh, z_pop, z_rc, z_tgt, z_tsw, z_lsw, z_nw, z_ac, o_kI, o_kL, o_ldi, o_ldl, o_lda, o_sti, o_sta, o_stl, o_inc, o_b2, o_bz, o_l2, o_lz, o_ls, o_lneg, o_i2l, o_l2i, o_lcmp, o_dup, o_dupx1, o_dup2, o_if, o_if2, o_ifnull, o_get, o_put, o_iald, o_zald, o_aald, o_alen, o_iast, o_zast, o_aast, o_new, o_newa, o_call, o_call1, o_callN, o_obj, o_reti, o_retl, o_ret, o_tsw, o_lsw, va_rf_s, va_rf_n, z_u2_s, z_u2_k, z_u2_f, z_uR_f, z_uL_f, e_ix, e_vp, e_lt, e_le, e_eq, e_lt0, e_eq0, e_b0, e_b1, e_10, e_11, true_or, or_true, false_or, nI_add, z_bi_0, z_bi_1, e_bb, z_uR_s, z_uR_k, z_uL_s, z_uL_k, true_and, and_true, and_self, not_true_eq_false, not_false_eq_true, forall_const, Option.toList, List.cons_append, List.nil_append, List.singleton_append, Nat.reduceAdd, Nat.zero_add, Nat.add_zero, Nat.reduceEqDiff, ↓reduceIte, ite_true, ite_false, reduceCtorEq, Int.cast_ofNat_Int, Int.reduceAdd, Int.reduceToNat, ne_eq, false_imp_iff, true_imp_iff, cl_172, bf_172_0, bf_172_15, bf_172_30, bf_172_111, bf_172_121, bf_172_149, bf_172_155, bo_172_0, bo_172_15, bo_172_30, bo_172_111, bo_172_121, bo_172_149, bo_172_155, hS]
  refine k_inI (by omega) (by omega) ?_
  simp (disch := omega) only [e_q0, e_nil, e_cons, e_q, e_qf, e_qt, e_af, z_hd, z_mk1, z_lg, z_s1, z_s2, z_kl, z_en, z_kI, z_fv, z_ic, z_c1, z_sh, z_pop, z_rc, z_tgt, z_tsw, z_lsw, z_nw, z_ac, o_kI, o_kL, o_ldi, o_ldl, o_lda, o_sti, o_sta, o_stl, o_inc, o_b2, o_bz, o_l2, o_lz, o_ls, o_lneg, o_i2l, o_l2i, o_lcmp, o_dup, o_dupx1, o_dup2, o_if, o_if2, o_ifnull, o_get, o_put, o_iald, o_zald, o_aald, o_alen, o_iast, o_zast, o_aast, o_new, o_newa, o_call, o_call1, o_callN, o_obj, o_reti, o_retl, o_ret, o_tsw, o_lsw, va_rf_s, va_rf_n, z_u2_s, z_u2_k, z_u2_f, z_uR_f, z_uL_f, e_ix, e_vp, e_lt, e_le, e_eq, e_lt0, e_eq0, e_b0, e_b1, e_10, e_11, true_or, or_true, false_or, nI_add, z_bi_0, z_bi_1, e_bb, z_uR_s, z_uR_k, z_uL_s, z_uL_k, true_and, and_true, and_self, not_true_eq_false, not_false_eq_true, forall_const, Option.toList, List.cons_append, List.nil_append, List.singleton_append, Nat.reduceAdd, Nat.zero_add, Nat.add_zero, Nat.reduceEqDiff, ↓reduceIte, ite_true, ite_false, reduceCtorEq, Int.cast_ofNat_Int, Int.reduceAdd, Int.reduceToNat, ne_eq, false_imp_iff, true_imp_iff, cl_172, bf_172_0, bf_172_15, bf_172_30, bf_172_111, bf_172_121, bf_172_149, bf_172_155, bo_172_0, bo_172_15, bo_172_30, bo_172_111, bo_172_121, bo_172_149, bo_172_155, hS]
  refine ⟨fun c => ?_, fun c => ?_⟩
  · rw [c] at hQ
    exact hQ _ _ hM (fun _ _ => rfl) fun _ _ => rfl
  rw [Bool.not_eq_false] at c
  rw [c] at hQ
  obtain ⟨n, hn1, hn2, rfl⟩ := f_in_t (by omega) (by omega) c
  rw [e_ix (by omega)] at hQ
  refine k_copyT hS hM hW fun g hg hg2 hg3 => ?_
  simp (disch := omega) only [e_q0, e_nil, e_cons, e_q, e_qf, e_qt, e_af, z_hd, z_mk1, z_lg, z_s1, z_s2, z_kl, z_en, z_kI, z_fv, z_ic, z_c1, z_sh, z_pop, z_rc, z_tgt, z_tsw, z_lsw, z_nw, z_ac, o_kI, o_kL, o_ldi, o_ldl, o_lda, o_sti, o_sta, o_stl, o_inc, o_b2, o_bz, o_l2, o_lz, o_ls, o_lneg, o_i2l, o_l2i, o_lcmp, o_dup, o_dupx1, o_dup2, o_if, o_if2, o_ifnull, o_get, o_put, o_iald, o_zald, o_aald, o_alen, o_iast, o_zast, o_aast, o_new, o_newa, o_call, o_call1, o_callN, o_obj, o_reti, o_retl, o_ret, o_tsw, o_lsw, va_rf_s, va_rf_n, z_u2_s, z_u2_k, z_u2_f, z_uR_f, z_uL_f, e_ix, e_vp, e_lt, e_le, e_eq, e_lt0, e_eq0, e_b0, e_b1, e_10, e_11, true_or, or_true, false_or, nI_add, z_bi_0, z_bi_1, e_bb, z_uR_s, z_uR_k, z_uL_s, z_uL_k, true_and, and_true, and_self, not_true_eq_false, not_false_eq_true, forall_const, Option.toList, List.cons_append, List.nil_append, List.singleton_append, Nat.reduceAdd, Nat.zero_add, Nat.add_zero, Nat.reduceEqDiff, ↓reduceIte, ite_true, ite_false, reduceCtorEq, Int.cast_ofNat_Int, Int.reduceAdd, Int.reduceToNat, ne_eq, false_imp_iff, true_imp_iff, cl_172, bf_172_0, bf_172_15, bf_172_30, bf_172_111, bf_172_121, bf_172_149, bf_172_155, bo_172_0, bo_172_15, bo_172_30, bo_172_111, bo_172_121, bo_172_149, bo_172_155, hS]
  refine z_for (α := (Nat → Nat → Int32) × (Nat → Nat → Int64)) (P := fun k z => (PA (a_seed A (f_draw A k).2.1).2 z.1 z.2 ∧ (∀ c, c < 373 → z.1 c = mi c) ∧ (∀ c, c < 373 → z.2 c = ml c) ∧ z.1 382 = (f_draw A k).1 ∧ f_rok A.s (f_draw A k).1) → z_W l G 172 (T.2.1, T.2.2) (fun v M' => Q v M' ∧ M'.2.2.2 = T) 30 [some (.ref 373), some (.int (nI n)), some (.int (f_draw A k).2.2), some (.int (nI k)), none, none] [] (z.1, mr, z.2, T)) n (fun z hz => ?_) (fun k hk ih z hz => ?_) 0 (by omega) (g, ml) ⟨hg, fun c hc => hg3 c (by omega), fun _ _ => rfl, hg2, hW.2.1⟩
  · obtain ⟨f, m⟩ := z
    obtain ⟨z1, z2, z3, z4⟩ := hz
    refine z_run ck_172 7 bf_172_30 ?_
    simp (disch := omega) only [e_q0, e_nil, e_cons, e_q, e_qf, e_qt, e_af, z_hd, z_mk1, z_lg, z_s1, z_s2, z_kl, z_en, z_kI, z_fv, z_ic, z_c1, z_sh, z_pop, z_rc, z_tgt, z_tsw, z_lsw, z_nw, z_ac, o_kI, o_kL, o_ldi, o_ldl, o_lda, o_sti, o_sta, o_stl, o_inc, o_b2, o_bz, o_l2, o_lz, o_ls, o_lneg, o_i2l, o_l2i, o_lcmp, o_dup, o_dupx1, o_dup2, o_if, o_if2, o_ifnull, o_get, o_put, o_iald, o_zald, o_aald, o_alen, o_iast, o_zast, o_aast, o_new, o_newa, o_call, o_call1, o_callN, o_obj, o_reti, o_retl, o_ret, o_tsw, o_lsw, va_rf_s, va_rf_n, z_u2_s, z_u2_k, z_u2_f, z_uR_f, z_uL_f, e_ix, e_vp, e_lt, e_le, e_eq, e_lt0, e_eq0, e_b0, e_b1, e_10, e_11, true_or, or_true, false_or, nI_add, z_bi_0, z_bi_1, e_bb, z_uR_s, z_uR_k, z_uL_s, z_uL_k, true_and, and_true, and_self, not_true_eq_false, not_false_eq_true, forall_const, Option.toList, List.cons_append, List.nil_append, List.singleton_append, Nat.reduceAdd, Nat.zero_add, Nat.add_zero, Nat.reduceEqDiff, ↓reduceIte, ite_true, ite_false, reduceCtorEq, Int.cast_ofNat_Int, Int.reduceAdd, Int.reduceToNat, ne_eq, false_imp_iff, true_imp_iff, cl_172, bf_172_0, bf_172_15, bf_172_30, bf_172_111, bf_172_121, bf_172_149, bf_172_155, bo_172_0, bo_172_15, bo_172_30, bo_172_111, bo_172_121, bo_172_149, bo_172_155, hS, Nat.le_refl]
    exact hQ f m z1 z2 z3
  · obtain ⟨f, m⟩ := z
    obtain ⟨z1, z2, z3, z4, z5⟩ := hz
    have ihz : ∀ f m (w : ZW × Int64 × Int32), w = f_draw A (k + 1) → (PA (a_seed A w.2.1).2 f m ∧ (∀ c, c < 373 → f c = mi c) ∧ (∀ c, c < 373 → m c = ml c) ∧ f 382 = w.1 ∧ f_rok A.s w.1) → z_W l G 172 (T.2.1, T.2.2) (fun v M' => Q v M' ∧ M'.2.2.2 = T) 30 [some (.ref 373), some (.int (nI n)), some (.int w.2.2), some (.int (nI (k + 1))), none, none] [] (f, mr, m, T) := fun f m w hw h => by subst hw; exact ih (f, m) h
    clear ih
    unfold f_draw at ihz
    obtain ⟨v, hv, hve⟩ := z_dv (f_nsd (f_draw A k).2.1)
    simp only [f_dv, hve, f_drow] at ihz
    have e1 : m 373 22 = (f_draw A k).2.1 := z1.2.2.2.2.2.2
    have e2 : f 382 = (f_draw A k).1 := z4
    generalize f_draw A k = D at *
    obtain ⟨r, sd, sum⟩ := D
    have e3 : f 373 6 = nI A.s.1.2 := z1.1.1.2.1
    have e3b : f 373 2 = nI A.s.1.1 := z1.1.1.1
    have hve2 : (z_lushr (sd * lN 6364136223846793005 + lN 1442695040888963407) (nI 33)).toInt32 = nI v := hve
    have hk' := Nat.not_le.mpr hk
    have hns : sd * lN 6364136223846793005 + lN 1442695040888963407 = f_nsd sd := rfl
    have z1' : PA (a_seed A (f_nsd sd)).2 f (z_uL m 373 22 (f_nsd sd)) := PA.sd (A := (a_seed A sd).2) z1
    have z3' : ∀ c, c < 373 → z_uL m 373 22 (f_nsd sd) c = ml c := fun c hc => by rw [z_uL_f (by omega)]; exact z3 c hc
    refine z_run ck_172 7 bf_172_30 ?_
    simp (disch := omega) only [e_q0, e_nil, e_cons, e_q, e_qf, e_qt, e_af, z_hd, z_mk1, z_lg, z_s1, z_s2, z_kl, z_en, z_kI, z_fv, z_ic, z_c1, z_sh, z_pop, z_rc, z_tgt, z_tsw, z_lsw, z_nw, z_ac, o_kI, o_kL, o_ldi, o_ldl, o_lda, o_sti, o_sta, o_stl, o_inc, o_b2, o_bz, o_l2, o_lz, o_ls, o_lneg, o_i2l, o_l2i, o_lcmp, o_dup, o_dupx1, o_dup2, o_if, o_if2, o_ifnull, o_get, o_put, o_iald, o_zald, o_aald, o_alen, o_iast, o_zast, o_aast, o_new, o_newa, o_call, o_call1, o_callN, o_obj, o_reti, o_retl, o_ret, o_tsw, o_lsw, va_rf_s, va_rf_n, z_u2_s, z_u2_k, z_u2_f, z_uR_f, z_uL_f, e_ix, e_vp, e_lt, e_le, e_eq, e_lt0, e_eq0, e_b0, e_b1, e_10, e_11, true_or, or_true, false_or, nI_add, z_bi_0, z_bi_1, e_bb, z_uR_s, z_uR_k, z_uL_s, z_uL_k, true_and, and_true, and_self, not_true_eq_false, not_false_eq_true, forall_const, Option.toList, List.cons_append, List.nil_append, List.singleton_append, Nat.reduceAdd, Nat.zero_add, Nat.add_zero, Nat.reduceEqDiff, ↓reduceIte, ite_true, ite_false, reduceCtorEq, Int.cast_ofNat_Int, Int.reduceAdd, Int.reduceToNat, ne_eq, false_imp_iff, true_imp_iff, cl_172, bf_172_0, bf_172_15, bf_172_30, bf_172_111, bf_172_121, bf_172_149, bf_172_155, bo_172_0, bo_172_15, bo_172_30, bo_172_111, bo_172_121, bo_172_149, bo_172_155, hS, hk', e1, e3, hve2]
    simp only [hns]
    clear hns hve2 hve
    generalize f_nsd sd = sd' at *
    by_cases c0 : A.s.1.2 = 0
    · refine ⟨fun _ => ?_, fun q => absurd (by rw [c0]; decide) q⟩
      simp only [if_pos c0] at ihz
      exact ihz _ _ _ rfl ⟨z1', z2, z3', z4, z5⟩
    · refine ⟨fun q => absurd q (by rw [← nI_0, e_le (by omega) (by omega)]; omega), fun _ => ⟨c0, ?_⟩⟩
      simp only [if_neg c0] at ihz
      have er : z_rem (nI v) (nI A.s.1.2) = nI (v % A.s.1.2) := pk_rem hv (by omega) (by omega)
      have hm : v % A.s.1.2 < A.s.1.2 := Nat.mod_lt _ (by omega)
      simp only [er, e_ix (show v % A.s.1.2 < 2147483648 by omega)] at ihz
      rw [er, nI_add, e_ix (by omega), e_vp (by omega) (by omega)]
      generalize v % A.s.1.2 = i at hm ihz
      rw [e2]
      have e2' : f 382 = r := e2
      have hrk : ∀ v, f_rok A.s (f_set r (58 + i) v) := fun v => f_rok_set h8 z5 (by omega) (by omega)
      refine ⟨fun c3 => ⟨trivial, trivial, ?_⟩, fun c3 => ⟨trivial, trivial, ?_⟩⟩
      all_goals
        simp only [c3, ↓reduceIte] at ihz
        refine k_goT (A := (a_seed A sd').2) hS (k_setT hS z1' e2' (hrk _)).1 hW.1 (k_setT hS z1' e2' (hrk _)).2.1 (hrk _) fun w w1 w2 w3 => ?_
        simp (disch := omega) only [e_q0, e_nil, e_cons, e_q, e_qf, e_qt, e_af, z_hd, z_mk1, z_lg, z_s1, z_s2, z_kl, z_en, z_kI, z_fv, z_ic, z_c1, z_sh, z_pop, z_rc, z_tgt, z_tsw, z_lsw, z_nw, z_ac, o_kI, o_kL, o_ldi, o_ldl, o_lda, o_sti, o_sta, o_stl, o_inc, o_b2, o_bz, o_l2, o_lz, o_ls, o_lneg, o_i2l, o_l2i, o_lcmp, o_dup, o_dupx1, o_dup2, o_if, o_if2, o_ifnull, o_get, o_put, o_iald, o_zald, o_aald, o_alen, o_iast, o_zast, o_aast, o_new, o_newa, o_call, o_call1, o_callN, o_obj, o_reti, o_retl, o_ret, o_tsw, o_lsw, va_rf_s, va_rf_n, z_u2_s, z_u2_k, z_u2_f, z_uR_f, z_uL_f, e_ix, e_vp, e_lt, e_le, e_eq, e_lt0, e_eq0, e_b0, e_b1, e_10, e_11, true_or, or_true, false_or, nI_add, z_bi_0, z_bi_1, e_bb, z_uR_s, z_uR_k, z_uL_s, z_uL_k, true_and, and_true, and_self, not_true_eq_false, not_false_eq_true, forall_const, Option.toList, List.cons_append, List.nil_append, List.singleton_append, Nat.reduceAdd, Nat.zero_add, Nat.add_zero, Nat.reduceEqDiff, ↓reduceIte, ite_true, ite_false, reduceCtorEq, Int.cast_ofNat_Int, Int.reduceAdd, Int.reduceToNat, ne_eq, false_imp_iff, true_imp_iff, cl_172, bf_172_0, bf_172_15, bf_172_30, bf_172_111, bf_172_121, bf_172_149, bf_172_155, bo_172_0, bo_172_15, bo_172_30, bo_172_111, bo_172_121, bo_172_149, bo_172_155, hS]
        refine k_reached hS w1.1 hw2 (by rw [w2]; exact (f_go_rok h8 (hrk _)).2.1) ?_
        simp (disch := omega) only [e_q0, e_nil, e_cons, e_q, e_qf, e_qt, e_af, z_hd, z_mk1, z_lg, z_s1, z_s2, z_kl, z_en, z_kI, z_fv, z_ic, z_c1, z_sh, z_pop, z_rc, z_tgt, z_tsw, z_lsw, z_nw, z_ac, o_kI, o_kL, o_ldi, o_ldl, o_lda, o_sti, o_sta, o_stl, o_inc, o_b2, o_bz, o_l2, o_lz, o_ls, o_lneg, o_i2l, o_l2i, o_lcmp, o_dup, o_dupx1, o_dup2, o_if, o_if2, o_ifnull, o_get, o_put, o_iald, o_zald, o_aald, o_alen, o_iast, o_zast, o_aast, o_new, o_newa, o_call, o_call1, o_callN, o_obj, o_reti, o_retl, o_ret, o_tsw, o_lsw, va_rf_s, va_rf_n, z_u2_s, z_u2_k, z_u2_f, z_uR_f, z_uL_f, e_ix, e_vp, e_lt, e_le, e_eq, e_lt0, e_eq0, e_b0, e_b1, e_10, e_11, true_or, or_true, false_or, nI_add, z_bi_0, z_bi_1, e_bb, z_uR_s, z_uR_k, z_uL_s, z_uL_k, true_and, and_true, and_self, not_true_eq_false, not_false_eq_true, forall_const, Option.toList, List.cons_append, List.nil_append, List.singleton_append, Nat.reduceAdd, Nat.zero_add, Nat.add_zero, Nat.reduceEqDiff, ↓reduceIte, ite_true, ite_false, reduceCtorEq, Int.cast_ofNat_Int, Int.reduceAdd, Int.reduceToNat, ne_eq, false_imp_iff, true_imp_iff, cl_172, bf_172_0, bf_172_15, bf_172_30, bf_172_111, bf_172_121, bf_172_149, bf_172_155, bo_172_0, bo_172_15, bo_172_30, bo_172_111, bo_172_121, bo_172_149, bo_172_155, hS]
        refine k_ones ?_
        have w4 : w 373 2 = nI A.s.1.1 := w1.1.1.1
        have w5 : w 373 23 = nI 255 := w1.2.2.1.2.2.2
        simp (disch := omega) only [e_q0, e_nil, e_cons, e_q, e_qf, e_qt, e_af, z_hd, z_mk1, z_lg, z_s1, z_s2, z_kl, z_en, z_kI, z_fv, z_ic, z_c1, z_sh, z_pop, z_rc, z_tgt, z_tsw, z_lsw, z_nw, z_ac, o_kI, o_kL, o_ldi, o_ldl, o_lda, o_sti, o_sta, o_stl, o_inc, o_b2, o_bz, o_l2, o_lz, o_ls, o_lneg, o_i2l, o_l2i, o_lcmp, o_dup, o_dupx1, o_dup2, o_if, o_if2, o_ifnull, o_get, o_put, o_iald, o_zald, o_aald, o_alen, o_iast, o_zast, o_aast, o_new, o_newa, o_call, o_call1, o_callN, o_obj, o_reti, o_retl, o_ret, o_tsw, o_lsw, va_rf_s, va_rf_n, z_u2_s, z_u2_k, z_u2_f, z_uR_f, z_uL_f, e_ix, e_vp, e_lt, e_le, e_eq, e_lt0, e_eq0, e_b0, e_b1, e_10, e_11, true_or, or_true, false_or, nI_add, z_bi_0, z_bi_1, e_bb, z_uR_s, z_uR_k, z_uL_s, z_uL_k, true_and, and_true, and_self, not_true_eq_false, not_false_eq_true, forall_const, Option.toList, List.cons_append, List.nil_append, List.singleton_append, Nat.reduceAdd, Nat.zero_add, Nat.add_zero, Nat.reduceEqDiff, ↓reduceIte, ite_true, ite_false, reduceCtorEq, Int.cast_ofNat_Int, Int.reduceAdd, Int.reduceToNat, ne_eq, false_imp_iff, true_imp_iff, cl_172, bf_172_0, bf_172_15, bf_172_30, bf_172_111, bf_172_121, bf_172_149, bf_172_155, bo_172_0, bo_172_15, bo_172_30, bo_172_111, bo_172_121, bo_172_149, bo_172_155, hS, w4, w5, w2]
        exact ihz _ _ _ rfl ⟨w1, fun c hc => by rw [w3 c (by omega) (by omega), z_u2_f (by omega)]; exact z2 c hc, z3', w2, f_go_rok h8 (hrk _)⟩
end
