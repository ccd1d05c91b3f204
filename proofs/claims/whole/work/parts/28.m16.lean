/-- the links that are up -/
def f_ups (A : ZA) : Nat := f_bits (fun i => decide (A.r (58 + i) = nI 0)) A.s.1.2
def f_un (A : ZA) : Nat := f_cnt (fun i => decide (A.r (58 + i) = nI 0)) A.s.1.2
/-- the row with the links of m below j down -/
def f_dn (r : ZW) (m j : Nat) : ZW := fun i => if 58 ≤ i ∧ i < 58 + j ∧ m.testBit (i - 58) = true then nI 1 else r i
def f_all (A : ZA) (m : Nat) : Bool := decide (f_rc A.s (nI 255) (f_gos A.s (nI 255) 20 (f_dn A.r m A.s.1.2)) = A.s.1.1)
def f_ct (A : ZA) (x m : Nat) : Nat := if f_sub m (f_ups A) = true ∧ f_all A m = true then x ^ f_cnt m.testBit 9 * (10 - x) ^ (f_un A - f_cnt m.testBit 9) else 0
def f_abv (A : ZA) (x : Nat) : Nat → Nat
  | 0 => 0
  | m + 1 => f_abv A x m + f_ct A x m
def a_chance (A : ZA) (x u : Int32) : Int32 := if f_in x 0 10 then f_frac (lN (f_abv A (z_ix x) (2 ^ A.s.1.2))) (lN (10 ^ f_un A)) u else z_ng 2
def f_dwn (s : ZS) (r : ZW) : Prop := ∀ i, i < s.1.2 → r (58 + i) = nI 0 ∨ r (58 + i) = nI 1
theorem f_pow_N {x : Nat} : ∀ n, f_pow (nI x) n = nI (x ^ n)
  | 0 => rfl
  | n + 1 => by
    unfold f_pow
    rw [f_pow_N n, pk_mul, Nat.pow_succ]
theorem f_ups_eq {A : ZA} (h : f_dwn A.s A.r) (h9 : A.s.1.2 ≤ 9) : z_shl (nI 1) (nI A.s.1.2) - nI 1 &&& (f_downs A.r A.s.1.2 ^^^ z_ng 1) = nI (f_ups A) := by
  rw [f_downs_b _ (by omega) h, z_sh1 _ (by omega), pk_sub (Nat.two_pow_pos _), z_ng1, z_xor, z_and]
  congr 1
  refine Nat.eq_of_testBit_eq fun i => ?_
  unfold f_ups
  rw [Nat.testBit_and, Nat.testBit_xor, f_bits_tb, f_bits_tb, Nat.testBit_two_pow_sub_one, show (4294967295 : Nat) = 2 ^ 32 - 1 by decide, Nat.testBit_two_pow_sub_one]
  by_cases q : i < A.s.1.2
  · rw [decide_eq_true q, decide_eq_true (show i < 32 by omega)]
    rcases h i q with e | e <;> rw [e] <;> decide
  · rw [decide_eq_false q]
    rfl
theorem f_un_le (A : ZA) : f_un A ≤ A.s.1.2 := f_cnt_le _ _
theorem f_ups_cnt {A : ZA} {m : Nat} (h9 : A.s.1.2 ≤ 9) (h : f_sub m (f_ups A) = true) : f_cnt m.testBit 9 ≤ f_un A := by
  have h1 := f_cnt_mono (f_sub_iff.mp h) 9
  have h2 := f_bits_cnt (p := fun i => decide (A.r (58 + i) = nI 0)) (n := A.s.1.2) (9 - A.s.1.2)
  rw [show A.s.1.2 + (9 - A.s.1.2) = 9 by omega] at h2
  exact Nat.le_trans h1 (Nat.le_of_eq h2)
theorem z_pw {x n : Nat} (hx : x ≤ 10) (hn : n ≤ 9) : x ^ n ≤ 1000000000 :=
  Nat.le_trans (Nat.pow_le_pow_left hx n) (Nat.le_trans (Nat.pow_le_pow_right (by omega) hn) (by decide))
theorem f_ct_le {A : ZA} {x m : Nat} (hx : x ≤ 10) (h9 : A.s.1.2 ≤ 9) : f_ct A x m ≤ 1000000000 := by
  have h0 := f_un_le A
  unfold f_ct
  split
  · next c =>
    have h1 := f_ups_cnt h9 c.1
    have h2 : x ^ f_cnt m.testBit 9 ≤ 10 ^ f_cnt m.testBit 9 := Nat.pow_le_pow_left hx _
    have h3 : (10 - x) ^ (f_un A - f_cnt m.testBit 9) ≤ 10 ^ (f_un A - f_cnt m.testBit 9) := Nat.pow_le_pow_left (by omega) _
    refine Nat.le_trans (Nat.mul_le_mul h2 h3) ?_
    rw [← Nat.pow_add]
    exact z_pw (by omega) (by omega)
  · omega
theorem f_abv_le {A : ZA} {x : Nat} (hx : x ≤ 10) (h9 : A.s.1.2 ≤ 9) : ∀ m, f_abv A x m ≤ 1000000000 * m
  | 0 => Nat.le_refl _
  | m + 1 => by
    have h1 := f_abv_le hx h9 m
    have h2 := f_ct_le (m := m) hx h9
    unfold f_abv
    omega
theorem f_rok_dn {s : ZS} {r : ZW} {m j : Nat} (h8 : s.1.1 ≤ 8 ∧ s.1.2 ≤ 9) (h : f_rok s r) (hj : j ≤ 9) : f_rok s (f_dn r m j) := by
  refine ⟨fun i hi => ?_, fun i hi => ?_, fun i hi => ?_⟩
  · have := h.1 i hi
    rw [show f_dn r m j (40 + i) = r (40 + i) from if_neg (by omega), show f_dn r m j (49 + i) = r (49 + i) from if_neg (by omega)]
    exact this
  · rw [show f_dn r m j i = r i from if_neg (by omega)]
    exact h.2.1 i hi
  · rw [show f_dn r m j i = r i from if_neg (by omega)]
    exact h.2.2 i hi
section
variable {l : Launch} {G : ZG} {mi : Nat → Nat → Int32} {mr : Nat → Nat → Option Nat} {ml : Nat → Nat → Int64} {T : (Nat → Nat × Nat) × Nat × Nat} {Q : ZR} {A : ZA}
set_option maxHeartbeats 4000000 in
theorem k_chance {x u : Int32} (hS : SM T mr) (hM : PA A mi ml) (hW : WA A) (hD : f_dwn A.s A.r) (hQ : ∀ f, PA A f ml → (∀ c, c < 373 → f c = mi c) → Q (some (.int (a_chance A x u))) (f, mr, ml, T)) : z_Ok l G m_Model_chance [.ref 373, .int x, .int u] (mi, mr, ml, T) Q := by
  have hs := hM.1
  have h8 := hs.2
  have hw2 : T.1 382 = (2, 78) := by rw [hS.1.2.2.2.2.2.2.2.2.2.1]
  unfold a_chance at hQ
  refine z_okN cz_170.1 (by rw [cl_170]; exact Nat.le_of_ble_eq_true rfl) cz_170.2 (z_run ck_170 12 bf_170_0 ?_)
  simp (disch := omega) only [e_q0, e_nil, e_cons, e_q, e_qf, e_qt, e_af, z_hd, z_mk1, z_lg, z_s1, z_s2, z_kl, z_en, z_kI, z_fv, z_ic, z_c1, z_sh, z_pop, z_rc, z_tgt, z_tsw, z_lsw, z_nw, z_ac, o_kI, o_kL, o_ldi, o_ldl, o_lda, o_sti, o_sta, o_stl, o_inc, o_b2, o_bz, o_l2, o_lz, o_ls, o_lneg, o_i2l, o_l2i, o_lcmp, o_dup, o_dupx1, o_dup2, o_if, o_if2, o_ifnull, o_get, o_put, o_iald, o_zald, o_aald, o_alen, o_iast, o_zast, o_aast, o_new, o_newa, o_call, o_call1, o_callN, o_obj, o_reti, o_retl, o_ret, o_tsw, o_lsw, va_rf_s, va_rf_n, z_u2_s, z_u2_k, z_u2_f, z_uR_f, z_uL_f, e_ix, e_vp, e_lt, e_le, e_eq, e_lt0, e_eq0, e_b0, e_b1, e_10, e_11, true_or, or_true, false_or, nI_add, z_bi_0, z_bi_1, e_bb, z_uR_s, z_uR_k, z_uL_s, z_uL_k, true_and, and_true, and_self, not_true_eq_false, not_false_eq_true, forall_const, Option.toList, List.cons_append, List.nil_append, List.singleton_append, Nat.reduceAdd, Nat.zero_add, Nat.add_zero, Nat.reduceEqDiff, ↓reduceIte, ite_true, ite_false, reduceCtorEq, Int.cast_ofNat_Int, Int.reduceAdd, Int.reduceToNat, ne_eq, false_imp_iff, true_imp_iff, cl_170, bf_170_0, bf_170_15, bf_170_43, bf_170_77, bf_170_109, bf_170_119, bf_170_126, bf_170_154, bf_170_155, bf_170_194, bf_170_195, bf_170_198, bf_170_204, bo_170_0, bo_170_15, bo_170_43, bo_170_77, bo_170_109, bo_170_119, bo_170_126, bo_170_154, bo_170_155, bo_170_194, bo_170_195, bo_170_198, bo_170_204, hS]
  refine k_inI (by omega) (by omega) ?_
  simp (disch := omega) only [e_q0, e_nil, e_cons, e_q, e_qf, e_qt, e_af, z_hd, z_mk1, z_lg, z_s1, z_s2, z_kl, z_en, z_kI, z_fv, z_ic, z_c1, z_sh, z_pop, z_rc, z_tgt, z_tsw, z_lsw, z_nw, z_ac, o_kI, o_kL, o_ldi, o_ldl, o_lda, o_sti, o_sta, o_stl, o_inc, o_b2, o_bz, o_l2, o_lz, o_ls, o_lneg, o_i2l, o_l2i, o_lcmp, o_dup, o_dupx1, o_dup2, o_if, o_if2, o_ifnull, o_get, o_put, o_iald, o_zald, o_aald, o_alen, o_iast, o_zast, o_aast, o_new, o_newa, o_call, o_call1, o_callN, o_obj, o_reti, o_retl, o_ret, o_tsw, o_lsw, va_rf_s, va_rf_n, z_u2_s, z_u2_k, z_u2_f, z_uR_f, z_uL_f, e_ix, e_vp, e_lt, e_le, e_eq, e_lt0, e_eq0, e_b0, e_b1, e_10, e_11, true_or, or_true, false_or, nI_add, z_bi_0, z_bi_1, e_bb, z_uR_s, z_uR_k, z_uL_s, z_uL_k, true_and, and_true, and_self, not_true_eq_false, not_false_eq_true, forall_const, Option.toList, List.cons_append, List.nil_append, List.singleton_append, Nat.reduceAdd, Nat.zero_add, Nat.add_zero, Nat.reduceEqDiff, ↓reduceIte, ite_true, ite_false, reduceCtorEq, Int.cast_ofNat_Int, Int.reduceAdd, Int.reduceToNat, ne_eq, false_imp_iff, true_imp_iff, cl_170, bf_170_0, bf_170_15, bf_170_43, bf_170_77, bf_170_109, bf_170_119, bf_170_126, bf_170_154, bf_170_155, bf_170_194, bf_170_195, bf_170_198, bf_170_204, bo_170_0, bo_170_15, bo_170_43, bo_170_77, bo_170_109, bo_170_119, bo_170_126, bo_170_154, bo_170_155, bo_170_194, bo_170_195, bo_170_198, bo_170_204, hS]
  refine ⟨fun c => ?_, fun c => ?_⟩
  · rw [c] at hQ
    exact hQ _ hM fun _ _ => rfl
  rw [Bool.not_eq_false] at c
  rw [c] at hQ
  obtain ⟨y, _, hy, rfl⟩ := f_in_t (by omega) (by omega) c
  rw [e_ix (by omega)] at hQ
  have h512 : 2 ^ A.s.1.2 ≤ 512 := Nat.le_trans (Nat.pow_le_pow_right (n := 2) (by omega) h8.2) (by decide)
  have hub : f_ups A < 2147483648 := Nat.lt_of_lt_of_le (f_bits_lt _ _) (Nat.le_trans h512 (by decide))
  have hun := f_un_le A
  have sh := z_sh1 A.s.1.2 (by omega)
  refine k_downs hS hs ?_
  rw [hM.2.2.1.1]
  simp (disch := omega) only [e_q0, e_nil, e_cons, e_q, e_qf, e_qt, e_af, z_hd, z_mk1, z_lg, z_s1, z_s2, z_kl, z_en, z_kI, z_fv, z_ic, z_c1, z_sh, z_pop, z_rc, z_tgt, z_tsw, z_lsw, z_nw, z_ac, o_kI, o_kL, o_ldi, o_ldl, o_lda, o_sti, o_sta, o_stl, o_inc, o_b2, o_bz, o_l2, o_lz, o_ls, o_lneg, o_i2l, o_l2i, o_lcmp, o_dup, o_dupx1, o_dup2, o_if, o_if2, o_ifnull, o_get, o_put, o_iald, o_zald, o_aald, o_alen, o_iast, o_zast, o_aast, o_new, o_newa, o_call, o_call1, o_callN, o_obj, o_reti, o_retl, o_ret, o_tsw, o_lsw, va_rf_s, va_rf_n, z_u2_s, z_u2_k, z_u2_f, z_uR_f, z_uL_f, e_ix, e_vp, e_lt, e_le, e_eq, e_lt0, e_eq0, e_b0, e_b1, e_10, e_11, true_or, or_true, false_or, nI_add, z_bi_0, z_bi_1, e_bb, z_uR_s, z_uR_k, z_uL_s, z_uL_k, true_and, and_true, and_self, not_true_eq_false, not_false_eq_true, forall_const, Option.toList, List.cons_append, List.nil_append, List.singleton_append, Nat.reduceAdd, Nat.zero_add, Nat.add_zero, Nat.reduceEqDiff, ↓reduceIte, ite_true, ite_false, reduceCtorEq, Int.cast_ofNat_Int, Int.reduceAdd, Int.reduceToNat, ne_eq, false_imp_iff, true_imp_iff, cl_170, bf_170_0, bf_170_15, bf_170_43, bf_170_77, bf_170_109, bf_170_119, bf_170_126, bf_170_154, bf_170_155, bf_170_194, bf_170_195, bf_170_198, bf_170_204, bo_170_0, bo_170_15, bo_170_43, bo_170_77, bo_170_109, bo_170_119, bo_170_126, bo_170_154, bo_170_155, bo_170_194, bo_170_195, bo_170_198, bo_170_204, hS, hs]
  rw [f_ups_eq hD h8.2]
  refine k_ones ?_
  unfold f_ups
  rw [f_ones_b (by omega)]
  simp (disch := omega) only [e_q0, e_nil, e_cons, e_q, e_qf, e_qt, e_af, z_hd, z_mk1, z_lg, z_s1, z_s2, z_kl, z_en, z_kI, z_fv, z_ic, z_c1, z_sh, z_pop, z_rc, z_tgt, z_tsw, z_lsw, z_nw, z_ac, o_kI, o_kL, o_ldi, o_ldl, o_lda, o_sti, o_sta, o_stl, o_inc, o_b2, o_bz, o_l2, o_lz, o_ls, o_lneg, o_i2l, o_l2i, o_lcmp, o_dup, o_dupx1, o_dup2, o_if, o_if2, o_ifnull, o_get, o_put, o_iald, o_zald, o_aald, o_alen, o_iast, o_zast, o_aast, o_new, o_newa, o_call, o_call1, o_callN, o_obj, o_reti, o_retl, o_ret, o_tsw, o_lsw, va_rf_s, va_rf_n, z_u2_s, z_u2_k, z_u2_f, z_uR_f, z_uL_f, e_ix, e_vp, e_lt, e_le, e_eq, e_lt0, e_eq0, e_b0, e_b1, e_10, e_11, true_or, or_true, false_or, nI_add, z_bi_0, z_bi_1, e_bb, z_uR_s, z_uR_k, z_uL_s, z_uL_k, true_and, and_true, and_self, not_true_eq_false, not_false_eq_true, forall_const, Option.toList, List.cons_append, List.nil_append, List.singleton_append, Nat.reduceAdd, Nat.zero_add, Nat.add_zero, Nat.reduceEqDiff, ↓reduceIte, ite_true, ite_false, reduceCtorEq, Int.cast_ofNat_Int, Int.reduceAdd, Int.reduceToNat, ne_eq, false_imp_iff, true_imp_iff, cl_170, bf_170_0, bf_170_15, bf_170_43, bf_170_77, bf_170_109, bf_170_119, bf_170_126, bf_170_154, bf_170_155, bf_170_194, bf_170_195, bf_170_198, bf_170_204, bo_170_0, bo_170_15, bo_170_43, bo_170_77, bo_170_109, bo_170_119, bo_170_126, bo_170_154, bo_170_155, bo_170_194, bo_170_195, bo_170_198, bo_170_204, hS, hs]
  refine z_for (P := fun k f => (PA A f ml ∧ ∀ c, c < 373 → f c = mi c) → z_W l G 170 (T.2.1, T.2.2) (fun v M' => Q v M' ∧ M'.2.2.2 = T) 43 [some (.ref 373), some (.int (nI y)), some (.int u), some (.int (nI (f_ups A))), some (.int (nI (f_un A))), some (.long (lN (f_abv A y k))), none, some (.int (nI k)), none] [] (f, mr, ml, T)) (2 ^ A.s.1.2) (fun f hf => ?_) (fun k hk ih f hf => ?_) 0 (Nat.zero_le _) mi ⟨hM, fun _ _ => rfl⟩
  · have e6 : f 373 6 = nI A.s.1.2 := hf.1.1.1.2.1
    refine z_run ck_170 12 bf_170_43 ?_
    simp (disch := omega) only [e_q0, e_nil, e_cons, e_q, e_qf, e_qt, e_af, z_hd, z_mk1, z_lg, z_s1, z_s2, z_kl, z_en, z_kI, z_fv, z_ic, z_c1, z_sh, z_pop, z_rc, z_tgt, z_tsw, z_lsw, z_nw, z_ac, o_kI, o_kL, o_ldi, o_ldl, o_lda, o_sti, o_sta, o_stl, o_inc, o_b2, o_bz, o_l2, o_lz, o_ls, o_lneg, o_i2l, o_l2i, o_lcmp, o_dup, o_dupx1, o_dup2, o_if, o_if2, o_ifnull, o_get, o_put, o_iald, o_zald, o_aald, o_alen, o_iast, o_zast, o_aast, o_new, o_newa, o_call, o_call1, o_callN, o_obj, o_reti, o_retl, o_ret, o_tsw, o_lsw, va_rf_s, va_rf_n, z_u2_s, z_u2_k, z_u2_f, z_uR_f, z_uL_f, e_ix, e_vp, e_lt, e_le, e_eq, e_lt0, e_eq0, e_b0, e_b1, e_10, e_11, true_or, or_true, false_or, nI_add, z_bi_0, z_bi_1, e_bb, z_uR_s, z_uR_k, z_uL_s, z_uL_k, true_and, and_true, and_self, not_true_eq_false, not_false_eq_true, forall_const, Option.toList, List.cons_append, List.nil_append, List.singleton_append, Nat.reduceAdd, Nat.zero_add, Nat.add_zero, Nat.reduceEqDiff, ↓reduceIte, ite_true, ite_false, reduceCtorEq, Int.cast_ofNat_Int, Int.reduceAdd, Int.reduceToNat, ne_eq, false_imp_iff, true_imp_iff, cl_170, bf_170_0, bf_170_15, bf_170_43, bf_170_77, bf_170_109, bf_170_119, bf_170_126, bf_170_154, bf_170_155, bf_170_194, bf_170_195, bf_170_198, bf_170_204, bo_170_0, bo_170_15, bo_170_43, bo_170_77, bo_170_109, bo_170_119, bo_170_126, bo_170_154, bo_170_155, bo_170_194, bo_170_195, bo_170_198, bo_170_204, hS, e6, sh, Nat.le_refl]
    refine k_power (by omega) ?_
    rw [f_pow_N]
    simp (disch := omega) only [e_q0, e_nil, e_cons, e_q, e_qf, e_qt, e_af, z_hd, z_mk1, z_lg, z_s1, z_s2, z_kl, z_en, z_kI, z_fv, z_ic, z_c1, z_sh, z_pop, z_rc, z_tgt, z_tsw, z_lsw, z_nw, z_ac, o_kI, o_kL, o_ldi, o_ldl, o_lda, o_sti, o_sta, o_stl, o_inc, o_b2, o_bz, o_l2, o_lz, o_ls, o_lneg, o_i2l, o_l2i, o_lcmp, o_dup, o_dupx1, o_dup2, o_if, o_if2, o_ifnull, o_get, o_put, o_iald, o_zald, o_aald, o_alen, o_iast, o_zast, o_aast, o_new, o_newa, o_call, o_call1, o_callN, o_obj, o_reti, o_retl, o_ret, o_tsw, o_lsw, va_rf_s, va_rf_n, z_u2_s, z_u2_k, z_u2_f, z_uR_f, z_uL_f, e_ix, e_vp, e_lt, e_le, e_eq, e_lt0, e_eq0, e_b0, e_b1, e_10, e_11, true_or, or_true, false_or, nI_add, z_bi_0, z_bi_1, e_bb, z_uR_s, z_uR_k, z_uL_s, z_uL_k, true_and, and_true, and_self, not_true_eq_false, not_false_eq_true, forall_const, Option.toList, List.cons_append, List.nil_append, List.singleton_append, Nat.reduceAdd, Nat.zero_add, Nat.add_zero, Nat.reduceEqDiff, ↓reduceIte, ite_true, ite_false, reduceCtorEq, Int.cast_ofNat_Int, Int.reduceAdd, Int.reduceToNat, ne_eq, false_imp_iff, true_imp_iff, cl_170, bf_170_0, bf_170_15, bf_170_43, bf_170_77, bf_170_109, bf_170_119, bf_170_126, bf_170_154, bf_170_155, bf_170_194, bf_170_195, bf_170_198, bf_170_204, bo_170_0, bo_170_15, bo_170_43, bo_170_77, bo_170_109, bo_170_119, bo_170_126, bo_170_154, bo_170_155, bo_170_194, bo_170_195, bo_170_198, bo_170_204, hS]
    have hp : 10 ^ f_un A ≤ 1000000000 := z_pw (by omega) (by omega)
    have hp0 : 0 < 10 ^ f_un A := Nat.pow_pos (by omega)
    have ha := f_abv_le (A := A) hy h8.2 (2 ^ A.s.1.2)
    rw [nI_l (by omega)]
    have ab : f_abs (lN (f_abv A y (2 ^ A.s.1.2))) = lN (f_abv A y (2 ^ A.s.1.2)) := by
      rw [lN_I, f_abs_I (by omega) (by omega), Int.natAbs_natCast, lN_I]
    obtain ⟨d, hd1, hd2, hd3⟩ := f_euc_200 (a := f_abv A y (2 ^ A.s.1.2)) (b := 10 ^ f_un A) (by omega) hp0 (by omega)
    refine k_fraction ?_ ?_ ?_
    · rw [ab]
      exact f_fin_200 (by omega) (by omega)
    · rw [ab, hd3]
      exact lN_ne0 hd1 hd2
    · simp (disch := omega) only [e_q0, e_nil, e_cons, e_q, e_qf, e_qt, e_af, z_hd, z_mk1, z_lg, z_s1, z_s2, z_kl, z_en, z_kI, z_fv, z_ic, z_c1, z_sh, z_pop, z_rc, z_tgt, z_tsw, z_lsw, z_nw, z_ac, o_kI, o_kL, o_ldi, o_ldl, o_lda, o_sti, o_sta, o_stl, o_inc, o_b2, o_bz, o_l2, o_lz, o_ls, o_lneg, o_i2l, o_l2i, o_lcmp, o_dup, o_dupx1, o_dup2, o_if, o_if2, o_ifnull, o_get, o_put, o_iald, o_zald, o_aald, o_alen, o_iast, o_zast, o_aast, o_new, o_newa, o_call, o_call1, o_callN, o_obj, o_reti, o_retl, o_ret, o_tsw, o_lsw, va_rf_s, va_rf_n, z_u2_s, z_u2_k, z_u2_f, z_uR_f, z_uL_f, e_ix, e_vp, e_lt, e_le, e_eq, e_lt0, e_eq0, e_b0, e_b1, e_10, e_11, true_or, or_true, false_or, nI_add, z_bi_0, z_bi_1, e_bb, z_uR_s, z_uR_k, z_uL_s, z_uL_k, true_and, and_true, and_self, not_true_eq_false, not_false_eq_true, forall_const, Option.toList, List.cons_append, List.nil_append, List.singleton_append, Nat.reduceAdd, Nat.zero_add, Nat.add_zero, Nat.reduceEqDiff, ↓reduceIte, ite_true, ite_false, reduceCtorEq, Int.cast_ofNat_Int, Int.reduceAdd, Int.reduceToNat, ne_eq, false_imp_iff, true_imp_iff, cl_170, bf_170_0, bf_170_15, bf_170_43, bf_170_77, bf_170_109, bf_170_119, bf_170_126, bf_170_154, bf_170_155, bf_170_194, bf_170_195, bf_170_198, bf_170_204, bo_170_0, bo_170_15, bo_170_43, bo_170_77, bo_170_109, bo_170_119, bo_170_126, bo_170_154, bo_170_155, bo_170_194, bo_170_195, bo_170_198, bo_170_204, hS]
      exact hQ f hf.1 hf.2
  · have hk' := Nat.not_le.mpr hk
    have e1 := z_subN (show k < 2147483648 by omega) hub
    have e6 : f 373 6 = nI A.s.1.2 := hf.1.1.1.2.1
    refine z_run ck_170 12 bf_170_43 ?_
    simp (disch := omega) only [e_q0, e_nil, e_cons, e_q, e_qf, e_qt, e_af, z_hd, z_mk1, z_lg, z_s1, z_s2, z_kl, z_en, z_kI, z_fv, z_ic, z_c1, z_sh, z_pop, z_rc, z_tgt, z_tsw, z_lsw, z_nw, z_ac, o_kI, o_kL, o_ldi, o_ldl, o_lda, o_sti, o_sta, o_stl, o_inc, o_b2, o_bz, o_l2, o_lz, o_ls, o_lneg, o_i2l, o_l2i, o_lcmp, o_dup, o_dupx1, o_dup2, o_if, o_if2, o_ifnull, o_get, o_put, o_iald, o_zald, o_aald, o_alen, o_iast, o_zast, o_aast, o_new, o_newa, o_call, o_call1, o_callN, o_obj, o_reti, o_retl, o_ret, o_tsw, o_lsw, va_rf_s, va_rf_n, z_u2_s, z_u2_k, z_u2_f, z_uR_f, z_uL_f, e_ix, e_vp, e_lt, e_le, e_eq, e_lt0, e_eq0, e_b0, e_b1, e_10, e_11, true_or, or_true, false_or, nI_add, z_bi_0, z_bi_1, e_bb, z_uR_s, z_uR_k, z_uL_s, z_uL_k, true_and, and_true, and_self, not_true_eq_false, not_false_eq_true, forall_const, Option.toList, List.cons_append, List.nil_append, List.singleton_append, Nat.reduceAdd, Nat.zero_add, Nat.add_zero, Nat.reduceEqDiff, ↓reduceIte, ite_true, ite_false, reduceCtorEq, Int.cast_ofNat_Int, Int.reduceAdd, Int.reduceToNat, ne_eq, false_imp_iff, true_imp_iff, cl_170, bf_170_0, bf_170_15, bf_170_43, bf_170_77, bf_170_109, bf_170_119, bf_170_126, bf_170_154, bf_170_155, bf_170_194, bf_170_195, bf_170_198, bf_170_204, bo_170_0, bo_170_15, bo_170_43, bo_170_77, bo_170_109, bo_170_119, bo_170_126, bo_170_154, bo_170_155, bo_170_194, bo_170_195, bo_170_198, bo_170_204, hS, e6, sh, hk', e1]
    refine ⟨fun c1 => ?_, fun c1 => ?_⟩
    · refine k_copyT hS hf.1 hW fun g g1 g2 g3 => ?_
      simp (disch := omega) only [e_q0, e_nil, e_cons, e_q, e_qf, e_qt, e_af, z_hd, z_mk1, z_lg, z_s1, z_s2, z_kl, z_en, z_kI, z_fv, z_ic, z_c1, z_sh, z_pop, z_rc, z_tgt, z_tsw, z_lsw, z_nw, z_ac, o_kI, o_kL, o_ldi, o_ldl, o_lda, o_sti, o_sta, o_stl, o_inc, o_b2, o_bz, o_l2, o_lz, o_ls, o_lneg, o_i2l, o_l2i, o_lcmp, o_dup, o_dupx1, o_dup2, o_if, o_if2, o_ifnull, o_get, o_put, o_iald, o_zald, o_aald, o_alen, o_iast, o_zast, o_aast, o_new, o_newa, o_call, o_call1, o_callN, o_obj, o_reti, o_retl, o_ret, o_tsw, o_lsw, va_rf_s, va_rf_n, z_u2_s, z_u2_k, z_u2_f, z_uR_f, z_uL_f, e_ix, e_vp, e_lt, e_le, e_eq, e_lt0, e_eq0, e_b0, e_b1, e_10, e_11, true_or, or_true, false_or, nI_add, z_bi_0, z_bi_1, e_bb, z_uR_s, z_uR_k, z_uL_s, z_uL_k, true_and, and_true, and_self, not_true_eq_false, not_false_eq_true, forall_const, Option.toList, List.cons_append, List.nil_append, List.singleton_append, Nat.reduceAdd, Nat.zero_add, Nat.add_zero, Nat.reduceEqDiff, ↓reduceIte, ite_true, ite_false, reduceCtorEq, Int.cast_ofNat_Int, Int.reduceAdd, Int.reduceToNat, ne_eq, false_imp_iff, true_imp_iff, cl_170, bf_170_0, bf_170_15, bf_170_43, bf_170_77, bf_170_109, bf_170_119, bf_170_126, bf_170_154, bf_170_155, bf_170_194, bf_170_195, bf_170_198, bf_170_204, bo_170_0, bo_170_15, bo_170_43, bo_170_77, bo_170_109, bo_170_119, bo_170_126, bo_170_154, bo_170_155, bo_170_194, bo_170_195, bo_170_198, bo_170_204, hS]
      have ih2 := fun f => ih f
      unfold f_abv at ih2
      refine z_for (P := fun j f => (PA A f ml ∧ (∀ c, c < 373 → f c = mi c) ∧ f 382 = f_dn A.r k j) → z_W l G 170 (T.2.1, T.2.2) (fun v M' => Q v M' ∧ M'.2.2.2 = T) 77 [some (.ref 373), some (.int (nI y)), some (.int u), some (.int (nI (f_ups A))), some (.int (nI (f_un A))), some (.long (lN (f_abv A y k))), none, some (.int (nI k)), some (.int (nI j))] [] (f, mr, ml, T)) A.s.1.2 (fun f hf => ?_) (fun j hj ih3 f hf => ?_) 0 (by omega) g ⟨g1, fun c hc => (g3 c (by omega)).trans (hf.2 c hc), g2.trans (funext fun i => (if_neg (by omega)).symm)⟩
      · have e6 : f 373 6 = nI A.s.1.2 := hf.1.1.1.2.1
        refine z_run ck_170 12 bf_170_77 ?_
        simp (disch := omega) only [e_q0, e_nil, e_cons, e_q, e_qf, e_qt, e_af, z_hd, z_mk1, z_lg, z_s1, z_s2, z_kl, z_en, z_kI, z_fv, z_ic, z_c1, z_sh, z_pop, z_rc, z_tgt, z_tsw, z_lsw, z_nw, z_ac, o_kI, o_kL, o_ldi, o_ldl, o_lda, o_sti, o_sta, o_stl, o_inc, o_b2, o_bz, o_l2, o_lz, o_ls, o_lneg, o_i2l, o_l2i, o_lcmp, o_dup, o_dupx1, o_dup2, o_if, o_if2, o_ifnull, o_get, o_put, o_iald, o_zald, o_aald, o_alen, o_iast, o_zast, o_aast, o_new, o_newa, o_call, o_call1, o_callN, o_obj, o_reti, o_retl, o_ret, o_tsw, o_lsw, va_rf_s, va_rf_n, z_u2_s, z_u2_k, z_u2_f, z_uR_f, z_uL_f, e_ix, e_vp, e_lt, e_le, e_eq, e_lt0, e_eq0, e_b0, e_b1, e_10, e_11, true_or, or_true, false_or, nI_add, z_bi_0, z_bi_1, e_bb, z_uR_s, z_uR_k, z_uL_s, z_uL_k, true_and, and_true, and_self, not_true_eq_false, not_false_eq_true, forall_const, Option.toList, List.cons_append, List.nil_append, List.singleton_append, Nat.reduceAdd, Nat.zero_add, Nat.add_zero, Nat.reduceEqDiff, ↓reduceIte, ite_true, ite_false, reduceCtorEq, Int.cast_ofNat_Int, Int.reduceAdd, Int.reduceToNat, ne_eq, false_imp_iff, true_imp_iff, cl_170, bf_170_0, bf_170_15, bf_170_43, bf_170_77, bf_170_109, bf_170_119, bf_170_126, bf_170_154, bf_170_155, bf_170_194, bf_170_195, bf_170_198, bf_170_204, bo_170_0, bo_170_15, bo_170_43, bo_170_77, bo_170_109, bo_170_119, bo_170_126, bo_170_154, bo_170_155, bo_170_194, bo_170_195, bo_170_198, bo_170_204, hS, e6, Nat.le_refl]
        have hrk := f_rok_dn (m := k) (j := A.s.1.2) h8 hW.2.1 h8.2
        refine k_tryT hS hf.1 hW.1 (by omega) hf.2.2 hrk fun w w1 w2 w3 => ?_
        simp (disch := omega) only [e_q0, e_nil, e_cons, e_q, e_qf, e_qt, e_af, z_hd, z_mk1, z_lg, z_s1, z_s2, z_kl, z_en, z_kI, z_fv, z_ic, z_c1, z_sh, z_pop, z_rc, z_tgt, z_tsw, z_lsw, z_nw, z_ac, o_kI, o_kL, o_ldi, o_ldl, o_lda, o_sti, o_sta, o_stl, o_inc, o_b2, o_bz, o_l2, o_lz, o_ls, o_lneg, o_i2l, o_l2i, o_lcmp, o_dup, o_dupx1, o_dup2, o_if, o_if2, o_ifnull, o_get, o_put, o_iald, o_zald, o_aald, o_alen, o_iast, o_zast, o_aast, o_new, o_newa, o_call, o_call1, o_callN, o_obj, o_reti, o_retl, o_ret, o_tsw, o_lsw, va_rf_s, va_rf_n, z_u2_s, z_u2_k, z_u2_f, z_uR_f, z_uL_f, e_ix, e_vp, e_lt, e_le, e_eq, e_lt0, e_eq0, e_b0, e_b1, e_10, e_11, true_or, or_true, false_or, nI_add, z_bi_0, z_bi_1, e_bb, z_uR_s, z_uR_k, z_uL_s, z_uL_k, true_and, and_true, and_self, not_true_eq_false, not_false_eq_true, forall_const, Option.toList, List.cons_append, List.nil_append, List.singleton_append, Nat.reduceAdd, Nat.zero_add, Nat.add_zero, Nat.reduceEqDiff, ↓reduceIte, ite_true, ite_false, reduceCtorEq, Int.cast_ofNat_Int, Int.reduceAdd, Int.reduceToNat, ne_eq, false_imp_iff, true_imp_iff, cl_170, bf_170_0, bf_170_15, bf_170_43, bf_170_77, bf_170_109, bf_170_119, bf_170_126, bf_170_154, bf_170_155, bf_170_194, bf_170_195, bf_170_198, bf_170_204, bo_170_0, bo_170_15, bo_170_43, bo_170_77, bo_170_109, bo_170_119, bo_170_126, bo_170_154, bo_170_155, bo_170_194, bo_170_195, bo_170_198, bo_170_204, hS]
        refine k_reached hS w1.1 hw2 (by rw [w2]; exact (f_gos_rok h8 _ _ hrk).2.1) ?_
        rw [w2, w1.2.2.1.2.2.2]
        simp (disch := omega) only [e_q0, e_nil, e_cons, e_q, e_qf, e_qt, e_af, z_hd, z_mk1, z_lg, z_s1, z_s2, z_kl, z_en, z_kI, z_fv, z_ic, z_c1, z_sh, z_pop, z_rc, z_tgt, z_tsw, z_lsw, z_nw, z_ac, o_kI, o_kL, o_ldi, o_ldl, o_lda, o_sti, o_sta, o_stl, o_inc, o_b2, o_bz, o_l2, o_lz, o_ls, o_lneg, o_i2l, o_l2i, o_lcmp, o_dup, o_dupx1, o_dup2, o_if, o_if2, o_ifnull, o_get, o_put, o_iald, o_zald, o_aald, o_alen, o_iast, o_zast, o_aast, o_new, o_newa, o_call, o_call1, o_callN, o_obj, o_reti, o_retl, o_ret, o_tsw, o_lsw, va_rf_s, va_rf_n, z_u2_s, z_u2_k, z_u2_f, z_uR_f, z_uL_f, e_ix, e_vp, e_lt, e_le, e_eq, e_lt0, e_eq0, e_b0, e_b1, e_10, e_11, true_or, or_true, false_or, nI_add, z_bi_0, z_bi_1, e_bb, z_uR_s, z_uR_k, z_uL_s, z_uL_k, true_and, and_true, and_self, not_true_eq_false, not_false_eq_true, forall_const, Option.toList, List.cons_append, List.nil_append, List.singleton_append, Nat.reduceAdd, Nat.zero_add, Nat.add_zero, Nat.reduceEqDiff, ↓reduceIte, ite_true, ite_false, reduceCtorEq, Int.cast_ofNat_Int, Int.reduceAdd, Int.reduceToNat, ne_eq, false_imp_iff, true_imp_iff, cl_170, bf_170_0, bf_170_15, bf_170_43, bf_170_77, bf_170_109, bf_170_119, bf_170_126, bf_170_154, bf_170_155, bf_170_194, bf_170_195, bf_170_198, bf_170_204, bo_170_0, bo_170_15, bo_170_43, bo_170_77, bo_170_109, bo_170_119, bo_170_126, bo_170_154, bo_170_155, bo_170_194, bo_170_195, bo_170_198, bo_170_204, hS]
        refine k_ones ?_
        rw [f_rc_eq h8.1]
        have w4 : w 373 2 = nI A.s.1.1 := w1.1.1.1
        have hrc := f_rc_le (s := A.s) (co := nI 255) (r := f_gos A.s (nI 255) 20 (f_dn A.r k A.s.1.2))
        have w5 : ∀ c, c < 373 → w c = mi c := fun c hc => (w3 c (by omega) (by omega)).trans (hf.2.1 c hc)
        simp (disch := omega) only [e_q0, e_nil, e_cons, e_q, e_qf, e_qt, e_af, z_hd, z_mk1, z_lg, z_s1, z_s2, z_kl, z_en, z_kI, z_fv, z_ic, z_c1, z_sh, z_pop, z_rc, z_tgt, z_tsw, z_lsw, z_nw, z_ac, o_kI, o_kL, o_ldi, o_ldl, o_lda, o_sti, o_sta, o_stl, o_inc, o_b2, o_bz, o_l2, o_lz, o_ls, o_lneg, o_i2l, o_l2i, o_lcmp, o_dup, o_dupx1, o_dup2, o_if, o_if2, o_ifnull, o_get, o_put, o_iald, o_zald, o_aald, o_alen, o_iast, o_zast, o_aast, o_new, o_newa, o_call, o_call1, o_callN, o_obj, o_reti, o_retl, o_ret, o_tsw, o_lsw, va_rf_s, va_rf_n, z_u2_s, z_u2_k, z_u2_f, z_uR_f, z_uL_f, e_ix, e_vp, e_lt, e_le, e_eq, e_lt0, e_eq0, e_b0, e_b1, e_10, e_11, true_or, or_true, false_or, nI_add, z_bi_0, z_bi_1, e_bb, z_uR_s, z_uR_k, z_uL_s, z_uL_k, true_and, and_true, and_self, not_true_eq_false, not_false_eq_true, forall_const, Option.toList, List.cons_append, List.nil_append, List.singleton_append, Nat.reduceAdd, Nat.zero_add, Nat.add_zero, Nat.reduceEqDiff, ↓reduceIte, ite_true, ite_false, reduceCtorEq, Int.cast_ofNat_Int, Int.reduceAdd, Int.reduceToNat, ne_eq, false_imp_iff, true_imp_iff, cl_170, bf_170_0, bf_170_15, bf_170_43, bf_170_77, bf_170_109, bf_170_119, bf_170_126, bf_170_154, bf_170_155, bf_170_194, bf_170_195, bf_170_198, bf_170_204, bo_170_0, bo_170_15, bo_170_43, bo_170_77, bo_170_109, bo_170_119, bo_170_126, bo_170_154, bo_170_155, bo_170_194, bo_170_195, bo_170_198, bo_170_204, hS, w4]
        refine ⟨fun c2 => ?_, fun c2 => ?_⟩
        · have ht : f_ct A y k = _ := if_pos ⟨c1, decide_eq_true c2⟩
          have hc := f_ups_cnt h8.2 c1
          refine k_ones ?_
          rw [f_ones_tb (by omega) 9 (by omega)]
          simp (disch := omega) only [e_q0, e_nil, e_cons, e_q, e_qf, e_qt, e_af, z_hd, z_mk1, z_lg, z_s1, z_s2, z_kl, z_en, z_kI, z_fv, z_ic, z_c1, z_sh, z_pop, z_rc, z_tgt, z_tsw, z_lsw, z_nw, z_ac, o_kI, o_kL, o_ldi, o_ldl, o_lda, o_sti, o_sta, o_stl, o_inc, o_b2, o_bz, o_l2, o_lz, o_ls, o_lneg, o_i2l, o_l2i, o_lcmp, o_dup, o_dupx1, o_dup2, o_if, o_if2, o_ifnull, o_get, o_put, o_iald, o_zald, o_aald, o_alen, o_iast, o_zast, o_aast, o_new, o_newa, o_call, o_call1, o_callN, o_obj, o_reti, o_retl, o_ret, o_tsw, o_lsw, va_rf_s, va_rf_n, z_u2_s, z_u2_k, z_u2_f, z_uR_f, z_uL_f, e_ix, e_vp, e_lt, e_le, e_eq, e_lt0, e_eq0, e_b0, e_b1, e_10, e_11, true_or, or_true, false_or, nI_add, z_bi_0, z_bi_1, e_bb, z_uR_s, z_uR_k, z_uL_s, z_uL_k, true_and, and_true, and_self, not_true_eq_false, not_false_eq_true, forall_const, Option.toList, List.cons_append, List.nil_append, List.singleton_append, Nat.reduceAdd, Nat.zero_add, Nat.add_zero, Nat.reduceEqDiff, ↓reduceIte, ite_true, ite_false, reduceCtorEq, Int.cast_ofNat_Int, Int.reduceAdd, Int.reduceToNat, ne_eq, false_imp_iff, true_imp_iff, cl_170, bf_170_0, bf_170_15, bf_170_43, bf_170_77, bf_170_109, bf_170_119, bf_170_126, bf_170_154, bf_170_155, bf_170_194, bf_170_195, bf_170_198, bf_170_204, bo_170_0, bo_170_15, bo_170_43, bo_170_77, bo_170_109, bo_170_119, bo_170_126, bo_170_154, bo_170_155, bo_170_194, bo_170_195, bo_170_198, bo_170_204, hS]
          refine k_power (by omega) ?_
          rw [f_pow_N]
          simp (disch := omega) only [e_q0, e_nil, e_cons, e_q, e_qf, e_qt, e_af, z_hd, z_mk1, z_lg, z_s1, z_s2, z_kl, z_en, z_kI, z_fv, z_ic, z_c1, z_sh, z_pop, z_rc, z_tgt, z_tsw, z_lsw, z_nw, z_ac, o_kI, o_kL, o_ldi, o_ldl, o_lda, o_sti, o_sta, o_stl, o_inc, o_b2, o_bz, o_l2, o_lz, o_ls, o_lneg, o_i2l, o_l2i, o_lcmp, o_dup, o_dupx1, o_dup2, o_if, o_if2, o_ifnull, o_get, o_put, o_iald, o_zald, o_aald, o_alen, o_iast, o_zast, o_aast, o_new, o_newa, o_call, o_call1, o_callN, o_obj, o_reti, o_retl, o_ret, o_tsw, o_lsw, va_rf_s, va_rf_n, z_u2_s, z_u2_k, z_u2_f, z_uR_f, z_uL_f, e_ix, e_vp, e_lt, e_le, e_eq, e_lt0, e_eq0, e_b0, e_b1, e_10, e_11, true_or, or_true, false_or, nI_add, z_bi_0, z_bi_1, e_bb, z_uR_s, z_uR_k, z_uL_s, z_uL_k, true_and, and_true, and_self, not_true_eq_false, not_false_eq_true, forall_const, Option.toList, List.cons_append, List.nil_append, List.singleton_append, Nat.reduceAdd, Nat.zero_add, Nat.add_zero, Nat.reduceEqDiff, ↓reduceIte, ite_true, ite_false, reduceCtorEq, Int.cast_ofNat_Int, Int.reduceAdd, Int.reduceToNat, ne_eq, false_imp_iff, true_imp_iff, cl_170, bf_170_0, bf_170_15, bf_170_43, bf_170_77, bf_170_109, bf_170_119, bf_170_126, bf_170_154, bf_170_155, bf_170_194, bf_170_195, bf_170_198, bf_170_204, bo_170_0, bo_170_15, bo_170_43, bo_170_77, bo_170_109, bo_170_119, bo_170_126, bo_170_154, bo_170_155, bo_170_194, bo_170_195, bo_170_198, bo_170_204, hS]
          rw [pk_sub hy]
          refine k_ones ?_
          rw [f_ones_tb (by omega) 9 (by omega)]
          simp (disch := omega) only [e_q0, e_nil, e_cons, e_q, e_qf, e_qt, e_af, z_hd, z_mk1, z_lg, z_s1, z_s2, z_kl, z_en, z_kI, z_fv, z_ic, z_c1, z_sh, z_pop, z_rc, z_tgt, z_tsw, z_lsw, z_nw, z_ac, o_kI, o_kL, o_ldi, o_ldl, o_lda, o_sti, o_sta, o_stl, o_inc, o_b2, o_bz, o_l2, o_lz, o_ls, o_lneg, o_i2l, o_l2i, o_lcmp, o_dup, o_dupx1, o_dup2, o_if, o_if2, o_ifnull, o_get, o_put, o_iald, o_zald, o_aald, o_alen, o_iast, o_zast, o_aast, o_new, o_newa, o_call, o_call1, o_callN, o_obj, o_reti, o_retl, o_ret, o_tsw, o_lsw, va_rf_s, va_rf_n, z_u2_s, z_u2_k, z_u2_f, z_uR_f, z_uL_f, e_ix, e_vp, e_lt, e_le, e_eq, e_lt0, e_eq0, e_b0, e_b1, e_10, e_11, true_or, or_true, false_or, nI_add, z_bi_0, z_bi_1, e_bb, z_uR_s, z_uR_k, z_uL_s, z_uL_k, true_and, and_true, and_self, not_true_eq_false, not_false_eq_true, forall_const, Option.toList, List.cons_append, List.nil_append, List.singleton_append, Nat.reduceAdd, Nat.zero_add, Nat.add_zero, Nat.reduceEqDiff, ↓reduceIte, ite_true, ite_false, reduceCtorEq, Int.cast_ofNat_Int, Int.reduceAdd, Int.reduceToNat, ne_eq, false_imp_iff, true_imp_iff, cl_170, bf_170_0, bf_170_15, bf_170_43, bf_170_77, bf_170_109, bf_170_119, bf_170_126, bf_170_154, bf_170_155, bf_170_194, bf_170_195, bf_170_198, bf_170_204, bo_170_0, bo_170_15, bo_170_43, bo_170_77, bo_170_109, bo_170_119, bo_170_126, bo_170_154, bo_170_155, bo_170_194, bo_170_195, bo_170_198, bo_170_204, hS]
          rw [pk_sub hc]
          refine k_power (by omega) ?_
          rw [f_pow_N]
          simp (disch := omega) only [e_q0, e_nil, e_cons, e_q, e_qf, e_qt, e_af, z_hd, z_mk1, z_lg, z_s1, z_s2, z_kl, z_en, z_kI, z_fv, z_ic, z_c1, z_sh, z_pop, z_rc, z_tgt, z_tsw, z_lsw, z_nw, z_ac, o_kI, o_kL, o_ldi, o_ldl, o_lda, o_sti, o_sta, o_stl, o_inc, o_b2, o_bz, o_l2, o_lz, o_ls, o_lneg, o_i2l, o_l2i, o_lcmp, o_dup, o_dupx1, o_dup2, o_if, o_if2, o_ifnull, o_get, o_put, o_iald, o_zald, o_aald, o_alen, o_iast, o_zast, o_aast, o_new, o_newa, o_call, o_call1, o_callN, o_obj, o_reti, o_retl, o_ret, o_tsw, o_lsw, va_rf_s, va_rf_n, z_u2_s, z_u2_k, z_u2_f, z_uR_f, z_uL_f, e_ix, e_vp, e_lt, e_le, e_eq, e_lt0, e_eq0, e_b0, e_b1, e_10, e_11, true_or, or_true, false_or, nI_add, z_bi_0, z_bi_1, e_bb, z_uR_s, z_uR_k, z_uL_s, z_uL_k, true_and, and_true, and_self, not_true_eq_false, not_false_eq_true, forall_const, Option.toList, List.cons_append, List.nil_append, List.singleton_append, Nat.reduceAdd, Nat.zero_add, Nat.add_zero, Nat.reduceEqDiff, ↓reduceIte, ite_true, ite_false, reduceCtorEq, Int.cast_ofNat_Int, Int.reduceAdd, Int.reduceToNat, ne_eq, false_imp_iff, true_imp_iff, cl_170, bf_170_0, bf_170_15, bf_170_43, bf_170_77, bf_170_109, bf_170_119, bf_170_126, bf_170_154, bf_170_155, bf_170_194, bf_170_195, bf_170_198, bf_170_204, bo_170_0, bo_170_15, bo_170_43, bo_170_77, bo_170_109, bo_170_119, bo_170_126, bo_170_154, bo_170_155, bo_170_194, bo_170_195, bo_170_198, bo_170_204, hS]
          have b1 : y ^ f_cnt (k.testBit) 9 ≤ 1000000000 := z_pw hy (by omega)
          have b2 : (10 - y) ^ (f_un A - f_cnt (k.testBit) 9) ≤ 1000000000 := z_pw (by omega) (by omega)
          rw [nI_l (by omega), nI_l (by omega), lN_mul, lN_add, ← ht]
          exact ih2 w ⟨w1, w5⟩
        · have ht : f_ct A y k = 0 := if_neg (fun q => c2 (of_decide_eq_true q.2))
          rw [ht, Nat.add_zero] at ih2
          rw [lN_add, Nat.add_zero]
          exact ih2 w ⟨w1, w5⟩
      · have e6 : f 373 6 = nI A.s.1.2 := hf.1.1.1.2.1
        have hj' := Nat.not_le.mpr hj
        refine z_run ck_170 12 bf_170_77 ?_
        simp (disch := omega) only [e_q0, e_nil, e_cons, e_q, e_qf, e_qt, e_af, z_hd, z_mk1, z_lg, z_s1, z_s2, z_kl, z_en, z_kI, z_fv, z_ic, z_c1, z_sh, z_pop, z_rc, z_tgt, z_tsw, z_lsw, z_nw, z_ac, o_kI, o_kL, o_ldi, o_ldl, o_lda, o_sti, o_sta, o_stl, o_inc, o_b2, o_bz, o_l2, o_lz, o_ls, o_lneg, o_i2l, o_l2i, o_lcmp, o_dup, o_dupx1, o_dup2, o_if, o_if2, o_ifnull, o_get, o_put, o_iald, o_zald, o_aald, o_alen, o_iast, o_zast, o_aast, o_new, o_newa, o_call, o_call1, o_callN, o_obj, o_reti, o_retl, o_ret, o_tsw, o_lsw, va_rf_s, va_rf_n, z_u2_s, z_u2_k, z_u2_f, z_uR_f, z_uL_f, e_ix, e_vp, e_lt, e_le, e_eq, e_lt0, e_eq0, e_b0, e_b1, e_10, e_11, true_or, or_true, false_or, nI_add, z_bi_0, z_bi_1, e_bb, z_uR_s, z_uR_k, z_uL_s, z_uL_k, true_and, and_true, and_self, not_true_eq_false, not_false_eq_true, forall_const, Option.toList, List.cons_append, List.nil_append, List.singleton_append, Nat.reduceAdd, Nat.zero_add, Nat.add_zero, Nat.reduceEqDiff, ↓reduceIte, ite_true, ite_false, reduceCtorEq, Int.cast_ofNat_Int, Int.reduceAdd, Int.reduceToNat, ne_eq, false_imp_iff, true_imp_iff, cl_170, bf_170_0, bf_170_15, bf_170_43, bf_170_77, bf_170_109, bf_170_119, bf_170_126, bf_170_154, bf_170_155, bf_170_194, bf_170_195, bf_170_198, bf_170_204, bo_170_0, bo_170_15, bo_170_43, bo_170_77, bo_170_109, bo_170_119, bo_170_126, bo_170_154, bo_170_155, bo_170_194, bo_170_195, bo_170_198, bo_170_204, hS, e6, hj']
        refine k_has ?_
        rw [f_has_tb (by omega) (by omega)]
        have hrk := f_rok_dn (m := k) (j := j) h8 hW.2.1 (by omega)
        have st : ∀ v, v = f_dn A.r k (j + 1) (58 + j) → z_W l G 170 (T.2.1, T.2.2) (fun v M' => Q v M' ∧ M'.2.2.2 = T) 77 [some (.ref 373), some (.int (nI y)), some (.int u), some (.int (nI (f_ups A))), some (.int (nI (f_un A))), some (.long (lN (f_abv A y k))), none, some (.int (nI k)), some (.int (nI (j + 1)))] [] (z_u2 f 382 (58 + j) v, mr, ml, T) := fun v hv => by
          have hset := k_setT (k := 58 + j) (v := v) hS hf.1 hf.2.2 (f_rok_set h8 hrk (by omega) (by omega))
          refine ih3 _ ⟨hset.1, fun c hc => by rw [hset.2.2 c (by omega)]; exact hf.2.1 c hc, hset.2.1.trans (funext fun i => ?_)⟩
          unfold f_set
          by_cases q : i = 58 + j
          · rw [if_pos q, q, hv]
          · rw [if_neg q]
            unfold f_dn
            by_cases q2 : 58 ≤ i ∧ i < 58 + j ∧ k.testBit (i - 58) = true
            · rw [if_pos q2, if_pos ⟨q2.1, by omega, q2.2.2⟩]
            · rw [if_neg q2, if_neg (fun q3 => q2 ⟨q3.1, by omega, q3.2.2⟩)]
        unfold f_dn at st
        rw [show 58 + j - 58 = j by omega] at st
        have e8 : f 382 = f_dn A.r k j := hf.2.2
        simp (disch := omega) only [e_q0, e_nil, e_cons, e_q, e_qf, e_qt, e_af, z_hd, z_mk1, z_lg, z_s1, z_s2, z_kl, z_en, z_kI, z_fv, z_ic, z_c1, z_sh, z_pop, z_rc, z_tgt, z_tsw, z_lsw, z_nw, z_ac, o_kI, o_kL, o_ldi, o_ldl, o_lda, o_sti, o_sta, o_stl, o_inc, o_b2, o_bz, o_l2, o_lz, o_ls, o_lneg, o_i2l, o_l2i, o_lcmp, o_dup, o_dupx1, o_dup2, o_if, o_if2, o_ifnull, o_get, o_put, o_iald, o_zald, o_aald, o_alen, o_iast, o_zast, o_aast, o_new, o_newa, o_call, o_call1, o_callN, o_obj, o_reti, o_retl, o_ret, o_tsw, o_lsw, va_rf_s, va_rf_n, z_u2_s, z_u2_k, z_u2_f, z_uR_f, z_uL_f, e_ix, e_vp, e_lt, e_le, e_eq, e_lt0, e_eq0, e_b0, e_b1, e_10, e_11, true_or, or_true, false_or, nI_add, z_bi_0, z_bi_1, e_bb, z_uR_s, z_uR_k, z_uL_s, z_uL_k, true_and, and_true, and_self, not_true_eq_false, not_false_eq_true, forall_const, Option.toList, List.cons_append, List.nil_append, List.singleton_append, Nat.reduceAdd, Nat.zero_add, Nat.add_zero, Nat.reduceEqDiff, ↓reduceIte, ite_true, ite_false, reduceCtorEq, Int.cast_ofNat_Int, Int.reduceAdd, Int.reduceToNat, ne_eq, false_imp_iff, true_imp_iff, cl_170, bf_170_0, bf_170_15, bf_170_43, bf_170_77, bf_170_109, bf_170_119, bf_170_126, bf_170_154, bf_170_155, bf_170_194, bf_170_195, bf_170_198, bf_170_204, bo_170_0, bo_170_15, bo_170_43, bo_170_77, bo_170_109, bo_170_119, bo_170_126, bo_170_154, bo_170_155, bo_170_194, bo_170_195, bo_170_198, bo_170_204, hS, e8]
        refine ⟨fun c5 => ?_, fun c5 => ?_⟩
        · refine st _ ?_
          rw [if_neg (by rw [c5]; simp)]
          exact if_neg (by omega)
        · refine st _ ?_
          rw [if_pos ⟨by omega, by omega, by rw [← Bool.not_eq_false]; exact c5⟩]
    · have ht : f_ct A y k = 0 := if_neg (fun q => c1 q.1)
      have ih2 := ih f hf
      unfold f_abv at ih2
      rw [ht, Nat.add_zero] at ih2
      exact ih2
end
