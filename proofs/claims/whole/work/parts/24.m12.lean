theorem lN_Z {n : Nat} (h : n < 9223372036854775808) : (lN n).toInt = (n : Int) := Int64.toInt_ofNat_of_lt h
theorem lN_Zi {x : Int64} {n : Nat} (h : n < 9223372036854775808) (e : x.toInt = (n : Int)) : x = lN n := Int64.toInt_inj.mp (by rw [e, lN_Z h])
theorem lN_div {a d : Nat} (ha : a < 9223372036854775808) (h0 : 0 < d) (hd : d < 9223372036854775808) : lN a / lN d = lN (a / d) := by
  have hle : a / d ≤ a := Nat.div_le_self _ _
  refine lN_Zi (by omega) ?_
  rw [Int64.toInt_div, lN_Z ha, lN_Z hd, ← Int.ofNat_tdiv]
  generalize a / d = e at hle
  rw [Int.bmod_eq_of_le (by omega) (by omega)]
theorem z_lremN {a d : Nat} (ha : a < 9223372036854775808) (h0 : 0 < d) (hd : d < 9223372036854775808) : z_lrem (lN a) (lN d) = lN (a % d) := by
  have hm : a / d * d ≤ a := Nat.div_mul_le_self a d
  unfold z_lrem
  rw [lN_div ha h0 hd, lN_mul, lN_sub hm, Nat.mod_eq_sub_mul_div, Nat.mul_comm d]
theorem lN_ne0 {d : Nat} (h0 : 0 < d) (hd : d < 9223372036854775808) : ¬ lN d = 0 := fun q => by
  have := congrArg Int64.toInt q
  rw [lN_Z hd] at this
  have e : (0 : Int64).toInt = 0 := rfl
  omega
/-- an event: whether it is so, and the row after it -/
def f_event (s : ZS) (co : Int32) (r : ZW) (c a b : Nat) (e : Bool) : Bool × ZW :=
  if c = 1 then (if 10 * a + b = 0 ∨ e = false then (false, r) else (true, f_gos s co (10 * a + b) r))
  else if c = 2 then (if a < s.1.2 ∧ b = 0 ∧ e = true then (true, f_set r (58 + a) (nI 1 - r (58 + a))) else (false, r))
  else if c = 3 then (if (a < s.1.1 ∧ s.2 0 a = 0) ∧ e = true then (true, f_set r (67 + a) (nI b)) else (false, r))
  else if c = 4 then (decide (a < s.1.1) && (decide (b < 2) && (e && decide ((f_endOf s co r a).isSome = decide (b = 1)))), r)
  else if c = 5 then (decide (a < s.1.1) && (decide (b < s.1.1) && (e && (decide (¬ s.2 0 a = 0) && decide (r a = nI b)))), r)
  else if c = 6 then (decide (a < s.1.1 ∧ s.2 0 a = 0) && (e && decide (f_load s co r a s.1.1 = b)), r)
  else if c = 7 then (e && decide (r 76 = nI (10 * a + b)), r)
  else (false, r)
/-- the events from k on, d of them; v = the number that holds n events -/
def f_jdg (A : ZA) (n v : Nat) : Nat → Nat → ZW → Int32
  | 0, _, _ => z_ng 9
  | d + 1, k, r =>
    if (f_event A.s (nI 255) r (v / 100000 ^ (n - 1 - k) % 100000 / 10000) (v / 100000 ^ (n - 1 - k) % 100000 / 1000 % 10) (v / 100000 ^ (n - 1 - k) % 100000 / 100 % 10) (decide (v / 100000 ^ (n - 1 - k) % 100000 / 10 % 10 = 0 ∧ v / 100000 ^ (n - 1 - k) % 100000 % 10 = 0))).1 = true
    then f_jdg A n v d (k + 1) (f_event A.s (nI 255) r (v / 100000 ^ (n - 1 - k) % 100000 / 10000) (v / 100000 ^ (n - 1 - k) % 100000 / 1000 % 10) (v / 100000 ^ (n - 1 - k) % 100000 / 100 % 10) (decide (v / 100000 ^ (n - 1 - k) % 100000 / 10 % 10 = 0 ∧ v / 100000 ^ (n - 1 - k) % 100000 % 10 = 0))).2
    else nI k
def a_judge (A : ZA) (x : Int32) (y : Int64) : Int32 := if f_in x 1 3 = true ∧ 0 ≤ y.toInt ∧ y.toInt < ((100000 ^ z_ix x : Nat) : Int) then f_jdg A (z_ix x) y.toInt.toNat (z_ix x) 0 A.r else z_ng 2
theorem f_event_rok {s : ZS} {r : ZW} {c a b : Nat} {e : Bool} (h8 : s.1.1 ≤ 8 ∧ s.1.2 ≤ 9) (h : f_rok s r) (ha : a < 10) : f_rok s (f_event s (nI 255) r c a b e).2 := by
  unfold f_event
  split
  · split
    · exact h
    · exact f_gos_rok h8 _ _ h
  split
  · split
    · exact f_rok_set h8 h (by omega) (by omega)
    · exact h
  split
  · split
    · exact f_rok_set h8 h (by omega) (by omega)
    · exact h
  split
  · exact h
  split
  · exact h
  split
  · exact h
  split <;> exact h
theorem f_idx_nn {a n : Nat} (ha : a < 1000) (hn : n < 1000) : f_idx (nI a) n = decide (a < n) := by
  simp only [f_idx, e_le (show 0 < 2147483648 by omega) (show a < 2147483648 by omega), e_lt (show a < 2147483648 by omega) (show n < 2147483648 by omega), Nat.zero_le, decide_true, Bool.true_and]
theorem f_gate_nn {s : ZS} {a : Nat} (ha : a < 1000) (hn : s.1.1 < 1000) : f_gate s (nI a) = decide (a < s.1.1 ∧ s.2 0 a = 0) := by
  simp only [f_gate, f_idx_nn ha hn, e_ix (show a < 2147483648 by omega), Bool.decide_and]
section
variable {l : Launch} {G : ZG} {mi : Nat → Nat → Int32} {mr : Nat → Nat → Option Nat} {ml : Nat → Nat → Int64} {T : (Nat → Nat × Nat) × Nat × Nat} {Q : ZR} {A : ZA}
set_option maxHeartbeats 8000000 in
theorem k_judged {r : ZW} {c a b v w : Nat} (hS : SM T mr) (hM : PA A mi ml) (hW : WA A) (hr : mi 382 = r) (hk : f_rok A.s r) (hc : c < 10) (ha : a < 10) (hb : b < 10) (hv : v < 10) (hw : w < 10)
    (hQ : ∀ f, PA A f ml → (∀ c, c < 373 → f c = mi c) → f 382 = (f_event A.s (nI 255) r c a b (decide (v = 0 ∧ w = 0))).2 → Q (some (.int (z_bi (f_event A.s (nI 255) r c a b (decide (v = 0 ∧ w = 0))).1))) (f, mr, ml, T)) : z_Ok l G m_Model_judged [.ref 373, .int (nI c), .int (nI a), .int (nI b), .int (nI v), .int (nI w)] (mi, mr, ml, T) Q := by
  have hs := hM.1
  have h8 := hs.2
  have hw2 : T.1 382 = (2, 78) := by rw [hS.1.2.2.2.2.2.2.2.2.2.1]
  have key : ∀ e, (∀ f, PA A f ml → (∀ c, c < 373 → f c = mi c) → f 382 = (f_event A.s (nI 255) r c a b e).2 → Q (some (.int (z_bi (f_event A.s (nI 255) r c a b e).1))) (f, mr, ml, T)) → z_W l G 161 (T.2.1, T.2.2) (fun v M' => Q v M' ∧ M'.2.2.2 = T) 17 [some (.ref 373), some (.int (nI c)), some (.int (nI a)), some (.int (nI b)), none, none, some (.int (z_bi e))] [] (mi, mr, ml, T) := by
    intro e hQ
    refine z_run ck_161 30 bf_161_17 ?_
    simp (disch := omega) only [e_q0, e_nil, e_cons, e_q, e_qf, e_qt, e_af, z_hd, z_mk1, z_lg, z_s1, z_s2, z_kl, z_en, z_kI, z_fv, z_ic, z_c1, z_sh, z_pop, z_rc, z_tgt, z_tsw, z_lsw, z_nw, z_ac, o_kI, o_kL, o_ldi, o_ldl, o_lda, o_sti, o_sta, o_stl, o_inc, o_b2, o_bz, o_l2, o_lz, o_ls, o_lneg, o_i2l, o_l2i, o_lcmp, o_dup, o_dupx1, o_dup2, o_if, o_if2, o_ifnull, o_get, o_put, o_iald, o_zald, o_aald, o_alen, o_iast, o_zast, o_aast, o_new, o_newa, o_call, o_call1, o_callN, o_obj, o_reti, o_retl, o_ret, o_tsw, o_lsw, va_rf_s, va_rf_n, z_u2_s, z_u2_k, z_u2_f, z_uR_f, z_uL_f, e_ix, e_vp, e_lt, e_le, e_eq, e_lt0, e_eq0, e_b0, e_b1, e_10, e_11, true_or, or_true, false_or, nI_add, z_bi_0, z_bi_1, e_bb, z_uR_s, z_uR_k, z_uL_s, z_uL_k, true_and, and_true, and_self, not_true_eq_false, not_false_eq_true, forall_const, Option.toList, List.cons_append, List.nil_append, List.singleton_append, Nat.reduceAdd, Nat.zero_add, Nat.add_zero, Nat.reduceEqDiff, ↓reduceIte, ite_true, ite_false, reduceCtorEq, Int.cast_ofNat_Int, Int.reduceAdd, Int.reduceToNat, ne_eq, false_imp_iff, true_imp_iff, cl_161, bf_161_0, bf_161_14, bf_161_15, bf_161_17, bf_161_60, bf_161_74, bf_161_76, bf_161_88, bf_161_105, bf_161_107, bf_161_129, bf_161_142, bf_161_144, bf_161_156, bf_161_192, bf_161_193, bf_161_202, bf_161_203, bf_161_210, bf_161_211, bf_161_212, bf_161_258, bf_161_259, bf_161_260, bf_161_290, bf_161_291, bf_161_292, bf_161_317, bf_161_318, bf_161_319, bo_161_0, bo_161_14, bo_161_15, bo_161_17, bo_161_60, bo_161_74, bo_161_76, bo_161_88, bo_161_105, bo_161_107, bo_161_129, bo_161_142, bo_161_144, bo_161_156, bo_161_192, bo_161_193, bo_161_202, bo_161_203, bo_161_210, bo_161_211, bo_161_212, bo_161_258, bo_161_259, bo_161_260, bo_161_290, bo_161_291, bo_161_292, bo_161_317, bo_161_318, bo_161_319, hS]
    have e10 : nI 10 * nI a + nI b = nI (10 * a + b) := by rw [pk_mul, nI_add]
    have hmi : ∀ Z : Bool × ZW, Z = f_event A.s (nI 255) r c a b e → Z.2 = r → Q (some (.int (z_bi Z.1))) (mi, mr, ml, T) := fun Z h1 h2 => by
      subst h1
      exact hQ mi hM (fun _ _ => rfl) (by rw [hr, h2])
    refine ⟨fun q => ?_, fun q => ?_, fun q => ?_, fun q => ?_, fun q => ?_, fun q => ?_, fun q => ?_, fun q => ?_, fun q => ?_⟩
    · exact hmi (false, r) (by simp only [f_event, if_neg (show ¬ c = 1 by omega), if_neg (show ¬ c = 2 by omega), if_neg (show ¬ c = 3 by omega), if_neg (show ¬ c = 4 by omega), if_neg (show ¬ c = 5 by omega), if_neg (show ¬ c = 6 by omega), if_neg (show ¬ c = 7 by omega)]) rfl
    · exact hmi (false, r) (by simp only [f_event, if_neg (show ¬ c = 1 by omega), if_neg (show ¬ c = 2 by omega), if_neg (show ¬ c = 3 by omega), if_neg (show ¬ c = 4 by omega), if_neg (show ¬ c = 5 by omega), if_neg (show ¬ c = 6 by omega), if_neg (show ¬ c = 7 by omega)]) rfl
    · subst q
      rw [e10]
      simp (disch := omega) only [e_eq0]
      refine ⟨fun c1 => ?_, fun c1 => ⟨fun c2 => ?_, fun c2 => ?_⟩⟩
      · exact hmi (false, r) (by simp only [f_event, ↓reduceIte, c1, true_or]) rfl
      · exact hmi (false, r) (by simp only [f_event, ↓reduceIte, c2, or_true]) rfl
      · simp only [f_event, ↓reduceIte, c1, c2, or_self] at hQ
        refine k_tryT hS hM hW.1 (by omega) hr hk fun f f1 f2 f3 => ?_
        simp (disch := omega) only [e_q0, e_nil, e_cons, e_q, e_qf, e_qt, e_af, z_hd, z_mk1, z_lg, z_s1, z_s2, z_kl, z_en, z_kI, z_fv, z_ic, z_c1, z_sh, z_pop, z_rc, z_tgt, z_tsw, z_lsw, z_nw, z_ac, o_kI, o_kL, o_ldi, o_ldl, o_lda, o_sti, o_sta, o_stl, o_inc, o_b2, o_bz, o_l2, o_lz, o_ls, o_lneg, o_i2l, o_l2i, o_lcmp, o_dup, o_dupx1, o_dup2, o_if, o_if2, o_ifnull, o_get, o_put, o_iald, o_zald, o_aald, o_alen, o_iast, o_zast, o_aast, o_new, o_newa, o_call, o_call1, o_callN, o_obj, o_reti, o_retl, o_ret, o_tsw, o_lsw, va_rf_s, va_rf_n, z_u2_s, z_u2_k, z_u2_f, z_uR_f, z_uL_f, e_ix, e_vp, e_lt, e_le, e_eq, e_lt0, e_eq0, e_b0, e_b1, e_10, e_11, true_or, or_true, false_or, nI_add, z_bi_0, z_bi_1, e_bb, z_uR_s, z_uR_k, z_uL_s, z_uL_k, true_and, and_true, and_self, not_true_eq_false, not_false_eq_true, forall_const, Option.toList, List.cons_append, List.nil_append, List.singleton_append, Nat.reduceAdd, Nat.zero_add, Nat.add_zero, Nat.reduceEqDiff, ↓reduceIte, ite_true, ite_false, reduceCtorEq, Int.cast_ofNat_Int, Int.reduceAdd, Int.reduceToNat, ne_eq, false_imp_iff, true_imp_iff, cl_161, bf_161_0, bf_161_14, bf_161_15, bf_161_17, bf_161_60, bf_161_74, bf_161_76, bf_161_88, bf_161_105, bf_161_107, bf_161_129, bf_161_142, bf_161_144, bf_161_156, bf_161_192, bf_161_193, bf_161_202, bf_161_203, bf_161_210, bf_161_211, bf_161_212, bf_161_258, bf_161_259, bf_161_260, bf_161_290, bf_161_291, bf_161_292, bf_161_317, bf_161_318, bf_161_319, bo_161_0, bo_161_14, bo_161_15, bo_161_17, bo_161_60, bo_161_74, bo_161_76, bo_161_88, bo_161_105, bo_161_107, bo_161_129, bo_161_142, bo_161_144, bo_161_156, bo_161_192, bo_161_193, bo_161_202, bo_161_203, bo_161_210, bo_161_211, bo_161_212, bo_161_258, bo_161_259, bo_161_260, bo_161_290, bo_161_291, bo_161_292, bo_161_317, bo_161_318, bo_161_319, hS]
        exact hQ f f1 (fun c hc => f3 c (by omega) (by omega)) f2
    · subst q
      refine k_isLink hS hs ?_
      rw [f_idx_nn (by omega) (by omega)]
      simp (disch := omega) only [e_q0, e_nil, e_cons, e_q, e_qf, e_qt, e_af, z_hd, z_mk1, z_lg, z_s1, z_s2, z_kl, z_en, z_kI, z_fv, z_ic, z_c1, z_sh, z_pop, z_rc, z_tgt, z_tsw, z_lsw, z_nw, z_ac, o_kI, o_kL, o_ldi, o_ldl, o_lda, o_sti, o_sta, o_stl, o_inc, o_b2, o_bz, o_l2, o_lz, o_ls, o_lneg, o_i2l, o_l2i, o_lcmp, o_dup, o_dupx1, o_dup2, o_if, o_if2, o_ifnull, o_get, o_put, o_iald, o_zald, o_aald, o_alen, o_iast, o_zast, o_aast, o_new, o_newa, o_call, o_call1, o_callN, o_obj, o_reti, o_retl, o_ret, o_tsw, o_lsw, va_rf_s, va_rf_n, z_u2_s, z_u2_k, z_u2_f, z_uR_f, z_uL_f, e_ix, e_vp, e_lt, e_le, e_eq, e_lt0, e_eq0, e_b0, e_b1, e_10, e_11, true_or, or_true, false_or, nI_add, z_bi_0, z_bi_1, e_bb, z_uR_s, z_uR_k, z_uL_s, z_uL_k, true_and, and_true, and_self, not_true_eq_false, not_false_eq_true, forall_const, Option.toList, List.cons_append, List.nil_append, List.singleton_append, Nat.reduceAdd, Nat.zero_add, Nat.add_zero, Nat.reduceEqDiff, ↓reduceIte, ite_true, ite_false, reduceCtorEq, Int.cast_ofNat_Int, Int.reduceAdd, Int.reduceToNat, ne_eq, false_imp_iff, true_imp_iff, cl_161, bf_161_0, bf_161_14, bf_161_15, bf_161_17, bf_161_60, bf_161_74, bf_161_76, bf_161_88, bf_161_105, bf_161_107, bf_161_129, bf_161_142, bf_161_144, bf_161_156, bf_161_192, bf_161_193, bf_161_202, bf_161_203, bf_161_210, bf_161_211, bf_161_212, bf_161_258, bf_161_259, bf_161_260, bf_161_290, bf_161_291, bf_161_292, bf_161_317, bf_161_318, bf_161_319, bo_161_0, bo_161_14, bo_161_15, bo_161_17, bo_161_60, bo_161_74, bo_161_76, bo_161_88, bo_161_105, bo_161_107, bo_161_129, bo_161_142, bo_161_144, bo_161_156, bo_161_192, bo_161_193, bo_161_202, bo_161_203, bo_161_210, bo_161_211, bo_161_212, bo_161_258, bo_161_259, bo_161_260, bo_161_290, bo_161_291, bo_161_292, bo_161_317, bo_161_318, bo_161_319, hS, hr]
      refine ⟨fun c1 => ?_, fun c1 => ⟨fun c2 => ⟨fun c3 => ?_, fun c3 => ?_⟩, fun c2 => ?_⟩⟩
      · exact hmi (false, r) (by simp only [f_event, Nat.reduceEqDiff, ↓reduceIte, of_decide_eq_false c1, false_and]) rfl
      · exact hmi (false, r) (by simp only [f_event, Nat.reduceEqDiff, ↓reduceIte, c3, Bool.false_eq_true, and_false]) rfl
      · rw [Bool.not_eq_false] at c1 c3
        have c1 := of_decide_eq_true c1
        simp only [f_event, Nat.reduceEqDiff, ↓reduceIte, c1, c2, c3, and_self] at hQ
        have hrk := f_rok_set (k := 58 + a) (v := nI 1 - r (58 + a)) h8 hk (by omega) (by omega)
        exact hQ _ (k_setT hS hM hr hrk).1 (fun c hc => z_u2_f (by omega)) (k_setT hS hM hr hrk).2.1
      · exact hmi (false, r) (by simp only [f_event, Nat.reduceEqDiff, ↓reduceIte, c2, false_and, and_false]) rfl
    · subst q
      refine k_isGateway hS hs ?_
      rw [f_gate_nn (by omega) (by omega)]
      simp (disch := omega) only [e_q0, e_nil, e_cons, e_q, e_qf, e_qt, e_af, z_hd, z_mk1, z_lg, z_s1, z_s2, z_kl, z_en, z_kI, z_fv, z_ic, z_c1, z_sh, z_pop, z_rc, z_tgt, z_tsw, z_lsw, z_nw, z_ac, o_kI, o_kL, o_ldi, o_ldl, o_lda, o_sti, o_sta, o_stl, o_inc, o_b2, o_bz, o_l2, o_lz, o_ls, o_lneg, o_i2l, o_l2i, o_lcmp, o_dup, o_dupx1, o_dup2, o_if, o_if2, o_ifnull, o_get, o_put, o_iald, o_zald, o_aald, o_alen, o_iast, o_zast, o_aast, o_new, o_newa, o_call, o_call1, o_callN, o_obj, o_reti, o_retl, o_ret, o_tsw, o_lsw, va_rf_s, va_rf_n, z_u2_s, z_u2_k, z_u2_f, z_uR_f, z_uL_f, e_ix, e_vp, e_lt, e_le, e_eq, e_lt0, e_eq0, e_b0, e_b1, e_10, e_11, true_or, or_true, false_or, nI_add, z_bi_0, z_bi_1, e_bb, z_uR_s, z_uR_k, z_uL_s, z_uL_k, true_and, and_true, and_self, not_true_eq_false, not_false_eq_true, forall_const, Option.toList, List.cons_append, List.nil_append, List.singleton_append, Nat.reduceAdd, Nat.zero_add, Nat.add_zero, Nat.reduceEqDiff, ↓reduceIte, ite_true, ite_false, reduceCtorEq, Int.cast_ofNat_Int, Int.reduceAdd, Int.reduceToNat, ne_eq, false_imp_iff, true_imp_iff, cl_161, bf_161_0, bf_161_14, bf_161_15, bf_161_17, bf_161_60, bf_161_74, bf_161_76, bf_161_88, bf_161_105, bf_161_107, bf_161_129, bf_161_142, bf_161_144, bf_161_156, bf_161_192, bf_161_193, bf_161_202, bf_161_203, bf_161_210, bf_161_211, bf_161_212, bf_161_258, bf_161_259, bf_161_260, bf_161_290, bf_161_291, bf_161_292, bf_161_317, bf_161_318, bf_161_319, bo_161_0, bo_161_14, bo_161_15, bo_161_17, bo_161_60, bo_161_74, bo_161_76, bo_161_88, bo_161_105, bo_161_107, bo_161_129, bo_161_142, bo_161_144, bo_161_156, bo_161_192, bo_161_193, bo_161_202, bo_161_203, bo_161_210, bo_161_211, bo_161_212, bo_161_258, bo_161_259, bo_161_260, bo_161_290, bo_161_291, bo_161_292, bo_161_317, bo_161_318, bo_161_319, hS, hr]
      refine ⟨fun c1 => ?_, fun c1 => ⟨fun c2 => ?_, fun c2 => ?_⟩⟩
      · exact hmi (false, r) (by simp only [f_event, Nat.reduceEqDiff, ↓reduceIte, of_decide_eq_false c1, false_and]) rfl
      · exact hmi (false, r) (by simp only [f_event, Nat.reduceEqDiff, ↓reduceIte, c2, Bool.false_eq_true, and_false]) rfl
      · rw [Bool.not_eq_false] at c1 c2
        have c1 := of_decide_eq_true c1
        simp only [f_event, Nat.reduceEqDiff, ↓reduceIte, c1, c2, and_self] at hQ
        have hrk := f_rok_set (k := 67 + a) (v := nI b) h8 hk (by omega) (by omega)
        exact hQ _ (k_setT hS hM hr hrk).1 (fun c hc => z_u2_f (by omega)) (k_setT hS hM hr hrk).2.1
    · subst q
      have hm := hmi _ rfl (by simp only [f_event, Nat.reduceEqDiff, ↓reduceIte])
      simp only [f_event, Nat.reduceEqDiff, ↓reduceIte] at hm
      refine k_isNode hS hs ?_
      rw [f_idx_nn (by omega) (by omega)]
      simp (disch := omega) only [e_q0, e_nil, e_cons, e_q, e_qf, e_qt, e_af, z_hd, z_mk1, z_lg, z_s1, z_s2, z_kl, z_en, z_kI, z_fv, z_ic, z_c1, z_sh, z_pop, z_rc, z_tgt, z_tsw, z_lsw, z_nw, z_ac, o_kI, o_kL, o_ldi, o_ldl, o_lda, o_sti, o_sta, o_stl, o_inc, o_b2, o_bz, o_l2, o_lz, o_ls, o_lneg, o_i2l, o_l2i, o_lcmp, o_dup, o_dupx1, o_dup2, o_if, o_if2, o_ifnull, o_get, o_put, o_iald, o_zald, o_aald, o_alen, o_iast, o_zast, o_aast, o_new, o_newa, o_call, o_call1, o_callN, o_obj, o_reti, o_retl, o_ret, o_tsw, o_lsw, va_rf_s, va_rf_n, z_u2_s, z_u2_k, z_u2_f, z_uR_f, z_uL_f, e_ix, e_vp, e_lt, e_le, e_eq, e_lt0, e_eq0, e_b0, e_b1, e_10, e_11, true_or, or_true, false_or, nI_add, z_bi_0, z_bi_1, e_bb, z_uR_s, z_uR_k, z_uL_s, z_uL_k, true_and, and_true, and_self, not_true_eq_false, not_false_eq_true, forall_const, Option.toList, List.cons_append, List.nil_append, List.singleton_append, Nat.reduceAdd, Nat.zero_add, Nat.add_zero, Nat.reduceEqDiff, ↓reduceIte, ite_true, ite_false, reduceCtorEq, Int.cast_ofNat_Int, Int.reduceAdd, Int.reduceToNat, ne_eq, false_imp_iff, true_imp_iff, cl_161, bf_161_0, bf_161_14, bf_161_15, bf_161_17, bf_161_60, bf_161_74, bf_161_76, bf_161_88, bf_161_105, bf_161_107, bf_161_129, bf_161_142, bf_161_144, bf_161_156, bf_161_192, bf_161_193, bf_161_202, bf_161_203, bf_161_210, bf_161_211, bf_161_212, bf_161_258, bf_161_259, bf_161_260, bf_161_290, bf_161_291, bf_161_292, bf_161_317, bf_161_318, bf_161_319, bo_161_0, bo_161_14, bo_161_15, bo_161_17, bo_161_60, bo_161_74, bo_161_76, bo_161_88, bo_161_105, bo_161_107, bo_161_129, bo_161_142, bo_161_144, bo_161_156, bo_161_192, bo_161_193, bo_161_202, bo_161_203, bo_161_210, bo_161_211, bo_161_212, bo_161_258, bo_161_259, bo_161_260, bo_161_290, bo_161_291, bo_161_292, bo_161_317, bo_161_318, bo_161_319, hS, hr]
      refine ⟨fun c1 => ?_, fun c1 => ⟨fun c2 => ?_, fun c2 => ⟨fun c3 => ?_, fun c3 => ?_⟩⟩⟩
      · exact z_f0 hm (by rw [c1]; rfl)
      · exact z_f0 hm (by rw [decide_eq_false (show ¬ b < 2 by omega), Bool.false_and, Bool.and_false])
      · exact z_f0 hm (by rw [c3, Bool.false_and, Bool.and_false, Bool.and_false])
      · rw [Bool.not_eq_false] at c1 c3
        rw [c1, c3, decide_eq_true (show b < 2 by omega), Bool.true_and, Bool.true_and, Bool.true_and] at hm
        have c1 := of_decide_eq_true c1
        refine k_endOf hS hs hw2 c1 (by rw [hr]; exact hk.2.1) ?_
        rw [hr, hM.2.2.1.2.2.2]
        have hlt : ∀ d, f_endOf A.s (nI 255) r a = some d → d < 1000 := fun d hd => Nat.lt_of_lt_of_le (f_endOf_lt hk.2.1 h8.1 c1 hd) (by omega)
        generalize f_endOf A.s (nI 255) r a = e at hm hlt ⊢
        simp (disch := omega) only [e_q0, e_nil, e_cons, e_q, e_qf, e_qt, e_af, z_hd, z_mk1, z_lg, z_s1, z_s2, z_kl, z_en, z_kI, z_fv, z_ic, z_c1, z_sh, z_pop, z_rc, z_tgt, z_tsw, z_lsw, z_nw, z_ac, o_kI, o_kL, o_ldi, o_ldl, o_lda, o_sti, o_sta, o_stl, o_inc, o_b2, o_bz, o_l2, o_lz, o_ls, o_lneg, o_i2l, o_l2i, o_lcmp, o_dup, o_dupx1, o_dup2, o_if, o_if2, o_ifnull, o_get, o_put, o_iald, o_zald, o_aald, o_alen, o_iast, o_zast, o_aast, o_new, o_newa, o_call, o_call1, o_callN, o_obj, o_reti, o_retl, o_ret, o_tsw, o_lsw, va_rf_s, va_rf_n, z_u2_s, z_u2_k, z_u2_f, z_uR_f, z_uL_f, e_ix, e_vp, e_lt, e_le, e_eq, e_lt0, e_eq0, e_b0, e_b1, e_10, e_11, true_or, or_true, false_or, nI_add, z_bi_0, z_bi_1, e_bb, z_uR_s, z_uR_k, z_uL_s, z_uL_k, true_and, and_true, and_self, not_true_eq_false, not_false_eq_true, forall_const, Option.toList, List.cons_append, List.nil_append, List.singleton_append, Nat.reduceAdd, Nat.zero_add, Nat.add_zero, Nat.reduceEqDiff, ↓reduceIte, ite_true, ite_false, reduceCtorEq, Int.cast_ofNat_Int, Int.reduceAdd, Int.reduceToNat, ne_eq, false_imp_iff, true_imp_iff, cl_161, bf_161_0, bf_161_14, bf_161_15, bf_161_17, bf_161_60, bf_161_74, bf_161_76, bf_161_88, bf_161_105, bf_161_107, bf_161_129, bf_161_142, bf_161_144, bf_161_156, bf_161_192, bf_161_193, bf_161_202, bf_161_203, bf_161_210, bf_161_211, bf_161_212, bf_161_258, bf_161_259, bf_161_260, bf_161_290, bf_161_291, bf_161_292, bf_161_317, bf_161_318, bf_161_319, bo_161_0, bo_161_14, bo_161_15, bo_161_17, bo_161_60, bo_161_74, bo_161_76, bo_161_88, bo_161_105, bo_161_107, bo_161_129, bo_161_142, bo_161_144, bo_161_156, bo_161_192, bo_161_193, bo_161_202, bo_161_203, bo_161_210, bo_161_211, bo_161_212, bo_161_258, bo_161_259, bo_161_260, bo_161_290, bo_161_291, bo_161_292, bo_161_317, bo_161_318, bo_161_319, hS]
        cases e with
        | none =>
          simp only [z_on, Option.isSome_none] at hm ⊢
          exact ⟨fun _ => ⟨fun c5 => z_f0 hm (by simp [c5]), fun c5 => z_f1 hm (by simp [c5])⟩, fun q => absurd trivial q⟩
        | some d =>
          have hd := hlt d rfl
          simp only [z_on, z_on_n hd, Option.isSome_some] at hm ⊢
          exact ⟨fun q => absurd q id, fun _ => ⟨fun c5 => z_f1 hm (by simp [c5]), fun c5 => z_f0 hm (by simp [c5])⟩⟩
    · subst q
      have hm := hmi _ rfl (by simp only [f_event, Nat.reduceEqDiff, ↓reduceIte])
      simp only [f_event, Nat.reduceEqDiff, ↓reduceIte] at hm
      refine k_isNode hS hs ?_
      rw [f_idx_nn (by omega) (by omega)]
      simp (disch := omega) only [e_q0, e_nil, e_cons, e_q, e_qf, e_qt, e_af, z_hd, z_mk1, z_lg, z_s1, z_s2, z_kl, z_en, z_kI, z_fv, z_ic, z_c1, z_sh, z_pop, z_rc, z_tgt, z_tsw, z_lsw, z_nw, z_ac, o_kI, o_kL, o_ldi, o_ldl, o_lda, o_sti, o_sta, o_stl, o_inc, o_b2, o_bz, o_l2, o_lz, o_ls, o_lneg, o_i2l, o_l2i, o_lcmp, o_dup, o_dupx1, o_dup2, o_if, o_if2, o_ifnull, o_get, o_put, o_iald, o_zald, o_aald, o_alen, o_iast, o_zast, o_aast, o_new, o_newa, o_call, o_call1, o_callN, o_obj, o_reti, o_retl, o_ret, o_tsw, o_lsw, va_rf_s, va_rf_n, z_u2_s, z_u2_k, z_u2_f, z_uR_f, z_uL_f, e_ix, e_vp, e_lt, e_le, e_eq, e_lt0, e_eq0, e_b0, e_b1, e_10, e_11, true_or, or_true, false_or, nI_add, z_bi_0, z_bi_1, e_bb, z_uR_s, z_uR_k, z_uL_s, z_uL_k, true_and, and_true, and_self, not_true_eq_false, not_false_eq_true, forall_const, Option.toList, List.cons_append, List.nil_append, List.singleton_append, Nat.reduceAdd, Nat.zero_add, Nat.add_zero, Nat.reduceEqDiff, ↓reduceIte, ite_true, ite_false, reduceCtorEq, Int.cast_ofNat_Int, Int.reduceAdd, Int.reduceToNat, ne_eq, false_imp_iff, true_imp_iff, cl_161, bf_161_0, bf_161_14, bf_161_15, bf_161_17, bf_161_60, bf_161_74, bf_161_76, bf_161_88, bf_161_105, bf_161_107, bf_161_129, bf_161_142, bf_161_144, bf_161_156, bf_161_192, bf_161_193, bf_161_202, bf_161_203, bf_161_210, bf_161_211, bf_161_212, bf_161_258, bf_161_259, bf_161_260, bf_161_290, bf_161_291, bf_161_292, bf_161_317, bf_161_318, bf_161_319, bo_161_0, bo_161_14, bo_161_15, bo_161_17, bo_161_60, bo_161_74, bo_161_76, bo_161_88, bo_161_105, bo_161_107, bo_161_129, bo_161_142, bo_161_144, bo_161_156, bo_161_192, bo_161_193, bo_161_202, bo_161_203, bo_161_210, bo_161_211, bo_161_212, bo_161_258, bo_161_259, bo_161_260, bo_161_290, bo_161_291, bo_161_292, bo_161_317, bo_161_318, bo_161_319, hS, hr]
      refine ⟨fun c1 => ?_, fun c1 => ?_⟩
      · exact z_f0 hm (by rw [c1]; rfl)
      rw [Bool.not_eq_false] at c1
      rw [c1, Bool.true_and] at hm
      have c1 := of_decide_eq_true c1
      refine k_isNode hS hs ?_
      rw [f_idx_nn (by omega) (by omega)]
      simp (disch := omega) only [e_q0, e_nil, e_cons, e_q, e_qf, e_qt, e_af, z_hd, z_mk1, z_lg, z_s1, z_s2, z_kl, z_en, z_kI, z_fv, z_ic, z_c1, z_sh, z_pop, z_rc, z_tgt, z_tsw, z_lsw, z_nw, z_ac, o_kI, o_kL, o_ldi, o_ldl, o_lda, o_sti, o_sta, o_stl, o_inc, o_b2, o_bz, o_l2, o_lz, o_ls, o_lneg, o_i2l, o_l2i, o_lcmp, o_dup, o_dupx1, o_dup2, o_if, o_if2, o_ifnull, o_get, o_put, o_iald, o_zald, o_aald, o_alen, o_iast, o_zast, o_aast, o_new, o_newa, o_call, o_call1, o_callN, o_obj, o_reti, o_retl, o_ret, o_tsw, o_lsw, va_rf_s, va_rf_n, z_u2_s, z_u2_k, z_u2_f, z_uR_f, z_uL_f, e_ix, e_vp, e_lt, e_le, e_eq, e_lt0, e_eq0, e_b0, e_b1, e_10, e_11, true_or, or_true, false_or, nI_add, z_bi_0, z_bi_1, e_bb, z_uR_s, z_uR_k, z_uL_s, z_uL_k, true_and, and_true, and_self, not_true_eq_false, not_false_eq_true, forall_const, Option.toList, List.cons_append, List.nil_append, List.singleton_append, Nat.reduceAdd, Nat.zero_add, Nat.add_zero, Nat.reduceEqDiff, ↓reduceIte, ite_true, ite_false, reduceCtorEq, Int.cast_ofNat_Int, Int.reduceAdd, Int.reduceToNat, ne_eq, false_imp_iff, true_imp_iff, cl_161, bf_161_0, bf_161_14, bf_161_15, bf_161_17, bf_161_60, bf_161_74, bf_161_76, bf_161_88, bf_161_105, bf_161_107, bf_161_129, bf_161_142, bf_161_144, bf_161_156, bf_161_192, bf_161_193, bf_161_202, bf_161_203, bf_161_210, bf_161_211, bf_161_212, bf_161_258, bf_161_259, bf_161_260, bf_161_290, bf_161_291, bf_161_292, bf_161_317, bf_161_318, bf_161_319, bo_161_0, bo_161_14, bo_161_15, bo_161_17, bo_161_60, bo_161_74, bo_161_76, bo_161_88, bo_161_105, bo_161_107, bo_161_129, bo_161_142, bo_161_144, bo_161_156, bo_161_192, bo_161_193, bo_161_202, bo_161_203, bo_161_210, bo_161_211, bo_161_212, bo_161_258, bo_161_259, bo_161_260, bo_161_290, bo_161_291, bo_161_292, bo_161_317, bo_161_318, bo_161_319, hS, hr, hs]
      refine ⟨fun c2 => z_f0 hm (by rw [c2]; rfl), fun c2 => ⟨fun c3 => z_f0 hm (by rw [c3, Bool.false_and, Bool.and_false]), fun c3 => ⟨fun c4 => z_f0 hm (by simp [c4]), fun c4 => ⟨fun c5 => z_f1 hm ?_, fun c5 => z_f0 hm (by simp [c5])⟩⟩⟩⟩
      rw [Bool.not_eq_false] at c2 c3
      rw [c2, c3, decide_eq_true c4, decide_eq_true c5]
      rfl
    · subst q
      have hm := hmi _ rfl (by simp only [f_event, Nat.reduceEqDiff, ↓reduceIte])
      simp only [f_event, Nat.reduceEqDiff, ↓reduceIte] at hm
      refine k_isGateway hS hs ?_
      rw [f_gate_nn (by omega) (by omega)]
      simp (disch := omega) only [e_q0, e_nil, e_cons, e_q, e_qf, e_qt, e_af, z_hd, z_mk1, z_lg, z_s1, z_s2, z_kl, z_en, z_kI, z_fv, z_ic, z_c1, z_sh, z_pop, z_rc, z_tgt, z_tsw, z_lsw, z_nw, z_ac, o_kI, o_kL, o_ldi, o_ldl, o_lda, o_sti, o_sta, o_stl, o_inc, o_b2, o_bz, o_l2, o_lz, o_ls, o_lneg, o_i2l, o_l2i, o_lcmp, o_dup, o_dupx1, o_dup2, o_if, o_if2, o_ifnull, o_get, o_put, o_iald, o_zald, o_aald, o_alen, o_iast, o_zast, o_aast, o_new, o_newa, o_call, o_call1, o_callN, o_obj, o_reti, o_retl, o_ret, o_tsw, o_lsw, va_rf_s, va_rf_n, z_u2_s, z_u2_k, z_u2_f, z_uR_f, z_uL_f, e_ix, e_vp, e_lt, e_le, e_eq, e_lt0, e_eq0, e_b0, e_b1, e_10, e_11, true_or, or_true, false_or, nI_add, z_bi_0, z_bi_1, e_bb, z_uR_s, z_uR_k, z_uL_s, z_uL_k, true_and, and_true, and_self, not_true_eq_false, not_false_eq_true, forall_const, Option.toList, List.cons_append, List.nil_append, List.singleton_append, Nat.reduceAdd, Nat.zero_add, Nat.add_zero, Nat.reduceEqDiff, ↓reduceIte, ite_true, ite_false, reduceCtorEq, Int.cast_ofNat_Int, Int.reduceAdd, Int.reduceToNat, ne_eq, false_imp_iff, true_imp_iff, cl_161, bf_161_0, bf_161_14, bf_161_15, bf_161_17, bf_161_60, bf_161_74, bf_161_76, bf_161_88, bf_161_105, bf_161_107, bf_161_129, bf_161_142, bf_161_144, bf_161_156, bf_161_192, bf_161_193, bf_161_202, bf_161_203, bf_161_210, bf_161_211, bf_161_212, bf_161_258, bf_161_259, bf_161_260, bf_161_290, bf_161_291, bf_161_292, bf_161_317, bf_161_318, bf_161_319, bo_161_0, bo_161_14, bo_161_15, bo_161_17, bo_161_60, bo_161_74, bo_161_76, bo_161_88, bo_161_105, bo_161_107, bo_161_129, bo_161_142, bo_161_144, bo_161_156, bo_161_192, bo_161_193, bo_161_202, bo_161_203, bo_161_210, bo_161_211, bo_161_212, bo_161_258, bo_161_259, bo_161_260, bo_161_290, bo_161_291, bo_161_292, bo_161_317, bo_161_318, bo_161_319, hS, hr]
      refine ⟨fun c1 => ?_, fun c1 => ⟨fun c2 => ?_, fun c2 => ?_⟩⟩
      · exact z_f0 hm (by rw [c1]; rfl)
      · exact z_f0 hm (by rw [c2, Bool.false_and, Bool.and_false])
      rw [Bool.not_eq_false] at c1 c2
      rw [c1, c2, Bool.true_and, Bool.true_and] at hm
      have c1 := of_decide_eq_true c1
      refine k_loadOf hS hs hw2 (by omega) (by rw [hr]; exact hk.2.1) ?_
      rw [hr, hM.2.2.1.2.2.2]
      have hl := f_load_le (s := A.s) (co := nI 255) (r := r) (g := a) A.s.1.1
      simp (disch := omega) only [e_q0, e_nil, e_cons, e_q, e_qf, e_qt, e_af, z_hd, z_mk1, z_lg, z_s1, z_s2, z_kl, z_en, z_kI, z_fv, z_ic, z_c1, z_sh, z_pop, z_rc, z_tgt, z_tsw, z_lsw, z_nw, z_ac, o_kI, o_kL, o_ldi, o_ldl, o_lda, o_sti, o_sta, o_stl, o_inc, o_b2, o_bz, o_l2, o_lz, o_ls, o_lneg, o_i2l, o_l2i, o_lcmp, o_dup, o_dupx1, o_dup2, o_if, o_if2, o_ifnull, o_get, o_put, o_iald, o_zald, o_aald, o_alen, o_iast, o_zast, o_aast, o_new, o_newa, o_call, o_call1, o_callN, o_obj, o_reti, o_retl, o_ret, o_tsw, o_lsw, va_rf_s, va_rf_n, z_u2_s, z_u2_k, z_u2_f, z_uR_f, z_uL_f, e_ix, e_vp, e_lt, e_le, e_eq, e_lt0, e_eq0, e_b0, e_b1, e_10, e_11, true_or, or_true, false_or, nI_add, z_bi_0, z_bi_1, e_bb, z_uR_s, z_uR_k, z_uL_s, z_uL_k, true_and, and_true, and_self, not_true_eq_false, not_false_eq_true, forall_const, Option.toList, List.cons_append, List.nil_append, List.singleton_append, Nat.reduceAdd, Nat.zero_add, Nat.add_zero, Nat.reduceEqDiff, ↓reduceIte, ite_true, ite_false, reduceCtorEq, Int.cast_ofNat_Int, Int.reduceAdd, Int.reduceToNat, ne_eq, false_imp_iff, true_imp_iff, cl_161, bf_161_0, bf_161_14, bf_161_15, bf_161_17, bf_161_60, bf_161_74, bf_161_76, bf_161_88, bf_161_105, bf_161_107, bf_161_129, bf_161_142, bf_161_144, bf_161_156, bf_161_192, bf_161_193, bf_161_202, bf_161_203, bf_161_210, bf_161_211, bf_161_212, bf_161_258, bf_161_259, bf_161_260, bf_161_290, bf_161_291, bf_161_292, bf_161_317, bf_161_318, bf_161_319, bo_161_0, bo_161_14, bo_161_15, bo_161_17, bo_161_60, bo_161_74, bo_161_76, bo_161_88, bo_161_105, bo_161_107, bo_161_129, bo_161_142, bo_161_144, bo_161_156, bo_161_192, bo_161_193, bo_161_202, bo_161_203, bo_161_210, bo_161_211, bo_161_212, bo_161_258, bo_161_259, bo_161_260, bo_161_290, bo_161_291, bo_161_292, bo_161_317, bo_161_318, bo_161_319, hS]
      exact ⟨fun c3 => z_f1 hm (decide_eq_true c3), fun c3 => z_f0 hm (decide_eq_false c3)⟩
    · subst q
      have hm := hmi _ rfl (by simp only [f_event, Nat.reduceEqDiff, ↓reduceIte])
      simp only [f_event, Nat.reduceEqDiff, ↓reduceIte] at hm
      rw [e10, hr]
      refine ⟨fun c1 => ?_, fun c1 => ⟨fun c2 => ?_, fun c2 => ?_⟩⟩
      · exact z_f0 hm (by rw [c1]; rfl)
      · rw [Bool.not_eq_false] at c1
        exact z_f1 hm (by rw [c1, decide_eq_true c2]; rfl)
      · exact z_f0 hm (by rw [decide_eq_false c2, Bool.and_false])
  refine z_okN cz_161.1 (by rw [cl_161]; exact Nat.le_of_ble_eq_true rfl) cz_161.2 (z_run ck_161 30 bf_161_0 ?_)
  simp (disch := omega) only [e_q0, e_nil, e_cons, e_q, e_qf, e_qt, e_af, z_hd, z_mk1, z_lg, z_s1, z_s2, z_kl, z_en, z_kI, z_fv, z_ic, z_c1, z_sh, z_pop, z_rc, z_tgt, z_tsw, z_lsw, z_nw, z_ac, o_kI, o_kL, o_ldi, o_ldl, o_lda, o_sti, o_sta, o_stl, o_inc, o_b2, o_bz, o_l2, o_lz, o_ls, o_lneg, o_i2l, o_l2i, o_lcmp, o_dup, o_dupx1, o_dup2, o_if, o_if2, o_ifnull, o_get, o_put, o_iald, o_zald, o_aald, o_alen, o_iast, o_zast, o_aast, o_new, o_newa, o_call, o_call1, o_callN, o_obj, o_reti, o_retl, o_ret, o_tsw, o_lsw, va_rf_s, va_rf_n, z_u2_s, z_u2_k, z_u2_f, z_uR_f, z_uL_f, e_ix, e_vp, e_lt, e_le, e_eq, e_lt0, e_eq0, e_b0, e_b1, e_10, e_11, true_or, or_true, false_or, nI_add, z_bi_0, z_bi_1, e_bb, z_uR_s, z_uR_k, z_uL_s, z_uL_k, true_and, and_true, and_self, not_true_eq_false, not_false_eq_true, forall_const, Option.toList, List.cons_append, List.nil_append, List.singleton_append, Nat.reduceAdd, Nat.zero_add, Nat.add_zero, Nat.reduceEqDiff, ↓reduceIte, ite_true, ite_false, reduceCtorEq, Int.cast_ofNat_Int, Int.reduceAdd, Int.reduceToNat, ne_eq, false_imp_iff, true_imp_iff, cl_161, bf_161_0, bf_161_14, bf_161_15, bf_161_17, bf_161_60, bf_161_74, bf_161_76, bf_161_88, bf_161_105, bf_161_107, bf_161_129, bf_161_142, bf_161_144, bf_161_156, bf_161_192, bf_161_193, bf_161_202, bf_161_203, bf_161_210, bf_161_211, bf_161_212, bf_161_258, bf_161_259, bf_161_260, bf_161_290, bf_161_291, bf_161_292, bf_161_317, bf_161_318, bf_161_319, bo_161_0, bo_161_14, bo_161_15, bo_161_17, bo_161_60, bo_161_74, bo_161_76, bo_161_88, bo_161_105, bo_161_107, bo_161_129, bo_161_142, bo_161_144, bo_161_156, bo_161_192, bo_161_193, bo_161_202, bo_161_203, bo_161_210, bo_161_211, bo_161_212, bo_161_258, bo_161_259, bo_161_260, bo_161_290, bo_161_291, bo_161_292, bo_161_317, bo_161_318, bo_161_319, hS]
  refine ⟨fun c1 => ⟨fun c2 => key true ?_, fun c2 => key false ?_⟩, fun c1 => key false ?_⟩
  · rw [decide_eq_true ⟨c1, c2⟩] at hQ; exact hQ
  · rw [decide_eq_false (fun q => c2 q.2)] at hQ; exact hQ
  · rw [decide_eq_false (fun q => c1 q.1)] at hQ; exact hQ
theorem k_hundredThousands {n : Nat} (hn : n < 4) (hQ : Q (some (.long (lN (100000 ^ n)))) (mi, mr, ml, T)) : z_Ok l G m_Model_hundredThousands [.int (nI n)] (mi, mr, ml, T) Q := by
  refine z_okN cz_162.1 (by rw [cl_162]; exact Nat.le_of_ble_eq_true rfl) cz_162.2 (z_run ck_162 3 bf_162_0 ?_)
  simp (disch := omega) only [e_q0, e_nil, e_cons, e_q, e_qf, e_qt, e_af, z_hd, z_mk1, z_lg, z_s1, z_s2, z_kl, z_en, z_kI, z_fv, z_ic, z_c1, z_sh, z_pop, z_rc, z_tgt, z_tsw, z_lsw, z_nw, z_ac, o_kI, o_kL, o_ldi, o_ldl, o_lda, o_sti, o_sta, o_stl, o_inc, o_b2, o_bz, o_l2, o_lz, o_ls, o_lneg, o_i2l, o_l2i, o_lcmp, o_dup, o_dupx1, o_dup2, o_if, o_if2, o_ifnull, o_get, o_put, o_iald, o_zald, o_aald, o_alen, o_iast, o_zast, o_aast, o_new, o_newa, o_call, o_call1, o_callN, o_obj, o_reti, o_retl, o_ret, o_tsw, o_lsw, va_rf_s, va_rf_n, z_u2_s, z_u2_k, z_u2_f, z_uR_f, z_uL_f, e_ix, e_vp, e_lt, e_le, e_eq, e_lt0, e_eq0, e_b0, e_b1, e_10, e_11, true_or, or_true, false_or, nI_add, z_bi_0, z_bi_1, e_bb, z_uR_s, z_uR_k, z_uL_s, z_uL_k, true_and, and_true, and_self, not_true_eq_false, not_false_eq_true, forall_const, Option.toList, List.cons_append, List.nil_append, List.singleton_append, Nat.reduceAdd, Nat.zero_add, Nat.add_zero, Nat.reduceEqDiff, ↓reduceIte, ite_true, ite_false, reduceCtorEq, Int.cast_ofNat_Int, Int.reduceAdd, Int.reduceToNat, ne_eq, false_imp_iff, true_imp_iff, cl_162, bf_162_0, bf_162_4, bf_162_21, bo_162_0, bo_162_4, bo_162_21]
  refine z_for (α := Unit) (P := fun k _ => z_W l G 162 (T.2.1, T.2.2) (fun v M' => Q v M' ∧ M'.2.2.2 = T) 4 [some (.int (nI n)), some (.long (lN (100000 ^ k))), none, some (.int (nI k))] [] (mi, mr, ml, T)) n (fun _ => ?_) (fun k hk ih _ => ?_) 0 (by omega) ()
  · refine z_run ck_162 3 bf_162_4 ?_
    simp (disch := omega) only [e_q0, e_nil, e_cons, e_q, e_qf, e_qt, e_af, z_hd, z_mk1, z_lg, z_s1, z_s2, z_kl, z_en, z_kI, z_fv, z_ic, z_c1, z_sh, z_pop, z_rc, z_tgt, z_tsw, z_lsw, z_nw, z_ac, o_kI, o_kL, o_ldi, o_ldl, o_lda, o_sti, o_sta, o_stl, o_inc, o_b2, o_bz, o_l2, o_lz, o_ls, o_lneg, o_i2l, o_l2i, o_lcmp, o_dup, o_dupx1, o_dup2, o_if, o_if2, o_ifnull, o_get, o_put, o_iald, o_zald, o_aald, o_alen, o_iast, o_zast, o_aast, o_new, o_newa, o_call, o_call1, o_callN, o_obj, o_reti, o_retl, o_ret, o_tsw, o_lsw, va_rf_s, va_rf_n, z_u2_s, z_u2_k, z_u2_f, z_uR_f, z_uL_f, e_ix, e_vp, e_lt, e_le, e_eq, e_lt0, e_eq0, e_b0, e_b1, e_10, e_11, true_or, or_true, false_or, nI_add, z_bi_0, z_bi_1, e_bb, z_uR_s, z_uR_k, z_uL_s, z_uL_k, true_and, and_true, and_self, not_true_eq_false, not_false_eq_true, forall_const, Option.toList, List.cons_append, List.nil_append, List.singleton_append, Nat.reduceAdd, Nat.zero_add, Nat.add_zero, Nat.reduceEqDiff, ↓reduceIte, ite_true, ite_false, reduceCtorEq, Int.cast_ofNat_Int, Int.reduceAdd, Int.reduceToNat, ne_eq, false_imp_iff, true_imp_iff, cl_162, bf_162_0, bf_162_4, bf_162_21, bo_162_0, bo_162_4, bo_162_21, Nat.le_refl]
    exact hQ
  · have hk' := Nat.not_le.mpr hk
    have e : lN (100000 ^ k) * lN 100000 = lN (100000 ^ (k + 1)) := by rw [lN_mul, Nat.pow_succ]
    refine z_run ck_162 3 bf_162_4 ?_
    simp (disch := omega) only [e_q0, e_nil, e_cons, e_q, e_qf, e_qt, e_af, z_hd, z_mk1, z_lg, z_s1, z_s2, z_kl, z_en, z_kI, z_fv, z_ic, z_c1, z_sh, z_pop, z_rc, z_tgt, z_tsw, z_lsw, z_nw, z_ac, o_kI, o_kL, o_ldi, o_ldl, o_lda, o_sti, o_sta, o_stl, o_inc, o_b2, o_bz, o_l2, o_lz, o_ls, o_lneg, o_i2l, o_l2i, o_lcmp, o_dup, o_dupx1, o_dup2, o_if, o_if2, o_ifnull, o_get, o_put, o_iald, o_zald, o_aald, o_alen, o_iast, o_zast, o_aast, o_new, o_newa, o_call, o_call1, o_callN, o_obj, o_reti, o_retl, o_ret, o_tsw, o_lsw, va_rf_s, va_rf_n, z_u2_s, z_u2_k, z_u2_f, z_uR_f, z_uL_f, e_ix, e_vp, e_lt, e_le, e_eq, e_lt0, e_eq0, e_b0, e_b1, e_10, e_11, true_or, or_true, false_or, nI_add, z_bi_0, z_bi_1, e_bb, z_uR_s, z_uR_k, z_uL_s, z_uL_k, true_and, and_true, and_self, not_true_eq_false, not_false_eq_true, forall_const, Option.toList, List.cons_append, List.nil_append, List.singleton_append, Nat.reduceAdd, Nat.zero_add, Nat.add_zero, Nat.reduceEqDiff, ↓reduceIte, ite_true, ite_false, reduceCtorEq, Int.cast_ofNat_Int, Int.reduceAdd, Int.reduceToNat, ne_eq, false_imp_iff, true_imp_iff, cl_162, bf_162_0, bf_162_4, bf_162_21, bo_162_0, bo_162_4, bo_162_21, hk', e]
    exact ih ()
theorem k_judge {x : Int32} {y : Int64} (hS : SM T mr) (hM : PA A mi ml) (hW : WA A) (hQ : ∀ f, PA A f ml → (∀ c, c < 373 → f c = mi c) → Q (some (.int (a_judge A x y))) (f, mr, ml, T)) : z_Ok l G m_Model_judge [.ref 373, .int x, .long y] (mi, mr, ml, T) Q := by
  have hs := hM.1
  have h8 := hs.2
  unfold a_judge at hQ
  refine z_okN cz_163.1 (by rw [cl_163]; exact Nat.le_of_ble_eq_true rfl) cz_163.2 (z_run ck_163 6 bf_163_0 ?_)
  simp (disch := omega) only [e_q0, e_nil, e_cons, e_q, e_qf, e_qt, e_af, z_hd, z_mk1, z_lg, z_s1, z_s2, z_kl, z_en, z_kI, z_fv, z_ic, z_c1, z_sh, z_pop, z_rc, z_tgt, z_tsw, z_lsw, z_nw, z_ac, o_kI, o_kL, o_ldi, o_ldl, o_lda, o_sti, o_sta, o_stl, o_inc, o_b2, o_bz, o_l2, o_lz, o_ls, o_lneg, o_i2l, o_l2i, o_lcmp, o_dup, o_dupx1, o_dup2, o_if, o_if2, o_ifnull, o_get, o_put, o_iald, o_zald, o_aald, o_alen, o_iast, o_zast, o_aast, o_new, o_newa, o_call, o_call1, o_callN, o_obj, o_reti, o_retl, o_ret, o_tsw, o_lsw, va_rf_s, va_rf_n, z_u2_s, z_u2_k, z_u2_f, z_uR_f, z_uL_f, e_ix, e_vp, e_lt, e_le, e_eq, e_lt0, e_eq0, e_b0, e_b1, e_10, e_11, true_or, or_true, false_or, nI_add, z_bi_0, z_bi_1, e_bb, z_uR_s, z_uR_k, z_uL_s, z_uL_k, true_and, and_true, and_self, not_true_eq_false, not_false_eq_true, forall_const, Option.toList, List.cons_append, List.nil_append, List.singleton_append, Nat.reduceAdd, Nat.zero_add, Nat.add_zero, Nat.reduceEqDiff, ↓reduceIte, ite_true, ite_false, reduceCtorEq, Int.cast_ofNat_Int, Int.reduceAdd, Int.reduceToNat, ne_eq, false_imp_iff, true_imp_iff, cl_163, bf_163_0, bf_163_26, bf_163_29, bf_163_43, bf_163_113, bf_163_119, bo_163_0, bo_163_26, bo_163_29, bo_163_43, bo_163_113, bo_163_119, hS]
  refine k_inI (by omega) (by omega) ?_
  simp (disch := omega) only [e_q0, e_nil, e_cons, e_q, e_qf, e_qt, e_af, z_hd, z_mk1, z_lg, z_s1, z_s2, z_kl, z_en, z_kI, z_fv, z_ic, z_c1, z_sh, z_pop, z_rc, z_tgt, z_tsw, z_lsw, z_nw, z_ac, o_kI, o_kL, o_ldi, o_ldl, o_lda, o_sti, o_sta, o_stl, o_inc, o_b2, o_bz, o_l2, o_lz, o_ls, o_lneg, o_i2l, o_l2i, o_lcmp, o_dup, o_dupx1, o_dup2, o_if, o_if2, o_ifnull, o_get, o_put, o_iald, o_zald, o_aald, o_alen, o_iast, o_zast, o_aast, o_new, o_newa, o_call, o_call1, o_callN, o_obj, o_reti, o_retl, o_ret, o_tsw, o_lsw, va_rf_s, va_rf_n, z_u2_s, z_u2_k, z_u2_f, z_uR_f, z_uL_f, e_ix, e_vp, e_lt, e_le, e_eq, e_lt0, e_eq0, e_b0, e_b1, e_10, e_11, true_or, or_true, false_or, nI_add, z_bi_0, z_bi_1, e_bb, z_uR_s, z_uR_k, z_uL_s, z_uL_k, true_and, and_true, and_self, not_true_eq_false, not_false_eq_true, forall_const, Option.toList, List.cons_append, List.nil_append, List.singleton_append, Nat.reduceAdd, Nat.zero_add, Nat.add_zero, Nat.reduceEqDiff, ↓reduceIte, ite_true, ite_false, reduceCtorEq, Int.cast_ofNat_Int, Int.reduceAdd, Int.reduceToNat, ne_eq, false_imp_iff, true_imp_iff, cl_163, bf_163_0, bf_163_26, bf_163_29, bf_163_43, bf_163_113, bf_163_119, bo_163_0, bo_163_26, bo_163_29, bo_163_43, bo_163_113, bo_163_119, hS]
  refine ⟨fun c => ?_, fun c => ?_⟩
  · rw [if_neg (by rw [c]; simp)] at hQ
    exact hQ mi hM fun _ _ => rfl
  rw [Bool.not_eq_false] at c
  obtain ⟨n, hn1, hn2, rfl⟩ := f_in_t (by omega) (by omega) c
  rw [e_ix (by omega)] at hQ
  have hP : 1 ≤ 100000 ^ n ∧ 100000 ^ n ≤ 1000000000000000 := ⟨Nat.pow_pos (by omega), Nat.le_trans (Nat.pow_le_pow_right (by decide) hn2) (by decide : 100000 ^ 3 ≤ 1000000000000000)⟩
  refine k_hundredThousands (by omega) ?_
  simp (disch := omega) only [e_q0, e_nil, e_cons, e_q, e_qf, e_qt, e_af, z_hd, z_mk1, z_lg, z_s1, z_s2, z_kl, z_en, z_kI, z_fv, z_ic, z_c1, z_sh, z_pop, z_rc, z_tgt, z_tsw, z_lsw, z_nw, z_ac, o_kI, o_kL, o_ldi, o_ldl, o_lda, o_sti, o_sta, o_stl, o_inc, o_b2, o_bz, o_l2, o_lz, o_ls, o_lneg, o_i2l, o_l2i, o_lcmp, o_dup, o_dupx1, o_dup2, o_if, o_if2, o_ifnull, o_get, o_put, o_iald, o_zald, o_aald, o_alen, o_iast, o_zast, o_aast, o_new, o_newa, o_call, o_call1, o_callN, o_obj, o_reti, o_retl, o_ret, o_tsw, o_lsw, va_rf_s, va_rf_n, z_u2_s, z_u2_k, z_u2_f, z_uR_f, z_uL_f, e_ix, e_vp, e_lt, e_le, e_eq, e_lt0, e_eq0, e_b0, e_b1, e_10, e_11, true_or, or_true, false_or, nI_add, z_bi_0, z_bi_1, e_bb, z_uR_s, z_uR_k, z_uL_s, z_uL_k, true_and, and_true, and_self, not_true_eq_false, not_false_eq_true, forall_const, Option.toList, List.cons_append, List.nil_append, List.singleton_append, Nat.reduceAdd, Nat.zero_add, Nat.add_zero, Nat.reduceEqDiff, ↓reduceIte, ite_true, ite_false, reduceCtorEq, Int.cast_ofNat_Int, Int.reduceAdd, Int.reduceToNat, ne_eq, false_imp_iff, true_imp_iff, cl_163, bf_163_0, bf_163_26, bf_163_29, bf_163_43, bf_163_113, bf_163_119, bo_163_0, bo_163_26, bo_163_29, bo_163_43, bo_163_113, bo_163_119, hS]
  refine k_in ?_
  simp (disch := omega) only [e_q0, e_nil, e_cons, e_q, e_qf, e_qt, e_af, z_hd, z_mk1, z_lg, z_s1, z_s2, z_kl, z_en, z_kI, z_fv, z_ic, z_c1, z_sh, z_pop, z_rc, z_tgt, z_tsw, z_lsw, z_nw, z_ac, o_kI, o_kL, o_ldi, o_ldl, o_lda, o_sti, o_sta, o_stl, o_inc, o_b2, o_bz, o_l2, o_lz, o_ls, o_lneg, o_i2l, o_l2i, o_lcmp, o_dup, o_dupx1, o_dup2, o_if, o_if2, o_ifnull, o_get, o_put, o_iald, o_zald, o_aald, o_alen, o_iast, o_zast, o_aast, o_new, o_newa, o_call, o_call1, o_callN, o_obj, o_reti, o_retl, o_ret, o_tsw, o_lsw, va_rf_s, va_rf_n, z_u2_s, z_u2_k, z_u2_f, z_uR_f, z_uL_f, e_ix, e_vp, e_lt, e_le, e_eq, e_lt0, e_eq0, e_b0, e_b1, e_10, e_11, true_or, or_true, false_or, nI_add, z_bi_0, z_bi_1, e_bb, z_uR_s, z_uR_k, z_uL_s, z_uL_k, true_and, and_true, and_self, not_true_eq_false, not_false_eq_true, forall_const, Option.toList, List.cons_append, List.nil_append, List.singleton_append, Nat.reduceAdd, Nat.zero_add, Nat.add_zero, Nat.reduceEqDiff, ↓reduceIte, ite_true, ite_false, reduceCtorEq, Int.cast_ofNat_Int, Int.reduceAdd, Int.reduceToNat, ne_eq, false_imp_iff, true_imp_iff, cl_163, bf_163_0, bf_163_26, bf_163_29, bf_163_43, bf_163_113, bf_163_119, bo_163_0, bo_163_26, bo_163_29, bo_163_43, bo_163_113, bo_163_119, hS]
  have hcond : (decide (lN 0 ≤ y) && decide (y ≤ lN (100000 ^ n) - lN 1)) = decide (0 ≤ y.toInt ∧ y.toInt < ((100000 ^ n : Nat) : Int)) := by
    rw [Bool.eq_iff_iff]
    simp only [Bool.and_eq_true, decide_eq_true_eq, Int64.le_iff_toInt_le]
    rw [lN_sub hP.1, lN_Z (by omega), lN_Z (by omega)]
    omega
  rw [hcond]
  refine ⟨fun c2 => ?_, fun c2 => ?_⟩
  · rw [if_neg (fun q => of_decide_eq_false c2 q.2)] at hQ
    exact hQ mi hM fun _ _ => rfl
  rw [Bool.not_eq_false] at c2
  have c2 := of_decide_eq_true c2
  rw [if_pos ⟨c, c2⟩] at hQ
  obtain ⟨v, hve⟩ : ∃ v : Nat, y.toInt = (v : Int) := ⟨y.toInt.toNat, by omega⟩
  obtain rfl : y = lN v := lN_Zi (by omega) hve
  rw [hve, Int.toNat_natCast] at hQ
  have hv : v < 1000000000000000 := by omega
  refine k_copyT hS hM hW fun g hg hg2 hg3 => ?_
  simp (disch := omega) only [e_q0, e_nil, e_cons, e_q, e_qf, e_qt, e_af, z_hd, z_mk1, z_lg, z_s1, z_s2, z_kl, z_en, z_kI, z_fv, z_ic, z_c1, z_sh, z_pop, z_rc, z_tgt, z_tsw, z_lsw, z_nw, z_ac, o_kI, o_kL, o_ldi, o_ldl, o_lda, o_sti, o_sta, o_stl, o_inc, o_b2, o_bz, o_l2, o_lz, o_ls, o_lneg, o_i2l, o_l2i, o_lcmp, o_dup, o_dupx1, o_dup2, o_if, o_if2, o_ifnull, o_get, o_put, o_iald, o_zald, o_aald, o_alen, o_iast, o_zast, o_aast, o_new, o_newa, o_call, o_call1, o_callN, o_obj, o_reti, o_retl, o_ret, o_tsw, o_lsw, va_rf_s, va_rf_n, z_u2_s, z_u2_k, z_u2_f, z_uR_f, z_uL_f, e_ix, e_vp, e_lt, e_le, e_eq, e_lt0, e_eq0, e_b0, e_b1, e_10, e_11, true_or, or_true, false_or, nI_add, z_bi_0, z_bi_1, e_bb, z_uR_s, z_uR_k, z_uL_s, z_uL_k, true_and, and_true, and_self, not_true_eq_false, not_false_eq_true, forall_const, Option.toList, List.cons_append, List.nil_append, List.singleton_append, Nat.reduceAdd, Nat.zero_add, Nat.add_zero, Nat.reduceEqDiff, ↓reduceIte, ite_true, ite_false, reduceCtorEq, Int.cast_ofNat_Int, Int.reduceAdd, Int.reduceToNat, ne_eq, false_imp_iff, true_imp_iff, cl_163, bf_163_0, bf_163_26, bf_163_29, bf_163_43, bf_163_113, bf_163_119, bo_163_0, bo_163_26, bo_163_29, bo_163_43, bo_163_113, bo_163_119, hS]
  refine z_for (α := (Nat → Nat → Int32) × ZW) (P := fun k z => (PA A z.1 ml ∧ (∀ c, c < 373 → z.1 c = mi c) ∧ z.1 382 = z.2 ∧ f_rok A.s z.2 ∧ f_jdg A n v n 0 A.r = f_jdg A n v (n - k) k z.2) → z_W l G 163 (T.2.1, T.2.2) (fun v M' => Q v M' ∧ M'.2.2.2 = T) 43 [some (.ref 373), some (.int (nI n)), some (.long (lN v)), none, some (.int (nI k)), none] [] (z.1, mr, ml, T)) n (fun z hz => ?_) (fun k hk ih z hz => ?_) 0 (by omega) (g, A.r) ⟨hg, fun c hc => hg3 c (by omega), hg2, hW.2.1, rfl⟩
  · obtain ⟨f, r⟩ := z
    obtain ⟨z1, z2, z3, z4, z5⟩ := hz
    rw [Nat.sub_self] at z5
    refine z_run ck_163 6 bf_163_43 ?_
    simp (disch := omega) only [e_q0, e_nil, e_cons, e_q, e_qf, e_qt, e_af, z_hd, z_mk1, z_lg, z_s1, z_s2, z_kl, z_en, z_kI, z_fv, z_ic, z_c1, z_sh, z_pop, z_rc, z_tgt, z_tsw, z_lsw, z_nw, z_ac, o_kI, o_kL, o_ldi, o_ldl, o_lda, o_sti, o_sta, o_stl, o_inc, o_b2, o_bz, o_l2, o_lz, o_ls, o_lneg, o_i2l, o_l2i, o_lcmp, o_dup, o_dupx1, o_dup2, o_if, o_if2, o_ifnull, o_get, o_put, o_iald, o_zald, o_aald, o_alen, o_iast, o_zast, o_aast, o_new, o_newa, o_call, o_call1, o_callN, o_obj, o_reti, o_retl, o_ret, o_tsw, o_lsw, va_rf_s, va_rf_n, z_u2_s, z_u2_k, z_u2_f, z_uR_f, z_uL_f, e_ix, e_vp, e_lt, e_le, e_eq, e_lt0, e_eq0, e_b0, e_b1, e_10, e_11, true_or, or_true, false_or, nI_add, z_bi_0, z_bi_1, e_bb, z_uR_s, z_uR_k, z_uL_s, z_uL_k, true_and, and_true, and_self, not_true_eq_false, not_false_eq_true, forall_const, Option.toList, List.cons_append, List.nil_append, List.singleton_append, Nat.reduceAdd, Nat.zero_add, Nat.add_zero, Nat.reduceEqDiff, ↓reduceIte, ite_true, ite_false, reduceCtorEq, Int.cast_ofNat_Int, Int.reduceAdd, Int.reduceToNat, ne_eq, false_imp_iff, true_imp_iff, cl_163, bf_163_0, bf_163_26, bf_163_29, bf_163_43, bf_163_113, bf_163_119, bo_163_0, bo_163_26, bo_163_29, bo_163_43, bo_163_113, bo_163_119, hS, Nat.le_refl]
    exact z_fv' (hQ f z1 z2) z5.symm
  · obtain ⟨f, r⟩ := z
    obtain ⟨z1, z2, z3, z4, z5⟩ := hz
    rw [show n - k = n - (k + 1) + 1 by omega] at z5
    rw [f_jdg.eq_2] at z5
    have hk' := Nat.not_le.mpr hk
    refine z_run ck_163 6 bf_163_43 ?_
    simp (disch := omega) only [e_q0, e_nil, e_cons, e_q, e_qf, e_qt, e_af, z_hd, z_mk1, z_lg, z_s1, z_s2, z_kl, z_en, z_kI, z_fv, z_ic, z_c1, z_sh, z_pop, z_rc, z_tgt, z_tsw, z_lsw, z_nw, z_ac, o_kI, o_kL, o_ldi, o_ldl, o_lda, o_sti, o_sta, o_stl, o_inc, o_b2, o_bz, o_l2, o_lz, o_ls, o_lneg, o_i2l, o_l2i, o_lcmp, o_dup, o_dupx1, o_dup2, o_if, o_if2, o_ifnull, o_get, o_put, o_iald, o_zald, o_aald, o_alen, o_iast, o_zast, o_aast, o_new, o_newa, o_call, o_call1, o_callN, o_obj, o_reti, o_retl, o_ret, o_tsw, o_lsw, va_rf_s, va_rf_n, z_u2_s, z_u2_k, z_u2_f, z_uR_f, z_uL_f, e_ix, e_vp, e_lt, e_le, e_eq, e_lt0, e_eq0, e_b0, e_b1, e_10, e_11, true_or, or_true, false_or, nI_add, z_bi_0, z_bi_1, e_bb, z_uR_s, z_uR_k, z_uL_s, z_uL_k, true_and, and_true, and_self, not_true_eq_false, not_false_eq_true, forall_const, Option.toList, List.cons_append, List.nil_append, List.singleton_append, Nat.reduceAdd, Nat.zero_add, Nat.add_zero, Nat.reduceEqDiff, ↓reduceIte, ite_true, ite_false, reduceCtorEq, Int.cast_ofNat_Int, Int.reduceAdd, Int.reduceToNat, ne_eq, false_imp_iff, true_imp_iff, cl_163, bf_163_0, bf_163_26, bf_163_29, bf_163_43, bf_163_113, bf_163_119, bo_163_0, bo_163_26, bo_163_29, bo_163_43, bo_163_113, bo_163_119, hS, hk']
    rw [pk_sub (by omega), pk_sub (by omega)]
    refine k_hundredThousands (by omega) ?_
    simp (disch := omega) only [e_q0, e_nil, e_cons, e_q, e_qf, e_qt, e_af, z_hd, z_mk1, z_lg, z_s1, z_s2, z_kl, z_en, z_kI, z_fv, z_ic, z_c1, z_sh, z_pop, z_rc, z_tgt, z_tsw, z_lsw, z_nw, z_ac, o_kI, o_kL, o_ldi, o_ldl, o_lda, o_sti, o_sta, o_stl, o_inc, o_b2, o_bz, o_l2, o_lz, o_ls, o_lneg, o_i2l, o_l2i, o_lcmp, o_dup, o_dupx1, o_dup2, o_if, o_if2, o_ifnull, o_get, o_put, o_iald, o_zald, o_aald, o_alen, o_iast, o_zast, o_aast, o_new, o_newa, o_call, o_call1, o_callN, o_obj, o_reti, o_retl, o_ret, o_tsw, o_lsw, va_rf_s, va_rf_n, z_u2_s, z_u2_k, z_u2_f, z_uR_f, z_uL_f, e_ix, e_vp, e_lt, e_le, e_eq, e_lt0, e_eq0, e_b0, e_b1, e_10, e_11, true_or, or_true, false_or, nI_add, z_bi_0, z_bi_1, e_bb, z_uR_s, z_uR_k, z_uL_s, z_uL_k, true_and, and_true, and_self, not_true_eq_false, not_false_eq_true, forall_const, Option.toList, List.cons_append, List.nil_append, List.singleton_append, Nat.reduceAdd, Nat.zero_add, Nat.add_zero, Nat.reduceEqDiff, ↓reduceIte, ite_true, ite_false, reduceCtorEq, Int.cast_ofNat_Int, Int.reduceAdd, Int.reduceToNat, ne_eq, false_imp_iff, true_imp_iff, cl_163, bf_163_0, bf_163_26, bf_163_29, bf_163_43, bf_163_113, bf_163_119, bo_163_0, bo_163_26, bo_163_29, bo_163_43, bo_163_113, bo_163_119, hS]
    have hP2 : 1 ≤ 100000 ^ (n - 1 - k) ∧ 100000 ^ (n - 1 - k) ≤ 1000000000000000 := ⟨Nat.pow_pos (by omega), Nat.le_trans (Nat.pow_le_pow_right (by decide) (show n - 1 - k ≤ 3 by omega)) (by decide : 100000 ^ 3 ≤ 1000000000000000)⟩
    have hdl : v / 100000 ^ (n - 1 - k) ≤ v := Nat.div_le_self _ _
    refine ⟨lN_ne0 hP2.1 (by omega), lN_ne0 (by omega) (by omega), ?_⟩
    rw [lN_div (by omega) hP2.1 (by omega), z_lremN (by omega) (by omega) (by omega), lN_i]
    have hfl : v / 100000 ^ (n - 1 - k) % 100000 < 100000 := Nat.mod_lt _ (by omega)
    generalize v / 100000 ^ (n - 1 - k) % 100000 = w at z5 hfl ⊢
    rw [pk_div (by omega) (by omega) (by omega), pk_div (by omega) (by omega) (by omega), pk_div (by omega) (by omega) (by omega), pk_div (by omega) (by omega) (by omega)]
    have hz : ∀ m, m < 100000 → z_rem (nI m) (nI 10) = nI (m % 10) := fun m hm => pk_rem (by omega) (by omega) (by omega)
    rw [hz _ (by omega), hz _ (by omega), hz _ (by omega), hz _ (by omega)]
    refine k_judged (r := r) hS z1 hW z3 z4 (by omega) (by omega) (by omega) (by omega) (by omega) fun f' f1 f2 f3 => ?_
    have hrk := f_event_rok (c := w / 10000) (b := w / 100 % 10) (e := decide (w / 10 % 10 = 0 ∧ w % 10 = 0)) h8 z4 (show w / 1000 % 10 < 10 by omega)
    simp only at z5 hrk
    generalize f_event A.s (nI 255) r (w / 10000) (w / 1000 % 10) (w / 100 % 10) (decide (w / 10 % 10 = 0 ∧ w % 10 = 0)) = E at z5 f3 hrk ⊢
    simp (disch := omega) only [e_q0, e_nil, e_cons, e_q, e_qf, e_qt, e_af, z_hd, z_mk1, z_lg, z_s1, z_s2, z_kl, z_en, z_kI, z_fv, z_ic, z_c1, z_sh, z_pop, z_rc, z_tgt, z_tsw, z_lsw, z_nw, z_ac, o_kI, o_kL, o_ldi, o_ldl, o_lda, o_sti, o_sta, o_stl, o_inc, o_b2, o_bz, o_l2, o_lz, o_ls, o_lneg, o_i2l, o_l2i, o_lcmp, o_dup, o_dupx1, o_dup2, o_if, o_if2, o_ifnull, o_get, o_put, o_iald, o_zald, o_aald, o_alen, o_iast, o_zast, o_aast, o_new, o_newa, o_call, o_call1, o_callN, o_obj, o_reti, o_retl, o_ret, o_tsw, o_lsw, va_rf_s, va_rf_n, z_u2_s, z_u2_k, z_u2_f, z_uR_f, z_uL_f, e_ix, e_vp, e_lt, e_le, e_eq, e_lt0, e_eq0, e_b0, e_b1, e_10, e_11, true_or, or_true, false_or, nI_add, z_bi_0, z_bi_1, e_bb, z_uR_s, z_uR_k, z_uL_s, z_uL_k, true_and, and_true, and_self, not_true_eq_false, not_false_eq_true, forall_const, Option.toList, List.cons_append, List.nil_append, List.singleton_append, Nat.reduceAdd, Nat.zero_add, Nat.add_zero, Nat.reduceEqDiff, ↓reduceIte, ite_true, ite_false, reduceCtorEq, Int.cast_ofNat_Int, Int.reduceAdd, Int.reduceToNat, ne_eq, false_imp_iff, true_imp_iff, cl_163, bf_163_0, bf_163_26, bf_163_29, bf_163_43, bf_163_113, bf_163_119, bo_163_0, bo_163_26, bo_163_29, bo_163_43, bo_163_113, bo_163_119, hS]
    refine ⟨fun c5 => ?_, fun c5 => ?_⟩
    · rw [if_neg (by rw [c5]; decide)] at z5
      exact z_fv' (hQ f' f1 fun c hc => (f2 c hc).trans (z2 c hc)) z5.symm
    · rw [if_pos (by rw [← Bool.not_eq_false]; exact c5)] at z5
      exact ih (f', E.2) ⟨f1, fun c hc => (f2 c hc).trans (z2 c hc), f3, hrk, z5⟩
end
