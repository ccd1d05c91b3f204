/-- least and greatest load of the gateways below k -/
def f_least (s : ZS) (co : Int32) (r : ZW) : Nat → Option Nat
  | 0 => none
  | k + 1 => if s.2 0 k = 0 then (match f_least s co r k with
    | none => some (f_load s co r k s.1.1)
    | some m => some (if f_load s co r k s.1.1 < m then f_load s co r k s.1.1 else m)) else f_least s co r k
def f_most (s : ZS) (co : Int32) (r : ZW) : Nat → Nat
  | 0 => 0
  | k + 1 => if s.2 0 k = 0 then (if f_most s co r k < f_load s co r k s.1.1 then f_load s co r k s.1.1 else f_most s co r k) else f_most s co r k
def f_spread (s : ZS) (co : Int32) (r : ZW) : Int32 := nI (f_most s co r s.1.1) - z_on (f_least s co r s.1.1)
/-- the best of the offsets below k, and its spread -/
def f_even (A : ZA) (g : Nat) : Nat → Option (Nat × Int32)
  | 0 => none
  | k + 1 => match f_even A g k with
    | none => some (k, f_spread A.s (nI 255) (f_gos A.s (nI 255) 20 (f_set A.r (67 + g) (nI k))))
    | some b => if f_spread A.s (nI 255) (f_gos A.s (nI 255) 20 (f_set A.r (67 + g) (nI k))) < b.2 then some (k, f_spread A.s (nI 255) (f_gos A.s (nI 255) 20 (f_set A.r (67 + g) (nI k)))) else some b
def a_even (A : ZA) (x : Int32) : Int32 := if f_gate A.s x then z_on ((f_even A (z_ix x) 10).map Prod.fst) else z_ng 1
theorem f_most_le {s : ZS} {co : Int32} {r : ZW} : ∀ k, f_most s co r k ≤ s.1.1
  | 0 => Nat.zero_le _
  | k + 1 => by
    have := f_most_le (s := s) (co := co) (r := r) k
    have := f_load_le (s := s) (co := co) (r := r) (g := k) s.1.1
    unfold f_most
    split
    · split <;> omega
    · omega
theorem f_least_le {s : ZS} {co : Int32} {r : ZW} : ∀ k m, f_least s co r k = some m → m ≤ s.1.1
  | 0, m, h => by cases h
  | k + 1, m, h => by
    have e := f_load_le (s := s) (co := co) (r := r) (g := k) s.1.1
    unfold f_least at h
    by_cases q : s.2 0 k = 0
    · rw [if_pos q] at h
      cases q2 : f_least s co r k with
      | none => rw [q2] at h; cases h; exact e
      | some d =>
        rw [q2] at h
        have := f_least_le k d q2
        cases h
        split <;> omega
    · rw [if_neg q] at h
      exact f_least_le k m h
theorem f_rok_set {s : ZS} {r : ZW} {k : Nat} {v : Int32} (h8 : s.1.1 ≤ 8 ∧ s.1.2 ≤ 9) (h : f_rok s r) (hk : 58 ≤ k) (hk2 : k < 78) : f_rok s (f_set r k v) := by
  refine ⟨fun i hi => ?_, fun i hi => ?_, fun i hi => ?_⟩
  · have := h.1 i hi
    rw [show f_set r k v (40 + i) = r (40 + i) from if_neg (by omega), show f_set r k v (49 + i) = r (49 + i) from if_neg (by omega)]
    exact this
  · rw [show f_set r k v i = r i from if_neg (by omega)]
    exact h.2.1 i hi
  · rw [show f_set r k v i = r i from if_neg (by omega)]
    exact h.2.2 i hi
section
variable {l : Launch} {G : ZG} {mi : Nat → Nat → Int32} {mr : Nat → Nat → Option Nat} {ml : Nat → Nat → Int64} {T : (Nat → Nat × Nat) × Nat × Nat} {Q : ZR} {A : ZA}
theorem k_spread {r : ZW} (hS : SM T mr) (hM : PA A mi ml) (hr : mi 382 = r) (hk : f_rok A.s r) (hQ : Q (some (.int (f_spread A.s (nI 255) r))) (mi, mr, ml, T)) : z_Ok l G m_Model_spread [.ref 373] (mi, mr, ml, T) Q := by
  have hs := hM.1
  have hw2 : T.1 382 = (2, 78) := by rw [hS.1.2.2.2.2.2.2.2.2.2.1]
  have h8 := hs.2
  refine z_okN cz_159.1 (by rw [cl_159]; exact Nat.le_of_ble_eq_true rfl) cz_159.2 (z_run ck_159 9 bf_159_0 ?_)
  simp (disch := omega) only [e_q0, e_nil, e_cons, e_q, e_qf, e_qt, e_af, z_hd, z_mk1, z_lg, z_s1, z_s2, z_kl, z_en, z_kI, z_fv, z_ic, z_c1, z_sh, z_pop, z_rc, z_tgt, z_tsw, z_lsw, z_nw, z_ac, o_kI, o_kL, o_ldi, o_ldl, o_lda, o_sti, o_sta, o_stl, o_inc, o_b2, o_bz, o_l2, o_lz, o_ls, o_lneg, o_i2l, o_l2i, o_lcmp, o_dup, o_dupx1, o_dup2, o_if, o_if2, o_ifnull, o_get, o_put, o_iald, o_zald, o_aald, o_alen, o_iast, o_zast, o_aast, o_new, o_newa, o_call, o_call1, o_callN, o_obj, o_reti, o_retl, o_ret, o_tsw, o_lsw, va_rf_s, va_rf_n, z_u2_s, z_u2_k, z_u2_f, z_uR_f, z_uL_f, e_ix, e_vp, e_lt, e_le, e_eq, e_lt0, e_eq0, e_b0, e_b1, e_10, e_11, true_or, or_true, false_or, nI_add, z_bi_0, z_bi_1, e_bb, z_uR_s, z_uR_k, z_uL_s, z_uL_k, true_and, and_true, and_self, not_true_eq_false, not_false_eq_true, forall_const, Option.toList, List.cons_append, List.nil_append, List.singleton_append, Nat.reduceAdd, Nat.zero_add, Nat.add_zero, Nat.reduceEqDiff, ↓reduceIte, ite_true, ite_false, reduceCtorEq, Int.cast_ofNat_Int, Int.reduceAdd, Int.reduceToNat, ne_eq, false_imp_iff, true_imp_iff, cl_159, bf_159_0, bf_159_7, bf_159_46, bf_159_47, bf_159_60, bf_159_65, bf_159_66, bf_159_67, bf_159_73, bo_159_0, bo_159_7, bo_159_46, bo_159_47, bo_159_60, bo_159_65, bo_159_66, bo_159_67, bo_159_73, hS]
  refine z_for (α := Unit) (P := fun k _ => z_W l G 159 (T.2.1, T.2.2) (fun v M' => Q v M' ∧ M'.2.2.2 = T) 7 [some (.ref 373), some (.int (nI (f_most A.s (nI 255) r k))), some (.int (z_on (f_least A.s (nI 255) r k))), some (.int (nI k)), none] [] (mi, mr, ml, T)) A.s.1.1 (fun _ => ?_) (fun k hk2 ih _ => ?_) 0 (by omega) ()
  · refine z_run ck_159 9 bf_159_7 ?_
    simp (disch := omega) only [e_q0, e_nil, e_cons, e_q, e_qf, e_qt, e_af, z_hd, z_mk1, z_lg, z_s1, z_s2, z_kl, z_en, z_kI, z_fv, z_ic, z_c1, z_sh, z_pop, z_rc, z_tgt, z_tsw, z_lsw, z_nw, z_ac, o_kI, o_kL, o_ldi, o_ldl, o_lda, o_sti, o_sta, o_stl, o_inc, o_b2, o_bz, o_l2, o_lz, o_ls, o_lneg, o_i2l, o_l2i, o_lcmp, o_dup, o_dupx1, o_dup2, o_if, o_if2, o_ifnull, o_get, o_put, o_iald, o_zald, o_aald, o_alen, o_iast, o_zast, o_aast, o_new, o_newa, o_call, o_call1, o_callN, o_obj, o_reti, o_retl, o_ret, o_tsw, o_lsw, va_rf_s, va_rf_n, z_u2_s, z_u2_k, z_u2_f, z_uR_f, z_uL_f, e_ix, e_vp, e_lt, e_le, e_eq, e_lt0, e_eq0, e_b0, e_b1, e_10, e_11, true_or, or_true, false_or, nI_add, z_bi_0, z_bi_1, e_bb, z_uR_s, z_uR_k, z_uL_s, z_uL_k, true_and, and_true, and_self, not_true_eq_false, not_false_eq_true, forall_const, Option.toList, List.cons_append, List.nil_append, List.singleton_append, Nat.reduceAdd, Nat.zero_add, Nat.add_zero, Nat.reduceEqDiff, ↓reduceIte, ite_true, ite_false, reduceCtorEq, Int.cast_ofNat_Int, Int.reduceAdd, Int.reduceToNat, ne_eq, false_imp_iff, true_imp_iff, cl_159, bf_159_0, bf_159_7, bf_159_46, bf_159_47, bf_159_60, bf_159_65, bf_159_66, bf_159_67, bf_159_73, bo_159_0, bo_159_7, bo_159_46, bo_159_47, bo_159_60, bo_159_65, bo_159_66, bo_159_67, bo_159_73, hS, hs, Nat.le_refl]
    exact hQ
  · refine z_run ck_159 9 bf_159_7 ?_
    simp (disch := omega) only [e_q0, e_nil, e_cons, e_q, e_qf, e_qt, e_af, z_hd, z_mk1, z_lg, z_s1, z_s2, z_kl, z_en, z_kI, z_fv, z_ic, z_c1, z_sh, z_pop, z_rc, z_tgt, z_tsw, z_lsw, z_nw, z_ac, o_kI, o_kL, o_ldi, o_ldl, o_lda, o_sti, o_sta, o_stl, o_inc, o_b2, o_bz, o_l2, o_lz, o_ls, o_lneg, o_i2l, o_l2i, o_lcmp, o_dup, o_dupx1, o_dup2, o_if, o_if2, o_ifnull, o_get, o_put, o_iald, o_zald, o_aald, o_alen, o_iast, o_zast, o_aast, o_new, o_newa, o_call, o_call1, o_callN, o_obj, o_reti, o_retl, o_ret, o_tsw, o_lsw, va_rf_s, va_rf_n, z_u2_s, z_u2_k, z_u2_f, z_uR_f, z_uL_f, e_ix, e_vp, e_lt, e_le, e_eq, e_lt0, e_eq0, e_b0, e_b1, e_10, e_11, true_or, or_true, false_or, nI_add, z_bi_0, z_bi_1, e_bb, z_uR_s, z_uR_k, z_uL_s, z_uL_k, true_and, and_true, and_self, not_true_eq_false, not_false_eq_true, forall_const, Option.toList, List.cons_append, List.nil_append, List.singleton_append, Nat.reduceAdd, Nat.zero_add, Nat.add_zero, Nat.reduceEqDiff, ↓reduceIte, ite_true, ite_false, reduceCtorEq, Int.cast_ofNat_Int, Int.reduceAdd, Int.reduceToNat, ne_eq, false_imp_iff, true_imp_iff, cl_159, bf_159_0, bf_159_7, bf_159_46, bf_159_47, bf_159_60, bf_159_65, bf_159_66, bf_159_67, bf_159_73, bo_159_0, bo_159_7, bo_159_46, bo_159_47, bo_159_60, bo_159_65, bo_159_66, bo_159_67, bo_159_73, hS, hs, Nat.not_le.mpr, hk2]
    have ih2 := ih ()
    simp only [f_most, f_least] at ih2
    refine ⟨fun c => ?_, fun c => ?_⟩
    · rw [if_pos c, if_pos c] at ih2
      refine k_loadOf hS hs hw2 (by omega) (by rw [hr]; exact hk.2.1) ?_
      rw [hr, hM.2.2.1.2.2.2]
      have e1 := f_load_le (s := A.s) (co := nI 255) (r := r) (g := k) A.s.1.1
      have e2 := f_most_le (s := A.s) (co := nI 255) (r := r) k
      generalize f_load A.s (nI 255) r k A.s.1.1 = b at ih2 e1 ⊢
      generalize f_most A.s (nI 255) r k = a at ih2 e2 ⊢
      cases q : f_least A.s (nI 255) r k with
      | none =>
        rw [q] at ih2
        simp (disch := omega) only [e_q0, e_nil, e_cons, e_q, e_qf, e_qt, e_af, z_hd, z_mk1, z_lg, z_s1, z_s2, z_kl, z_en, z_kI, z_fv, z_ic, z_c1, z_sh, z_pop, z_rc, z_tgt, z_tsw, z_lsw, z_nw, z_ac, o_kI, o_kL, o_ldi, o_ldl, o_lda, o_sti, o_sta, o_stl, o_inc, o_b2, o_bz, o_l2, o_lz, o_ls, o_lneg, o_i2l, o_l2i, o_lcmp, o_dup, o_dupx1, o_dup2, o_if, o_if2, o_ifnull, o_get, o_put, o_iald, o_zald, o_aald, o_alen, o_iast, o_zast, o_aast, o_new, o_newa, o_call, o_call1, o_callN, o_obj, o_reti, o_retl, o_ret, o_tsw, o_lsw, va_rf_s, va_rf_n, z_u2_s, z_u2_k, z_u2_f, z_uR_f, z_uL_f, e_ix, e_vp, e_lt, e_le, e_eq, e_lt0, e_eq0, e_b0, e_b1, e_10, e_11, true_or, or_true, false_or, nI_add, z_bi_0, z_bi_1, e_bb, z_uR_s, z_uR_k, z_uL_s, z_uL_k, true_and, and_true, and_self, not_true_eq_false, not_false_eq_true, forall_const, Option.toList, List.cons_append, List.nil_append, List.singleton_append, Nat.reduceAdd, Nat.zero_add, Nat.add_zero, Nat.reduceEqDiff, ↓reduceIte, ite_true, ite_false, reduceCtorEq, Int.cast_ofNat_Int, Int.reduceAdd, Int.reduceToNat, ne_eq, false_imp_iff, true_imp_iff, cl_159, bf_159_0, bf_159_7, bf_159_46, bf_159_47, bf_159_60, bf_159_65, bf_159_66, bf_159_67, bf_159_73, bo_159_0, bo_159_7, bo_159_46, bo_159_47, bo_159_60, bo_159_65, bo_159_66, bo_159_67, bo_159_73, hS, hs, z_on]
        refine ⟨fun c2 => ?_, fun c2 => ?_⟩
        · rw [if_neg (by omega)] at ih2
          exact ih2
        · rw [if_pos (by omega)] at ih2
          exact ih2
      | some m =>
        rw [q] at ih2
        have e3 := f_least_le k m q
        have e4 : m < 1000 := by omega
        simp (disch := omega) only [e_q0, e_nil, e_cons, e_q, e_qf, e_qt, e_af, z_hd, z_mk1, z_lg, z_s1, z_s2, z_kl, z_en, z_kI, z_fv, z_ic, z_c1, z_sh, z_pop, z_rc, z_tgt, z_tsw, z_lsw, z_nw, z_ac, o_kI, o_kL, o_ldi, o_ldl, o_lda, o_sti, o_sta, o_stl, o_inc, o_b2, o_bz, o_l2, o_lz, o_ls, o_lneg, o_i2l, o_l2i, o_lcmp, o_dup, o_dupx1, o_dup2, o_if, o_if2, o_ifnull, o_get, o_put, o_iald, o_zald, o_aald, o_alen, o_iast, o_zast, o_aast, o_new, o_newa, o_call, o_call1, o_callN, o_obj, o_reti, o_retl, o_ret, o_tsw, o_lsw, va_rf_s, va_rf_n, z_u2_s, z_u2_k, z_u2_f, z_uR_f, z_uL_f, e_ix, e_vp, e_lt, e_le, e_eq, e_lt0, e_eq0, e_b0, e_b1, e_10, e_11, true_or, or_true, false_or, nI_add, z_bi_0, z_bi_1, e_bb, z_uR_s, z_uR_k, z_uL_s, z_uL_k, true_and, and_true, and_self, not_true_eq_false, not_false_eq_true, forall_const, Option.toList, List.cons_append, List.nil_append, List.singleton_append, Nat.reduceAdd, Nat.zero_add, Nat.add_zero, Nat.reduceEqDiff, ↓reduceIte, ite_true, ite_false, reduceCtorEq, Int.cast_ofNat_Int, Int.reduceAdd, Int.reduceToNat, ne_eq, false_imp_iff, true_imp_iff, cl_159, bf_159_0, bf_159_7, bf_159_46, bf_159_47, bf_159_60, bf_159_65, bf_159_66, bf_159_67, bf_159_73, bo_159_0, bo_159_7, bo_159_46, bo_159_47, bo_159_60, bo_159_65, bo_159_66, bo_159_67, bo_159_73, hS, hs, z_on, z_on_n]
        refine ⟨fun c2 => ⟨fun c3 => ?_, fun c3 => ?_⟩, fun c2 => ⟨fun c3 => ?_, fun c3 => ?_⟩⟩
        · simp only [if_neg (show ¬ a < b by omega), if_neg (show ¬ b < m by omega)] at ih2
          exact ih2
        · simp only [if_neg (show ¬ a < b by omega), if_pos (show b < m by omega)] at ih2
          exact ih2
        · simp only [if_pos (show a < b by omega), if_neg (show ¬ b < m by omega)] at ih2
          exact ih2
        · simp only [if_pos (show a < b by omega), if_pos (show b < m by omega)] at ih2
          exact ih2
    · rw [if_neg c, if_neg c] at ih2
      exact ih2
theorem k_setT {r : ZW} {k : Nat} {v : Int32} (hS : SM T mr) (hM : PA A mi ml) (hr : mi 382 = r) (hk : f_rok A.s (f_set r k v)) : PA A (z_u2 mi 382 k v) ml ∧ z_u2 mi 382 k v 382 = f_set r k v ∧ ∀ c, c ≠ 382 → z_u2 mi 382 k v c = mi c := by
  have u1 : ∀ c, c ≠ 382 → z_u2 mi 382 k v c = mi c := fun c hc => z_u2_f hc
  have u2 : z_u2 mi 382 k v 382 = f_set r k v := funext fun j => by
    by_cases q : j = k
    · rw [q, z_u2_s]; exact (if_pos rfl).symm
    · rw [z_u2_k q, hr]; exact (if_neg q).symm
  exact ⟨PM.cong hM (by simp [u1]) (fun c _ _ _ c2 _ => u1 c c2) (by rw [u1 _ (by omega)]; exact hM.2.2.1.1) (by rw [u2]; exact hk.2.2) (by rw [u1 _ (by omega)]; exact hM.2.2.1.2.2.1), u2, u1⟩
theorem f_even_0 (A : ZA) (g : Nat) : ∀ k, 0 < k → f_even A g k = none → False
  | k + 1, _, h => by
    unfold f_even at h
    split at h
    · cases h
    · split at h <;> cases h
theorem f_even_lt (A : ZA) (g : Nat) : ∀ k b, f_even A g k = some b → b.1 < k
  | 0, b, h => by cases h
  | k + 1, b, h => by
    unfold f_even at h
    cases q : f_even A g k with
    | none => rw [q] at h; cases h; exact Nat.lt_succ_self _
    | some d =>
      rw [q] at h
      have := f_even_lt A g k d q
      simp only at h
      split at h
      · cases h; exact Nat.lt_succ_self _
      · cases h; omega
def f_ev2 : Option (Nat × Int32) → Int32
  | none => nI 0
  | some b => b.2
theorem k_even {x : Int32} (hS : SM T mr) (hM : PA A mi ml) (hW : WA A) (hQ : ∀ f, PA A f ml → (∀ c, c < 373 → f c = mi c) → Q (some (.int (a_even A x))) (f, mr, ml, T)) : z_Ok l G m_Model_even [.ref 373, .int x] (mi, mr, ml, T) Q := by
  have hs := hM.1
  have h8 := hs.2
  unfold a_even at hQ
  refine z_okN cz_160.1 (by rw [cl_160]; exact Nat.le_of_ble_eq_true rfl) cz_160.2 (z_run ck_160 6 bf_160_0 ?_)
  simp (disch := omega) only [e_q0, e_nil, e_cons, e_q, e_qf, e_qt, e_af, z_hd, z_mk1, z_lg, z_s1, z_s2, z_kl, z_en, z_kI, z_fv, z_ic, z_c1, z_sh, z_pop, z_rc, z_tgt, z_tsw, z_lsw, z_nw, z_ac, o_kI, o_kL, o_ldi, o_ldl, o_lda, o_sti, o_sta, o_stl, o_inc, o_b2, o_bz, o_l2, o_lz, o_ls, o_lneg, o_i2l, o_l2i, o_lcmp, o_dup, o_dupx1, o_dup2, o_if, o_if2, o_ifnull, o_get, o_put, o_iald, o_zald, o_aald, o_alen, o_iast, o_zast, o_aast, o_new, o_newa, o_call, o_call1, o_callN, o_obj, o_reti, o_retl, o_ret, o_tsw, o_lsw, va_rf_s, va_rf_n, z_u2_s, z_u2_k, z_u2_f, z_uR_f, z_uL_f, e_ix, e_vp, e_lt, e_le, e_eq, e_lt0, e_eq0, e_b0, e_b1, e_10, e_11, true_or, or_true, false_or, nI_add, z_bi_0, z_bi_1, e_bb, z_uR_s, z_uR_k, z_uL_s, z_uL_k, true_and, and_true, and_self, not_true_eq_false, not_false_eq_true, forall_const, Option.toList, List.cons_append, List.nil_append, List.singleton_append, Nat.reduceAdd, Nat.zero_add, Nat.add_zero, Nat.reduceEqDiff, ↓reduceIte, ite_true, ite_false, reduceCtorEq, Int.cast_ofNat_Int, Int.reduceAdd, Int.reduceToNat, ne_eq, false_imp_iff, true_imp_iff, cl_160, bf_160_0, bf_160_10, bf_160_18, bf_160_71, bf_160_77, bf_160_83, bo_160_0, bo_160_10, bo_160_18, bo_160_71, bo_160_77, bo_160_83, hS]
  refine k_isGateway hS hs ?_
  simp (disch := omega) only [e_q0, e_nil, e_cons, e_q, e_qf, e_qt, e_af, z_hd, z_mk1, z_lg, z_s1, z_s2, z_kl, z_en, z_kI, z_fv, z_ic, z_c1, z_sh, z_pop, z_rc, z_tgt, z_tsw, z_lsw, z_nw, z_ac, o_kI, o_kL, o_ldi, o_ldl, o_lda, o_sti, o_sta, o_stl, o_inc, o_b2, o_bz, o_l2, o_lz, o_ls, o_lneg, o_i2l, o_l2i, o_lcmp, o_dup, o_dupx1, o_dup2, o_if, o_if2, o_ifnull, o_get, o_put, o_iald, o_zald, o_aald, o_alen, o_iast, o_zast, o_aast, o_new, o_newa, o_call, o_call1, o_callN, o_obj, o_reti, o_retl, o_ret, o_tsw, o_lsw, va_rf_s, va_rf_n, z_u2_s, z_u2_k, z_u2_f, z_uR_f, z_uL_f, e_ix, e_vp, e_lt, e_le, e_eq, e_lt0, e_eq0, e_b0, e_b1, e_10, e_11, true_or, or_true, false_or, nI_add, z_bi_0, z_bi_1, e_bb, z_uR_s, z_uR_k, z_uL_s, z_uL_k, true_and, and_true, and_self, not_true_eq_false, not_false_eq_true, forall_const, Option.toList, List.cons_append, List.nil_append, List.singleton_append, Nat.reduceAdd, Nat.zero_add, Nat.add_zero, Nat.reduceEqDiff, ↓reduceIte, ite_true, ite_false, reduceCtorEq, Int.cast_ofNat_Int, Int.reduceAdd, Int.reduceToNat, ne_eq, false_imp_iff, true_imp_iff, cl_160, bf_160_0, bf_160_10, bf_160_18, bf_160_71, bf_160_77, bf_160_83, bo_160_0, bo_160_10, bo_160_18, bo_160_71, bo_160_77, bo_160_83, hS]
  refine ⟨fun c => ?_, fun c => ?_⟩
  · rw [c] at hQ
    exact hQ _ hM fun _ _ => rfl
  rw [Bool.not_eq_false] at c
  rw [c] at hQ
  obtain ⟨n, hn, rfl, hn2⟩ := f_gate_t (by omega) c
  rw [e_ix (by omega)] at hQ
  refine z_for (P := fun k f => (PA A f ml ∧ ∀ c, c < 373 → f c = mi c) → z_W l G 160 (T.2.1, T.2.2) (fun v M' => Q v M' ∧ M'.2.2.2 = T) 18 [some (.ref 373), some (.int (nI n)), some (.int (z_on ((f_even A n k).map Prod.fst))), some (.int (f_ev2 (f_even A n k))), some (.int (nI k)), none] [] (f, mr, ml, T)) 10 (fun f hf => ?_) (fun k hk ih f hf => ?_) 0 (by omega) mi ⟨hM, fun _ _ => rfl⟩
  · refine z_run ck_160 6 bf_160_18 ?_
    simp (disch := omega) only [e_q0, e_nil, e_cons, e_q, e_qf, e_qt, e_af, z_hd, z_mk1, z_lg, z_s1, z_s2, z_kl, z_en, z_kI, z_fv, z_ic, z_c1, z_sh, z_pop, z_rc, z_tgt, z_tsw, z_lsw, z_nw, z_ac, o_kI, o_kL, o_ldi, o_ldl, o_lda, o_sti, o_sta, o_stl, o_inc, o_b2, o_bz, o_l2, o_lz, o_ls, o_lneg, o_i2l, o_l2i, o_lcmp, o_dup, o_dupx1, o_dup2, o_if, o_if2, o_ifnull, o_get, o_put, o_iald, o_zald, o_aald, o_alen, o_iast, o_zast, o_aast, o_new, o_newa, o_call, o_call1, o_callN, o_obj, o_reti, o_retl, o_ret, o_tsw, o_lsw, va_rf_s, va_rf_n, z_u2_s, z_u2_k, z_u2_f, z_uR_f, z_uL_f, e_ix, e_vp, e_lt, e_le, e_eq, e_lt0, e_eq0, e_b0, e_b1, e_10, e_11, true_or, or_true, false_or, nI_add, z_bi_0, z_bi_1, e_bb, z_uR_s, z_uR_k, z_uL_s, z_uL_k, true_and, and_true, and_self, not_true_eq_false, not_false_eq_true, forall_const, Option.toList, List.cons_append, List.nil_append, List.singleton_append, Nat.reduceAdd, Nat.zero_add, Nat.add_zero, Nat.reduceEqDiff, ↓reduceIte, ite_true, ite_false, reduceCtorEq, Int.cast_ofNat_Int, Int.reduceAdd, Int.reduceToNat, ne_eq, false_imp_iff, true_imp_iff, cl_160, bf_160_0, bf_160_10, bf_160_18, bf_160_71, bf_160_77, bf_160_83, bo_160_0, bo_160_10, bo_160_18, bo_160_71, bo_160_77, bo_160_83, hS, Nat.le_refl]
    exact hQ f hf.1 hf.2
  · refine z_run ck_160 6 bf_160_18 ?_
    simp (disch := omega) only [e_q0, e_nil, e_cons, e_q, e_qf, e_qt, e_af, z_hd, z_mk1, z_lg, z_s1, z_s2, z_kl, z_en, z_kI, z_fv, z_ic, z_c1, z_sh, z_pop, z_rc, z_tgt, z_tsw, z_lsw, z_nw, z_ac, o_kI, o_kL, o_ldi, o_ldl, o_lda, o_sti, o_sta, o_stl, o_inc, o_b2, o_bz, o_l2, o_lz, o_ls, o_lneg, o_i2l, o_l2i, o_lcmp, o_dup, o_dupx1, o_dup2, o_if, o_if2, o_ifnull, o_get, o_put, o_iald, o_zald, o_aald, o_alen, o_iast, o_zast, o_aast, o_new, o_newa, o_call, o_call1, o_callN, o_obj, o_reti, o_retl, o_ret, o_tsw, o_lsw, va_rf_s, va_rf_n, z_u2_s, z_u2_k, z_u2_f, z_uR_f, z_uL_f, e_ix, e_vp, e_lt, e_le, e_eq, e_lt0, e_eq0, e_b0, e_b1, e_10, e_11, true_or, or_true, false_or, nI_add, z_bi_0, z_bi_1, e_bb, z_uR_s, z_uR_k, z_uL_s, z_uL_k, true_and, and_true, and_self, not_true_eq_false, not_false_eq_true, forall_const, Option.toList, List.cons_append, List.nil_append, List.singleton_append, Nat.reduceAdd, Nat.zero_add, Nat.add_zero, Nat.reduceEqDiff, ↓reduceIte, ite_true, ite_false, reduceCtorEq, Int.cast_ofNat_Int, Int.reduceAdd, Int.reduceToNat, ne_eq, false_imp_iff, true_imp_iff, cl_160, bf_160_0, bf_160_10, bf_160_18, bf_160_71, bf_160_77, bf_160_83, bo_160_0, bo_160_10, bo_160_18, bo_160_71, bo_160_77, bo_160_83, hS, Nat.not_le.mpr, hk]
    refine k_copyT hS hf.1 hW fun g g1 g2 g3 => ?_
    have hrk := f_rok_set (k := 67 + n) (v := nI k) h8 hW.2.1 (by omega) (by omega)
    obtain ⟨u1, u2, u3⟩ := k_setT (k := 67 + n) (v := nI k) hS g1 g2 hrk
    simp (disch := omega) only [e_q0, e_nil, e_cons, e_q, e_qf, e_qt, e_af, z_hd, z_mk1, z_lg, z_s1, z_s2, z_kl, z_en, z_kI, z_fv, z_ic, z_c1, z_sh, z_pop, z_rc, z_tgt, z_tsw, z_lsw, z_nw, z_ac, o_kI, o_kL, o_ldi, o_ldl, o_lda, o_sti, o_sta, o_stl, o_inc, o_b2, o_bz, o_l2, o_lz, o_ls, o_lneg, o_i2l, o_l2i, o_lcmp, o_dup, o_dupx1, o_dup2, o_if, o_if2, o_ifnull, o_get, o_put, o_iald, o_zald, o_aald, o_alen, o_iast, o_zast, o_aast, o_new, o_newa, o_call, o_call1, o_callN, o_obj, o_reti, o_retl, o_ret, o_tsw, o_lsw, va_rf_s, va_rf_n, z_u2_s, z_u2_k, z_u2_f, z_uR_f, z_uL_f, e_ix, e_vp, e_lt, e_le, e_eq, e_lt0, e_eq0, e_b0, e_b1, e_10, e_11, true_or, or_true, false_or, nI_add, z_bi_0, z_bi_1, e_bb, z_uR_s, z_uR_k, z_uL_s, z_uL_k, true_and, and_true, and_self, not_true_eq_false, not_false_eq_true, forall_const, Option.toList, List.cons_append, List.nil_append, List.singleton_append, Nat.reduceAdd, Nat.zero_add, Nat.add_zero, Nat.reduceEqDiff, ↓reduceIte, ite_true, ite_false, reduceCtorEq, Int.cast_ofNat_Int, Int.reduceAdd, Int.reduceToNat, ne_eq, false_imp_iff, true_imp_iff, cl_160, bf_160_0, bf_160_10, bf_160_18, bf_160_71, bf_160_77, bf_160_83, bo_160_0, bo_160_10, bo_160_18, bo_160_71, bo_160_77, bo_160_83, hS]
    refine k_tryT hS u1 hW.1 (by omega) u2 hrk fun w w1 w2 w3 => ?_
    simp (disch := omega) only [e_q0, e_nil, e_cons, e_q, e_qf, e_qt, e_af, z_hd, z_mk1, z_lg, z_s1, z_s2, z_kl, z_en, z_kI, z_fv, z_ic, z_c1, z_sh, z_pop, z_rc, z_tgt, z_tsw, z_lsw, z_nw, z_ac, o_kI, o_kL, o_ldi, o_ldl, o_lda, o_sti, o_sta, o_stl, o_inc, o_b2, o_bz, o_l2, o_lz, o_ls, o_lneg, o_i2l, o_l2i, o_lcmp, o_dup, o_dupx1, o_dup2, o_if, o_if2, o_ifnull, o_get, o_put, o_iald, o_zald, o_aald, o_alen, o_iast, o_zast, o_aast, o_new, o_newa, o_call, o_call1, o_callN, o_obj, o_reti, o_retl, o_ret, o_tsw, o_lsw, va_rf_s, va_rf_n, z_u2_s, z_u2_k, z_u2_f, z_uR_f, z_uL_f, e_ix, e_vp, e_lt, e_le, e_eq, e_lt0, e_eq0, e_b0, e_b1, e_10, e_11, true_or, or_true, false_or, nI_add, z_bi_0, z_bi_1, e_bb, z_uR_s, z_uR_k, z_uL_s, z_uL_k, true_and, and_true, and_self, not_true_eq_false, not_false_eq_true, forall_const, Option.toList, List.cons_append, List.nil_append, List.singleton_append, Nat.reduceAdd, Nat.zero_add, Nat.add_zero, Nat.reduceEqDiff, ↓reduceIte, ite_true, ite_false, reduceCtorEq, Int.cast_ofNat_Int, Int.reduceAdd, Int.reduceToNat, ne_eq, false_imp_iff, true_imp_iff, cl_160, bf_160_0, bf_160_10, bf_160_18, bf_160_71, bf_160_77, bf_160_83, bo_160_0, bo_160_10, bo_160_18, bo_160_71, bo_160_77, bo_160_83, hS]
    refine k_spread hS w1 w2 (f_gos_rok h8 _ _ hrk) ?_
    have ih2 := ih w ⟨w1, fun c hc => by rw [w3 _ (by omega) (by omega), u3 _ (by omega), g3 _ (by omega), hf.2 c hc]⟩
    simp only [f_even] at ih2
    generalize f_spread A.s (nI 255) (f_gos A.s (nI 255) 20 (f_set A.r (67 + n) (nI k))) = is at ih2 ⊢
    cases q : f_even A n k with
    | none =>
      rw [q] at ih2
      simp (disch := omega) only [e_q0, e_nil, e_cons, e_q, e_qf, e_qt, e_af, z_hd, z_mk1, z_lg, z_s1, z_s2, z_kl, z_en, z_kI, z_fv, z_ic, z_c1, z_sh, z_pop, z_rc, z_tgt, z_tsw, z_lsw, z_nw, z_ac, o_kI, o_kL, o_ldi, o_ldl, o_lda, o_sti, o_sta, o_stl, o_inc, o_b2, o_bz, o_l2, o_lz, o_ls, o_lneg, o_i2l, o_l2i, o_lcmp, o_dup, o_dupx1, o_dup2, o_if, o_if2, o_ifnull, o_get, o_put, o_iald, o_zald, o_aald, o_alen, o_iast, o_zast, o_aast, o_new, o_newa, o_call, o_call1, o_callN, o_obj, o_reti, o_retl, o_ret, o_tsw, o_lsw, va_rf_s, va_rf_n, z_u2_s, z_u2_k, z_u2_f, z_uR_f, z_uL_f, e_ix, e_vp, e_lt, e_le, e_eq, e_lt0, e_eq0, e_b0, e_b1, e_10, e_11, true_or, or_true, false_or, nI_add, z_bi_0, z_bi_1, e_bb, z_uR_s, z_uR_k, z_uL_s, z_uL_k, true_and, and_true, and_self, not_true_eq_false, not_false_eq_true, forall_const, Option.toList, List.cons_append, List.nil_append, List.singleton_append, Nat.reduceAdd, Nat.zero_add, Nat.add_zero, Nat.reduceEqDiff, ↓reduceIte, ite_true, ite_false, reduceCtorEq, Int.cast_ofNat_Int, Int.reduceAdd, Int.reduceToNat, ne_eq, false_imp_iff, true_imp_iff, cl_160, bf_160_0, bf_160_10, bf_160_18, bf_160_71, bf_160_77, bf_160_83, bo_160_0, bo_160_10, bo_160_18, bo_160_71, bo_160_77, bo_160_83, hS, f_ev2, z_on, Option.map]
      exact ih2
    | some b =>
      rw [q] at ih2
      have e4 : b.1 < 1000 := by have := f_even_lt A n k b q; omega
      simp (disch := omega) only [e_q0, e_nil, e_cons, e_q, e_qf, e_qt, e_af, z_hd, z_mk1, z_lg, z_s1, z_s2, z_kl, z_en, z_kI, z_fv, z_ic, z_c1, z_sh, z_pop, z_rc, z_tgt, z_tsw, z_lsw, z_nw, z_ac, o_kI, o_kL, o_ldi, o_ldl, o_lda, o_sti, o_sta, o_stl, o_inc, o_b2, o_bz, o_l2, o_lz, o_ls, o_lneg, o_i2l, o_l2i, o_lcmp, o_dup, o_dupx1, o_dup2, o_if, o_if2, o_ifnull, o_get, o_put, o_iald, o_zald, o_aald, o_alen, o_iast, o_zast, o_aast, o_new, o_newa, o_call, o_call1, o_callN, o_obj, o_reti, o_retl, o_ret, o_tsw, o_lsw, va_rf_s, va_rf_n, z_u2_s, z_u2_k, z_u2_f, z_uR_f, z_uL_f, e_ix, e_vp, e_lt, e_le, e_eq, e_lt0, e_eq0, e_b0, e_b1, e_10, e_11, true_or, or_true, false_or, nI_add, z_bi_0, z_bi_1, e_bb, z_uR_s, z_uR_k, z_uL_s, z_uL_k, true_and, and_true, and_self, not_true_eq_false, not_false_eq_true, forall_const, Option.toList, List.cons_append, List.nil_append, List.singleton_append, Nat.reduceAdd, Nat.zero_add, Nat.add_zero, Nat.reduceEqDiff, ↓reduceIte, ite_true, ite_false, reduceCtorEq, Int.cast_ofNat_Int, Int.reduceAdd, Int.reduceToNat, ne_eq, false_imp_iff, true_imp_iff, cl_160, bf_160_0, bf_160_10, bf_160_18, bf_160_71, bf_160_77, bf_160_83, bo_160_0, bo_160_10, bo_160_18, bo_160_71, bo_160_77, bo_160_83, hS, f_ev2, z_on, Option.map, z_on_n]
      refine ⟨fun c2 => ?_, fun c2 => ?_⟩
      · simp only [if_neg (Int32.not_lt.mpr c2)] at ih2
        exact ih2
      · simp only [if_pos (Int32.not_le.mp c2)] at ih2
        exact ih2
def f_may (A : ZA) (k : Nat) : Nat → Bool
  | 0 => decide (A.r (58 + k) = 0)
  | j + 1 => f_may A k j && a_isSo A k j
def f_which (A : ZA) : Nat → Int32
  | 0 => nI 0
  | k + 1 => f_which A k ||| (if f_may A k A.o = true then z_shl (nI 1) (nI k) else nI 0)
def a_which (A : ZA) : Int32 := f_which A A.s.1.2
theorem k_which (hS : SM T mr) (hM : PA A mi ml) (hW : WA A) (hn : ∀ j, j < A.o → ∃ m, m ≤ 20 ∧ A.O 1 j = nI m) (hQ : ∀ f, PA A f ml → (∀ c, c < 373 → f c = mi c) → Q (some (.int (a_which A))) (f, mr, ml, T)) : z_Ok l G m_Model_which [.ref 373] (mi, mr, ml, T) Q := by
  have hs := hM.1
  have h8 := hs.2
  have ho : A.o ≤ 6 := hM.2.2.2.2.2.1.2.1
  refine z_okN cz_167.1 (by rw [cl_167]; exact Nat.le_of_ble_eq_true rfl) cz_167.2 (z_run ck_167 10 bf_167_0 ?_)
  simp (disch := omega) only [e_q0, e_nil, e_cons, e_q, e_qf, e_qt, e_af, z_hd, z_mk1, z_lg, z_s1, z_s2, z_kl, z_en, z_kI, z_fv, z_ic, z_c1, z_sh, z_pop, z_rc, z_tgt, z_tsw, z_lsw, z_nw, z_ac, o_kI, o_kL, o_ldi, o_ldl, o_lda, o_sti, o_sta, o_stl, o_inc, o_b2, o_bz, o_l2, o_lz, o_ls, o_lneg, o_i2l, o_l2i, o_lcmp, o_dup, o_dupx1, o_dup2, o_if, o_if2, o_ifnull, o_get, o_put, o_iald, o_zald, o_aald, o_alen, o_iast, o_zast, o_aast, o_new, o_newa, o_call, o_call1, o_callN, o_obj, o_reti, o_retl, o_ret, o_tsw, o_lsw, va_rf_s, va_rf_n, z_u2_s, z_u2_k, z_u2_f, z_uR_f, z_uL_f, e_ix, e_vp, e_lt, e_le, e_eq, e_lt0, e_eq0, e_b0, e_b1, e_10, e_11, true_or, or_true, false_or, nI_add, z_bi_0, z_bi_1, e_bb, z_uR_s, z_uR_k, z_uL_s, z_uL_k, true_and, and_true, and_self, not_true_eq_false, not_false_eq_true, forall_const, Option.toList, List.cons_append, List.nil_append, List.singleton_append, Nat.reduceAdd, Nat.zero_add, Nat.add_zero, Nat.reduceEqDiff, ↓reduceIte, ite_true, ite_false, reduceCtorEq, Int.cast_ofNat_Int, Int.reduceAdd, Int.reduceToNat, ne_eq, false_imp_iff, true_imp_iff, cl_167, bf_167_0, bf_167_4, bf_167_28, bf_167_29, bf_167_33, bf_167_60, bf_167_61, bf_167_68, bf_167_79, bf_167_80, bf_167_88, bo_167_0, bo_167_4, bo_167_28, bo_167_29, bo_167_33, bo_167_60, bo_167_61, bo_167_68, bo_167_79, bo_167_80, bo_167_88, hS]
  refine z_for (P := fun k f => (PA A f ml ∧ ∀ c, c < 373 → f c = mi c) → z_W l G 167 (T.2.1, T.2.2) (fun v M' => Q v M' ∧ M'.2.2.2 = T) 4 [some (.ref 373), some (.int (f_which A k)), some (.int (nI k)), none, none] [] (f, mr, ml, T)) A.s.1.2 (fun f hf => ?_) (fun k hk ih f hf => ?_) 0 (by omega) mi ⟨hM, fun _ _ => rfl⟩
  · refine z_run ck_167 10 bf_167_4 ?_
    simp (disch := omega) only [e_q0, e_nil, e_cons, e_q, e_qf, e_qt, e_af, z_hd, z_mk1, z_lg, z_s1, z_s2, z_kl, z_en, z_kI, z_fv, z_ic, z_c1, z_sh, z_pop, z_rc, z_tgt, z_tsw, z_lsw, z_nw, z_ac, o_kI, o_kL, o_ldi, o_ldl, o_lda, o_sti, o_sta, o_stl, o_inc, o_b2, o_bz, o_l2, o_lz, o_ls, o_lneg, o_i2l, o_l2i, o_lcmp, o_dup, o_dupx1, o_dup2, o_if, o_if2, o_ifnull, o_get, o_put, o_iald, o_zald, o_aald, o_alen, o_iast, o_zast, o_aast, o_new, o_newa, o_call, o_call1, o_callN, o_obj, o_reti, o_retl, o_ret, o_tsw, o_lsw, va_rf_s, va_rf_n, z_u2_s, z_u2_k, z_u2_f, z_uR_f, z_uL_f, e_ix, e_vp, e_lt, e_le, e_eq, e_lt0, e_eq0, e_b0, e_b1, e_10, e_11, true_or, or_true, false_or, nI_add, z_bi_0, z_bi_1, e_bb, z_uR_s, z_uR_k, z_uL_s, z_uL_k, true_and, and_true, and_self, not_true_eq_false, not_false_eq_true, forall_const, Option.toList, List.cons_append, List.nil_append, List.singleton_append, Nat.reduceAdd, Nat.zero_add, Nat.add_zero, Nat.reduceEqDiff, ↓reduceIte, ite_true, ite_false, reduceCtorEq, Int.cast_ofNat_Int, Int.reduceAdd, Int.reduceToNat, ne_eq, false_imp_iff, true_imp_iff, cl_167, bf_167_0, bf_167_4, bf_167_28, bf_167_29, bf_167_33, bf_167_60, bf_167_61, bf_167_68, bf_167_79, bf_167_80, bf_167_88, bo_167_0, bo_167_4, bo_167_28, bo_167_29, bo_167_33, bo_167_60, bo_167_61, bo_167_68, bo_167_79, bo_167_80, bo_167_88, hS, hf.1.1, Nat.le_refl]
    exact hQ f hf.1 hf.2
  · have er : f 381 = A.r := hf.1.2.2.1.1
    have l2 : ∀ f, (PA A f ml ∧ ∀ c, c < 373 → f c = mi c) → z_W l G 167 (T.2.1, T.2.2) (fun v M' => Q v M' ∧ M'.2.2.2 = T) 33 [some (.ref 373), some (.int (f_which A k)), some (.int (nI k)), some (.int (z_bi (f_may A k 0))), some (.int (nI 0))] [] (f, mr, ml, T) := by
      intro f hf
      refine z_for (P := fun j f => (PA A f ml ∧ ∀ c, c < 373 → f c = mi c) → z_W l G 167 (T.2.1, T.2.2) (fun v M' => Q v M' ∧ M'.2.2.2 = T) 33 [some (.ref 373), some (.int (f_which A k)), some (.int (nI k)), some (.int (z_bi (f_may A k j))), some (.int (nI j))] [] (f, mr, ml, T)) A.o (fun f hf => ?_) (fun j hj ih2 f hf => ?_) 0 (by omega) f hf
      · have eo : f 373 21 = nI A.o := hf.1.2.2.2.2.2.1.1
        have ih3 := ih f hf
        simp only [f_which] at ih3
        refine z_run ck_167 10 bf_167_33 ?_
        simp (disch := omega) only [e_q0, e_nil, e_cons, e_q, e_qf, e_qt, e_af, z_hd, z_mk1, z_lg, z_s1, z_s2, z_kl, z_en, z_kI, z_fv, z_ic, z_c1, z_sh, z_pop, z_rc, z_tgt, z_tsw, z_lsw, z_nw, z_ac, o_kI, o_kL, o_ldi, o_ldl, o_lda, o_sti, o_sta, o_stl, o_inc, o_b2, o_bz, o_l2, o_lz, o_ls, o_lneg, o_i2l, o_l2i, o_lcmp, o_dup, o_dupx1, o_dup2, o_if, o_if2, o_ifnull, o_get, o_put, o_iald, o_zald, o_aald, o_alen, o_iast, o_zast, o_aast, o_new, o_newa, o_call, o_call1, o_callN, o_obj, o_reti, o_retl, o_ret, o_tsw, o_lsw, va_rf_s, va_rf_n, z_u2_s, z_u2_k, z_u2_f, z_uR_f, z_uL_f, e_ix, e_vp, e_lt, e_le, e_eq, e_lt0, e_eq0, e_b0, e_b1, e_10, e_11, true_or, or_true, false_or, nI_add, z_bi_0, z_bi_1, e_bb, z_uR_s, z_uR_k, z_uL_s, z_uL_k, true_and, and_true, and_self, not_true_eq_false, not_false_eq_true, forall_const, Option.toList, List.cons_append, List.nil_append, List.singleton_append, Nat.reduceAdd, Nat.zero_add, Nat.add_zero, Nat.reduceEqDiff, ↓reduceIte, ite_true, ite_false, reduceCtorEq, Int.cast_ofNat_Int, Int.reduceAdd, Int.reduceToNat, ne_eq, false_imp_iff, true_imp_iff, cl_167, bf_167_0, bf_167_4, bf_167_28, bf_167_29, bf_167_33, bf_167_60, bf_167_61, bf_167_68, bf_167_79, bf_167_80, bf_167_88, bo_167_0, bo_167_4, bo_167_28, bo_167_29, bo_167_33, bo_167_60, bo_167_61, bo_167_68, bo_167_79, bo_167_80, bo_167_88, hS, eo, Nat.le_refl]
        refine ⟨fun c => ?_, fun c => ?_⟩
        · rw [if_neg (by rw [c]; decide)] at ih3
          exact ih3
        · rw [if_pos (by rw [← Bool.not_eq_false]; exact c)] at ih3
          exact ih3
      · have eo : f 373 21 = nI A.o := hf.1.2.2.2.2.2.1.1
        refine z_run ck_167 10 bf_167_33 ?_
        simp (disch := omega) only [e_q0, e_nil, e_cons, e_q, e_qf, e_qt, e_af, z_hd, z_mk1, z_lg, z_s1, z_s2, z_kl, z_en, z_kI, z_fv, z_ic, z_c1, z_sh, z_pop, z_rc, z_tgt, z_tsw, z_lsw, z_nw, z_ac, o_kI, o_kL, o_ldi, o_ldl, o_lda, o_sti, o_sta, o_stl, o_inc, o_b2, o_bz, o_l2, o_lz, o_ls, o_lneg, o_i2l, o_l2i, o_lcmp, o_dup, o_dupx1, o_dup2, o_if, o_if2, o_ifnull, o_get, o_put, o_iald, o_zald, o_aald, o_alen, o_iast, o_zast, o_aast, o_new, o_newa, o_call, o_call1, o_callN, o_obj, o_reti, o_retl, o_ret, o_tsw, o_lsw, va_rf_s, va_rf_n, z_u2_s, z_u2_k, z_u2_f, z_uR_f, z_uL_f, e_ix, e_vp, e_lt, e_le, e_eq, e_lt0, e_eq0, e_b0, e_b1, e_10, e_11, true_or, or_true, false_or, nI_add, z_bi_0, z_bi_1, e_bb, z_uR_s, z_uR_k, z_uL_s, z_uL_k, true_and, and_true, and_self, not_true_eq_false, not_false_eq_true, forall_const, Option.toList, List.cons_append, List.nil_append, List.singleton_append, Nat.reduceAdd, Nat.zero_add, Nat.add_zero, Nat.reduceEqDiff, ↓reduceIte, ite_true, ite_false, reduceCtorEq, Int.cast_ofNat_Int, Int.reduceAdd, Int.reduceToNat, ne_eq, false_imp_iff, true_imp_iff, cl_167, bf_167_0, bf_167_4, bf_167_28, bf_167_29, bf_167_33, bf_167_60, bf_167_61, bf_167_68, bf_167_79, bf_167_80, bf_167_88, bo_167_0, bo_167_4, bo_167_28, bo_167_29, bo_167_33, bo_167_60, bo_167_61, bo_167_68, bo_167_79, bo_167_80, bo_167_88, hS, eo, Nat.not_le.mpr, hj]
        have ih3 : ∀ w b, (PA A w ml ∧ ∀ c, c < 373 → w c = mi c) → b = f_may A k (j + 1) → z_W l G 167 (T.2.1, T.2.2) (fun v M' => Q v M' ∧ M'.2.2.2 = T) 33 [some (.ref 373), some (.int (f_which A k)), some (.int (nI k)), some (.int (z_bi b)), some (.int (nI (j + 1)))] [] (w, mr, ml, T) := fun w b hw hb => by rw [hb]; exact ih2 w hw
        simp only [f_may] at ih3
        refine ⟨fun c => ?_, fun c => ?_⟩
        · exact ih3 f false hf (by rw [c]; rfl)
        · rw [Bool.not_eq_false] at c
          refine k_isSoBy hS hf.1 hW hk hj (hn j hj) fun w w1 w2 => ?_
          have ih4 := fun b => ih3 w b ⟨w1, fun c hc => (w2 c hc).trans (hf.2 c hc)⟩
          rw [c] at ih4
          generalize a_isSo A k j = b at ih4 ⊢
          simp (disch := omega) only [e_q0, e_nil, e_cons, e_q, e_qf, e_qt, e_af, z_hd, z_mk1, z_lg, z_s1, z_s2, z_kl, z_en, z_kI, z_fv, z_ic, z_c1, z_sh, z_pop, z_rc, z_tgt, z_tsw, z_lsw, z_nw, z_ac, o_kI, o_kL, o_ldi, o_ldl, o_lda, o_sti, o_sta, o_stl, o_inc, o_b2, o_bz, o_l2, o_lz, o_ls, o_lneg, o_i2l, o_l2i, o_lcmp, o_dup, o_dupx1, o_dup2, o_if, o_if2, o_ifnull, o_get, o_put, o_iald, o_zald, o_aald, o_alen, o_iast, o_zast, o_aast, o_new, o_newa, o_call, o_call1, o_callN, o_obj, o_reti, o_retl, o_ret, o_tsw, o_lsw, va_rf_s, va_rf_n, z_u2_s, z_u2_k, z_u2_f, z_uR_f, z_uL_f, e_ix, e_vp, e_lt, e_le, e_eq, e_lt0, e_eq0, e_b0, e_b1, e_10, e_11, true_or, or_true, false_or, nI_add, z_bi_0, z_bi_1, e_bb, z_uR_s, z_uR_k, z_uL_s, z_uL_k, true_and, and_true, and_self, not_true_eq_false, not_false_eq_true, forall_const, Option.toList, List.cons_append, List.nil_append, List.singleton_append, Nat.reduceAdd, Nat.zero_add, Nat.add_zero, Nat.reduceEqDiff, ↓reduceIte, ite_true, ite_false, reduceCtorEq, Int.cast_ofNat_Int, Int.reduceAdd, Int.reduceToNat, ne_eq, false_imp_iff, true_imp_iff, cl_167, bf_167_0, bf_167_4, bf_167_28, bf_167_29, bf_167_33, bf_167_60, bf_167_61, bf_167_68, bf_167_79, bf_167_80, bf_167_88, bo_167_0, bo_167_4, bo_167_28, bo_167_29, bo_167_33, bo_167_60, bo_167_61, bo_167_68, bo_167_79, bo_167_80, bo_167_88, hS]
          cases b
          · exact ⟨fun _ => ih4 false rfl, fun q => absurd rfl q⟩
          · exact ⟨fun q => absurd q (by decide), fun _ => ih4 true rfl⟩
    have l3 := l2 f hf
    simp only [f_may] at l3
    refine z_run ck_167 10 bf_167_4 ?_
    simp (disch := omega) only [e_q0, e_nil, e_cons, e_q, e_qf, e_qt, e_af, z_hd, z_mk1, z_lg, z_s1, z_s2, z_kl, z_en, z_kI, z_fv, z_ic, z_c1, z_sh, z_pop, z_rc, z_tgt, z_tsw, z_lsw, z_nw, z_ac, o_kI, o_kL, o_ldi, o_ldl, o_lda, o_sti, o_sta, o_stl, o_inc, o_b2, o_bz, o_l2, o_lz, o_ls, o_lneg, o_i2l, o_l2i, o_lcmp, o_dup, o_dupx1, o_dup2, o_if, o_if2, o_ifnull, o_get, o_put, o_iald, o_zald, o_aald, o_alen, o_iast, o_zast, o_aast, o_new, o_newa, o_call, o_call1, o_callN, o_obj, o_reti, o_retl, o_ret, o_tsw, o_lsw, va_rf_s, va_rf_n, z_u2_s, z_u2_k, z_u2_f, z_uR_f, z_uL_f, e_ix, e_vp, e_lt, e_le, e_eq, e_lt0, e_eq0, e_b0, e_b1, e_10, e_11, true_or, or_true, false_or, nI_add, z_bi_0, z_bi_1, e_bb, z_uR_s, z_uR_k, z_uL_s, z_uL_k, true_and, and_true, and_self, not_true_eq_false, not_false_eq_true, forall_const, Option.toList, List.cons_append, List.nil_append, List.singleton_append, Nat.reduceAdd, Nat.zero_add, Nat.add_zero, Nat.reduceEqDiff, ↓reduceIte, ite_true, ite_false, reduceCtorEq, Int.cast_ofNat_Int, Int.reduceAdd, Int.reduceToNat, ne_eq, false_imp_iff, true_imp_iff, cl_167, bf_167_0, bf_167_4, bf_167_28, bf_167_29, bf_167_33, bf_167_60, bf_167_61, bf_167_68, bf_167_79, bf_167_80, bf_167_88, bo_167_0, bo_167_4, bo_167_28, bo_167_29, bo_167_33, bo_167_60, bo_167_61, bo_167_68, bo_167_79, bo_167_80, bo_167_88, hS, er, hf.1.1, Nat.not_le.mpr, hk]
    refine ⟨fun c => ?_, fun c => ?_⟩
    · rw [decide_eq_true c] at l3
      exact l3
    · rw [decide_eq_false c] at l3
      exact l3
def a_write (A : ZA) (x : Int32) : Int32 × ZA := if f_in x 0 255 then (if A.len = 100 then (z_ng 4, A) else (nI (A.len + 1), (((A.len + 1, f_set A.txt A.len x), A.1.2), A.2))) else (z_ng 2, A)
def a_wipe (A : ZA) : Int32 × ZA := (nI A.len, (((0, A.txt), A.1.2), A.2))
theorem k_write {x : Int32} (hS : SM T mr) (hM : PA A mi ml) (hQ : ∀ f, PA (a_write A x).2 f ml → (∀ c, c < 373 → f c = mi c) → Q (some (.int (a_write A x).1)) (f, mr, ml, T)) : z_Ok l G m_Model_write [.ref 373, .int x] (mi, mr, ml, T) Q := by
  have hs := hM.1
  have hl : A.len ≤ 100 := hM.2.1.2.1
  unfold a_write at hQ
  refine z_okN cz_112.1 (by rw [cl_112]; exact Nat.le_of_ble_eq_true rfl) cz_112.2 (z_run ck_112 4 bf_112_0 ?_)
  simp (disch := omega) only [e_q0, e_nil, e_cons, e_q, e_qf, e_qt, e_af, z_hd, z_mk1, z_lg, z_s1, z_s2, z_kl, z_en, z_kI, z_fv, z_ic, z_c1, z_sh, z_pop, z_rc, z_tgt, z_tsw, z_lsw, z_nw, z_ac, o_kI, o_kL, o_ldi, o_ldl, o_lda, o_sti, o_sta, o_stl, o_inc, o_b2, o_bz, o_l2, o_lz, o_ls, o_lneg, o_i2l, o_l2i, o_lcmp, o_dup, o_dupx1, o_dup2, o_if, o_if2, o_ifnull, o_get, o_put, o_iald, o_zald, o_aald, o_alen, o_iast, o_zast, o_aast, o_new, o_newa, o_call, o_call1, o_callN, o_obj, o_reti, o_retl, o_ret, o_tsw, o_lsw, va_rf_s, va_rf_n, z_u2_s, z_u2_k, z_u2_f, z_uR_f, z_uL_f, e_ix, e_vp, e_lt, e_le, e_eq, e_lt0, e_eq0, e_b0, e_b1, e_10, e_11, true_or, or_true, false_or, nI_add, z_bi_0, z_bi_1, e_bb, z_uR_s, z_uR_k, z_uL_s, z_uL_k, true_and, and_true, and_self, not_true_eq_false, not_false_eq_true, forall_const, Option.toList, List.cons_append, List.nil_append, List.singleton_append, Nat.reduceAdd, Nat.zero_add, Nat.add_zero, Nat.reduceEqDiff, ↓reduceIte, ite_true, ite_false, reduceCtorEq, Int.cast_ofNat_Int, Int.reduceAdd, Int.reduceToNat, ne_eq, false_imp_iff, true_imp_iff, cl_112, bf_112_0, bf_112_15, bf_112_27, bo_112_0, bo_112_15, bo_112_27, hS]
  refine k_inI (by omega) (by omega) ?_
  simp (disch := omega) only [e_q0, e_nil, e_cons, e_q, e_qf, e_qt, e_af, z_hd, z_mk1, z_lg, z_s1, z_s2, z_kl, z_en, z_kI, z_fv, z_ic, z_c1, z_sh, z_pop, z_rc, z_tgt, z_tsw, z_lsw, z_nw, z_ac, o_kI, o_kL, o_ldi, o_ldl, o_lda, o_sti, o_sta, o_stl, o_inc, o_b2, o_bz, o_l2, o_lz, o_ls, o_lneg, o_i2l, o_l2i, o_lcmp, o_dup, o_dupx1, o_dup2, o_if, o_if2, o_ifnull, o_get, o_put, o_iald, o_zald, o_aald, o_alen, o_iast, o_zast, o_aast, o_new, o_newa, o_call, o_call1, o_callN, o_obj, o_reti, o_retl, o_ret, o_tsw, o_lsw, va_rf_s, va_rf_n, z_u2_s, z_u2_k, z_u2_f, z_uR_f, z_uL_f, e_ix, e_vp, e_lt, e_le, e_eq, e_lt0, e_eq0, e_b0, e_b1, e_10, e_11, true_or, or_true, false_or, nI_add, z_bi_0, z_bi_1, e_bb, z_uR_s, z_uR_k, z_uL_s, z_uL_k, true_and, and_true, and_self, not_true_eq_false, not_false_eq_true, forall_const, Option.toList, List.cons_append, List.nil_append, List.singleton_append, Nat.reduceAdd, Nat.zero_add, Nat.add_zero, Nat.reduceEqDiff, ↓reduceIte, ite_true, ite_false, reduceCtorEq, Int.cast_ofNat_Int, Int.reduceAdd, Int.reduceToNat, ne_eq, false_imp_iff, true_imp_iff, cl_112, bf_112_0, bf_112_15, bf_112_27, bo_112_0, bo_112_15, bo_112_27, hS, hM.2.1.1]
  refine ⟨fun c => ?_, fun c => ?_⟩
  · rw [c] at hQ
    exact hQ _ hM fun _ _ => rfl
  rw [Bool.not_eq_false] at c
  rw [c] at hQ
  refine ⟨fun c2 => ?_, fun c2 => ?_⟩
  · simp only [c2, ↓reduceIte] at hQ
    exact hQ _ hM fun _ _ => rfl
  simp only [c2, ↓reduceIte] at hQ
  refine ⟨by rw [e_vp (by omega) (by omega)]; trivial, hQ _ ?_ fun c hc => by rw [z_u2_f (by omega), z_u2_f (by omega)]⟩
  have e1 : ∀ c, c ≠ 373 → c ≠ 374 → z_u2 (z_u2 mi 374 A.len x) 373 1 (nI (A.len + 1)) c = mi c := fun c c1 c2 => by rw [z_u2_f c1, z_u2_f c2]
  have e2 : ∀ j, j ≠ 1 → z_u2 (z_u2 mi 374 A.len x) 373 1 (nI (A.len + 1)) 373 j = mi 373 j := fun j hj => by rw [z_u2_k hj, z_u2_a (by omega)]
  have e3 : z_u2 (z_u2 mi 374 A.len x) 373 1 (nI (A.len + 1)) 373 1 = nI (A.len + 1) := z_u2_s
  have e4 : ∀ j, z_u2 (z_u2 mi 374 A.len x) 373 1 (nI (A.len + 1)) 374 j = if j = A.len then x else mi 374 j := fun j => by
    rw [z_u2_a (by omega)]
    by_cases q : j = A.len
    · rw [q, z_u2_s, if_pos rfl]
    · rw [z_u2_k q, if_neg q]
  generalize z_u2 (z_u2 mi 374 A.len x) 373 1 (nI (A.len + 1)) = g at e1 e2 e3 e4 ⊢
  obtain ⟨⟨⟨q1, q2, q3, q4, q5, q6, q7, q8⟩, q9⟩, a2, a3, a4, a5, a6, a7⟩ := id hM
  refine ⟨⟨⟨by rw [e2 _ (by omega)]; exact q1, by rw [e2 _ (by omega)]; exact q2, by rw [e1 _ (by omega) (by omega)]; exact q3, by rw [e1 _ (by omega) (by omega)]; exact q4, by rw [e1 _ (by omega) (by omega)]; exact q5, by rw [e1 _ (by omega) (by omega)]; exact q6, by rw [e1 _ (by omega) (by omega)]; exact q7, by rw [e1 _ (by omega) (by omega)]; exact q8⟩, q9⟩,
    ⟨e3, by show A.len + 1 ≤ 100; omega, fun j hj => ?_⟩, ?_, ?_, ?_, ?_, a7⟩
  · rw [e4]
    show _ = f_set A.txt A.len x j
    unfold f_set
    have hj' : j < A.len + 1 := hj
    by_cases q : j = A.len
    · rw [if_pos q, if_pos q]
    · rw [if_neg q, if_neg q, a2.2.2 j (by omega)]
  · rw [e1 381 (by omega) (by omega), e1 382 (by omega) (by omega), e1 383 (by omega) (by omega), e2 23 (by omega)]; exact a3
  · rw [e1 384 (by omega) (by omega), e2 14 (by omega), e2 15 (by omega)]; exact a4
  · rw [e1 385 (by omega) (by omega), e1 386 (by omega) (by omega)]; exact a5
  · rw [e2 21 (by omega), e1 387 (by omega) (by omega), e1 388 (by omega) (by omega), e1 389 (by omega) (by omega)]; exact a6
theorem k_wipe (hS : SM T mr) (hM : PA A mi ml) (hQ : ∀ f, PA (a_wipe A).2 f ml → (∀ c, c < 373 → f c = mi c) → Q (some (.int (a_wipe A).1)) (f, mr, ml, T)) : z_Ok l G m_Model_wipe [.ref 373] (mi, mr, ml, T) Q := by
  refine z_okN cz_113.1 (by rw [cl_113]; exact Nat.le_of_ble_eq_true rfl) cz_113.2 (z_run ck_113 2 bf_113_0 ?_)
  simp (disch := omega) only [e_q0, e_nil, e_cons, e_q, e_qf, e_qt, e_af, z_hd, z_mk1, z_lg, z_s1, z_s2, z_kl, z_en, z_kI, z_fv, z_ic, z_c1, z_sh, z_pop, z_rc, z_tgt, z_tsw, z_lsw, z_nw, z_ac, o_kI, o_kL, o_ldi, o_ldl, o_lda, o_sti, o_sta, o_stl, o_inc, o_b2, o_bz, o_l2, o_lz, o_ls, o_lneg, o_i2l, o_l2i, o_lcmp, o_dup, o_dupx1, o_dup2, o_if, o_if2, o_ifnull, o_get, o_put, o_iald, o_zald, o_aald, o_alen, o_iast, o_zast, o_aast, o_new, o_newa, o_call, o_call1, o_callN, o_obj, o_reti, o_retl, o_ret, o_tsw, o_lsw, va_rf_s, va_rf_n, z_u2_s, z_u2_k, z_u2_f, z_uR_f, z_uL_f, e_ix, e_vp, e_lt, e_le, e_eq, e_lt0, e_eq0, e_b0, e_b1, e_10, e_11, true_or, or_true, false_or, nI_add, z_bi_0, z_bi_1, e_bb, z_uR_s, z_uR_k, z_uL_s, z_uL_k, true_and, and_true, and_self, not_true_eq_false, not_false_eq_true, forall_const, Option.toList, List.cons_append, List.nil_append, List.singleton_append, Nat.reduceAdd, Nat.zero_add, Nat.add_zero, Nat.reduceEqDiff, ↓reduceIte, ite_true, ite_false, reduceCtorEq, Int.cast_ofNat_Int, Int.reduceAdd, Int.reduceToNat, ne_eq, false_imp_iff, true_imp_iff, cl_113, bf_113_0, bo_113_0, hS, hM.2.1.1]
  refine hQ _ ?_ fun c hc => by rw [z_u2_f (by omega)]
  have e1 : ∀ c, c ≠ 373 → z_u2 mi 373 1 (nI 0) c = mi c := fun c hc => z_u2_f hc
  have e2 : ∀ j, j ≠ 1 → z_u2 mi 373 1 (nI 0) 373 j = mi 373 j := fun j hj => z_u2_k hj
  have e3 : z_u2 mi 373 1 (nI 0) 373 1 = nI 0 := z_u2_s
  generalize z_u2 mi 373 1 (nI 0) = g at e1 e2 e3 ⊢
  obtain ⟨⟨⟨q1, q2, q3, q4, q5, q6, q7, q8⟩, q9⟩, a2, a3, a4, a5, a6, a7⟩ := id hM
  refine ⟨⟨⟨by rw [e2 _ (by omega)]; exact q1, by rw [e2 _ (by omega)]; exact q2, by rw [e1 _ (by omega)]; exact q3, by rw [e1 _ (by omega)]; exact q4, by rw [e1 _ (by omega)]; exact q5, by rw [e1 _ (by omega)]; exact q6, by rw [e1 _ (by omega)]; exact q7, by rw [e1 _ (by omega)]; exact q8⟩, q9⟩,
    ⟨e3, Nat.zero_le _, fun j hj => absurd hj (Nat.not_lt_zero _)⟩, ?_, ?_, ?_, ?_, a7⟩
  · rw [e1 381 (by omega), e1 382 (by omega), e1 383 (by omega), e2 23 (by omega)]; exact a3
  · rw [e1 384 (by omega), e2 14 (by omega), e2 15 (by omega)]; exact a4
  · rw [e1 385 (by omega), e1 386 (by omega)]; exact a5
  · rw [e2 21 (by omega), e1 387 (by omega), e1 388 (by omega), e1 389 (by omega)]; exact a6
end
