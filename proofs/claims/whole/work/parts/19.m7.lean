/-- what the reference's object holds -/
abbrev ZA : Type := ((Nat × ZW) × ZS × ZW) × (Nat × (Nat → ZW)) × (ZW × (Nat → ZW)) × (Nat × (Nat → ZW)) × Int64
abbrev ZA.len (A : ZA) : Nat := A.1.1.1
abbrev ZA.txt (A : ZA) : ZW := A.1.1.2
abbrev ZA.s (A : ZA) : ZS := A.1.2.1
abbrev ZA.r (A : ZA) : ZW := A.1.2.2
abbrev ZA.h (A : ZA) : Nat := A.2.1.1
abbrev ZA.H (A : ZA) : Nat → ZW := A.2.1.2
abbrev ZA.fl (A : ZA) : ZW := A.2.2.1.1
abbrev ZA.K (A : ZA) : Nat → ZW := A.2.2.1.2
abbrev ZA.o (A : ZA) : Nat := A.2.2.2.1.1
abbrev ZA.O (A : ZA) : Nat → ZW := A.2.2.2.1.2
abbrev ZA.sd (A : ZA) : Int64 := A.2.2.2.2
abbrev PA (A : ZA) (mi : Nat → Nat → Int32) (ml : Nat → Nat → Int64) : Prop := PM A.len A.txt A.s A.r A.h A.H A.fl A.K A.o A.O A.sd mi ml
abbrev WA (A : ZA) : Prop := WM A.s A.r A.h A.H A.fl A.K
def f_in (x : Int32) (a b : Nat) : Bool := decide (nI a ≤ x) && decide (x ≤ nI b)
theorem f_in_t {x : Int32} {a b : Nat} (ha : a < 1000) (hn : b < 1000) (h : f_in x a b = true) : ∃ j, a ≤ j ∧ j ≤ b ∧ x = nI j := by
  simp only [f_in, Bool.and_eq_true, decide_eq_true_eq] at h
  have h1 := Int32.le_iff_toInt_le.mp h.1
  have h2 := Int32.le_iff_toInt_le.mp h.2
  rw [nI_toInt (by omega)] at h1 h2
  refine ⟨x.toInt.toNat, by omega, by omega, Int32.toInt_inj.mp ?_⟩
  rw [nI_toInt (by omega)]
  omega
theorem f_gate_t {s : ZS} {x : Int32} (hs : s.1.1 < 1000) (h : f_gate s x = true) : ∃ j, j < s.1.1 ∧ x = nI j ∧ s.2 0 j = 0 := by
  simp only [f_gate, Bool.and_eq_true, decide_eq_true_eq] at h
  obtain ⟨j, hj, rfl⟩ := f_idx_t hs h.1
  rw [e_ix (by omega)] at h
  exact ⟨j, hj, rfl, h.2⟩
def f_set (r : ZW) (k : Nat) (v : Int32) : ZW := fun j => if j = k then v else r j
def a_note (A : ZA) : ZA := (A.1, (if A.h < 14 then A.h + 1 else 14, f_push A.r A.H), A.2.2)
def a_row (A : ZA) (r : ZW) : ZA := ((A.1.1, A.s, r), A.2)
def a_round (A : ZA) (x : Int32) : Int32 × ZA := if f_in x 1 99 then (f_ones (f_reached A.s (nI 255) (f_gos A.s (nI 255) (z_ix x) A.r) A.s.1.1) 9, a_row (a_note A) (f_gos A.s (nI 255) (z_ix x) A.r)) else (z_ng 2, A)
def a_turn (A : ZA) (x : Int32) : Int32 × ZA := if f_idx x A.s.1.2 then (nI 1 - A.r (58 + z_ix x), a_row (a_note A) (f_set A.r (58 + z_ix x) (nI 1 - A.r (58 + z_ix x)))) else (z_ng 1, A)
def f_lose (r : ZW) (b : Int32) (k : Nat) (v : Int32) : ZW := f_set r ((if b = 0 then 40 else 49) + k) v
def a_lose (A : ZA) (x b v : Int32) : Int32 × ZA := if f_idx x A.s.1.2 then (if f_in v 0 9 then (f_air A.s (f_lose A.r b (z_ix x) v) (z_ix x), a_row (a_note A) (f_lose A.r b (z_ix x) v)) else (z_ng 2, A)) else (z_ng 1, A)
def a_offset (A : ZA) (x v : Int32) : Int32 × ZA := if f_gate A.s x then (if f_in v 0 9 then (A.r (67 + z_ix x), a_row (a_note A) (f_set A.r (67 + z_ix x) v)) else (z_ng 2, A)) else (z_ng 1, A)
def a_margin (A : ZA) (v : Int32) : Int32 × ZA := if f_in v 0 9 then (A.r 75, a_row (a_note A) (f_set A.r 75 v)) else (z_ng 2, A)
def a_undo (A : ZA) : Int32 × ZA := if A.h = 0 then (z_ng 3, A) else (nI (A.h - 1), ((A.1.1, A.s, A.H 0), (A.h - 1, fun j => A.H (j + 1)), A.2.2))
def f_about (A : ZA) (x : Int32) : Int32 :=
  if x = nI 0 then nI A.s.1.1
  else if x = nI 1 then nI A.s.1.2
  else if x = nI 2 then f_those A.s (nI 0) A.s.1.1
  else if x = nI 3 then f_those A.s (nI 2) A.s.1.1
  else if x = nI 4 then A.r 75
  else if x = nI 5 then A.r 76
  else if x = nI 6 then A.r 77
  else if x = nI 7 then f_reached A.s (nI 255) A.r A.s.1.1
  else if x = nI 8 then f_downs A.r A.s.1.2
  else if x = nI 9 then nI A.h
  else if x = nI 10 then nI A.o
  else if x = nI 11 then nI A.len
  else z_ng 2
theorem f_about_out {A : ZA} {x : Int32} (h : x < nI 0 ∨ nI 11 < x) : f_about A x = z_ng 2 := by
  have e : ∀ k, k ≤ 11 → ¬ x = nI k := fun k hk => h.elim (f_lts (by omega)) (f_gts (by omega) hk)
  unfold f_about
  simp only [e 0 (by omega), e 1 (by omega), e 2 (by omega), e 3 (by omega), e 4 (by omega), e 5 (by omega), e 6 (by omega), e 7 (by omega), e 8 (by omega), e 9 (by omega), e 10 (by omega), e 11 (by omega), if_false, ite_false, ↓reduceIte]
section
variable {l : Launch} {G : ZG} {mi : Nat → Nat → Int32} {mr : Nat → Nat → Option Nat} {ml : Nat → Nat → Int64} {T : (Nat → Nat × Nat) × Nat × Nat} {Q : ZR} {A : ZA}
theorem SM.now (hS : SM T mr) : T.1 381 = (2, 78) := by rw [hS.1.2.2.2.2.2.2.2.2.1]
theorem PA.row {f : Nat → Nat → Int32} {r' : ZW} (hM : PA A mi ml) (h : ∀ c j, f c j = if c = 381 then r' j else mi c j) : PA (a_row A r') f ml :=
  PM.cong hM (by simp [z_sw h]) (fun c _ _ c1 _ _ => z_sw h c1) (z_sr h) (by rw [z_sw h (by omega)]; exact hM.2.2.1.2.1) (by rw [z_sw h (by omega)]; exact hM.2.2.1.2.2.1)
theorem PA.set {k : Nat} {v : Int32} (hM : PA A mi ml) : PA (a_row A (f_set A.r k v)) (z_u2 mi 381 k v) ml :=
  PA.row hM (z_rw (z_ru z_ru0) fun j => by rw [hM.2.2.1.1]; rfl)
theorem k_inI {x : Int32} {a b : Nat} (ha : a < 1000) (hb : b < 1000) (h : Q (some (.int (z_bi (f_in x a b)))) (mi, mr, ml, T)) : z_Ok l G m_Model_in [.long x.toInt64, .long (lN a), .long (lN b)] (mi, mr, ml, T) Q := by
  rw [e_lNI (by omega), e_lNI (by omega)]
  refine k_in ?_
  simp only [e_wide]
  exact h
theorem k_note' (hS : SM T mr) (hM : PA A mi ml) (hQ : ∀ f, PA (a_note A) f ml → (∀ c, c < 373 → f c = mi c) → Q none (f, mr, ml, T)) : z_Ok l G m_Model_note [.ref 373] (mi, mr, ml, T) Q :=
  k_note hS hM fun f h1 h2 _ => hQ f h1 h2
theorem k_about {x : Int32} (hS : SM T mr) (hM : PA A mi ml) (hW : WA A) (h : Q (some (.int (f_about A x))) (mi, mr, ml, T)) : z_Ok l G m_Model_about [.ref 373, .int x] (mi, mr, ml, T) Q := by
  have hs := hM.1
  have hw := hS.now
  obtain ⟨a1, a2, a3, a4, a5, a6, a7⟩ := id hM
  refine z_okN cz_142.1 (by rw [cl_142]; exact Nat.le_of_ble_eq_true rfl) cz_142.2 (z_run ck_142 15 bf_142_0 ?_)
  simp (disch := omega) only [e_q0, e_nil, e_cons, e_q, e_qf, e_qt, e_af, z_hd, z_mk1, z_lg, z_s1, z_s2, z_kl, z_en, z_kI, z_fv, z_ic, z_c1, z_sh, z_pop, z_rc, z_tgt, z_tsw, z_lsw, z_nw, z_ac, o_kI, o_kL, o_ldi, o_ldl, o_lda, o_sti, o_sta, o_stl, o_inc, o_b2, o_bz, o_l2, o_lz, o_ls, o_lneg, o_i2l, o_l2i, o_lcmp, o_dup, o_dupx1, o_dup2, o_if, o_if2, o_ifnull, o_get, o_put, o_iald, o_zald, o_aald, o_alen, o_iast, o_zast, o_aast, o_new, o_newa, o_call, o_call1, o_callN, o_obj, o_reti, o_retl, o_ret, o_tsw, o_lsw, va_rf_s, va_rf_n, z_u2_s, z_u2_k, z_u2_f, z_uR_f, z_uL_f, e_ix, e_vp, e_lt, e_le, e_eq, e_lt0, e_eq0, e_b0, e_b1, e_10, e_11, true_or, or_true, false_or, nI_add, z_bi_0, z_bi_1, e_bb, z_uR_s, z_uR_k, z_uL_s, z_uL_k, true_and, and_true, and_self, not_true_eq_false, not_false_eq_true, forall_const, Option.toList, List.cons_append, List.nil_append, List.singleton_append, Nat.reduceAdd, Nat.zero_add, Nat.add_zero, Nat.reduceEqDiff, ↓reduceIte, ite_true, ite_false, reduceCtorEq, Int.cast_ofNat_Int, Int.reduceAdd, Int.reduceToNat, ne_eq, false_imp_iff, true_imp_iff, cl_142, bf_142_0, bf_142_64, bf_142_69, bf_142_74, bf_142_80, bf_142_86, bf_142_94, bf_142_102, bf_142_110, bf_142_119, bf_142_124, bf_142_129, bf_142_134, bf_142_139, bo_142_0, bo_142_64, bo_142_69, bo_142_74, bo_142_80, bo_142_86, bo_142_94, bo_142_102, bo_142_110, bo_142_119, bo_142_124, bo_142_129, bo_142_134, bo_142_139, hS, hs, hw, a2.1, a4.1, a6.1, a3.1]
  refine ⟨fun c => ?_, fun c => ?_, ?_, ?_, ?_, ?_, ?_, ?_, ?_, ?_, ?_, ?_, ?_, ?_⟩
  · rw [f_about_out (Or.inl c)] at h; exact h
  · rw [f_about_out (Or.inr c)] at h; exact h
  all_goals (rintro rfl; simp (disch := omega) only [f_about, e_eq, Nat.reduceEqDiff, ↓reduceIte] at h)
  · exact h
  · exact h
  · refine k_those hS hs ?_
    simp (disch := omega) only [e_q0, e_nil, e_cons, e_q, e_qf, e_qt, e_af, z_hd, z_mk1, z_lg, z_s1, z_s2, z_kl, z_en, z_kI, z_fv, z_ic, z_c1, z_sh, z_pop, z_rc, z_tgt, z_tsw, z_lsw, z_nw, z_ac, o_kI, o_kL, o_ldi, o_ldl, o_lda, o_sti, o_sta, o_stl, o_inc, o_b2, o_bz, o_l2, o_lz, o_ls, o_lneg, o_i2l, o_l2i, o_lcmp, o_dup, o_dupx1, o_dup2, o_if, o_if2, o_ifnull, o_get, o_put, o_iald, o_zald, o_aald, o_alen, o_iast, o_zast, o_aast, o_new, o_newa, o_call, o_call1, o_callN, o_obj, o_reti, o_retl, o_ret, o_tsw, o_lsw, va_rf_s, va_rf_n, z_u2_s, z_u2_k, z_u2_f, z_uR_f, z_uL_f, e_ix, e_vp, e_lt, e_le, e_eq, e_lt0, e_eq0, e_b0, e_b1, e_10, e_11, true_or, or_true, false_or, nI_add, z_bi_0, z_bi_1, e_bb, z_uR_s, z_uR_k, z_uL_s, z_uL_k, true_and, and_true, and_self, not_true_eq_false, not_false_eq_true, forall_const, Option.toList, List.cons_append, List.nil_append, List.singleton_append, Nat.reduceAdd, Nat.zero_add, Nat.add_zero, Nat.reduceEqDiff, ↓reduceIte, ite_true, ite_false, reduceCtorEq, Int.cast_ofNat_Int, Int.reduceAdd, Int.reduceToNat, ne_eq, false_imp_iff, true_imp_iff, cl_142, bf_142_0, bf_142_64, bf_142_69, bf_142_74, bf_142_80, bf_142_86, bf_142_94, bf_142_102, bf_142_110, bf_142_119, bf_142_124, bf_142_129, bf_142_134, bf_142_139, bo_142_0, bo_142_64, bo_142_69, bo_142_74, bo_142_80, bo_142_86, bo_142_94, bo_142_102, bo_142_110, bo_142_119, bo_142_124, bo_142_129, bo_142_134, bo_142_139, hS, hs, hw]
    exact h
  · refine k_those hS hs ?_
    simp (disch := omega) only [e_q0, e_nil, e_cons, e_q, e_qf, e_qt, e_af, z_hd, z_mk1, z_lg, z_s1, z_s2, z_kl, z_en, z_kI, z_fv, z_ic, z_c1, z_sh, z_pop, z_rc, z_tgt, z_tsw, z_lsw, z_nw, z_ac, o_kI, o_kL, o_ldi, o_ldl, o_lda, o_sti, o_sta, o_stl, o_inc, o_b2, o_bz, o_l2, o_lz, o_ls, o_lneg, o_i2l, o_l2i, o_lcmp, o_dup, o_dupx1, o_dup2, o_if, o_if2, o_ifnull, o_get, o_put, o_iald, o_zald, o_aald, o_alen, o_iast, o_zast, o_aast, o_new, o_newa, o_call, o_call1, o_callN, o_obj, o_reti, o_retl, o_ret, o_tsw, o_lsw, va_rf_s, va_rf_n, z_u2_s, z_u2_k, z_u2_f, z_uR_f, z_uL_f, e_ix, e_vp, e_lt, e_le, e_eq, e_lt0, e_eq0, e_b0, e_b1, e_10, e_11, true_or, or_true, false_or, nI_add, z_bi_0, z_bi_1, e_bb, z_uR_s, z_uR_k, z_uL_s, z_uL_k, true_and, and_true, and_self, not_true_eq_false, not_false_eq_true, forall_const, Option.toList, List.cons_append, List.nil_append, List.singleton_append, Nat.reduceAdd, Nat.zero_add, Nat.add_zero, Nat.reduceEqDiff, ↓reduceIte, ite_true, ite_false, reduceCtorEq, Int.cast_ofNat_Int, Int.reduceAdd, Int.reduceToNat, ne_eq, false_imp_iff, true_imp_iff, cl_142, bf_142_0, bf_142_64, bf_142_69, bf_142_74, bf_142_80, bf_142_86, bf_142_94, bf_142_102, bf_142_110, bf_142_119, bf_142_124, bf_142_129, bf_142_134, bf_142_139, bo_142_0, bo_142_64, bo_142_69, bo_142_74, bo_142_80, bo_142_86, bo_142_94, bo_142_102, bo_142_110, bo_142_119, bo_142_124, bo_142_129, bo_142_134, bo_142_139, hS, hs, hw]
    exact h
  · exact h
  · exact h
  · exact h
  · refine k_reached hS hs hw (by rw [a3.1]; exact hW.2.1.2.1) ?_
    simp (disch := omega) only [e_q0, e_nil, e_cons, e_q, e_qf, e_qt, e_af, z_hd, z_mk1, z_lg, z_s1, z_s2, z_kl, z_en, z_kI, z_fv, z_ic, z_c1, z_sh, z_pop, z_rc, z_tgt, z_tsw, z_lsw, z_nw, z_ac, o_kI, o_kL, o_ldi, o_ldl, o_lda, o_sti, o_sta, o_stl, o_inc, o_b2, o_bz, o_l2, o_lz, o_ls, o_lneg, o_i2l, o_l2i, o_lcmp, o_dup, o_dupx1, o_dup2, o_if, o_if2, o_ifnull, o_get, o_put, o_iald, o_zald, o_aald, o_alen, o_iast, o_zast, o_aast, o_new, o_newa, o_call, o_call1, o_callN, o_obj, o_reti, o_retl, o_ret, o_tsw, o_lsw, va_rf_s, va_rf_n, z_u2_s, z_u2_k, z_u2_f, z_uR_f, z_uL_f, e_ix, e_vp, e_lt, e_le, e_eq, e_lt0, e_eq0, e_b0, e_b1, e_10, e_11, true_or, or_true, false_or, nI_add, z_bi_0, z_bi_1, e_bb, z_uR_s, z_uR_k, z_uL_s, z_uL_k, true_and, and_true, and_self, not_true_eq_false, not_false_eq_true, forall_const, Option.toList, List.cons_append, List.nil_append, List.singleton_append, Nat.reduceAdd, Nat.zero_add, Nat.add_zero, Nat.reduceEqDiff, ↓reduceIte, ite_true, ite_false, reduceCtorEq, Int.cast_ofNat_Int, Int.reduceAdd, Int.reduceToNat, ne_eq, false_imp_iff, true_imp_iff, cl_142, bf_142_0, bf_142_64, bf_142_69, bf_142_74, bf_142_80, bf_142_86, bf_142_94, bf_142_102, bf_142_110, bf_142_119, bf_142_124, bf_142_129, bf_142_134, bf_142_139, bo_142_0, bo_142_64, bo_142_69, bo_142_74, bo_142_80, bo_142_86, bo_142_94, bo_142_102, bo_142_110, bo_142_119, bo_142_124, bo_142_129, bo_142_134, bo_142_139, hS, hs, hw, a3.1, a3.2.2.2]
    exact h
  · refine k_downs hS hs ?_
    simp (disch := omega) only [e_q0, e_nil, e_cons, e_q, e_qf, e_qt, e_af, z_hd, z_mk1, z_lg, z_s1, z_s2, z_kl, z_en, z_kI, z_fv, z_ic, z_c1, z_sh, z_pop, z_rc, z_tgt, z_tsw, z_lsw, z_nw, z_ac, o_kI, o_kL, o_ldi, o_ldl, o_lda, o_sti, o_sta, o_stl, o_inc, o_b2, o_bz, o_l2, o_lz, o_ls, o_lneg, o_i2l, o_l2i, o_lcmp, o_dup, o_dupx1, o_dup2, o_if, o_if2, o_ifnull, o_get, o_put, o_iald, o_zald, o_aald, o_alen, o_iast, o_zast, o_aast, o_new, o_newa, o_call, o_call1, o_callN, o_obj, o_reti, o_retl, o_ret, o_tsw, o_lsw, va_rf_s, va_rf_n, z_u2_s, z_u2_k, z_u2_f, z_uR_f, z_uL_f, e_ix, e_vp, e_lt, e_le, e_eq, e_lt0, e_eq0, e_b0, e_b1, e_10, e_11, true_or, or_true, false_or, nI_add, z_bi_0, z_bi_1, e_bb, z_uR_s, z_uR_k, z_uL_s, z_uL_k, true_and, and_true, and_self, not_true_eq_false, not_false_eq_true, forall_const, Option.toList, List.cons_append, List.nil_append, List.singleton_append, Nat.reduceAdd, Nat.zero_add, Nat.add_zero, Nat.reduceEqDiff, ↓reduceIte, ite_true, ite_false, reduceCtorEq, Int.cast_ofNat_Int, Int.reduceAdd, Int.reduceToNat, ne_eq, false_imp_iff, true_imp_iff, cl_142, bf_142_0, bf_142_64, bf_142_69, bf_142_74, bf_142_80, bf_142_86, bf_142_94, bf_142_102, bf_142_110, bf_142_119, bf_142_124, bf_142_129, bf_142_134, bf_142_139, bo_142_0, bo_142_64, bo_142_69, bo_142_74, bo_142_80, bo_142_86, bo_142_94, bo_142_102, bo_142_110, bo_142_119, bo_142_124, bo_142_129, bo_142_134, bo_142_139, hS, hs, hw, a3.1]
    exact h
  · exact h
  · exact h
  · exact h
theorem k_round {x : Int32} (hS : SM T mr) (hM : PA A mi ml) (hW : WA A) (hQ : ∀ f, PA (a_round A x).2 f ml → (∀ c, c < 373 → f c = mi c) → Q (some (.int (a_round A x).1)) (f, mr, ml, T)) : z_Ok l G m_Model_round [.ref 373, .int x] (mi, mr, ml, T) Q := by
  have hs := hM.1
  have hw := hS.now
  have h8 := hs.2
  unfold a_round at hQ
  refine z_okN cz_150.1 (by rw [cl_150]; exact Nat.le_of_ble_eq_true rfl) cz_150.2 (z_run ck_150 4 bf_150_0 ?_)
  simp (disch := omega) only [e_q0, e_nil, e_cons, e_q, e_qf, e_qt, e_af, z_hd, z_mk1, z_lg, z_s1, z_s2, z_kl, z_en, z_kI, z_fv, z_ic, z_c1, z_sh, z_pop, z_rc, z_tgt, z_tsw, z_lsw, z_nw, z_ac, o_kI, o_kL, o_ldi, o_ldl, o_lda, o_sti, o_sta, o_stl, o_inc, o_b2, o_bz, o_l2, o_lz, o_ls, o_lneg, o_i2l, o_l2i, o_lcmp, o_dup, o_dupx1, o_dup2, o_if, o_if2, o_ifnull, o_get, o_put, o_iald, o_zald, o_aald, o_alen, o_iast, o_zast, o_aast, o_new, o_newa, o_call, o_call1, o_callN, o_obj, o_reti, o_retl, o_ret, o_tsw, o_lsw, va_rf_s, va_rf_n, z_u2_s, z_u2_k, z_u2_f, z_uR_f, z_uL_f, e_ix, e_vp, e_lt, e_le, e_eq, e_lt0, e_eq0, e_b0, e_b1, e_10, e_11, true_or, or_true, false_or, nI_add, z_bi_0, z_bi_1, e_bb, z_uR_s, z_uR_k, z_uL_s, z_uL_k, true_and, and_true, and_self, not_true_eq_false, not_false_eq_true, forall_const, Option.toList, List.cons_append, List.nil_append, List.singleton_append, Nat.reduceAdd, Nat.zero_add, Nat.add_zero, Nat.reduceEqDiff, ↓reduceIte, ite_true, ite_false, reduceCtorEq, Int.cast_ofNat_Int, Int.reduceAdd, Int.reduceToNat, ne_eq, false_imp_iff, true_imp_iff, cl_150, bf_150_0, bf_150_15, bf_150_21, bf_150_40, bo_150_0, bo_150_15, bo_150_21, bo_150_40, hS, hs, hw]
  refine k_inI (by omega) (by omega) ?_
  simp (disch := omega) only [e_q0, e_nil, e_cons, e_q, e_qf, e_qt, e_af, z_hd, z_mk1, z_lg, z_s1, z_s2, z_kl, z_en, z_kI, z_fv, z_ic, z_c1, z_sh, z_pop, z_rc, z_tgt, z_tsw, z_lsw, z_nw, z_ac, o_kI, o_kL, o_ldi, o_ldl, o_lda, o_sti, o_sta, o_stl, o_inc, o_b2, o_bz, o_l2, o_lz, o_ls, o_lneg, o_i2l, o_l2i, o_lcmp, o_dup, o_dupx1, o_dup2, o_if, o_if2, o_ifnull, o_get, o_put, o_iald, o_zald, o_aald, o_alen, o_iast, o_zast, o_aast, o_new, o_newa, o_call, o_call1, o_callN, o_obj, o_reti, o_retl, o_ret, o_tsw, o_lsw, va_rf_s, va_rf_n, z_u2_s, z_u2_k, z_u2_f, z_uR_f, z_uL_f, e_ix, e_vp, e_lt, e_le, e_eq, e_lt0, e_eq0, e_b0, e_b1, e_10, e_11, true_or, or_true, false_or, nI_add, z_bi_0, z_bi_1, e_bb, z_uR_s, z_uR_k, z_uL_s, z_uL_k, true_and, and_true, and_self, not_true_eq_false, not_false_eq_true, forall_const, Option.toList, List.cons_append, List.nil_append, List.singleton_append, Nat.reduceAdd, Nat.zero_add, Nat.add_zero, Nat.reduceEqDiff, ↓reduceIte, ite_true, ite_false, reduceCtorEq, Int.cast_ofNat_Int, Int.reduceAdd, Int.reduceToNat, ne_eq, false_imp_iff, true_imp_iff, cl_150, bf_150_0, bf_150_15, bf_150_21, bf_150_40, bo_150_0, bo_150_15, bo_150_21, bo_150_40, hS, hs, hw]
  refine ⟨fun c => ?_, fun c => ?_⟩
  · rw [c] at hQ
    exact hQ _ hM fun _ _ => rfl
  rw [Bool.not_eq_false] at c
  rw [c] at hQ
  obtain ⟨n, hn, hn2, rfl⟩ := f_in_t (by omega) (by omega) c
  rw [e_ix (by omega)] at hQ
  refine k_note' hS hM fun g hg hgf => ?_
  simp (disch := omega) only [e_q0, e_nil, e_cons, e_q, e_qf, e_qt, e_af, z_hd, z_mk1, z_lg, z_s1, z_s2, z_kl, z_en, z_kI, z_fv, z_ic, z_c1, z_sh, z_pop, z_rc, z_tgt, z_tsw, z_lsw, z_nw, z_ac, o_kI, o_kL, o_ldi, o_ldl, o_lda, o_sti, o_sta, o_stl, o_inc, o_b2, o_bz, o_l2, o_lz, o_ls, o_lneg, o_i2l, o_l2i, o_lcmp, o_dup, o_dupx1, o_dup2, o_if, o_if2, o_ifnull, o_get, o_put, o_iald, o_zald, o_aald, o_alen, o_iast, o_zast, o_aast, o_new, o_newa, o_call, o_call1, o_callN, o_obj, o_reti, o_retl, o_ret, o_tsw, o_lsw, va_rf_s, va_rf_n, z_u2_s, z_u2_k, z_u2_f, z_uR_f, z_uL_f, e_ix, e_vp, e_lt, e_le, e_eq, e_lt0, e_eq0, e_b0, e_b1, e_10, e_11, true_or, or_true, false_or, nI_add, z_bi_0, z_bi_1, e_bb, z_uR_s, z_uR_k, z_uL_s, z_uL_k, true_and, and_true, and_self, not_true_eq_false, not_false_eq_true, forall_const, Option.toList, List.cons_append, List.nil_append, List.singleton_append, Nat.reduceAdd, Nat.zero_add, Nat.add_zero, Nat.reduceEqDiff, ↓reduceIte, ite_true, ite_false, reduceCtorEq, Int.cast_ofNat_Int, Int.reduceAdd, Int.reduceToNat, ne_eq, false_imp_iff, true_imp_iff, cl_150, bf_150_0, bf_150_15, bf_150_21, bf_150_40, bo_150_0, bo_150_15, bo_150_21, bo_150_40, hS, hs, hw]
  refine z_for (P := fun k f => (PA (a_row (a_note A) (f_gos A.s (nI 255) k A.r)) f ml ∧ ∀ c, c < 373 → f c = mi c) → z_W l G 150 (T.2.1, T.2.2) (fun v M' => Q v M' ∧ M'.2.2.2 = T) 21 [some (.ref 373), some (.int (nI n)), some (.int (nI k))] [] (f, mr, ml, T)) n (fun f hf => ?_) (fun k hk ih f hf => ?_) 0 (by omega) g ⟨hg, hgf⟩
  · refine z_run ck_150 4 bf_150_21 ?_
    simp (disch := omega) only [e_q0, e_nil, e_cons, e_q, e_qf, e_qt, e_af, z_hd, z_mk1, z_lg, z_s1, z_s2, z_kl, z_en, z_kI, z_fv, z_ic, z_c1, z_sh, z_pop, z_rc, z_tgt, z_tsw, z_lsw, z_nw, z_ac, o_kI, o_kL, o_ldi, o_ldl, o_lda, o_sti, o_sta, o_stl, o_inc, o_b2, o_bz, o_l2, o_lz, o_ls, o_lneg, o_i2l, o_l2i, o_lcmp, o_dup, o_dupx1, o_dup2, o_if, o_if2, o_ifnull, o_get, o_put, o_iald, o_zald, o_aald, o_alen, o_iast, o_zast, o_aast, o_new, o_newa, o_call, o_call1, o_callN, o_obj, o_reti, o_retl, o_ret, o_tsw, o_lsw, va_rf_s, va_rf_n, z_u2_s, z_u2_k, z_u2_f, z_uR_f, z_uL_f, e_ix, e_vp, e_lt, e_le, e_eq, e_lt0, e_eq0, e_b0, e_b1, e_10, e_11, true_or, or_true, false_or, nI_add, z_bi_0, z_bi_1, e_bb, z_uR_s, z_uR_k, z_uL_s, z_uL_k, true_and, and_true, and_self, not_true_eq_false, not_false_eq_true, forall_const, Option.toList, List.cons_append, List.nil_append, List.singleton_append, Nat.reduceAdd, Nat.zero_add, Nat.add_zero, Nat.reduceEqDiff, ↓reduceIte, ite_true, ite_false, reduceCtorEq, Int.cast_ofNat_Int, Int.reduceAdd, Int.reduceToNat, ne_eq, false_imp_iff, true_imp_iff, cl_150, bf_150_0, bf_150_15, bf_150_21, bf_150_40, bo_150_0, bo_150_15, bo_150_21, bo_150_40, hS, hf.1.1, Nat.le_refl]
    refine k_reached hS hf.1.1 hw (by rw [hf.1.2.2.1.1]; exact (f_gos_rok h8 _ _ hW.2.1).2.1) ?_
    simp (disch := omega) only [e_q0, e_nil, e_cons, e_q, e_qf, e_qt, e_af, z_hd, z_mk1, z_lg, z_s1, z_s2, z_kl, z_en, z_kI, z_fv, z_ic, z_c1, z_sh, z_pop, z_rc, z_tgt, z_tsw, z_lsw, z_nw, z_ac, o_kI, o_kL, o_ldi, o_ldl, o_lda, o_sti, o_sta, o_stl, o_inc, o_b2, o_bz, o_l2, o_lz, o_ls, o_lneg, o_i2l, o_l2i, o_lcmp, o_dup, o_dupx1, o_dup2, o_if, o_if2, o_ifnull, o_get, o_put, o_iald, o_zald, o_aald, o_alen, o_iast, o_zast, o_aast, o_new, o_newa, o_call, o_call1, o_callN, o_obj, o_reti, o_retl, o_ret, o_tsw, o_lsw, va_rf_s, va_rf_n, z_u2_s, z_u2_k, z_u2_f, z_uR_f, z_uL_f, e_ix, e_vp, e_lt, e_le, e_eq, e_lt0, e_eq0, e_b0, e_b1, e_10, e_11, true_or, or_true, false_or, nI_add, z_bi_0, z_bi_1, e_bb, z_uR_s, z_uR_k, z_uL_s, z_uL_k, true_and, and_true, and_self, not_true_eq_false, not_false_eq_true, forall_const, Option.toList, List.cons_append, List.nil_append, List.singleton_append, Nat.reduceAdd, Nat.zero_add, Nat.add_zero, Nat.reduceEqDiff, ↓reduceIte, ite_true, ite_false, reduceCtorEq, Int.cast_ofNat_Int, Int.reduceAdd, Int.reduceToNat, ne_eq, false_imp_iff, true_imp_iff, cl_150, bf_150_0, bf_150_15, bf_150_21, bf_150_40, bo_150_0, bo_150_15, bo_150_21, bo_150_40, hS]
    refine k_ones ?_
    simp (disch := omega) only [e_q0, e_nil, e_cons, e_q, e_qf, e_qt, e_af, z_hd, z_mk1, z_lg, z_s1, z_s2, z_kl, z_en, z_kI, z_fv, z_ic, z_c1, z_sh, z_pop, z_rc, z_tgt, z_tsw, z_lsw, z_nw, z_ac, o_kI, o_kL, o_ldi, o_ldl, o_lda, o_sti, o_sta, o_stl, o_inc, o_b2, o_bz, o_l2, o_lz, o_ls, o_lneg, o_i2l, o_l2i, o_lcmp, o_dup, o_dupx1, o_dup2, o_if, o_if2, o_ifnull, o_get, o_put, o_iald, o_zald, o_aald, o_alen, o_iast, o_zast, o_aast, o_new, o_newa, o_call, o_call1, o_callN, o_obj, o_reti, o_retl, o_ret, o_tsw, o_lsw, va_rf_s, va_rf_n, z_u2_s, z_u2_k, z_u2_f, z_uR_f, z_uL_f, e_ix, e_vp, e_lt, e_le, e_eq, e_lt0, e_eq0, e_b0, e_b1, e_10, e_11, true_or, or_true, false_or, nI_add, z_bi_0, z_bi_1, e_bb, z_uR_s, z_uR_k, z_uL_s, z_uL_k, true_and, and_true, and_self, not_true_eq_false, not_false_eq_true, forall_const, Option.toList, List.cons_append, List.nil_append, List.singleton_append, Nat.reduceAdd, Nat.zero_add, Nat.add_zero, Nat.reduceEqDiff, ↓reduceIte, ite_true, ite_false, reduceCtorEq, Int.cast_ofNat_Int, Int.reduceAdd, Int.reduceToNat, ne_eq, false_imp_iff, true_imp_iff, cl_150, bf_150_0, bf_150_15, bf_150_21, bf_150_40, bo_150_0, bo_150_15, bo_150_21, bo_150_40, hS, hf.1.2.2.1.1, hf.1.2.2.1.2.2.2]
    exact hQ f hf.1 hf.2
  · refine z_run ck_150 4 bf_150_21 ?_
    simp (disch := omega) only [e_q0, e_nil, e_cons, e_q, e_qf, e_qt, e_af, z_hd, z_mk1, z_lg, z_s1, z_s2, z_kl, z_en, z_kI, z_fv, z_ic, z_c1, z_sh, z_pop, z_rc, z_tgt, z_tsw, z_lsw, z_nw, z_ac, o_kI, o_kL, o_ldi, o_ldl, o_lda, o_sti, o_sta, o_stl, o_inc, o_b2, o_bz, o_l2, o_lz, o_ls, o_lneg, o_i2l, o_l2i, o_lcmp, o_dup, o_dupx1, o_dup2, o_if, o_if2, o_ifnull, o_get, o_put, o_iald, o_zald, o_aald, o_alen, o_iast, o_zast, o_aast, o_new, o_newa, o_call, o_call1, o_callN, o_obj, o_reti, o_retl, o_ret, o_tsw, o_lsw, va_rf_s, va_rf_n, z_u2_s, z_u2_k, z_u2_f, z_uR_f, z_uL_f, e_ix, e_vp, e_lt, e_le, e_eq, e_lt0, e_eq0, e_b0, e_b1, e_10, e_11, true_or, or_true, false_or, nI_add, z_bi_0, z_bi_1, e_bb, z_uR_s, z_uR_k, z_uL_s, z_uL_k, true_and, and_true, and_self, not_true_eq_false, not_false_eq_true, forall_const, Option.toList, List.cons_append, List.nil_append, List.singleton_append, Nat.reduceAdd, Nat.zero_add, Nat.add_zero, Nat.reduceEqDiff, ↓reduceIte, ite_true, ite_false, reduceCtorEq, Int.cast_ofNat_Int, Int.reduceAdd, Int.reduceToNat, ne_eq, false_imp_iff, true_imp_iff, cl_150, bf_150_0, bf_150_15, bf_150_21, bf_150_40, bo_150_0, bo_150_15, bo_150_21, bo_150_40, hS, hf.1.1, Nat.not_le.mpr, hk]
    refine k_goOn (w := 381) hS hf.1.1 hw (Or.inl rfl) (by rw [hf.1.2.2.1.1]; exact f_gos_rok h8 _ _ hW.2.1) hf.1.2.2.1.2.2.1 hW.1 fun f' hf' => ?_
    simp (disch := omega) only [e_q0, e_nil, e_cons, e_q, e_qf, e_qt, e_af, z_hd, z_mk1, z_lg, z_s1, z_s2, z_kl, z_en, z_kI, z_fv, z_ic, z_c1, z_sh, z_pop, z_rc, z_tgt, z_tsw, z_lsw, z_nw, z_ac, o_kI, o_kL, o_ldi, o_ldl, o_lda, o_sti, o_sta, o_stl, o_inc, o_b2, o_bz, o_l2, o_lz, o_ls, o_lneg, o_i2l, o_l2i, o_lcmp, o_dup, o_dupx1, o_dup2, o_if, o_if2, o_ifnull, o_get, o_put, o_iald, o_zald, o_aald, o_alen, o_iast, o_zast, o_aast, o_new, o_newa, o_call, o_call1, o_callN, o_obj, o_reti, o_retl, o_ret, o_tsw, o_lsw, va_rf_s, va_rf_n, z_u2_s, z_u2_k, z_u2_f, z_uR_f, z_uL_f, e_ix, e_vp, e_lt, e_le, e_eq, e_lt0, e_eq0, e_b0, e_b1, e_10, e_11, true_or, or_true, false_or, nI_add, z_bi_0, z_bi_1, e_bb, z_uR_s, z_uR_k, z_uL_s, z_uL_k, true_and, and_true, and_self, not_true_eq_false, not_false_eq_true, forall_const, Option.toList, List.cons_append, List.nil_append, List.singleton_append, Nat.reduceAdd, Nat.zero_add, Nat.add_zero, Nat.reduceEqDiff, ↓reduceIte, ite_true, ite_false, reduceCtorEq, Int.cast_ofNat_Int, Int.reduceAdd, Int.reduceToNat, ne_eq, false_imp_iff, true_imp_iff, cl_150, bf_150_0, bf_150_15, bf_150_21, bf_150_40, bo_150_0, bo_150_15, bo_150_21, bo_150_40, hS]
    refine ih f' ⟨?_, fun c hc => funext fun j => ?_⟩
    · refine PM.cong hf.1 ?_ (fun c _ _ c1 c2 c3 => funext fun j => by rw [hf', if_neg c1, if_neg c3]) ?_ ?_ ?_
      · simp (disch := omega) only [hf', Nat.reduceEqDiff, ↓reduceIte, and_self]
      · funext j
        rw [hf', if_pos rfl, hf.1.2.2.1.1, hf.1.2.2.1.2.2.2]
        exact (congrFun (f_gos_s ..) j).symm
      · exact fun j hj => by rw [hf', if_neg (by omega), if_neg (by omega)]; exact hf.1.2.2.1.2.1 j hj
      · exact fun j hj => by rw [hf', if_neg (by omega), if_pos rfl, hf.1.2.2.1.1]; exact (f_gos_rok h8 _ _ hW.2.1).2.2 j hj
    · rw [hf', if_neg (by omega), if_neg (by omega), hf.2 c hc]
theorem k_turn {x : Int32} (hS : SM T mr) (hM : PA A mi ml) (hQ : ∀ f, PA (a_turn A x).2 f ml → (∀ c, c < 373 → f c = mi c) → Q (some (.int (a_turn A x).1)) (f, mr, ml, T)) : z_Ok l G m_Model_turn [.ref 373, .int x] (mi, mr, ml, T) Q := by
  have hs := hM.1
  have hw := hS.now
  have h8 := hs.2
  unfold a_turn at hQ
  refine z_okN cz_151.1 (by rw [cl_151]; exact Nat.le_of_ble_eq_true rfl) cz_151.2 (z_run ck_151 3 bf_151_0 ?_)
  simp (disch := omega) only [e_q0, e_nil, e_cons, e_q, e_qf, e_qt, e_af, z_hd, z_mk1, z_lg, z_s1, z_s2, z_kl, z_en, z_kI, z_fv, z_ic, z_c1, z_sh, z_pop, z_rc, z_tgt, z_tsw, z_lsw, z_nw, z_ac, o_kI, o_kL, o_ldi, o_ldl, o_lda, o_sti, o_sta, o_stl, o_inc, o_b2, o_bz, o_l2, o_lz, o_ls, o_lneg, o_i2l, o_l2i, o_lcmp, o_dup, o_dupx1, o_dup2, o_if, o_if2, o_ifnull, o_get, o_put, o_iald, o_zald, o_aald, o_alen, o_iast, o_zast, o_aast, o_new, o_newa, o_call, o_call1, o_callN, o_obj, o_reti, o_retl, o_ret, o_tsw, o_lsw, va_rf_s, va_rf_n, z_u2_s, z_u2_k, z_u2_f, z_uR_f, z_uL_f, e_ix, e_vp, e_lt, e_le, e_eq, e_lt0, e_eq0, e_b0, e_b1, e_10, e_11, true_or, or_true, false_or, nI_add, z_bi_0, z_bi_1, e_bb, z_uR_s, z_uR_k, z_uL_s, z_uL_k, true_and, and_true, and_self, not_true_eq_false, not_false_eq_true, forall_const, Option.toList, List.cons_append, List.nil_append, List.singleton_append, Nat.reduceAdd, Nat.zero_add, Nat.add_zero, Nat.reduceEqDiff, ↓reduceIte, ite_true, ite_false, reduceCtorEq, Int.cast_ofNat_Int, Int.reduceAdd, Int.reduceToNat, ne_eq, false_imp_iff, true_imp_iff, cl_151, bf_151_0, bf_151_10, bo_151_0, bo_151_10, hS, hs, hw]
  refine k_isLink hS hs ?_
  simp (disch := omega) only [e_q0, e_nil, e_cons, e_q, e_qf, e_qt, e_af, z_hd, z_mk1, z_lg, z_s1, z_s2, z_kl, z_en, z_kI, z_fv, z_ic, z_c1, z_sh, z_pop, z_rc, z_tgt, z_tsw, z_lsw, z_nw, z_ac, o_kI, o_kL, o_ldi, o_ldl, o_lda, o_sti, o_sta, o_stl, o_inc, o_b2, o_bz, o_l2, o_lz, o_ls, o_lneg, o_i2l, o_l2i, o_lcmp, o_dup, o_dupx1, o_dup2, o_if, o_if2, o_ifnull, o_get, o_put, o_iald, o_zald, o_aald, o_alen, o_iast, o_zast, o_aast, o_new, o_newa, o_call, o_call1, o_callN, o_obj, o_reti, o_retl, o_ret, o_tsw, o_lsw, va_rf_s, va_rf_n, z_u2_s, z_u2_k, z_u2_f, z_uR_f, z_uL_f, e_ix, e_vp, e_lt, e_le, e_eq, e_lt0, e_eq0, e_b0, e_b1, e_10, e_11, true_or, or_true, false_or, nI_add, z_bi_0, z_bi_1, e_bb, z_uR_s, z_uR_k, z_uL_s, z_uL_k, true_and, and_true, and_self, not_true_eq_false, not_false_eq_true, forall_const, Option.toList, List.cons_append, List.nil_append, List.singleton_append, Nat.reduceAdd, Nat.zero_add, Nat.add_zero, Nat.reduceEqDiff, ↓reduceIte, ite_true, ite_false, reduceCtorEq, Int.cast_ofNat_Int, Int.reduceAdd, Int.reduceToNat, ne_eq, false_imp_iff, true_imp_iff, cl_151, bf_151_0, bf_151_10, bo_151_0, bo_151_10, hS, hs, hw]
  refine ⟨fun c => ?_, fun c => ?_⟩
  · rw [c] at hQ
    exact hQ _ hM fun _ _ => rfl
  rw [Bool.not_eq_false] at c
  rw [c] at hQ
  obtain ⟨n, hn, rfl⟩ := f_idx_t (by omega) c
  rw [e_ix (by omega)] at hQ
  refine k_note' hS hM fun g hg hgf => ?_
  have hr : g 381 = A.r := hg.2.2.1.1
  simp (disch := omega) only [e_q0, e_nil, e_cons, e_q, e_qf, e_qt, e_af, z_hd, z_mk1, z_lg, z_s1, z_s2, z_kl, z_en, z_kI, z_fv, z_ic, z_c1, z_sh, z_pop, z_rc, z_tgt, z_tsw, z_lsw, z_nw, z_ac, o_kI, o_kL, o_ldi, o_ldl, o_lda, o_sti, o_sta, o_stl, o_inc, o_b2, o_bz, o_l2, o_lz, o_ls, o_lneg, o_i2l, o_l2i, o_lcmp, o_dup, o_dupx1, o_dup2, o_if, o_if2, o_ifnull, o_get, o_put, o_iald, o_zald, o_aald, o_alen, o_iast, o_zast, o_aast, o_new, o_newa, o_call, o_call1, o_callN, o_obj, o_reti, o_retl, o_ret, o_tsw, o_lsw, va_rf_s, va_rf_n, z_u2_s, z_u2_k, z_u2_f, z_uR_f, z_uL_f, e_ix, e_vp, e_lt, e_le, e_eq, e_lt0, e_eq0, e_b0, e_b1, e_10, e_11, true_or, or_true, false_or, nI_add, z_bi_0, z_bi_1, e_bb, z_uR_s, z_uR_k, z_uL_s, z_uL_k, true_and, and_true, and_self, not_true_eq_false, not_false_eq_true, forall_const, Option.toList, List.cons_append, List.nil_append, List.singleton_append, Nat.reduceAdd, Nat.zero_add, Nat.add_zero, Nat.reduceEqDiff, ↓reduceIte, ite_true, ite_false, reduceCtorEq, Int.cast_ofNat_Int, Int.reduceAdd, Int.reduceToNat, ne_eq, false_imp_iff, true_imp_iff, cl_151, bf_151_0, bf_151_10, bo_151_0, bo_151_10, hS, hs, hw, hr]
  exact hQ _ hg.set fun c hc => by rw [z_u2_f (by omega), hgf c hc]
theorem k_margin {x : Int32} (hS : SM T mr) (hM : PA A mi ml) (hQ : ∀ f, PA (a_margin A x).2 f ml → (∀ c, c < 373 → f c = mi c) → Q (some (.int (a_margin A x).1)) (f, mr, ml, T)) : z_Ok l G m_Model_margin [.ref 373, .int x] (mi, mr, ml, T) Q := by
  have hs := hM.1
  have hw := hS.now
  have h8 := hs.2
  unfold a_margin at hQ
  refine z_okN cz_154.1 (by rw [cl_154]; exact Nat.le_of_ble_eq_true rfl) cz_154.2 (z_run ck_154 3 bf_154_0 ?_)
  simp (disch := omega) only [e_q0, e_nil, e_cons, e_q, e_qf, e_qt, e_af, z_hd, z_mk1, z_lg, z_s1, z_s2, z_kl, z_en, z_kI, z_fv, z_ic, z_c1, z_sh, z_pop, z_rc, z_tgt, z_tsw, z_lsw, z_nw, z_ac, o_kI, o_kL, o_ldi, o_ldl, o_lda, o_sti, o_sta, o_stl, o_inc, o_b2, o_bz, o_l2, o_lz, o_ls, o_lneg, o_i2l, o_l2i, o_lcmp, o_dup, o_dupx1, o_dup2, o_if, o_if2, o_ifnull, o_get, o_put, o_iald, o_zald, o_aald, o_alen, o_iast, o_zast, o_aast, o_new, o_newa, o_call, o_call1, o_callN, o_obj, o_reti, o_retl, o_ret, o_tsw, o_lsw, va_rf_s, va_rf_n, z_u2_s, z_u2_k, z_u2_f, z_uR_f, z_uL_f, e_ix, e_vp, e_lt, e_le, e_eq, e_lt0, e_eq0, e_b0, e_b1, e_10, e_11, true_or, or_true, false_or, nI_add, z_bi_0, z_bi_1, e_bb, z_uR_s, z_uR_k, z_uL_s, z_uL_k, true_and, and_true, and_self, not_true_eq_false, not_false_eq_true, forall_const, Option.toList, List.cons_append, List.nil_append, List.singleton_append, Nat.reduceAdd, Nat.zero_add, Nat.add_zero, Nat.reduceEqDiff, ↓reduceIte, ite_true, ite_false, reduceCtorEq, Int.cast_ofNat_Int, Int.reduceAdd, Int.reduceToNat, ne_eq, false_imp_iff, true_imp_iff, cl_154, bf_154_0, bf_154_15, bo_154_0, bo_154_15, hS, hs, hw]
  refine k_inI (by omega) (by omega) ?_
  simp (disch := omega) only [e_q0, e_nil, e_cons, e_q, e_qf, e_qt, e_af, z_hd, z_mk1, z_lg, z_s1, z_s2, z_kl, z_en, z_kI, z_fv, z_ic, z_c1, z_sh, z_pop, z_rc, z_tgt, z_tsw, z_lsw, z_nw, z_ac, o_kI, o_kL, o_ldi, o_ldl, o_lda, o_sti, o_sta, o_stl, o_inc, o_b2, o_bz, o_l2, o_lz, o_ls, o_lneg, o_i2l, o_l2i, o_lcmp, o_dup, o_dupx1, o_dup2, o_if, o_if2, o_ifnull, o_get, o_put, o_iald, o_zald, o_aald, o_alen, o_iast, o_zast, o_aast, o_new, o_newa, o_call, o_call1, o_callN, o_obj, o_reti, o_retl, o_ret, o_tsw, o_lsw, va_rf_s, va_rf_n, z_u2_s, z_u2_k, z_u2_f, z_uR_f, z_uL_f, e_ix, e_vp, e_lt, e_le, e_eq, e_lt0, e_eq0, e_b0, e_b1, e_10, e_11, true_or, or_true, false_or, nI_add, z_bi_0, z_bi_1, e_bb, z_uR_s, z_uR_k, z_uL_s, z_uL_k, true_and, and_true, and_self, not_true_eq_false, not_false_eq_true, forall_const, Option.toList, List.cons_append, List.nil_append, List.singleton_append, Nat.reduceAdd, Nat.zero_add, Nat.add_zero, Nat.reduceEqDiff, ↓reduceIte, ite_true, ite_false, reduceCtorEq, Int.cast_ofNat_Int, Int.reduceAdd, Int.reduceToNat, ne_eq, false_imp_iff, true_imp_iff, cl_154, bf_154_0, bf_154_15, bo_154_0, bo_154_15, hS, hs, hw]
  refine ⟨fun c => ?_, fun c => ?_⟩
  · rw [c] at hQ
    exact hQ _ hM fun _ _ => rfl
  rw [Bool.not_eq_false] at c
  rw [c] at hQ
  refine k_note' hS hM fun g hg hgf => ?_
  have hr : g 381 = A.r := hg.2.2.1.1
  simp (disch := omega) only [e_q0, e_nil, e_cons, e_q, e_qf, e_qt, e_af, z_hd, z_mk1, z_lg, z_s1, z_s2, z_kl, z_en, z_kI, z_fv, z_ic, z_c1, z_sh, z_pop, z_rc, z_tgt, z_tsw, z_lsw, z_nw, z_ac, o_kI, o_kL, o_ldi, o_ldl, o_lda, o_sti, o_sta, o_stl, o_inc, o_b2, o_bz, o_l2, o_lz, o_ls, o_lneg, o_i2l, o_l2i, o_lcmp, o_dup, o_dupx1, o_dup2, o_if, o_if2, o_ifnull, o_get, o_put, o_iald, o_zald, o_aald, o_alen, o_iast, o_zast, o_aast, o_new, o_newa, o_call, o_call1, o_callN, o_obj, o_reti, o_retl, o_ret, o_tsw, o_lsw, va_rf_s, va_rf_n, z_u2_s, z_u2_k, z_u2_f, z_uR_f, z_uL_f, e_ix, e_vp, e_lt, e_le, e_eq, e_lt0, e_eq0, e_b0, e_b1, e_10, e_11, true_or, or_true, false_or, nI_add, z_bi_0, z_bi_1, e_bb, z_uR_s, z_uR_k, z_uL_s, z_uL_k, true_and, and_true, and_self, not_true_eq_false, not_false_eq_true, forall_const, Option.toList, List.cons_append, List.nil_append, List.singleton_append, Nat.reduceAdd, Nat.zero_add, Nat.add_zero, Nat.reduceEqDiff, ↓reduceIte, ite_true, ite_false, reduceCtorEq, Int.cast_ofNat_Int, Int.reduceAdd, Int.reduceToNat, ne_eq, false_imp_iff, true_imp_iff, cl_154, bf_154_0, bf_154_15, bo_154_0, bo_154_15, hS, hs, hw, hr]
  exact hQ _ hg.set fun c hc => by rw [z_u2_f (by omega), hgf c hc]
theorem k_offset {x v : Int32} (hS : SM T mr) (hM : PA A mi ml) (hQ : ∀ f, PA (a_offset A x v).2 f ml → (∀ c, c < 373 → f c = mi c) → Q (some (.int (a_offset A x v).1)) (f, mr, ml, T)) : z_Ok l G m_Model_offset [.ref 373, .int x, .int v] (mi, mr, ml, T) Q := by
  have hs := hM.1
  have hw := hS.now
  have h8 := hs.2
  unfold a_offset at hQ
  refine z_okN cz_153.1 (by rw [cl_153]; exact Nat.le_of_ble_eq_true rfl) cz_153.2 (z_run ck_153 4 bf_153_0 ?_)
  simp (disch := omega) only [e_q0, e_nil, e_cons, e_q, e_qf, e_qt, e_af, z_hd, z_mk1, z_lg, z_s1, z_s2, z_kl, z_en, z_kI, z_fv, z_ic, z_c1, z_sh, z_pop, z_rc, z_tgt, z_tsw, z_lsw, z_nw, z_ac, o_kI, o_kL, o_ldi, o_ldl, o_lda, o_sti, o_sta, o_stl, o_inc, o_b2, o_bz, o_l2, o_lz, o_ls, o_lneg, o_i2l, o_l2i, o_lcmp, o_dup, o_dupx1, o_dup2, o_if, o_if2, o_ifnull, o_get, o_put, o_iald, o_zald, o_aald, o_alen, o_iast, o_zast, o_aast, o_new, o_newa, o_call, o_call1, o_callN, o_obj, o_reti, o_retl, o_ret, o_tsw, o_lsw, va_rf_s, va_rf_n, z_u2_s, z_u2_k, z_u2_f, z_uR_f, z_uL_f, e_ix, e_vp, e_lt, e_le, e_eq, e_lt0, e_eq0, e_b0, e_b1, e_10, e_11, true_or, or_true, false_or, nI_add, z_bi_0, z_bi_1, e_bb, z_uR_s, z_uR_k, z_uL_s, z_uL_k, true_and, and_true, and_self, not_true_eq_false, not_false_eq_true, forall_const, Option.toList, List.cons_append, List.nil_append, List.singleton_append, Nat.reduceAdd, Nat.zero_add, Nat.add_zero, Nat.reduceEqDiff, ↓reduceIte, ite_true, ite_false, reduceCtorEq, Int.cast_ofNat_Int, Int.reduceAdd, Int.reduceToNat, ne_eq, false_imp_iff, true_imp_iff, cl_153, bf_153_0, bf_153_10, bf_153_25, bo_153_0, bo_153_10, bo_153_25, hS, hs, hw]
  refine k_isGateway hS hs ?_
  simp (disch := omega) only [e_q0, e_nil, e_cons, e_q, e_qf, e_qt, e_af, z_hd, z_mk1, z_lg, z_s1, z_s2, z_kl, z_en, z_kI, z_fv, z_ic, z_c1, z_sh, z_pop, z_rc, z_tgt, z_tsw, z_lsw, z_nw, z_ac, o_kI, o_kL, o_ldi, o_ldl, o_lda, o_sti, o_sta, o_stl, o_inc, o_b2, o_bz, o_l2, o_lz, o_ls, o_lneg, o_i2l, o_l2i, o_lcmp, o_dup, o_dupx1, o_dup2, o_if, o_if2, o_ifnull, o_get, o_put, o_iald, o_zald, o_aald, o_alen, o_iast, o_zast, o_aast, o_new, o_newa, o_call, o_call1, o_callN, o_obj, o_reti, o_retl, o_ret, o_tsw, o_lsw, va_rf_s, va_rf_n, z_u2_s, z_u2_k, z_u2_f, z_uR_f, z_uL_f, e_ix, e_vp, e_lt, e_le, e_eq, e_lt0, e_eq0, e_b0, e_b1, e_10, e_11, true_or, or_true, false_or, nI_add, z_bi_0, z_bi_1, e_bb, z_uR_s, z_uR_k, z_uL_s, z_uL_k, true_and, and_true, and_self, not_true_eq_false, not_false_eq_true, forall_const, Option.toList, List.cons_append, List.nil_append, List.singleton_append, Nat.reduceAdd, Nat.zero_add, Nat.add_zero, Nat.reduceEqDiff, ↓reduceIte, ite_true, ite_false, reduceCtorEq, Int.cast_ofNat_Int, Int.reduceAdd, Int.reduceToNat, ne_eq, false_imp_iff, true_imp_iff, cl_153, bf_153_0, bf_153_10, bf_153_25, bo_153_0, bo_153_10, bo_153_25, hS, hs, hw]
  refine ⟨fun c => ?_, fun c => ?_⟩
  · rw [c] at hQ
    exact hQ _ hM fun _ _ => rfl
  rw [Bool.not_eq_false] at c
  rw [c] at hQ
  obtain ⟨n, hn, rfl, hn2⟩ := f_gate_t (by omega) c
  rw [e_ix (by omega)] at hQ
  refine k_inI (by omega) (by omega) ?_
  simp (disch := omega) only [e_q0, e_nil, e_cons, e_q, e_qf, e_qt, e_af, z_hd, z_mk1, z_lg, z_s1, z_s2, z_kl, z_en, z_kI, z_fv, z_ic, z_c1, z_sh, z_pop, z_rc, z_tgt, z_tsw, z_lsw, z_nw, z_ac, o_kI, o_kL, o_ldi, o_ldl, o_lda, o_sti, o_sta, o_stl, o_inc, o_b2, o_bz, o_l2, o_lz, o_ls, o_lneg, o_i2l, o_l2i, o_lcmp, o_dup, o_dupx1, o_dup2, o_if, o_if2, o_ifnull, o_get, o_put, o_iald, o_zald, o_aald, o_alen, o_iast, o_zast, o_aast, o_new, o_newa, o_call, o_call1, o_callN, o_obj, o_reti, o_retl, o_ret, o_tsw, o_lsw, va_rf_s, va_rf_n, z_u2_s, z_u2_k, z_u2_f, z_uR_f, z_uL_f, e_ix, e_vp, e_lt, e_le, e_eq, e_lt0, e_eq0, e_b0, e_b1, e_10, e_11, true_or, or_true, false_or, nI_add, z_bi_0, z_bi_1, e_bb, z_uR_s, z_uR_k, z_uL_s, z_uL_k, true_and, and_true, and_self, not_true_eq_false, not_false_eq_true, forall_const, Option.toList, List.cons_append, List.nil_append, List.singleton_append, Nat.reduceAdd, Nat.zero_add, Nat.add_zero, Nat.reduceEqDiff, ↓reduceIte, ite_true, ite_false, reduceCtorEq, Int.cast_ofNat_Int, Int.reduceAdd, Int.reduceToNat, ne_eq, false_imp_iff, true_imp_iff, cl_153, bf_153_0, bf_153_10, bf_153_25, bo_153_0, bo_153_10, bo_153_25, hS, hs, hw]
  refine ⟨fun c2 => ?_, fun c2 => ?_⟩
  · rw [c2] at hQ
    exact hQ _ hM fun _ _ => rfl
  rw [Bool.not_eq_false] at c2
  rw [c2] at hQ
  refine k_note' hS hM fun g hg hgf => ?_
  have hr : g 381 = A.r := hg.2.2.1.1
  simp (disch := omega) only [e_q0, e_nil, e_cons, e_q, e_qf, e_qt, e_af, z_hd, z_mk1, z_lg, z_s1, z_s2, z_kl, z_en, z_kI, z_fv, z_ic, z_c1, z_sh, z_pop, z_rc, z_tgt, z_tsw, z_lsw, z_nw, z_ac, o_kI, o_kL, o_ldi, o_ldl, o_lda, o_sti, o_sta, o_stl, o_inc, o_b2, o_bz, o_l2, o_lz, o_ls, o_lneg, o_i2l, o_l2i, o_lcmp, o_dup, o_dupx1, o_dup2, o_if, o_if2, o_ifnull, o_get, o_put, o_iald, o_zald, o_aald, o_alen, o_iast, o_zast, o_aast, o_new, o_newa, o_call, o_call1, o_callN, o_obj, o_reti, o_retl, o_ret, o_tsw, o_lsw, va_rf_s, va_rf_n, z_u2_s, z_u2_k, z_u2_f, z_uR_f, z_uL_f, e_ix, e_vp, e_lt, e_le, e_eq, e_lt0, e_eq0, e_b0, e_b1, e_10, e_11, true_or, or_true, false_or, nI_add, z_bi_0, z_bi_1, e_bb, z_uR_s, z_uR_k, z_uL_s, z_uL_k, true_and, and_true, and_self, not_true_eq_false, not_false_eq_true, forall_const, Option.toList, List.cons_append, List.nil_append, List.singleton_append, Nat.reduceAdd, Nat.zero_add, Nat.add_zero, Nat.reduceEqDiff, ↓reduceIte, ite_true, ite_false, reduceCtorEq, Int.cast_ofNat_Int, Int.reduceAdd, Int.reduceToNat, ne_eq, false_imp_iff, true_imp_iff, cl_153, bf_153_0, bf_153_10, bf_153_25, bo_153_0, bo_153_10, bo_153_25, hS, hs, hw, hr]
  exact hQ _ hg.set fun c hc => by rw [z_u2_f (by omega), hgf c hc]
end
