def f_dig (s : ZS) (r : ZW) : Prop := ∀ k, k < s.1.2 → (∃ a, a ≤ 9 ∧ r (40 + k) = nI a) ∧ ∃ b, b ≤ 9 ∧ r (49 + k) = nI b
theorem f_dig_pos {s : ZS} {r : ZW} (h : f_dig s r) : f_pos s r := by
  intro k hk
  obtain ⟨⟨a, ha, ea⟩, b, hb, eb⟩ := h k hk
  rw [ea, eb]
  have e : ∀ a, a ≤ 9 → ∀ b, b ≤ 9 → ¬ (nI 10 - nI a) * (nI 10 - nI b) = 0 := by decide
  exact e a ha b hb
theorem f_dig_set {s : ZS} {r : ZW} {k v : Nat} (h : f_dig s r) (hv : v ≤ 9) : f_dig s (f_set r k (nI v)) := by
  intro i hi
  obtain ⟨h1, h2⟩ := h i hi
  constructor
  · by_cases q : 40 + i = k
    · exact ⟨v, hv, if_pos q⟩
    · rw [show f_set r k (nI v) (40 + i) = r (40 + i) from if_neg q]; exact h1
  · by_cases q : 49 + i = k
    · exact ⟨v, hv, if_pos q⟩
    · rw [show f_set r k (nI v) (49 + i) = r (49 + i) from if_neg q]; exact h2
theorem PM.base {len : Nat} {txt : ZW} {s : ZS} {r : ZW} {h : Nat} {H : Nat → ZW} {fl : ZW} {K : Nat → ZW} {o : Nat} {O : Nat → ZW} {sd : Int64} {mi f : Nat → Nat → Int32} {ml : Nat → Nat → Int64} (hM : PM len txt s r h H fl K o O sd mi ml)
    (h1 : f 373 1 = mi 373 1 ∧ f 373 2 = mi 373 2 ∧ f 373 6 = mi 373 6) (h2 : ∀ c, 374 ≤ c → c ≤ 380 → f c = mi c) : PMs f s ∧ (f 373 1 = nI len ∧ len ≤ 100 ∧ ∀ j, j < len → f 374 j = txt j) := by
  obtain ⟨⟨⟨c1, c2, c3, c4, c5, c6, c7, c8⟩, c9⟩, a2, _⟩ := hM
  obtain ⟨b1, b2, b3⟩ := h1
  have e := fun c q1 q2 => h2 c q1 q2
  refine ⟨⟨⟨by rw [b2]; exact c1, by rw [b3]; exact c2, ?_, ?_, ?_, ?_, ?_, ?_⟩, c9⟩, ⟨by rw [b1]; exact a2.1, a2.2.1, ?_⟩⟩ <;> rw [h2 _ (by omega) (by omega)]
  · exact c3
  · exact c4
  · exact c5
  · exact c6
  · exact c7
  · exact c8
  · exact a2.2.2
def a_ahead (A : ZA) (n x w : Int32) : Int32 := if f_idx x A.s.1.1 then (if f_in n 0 99 && f_in w 3 9 then f_tell A.s (nI 255) (f_gos A.s (nI 255) (z_ix n) A.r) (z_ix x) w else z_ng 2) else z_ng 1
def a_see (A : ZA) (x n i : Int32) : Int32 × ZA := if f_idx x A.s.1.1 then (if f_in n 0 20 && f_in i 0 1 then (if A.o = 6 then (z_ng 4, A) else (nI (A.o + 1), (A.1, A.2.1, A.2.2.1, (A.o + 1, fun c j => if j = A.o then (if c = 0 then x else if c = 1 then n else i) else A.O c j), A.sd))) else (z_ng 2, A)) else (z_ng 1, A)
def a_unsee (A : ZA) : Int32 × ZA := (nI A.o, (A.1, A.2.1, A.2.2.1, (0, A.O), A.sd))
def a_seed (A : ZA) (v : Int64) : Int64 × ZA := (A.sd, (A.1, A.2.1, A.2.2.1, A.2.2.2.1, v))
def a_keep (A : ZA) (x : Int32) : Int32 × ZA := if f_in x 0 1 then (A.r 77, (A.1, A.2.1, (f_set A.fl (z_ix x) (nI 1), fun t => if t = z_ix x then A.r else A.K t), A.2.2.2)) else (z_ng 1, A)
def a_again (A : ZA) (x : Int32) : Int32 × ZA := if f_in x 0 1 then (if A.fl (z_ix x) = 0 then (z_ng 3, A) else (A.K (z_ix x) 77, ((A.1.1, A.s, A.K (z_ix x)), (0, A.H), A.2.2))) else (z_ng 1, A)
section
variable {l : Launch} {G : ZG} {mi : Nat → Nat → Int32} {mr : Nat → Nat → Option Nat} {ml : Nat → Nat → Int64} {T : (Nat → Nat × Nat) × Nat × Nat} {Q : ZR} {A : ZA}
theorem k_copyT (hS : SM T mr) (hM : PA A mi ml) (hW : WA A) (hQ : ∀ f, PA A f ml → f 382 = A.r → (∀ c, c ≠ 382 → f c = mi c) → Q none (f, mr, ml, T)) : z_Ok l G m_Model_copy [.ref 381, .ref 382] (mi, mr, ml, T) Q := by
  have hw := hS.now
  have hw2 : T.1 382 = (2, 78) := by rw [hS.1.2.2.2.2.2.2.2.2.2.1]
  refine k_copy hw hw2 (by omega) fun f hf => ?_
  have e1 : ∀ c, c ≠ 382 → f c = mi c := fun c hc => funext fun j => by rw [hf, if_neg (fun q => hc q.1)]
  have e2 : f 382 = A.r := funext fun j => by
    rw [hf]
    by_cases q : j < 78
    · rw [if_pos ⟨rfl, q⟩, hM.2.2.1.1]
    · rw [if_neg (fun z => q z.2), hM.2.2.1.2.1 j (by omega)]
      exact (hW.2.1.2.2 j (by omega)).symm
  exact hQ f (PM.cong hM (by simp [e1]) (fun c _ _ _ c2 _ => e1 c c2) (by rw [e1 _ (by omega)]; exact hM.2.2.1.1) (by rw [e2]; exact hW.2.1.2.2) (by rw [e1 _ (by omega)]; exact hM.2.2.1.2.2.1)) e2 e1
theorem k_tryT {m : Nat} {r : ZW} (hS : SM T mr) (hM : PA A mi ml) (hW : f_cyc A.s) (hm : m < 1000) (hr : mi 382 = r) (hk : f_rok A.s r) (hQ : ∀ f, PA A f ml → f 382 = f_gos A.s (nI 255) m r → (∀ c, c ≠ 382 → c ≠ 383 → f c = mi c) → Q none (f, mr, ml, T)) : z_Ok l G m_Model_tryRounds [.ref 373, .int (nI m)] (mi, mr, ml, T) Q := by
  refine k_tryRounds hS hM.1 hm (by rw [hr]; exact hk) hM.2.2.1.2.2.1 hW fun f h1 h2 h3 => ?_
  rw [hM.2.2.1.2.2.2, hr] at h2
  refine hQ f (PM.cong hM (by simp [h1]) (fun c _ _ _ c2 c3 => h1 c c2 c3) (by rw [h1 _ (by omega) (by omega)]; exact hM.2.2.1.1) ?_ h3) h2 h1
  rw [h2]
  exact (f_gos_rok hM.1.2 _ _ hk).2.2
theorem k_lose {x b v : Int32} (hS : SM T mr) (hM : PA A mi ml) (hX : f_dig A.s A.r) (hb : b = 0 ∨ b = 1) (hQ : ∀ f, PA (a_lose A x b v).2 f ml → (∀ c, c < 373 → f c = mi c) → Q (some (.int (a_lose A x b v).1)) (f, mr, ml, T)) : z_Ok l G m_Model_lose [.ref 373, .int x, .int b, .int v] (mi, mr, ml, T) Q := by
  have hs := hM.1
  have hw := hS.now
  have h8 := hs.2
  unfold a_lose at hQ
  refine z_okN cz_152.1 (by rw [cl_152]; exact Nat.le_of_ble_eq_true rfl) cz_152.2 (z_run ck_152 6 bf_152_0 ?_)
  simp (disch := omega) only [e_q0, e_nil, e_cons, e_q, e_qf, e_qt, e_af, z_hd, z_mk1, z_lg, z_s1, z_s2, z_kl, z_en, z_kI, z_fv, z_ic, z_c1, z_sh, z_pop, z_rc, z_tgt, z_tsw, z_lsw, z_nw, z_ac, o_kI, o_kL, o_ldi, o_ldl, o_lda, o_sti, o_sta, o_stl, o_inc, o_b2, o_bz, o_l2, o_lz, o_ls, o_lneg, o_i2l, o_l2i, o_lcmp, o_dup, o_dupx1, o_dup2, o_if, o_if2, o_ifnull, o_get, o_put, o_iald, o_zald, o_aald, o_alen, o_iast, o_zast, o_aast, o_new, o_newa, o_call, o_call1, o_callN, o_obj, o_reti, o_retl, o_ret, o_tsw, o_lsw, va_rf_s, va_rf_n, z_u2_s, z_u2_k, z_u2_f, z_uR_f, z_uL_f, e_ix, e_vp, e_lt, e_le, e_eq, e_lt0, e_eq0, e_b0, e_b1, e_10, e_11, true_or, or_true, false_or, nI_add, z_bi_0, z_bi_1, e_bb, z_uR_s, z_uR_k, z_uL_s, z_uL_k, true_and, and_true, and_self, not_true_eq_false, not_false_eq_true, forall_const, Option.toList, List.cons_append, List.nil_append, List.singleton_append, Nat.reduceAdd, Nat.zero_add, Nat.add_zero, Nat.reduceEqDiff, ↓reduceIte, ite_true, ite_false, reduceCtorEq, Int.cast_ofNat_Int, Int.reduceAdd, Int.reduceToNat, ne_eq, false_imp_iff, true_imp_iff, cl_152, bf_152_0, bf_152_10, bf_152_25, bf_152_42, bf_152_44, bo_152_0, bo_152_10, bo_152_25, bo_152_42, bo_152_44, hS, hs, hw]
  refine k_isLink hS hs ?_
  simp (disch := omega) only [e_q0, e_nil, e_cons, e_q, e_qf, e_qt, e_af, z_hd, z_mk1, z_lg, z_s1, z_s2, z_kl, z_en, z_kI, z_fv, z_ic, z_c1, z_sh, z_pop, z_rc, z_tgt, z_tsw, z_lsw, z_nw, z_ac, o_kI, o_kL, o_ldi, o_ldl, o_lda, o_sti, o_sta, o_stl, o_inc, o_b2, o_bz, o_l2, o_lz, o_ls, o_lneg, o_i2l, o_l2i, o_lcmp, o_dup, o_dupx1, o_dup2, o_if, o_if2, o_ifnull, o_get, o_put, o_iald, o_zald, o_aald, o_alen, o_iast, o_zast, o_aast, o_new, o_newa, o_call, o_call1, o_callN, o_obj, o_reti, o_retl, o_ret, o_tsw, o_lsw, va_rf_s, va_rf_n, z_u2_s, z_u2_k, z_u2_f, z_uR_f, z_uL_f, e_ix, e_vp, e_lt, e_le, e_eq, e_lt0, e_eq0, e_b0, e_b1, e_10, e_11, true_or, or_true, false_or, nI_add, z_bi_0, z_bi_1, e_bb, z_uR_s, z_uR_k, z_uL_s, z_uL_k, true_and, and_true, and_self, not_true_eq_false, not_false_eq_true, forall_const, Option.toList, List.cons_append, List.nil_append, List.singleton_append, Nat.reduceAdd, Nat.zero_add, Nat.add_zero, Nat.reduceEqDiff, ↓reduceIte, ite_true, ite_false, reduceCtorEq, Int.cast_ofNat_Int, Int.reduceAdd, Int.reduceToNat, ne_eq, false_imp_iff, true_imp_iff, cl_152, bf_152_0, bf_152_10, bf_152_25, bf_152_42, bf_152_44, bo_152_0, bo_152_10, bo_152_25, bo_152_42, bo_152_44, hS, hs, hw]
  refine ⟨fun c => ?_, fun c => ?_⟩
  · rw [c] at hQ
    exact hQ _ hM fun _ _ => rfl
  rw [Bool.not_eq_false] at c
  rw [c] at hQ
  obtain ⟨n, hn, rfl⟩ := f_idx_t (by omega) c
  rw [e_ix (by omega)] at hQ
  refine k_inI (by omega) (by omega) ?_
  simp (disch := omega) only [e_q0, e_nil, e_cons, e_q, e_qf, e_qt, e_af, z_hd, z_mk1, z_lg, z_s1, z_s2, z_kl, z_en, z_kI, z_fv, z_ic, z_c1, z_sh, z_pop, z_rc, z_tgt, z_tsw, z_lsw, z_nw, z_ac, o_kI, o_kL, o_ldi, o_ldl, o_lda, o_sti, o_sta, o_stl, o_inc, o_b2, o_bz, o_l2, o_lz, o_ls, o_lneg, o_i2l, o_l2i, o_lcmp, o_dup, o_dupx1, o_dup2, o_if, o_if2, o_ifnull, o_get, o_put, o_iald, o_zald, o_aald, o_alen, o_iast, o_zast, o_aast, o_new, o_newa, o_call, o_call1, o_callN, o_obj, o_reti, o_retl, o_ret, o_tsw, o_lsw, va_rf_s, va_rf_n, z_u2_s, z_u2_k, z_u2_f, z_uR_f, z_uL_f, e_ix, e_vp, e_lt, e_le, e_eq, e_lt0, e_eq0, e_b0, e_b1, e_10, e_11, true_or, or_true, false_or, nI_add, z_bi_0, z_bi_1, e_bb, z_uR_s, z_uR_k, z_uL_s, z_uL_k, true_and, and_true, and_self, not_true_eq_false, not_false_eq_true, forall_const, Option.toList, List.cons_append, List.nil_append, List.singleton_append, Nat.reduceAdd, Nat.zero_add, Nat.add_zero, Nat.reduceEqDiff, ↓reduceIte, ite_true, ite_false, reduceCtorEq, Int.cast_ofNat_Int, Int.reduceAdd, Int.reduceToNat, ne_eq, false_imp_iff, true_imp_iff, cl_152, bf_152_0, bf_152_10, bf_152_25, bf_152_42, bf_152_44, bo_152_0, bo_152_10, bo_152_25, bo_152_42, bo_152_44, hS, hs, hw]
  refine ⟨fun c2 => ?_, fun c2 => ?_⟩
  · rw [c2] at hQ
    exact hQ _ hM fun _ _ => rfl
  rw [Bool.not_eq_false] at c2
  rw [c2] at hQ
  obtain ⟨d, _, hd, rfl⟩ := f_in_t (by omega) (by omega) c2
  refine k_note' hS hM fun g hg hgf => ?_
  have hr : g 381 = A.r := hg.2.2.1.1
  simp (disch := omega) only [e_q0, e_nil, e_cons, e_q, e_qf, e_qt, e_af, z_hd, z_mk1, z_lg, z_s1, z_s2, z_kl, z_en, z_kI, z_fv, z_ic, z_c1, z_sh, z_pop, z_rc, z_tgt, z_tsw, z_lsw, z_nw, z_ac, o_kI, o_kL, o_ldi, o_ldl, o_lda, o_sti, o_sta, o_stl, o_inc, o_b2, o_bz, o_l2, o_lz, o_ls, o_lneg, o_i2l, o_l2i, o_lcmp, o_dup, o_dupx1, o_dup2, o_if, o_if2, o_ifnull, o_get, o_put, o_iald, o_zald, o_aald, o_alen, o_iast, o_zast, o_aast, o_new, o_newa, o_call, o_call1, o_callN, o_obj, o_reti, o_retl, o_ret, o_tsw, o_lsw, va_rf_s, va_rf_n, z_u2_s, z_u2_k, z_u2_f, z_uR_f, z_uL_f, e_ix, e_vp, e_lt, e_le, e_eq, e_lt0, e_eq0, e_b0, e_b1, e_10, e_11, true_or, or_true, false_or, nI_add, z_bi_0, z_bi_1, e_bb, z_uR_s, z_uR_k, z_uL_s, z_uL_k, true_and, and_true, and_self, not_true_eq_false, not_false_eq_true, forall_const, Option.toList, List.cons_append, List.nil_append, List.singleton_append, Nat.reduceAdd, Nat.zero_add, Nat.add_zero, Nat.reduceEqDiff, ↓reduceIte, ite_true, ite_false, reduceCtorEq, Int.cast_ofNat_Int, Int.reduceAdd, Int.reduceToNat, ne_eq, false_imp_iff, true_imp_iff, cl_152, bf_152_0, bf_152_10, bf_152_25, bf_152_42, bf_152_44, bo_152_0, bo_152_10, bo_152_25, bo_152_42, bo_152_44, hS, hs, hw, hr]
  have hp := f_dig_pos (f_dig_set (k := (if b = 0 then 40 else 49) + n) hX hd) n hn
  refine ⟨fun c3 => ?_, fun c3 => ?_⟩ <;> simp only [f_lose, c3, ↓reduceIte] at hQ hp
  all_goals
    refine k_airtime (w := 381) hS (PA.set hg).1 hw (by omega) (by rw [(PA.set hg).2.2.1.1]; exact hp) ?_
    simp (disch := omega) only [e_q0, e_nil, e_cons, e_q, e_qf, e_qt, e_af, z_hd, z_mk1, z_lg, z_s1, z_s2, z_kl, z_en, z_kI, z_fv, z_ic, z_c1, z_sh, z_pop, z_rc, z_tgt, z_tsw, z_lsw, z_nw, z_ac, o_kI, o_kL, o_ldi, o_ldl, o_lda, o_sti, o_sta, o_stl, o_inc, o_b2, o_bz, o_l2, o_lz, o_ls, o_lneg, o_i2l, o_l2i, o_lcmp, o_dup, o_dupx1, o_dup2, o_if, o_if2, o_ifnull, o_get, o_put, o_iald, o_zald, o_aald, o_alen, o_iast, o_zast, o_aast, o_new, o_newa, o_call, o_call1, o_callN, o_obj, o_reti, o_retl, o_ret, o_tsw, o_lsw, va_rf_s, va_rf_n, z_u2_s, z_u2_k, z_u2_f, z_uR_f, z_uL_f, e_ix, e_vp, e_lt, e_le, e_eq, e_lt0, e_eq0, e_b0, e_b1, e_10, e_11, true_or, or_true, false_or, nI_add, z_bi_0, z_bi_1, e_bb, z_uR_s, z_uR_k, z_uL_s, z_uL_k, true_and, and_true, and_self, not_true_eq_false, not_false_eq_true, forall_const, Option.toList, List.cons_append, List.nil_append, List.singleton_append, Nat.reduceAdd, Nat.zero_add, Nat.add_zero, Nat.reduceEqDiff, ↓reduceIte, ite_true, ite_false, reduceCtorEq, Int.cast_ofNat_Int, Int.reduceAdd, Int.reduceToNat, ne_eq, false_imp_iff, true_imp_iff, cl_152, bf_152_0, bf_152_10, bf_152_25, bf_152_42, bf_152_44, bo_152_0, bo_152_10, bo_152_25, bo_152_42, bo_152_44, hS, hs, hw]
    rw [(PA.set hg).2.2.1.1]
    exact hQ _ hg.set fun c hc => by rw [z_u2_f (by omega), hgf c hc]
theorem k_ahead {n x w : Int32} (hS : SM T mr) (hM : PA A mi ml) (hW : WA A) (hQ : ∀ f, PA A f ml → (∀ c, c < 373 → f c = mi c) → Q (some (.int (a_ahead A n x w))) (f, mr, ml, T)) : z_Ok l G m_Model_ahead [.ref 373, .int n, .int x, .int w] (mi, mr, ml, T) Q := by
  have hs := hM.1
  have hw := hS.now
  have h8 := hs.2
  unfold a_ahead at hQ
  refine z_okN cz_156.1 (by rw [cl_156]; exact Nat.le_of_ble_eq_true rfl) cz_156.2 (z_run ck_156 5 bf_156_0 ?_)
  simp (disch := omega) only [e_q0, e_nil, e_cons, e_q, e_qf, e_qt, e_af, z_hd, z_mk1, z_lg, z_s1, z_s2, z_kl, z_en, z_kI, z_fv, z_ic, z_c1, z_sh, z_pop, z_rc, z_tgt, z_tsw, z_lsw, z_nw, z_ac, o_kI, o_kL, o_ldi, o_ldl, o_lda, o_sti, o_sta, o_stl, o_inc, o_b2, o_bz, o_l2, o_lz, o_ls, o_lneg, o_i2l, o_l2i, o_lcmp, o_dup, o_dupx1, o_dup2, o_if, o_if2, o_ifnull, o_get, o_put, o_iald, o_zald, o_aald, o_alen, o_iast, o_zast, o_aast, o_new, o_newa, o_call, o_call1, o_callN, o_obj, o_reti, o_retl, o_ret, o_tsw, o_lsw, va_rf_s, va_rf_n, z_u2_s, z_u2_k, z_u2_f, z_uR_f, z_uL_f, e_ix, e_vp, e_lt, e_le, e_eq, e_lt0, e_eq0, e_b0, e_b1, e_10, e_11, true_or, or_true, false_or, nI_add, z_bi_0, z_bi_1, e_bb, z_uR_s, z_uR_k, z_uL_s, z_uL_k, true_and, and_true, and_self, not_true_eq_false, not_false_eq_true, forall_const, Option.toList, List.cons_append, List.nil_append, List.singleton_append, Nat.reduceAdd, Nat.zero_add, Nat.add_zero, Nat.reduceEqDiff, ↓reduceIte, ite_true, ite_false, reduceCtorEq, Int.cast_ofNat_Int, Int.reduceAdd, Int.reduceToNat, ne_eq, false_imp_iff, true_imp_iff, cl_156, bf_156_0, bf_156_10, bf_156_36, bf_156_39, bo_156_0, bo_156_10, bo_156_36, bo_156_39, hS, hs, hw]
  refine k_isNode hS hs ?_
  simp (disch := omega) only [e_q0, e_nil, e_cons, e_q, e_qf, e_qt, e_af, z_hd, z_mk1, z_lg, z_s1, z_s2, z_kl, z_en, z_kI, z_fv, z_ic, z_c1, z_sh, z_pop, z_rc, z_tgt, z_tsw, z_lsw, z_nw, z_ac, o_kI, o_kL, o_ldi, o_ldl, o_lda, o_sti, o_sta, o_stl, o_inc, o_b2, o_bz, o_l2, o_lz, o_ls, o_lneg, o_i2l, o_l2i, o_lcmp, o_dup, o_dupx1, o_dup2, o_if, o_if2, o_ifnull, o_get, o_put, o_iald, o_zald, o_aald, o_alen, o_iast, o_zast, o_aast, o_new, o_newa, o_call, o_call1, o_callN, o_obj, o_reti, o_retl, o_ret, o_tsw, o_lsw, va_rf_s, va_rf_n, z_u2_s, z_u2_k, z_u2_f, z_uR_f, z_uL_f, e_ix, e_vp, e_lt, e_le, e_eq, e_lt0, e_eq0, e_b0, e_b1, e_10, e_11, true_or, or_true, false_or, nI_add, z_bi_0, z_bi_1, e_bb, z_uR_s, z_uR_k, z_uL_s, z_uL_k, true_and, and_true, and_self, not_true_eq_false, not_false_eq_true, forall_const, Option.toList, List.cons_append, List.nil_append, List.singleton_append, Nat.reduceAdd, Nat.zero_add, Nat.add_zero, Nat.reduceEqDiff, ↓reduceIte, ite_true, ite_false, reduceCtorEq, Int.cast_ofNat_Int, Int.reduceAdd, Int.reduceToNat, ne_eq, false_imp_iff, true_imp_iff, cl_156, bf_156_0, bf_156_10, bf_156_36, bf_156_39, bo_156_0, bo_156_10, bo_156_36, bo_156_39, hS, hs, hw]
  refine ⟨fun c => ?_, fun c => ?_⟩
  · rw [c] at hQ
    exact hQ _ hM fun _ _ => rfl
  rw [Bool.not_eq_false] at c
  rw [c] at hQ
  obtain ⟨i, hi, rfl⟩ := f_idx_t (by omega) c
  rw [e_ix (by omega)] at hQ
  refine k_inI (by omega) (by omega) ?_
  simp (disch := omega) only [e_q0, e_nil, e_cons, e_q, e_qf, e_qt, e_af, z_hd, z_mk1, z_lg, z_s1, z_s2, z_kl, z_en, z_kI, z_fv, z_ic, z_c1, z_sh, z_pop, z_rc, z_tgt, z_tsw, z_lsw, z_nw, z_ac, o_kI, o_kL, o_ldi, o_ldl, o_lda, o_sti, o_sta, o_stl, o_inc, o_b2, o_bz, o_l2, o_lz, o_ls, o_lneg, o_i2l, o_l2i, o_lcmp, o_dup, o_dupx1, o_dup2, o_if, o_if2, o_ifnull, o_get, o_put, o_iald, o_zald, o_aald, o_alen, o_iast, o_zast, o_aast, o_new, o_newa, o_call, o_call1, o_callN, o_obj, o_reti, o_retl, o_ret, o_tsw, o_lsw, va_rf_s, va_rf_n, z_u2_s, z_u2_k, z_u2_f, z_uR_f, z_uL_f, e_ix, e_vp, e_lt, e_le, e_eq, e_lt0, e_eq0, e_b0, e_b1, e_10, e_11, true_or, or_true, false_or, nI_add, z_bi_0, z_bi_1, e_bb, z_uR_s, z_uR_k, z_uL_s, z_uL_k, true_and, and_true, and_self, not_true_eq_false, not_false_eq_true, forall_const, Option.toList, List.cons_append, List.nil_append, List.singleton_append, Nat.reduceAdd, Nat.zero_add, Nat.add_zero, Nat.reduceEqDiff, ↓reduceIte, ite_true, ite_false, reduceCtorEq, Int.cast_ofNat_Int, Int.reduceAdd, Int.reduceToNat, ne_eq, false_imp_iff, true_imp_iff, cl_156, bf_156_0, bf_156_10, bf_156_36, bf_156_39, bo_156_0, bo_156_10, bo_156_36, bo_156_39, hS, hs, hw]
  refine ⟨fun c2 => ?_, fun c2 => ?_⟩
  · rw [c2] at hQ
    exact hQ _ hM fun _ _ => rfl
  rw [Bool.not_eq_false] at c2
  rw [c2] at hQ
  obtain ⟨d, _, hd, rfl⟩ := f_in_t (by omega) (by omega) c2
  rw [e_ix (by omega)] at hQ
  refine k_inI (by omega) (by omega) ?_
  simp (disch := omega) only [e_q0, e_nil, e_cons, e_q, e_qf, e_qt, e_af, z_hd, z_mk1, z_lg, z_s1, z_s2, z_kl, z_en, z_kI, z_fv, z_ic, z_c1, z_sh, z_pop, z_rc, z_tgt, z_tsw, z_lsw, z_nw, z_ac, o_kI, o_kL, o_ldi, o_ldl, o_lda, o_sti, o_sta, o_stl, o_inc, o_b2, o_bz, o_l2, o_lz, o_ls, o_lneg, o_i2l, o_l2i, o_lcmp, o_dup, o_dupx1, o_dup2, o_if, o_if2, o_ifnull, o_get, o_put, o_iald, o_zald, o_aald, o_alen, o_iast, o_zast, o_aast, o_new, o_newa, o_call, o_call1, o_callN, o_obj, o_reti, o_retl, o_ret, o_tsw, o_lsw, va_rf_s, va_rf_n, z_u2_s, z_u2_k, z_u2_f, z_uR_f, z_uL_f, e_ix, e_vp, e_lt, e_le, e_eq, e_lt0, e_eq0, e_b0, e_b1, e_10, e_11, true_or, or_true, false_or, nI_add, z_bi_0, z_bi_1, e_bb, z_uR_s, z_uR_k, z_uL_s, z_uL_k, true_and, and_true, and_self, not_true_eq_false, not_false_eq_true, forall_const, Option.toList, List.cons_append, List.nil_append, List.singleton_append, Nat.reduceAdd, Nat.zero_add, Nat.add_zero, Nat.reduceEqDiff, ↓reduceIte, ite_true, ite_false, reduceCtorEq, Int.cast_ofNat_Int, Int.reduceAdd, Int.reduceToNat, ne_eq, false_imp_iff, true_imp_iff, cl_156, bf_156_0, bf_156_10, bf_156_36, bf_156_39, bo_156_0, bo_156_10, bo_156_36, bo_156_39, hS, hs, hw]
  refine ⟨fun c3 => ?_, fun c3 => ?_⟩
  · rw [c3] at hQ
    exact hQ _ hM fun _ _ => rfl
  rw [Bool.not_eq_false] at c3
  rw [c3] at hQ
  refine k_copyT hS hM hW fun f hf hf2 hf3 => ?_
  simp (disch := omega) only [e_q0, e_nil, e_cons, e_q, e_qf, e_qt, e_af, z_hd, z_mk1, z_lg, z_s1, z_s2, z_kl, z_en, z_kI, z_fv, z_ic, z_c1, z_sh, z_pop, z_rc, z_tgt, z_tsw, z_lsw, z_nw, z_ac, o_kI, o_kL, o_ldi, o_ldl, o_lda, o_sti, o_sta, o_stl, o_inc, o_b2, o_bz, o_l2, o_lz, o_ls, o_lneg, o_i2l, o_l2i, o_lcmp, o_dup, o_dupx1, o_dup2, o_if, o_if2, o_ifnull, o_get, o_put, o_iald, o_zald, o_aald, o_alen, o_iast, o_zast, o_aast, o_new, o_newa, o_call, o_call1, o_callN, o_obj, o_reti, o_retl, o_ret, o_tsw, o_lsw, va_rf_s, va_rf_n, z_u2_s, z_u2_k, z_u2_f, z_uR_f, z_uL_f, e_ix, e_vp, e_lt, e_le, e_eq, e_lt0, e_eq0, e_b0, e_b1, e_10, e_11, true_or, or_true, false_or, nI_add, z_bi_0, z_bi_1, e_bb, z_uR_s, z_uR_k, z_uL_s, z_uL_k, true_and, and_true, and_self, not_true_eq_false, not_false_eq_true, forall_const, Option.toList, List.cons_append, List.nil_append, List.singleton_append, Nat.reduceAdd, Nat.zero_add, Nat.add_zero, Nat.reduceEqDiff, ↓reduceIte, ite_true, ite_false, reduceCtorEq, Int.cast_ofNat_Int, Int.reduceAdd, Int.reduceToNat, ne_eq, false_imp_iff, true_imp_iff, cl_156, bf_156_0, bf_156_10, bf_156_36, bf_156_39, bo_156_0, bo_156_10, bo_156_36, bo_156_39, hS, hs, hw]
  refine k_tryT hS hf hW.1 (by omega) hf2 hW.2.1 fun g hg hg2 hg3 => ?_
  simp (disch := omega) only [e_q0, e_nil, e_cons, e_q, e_qf, e_qt, e_af, z_hd, z_mk1, z_lg, z_s1, z_s2, z_kl, z_en, z_kI, z_fv, z_ic, z_c1, z_sh, z_pop, z_rc, z_tgt, z_tsw, z_lsw, z_nw, z_ac, o_kI, o_kL, o_ldi, o_ldl, o_lda, o_sti, o_sta, o_stl, o_inc, o_b2, o_bz, o_l2, o_lz, o_ls, o_lneg, o_i2l, o_l2i, o_lcmp, o_dup, o_dupx1, o_dup2, o_if, o_if2, o_ifnull, o_get, o_put, o_iald, o_zald, o_aald, o_alen, o_iast, o_zast, o_aast, o_new, o_newa, o_call, o_call1, o_callN, o_obj, o_reti, o_retl, o_ret, o_tsw, o_lsw, va_rf_s, va_rf_n, z_u2_s, z_u2_k, z_u2_f, z_uR_f, z_uL_f, e_ix, e_vp, e_lt, e_le, e_eq, e_lt0, e_eq0, e_b0, e_b1, e_10, e_11, true_or, or_true, false_or, nI_add, z_bi_0, z_bi_1, e_bb, z_uR_s, z_uR_k, z_uL_s, z_uL_k, true_and, and_true, and_self, not_true_eq_false, not_false_eq_true, forall_const, Option.toList, List.cons_append, List.nil_append, List.singleton_append, Nat.reduceAdd, Nat.zero_add, Nat.add_zero, Nat.reduceEqDiff, ↓reduceIte, ite_true, ite_false, reduceCtorEq, Int.cast_ofNat_Int, Int.reduceAdd, Int.reduceToNat, ne_eq, false_imp_iff, true_imp_iff, cl_156, bf_156_0, bf_156_10, bf_156_36, bf_156_39, bo_156_0, bo_156_10, bo_156_36, bo_156_39, hS, hs, hw]
  refine k_tell (w := 382) hS hg.1 (by rw [hS.1.2.2.2.2.2.2.2.2.2.1]) hi (by rw [hg2]; exact (f_gos_rok h8 _ _ hW.2.1).2.1) ?_
  simp (disch := omega) only [e_q0, e_nil, e_cons, e_q, e_qf, e_qt, e_af, z_hd, z_mk1, z_lg, z_s1, z_s2, z_kl, z_en, z_kI, z_fv, z_ic, z_c1, z_sh, z_pop, z_rc, z_tgt, z_tsw, z_lsw, z_nw, z_ac, o_kI, o_kL, o_ldi, o_ldl, o_lda, o_sti, o_sta, o_stl, o_inc, o_b2, o_bz, o_l2, o_lz, o_ls, o_lneg, o_i2l, o_l2i, o_lcmp, o_dup, o_dupx1, o_dup2, o_if, o_if2, o_ifnull, o_get, o_put, o_iald, o_zald, o_aald, o_alen, o_iast, o_zast, o_aast, o_new, o_newa, o_call, o_call1, o_callN, o_obj, o_reti, o_retl, o_ret, o_tsw, o_lsw, va_rf_s, va_rf_n, z_u2_s, z_u2_k, z_u2_f, z_uR_f, z_uL_f, e_ix, e_vp, e_lt, e_le, e_eq, e_lt0, e_eq0, e_b0, e_b1, e_10, e_11, true_or, or_true, false_or, nI_add, z_bi_0, z_bi_1, e_bb, z_uR_s, z_uR_k, z_uL_s, z_uL_k, true_and, and_true, and_self, not_true_eq_false, not_false_eq_true, forall_const, Option.toList, List.cons_append, List.nil_append, List.singleton_append, Nat.reduceAdd, Nat.zero_add, Nat.add_zero, Nat.reduceEqDiff, ↓reduceIte, ite_true, ite_false, reduceCtorEq, Int.cast_ofNat_Int, Int.reduceAdd, Int.reduceToNat, ne_eq, false_imp_iff, true_imp_iff, cl_156, bf_156_0, bf_156_10, bf_156_36, bf_156_39, bo_156_0, bo_156_10, bo_156_36, bo_156_39, hS, hs, hw]
  rw [hg2, hg.2.2.1.2.2.2]
  exact hQ g hg fun c hc => by rw [hg3 _ (by omega) (by omega), hf3 _ (by omega)]
theorem k_unsee (hS : SM T mr) (hM : PA A mi ml) (hQ : ∀ f, PA (a_unsee A).2 f ml → (∀ c, c < 373 → f c = mi c) → Q (some (.int (a_unsee A).1)) (f, mr, ml, T)) : z_Ok l G m_Model_unsee [.ref 373] (mi, mr, ml, T) Q := by
  have hs := hM.1
  obtain ⟨a1, a2, a3, a4, a5, a6, a7⟩ := id hM
  refine z_okN cz_165.1 (by rw [cl_165]; exact Nat.le_of_ble_eq_true rfl) cz_165.2 (z_run ck_165 2 bf_165_0 ?_)
  simp (disch := omega) only [e_q0, e_nil, e_cons, e_q, e_qf, e_qt, e_af, z_hd, z_mk1, z_lg, z_s1, z_s2, z_kl, z_en, z_kI, z_fv, z_ic, z_c1, z_sh, z_pop, z_rc, z_tgt, z_tsw, z_lsw, z_nw, z_ac, o_kI, o_kL, o_ldi, o_ldl, o_lda, o_sti, o_sta, o_stl, o_inc, o_b2, o_bz, o_l2, o_lz, o_ls, o_lneg, o_i2l, o_l2i, o_lcmp, o_dup, o_dupx1, o_dup2, o_if, o_if2, o_ifnull, o_get, o_put, o_iald, o_zald, o_aald, o_alen, o_iast, o_zast, o_aast, o_new, o_newa, o_call, o_call1, o_callN, o_obj, o_reti, o_retl, o_ret, o_tsw, o_lsw, va_rf_s, va_rf_n, z_u2_s, z_u2_k, z_u2_f, z_uR_f, z_uL_f, e_ix, e_vp, e_lt, e_le, e_eq, e_lt0, e_eq0, e_b0, e_b1, e_10, e_11, true_or, or_true, false_or, nI_add, z_bi_0, z_bi_1, e_bb, z_uR_s, z_uR_k, z_uL_s, z_uL_k, true_and, and_true, and_self, not_true_eq_false, not_false_eq_true, forall_const, Option.toList, List.cons_append, List.nil_append, List.singleton_append, Nat.reduceAdd, Nat.zero_add, Nat.add_zero, Nat.reduceEqDiff, ↓reduceIte, ite_true, ite_false, reduceCtorEq, Int.cast_ofNat_Int, Int.reduceAdd, Int.reduceToNat, ne_eq, false_imp_iff, true_imp_iff, cl_165, bf_165_0, bo_165_0, hS, a6.1]
  refine hQ _ ?_ fun c hc => by rw [z_u2_f (by omega)]
  have e1 : ∀ c, c ≠ 373 → z_u2 mi 373 21 (nI 0) c = mi c := fun c hc => z_u2_f hc
  have e2 : ∀ j, j ≠ 21 → z_u2 mi 373 21 (nI 0) 373 j = mi 373 j := fun j hj => z_u2_k hj
  obtain ⟨b1, b2⟩ := PM.base hM (f := z_u2 mi 373 21 (nI 0)) ⟨e2 _ (by omega), e2 _ (by omega), e2 _ (by omega)⟩ (fun c _ _ => e1 c (by omega))
  refine ⟨b1, b2, ?_, ?_, ?_, ⟨z_u2_s, Nat.zero_le _, fun j hj => absurd hj (Nat.not_lt_zero _)⟩, a7⟩
  · rw [e1 381 (by omega), e1 382 (by omega), e1 383 (by omega), e2 23 (by omega)]; exact a3
  · rw [e1 384 (by omega), e2 14 (by omega), e2 15 (by omega)]; exact a4
  · rw [e1 385 (by omega), e1 386 (by omega)]; exact a5
theorem k_see {x n i : Int32} (hS : SM T mr) (hM : PA A mi ml) (hQ : ∀ f, PA (a_see A x n i).2 f ml → (∀ c, c < 373 → f c = mi c) → Q (some (.int (a_see A x n i).1)) (f, mr, ml, T)) : z_Ok l G m_Model_see [.ref 373, .int x, .int n, .int i] (mi, mr, ml, T) Q := by
  have hs := hM.1
  have hw := hS.now
  have h8 := hs.2
  obtain ⟨a1, a2, a3, a4, a5, ⟨a6, a6b, a6c⟩, a7⟩ := id hM
  unfold a_see at hQ
  refine z_okN cz_164.1 (by rw [cl_164]; exact Nat.le_of_ble_eq_true rfl) cz_164.2 (z_run ck_164 6 bf_164_0 ?_)
  simp (disch := omega) only [e_q0, e_nil, e_cons, e_q, e_qf, e_qt, e_af, z_hd, z_mk1, z_lg, z_s1, z_s2, z_kl, z_en, z_kI, z_fv, z_ic, z_c1, z_sh, z_pop, z_rc, z_tgt, z_tsw, z_lsw, z_nw, z_ac, o_kI, o_kL, o_ldi, o_ldl, o_lda, o_sti, o_sta, o_stl, o_inc, o_b2, o_bz, o_l2, o_lz, o_ls, o_lneg, o_i2l, o_l2i, o_lcmp, o_dup, o_dupx1, o_dup2, o_if, o_if2, o_ifnull, o_get, o_put, o_iald, o_zald, o_aald, o_alen, o_iast, o_zast, o_aast, o_new, o_newa, o_call, o_call1, o_callN, o_obj, o_reti, o_retl, o_ret, o_tsw, o_lsw, va_rf_s, va_rf_n, z_u2_s, z_u2_k, z_u2_f, z_uR_f, z_uL_f, e_ix, e_vp, e_lt, e_le, e_eq, e_lt0, e_eq0, e_b0, e_b1, e_10, e_11, true_or, or_true, false_or, nI_add, z_bi_0, z_bi_1, e_bb, z_uR_s, z_uR_k, z_uL_s, z_uL_k, true_and, and_true, and_self, not_true_eq_false, not_false_eq_true, forall_const, Option.toList, List.cons_append, List.nil_append, List.singleton_append, Nat.reduceAdd, Nat.zero_add, Nat.add_zero, Nat.reduceEqDiff, ↓reduceIte, ite_true, ite_false, reduceCtorEq, Int.cast_ofNat_Int, Int.reduceAdd, Int.reduceToNat, ne_eq, false_imp_iff, true_imp_iff, cl_164, bf_164_0, bf_164_10, bf_164_32, bf_164_35, bf_164_47, bo_164_0, bo_164_10, bo_164_32, bo_164_35, bo_164_47, hS, hs, hw]
  refine k_isNode hS hs ?_
  simp (disch := omega) only [e_q0, e_nil, e_cons, e_q, e_qf, e_qt, e_af, z_hd, z_mk1, z_lg, z_s1, z_s2, z_kl, z_en, z_kI, z_fv, z_ic, z_c1, z_sh, z_pop, z_rc, z_tgt, z_tsw, z_lsw, z_nw, z_ac, o_kI, o_kL, o_ldi, o_ldl, o_lda, o_sti, o_sta, o_stl, o_inc, o_b2, o_bz, o_l2, o_lz, o_ls, o_lneg, o_i2l, o_l2i, o_lcmp, o_dup, o_dupx1, o_dup2, o_if, o_if2, o_ifnull, o_get, o_put, o_iald, o_zald, o_aald, o_alen, o_iast, o_zast, o_aast, o_new, o_newa, o_call, o_call1, o_callN, o_obj, o_reti, o_retl, o_ret, o_tsw, o_lsw, va_rf_s, va_rf_n, z_u2_s, z_u2_k, z_u2_f, z_uR_f, z_uL_f, e_ix, e_vp, e_lt, e_le, e_eq, e_lt0, e_eq0, e_b0, e_b1, e_10, e_11, true_or, or_true, false_or, nI_add, z_bi_0, z_bi_1, e_bb, z_uR_s, z_uR_k, z_uL_s, z_uL_k, true_and, and_true, and_self, not_true_eq_false, not_false_eq_true, forall_const, Option.toList, List.cons_append, List.nil_append, List.singleton_append, Nat.reduceAdd, Nat.zero_add, Nat.add_zero, Nat.reduceEqDiff, ↓reduceIte, ite_true, ite_false, reduceCtorEq, Int.cast_ofNat_Int, Int.reduceAdd, Int.reduceToNat, ne_eq, false_imp_iff, true_imp_iff, cl_164, bf_164_0, bf_164_10, bf_164_32, bf_164_35, bf_164_47, bo_164_0, bo_164_10, bo_164_32, bo_164_35, bo_164_47, hS, hs, hw]
  refine ⟨fun c => ?_, fun c => ?_⟩
  · rw [c] at hQ
    exact hQ _ hM fun _ _ => rfl
  rw [Bool.not_eq_false] at c
  rw [c] at hQ
  refine k_inI (by omega) (by omega) ?_
  simp (disch := omega) only [e_q0, e_nil, e_cons, e_q, e_qf, e_qt, e_af, z_hd, z_mk1, z_lg, z_s1, z_s2, z_kl, z_en, z_kI, z_fv, z_ic, z_c1, z_sh, z_pop, z_rc, z_tgt, z_tsw, z_lsw, z_nw, z_ac, o_kI, o_kL, o_ldi, o_ldl, o_lda, o_sti, o_sta, o_stl, o_inc, o_b2, o_bz, o_l2, o_lz, o_ls, o_lneg, o_i2l, o_l2i, o_lcmp, o_dup, o_dupx1, o_dup2, o_if, o_if2, o_ifnull, o_get, o_put, o_iald, o_zald, o_aald, o_alen, o_iast, o_zast, o_aast, o_new, o_newa, o_call, o_call1, o_callN, o_obj, o_reti, o_retl, o_ret, o_tsw, o_lsw, va_rf_s, va_rf_n, z_u2_s, z_u2_k, z_u2_f, z_uR_f, z_uL_f, e_ix, e_vp, e_lt, e_le, e_eq, e_lt0, e_eq0, e_b0, e_b1, e_10, e_11, true_or, or_true, false_or, nI_add, z_bi_0, z_bi_1, e_bb, z_uR_s, z_uR_k, z_uL_s, z_uL_k, true_and, and_true, and_self, not_true_eq_false, not_false_eq_true, forall_const, Option.toList, List.cons_append, List.nil_append, List.singleton_append, Nat.reduceAdd, Nat.zero_add, Nat.add_zero, Nat.reduceEqDiff, ↓reduceIte, ite_true, ite_false, reduceCtorEq, Int.cast_ofNat_Int, Int.reduceAdd, Int.reduceToNat, ne_eq, false_imp_iff, true_imp_iff, cl_164, bf_164_0, bf_164_10, bf_164_32, bf_164_35, bf_164_47, bo_164_0, bo_164_10, bo_164_32, bo_164_35, bo_164_47, hS, hs, hw]
  refine ⟨fun c2 => ?_, fun c2 => ?_⟩
  · rw [c2] at hQ
    exact hQ _ hM fun _ _ => rfl
  rw [Bool.not_eq_false] at c2
  rw [c2] at hQ
  refine k_inI (by omega) (by omega) ?_
  simp (disch := omega) only [e_q0, e_nil, e_cons, e_q, e_qf, e_qt, e_af, z_hd, z_mk1, z_lg, z_s1, z_s2, z_kl, z_en, z_kI, z_fv, z_ic, z_c1, z_sh, z_pop, z_rc, z_tgt, z_tsw, z_lsw, z_nw, z_ac, o_kI, o_kL, o_ldi, o_ldl, o_lda, o_sti, o_sta, o_stl, o_inc, o_b2, o_bz, o_l2, o_lz, o_ls, o_lneg, o_i2l, o_l2i, o_lcmp, o_dup, o_dupx1, o_dup2, o_if, o_if2, o_ifnull, o_get, o_put, o_iald, o_zald, o_aald, o_alen, o_iast, o_zast, o_aast, o_new, o_newa, o_call, o_call1, o_callN, o_obj, o_reti, o_retl, o_ret, o_tsw, o_lsw, va_rf_s, va_rf_n, z_u2_s, z_u2_k, z_u2_f, z_uR_f, z_uL_f, e_ix, e_vp, e_lt, e_le, e_eq, e_lt0, e_eq0, e_b0, e_b1, e_10, e_11, true_or, or_true, false_or, nI_add, z_bi_0, z_bi_1, e_bb, z_uR_s, z_uR_k, z_uL_s, z_uL_k, true_and, and_true, and_self, not_true_eq_false, not_false_eq_true, forall_const, Option.toList, List.cons_append, List.nil_append, List.singleton_append, Nat.reduceAdd, Nat.zero_add, Nat.add_zero, Nat.reduceEqDiff, ↓reduceIte, ite_true, ite_false, reduceCtorEq, Int.cast_ofNat_Int, Int.reduceAdd, Int.reduceToNat, ne_eq, false_imp_iff, true_imp_iff, cl_164, bf_164_0, bf_164_10, bf_164_32, bf_164_35, bf_164_47, bo_164_0, bo_164_10, bo_164_32, bo_164_35, bo_164_47, hS, hs, hw, a6]
  refine ⟨fun c3 => ?_, fun c3 => ?_⟩
  · rw [c3] at hQ
    exact hQ _ hM fun _ _ => rfl
  rw [Bool.not_eq_false] at c3
  rw [c3] at hQ
  refine ⟨fun c4 => ?_, fun c4 => ?_⟩
  · simp only [c4, Bool.and_self, ↓reduceIte] at hQ
    exact hQ _ hM fun _ _ => rfl
  simp only [c4, Bool.and_self, ↓reduceIte] at hQ
  have ho : A.o < 6 := by omega
  rw [e_vp ho (by omega)]
  refine ⟨trivial, trivial, trivial, ?_⟩
  generalize hg : z_u2 (z_u2 (z_u2 (z_u2 mi 387 A.o x) 388 A.o n) 389 A.o i) 373 21 (nI (A.o + 1)) = g
  have e1 : ∀ c, c ≠ 373 → c ≠ 387 → c ≠ 388 → c ≠ 389 → g c = mi c := fun c c1 c2 c3 c4 => by rw [← hg, z_u2_f c1, z_u2_f c4, z_u2_f c3, z_u2_f c2]
  have e2 : ∀ j, j ≠ 21 → g 373 j = mi 373 j := fun j hj => by rw [← hg, z_u2_k hj, z_u2_a (by omega), z_u2_a (by omega), z_u2_a (by omega)]
  have e3 : g 373 21 = nI (A.o + 1) := by rw [← hg]; exact z_u2_s
  have e4 : ∀ j, g 387 j = if j = A.o then x else mi 387 j := fun j => by
    rw [← hg, z_u2_a (by omega), z_u2_a (by omega), z_u2_a (by omega)]
    by_cases q : j = A.o
    · rw [q, z_u2_s, if_pos rfl]
    · rw [z_u2_k q, if_neg q]
  have e5 : ∀ j, g 388 j = if j = A.o then n else mi 388 j := fun j => by
    rw [← hg, z_u2_a (by omega), z_u2_a (by omega)]
    by_cases q : j = A.o
    · rw [q, z_u2_s, if_pos rfl]
    · rw [z_u2_k q, if_neg q, z_u2_a (by omega)]
  have e6 : ∀ j, g 389 j = if j = A.o then i else mi 389 j := fun j => by
    rw [← hg, z_u2_a (by omega)]
    by_cases q : j = A.o
    · rw [q, z_u2_s, if_pos rfl]
    · rw [z_u2_k q, if_neg q, z_u2_a (by omega), z_u2_a (by omega)]
  refine hQ g ?_ fun c hc => e1 c (by omega) (by omega) (by omega) (by omega)
  obtain ⟨b1, b2⟩ := PM.base hM (f := g) ⟨e2 _ (by omega), e2 _ (by omega), e2 _ (by omega)⟩ (fun c _ _ => e1 c (by omega) (by omega) (by omega) (by omega))
  refine ⟨b1, b2, ?_, ?_, ?_, ⟨e3, ho, fun j hj => ?_⟩, a7⟩
  · rw [e1 381 (by omega) (by omega) (by omega) (by omega), e1 382 (by omega) (by omega) (by omega) (by omega), e1 383 (by omega) (by omega) (by omega) (by omega), e2 23 (by omega)]; exact a3
  · rw [e1 384 (by omega) (by omega) (by omega) (by omega), e2 14 (by omega), e2 15 (by omega)]; exact a4
  · rw [e1 385 (by omega) (by omega) (by omega) (by omega), e1 386 (by omega) (by omega) (by omega) (by omega)]; exact a5
  · rw [e4, e5, e6]
    have hj' : j < A.o + 1 := hj
    by_cases q : j = A.o
    · simp only [ZA.O, q, ↓reduceIte, and_self, Nat.reduceEqDiff]
    · simp only [ZA.O, if_neg q]
      exact a6c j (by omega)
theorem k_undo (hS : SM T mr) (hM : PA A mi ml) (hW : WA A) (hQ : ∀ f, PA (a_undo A).2 f ml → (∀ c, c < 373 → f c = mi c) → Q (some (.int (a_undo A).1)) (f, mr, ml, T)) : z_Ok l G m_Model_undo [.ref 373] (mi, mr, ml, T) Q := by
  have hs := hM.1
  obtain ⟨a1, a2, a3, ⟨a4, a4b, p, hp, a4c, a4d⟩, a5, a6, a7⟩ := id hM
  refine z_okN cz_155.1 (by rw [cl_155]; exact Nat.le_of_ble_eq_true rfl) cz_155.2 (z_run ck_155 4 bf_155_0 ?_)
  simp (disch := omega) only [e_q0, e_nil, e_cons, e_q, e_qf, e_qt, e_af, z_hd, z_mk1, z_lg, z_s1, z_s2, z_kl, z_en, z_kI, z_fv, z_ic, z_c1, z_sh, z_pop, z_rc, z_tgt, z_tsw, z_lsw, z_nw, z_ac, o_kI, o_kL, o_ldi, o_ldl, o_lda, o_sti, o_sta, o_stl, o_inc, o_b2, o_bz, o_l2, o_lz, o_ls, o_lneg, o_i2l, o_l2i, o_lcmp, o_dup, o_dupx1, o_dup2, o_if, o_if2, o_ifnull, o_get, o_put, o_iald, o_zald, o_aald, o_alen, o_iast, o_zast, o_aast, o_new, o_newa, o_call, o_call1, o_callN, o_obj, o_reti, o_retl, o_ret, o_tsw, o_lsw, va_rf_s, va_rf_n, z_u2_s, z_u2_k, z_u2_f, z_uR_f, z_uL_f, e_ix, e_vp, e_lt, e_le, e_eq, e_lt0, e_eq0, e_b0, e_b1, e_10, e_11, true_or, or_true, false_or, nI_add, z_bi_0, z_bi_1, e_bb, z_uR_s, z_uR_k, z_uL_s, z_uL_k, true_and, and_true, and_self, not_true_eq_false, not_false_eq_true, forall_const, Option.toList, List.cons_append, List.nil_append, List.singleton_append, Nat.reduceAdd, Nat.zero_add, Nat.add_zero, Nat.reduceEqDiff, ↓reduceIte, ite_true, ite_false, reduceCtorEq, Int.cast_ofNat_Int, Int.reduceAdd, Int.reduceToNat, ne_eq, false_imp_iff, true_imp_iff, cl_155, bf_155_0, bf_155_10, bf_155_38, bf_155_70, bo_155_0, bo_155_10, bo_155_38, bo_155_70, hS, a4, a4c]
  refine ⟨fun c => ?_, fun c => ?_⟩
  · unfold a_undo at hQ
    rw [if_pos c] at hQ
    exact hQ _ hM fun _ _ => rfl
  unfold a_undo at hQ
  rw [if_neg c] at hQ
  rw [pk_sub (by omega : 1 ≤ p + 14), show z_rem (nI (p + 14 - 1)) (nI 14) = nI ((p + 14 - 1) % 14) from pk_rem (by omega) (by omega) (by omega), pk_sub (by omega : 1 ≤ A.h)]
  have hq : (p + 14 - 1) % 14 < 14 := Nat.mod_lt _ (by omega)
  have hL : ∀ j, j + 1 < A.h → ∀ k, k < 78 → mi 384 (78 * (((p + 14 - 1) % 14 + 13 - j) % 14) + k) = A.H (j + 1) k := fun j hj k hk => by
    rw [show ((p + 14 - 1) % 14 + 13 - j) % 14 = (p + 13 - (j + 1)) % 14 by omega]
    exact a4d _ hj k hk
  have h0 : ∀ k, k < 78 → mi 384 (78 * ((p + 14 - 1) % 14) + k) = A.H 0 k := fun k hk => by
    rw [show (p + 14 - 1) % 14 = (p + 13 - 0) % 14 by omega]
    exact a4d _ (by omega) k hk
  generalize hqe : (p + 14 - 1) % 14 = q at hq hL h0 ⊢
  generalize hg : z_u2 (z_u2 mi 373 14 (nI (A.h - 1))) 373 15 (nI q) = g
  have e1 : ∀ c, c ≠ 373 → g c = mi c := fun c c1 => by rw [← hg, z_u2_f c1, z_u2_f c1]
  have e2 : ∀ j, j ≠ 14 → j ≠ 15 → g 373 j = mi 373 j := fun j c1 c2 => by rw [← hg, z_u2_k c2, z_u2_k c1]
  have e3 : g 373 15 = nI q := by rw [← hg]; exact z_u2_s
  have e4 : g 373 14 = nI (A.h - 1) := by rw [← hg, z_u2_k (by omega)]; exact z_u2_s
  refine z_for (P := fun k f => (∀ c j, f c j = if c = 381 then (if j < k then A.H 0 j else A.r j) else g c j) → z_W l G 155 (T.2.1, T.2.2) (fun v M' => Q v M' ∧ M'.2.2.2 = T) 38 [some (.ref 373), some (.int (nI k))] [] (f, mr, ml, T)) 78 (fun f hf => ?_) (fun k hk ih f hf => ?_) 0 (by omega) g (fun c j => by
    by_cases q : c = 381
    · rw [if_pos q, if_neg (Nat.not_lt_zero _), q, e1 _ (by omega), a3.1]
    · rw [if_neg q])
  · have f3 : f 373 = g 373 := z_sw hf (by omega)
    have f1 : ∀ c, c ≠ 373 → c ≠ 381 → f c = mi c := fun c c1 c2 => by rw [z_sw hf c2, e1 c c1]
    refine z_run ck_155 4 bf_155_38 ?_
    simp (disch := omega) only [e_q0, e_nil, e_cons, e_q, e_qf, e_qt, e_af, z_hd, z_mk1, z_lg, z_s1, z_s2, z_kl, z_en, z_kI, z_fv, z_ic, z_c1, z_sh, z_pop, z_rc, z_tgt, z_tsw, z_lsw, z_nw, z_ac, o_kI, o_kL, o_ldi, o_ldl, o_lda, o_sti, o_sta, o_stl, o_inc, o_b2, o_bz, o_l2, o_lz, o_ls, o_lneg, o_i2l, o_l2i, o_lcmp, o_dup, o_dupx1, o_dup2, o_if, o_if2, o_ifnull, o_get, o_put, o_iald, o_zald, o_aald, o_alen, o_iast, o_zast, o_aast, o_new, o_newa, o_call, o_call1, o_callN, o_obj, o_reti, o_retl, o_ret, o_tsw, o_lsw, va_rf_s, va_rf_n, z_u2_s, z_u2_k, z_u2_f, z_uR_f, z_uL_f, e_ix, e_vp, e_lt, e_le, e_eq, e_lt0, e_eq0, e_b0, e_b1, e_10, e_11, true_or, or_true, false_or, nI_add, z_bi_0, z_bi_1, e_bb, z_uR_s, z_uR_k, z_uL_s, z_uL_k, true_and, and_true, and_self, not_true_eq_false, not_false_eq_true, forall_const, Option.toList, List.cons_append, List.nil_append, List.singleton_append, Nat.reduceAdd, Nat.zero_add, Nat.add_zero, Nat.reduceEqDiff, ↓reduceIte, ite_true, ite_false, reduceCtorEq, Int.cast_ofNat_Int, Int.reduceAdd, Int.reduceToNat, ne_eq, false_imp_iff, true_imp_iff, cl_155, bf_155_0, bf_155_10, bf_155_38, bf_155_70, bo_155_0, bo_155_10, bo_155_38, bo_155_70, hS, f3, e4, Nat.le_refl]
    refine hQ f ?_ fun c hc => f1 c (by omega) (by omega)
    obtain ⟨b1, b2⟩ := PM.base hM (f := f) ⟨by rw [f3, e2 _ (by omega) (by omega)], by rw [f3, e2 _ (by omega) (by omega)], by rw [f3, e2 _ (by omega) (by omega)]⟩ (fun c _ _ => f1 c (by omega) (by omega))
    refine ⟨b1, b2, ⟨?_, ?_, ?_, ?_⟩, ⟨by rw [f3]; exact e4, Nat.le_trans (Nat.sub_le _ _) a4b, q, hq, by rw [f3]; exact e3, fun j hj k hk => ?_⟩, ?_, ⟨?_, ?_⟩, a7⟩
    · funext j
      rw [hf, if_pos rfl]
      by_cases q : j < 78
      · rw [if_pos q]
      · rw [if_neg q, hW.2.1.2.2 j (by omega)]
        exact ((hW.2.2.1 0 (by omega)).2.2 j (by omega)).symm
    · rw [f1 _ (by omega) (by omega)]; exact a3.2.1
    · rw [f1 _ (by omega) (by omega)]; exact a3.2.2.1
    · rw [f3, e2 _ (by omega) (by omega)]; exact a3.2.2.2
    · rw [f1 _ (by omega) (by omega)]
      have hj' : j < A.h - 1 := hj
      exact hL j (by omega) k hk
    · rw [f1 _ (by omega) (by omega), f1 _ (by omega) (by omega)]; exact a5
    · rw [f3, e2 _ (by omega) (by omega)]; exact a6.1
    · rw [f1 387 (by omega) (by omega), f1 388 (by omega) (by omega), f1 389 (by omega) (by omega)]; exact a6.2
  · have f3 : f 373 = g 373 := z_sw hf (by omega)
    have f4 : f 384 = mi 384 := by rw [z_sw hf (by omega), e1 _ (by omega)]
    refine z_run ck_155 4 bf_155_38 ?_
    simp (disch := omega) only [e_q0, e_nil, e_cons, e_q, e_qf, e_qt, e_af, z_hd, z_mk1, z_lg, z_s1, z_s2, z_kl, z_en, z_kI, z_fv, z_ic, z_c1, z_sh, z_pop, z_rc, z_tgt, z_tsw, z_lsw, z_nw, z_ac, o_kI, o_kL, o_ldi, o_ldl, o_lda, o_sti, o_sta, o_stl, o_inc, o_b2, o_bz, o_l2, o_lz, o_ls, o_lneg, o_i2l, o_l2i, o_lcmp, o_dup, o_dupx1, o_dup2, o_if, o_if2, o_ifnull, o_get, o_put, o_iald, o_zald, o_aald, o_alen, o_iast, o_zast, o_aast, o_new, o_newa, o_call, o_call1, o_callN, o_obj, o_reti, o_retl, o_ret, o_tsw, o_lsw, va_rf_s, va_rf_n, z_u2_s, z_u2_k, z_u2_f, z_uR_f, z_uL_f, e_ix, e_vp, e_lt, e_le, e_eq, e_lt0, e_eq0, e_b0, e_b1, e_10, e_11, true_or, or_true, false_or, nI_add, z_bi_0, z_bi_1, e_bb, z_uR_s, z_uR_k, z_uL_s, z_uL_k, true_and, and_true, and_self, not_true_eq_false, not_false_eq_true, forall_const, Option.toList, List.cons_append, List.nil_append, List.singleton_append, Nat.reduceAdd, Nat.zero_add, Nat.add_zero, Nat.reduceEqDiff, ↓reduceIte, ite_true, ite_false, reduceCtorEq, Int.cast_ofNat_Int, Int.reduceAdd, Int.reduceToNat, ne_eq, false_imp_iff, true_imp_iff, cl_155, bf_155_0, bf_155_10, bf_155_38, bf_155_70, bo_155_0, bo_155_10, bo_155_38, bo_155_70, hS, f3, f4, e3, pk_mul, Nat.not_le.mpr, hk]
    rw [h0 k hk]
    refine ih _ (z_rw (z_ru hf) fun j => ?_)
    by_cases q : j = k
    · rw [if_pos q, if_pos (by omega), q]
    · rw [if_neg q]
      by_cases q2 : j < k
      · rw [if_pos q2, if_pos (by omega)]
      · rw [if_neg q2, if_neg (by omega)]
theorem k_keep {x : Int32} (hS : SM T mr) (hM : PA A mi ml) (hQ : ∀ f, PA (a_keep A x).2 f ml → (∀ c, c < 373 → f c = mi c) → Q (some (.int (a_keep A x).1)) (f, mr, ml, T)) : z_Ok l G m_Model_keep [.ref 373, .int x] (mi, mr, ml, T) Q := by
  have hs := hM.1
  obtain ⟨a1, a2, a3, a4, a5, a6, a7⟩ := id hM
  unfold a_keep at hQ
  refine z_okN cz_173.1 (by rw [cl_173]; exact Nat.le_of_ble_eq_true rfl) cz_173.2 (z_run ck_173 4 bf_173_0 ?_)
  simp (disch := omega) only [e_q0, e_nil, e_cons, e_q, e_qf, e_qt, e_af, z_hd, z_mk1, z_lg, z_s1, z_s2, z_kl, z_en, z_kI, z_fv, z_ic, z_c1, z_sh, z_pop, z_rc, z_tgt, z_tsw, z_lsw, z_nw, z_ac, o_kI, o_kL, o_ldi, o_ldl, o_lda, o_sti, o_sta, o_stl, o_inc, o_b2, o_bz, o_l2, o_lz, o_ls, o_lneg, o_i2l, o_l2i, o_lcmp, o_dup, o_dupx1, o_dup2, o_if, o_if2, o_ifnull, o_get, o_put, o_iald, o_zald, o_aald, o_alen, o_iast, o_zast, o_aast, o_new, o_newa, o_call, o_call1, o_callN, o_obj, o_reti, o_retl, o_ret, o_tsw, o_lsw, va_rf_s, va_rf_n, z_u2_s, z_u2_k, z_u2_f, z_uR_f, z_uL_f, e_ix, e_vp, e_lt, e_le, e_eq, e_lt0, e_eq0, e_b0, e_b1, e_10, e_11, true_or, or_true, false_or, nI_add, z_bi_0, z_bi_1, e_bb, z_uR_s, z_uR_k, z_uL_s, z_uL_k, true_and, and_true, and_self, not_true_eq_false, not_false_eq_true, forall_const, Option.toList, List.cons_append, List.nil_append, List.singleton_append, Nat.reduceAdd, Nat.zero_add, Nat.add_zero, Nat.reduceEqDiff, ↓reduceIte, ite_true, ite_false, reduceCtorEq, Int.cast_ofNat_Int, Int.reduceAdd, Int.reduceToNat, ne_eq, false_imp_iff, true_imp_iff, cl_173, bf_173_0, bf_173_12, bf_173_21, bf_173_50, bo_173_0, bo_173_12, bo_173_21, bo_173_50, hS]
  refine k_inI (by omega) (by omega) ?_
  simp (disch := omega) only [e_q0, e_nil, e_cons, e_q, e_qf, e_qt, e_af, z_hd, z_mk1, z_lg, z_s1, z_s2, z_kl, z_en, z_kI, z_fv, z_ic, z_c1, z_sh, z_pop, z_rc, z_tgt, z_tsw, z_lsw, z_nw, z_ac, o_kI, o_kL, o_ldi, o_ldl, o_lda, o_sti, o_sta, o_stl, o_inc, o_b2, o_bz, o_l2, o_lz, o_ls, o_lneg, o_i2l, o_l2i, o_lcmp, o_dup, o_dupx1, o_dup2, o_if, o_if2, o_ifnull, o_get, o_put, o_iald, o_zald, o_aald, o_alen, o_iast, o_zast, o_aast, o_new, o_newa, o_call, o_call1, o_callN, o_obj, o_reti, o_retl, o_ret, o_tsw, o_lsw, va_rf_s, va_rf_n, z_u2_s, z_u2_k, z_u2_f, z_uR_f, z_uL_f, e_ix, e_vp, e_lt, e_le, e_eq, e_lt0, e_eq0, e_b0, e_b1, e_10, e_11, true_or, or_true, false_or, nI_add, z_bi_0, z_bi_1, e_bb, z_uR_s, z_uR_k, z_uL_s, z_uL_k, true_and, and_true, and_self, not_true_eq_false, not_false_eq_true, forall_const, Option.toList, List.cons_append, List.nil_append, List.singleton_append, Nat.reduceAdd, Nat.zero_add, Nat.add_zero, Nat.reduceEqDiff, ↓reduceIte, ite_true, ite_false, reduceCtorEq, Int.cast_ofNat_Int, Int.reduceAdd, Int.reduceToNat, ne_eq, false_imp_iff, true_imp_iff, cl_173, bf_173_0, bf_173_12, bf_173_21, bf_173_50, bo_173_0, bo_173_12, bo_173_21, bo_173_50, hS]
  refine ⟨fun c => ?_, fun c => ?_⟩
  · rw [c] at hQ
    exact hQ _ hM fun _ _ => rfl
  rw [Bool.not_eq_false] at c
  rw [c] at hQ
  obtain ⟨t, _, ht, rfl⟩ := f_in_t (by omega) (by omega) c
  rw [e_ix (by omega)] at hQ
  simp (disch := omega) only [e_q0, e_nil, e_cons, e_q, e_qf, e_qt, e_af, z_hd, z_mk1, z_lg, z_s1, z_s2, z_kl, z_en, z_kI, z_fv, z_ic, z_c1, z_sh, z_pop, z_rc, z_tgt, z_tsw, z_lsw, z_nw, z_ac, o_kI, o_kL, o_ldi, o_ldl, o_lda, o_sti, o_sta, o_stl, o_inc, o_b2, o_bz, o_l2, o_lz, o_ls, o_lneg, o_i2l, o_l2i, o_lcmp, o_dup, o_dupx1, o_dup2, o_if, o_if2, o_ifnull, o_get, o_put, o_iald, o_zald, o_aald, o_alen, o_iast, o_zast, o_aast, o_new, o_newa, o_call, o_call1, o_callN, o_obj, o_reti, o_retl, o_ret, o_tsw, o_lsw, va_rf_s, va_rf_n, z_u2_s, z_u2_k, z_u2_f, z_uR_f, z_uL_f, e_ix, e_vp, e_lt, e_le, e_eq, e_lt0, e_eq0, e_b0, e_b1, e_10, e_11, true_or, or_true, false_or, nI_add, z_bi_0, z_bi_1, e_bb, z_uR_s, z_uR_k, z_uL_s, z_uL_k, true_and, and_true, and_self, not_true_eq_false, not_false_eq_true, forall_const, Option.toList, List.cons_append, List.nil_append, List.singleton_append, Nat.reduceAdd, Nat.zero_add, Nat.add_zero, Nat.reduceEqDiff, ↓reduceIte, ite_true, ite_false, reduceCtorEq, Int.cast_ofNat_Int, Int.reduceAdd, Int.reduceToNat, ne_eq, false_imp_iff, true_imp_iff, cl_173, bf_173_0, bf_173_12, bf_173_21, bf_173_50, bo_173_0, bo_173_12, bo_173_21, bo_173_50, hS]
  have u1 : ∀ c, c ≠ 386 → z_u2 mi 386 t (nI 1) c = mi c := fun c hc => z_u2_f hc
  have u2 : z_u2 mi 386 t (nI 1) 386 t = nI 1 := z_u2_s
  have u3 : ∀ j, j ≠ t → z_u2 mi 386 t (nI 1) 386 j = mi 386 j := fun j hj => z_u2_k hj
  generalize z_u2 mi 386 t (nI 1) = g at u1 u2 u3
  refine z_for (P := fun k f => (∀ c j, f c j = if c = 385 then (if 78 * t ≤ j ∧ j < 78 * t + k then A.r (j - 78 * t) else mi 385 j) else g c j) → z_W l G 173 (T.2.1, T.2.2) (fun v M' => Q v M' ∧ M'.2.2.2 = T) 21 [some (.ref 373), some (.int (nI t)), some (.int (nI k))] [] (f, mr, ml, T)) 78 (fun f hf => ?_) (fun k hk ih f hf => ?_) 0 (by omega) g (fun c j => by
    by_cases q : c = 385
    · rw [if_pos q, if_neg (by omega), q, u1 _ (by omega)]
    · rw [if_neg q])
  · have f1 : ∀ c, c ≠ 385 → c ≠ 386 → f c = mi c := fun c c1 c2 => by rw [z_sw hf c1, u1 c c2]
    have f2 : f 386 = g 386 := z_sw hf (by omega)
    refine z_run ck_173 4 bf_173_21 ?_
    simp (disch := omega) only [e_q0, e_nil, e_cons, e_q, e_qf, e_qt, e_af, z_hd, z_mk1, z_lg, z_s1, z_s2, z_kl, z_en, z_kI, z_fv, z_ic, z_c1, z_sh, z_pop, z_rc, z_tgt, z_tsw, z_lsw, z_nw, z_ac, o_kI, o_kL, o_ldi, o_ldl, o_lda, o_sti, o_sta, o_stl, o_inc, o_b2, o_bz, o_l2, o_lz, o_ls, o_lneg, o_i2l, o_l2i, o_lcmp, o_dup, o_dupx1, o_dup2, o_if, o_if2, o_ifnull, o_get, o_put, o_iald, o_zald, o_aald, o_alen, o_iast, o_zast, o_aast, o_new, o_newa, o_call, o_call1, o_callN, o_obj, o_reti, o_retl, o_ret, o_tsw, o_lsw, va_rf_s, va_rf_n, z_u2_s, z_u2_k, z_u2_f, z_uR_f, z_uL_f, e_ix, e_vp, e_lt, e_le, e_eq, e_lt0, e_eq0, e_b0, e_b1, e_10, e_11, true_or, or_true, false_or, nI_add, z_bi_0, z_bi_1, e_bb, z_uR_s, z_uR_k, z_uL_s, z_uL_k, true_and, and_true, and_self, not_true_eq_false, not_false_eq_true, forall_const, Option.toList, List.cons_append, List.nil_append, List.singleton_append, Nat.reduceAdd, Nat.zero_add, Nat.add_zero, Nat.reduceEqDiff, ↓reduceIte, ite_true, ite_false, reduceCtorEq, Int.cast_ofNat_Int, Int.reduceAdd, Int.reduceToNat, ne_eq, false_imp_iff, true_imp_iff, cl_173, bf_173_0, bf_173_12, bf_173_21, bf_173_50, bo_173_0, bo_173_12, bo_173_21, bo_173_50, hS, Nat.le_refl]
    rw [f1 381 (by omega) (by omega), a3.1]
    refine hQ f ?_ fun c hc => f1 c (by omega) (by omega)
    obtain ⟨b1, b2⟩ := PM.base hM (f := f) ⟨by rw [f1 _ (by omega) (by omega)], by rw [f1 _ (by omega) (by omega)], by rw [f1 _ (by omega) (by omega)]⟩ (fun c _ _ => f1 c (by omega) (by omega))
    refine ⟨b1, b2, ?_, ?_, fun t' ht' => ⟨?_, fun k hk => ?_⟩, ?_, a7⟩
    · rw [f1 381 (by omega) (by omega), f1 382 (by omega) (by omega), f1 383 (by omega) (by omega), f1 373 (by omega) (by omega)]; exact a3
    · rw [f1 373 (by omega) (by omega), f1 384 (by omega) (by omega)]; exact a4
    · rw [f2]
      by_cases q : t' = t
      · rw [q, u2]; exact (if_pos rfl).symm
      · rw [u3 _ q, (a5 t' ht').1]; exact (if_neg q).symm
    · rw [hf, if_pos rfl]
      by_cases q : t' = t
      · rw [q, if_pos (by omega)]
        simp only [ZA.K, ↓reduceIte]
        congr 1
        omega
      · rw [if_neg (by omega), (a5 t' ht').2 k hk]
        show A.K t' k = (if t' = t then A.r else A.K t') k
        rw [if_neg q]
    · rw [f1 373 (by omega) (by omega), f1 387 (by omega) (by omega), f1 388 (by omega) (by omega), f1 389 (by omega) (by omega)]; exact a6
  · have f1 : ∀ c, c ≠ 385 → c ≠ 386 → f c = mi c := fun c c1 c2 => by rw [z_sw hf c1, u1 c c2]
    have f3 : f 381 = A.r := by rw [f1 _ (by omega) (by omega), a3.1]
    refine z_run ck_173 4 bf_173_21 ?_
    simp (disch := omega) only [e_q0, e_nil, e_cons, e_q, e_qf, e_qt, e_af, z_hd, z_mk1, z_lg, z_s1, z_s2, z_kl, z_en, z_kI, z_fv, z_ic, z_c1, z_sh, z_pop, z_rc, z_tgt, z_tsw, z_lsw, z_nw, z_ac, o_kI, o_kL, o_ldi, o_ldl, o_lda, o_sti, o_sta, o_stl, o_inc, o_b2, o_bz, o_l2, o_lz, o_ls, o_lneg, o_i2l, o_l2i, o_lcmp, o_dup, o_dupx1, o_dup2, o_if, o_if2, o_ifnull, o_get, o_put, o_iald, o_zald, o_aald, o_alen, o_iast, o_zast, o_aast, o_new, o_newa, o_call, o_call1, o_callN, o_obj, o_reti, o_retl, o_ret, o_tsw, o_lsw, va_rf_s, va_rf_n, z_u2_s, z_u2_k, z_u2_f, z_uR_f, z_uL_f, e_ix, e_vp, e_lt, e_le, e_eq, e_lt0, e_eq0, e_b0, e_b1, e_10, e_11, true_or, or_true, false_or, nI_add, z_bi_0, z_bi_1, e_bb, z_uR_s, z_uR_k, z_uL_s, z_uL_k, true_and, and_true, and_self, not_true_eq_false, not_false_eq_true, forall_const, Option.toList, List.cons_append, List.nil_append, List.singleton_append, Nat.reduceAdd, Nat.zero_add, Nat.add_zero, Nat.reduceEqDiff, ↓reduceIte, ite_true, ite_false, reduceCtorEq, Int.cast_ofNat_Int, Int.reduceAdd, Int.reduceToNat, ne_eq, false_imp_iff, true_imp_iff, cl_173, bf_173_0, bf_173_12, bf_173_21, bf_173_50, bo_173_0, bo_173_12, bo_173_21, bo_173_50, hS, f3, pk_mul, Nat.not_le.mpr, hk]
    refine ih _ (z_rw (z_ru hf) fun j => ?_)
    by_cases q : j = 78 * t + k
    · rw [if_pos q, if_pos (by omega), q]
      congr 1
      omega
    · rw [if_neg q]
      by_cases q2 : 78 * t ≤ j ∧ j < 78 * t + k
      · rw [if_pos q2, if_pos (by omega)]
      · rw [if_neg q2, if_neg (by omega)]
theorem k_again {x : Int32} (hS : SM T mr) (hM : PA A mi ml) (hW : WA A) (hQ : ∀ f, PA (a_again A x).2 f ml → (∀ c, c < 373 → f c = mi c) → Q (some (.int (a_again A x).1)) (f, mr, ml, T)) : z_Ok l G m_Model_again [.ref 373, .int x] (mi, mr, ml, T) Q := by
  have hs := hM.1
  obtain ⟨a1, a2, a3, a4, a5, a6, a7⟩ := id hM
  unfold a_again at hQ
  refine z_okN cz_174.1 (by rw [cl_174]; exact Nat.le_of_ble_eq_true rfl) cz_174.2 (z_run ck_174 5 bf_174_0 ?_)
  simp (disch := omega) only [e_q0, e_nil, e_cons, e_q, e_qf, e_qt, e_af, z_hd, z_mk1, z_lg, z_s1, z_s2, z_kl, z_en, z_kI, z_fv, z_ic, z_c1, z_sh, z_pop, z_rc, z_tgt, z_tsw, z_lsw, z_nw, z_ac, o_kI, o_kL, o_ldi, o_ldl, o_lda, o_sti, o_sta, o_stl, o_inc, o_b2, o_bz, o_l2, o_lz, o_ls, o_lneg, o_i2l, o_l2i, o_lcmp, o_dup, o_dupx1, o_dup2, o_if, o_if2, o_ifnull, o_get, o_put, o_iald, o_zald, o_aald, o_alen, o_iast, o_zast, o_aast, o_new, o_newa, o_call, o_call1, o_callN, o_obj, o_reti, o_retl, o_ret, o_tsw, o_lsw, va_rf_s, va_rf_n, z_u2_s, z_u2_k, z_u2_f, z_uR_f, z_uL_f, e_ix, e_vp, e_lt, e_le, e_eq, e_lt0, e_eq0, e_b0, e_b1, e_10, e_11, true_or, or_true, false_or, nI_add, z_bi_0, z_bi_1, e_bb, z_uR_s, z_uR_k, z_uL_s, z_uL_k, true_and, and_true, and_self, not_true_eq_false, not_false_eq_true, forall_const, Option.toList, List.cons_append, List.nil_append, List.singleton_append, Nat.reduceAdd, Nat.zero_add, Nat.add_zero, Nat.reduceEqDiff, ↓reduceIte, ite_true, ite_false, reduceCtorEq, Int.cast_ofNat_Int, Int.reduceAdd, Int.reduceToNat, ne_eq, false_imp_iff, true_imp_iff, cl_174, bf_174_0, bf_174_12, bf_174_24, bf_174_26, bf_174_55, bo_174_0, bo_174_12, bo_174_24, bo_174_26, bo_174_55, hS]
  refine k_inI (by omega) (by omega) ?_
  simp (disch := omega) only [e_q0, e_nil, e_cons, e_q, e_qf, e_qt, e_af, z_hd, z_mk1, z_lg, z_s1, z_s2, z_kl, z_en, z_kI, z_fv, z_ic, z_c1, z_sh, z_pop, z_rc, z_tgt, z_tsw, z_lsw, z_nw, z_ac, o_kI, o_kL, o_ldi, o_ldl, o_lda, o_sti, o_sta, o_stl, o_inc, o_b2, o_bz, o_l2, o_lz, o_ls, o_lneg, o_i2l, o_l2i, o_lcmp, o_dup, o_dupx1, o_dup2, o_if, o_if2, o_ifnull, o_get, o_put, o_iald, o_zald, o_aald, o_alen, o_iast, o_zast, o_aast, o_new, o_newa, o_call, o_call1, o_callN, o_obj, o_reti, o_retl, o_ret, o_tsw, o_lsw, va_rf_s, va_rf_n, z_u2_s, z_u2_k, z_u2_f, z_uR_f, z_uL_f, e_ix, e_vp, e_lt, e_le, e_eq, e_lt0, e_eq0, e_b0, e_b1, e_10, e_11, true_or, or_true, false_or, nI_add, z_bi_0, z_bi_1, e_bb, z_uR_s, z_uR_k, z_uL_s, z_uL_k, true_and, and_true, and_self, not_true_eq_false, not_false_eq_true, forall_const, Option.toList, List.cons_append, List.nil_append, List.singleton_append, Nat.reduceAdd, Nat.zero_add, Nat.add_zero, Nat.reduceEqDiff, ↓reduceIte, ite_true, ite_false, reduceCtorEq, Int.cast_ofNat_Int, Int.reduceAdd, Int.reduceToNat, ne_eq, false_imp_iff, true_imp_iff, cl_174, bf_174_0, bf_174_12, bf_174_24, bf_174_26, bf_174_55, bo_174_0, bo_174_12, bo_174_24, bo_174_26, bo_174_55, hS]
  refine ⟨fun c => ?_, fun c => ?_⟩
  · rw [c] at hQ
    exact hQ _ hM fun _ _ => rfl
  rw [Bool.not_eq_false] at c
  rw [c] at hQ
  obtain ⟨t, _, ht, rfl⟩ := f_in_t (by omega) (by omega) c
  rw [e_ix (by omega)] at hQ
  have b5 := (a5 t (by omega)).1
  simp (disch := omega) only [e_q0, e_nil, e_cons, e_q, e_qf, e_qt, e_af, z_hd, z_mk1, z_lg, z_s1, z_s2, z_kl, z_en, z_kI, z_fv, z_ic, z_c1, z_sh, z_pop, z_rc, z_tgt, z_tsw, z_lsw, z_nw, z_ac, o_kI, o_kL, o_ldi, o_ldl, o_lda, o_sti, o_sta, o_stl, o_inc, o_b2, o_bz, o_l2, o_lz, o_ls, o_lneg, o_i2l, o_l2i, o_lcmp, o_dup, o_dupx1, o_dup2, o_if, o_if2, o_ifnull, o_get, o_put, o_iald, o_zald, o_aald, o_alen, o_iast, o_zast, o_aast, o_new, o_newa, o_call, o_call1, o_callN, o_obj, o_reti, o_retl, o_ret, o_tsw, o_lsw, va_rf_s, va_rf_n, z_u2_s, z_u2_k, z_u2_f, z_uR_f, z_uL_f, e_ix, e_vp, e_lt, e_le, e_eq, e_lt0, e_eq0, e_b0, e_b1, e_10, e_11, true_or, or_true, false_or, nI_add, z_bi_0, z_bi_1, e_bb, z_uR_s, z_uR_k, z_uL_s, z_uL_k, true_and, and_true, and_self, not_true_eq_false, not_false_eq_true, forall_const, Option.toList, List.cons_append, List.nil_append, List.singleton_append, Nat.reduceAdd, Nat.zero_add, Nat.add_zero, Nat.reduceEqDiff, ↓reduceIte, ite_true, ite_false, reduceCtorEq, Int.cast_ofNat_Int, Int.reduceAdd, Int.reduceToNat, ne_eq, false_imp_iff, true_imp_iff, cl_174, bf_174_0, bf_174_12, bf_174_24, bf_174_26, bf_174_55, bo_174_0, bo_174_12, bo_174_24, bo_174_26, bo_174_55, hS, b5]
  refine ⟨fun c3 => ?_, fun c3 => ?_⟩
  · simp only [c3, ↓reduceIte] at hQ
    exact hQ _ hM fun _ _ => rfl
  simp only [c3, ↓reduceIte] at hQ
  have hk1 : A.fl t = nI 1 := ((hW.2.2.2 t (by omega)).1).resolve_left c3
  have hkk := (hW.2.2.2 t (by omega)).2 hk1
  refine z_for (P := fun k f => (∀ c j, f c j = if c = 381 then (if j < k then A.K t j else A.r j) else mi c j) → z_W l G 174 (T.2.1, T.2.2) (fun v M' => Q v M' ∧ M'.2.2.2 = T) 26 [some (.ref 373), some (.int (nI t)), some (.int (nI k))] [] (f, mr, ml, T)) 78 (fun f hf => ?_) (fun k hk ih f hf => ?_) 0 (by omega) mi (fun c j => by
    by_cases q : c = 381
    · rw [if_pos q, if_neg (Nat.not_lt_zero _), q, a3.1]
    · rw [if_neg q])
  · have f1 : ∀ c, c ≠ 381 → f c = mi c := fun c c1 => z_sw hf c1
    have f2 : f 381 = A.K t := by
      funext j
      rw [hf, if_pos rfl]
      by_cases q : j < 78
      · rw [if_pos q]
      · rw [if_neg q, hW.2.1.2.2 j (by omega)]
        exact (hkk.2.2 j (by omega)).symm
    refine z_run ck_174 5 bf_174_26 ?_
    simp (disch := omega) only [e_q0, e_nil, e_cons, e_q, e_qf, e_qt, e_af, z_hd, z_mk1, z_lg, z_s1, z_s2, z_kl, z_en, z_kI, z_fv, z_ic, z_c1, z_sh, z_pop, z_rc, z_tgt, z_tsw, z_lsw, z_nw, z_ac, o_kI, o_kL, o_ldi, o_ldl, o_lda, o_sti, o_sta, o_stl, o_inc, o_b2, o_bz, o_l2, o_lz, o_ls, o_lneg, o_i2l, o_l2i, o_lcmp, o_dup, o_dupx1, o_dup2, o_if, o_if2, o_ifnull, o_get, o_put, o_iald, o_zald, o_aald, o_alen, o_iast, o_zast, o_aast, o_new, o_newa, o_call, o_call1, o_callN, o_obj, o_reti, o_retl, o_ret, o_tsw, o_lsw, va_rf_s, va_rf_n, z_u2_s, z_u2_k, z_u2_f, z_uR_f, z_uL_f, e_ix, e_vp, e_lt, e_le, e_eq, e_lt0, e_eq0, e_b0, e_b1, e_10, e_11, true_or, or_true, false_or, nI_add, z_bi_0, z_bi_1, e_bb, z_uR_s, z_uR_k, z_uL_s, z_uL_k, true_and, and_true, and_self, not_true_eq_false, not_false_eq_true, forall_const, Option.toList, List.cons_append, List.nil_append, List.singleton_append, Nat.reduceAdd, Nat.zero_add, Nat.add_zero, Nat.reduceEqDiff, ↓reduceIte, ite_true, ite_false, reduceCtorEq, Int.cast_ofNat_Int, Int.reduceAdd, Int.reduceToNat, ne_eq, false_imp_iff, true_imp_iff, cl_174, bf_174_0, bf_174_12, bf_174_24, bf_174_26, bf_174_55, bo_174_0, bo_174_12, bo_174_24, bo_174_26, bo_174_55, hS, Nat.le_refl]
    rw [f2]
    have u1 : ∀ c, c ≠ 373 → c ≠ 381 → z_u2 f 373 14 (nI 0) c = mi c := fun c c1 c2 => by rw [z_u2_f c1, f1 c c2]
    have u2 : ∀ j, j ≠ 14 → z_u2 f 373 14 (nI 0) 373 j = mi 373 j := fun j hj => by rw [z_u2_k hj, f1 _ (by omega)]
    have u3 : z_u2 f 373 14 (nI 0) 373 14 = nI 0 := z_u2_s
    have u4 : z_u2 f 373 14 (nI 0) 381 = A.K t := by rw [z_u2_f (by omega), f2]
    generalize z_u2 f 373 14 (nI 0) = g at u1 u2 u3 u4
    refine hQ g ?_ fun c hc => u1 c (by omega) (by omega)
    obtain ⟨b1, b2⟩ := PM.base hM (f := g) ⟨u2 _ (by omega), u2 _ (by omega), u2 _ (by omega)⟩ (fun c _ _ => u1 c (by omega) (by omega))
    refine ⟨b1, b2, ⟨u4, ?_, ?_, ?_⟩, ⟨u3, Nat.zero_le _, ?_⟩, ?_, ?_, a7⟩
    · rw [u1 _ (by omega) (by omega)]; exact a3.2.1
    · rw [u1 _ (by omega) (by omega)]; exact a3.2.2.1
    · rw [u2 _ (by omega)]; exact a3.2.2.2
    · obtain ⟨p, hp, hp2, _⟩ := a4.2.2
      exact ⟨p, hp, by rw [u2 _ (by omega)]; exact hp2, fun j hj => absurd hj (Nat.not_lt_zero _)⟩
    · rw [u1 385 (by omega) (by omega), u1 386 (by omega) (by omega)]; exact a5
    · rw [u2 21 (by omega), u1 387 (by omega) (by omega), u1 388 (by omega) (by omega), u1 389 (by omega) (by omega)]; exact a6
  · have f4 : f 385 = mi 385 := z_sw hf (by omega)
    have b6 := (a5 t (by omega)).2 k hk
    refine z_run ck_174 5 bf_174_26 ?_
    simp (disch := omega) only [e_q0, e_nil, e_cons, e_q, e_qf, e_qt, e_af, z_hd, z_mk1, z_lg, z_s1, z_s2, z_kl, z_en, z_kI, z_fv, z_ic, z_c1, z_sh, z_pop, z_rc, z_tgt, z_tsw, z_lsw, z_nw, z_ac, o_kI, o_kL, o_ldi, o_ldl, o_lda, o_sti, o_sta, o_stl, o_inc, o_b2, o_bz, o_l2, o_lz, o_ls, o_lneg, o_i2l, o_l2i, o_lcmp, o_dup, o_dupx1, o_dup2, o_if, o_if2, o_ifnull, o_get, o_put, o_iald, o_zald, o_aald, o_alen, o_iast, o_zast, o_aast, o_new, o_newa, o_call, o_call1, o_callN, o_obj, o_reti, o_retl, o_ret, o_tsw, o_lsw, va_rf_s, va_rf_n, z_u2_s, z_u2_k, z_u2_f, z_uR_f, z_uL_f, e_ix, e_vp, e_lt, e_le, e_eq, e_lt0, e_eq0, e_b0, e_b1, e_10, e_11, true_or, or_true, false_or, nI_add, z_bi_0, z_bi_1, e_bb, z_uR_s, z_uR_k, z_uL_s, z_uL_k, true_and, and_true, and_self, not_true_eq_false, not_false_eq_true, forall_const, Option.toList, List.cons_append, List.nil_append, List.singleton_append, Nat.reduceAdd, Nat.zero_add, Nat.add_zero, Nat.reduceEqDiff, ↓reduceIte, ite_true, ite_false, reduceCtorEq, Int.cast_ofNat_Int, Int.reduceAdd, Int.reduceToNat, ne_eq, false_imp_iff, true_imp_iff, cl_174, bf_174_0, bf_174_12, bf_174_24, bf_174_26, bf_174_55, bo_174_0, bo_174_12, bo_174_24, bo_174_26, bo_174_55, hS, f4, pk_mul, b6, Nat.not_le.mpr, hk]
    refine ih _ (z_rw (z_ru hf) fun j => ?_)
    by_cases q : j = k
    · rw [if_pos q, if_pos (by omega), q]
    · rw [if_neg q]
      by_cases q2 : j < k
      · rw [if_pos q2, if_pos (by omega)]
      · rw [if_neg q2, if_neg (by omega)]
theorem k_seed {v : Int64} (hS : SM T mr) (hM : PA A mi ml) (hQ : ∀ g, PA (a_seed A v).2 mi g → (∀ c, c < 373 → g c = ml c) → Q (some (.long (a_seed A v).1)) (mi, mr, g, T)) : z_Ok l G m_Model_seed [.ref 373, .long v] (mi, mr, ml, T) Q := by
  have hs := hM.1
  obtain ⟨a1, a2, a3, a4, a5, a6, a7⟩ := id hM
  refine z_okN cz_171.1 (by rw [cl_171]; exact Nat.le_of_ble_eq_true rfl) cz_171.2 (z_run ck_171 2 bf_171_0 ?_)
  simp (disch := omega) only [e_q0, e_nil, e_cons, e_q, e_qf, e_qt, e_af, z_hd, z_mk1, z_lg, z_s1, z_s2, z_kl, z_en, z_kI, z_fv, z_ic, z_c1, z_sh, z_pop, z_rc, z_tgt, z_tsw, z_lsw, z_nw, z_ac, o_kI, o_kL, o_ldi, o_ldl, o_lda, o_sti, o_sta, o_stl, o_inc, o_b2, o_bz, o_l2, o_lz, o_ls, o_lneg, o_i2l, o_l2i, o_lcmp, o_dup, o_dupx1, o_dup2, o_if, o_if2, o_ifnull, o_get, o_put, o_iald, o_zald, o_aald, o_alen, o_iast, o_zast, o_aast, o_new, o_newa, o_call, o_call1, o_callN, o_obj, o_reti, o_retl, o_ret, o_tsw, o_lsw, va_rf_s, va_rf_n, z_u2_s, z_u2_k, z_u2_f, z_uR_f, z_uL_f, e_ix, e_vp, e_lt, e_le, e_eq, e_lt0, e_eq0, e_b0, e_b1, e_10, e_11, true_or, or_true, false_or, nI_add, z_bi_0, z_bi_1, e_bb, z_uR_s, z_uR_k, z_uL_s, z_uL_k, true_and, and_true, and_self, not_true_eq_false, not_false_eq_true, forall_const, Option.toList, List.cons_append, List.nil_append, List.singleton_append, Nat.reduceAdd, Nat.zero_add, Nat.add_zero, Nat.reduceEqDiff, ↓reduceIte, ite_true, ite_false, reduceCtorEq, Int.cast_ofNat_Int, Int.reduceAdd, Int.reduceToNat, ne_eq, false_imp_iff, true_imp_iff, cl_171, bf_171_0, bo_171_0, hS, a7]
  exact hQ _ ⟨a1, a2, a3, a4, a5, a6, z_uL_s⟩ fun c hc => by rw [z_uL_f (by omega)]
end
