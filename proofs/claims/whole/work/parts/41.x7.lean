/-! the choice is the reference's -/
theorem f_good_ne {s : ZS} {co : Int32} {A : ZW} {b n : Nat} (h : f_good s co A b n = true) : b ≠ n := by
  unfold f_good at h
  simp only [Bool.and_eq_true, decide_eq_true_eq] at h
  exact h.1
theorem f_good_off {s : ZS} {co : Int32} {r : ZW} {B b n : Nat} (hs : f_sok s) (hr : f_row s B r) (hB : B ≤ 1000000) (hb : b < s.1.1) (hn : n < s.1.1) (h : f_good s co r b n = true) : f_offers s co r b = true := by
  unfold f_good at h
  simp only [Bool.and_eq_true, decide_eq_true_eq] at h
  obtain ⟨k, _, _, ho, _⟩ := (f_price_some hs hr hB hb hn).mp h.2.1
  exact ho
/-- the class's three numbers where the reference has v -/
def x_nrm (v : Int32 × Int32 × Int32) : Int32 × Int32 × Int32 := if v.1 = z_ng 9 then (z_ng 9, z_ng 9, z_ng 9) else v
theorem x_nrm_1 {v : Int32 × Int32 × Int32} : (x_nrm v).1 = v.1 := by
  unfold x_nrm
  by_cases c : v.1 = z_ng 9
  · rw [if_pos c, c]
  · rw [if_neg c]
theorem x_c1_eq {s : ZS} {co : Int32} {r : ZW} {B n : Nat} (hs : f_sok s) (hr : f_row s B r) (hB : B ≤ 1000000) (hn : n < s.1.1) : x_c1 s r n (x_hrd s co r n s.1.2) = x_nrm (f_st1 s co r n) := by
  unfold x_c1 f_st1
  rw [x_hrd_par hs hr hB hn]
  cases q : f_par r n with
  | none => exact (if_pos rfl).symm
  | some p =>
    obtain ⟨hp, e⟩ := f_par_lt hr.1.2.1 hs.1.1 hn q
    have h8 := hs.1.1
    by_cases c : f_good s co r p n = true
    · simp only [c, if_true]
      exact (if_neg (by show ¬ r n = z_ng 9; rw [e]; exact nI_ng (by omega))).symm
    · simp only [c, if_false]
      exact (if_pos rfl).symm
theorem x_c2_eq {s : ZS} {co : Int32} {r : ZW} {B n : Nat} (hs : f_sok s) (hr : f_row s B r) (hB : B ≤ 1000000) (hn : n < s.1.1) : x_c2 s r n (x_hrd s co r n s.1.2) = x_nrm (f_st2 s co r n) := by
  unfold x_c2 f_st2
  rw [x_hrd_best hs hr hB hn, x_c1_eq hs hr hB hn]
  cases q : f_best s co r n s.1.1 with
  | none => rfl
  | some b =>
    obtain ⟨hb, hg⟩ := f_best_ok q
    have h8 := hs.1.1
    have e1 : ∀ v : Int32 × Int32 × Int32, ∀ p : Int32, ((x_nrm v).1 = z_ng 9 ∨ p + r 75 < (x_nrm v).2.1) = (v.1 = z_ng 9 ∨ p + r 75 < v.2.1) := fun v p => by
      unfold x_nrm
      by_cases c : v.1 = z_ng 9
      · rw [if_pos c]; exact propext ⟨fun _ => Or.inl c, fun _ => Or.inl rfl⟩
      · rw [if_neg c]
    have e2 : x_nrm (nI b, f_price s co r b n, f_seq s r b) = (nI b, f_price s co r b n, f_seq s r b) := if_neg (nI_ng (by omega))
    show (if (x_nrm (f_st1 s co r n)).1 = z_ng 9 ∨ f_price s co r b n + r 75 < (x_nrm (f_st1 s co r n)).2.1 then (nI b, f_price s co r b n, f_seq s r b) else x_nrm (f_st1 s co r n)) = x_nrm (if (f_st1 s co r n).1 = z_ng 9 ∨ f_price s co r b n + r 75 < (f_st1 s co r n).2.1 then (nI b, f_price s co r b n, f_seq s r b) else f_st1 s co r n)
    by_cases c : (f_st1 s co r n).1 = z_ng 9 ∨ f_price s co r b n + r 75 < (f_st1 s co r n).2.1
    · rw [if_pos ((e1 _ _).mpr c), if_pos c, e2]
    · rw [if_neg (fun q => c ((e1 _ _).mp q)), if_neg c]
/-- the node's fields after its choice -/
theorem x_new_eq {s : ZS} {co : Int32} {r : ZW} {n : Nat} {v : Int32 × Int32 × Int32} (h : v = x_nrm (f_st2 s co r n)) : v.1 = (f_new s co r n).1 ∧ v.2.1 = (if (f_new s co r n).1 = z_ng 9 then z_ng 9 else (f_new s co r n).2.1) ∧ v.2.2 = (if (f_new s co r n).1 = z_ng 9 then z_ng 9 else (f_new s co r n).2.2.1) ∧ (x_c3 r n v).1 = (f_new s co r n).2.2.2.1 ∧ (x_c3 r n v).2 = (f_new s co r n).2.2.2.2 := by
  subst h
  unfold x_nrm f_new x_c3
  by_cases c : (f_st2 s co r n).1 = z_ng 9
  · simp only [c, if_true]; exact ⟨trivial, trivial, trivial, trivial, trivial⟩
  · simp only [c, if_false]
    by_cases c2 : r (24 + n) < (f_st2 s co r n).2.2
    · simp only [c, c2, if_true, if_false]; exact ⟨trivial, trivial, trivial, trivial, trivial⟩
    · by_cases c3 : (f_st2 s co r n).2.1 < r (32 + n)
      · simp only [c, c2, c3, if_true, if_false]; exact ⟨trivial, trivial, trivial, trivial, trivial⟩
      · simp only [c, c2, c3, if_false]; exact ⟨trivial, trivial, trivial, trivial, trivial⟩
/-- all that other meshes and the reference have -/
abbrev FX (f mi : Nat → Nat → Int32) (g mr : Nat → Nat → Option Nat) (a : Nat) : Prop := (∀ c, ¬ (a ≤ c ∧ c < a + 20) → f c = mi c) ∧ ∀ c, ¬ (a + 2 ≤ c ∧ c < a + 10) → g c = mr c
theorem SX.of {T : (Nat → Nat × Nat) × Nat × Nat} {mr g : Nat → Nat → Option Nat} {a : Nat} (h : SX T mr a) (e : ∀ c, ¬ (a + 2 ≤ c ∧ c < a + 10) → g c = mr c) : SX T g a := by
  unfold SX at *
  rw [e a (by omega), e (a + 1) (by omega), e (a + 10) (by omega)]
  exact h
/-- in a round: the nodes' offers, and what they have heard -/
abbrev RX (f : Nat → Nat → Int32) (g : Nat → Nat → Option Nat) (a : Nat) (s : ZS) (co : Int32) (r : ZW) (t : Nat → ZH) : Prop := ∀ i, i < s.1.1 → NX (f (a + 2 + i)) s r i ∧ OX (f (a + 2 + i)) s co r i ∧ HX (f (a + 2 + i)) (g (a + 2 + i)) a (t i)
abbrev GX (f mi : Nat → Nat → Int32) (g mr : Nat → Nat → Option Nat) (a : Nat) : Prop := ∀ c, ¬ (a + 2 ≤ c ∧ c < a + 10) → f c = mi c ∧ g c = mr c
theorem x_hrd_lt {s : ZS} {co : Int32} {r : ZW} {n : Nat} (hs : f_sok s) (hn : n < s.1.1) {K : Nat} (hK : K ≤ s.1.2) : ∀ q, (x_hrd s co r n K).2.2 = some q → q.1 < s.1.1 := fun q hq => by
  have := x_hrd_3 (s := s) (co := co) (r := r) (n := n) K
  rw [hq] at this
  obtain ⟨k, hk, hf, _⟩ := this.1
  exact (x_from_some hs hn (by omega) hf).2.1
section
variable {l : Launch} {G : ZG} {mi : Nat → Nat → Int32} {mr : Nat → Nat → Option Nat} {ml : Nat → Nat → Int64} {T : (Nat → Nat × Nat) × Nat × Nat} {Q : ZR} {a : Nat} {s : ZS} {r : ZW}
theorem x_hasNode' {x : Int32} {n : Nat} (h1 : T.1 a = (1, 2)) (h2 : mi a 2 = nI n) (h : Q (some (.int (z_bi (f_idx x n)))) (mi, mr, ml, T)) : z_Ok l G m_Mesh_hasNode [.ref a, .int x] (mi, mr, ml, T) Q := by
  refine z_okN cz_14.1 (by rw [cl_14]; exact Nat.le_of_ble_eq_true rfl) cz_14.2 (z_run ck_14 4 bf_14_0 ?_)
  simp (disch := omega) only [e_q0, e_nil, e_cons, e_q, e_qf, e_qt, e_af, z_hd, z_mk1, z_lg, z_s1, z_s2, z_kl, z_en, z_kI, z_fv, z_ic, z_c1, z_sh, z_pop, z_rc, z_tgt, z_tsw, z_lsw, z_nw, z_ac, o_kI, o_kL, o_ldi, o_ldl, o_lda, o_sti, o_sta, o_stl, o_inc, o_b2, o_bz, o_l2, o_lz, o_ls, o_lneg, o_i2l, o_l2i, o_lcmp, o_dup, o_dupx1, o_dup2, o_if, o_if2, o_ifnull, o_get, o_put, o_iald, o_zald, o_aald, o_alen, o_iast, o_zast, o_aast, o_new, o_newa, o_call, o_call1, o_callN, o_obj, o_reti, o_retl, o_ret, o_tsw, o_lsw, va_rf_s, va_rf_n, z_u2_s, z_u2_k, z_u2_f, z_uR_f, z_uL_f, e_ix, e_vp, e_lt, e_le, e_eq, e_lt0, e_eq0, e_b0, e_b1, e_10, e_11, true_or, or_true, false_or, nI_add, z_bi_0, z_bi_1, e_bb, z_uR_s, z_uR_k, z_uL_s, z_uL_k, true_and, and_true, and_self, not_true_eq_false, not_false_eq_true, forall_const, Option.toList, List.cons_append, List.nil_append, List.singleton_append, Nat.reduceAdd, Nat.zero_add, Nat.add_zero, Nat.reduceEqDiff, ↓reduceIte, ite_true, ite_false, reduceCtorEq, Int.cast_ofNat_Int, Int.reduceAdd, Int.reduceToNat, ne_eq, false_imp_iff, true_imp_iff, cl_14, bf_14_0, bf_14_16, bf_14_17, bo_14_0, bo_14_16, bo_14_17, h1, h2]
  exact x_idx h
theorem x_exchangeOffers {k : Nat} {co : Int32} {t : Nat → ZH} (hS : SX T mr a) (hc : mi a 2 = nI s.1.1) (hL : LX (mi (a + 11 + k)) s r k) (hs : f_sok s) (hk : k < s.1.2) (hR : RX mi mr a s co r t) (ht : ∀ i, i < s.1.1 → ∀ q, (t i).2.2 = some q → q.1 < 1000)
    (h : ∀ f g, GX f mi g mr a → RX f g a s co r (fun i => x_lk s co r i k (t i)) → Q none (f, g, ml, T)) :
    z_Ok l G m_Mesh_exchangeOffers [.ref a, .ref (a + 11 + k)] (mi, mr, ml, T) Q := by
  have h8 := hs.1
  have h1 := hS.1
  have h3 := hS.2.2 k (by omega)
  obtain ⟨A, B, hA, hB, hAB, eA, eB⟩ := hs.2.2.1.1 k hk
  have qA := hS.2.1 A (by omega)
  have qB := hS.2.1 B (by omega)
  have iA : f_idx (nI A) s.1.1 = true := f_idx_nI (by omega) hA
  have iB : f_idx (nI B) s.1.1 = true := f_idx_nI (by omega) hB
  have nk : ∀ i, i < 8 → a + 11 + k ≠ a + 2 + i := fun i hi => by omega
  have fr : ∀ i, i < s.1.1 → x_from s r i k = if r (58 + k) = 0 then (if A = i then some B else if B = i then some A else none) else none := fun i hi => by
    unfold x_from
    rw [eA, eB]
    simp (disch := omega) only [e_eq, e_ix]
  refine z_okN cz_24.1 (by rw [cl_24]; exact Nat.le_of_ble_eq_true rfl) cz_24.2 (z_run ck_24 4 bf_24_0 ?_)
  simp (disch := omega) only [e_q0, e_nil, e_cons, e_q, e_qf, e_qt, e_af, z_hd, z_mk1, z_lg, z_s1, z_s2, z_kl, z_en, z_kI, z_fv, z_ic, z_c1, z_sh, z_pop, z_rc, z_tgt, z_tsw, z_lsw, z_nw, z_ac, o_kI, o_kL, o_ldi, o_ldl, o_lda, o_sti, o_sta, o_stl, o_inc, o_b2, o_bz, o_l2, o_lz, o_ls, o_lneg, o_i2l, o_l2i, o_lcmp, o_dup, o_dupx1, o_dup2, o_if, o_if2, o_ifnull, o_get, o_put, o_iald, o_zald, o_aald, o_alen, o_iast, o_zast, o_aast, o_new, o_newa, o_call, o_call1, o_callN, o_obj, o_reti, o_retl, o_ret, o_tsw, o_lsw, va_rf_s, va_rf_n, z_u2_s, z_u2_k, z_u2_f, z_uR_f, z_uL_f, e_ix, e_vp, e_lt, e_le, e_eq, e_lt0, e_eq0, e_b0, e_b1, e_10, e_11, true_or, or_true, false_or, nI_add, z_bi_0, z_bi_1, e_bb, z_uR_s, z_uR_k, z_uL_s, z_uL_k, true_and, and_true, and_self, not_true_eq_false, not_false_eq_true, forall_const, Option.toList, List.cons_append, List.nil_append, List.singleton_append, Nat.reduceAdd, Nat.zero_add, Nat.add_zero, Nat.reduceEqDiff, ↓reduceIte, ite_true, ite_false, reduceCtorEq, Int.cast_ofNat_Int, Int.reduceAdd, Int.reduceToNat, ne_eq, false_imp_iff, true_imp_iff, cl_24, bf_24_0, bf_24_29, bf_24_30, bo_24_0, bo_24_29, bo_24_30, h1, h3, hL, eA, eB]
  refine ⟨fun c => ?_, fun c => ?_⟩
  · refine x_hasNode' h1.1 hc ?_
    rw [iA]
    simp (disch := omega) only [e_q0, e_nil, e_cons, e_q, e_qf, e_qt, e_af, z_hd, z_mk1, z_lg, z_s1, z_s2, z_kl, z_en, z_kI, z_fv, z_ic, z_c1, z_sh, z_pop, z_rc, z_tgt, z_tsw, z_lsw, z_nw, z_ac, o_kI, o_kL, o_ldi, o_ldl, o_lda, o_sti, o_sta, o_stl, o_inc, o_b2, o_bz, o_l2, o_lz, o_ls, o_lneg, o_i2l, o_l2i, o_lcmp, o_dup, o_dupx1, o_dup2, o_if, o_if2, o_ifnull, o_get, o_put, o_iald, o_zald, o_aald, o_alen, o_iast, o_zast, o_aast, o_new, o_newa, o_call, o_call1, o_callN, o_obj, o_reti, o_retl, o_ret, o_tsw, o_lsw, va_rf_s, va_rf_n, z_u2_s, z_u2_k, z_u2_f, z_uR_f, z_uL_f, e_ix, e_vp, e_lt, e_le, e_eq, e_lt0, e_eq0, e_b0, e_b1, e_10, e_11, true_or, or_true, false_or, nI_add, z_bi_0, z_bi_1, e_bb, z_uR_s, z_uR_k, z_uL_s, z_uL_k, true_and, and_true, and_self, not_true_eq_false, not_false_eq_true, forall_const, Option.toList, List.cons_append, List.nil_append, List.singleton_append, Nat.reduceAdd, Nat.zero_add, Nat.add_zero, Nat.reduceEqDiff, ↓reduceIte, ite_true, ite_false, reduceCtorEq, Int.cast_ofNat_Int, Int.reduceAdd, Int.reduceToNat, ne_eq, false_imp_iff, true_imp_iff, cl_24, bf_24_0, bf_24_29, bf_24_30, bo_24_0, bo_24_29, bo_24_30, h1, h3, hL, eA, eB, z_bi]
    refine x_hasNode' h1.1 hc ?_
    rw [iB]
    simp (disch := omega) only [e_q0, e_nil, e_cons, e_q, e_qf, e_qt, e_af, z_hd, z_mk1, z_lg, z_s1, z_s2, z_kl, z_en, z_kI, z_fv, z_ic, z_c1, z_sh, z_pop, z_rc, z_tgt, z_tsw, z_lsw, z_nw, z_ac, o_kI, o_kL, o_ldi, o_ldl, o_lda, o_sti, o_sta, o_stl, o_inc, o_b2, o_bz, o_l2, o_lz, o_ls, o_lneg, o_i2l, o_l2i, o_lcmp, o_dup, o_dupx1, o_dup2, o_if, o_if2, o_ifnull, o_get, o_put, o_iald, o_zald, o_aald, o_alen, o_iast, o_zast, o_aast, o_new, o_newa, o_call, o_call1, o_callN, o_obj, o_reti, o_retl, o_ret, o_tsw, o_lsw, va_rf_s, va_rf_n, z_u2_s, z_u2_k, z_u2_f, z_uR_f, z_uL_f, e_ix, e_vp, e_lt, e_le, e_eq, e_lt0, e_eq0, e_b0, e_b1, e_10, e_11, true_or, or_true, false_or, nI_add, z_bi_0, z_bi_1, e_bb, z_uR_s, z_uR_k, z_uL_s, z_uL_k, true_and, and_true, and_self, not_true_eq_false, not_false_eq_true, forall_const, Option.toList, List.cons_append, List.nil_append, List.singleton_append, Nat.reduceAdd, Nat.zero_add, Nat.add_zero, Nat.reduceEqDiff, ↓reduceIte, ite_true, ite_false, reduceCtorEq, Int.cast_ofNat_Int, Int.reduceAdd, Int.reduceToNat, ne_eq, false_imp_iff, true_imp_iff, cl_24, bf_24_0, bf_24_29, bf_24_30, bo_24_0, bo_24_29, bo_24_30, h1, h3, hL, eA, eB, z_bi, qA, qB, z_t4, z_t5, z_t6]
    refine x_hearC (n := A) (m := B) (co := co) (t := t A) qA.1 qB.1 (hR A hA).1 (hR B hB).2.1 (hR A hA).2.2 (by omega) (by omega) (ht A hA) fun f g f1 f2 f3 => ?_
    have e1 : f (a + 11 + k) = mi (a + 11 + k) := (f1 _ (nk A (by omega))).1
    have eBm : f (a + 2 + B) = mi (a + 2 + B) ∧ g (a + 2 + B) = mr (a + 2 + B) := f1 _ (by omega)
    simp (disch := omega) only [e_q0, e_nil, e_cons, e_q, e_qf, e_qt, e_af, z_hd, z_mk1, z_lg, z_s1, z_s2, z_kl, z_en, z_kI, z_fv, z_ic, z_c1, z_sh, z_pop, z_rc, z_tgt, z_tsw, z_lsw, z_nw, z_ac, o_kI, o_kL, o_ldi, o_ldl, o_lda, o_sti, o_sta, o_stl, o_inc, o_b2, o_bz, o_l2, o_lz, o_ls, o_lneg, o_i2l, o_l2i, o_lcmp, o_dup, o_dupx1, o_dup2, o_if, o_if2, o_ifnull, o_get, o_put, o_iald, o_zald, o_aald, o_alen, o_iast, o_zast, o_aast, o_new, o_newa, o_call, o_call1, o_callN, o_obj, o_reti, o_retl, o_ret, o_tsw, o_lsw, va_rf_s, va_rf_n, z_u2_s, z_u2_k, z_u2_f, z_uR_f, z_uL_f, e_ix, e_vp, e_lt, e_le, e_eq, e_lt0, e_eq0, e_b0, e_b1, e_10, e_11, true_or, or_true, false_or, nI_add, z_bi_0, z_bi_1, e_bb, z_uR_s, z_uR_k, z_uL_s, z_uL_k, true_and, and_true, and_self, not_true_eq_false, not_false_eq_true, forall_const, Option.toList, List.cons_append, List.nil_append, List.singleton_append, Nat.reduceAdd, Nat.zero_add, Nat.add_zero, Nat.reduceEqDiff, ↓reduceIte, ite_true, ite_false, reduceCtorEq, Int.cast_ofNat_Int, Int.reduceAdd, Int.reduceToNat, ne_eq, false_imp_iff, true_imp_iff, cl_24, bf_24_0, bf_24_29, bf_24_30, bo_24_0, bo_24_29, bo_24_30, h3, e1, hL, eA, eB, qA, qB]
    refine x_hearC (mi := f) (mr := g) (n := B) (m := A) (co := co) (t := t B) qB.1 qA.1 (by rw [eBm.1]; exact (hR B hB).1) (OX.cong (hR A hA).2.1 fun j _ hj => f2 j hj) (by rw [eBm.1, eBm.2]; exact (hR B hB).2.2) (by omega) (by omega) (ht B hB) fun f' g' f1' f2' f3' => ?_
    simp (disch := omega) only [e_q0, e_nil, e_cons, e_q, e_qf, e_qt, e_af, z_hd, z_mk1, z_lg, z_s1, z_s2, z_kl, z_en, z_kI, z_fv, z_ic, z_c1, z_sh, z_pop, z_rc, z_tgt, z_tsw, z_lsw, z_nw, z_ac, o_kI, o_kL, o_ldi, o_ldl, o_lda, o_sti, o_sta, o_stl, o_inc, o_b2, o_bz, o_l2, o_lz, o_ls, o_lneg, o_i2l, o_l2i, o_lcmp, o_dup, o_dupx1, o_dup2, o_if, o_if2, o_ifnull, o_get, o_put, o_iald, o_zald, o_aald, o_alen, o_iast, o_zast, o_aast, o_new, o_newa, o_call, o_call1, o_callN, o_obj, o_reti, o_retl, o_ret, o_tsw, o_lsw, va_rf_s, va_rf_n, z_u2_s, z_u2_k, z_u2_f, z_uR_f, z_uL_f, e_ix, e_vp, e_lt, e_le, e_eq, e_lt0, e_eq0, e_b0, e_b1, e_10, e_11, true_or, or_true, false_or, nI_add, z_bi_0, z_bi_1, e_bb, z_uR_s, z_uR_k, z_uL_s, z_uL_k, true_and, and_true, and_self, not_true_eq_false, not_false_eq_true, forall_const, Option.toList, List.cons_append, List.nil_append, List.singleton_append, Nat.reduceAdd, Nat.zero_add, Nat.add_zero, Nat.reduceEqDiff, ↓reduceIte, ite_true, ite_false, reduceCtorEq, Int.cast_ofNat_Int, Int.reduceAdd, Int.reduceToNat, ne_eq, false_imp_iff, true_imp_iff, cl_24, bf_24_0, bf_24_29, bf_24_30, bo_24_0, bo_24_29, bo_24_30]
    refine h f' g' (fun c hc => ?_) fun i hi => ?_
    · have n1 : c ≠ a + 2 + A := by omega
      have n2 : c ≠ a + 2 + B := by omega
      rw [(f1' c n2).1, (f1' c n2).2]
      exact f1 c n1
    · have fri := fr i hi
      rw [if_pos c] at fri
      show NX (f' (a + 2 + i)) s r i ∧ OX (f' (a + 2 + i)) s co r i ∧ HX (f' (a + 2 + i)) (g' (a + 2 + i)) a (x_lk s co r i k (t i))
      unfold x_lk
      by_cases cA : A = i
      · subst cA
        rw [if_pos rfl] at fri
        have w := f1' (a + 2 + A) (by omega)
        rw [fri, w.1, w.2]
        exact ⟨NX.cong (hR A hA).1 fun j hj => f2 j (by omega), OX.cong (hR A hA).2.1 fun j _ hj => f2 j hj, f3⟩
      · rw [if_neg cA] at fri
        by_cases cB : B = i
        · subst cB
          rw [if_pos rfl] at fri
          rw [fri]
          exact ⟨NX.cong (hR B hB).1 fun j hj => by rw [f2' j (by omega), eBm.1], OX.cong (hR B hB).2.1 fun j _ hj => by rw [f2' j hj, eBm.1], f3'⟩
        · rw [if_neg cB] at fri
          have w1 := f1' (a + 2 + i) (by omega)
          have w2 := f1 (a + 2 + i) (by omega)
          rw [fri, w1.1, w1.2, w2.1, w2.2]
          exact hR i hi
  · refine h mi mr (fun _ _ => ⟨rfl, rfl⟩) fun i hi => ?_
    have fri := fr i hi
    rw [if_neg c] at fri
    show NX (mi (a + 2 + i)) s r i ∧ OX (mi (a + 2 + i)) s co r i ∧ HX (mi (a + 2 + i)) (mr (a + 2 + i)) a (x_lk s co r i k (t i))
    unfold x_lk
    rw [fri]
    exact hR i hi
end
