/-! what a round leaves alone -/
theorem f_put_hi {r : ZW} {n : Nat} {v : Int32 × Int32 × Int32 × Int32 × Int32} (hn : n < 8) {j : Nat} (hj : 40 ≤ j) : f_put r n v j = r j := by
  unfold f_put
  rw [if_neg (by omega), if_neg (by omega), if_neg (by omega), if_neg (by omega), if_neg (by omega)]
theorem f_rows_hi {s : ZS} {co : Int32} {A : ZW} : ∀ k, k ≤ 8 → ∀ j, 40 ≤ j → f_rows s co A k j = A j
  | 0, _, j, _ => rfl
  | k + 1, hk, j, hj => by
    unfold f_rows
    split
    · rw [f_put_hi (by omega) hj]; exact f_rows_hi k (by omega) j hj
    · exact f_rows_hi k (by omega) j hj
theorem f_rows_a {s : ZS} {co : Int32} {A : ZW} {k : Nat} (h : f_acts s A k = true) : f_rows s co A (k + 1) = f_put (f_rows s co A k) k (f_new s co A k) := if_pos h
theorem f_rows_n {s : ZS} {co : Int32} {A : ZW} {k : Nat} (h : f_acts s A k = false) : f_rows s co A (k + 1) = f_rows s co A k := if_neg (by rw [h]; simp)
theorem f_put_ne {r : ZW} {n m i : Nat} {v : Int32 × Int32 × Int32 × Int32 × Int32} (hn : n < 8) (hi : i < 8) (hne : i ≠ n) : f_put r n v (8 * m + i) = r (8 * m + i) := by
  unfold f_put
  rw [if_neg (by omega), if_neg (by omega), if_neg (by omega), if_neg (by omega), if_neg (by omega)]
theorem f_rows_at {s : ZS} {co : Int32} {A : ZW} (m i : Nat) (hi : i < 8) : ∀ k, k ≤ i → f_rows s co A k (8 * m + i) = A (8 * m + i)
  | 0, _ => rfl
  | k + 1, hk => by
    unfold f_rows
    split
    · rw [f_put_ne (by omega) hi (by omega)]; exact f_rows_at m i hi k (by omega)
    · exact f_rows_at m i hi k (by omega)
theorem f_go_hi {s : ZS} {co : Int32} {A : ZW} (hn : s.1.1 ≤ 8) {j : Nat} (hj : 40 ≤ j) (h6 : j ≠ 76) (h7 : j ≠ 77) : f_go s co A j = A j := by
  unfold f_go
  rw [if_neg h7, if_neg h6]
  exact f_rows_hi _ hn j hj
theorem f_go_pos {s : ZS} {co : Int32} {A : ZW} (hs : s.1.1 ≤ 8 ∧ s.1.2 ≤ 9) (h : f_pos s A) : f_pos s (f_go s co A) := by
  intro k hk
  rw [f_go_hi hs.1 (by omega) (by omega) (by omega), f_go_hi hs.1 (by omega) (by omega) (by omega)]
  exact h k hk
theorem f_go_z {s : ZS} {co : Int32} {A : ZW} (hs : s.1.1 ≤ 8) (h : z_hi A) : z_hi (f_go s co A) := by
  intro j hj
  rw [f_go_hi hs (by omega) (by omega) (by omega)]
  exact h j hj
theorem f_st1_ok {s : ZS} {co : Int32} {A : ZW} {n : Nat} (hp : A n = z_ng 9 ∨ ∃ j, j < s.1.1 ∧ A n = nI j) : (f_st1 s co A n).1 = z_ng 9 ∨ ∃ j, j < s.1.1 ∧ (f_st1 s co A n).1 = nI j := by
  unfold f_st1
  cases hq : f_par A n with
  | none => exact Or.inl rfl
  | some p =>
    simp only
    split
    · exact hp
    · exact Or.inl rfl
theorem f_st2_ok {s : ZS} {co : Int32} {A : ZW} {n : Nat} (hp : A n = z_ng 9 ∨ ∃ j, j < s.1.1 ∧ A n = nI j) : (f_st2 s co A n).1 = z_ng 9 ∨ ∃ j, j < s.1.1 ∧ (f_st2 s co A n).1 = nI j := by
  unfold f_st2
  cases hq : f_best s co A n s.1.1 with
  | none => exact f_st1_ok hp
  | some b =>
    simp only
    split
    · exact Or.inr ⟨b, f_best_lt _ _ hq, rfl⟩
    · exact f_st1_ok hp
theorem f_new_ok {s : ZS} {co : Int32} {A : ZW} {n : Nat} (hp : A n = z_ng 9 ∨ ∃ j, j < s.1.1 ∧ A n = nI j) : (f_new s co A n).1 = z_ng 9 ∨ ∃ j, j < s.1.1 ∧ (f_new s co A n).1 = nI j := by
  unfold f_new
  split
  · exact Or.inl rfl
  · split
    · exact f_st2_ok hp
    · split
      · exact f_st2_ok hp
      · exact f_st2_ok hp
theorem f_rows_ok {s : ZS} {co : Int32} {A : ZW} (hs : s.1.1 ≤ 8) (hp : f_pok A s.1.1) : ∀ k, k ≤ s.1.1 → f_pok (f_rows s co A k) s.1.1
  | 0, _ => hp
  | k + 1, hk => by
    have ih := f_rows_ok (co := co) hs hp k (by omega)
    unfold f_rows
    split
    · intro i hi
      by_cases e : i = k
      · subst e
        have : f_put (f_rows s co A i) i (f_new s co A i) i = (f_new s co A i).1 := if_pos rfl
        rw [this]
        exact f_new_ok (hp i hi)
      · have := f_put_ne (r := f_rows s co A k) (n := k) (m := 0) (i := i) (v := f_new s co A k) (by omega) (by omega) e
        rw [Nat.mul_zero, Nat.zero_add] at this
        rw [this]
        exact ih i hi
    · exact ih
theorem f_go_ok {s : ZS} {co : Int32} {A : ZW} (hs : s.1.1 ≤ 8) (hp : f_pok A s.1.1) : f_pok (f_go s co A) s.1.1 := by
  intro i hi
  unfold f_go
  rw [if_neg (by omega), if_neg (by omega)]
  exact f_rows_ok hs hp _ (Nat.le_refl _) i hi
/-- a mesh's leaves have cycles -/
def f_cyc (s : ZS) : Prop := ∀ i, i < s.1.1 → s.2 0 i = nI 2 → ¬ s.2 1 i = 0
/-- all that a row needs for a round -/
def f_rok (s : ZS) (r : ZW) : Prop := f_pos s r ∧ f_pok r s.1.1 ∧ z_hi r
theorem f_go_rok {s : ZS} {co : Int32} {A : ZW} (hs : s.1.1 ≤ 8 ∧ s.1.2 ≤ 9) (h : f_rok s A) : f_rok s (f_go s co A) := ⟨f_go_pos hs h.1, f_go_ok hs.1 h.2.1, f_go_z hs.1 h.2.2⟩
theorem f_gos_rok {s : ZS} {co : Int32} (hs : s.1.1 ≤ 8 ∧ s.1.2 ≤ 9) : ∀ k A, f_rok s A → f_rok s (f_gos s co k A)
  | 0, A, h => h
  | k + 1, A, h => f_gos_rok hs k _ (f_go_rok hs h)
theorem f_gos_s {s : ZS} {co : Int32} : ∀ k A, f_gos s co (k + 1) A = f_go s co (f_gos s co k A)
  | 0, A => rfl
  | k + 1, A => f_gos_s k (f_go s co A)
section
variable {l : Launch} {G : ZG} {mi : Nat → Nat → Int32} {mr : Nat → Nat → Option Nat} {ml : Nat → Nat → Int64} {T : (Nat → Nat × Nat) × Nat × Nat} {Q : ZR}
theorem k_goOn {s : ZS} {w : Nat} (hS : SM T mr) (hs : PMs mi s) (hw : T.1 w = (2, 78)) (hw9 : w = 381 ∨ w = 382) (hr : f_rok s (mi w)) (hz : z_hi (mi 383)) (hc : f_cyc s)
    (h : ∀ f, (∀ c j, f c j = if c = w then f_go s (mi 373 23) (mi w) j else if c = 383 then mi w j else mi c j) → Q none (f, mr, ml, T)) : z_Ok l G m_Model_goOn [.ref 373, .ref w] (mi, mr, ml, T) Q := by
  have h8 := hs.2
  have h383 : T.1 383 = (2, 78) := by rw [hS.1.2.2.2.2.2.2.2.2.2.2.1]
  refine z_okN cz_135.1 (by rw [cl_135]; exact Nat.le_of_ble_eq_true rfl) cz_135.2 (z_run ck_135 9 bf_135_0 ?_)
  simp (disch := omega) only [e_q0, e_nil, e_cons, e_q, e_qf, e_qt, e_af, z_hd, z_mk1, z_lg, z_s1, z_s2, z_kl, z_en, z_kI, z_fv, z_ic, z_c1, z_sh, z_pop, z_rc, z_tgt, z_tsw, z_lsw, z_nw, z_ac, o_kI, o_kL, o_ldi, o_ldl, o_lda, o_sti, o_sta, o_stl, o_inc, o_b2, o_bz, o_l2, o_lz, o_ls, o_lneg, o_i2l, o_l2i, o_lcmp, o_dup, o_dupx1, o_dup2, o_if, o_if2, o_ifnull, o_get, o_put, o_iald, o_zald, o_aald, o_alen, o_iast, o_zast, o_aast, o_new, o_newa, o_call, o_call1, o_callN, o_obj, o_reti, o_retl, o_ret, o_tsw, o_lsw, va_rf_s, va_rf_n, z_u2_s, z_u2_k, z_u2_f, z_uR_f, z_uL_f, e_ix, e_vp, e_lt, e_le, e_eq, e_lt0, e_eq0, e_b0, e_b1, e_10, e_11, true_or, or_true, false_or, nI_add, z_bi_0, z_bi_1, e_bb, z_uR_s, z_uR_k, z_uL_s, z_uL_k, true_and, and_true, and_self, not_true_eq_false, not_false_eq_true, forall_const, Option.toList, List.cons_append, List.nil_append, List.singleton_append, Nat.reduceAdd, Nat.zero_add, Nat.add_zero, Nat.reduceEqDiff, ↓reduceIte, ite_true, ite_false, reduceCtorEq, Int.cast_ofNat_Int, Int.reduceAdd, Int.reduceToNat, ne_eq, false_imp_iff, true_imp_iff, cl_135, bf_135_0, bf_135_12, bf_135_57, bf_135_61, bf_135_62, bf_135_63, bf_135_69, bf_135_82, bf_135_83, bo_135_0, bo_135_12, bo_135_57, bo_135_61, bo_135_62, bo_135_63, bo_135_69, bo_135_82, bo_135_83, hS, hs, hw]
  refine k_copy (a := w) (b := 383) hw h383 (by omega) fun f1 hf1 => ?_
  have h1 : f1 383 = mi w := funext fun j => by
    rw [hf1]
    by_cases c : j < 78
    · rw [if_pos ⟨rfl, c⟩]
    · rw [if_neg (fun q => c q.2), hz j (by omega), hr.2.2 j (by omega)]
  have h2 : ∀ c, c ≠ 383 → f1 c = mi c := fun c q => funext fun j => by rw [hf1, if_neg (fun z => q z.1)]
  clear hf1
  simp (disch := omega) only [e_q0, e_nil, e_cons, e_q, e_qf, e_qt, e_af, z_hd, z_mk1, z_lg, z_s1, z_s2, z_kl, z_en, z_kI, z_fv, z_ic, z_c1, z_sh, z_pop, z_rc, z_tgt, z_tsw, z_lsw, z_nw, z_ac, o_kI, o_kL, o_ldi, o_ldl, o_lda, o_sti, o_sta, o_stl, o_inc, o_b2, o_bz, o_l2, o_lz, o_ls, o_lneg, o_i2l, o_l2i, o_lcmp, o_dup, o_dupx1, o_dup2, o_if, o_if2, o_ifnull, o_get, o_put, o_iald, o_zald, o_aald, o_alen, o_iast, o_zast, o_aast, o_new, o_newa, o_call, o_call1, o_callN, o_obj, o_reti, o_retl, o_ret, o_tsw, o_lsw, va_rf_s, va_rf_n, z_u2_s, z_u2_k, z_u2_f, z_uR_f, z_uL_f, e_ix, e_vp, e_lt, e_le, e_eq, e_lt0, e_eq0, e_b0, e_b1, e_10, e_11, true_or, or_true, false_or, nI_add, z_bi_0, z_bi_1, e_bb, z_uR_s, z_uR_k, z_uL_s, z_uL_k, true_and, and_true, and_self, not_true_eq_false, not_false_eq_true, forall_const, Option.toList, List.cons_append, List.nil_append, List.singleton_append, Nat.reduceAdd, Nat.zero_add, Nat.add_zero, Nat.reduceEqDiff, ↓reduceIte, ite_true, ite_false, reduceCtorEq, Int.cast_ofNat_Int, Int.reduceAdd, Int.reduceToNat, ne_eq, false_imp_iff, true_imp_iff, cl_135, bf_135_0, bf_135_12, bf_135_57, bf_135_61, bf_135_62, bf_135_63, bf_135_69, bf_135_82, bf_135_83, bo_135_0, bo_135_12, bo_135_57, bo_135_61, bo_135_62, bo_135_63, bo_135_69, bo_135_82, bo_135_83, hS, hs, hw]
  refine z_for (P := fun k f => (∀ c j, f c j = if c = w then f_rows s (mi 373 23) (mi w) k j else f1 c j) → z_W l G 135 (T.2.1, T.2.2) (fun v M' => Q v M' ∧ M'.2.2.2 = T) 12 [some (.ref 373), some (.ref w), some (.int (z_bi (f_asks s (mi 373 23) (mi w) k))), some (.int (nI k))] [] (f, mr, ml, T)) s.1.1 (fun f hf => ?_) (fun k hk ih f hf => ?_) 0 (by omega) f1 (fun c j => by
      by_cases q : c = w
      · rw [if_pos q, q, h2 w (by omega)]; rfl
      · rw [if_neg q])
  · have hsf : PMs f s := hs.of fun b q1 q2 => by rw [z_sw hf (by omega), h2 b (by omega)]
    refine z_run ck_135 9 bf_135_12 ?_
    simp (disch := omega) only [e_q0, e_nil, e_cons, e_q, e_qf, e_qt, e_af, z_hd, z_mk1, z_lg, z_s1, z_s2, z_kl, z_en, z_kI, z_fv, z_ic, z_c1, z_sh, z_pop, z_rc, z_tgt, z_tsw, z_lsw, z_nw, z_ac, o_kI, o_kL, o_ldi, o_ldl, o_lda, o_sti, o_sta, o_stl, o_inc, o_b2, o_bz, o_l2, o_lz, o_ls, o_lneg, o_i2l, o_l2i, o_lcmp, o_dup, o_dupx1, o_dup2, o_if, o_if2, o_ifnull, o_get, o_put, o_iald, o_zald, o_aald, o_alen, o_iast, o_zast, o_aast, o_new, o_newa, o_call, o_call1, o_callN, o_obj, o_reti, o_retl, o_ret, o_tsw, o_lsw, va_rf_s, va_rf_n, z_u2_s, z_u2_k, z_u2_f, z_uR_f, z_uL_f, e_ix, e_vp, e_lt, e_le, e_eq, e_lt0, e_eq0, e_b0, e_b1, e_10, e_11, true_or, or_true, false_or, nI_add, z_bi_0, z_bi_1, e_bb, z_uR_s, z_uR_k, z_uL_s, z_uL_k, true_and, and_true, and_self, not_true_eq_false, not_false_eq_true, forall_const, Option.toList, List.cons_append, List.nil_append, List.singleton_append, Nat.reduceAdd, Nat.zero_add, Nat.add_zero, Nat.reduceEqDiff, ↓reduceIte, ite_true, ite_false, reduceCtorEq, Int.cast_ofNat_Int, Int.reduceAdd, Int.reduceToNat, ne_eq, false_imp_iff, true_imp_iff, cl_135, bf_135_0, bf_135_12, bf_135_57, bf_135_61, bf_135_62, bf_135_63, bf_135_69, bf_135_82, bf_135_83, bo_135_0, bo_135_12, bo_135_57, bo_135_61, bo_135_62, bo_135_63, bo_135_69, bo_135_82, bo_135_83, hS, hsf, hw, Nat.le_refl]
    have g6 : f w 76 = mi w 76 := by rw [z_sr hf]; exact f_rows_hi _ h8.1 _ (by omega)
    have g7 : f w 77 = mi w 77 := by rw [z_sr hf]; exact f_rows_hi _ h8.1 _ (by omega)
    have fin : ∀ x, x = (if f_asks s (mi 373 23) (mi w) s.1.1 then nI 1 else nI 0) → Q none (z_u2 (z_u2 f w 76 (mi w 76 + x)) w 77 (mi w 77 + nI 1), mr, ml, T) := by
      intro x hx
      refine h _ fun c j => ?_
      rw [z_ru (z_ru hf)]
      by_cases q : c = w
      · rw [if_pos q, if_pos q]; unfold f_go; rw [hx]
      · rw [if_neg q, if_neg q]
        by_cases q3 : c = 383
        · rw [if_pos q3, q3, h1]
        · rw [if_neg q3, h2 c q3]
    simp only [g6, g7]
    exact ⟨fun q => fin _ (by rw [q]; rfl), fun q => fin _ (by simp only [Bool.not_eq_false] at q; rw [q]; rfl)⟩
  · have hsf : PMs f s := hs.of fun b q1 q2 => by rw [z_sw hf (by omega), h2 b (by omega)]
    have hf9 : f 383 = mi w := by rw [z_sw hf (by omega), h1]
    have hf3 : f 373 = mi 373 := by rw [z_sw hf (by omega), h2 373 (by omega)]
    refine z_run ck_135 9 bf_135_12 ?_
    simp (disch := omega) only [e_q0, e_nil, e_cons, e_q, e_qf, e_qt, e_af, z_hd, z_mk1, z_lg, z_s1, z_s2, z_kl, z_en, z_kI, z_fv, z_ic, z_c1, z_sh, z_pop, z_rc, z_tgt, z_tsw, z_lsw, z_nw, z_ac, o_kI, o_kL, o_ldi, o_ldl, o_lda, o_sti, o_sta, o_stl, o_inc, o_b2, o_bz, o_l2, o_lz, o_ls, o_lneg, o_i2l, o_l2i, o_lcmp, o_dup, o_dupx1, o_dup2, o_if, o_if2, o_ifnull, o_get, o_put, o_iald, o_zald, o_aald, o_alen, o_iast, o_zast, o_aast, o_new, o_newa, o_call, o_call1, o_callN, o_obj, o_reti, o_retl, o_ret, o_tsw, o_lsw, va_rf_s, va_rf_n, z_u2_s, z_u2_k, z_u2_f, z_uR_f, z_uL_f, e_ix, e_vp, e_lt, e_le, e_eq, e_lt0, e_eq0, e_b0, e_b1, e_10, e_11, true_or, or_true, false_or, nI_add, z_bi_0, z_bi_1, e_bb, z_uR_s, z_uR_k, z_uL_s, z_uL_k, true_and, and_true, and_self, not_true_eq_false, not_false_eq_true, forall_const, Option.toList, List.cons_append, List.nil_append, List.singleton_append, Nat.reduceAdd, Nat.zero_add, Nat.add_zero, Nat.reduceEqDiff, ↓reduceIte, ite_true, ite_false, reduceCtorEq, Int.cast_ofNat_Int, Int.reduceAdd, Int.reduceToNat, ne_eq, false_imp_iff, true_imp_iff, cl_135, bf_135_0, bf_135_12, bf_135_57, bf_135_61, bf_135_62, bf_135_63, bf_135_69, bf_135_82, bf_135_83, bo_135_0, bo_135_12, bo_135_57, bo_135_61, bo_135_62, bo_135_63, bo_135_69, bo_135_82, bo_135_83, hS, hsf, hw, Nat.not_le.mpr, hk, hf9]
    have idle : f_acts s (mi w) k = false → z_W l G 135 (T.2.1, T.2.2) (fun v M' => Q v M' ∧ M'.2.2.2 = T) 12 [some (.ref 373), some (.ref w), some (.int (z_bi (f_asks s (mi 373 23) (mi w) k))), some (.int (nI (k + 1)))] [] (f, mr, ml, T) := by
      intro q
      have := ih f (fun c j => by rw [f_rows_n q]; exact hf c j)
      unfold f_asks at this
      rw [q, Bool.false_and, Bool.or_false] at this
      exact this
    refine ⟨fun c1 => idle (by simp [f_acts, c1]), fun c1 => k_isAwake hS hsf (by omega) (hc k hk) ?_⟩
    simp (disch := omega) only [e_q0, e_nil, e_cons, e_q, e_qf, e_qt, e_af, z_hd, z_mk1, z_lg, z_s1, z_s2, z_kl, z_en, z_kI, z_fv, z_ic, z_c1, z_sh, z_pop, z_rc, z_tgt, z_tsw, z_lsw, z_nw, z_ac, o_kI, o_kL, o_ldi, o_ldl, o_lda, o_sti, o_sta, o_stl, o_inc, o_b2, o_bz, o_l2, o_lz, o_ls, o_lneg, o_i2l, o_l2i, o_lcmp, o_dup, o_dupx1, o_dup2, o_if, o_if2, o_ifnull, o_get, o_put, o_iald, o_zald, o_aald, o_alen, o_iast, o_zast, o_aast, o_new, o_newa, o_call, o_call1, o_callN, o_obj, o_reti, o_retl, o_ret, o_tsw, o_lsw, va_rf_s, va_rf_n, z_u2_s, z_u2_k, z_u2_f, z_uR_f, z_uL_f, e_ix, e_vp, e_lt, e_le, e_eq, e_lt0, e_eq0, e_b0, e_b1, e_10, e_11, true_or, or_true, false_or, nI_add, z_bi_0, z_bi_1, e_bb, z_uR_s, z_uR_k, z_uL_s, z_uL_k, true_and, and_true, and_self, not_true_eq_false, not_false_eq_true, forall_const, Option.toList, List.cons_append, List.nil_append, List.singleton_append, Nat.reduceAdd, Nat.zero_add, Nat.add_zero, Nat.reduceEqDiff, ↓reduceIte, ite_true, ite_false, reduceCtorEq, Int.cast_ofNat_Int, Int.reduceAdd, Int.reduceToNat, ne_eq, false_imp_iff, true_imp_iff, cl_135, bf_135_0, bf_135_12, bf_135_57, bf_135_61, bf_135_62, bf_135_63, bf_135_69, bf_135_82, bf_135_83, bo_135_0, bo_135_12, bo_135_57, bo_135_61, bo_135_62, bo_135_63, bo_135_69, bo_135_82, bo_135_83, hS, hsf, hw, hf9]
    refine ⟨fun c2 => idle (by simp [f_acts, c2]), fun c2 => ?_⟩
    simp only [Bool.not_eq_false] at c2
    have hact : f_acts s (mi w) k = true := by simp [f_acts, c1, c2]
    have at' : ∀ m, f w (8 * m + k) = f 383 (8 * m + k) := fun m => by rw [z_sr hf, hf9]; exact f_rows_at m k (by omega) k (Nat.le_refl _)
    refine k_hears hS hsf hw hw9 hk (by rw [hf9]; exact hr.1) (by rw [hf9]; exact hr.2.1) (by have := at' 0; rwa [Nat.mul_zero, Nat.zero_add] at this) (at' 1) (at' 2) (at' 3) (at' 4) fun f' hf' => ?_
    have next := ih f' (fun c j => by
      rw [hf', hf9, hf3]
      by_cases q : c = w
      · rw [if_pos q, if_pos q, z_sr hf, f_rows_a hact]
      · rw [if_neg q, if_neg q, hf, if_neg q])
    unfold f_asks at next
    rw [hact, Bool.true_and] at next
    simp (disch := omega) only [e_q0, e_nil, e_cons, e_q, e_qf, e_qt, e_af, z_hd, z_mk1, z_lg, z_s1, z_s2, z_kl, z_en, z_kI, z_fv, z_ic, z_c1, z_sh, z_pop, z_rc, z_tgt, z_tsw, z_lsw, z_nw, z_ac, o_kI, o_kL, o_ldi, o_ldl, o_lda, o_sti, o_sta, o_stl, o_inc, o_b2, o_bz, o_l2, o_lz, o_ls, o_lneg, o_i2l, o_l2i, o_lcmp, o_dup, o_dupx1, o_dup2, o_if, o_if2, o_ifnull, o_get, o_put, o_iald, o_zald, o_aald, o_alen, o_iast, o_zast, o_aast, o_new, o_newa, o_call, o_call1, o_callN, o_obj, o_reti, o_retl, o_ret, o_tsw, o_lsw, va_rf_s, va_rf_n, z_u2_s, z_u2_k, z_u2_f, z_uR_f, z_uL_f, e_ix, e_vp, e_lt, e_le, e_eq, e_lt0, e_eq0, e_b0, e_b1, e_10, e_11, true_or, or_true, false_or, nI_add, z_bi_0, z_bi_1, e_bb, z_uR_s, z_uR_k, z_uL_s, z_uL_k, true_and, and_true, and_self, not_true_eq_false, not_false_eq_true, forall_const, Option.toList, List.cons_append, List.nil_append, List.singleton_append, Nat.reduceAdd, Nat.zero_add, Nat.add_zero, Nat.reduceEqDiff, ↓reduceIte, ite_true, ite_false, reduceCtorEq, Int.cast_ofNat_Int, Int.reduceAdd, Int.reduceToNat, ne_eq, false_imp_iff, true_imp_iff, cl_135, bf_135_0, bf_135_12, bf_135_57, bf_135_61, bf_135_62, bf_135_63, bf_135_69, bf_135_82, bf_135_83, bo_135_0, bo_135_12, bo_135_57, bo_135_61, bo_135_62, bo_135_63, bo_135_69, bo_135_82, bo_135_83, hS, hw, hf9, hf3]
    refine ⟨fun c3 => ⟨fun c4 => ?_, fun c4 => ?_⟩, fun c3 => ?_⟩
    · rw [c3, c4] at next; exact next
    · simp only [Bool.not_eq_false] at c4; rw [c4] at next; exact next
    · simp only [Bool.not_eq_false] at c3; rw [c3, Bool.or_true] at next; exact next
theorem k_tryRounds {s : ZS} {m : Nat} (hS : SM T mr) (hs : PMs mi s) (hm : m < 1000) (hr : f_rok s (mi 382)) (hz : z_hi (mi 383)) (hc : f_cyc s)
    (h : ∀ f, (∀ c, c ≠ 382 → c ≠ 383 → f c = mi c) → f 382 = f_gos s (mi 373 23) m (mi 382) → z_hi (f 383) → Q none (f, mr, ml, T)) : z_Ok l G m_Model_tryRounds [.ref 373, .int (nI m)] (mi, mr, ml, T) Q := by
  have h8 := hs.2
  have hw : T.1 382 = (2, 78) := by rw [hS.1.2.2.2.2.2.2.2.2.2.1]
  refine z_okN cz_136.1 (by rw [cl_136]; exact Nat.le_of_ble_eq_true rfl) cz_136.2 (z_run ck_136 3 bf_136_0 ?_)
  simp (disch := omega) only [e_q0, e_nil, e_cons, e_q, e_qf, e_qt, e_af, z_hd, z_mk1, z_lg, z_s1, z_s2, z_kl, z_en, z_kI, z_fv, z_ic, z_c1, z_sh, z_pop, z_rc, z_tgt, z_tsw, z_lsw, z_nw, z_ac, o_kI, o_kL, o_ldi, o_ldl, o_lda, o_sti, o_sta, o_stl, o_inc, o_b2, o_bz, o_l2, o_lz, o_ls, o_lneg, o_i2l, o_l2i, o_lcmp, o_dup, o_dupx1, o_dup2, o_if, o_if2, o_ifnull, o_get, o_put, o_iald, o_zald, o_aald, o_alen, o_iast, o_zast, o_aast, o_new, o_newa, o_call, o_call1, o_callN, o_obj, o_reti, o_retl, o_ret, o_tsw, o_lsw, va_rf_s, va_rf_n, z_u2_s, z_u2_k, z_u2_f, z_uR_f, z_uL_f, e_ix, e_vp, e_lt, e_le, e_eq, e_lt0, e_eq0, e_b0, e_b1, e_10, e_11, true_or, or_true, false_or, nI_add, z_bi_0, z_bi_1, e_bb, z_uR_s, z_uR_k, z_uL_s, z_uL_k, true_and, and_true, and_self, not_true_eq_false, not_false_eq_true, forall_const, Option.toList, List.cons_append, List.nil_append, List.singleton_append, Nat.reduceAdd, Nat.zero_add, Nat.add_zero, Nat.reduceEqDiff, ↓reduceIte, ite_true, ite_false, reduceCtorEq, Int.cast_ofNat_Int, Int.reduceAdd, Int.reduceToNat, ne_eq, false_imp_iff, true_imp_iff, cl_136, bf_136_0, bf_136_2, bf_136_21, bo_136_0, bo_136_2, bo_136_21, hS, hs, hw]
  refine z_for (P := fun k f => ((∀ c, c ≠ 382 → c ≠ 383 → f c = mi c) ∧ f 382 = f_gos s (mi 373 23) k (mi 382) ∧ z_hi (f 383)) → z_W l G 136 (T.2.1, T.2.2) (fun v M' => Q v M' ∧ M'.2.2.2 = T) 2 [some (.ref 373), some (.int (nI m)), some (.int (nI k))] [] (f, mr, ml, T)) m (fun f hf => ?_) (fun k hk ih f hf => ?_) 0 (by omega) mi ⟨fun _ _ _ => rfl, rfl, hz⟩
  · refine z_run ck_136 3 bf_136_2 ?_
    simp (disch := omega) only [e_q0, e_nil, e_cons, e_q, e_qf, e_qt, e_af, z_hd, z_mk1, z_lg, z_s1, z_s2, z_kl, z_en, z_kI, z_fv, z_ic, z_c1, z_sh, z_pop, z_rc, z_tgt, z_tsw, z_lsw, z_nw, z_ac, o_kI, o_kL, o_ldi, o_ldl, o_lda, o_sti, o_sta, o_stl, o_inc, o_b2, o_bz, o_l2, o_lz, o_ls, o_lneg, o_i2l, o_l2i, o_lcmp, o_dup, o_dupx1, o_dup2, o_if, o_if2, o_ifnull, o_get, o_put, o_iald, o_zald, o_aald, o_alen, o_iast, o_zast, o_aast, o_new, o_newa, o_call, o_call1, o_callN, o_obj, o_reti, o_retl, o_ret, o_tsw, o_lsw, va_rf_s, va_rf_n, z_u2_s, z_u2_k, z_u2_f, z_uR_f, z_uL_f, e_ix, e_vp, e_lt, e_le, e_eq, e_lt0, e_eq0, e_b0, e_b1, e_10, e_11, true_or, or_true, false_or, nI_add, z_bi_0, z_bi_1, e_bb, z_uR_s, z_uR_k, z_uL_s, z_uL_k, true_and, and_true, and_self, not_true_eq_false, not_false_eq_true, forall_const, Option.toList, List.cons_append, List.nil_append, List.singleton_append, Nat.reduceAdd, Nat.zero_add, Nat.add_zero, Nat.reduceEqDiff, ↓reduceIte, ite_true, ite_false, reduceCtorEq, Int.cast_ofNat_Int, Int.reduceAdd, Int.reduceToNat, ne_eq, false_imp_iff, true_imp_iff, cl_136, bf_136_0, bf_136_2, bf_136_21, bo_136_0, bo_136_2, bo_136_21, hS, Nat.le_refl]
    exact h f hf.1 hf.2.1 hf.2.2
  · have hsf : PMs f s := hs.of fun b q1 q2 => hf.1 b (by omega) (by omega)
    refine z_run ck_136 3 bf_136_2 ?_
    simp (disch := omega) only [e_q0, e_nil, e_cons, e_q, e_qf, e_qt, e_af, z_hd, z_mk1, z_lg, z_s1, z_s2, z_kl, z_en, z_kI, z_fv, z_ic, z_c1, z_sh, z_pop, z_rc, z_tgt, z_tsw, z_lsw, z_nw, z_ac, o_kI, o_kL, o_ldi, o_ldl, o_lda, o_sti, o_sta, o_stl, o_inc, o_b2, o_bz, o_l2, o_lz, o_ls, o_lneg, o_i2l, o_l2i, o_lcmp, o_dup, o_dupx1, o_dup2, o_if, o_if2, o_ifnull, o_get, o_put, o_iald, o_zald, o_aald, o_alen, o_iast, o_zast, o_aast, o_new, o_newa, o_call, o_call1, o_callN, o_obj, o_reti, o_retl, o_ret, o_tsw, o_lsw, va_rf_s, va_rf_n, z_u2_s, z_u2_k, z_u2_f, z_uR_f, z_uL_f, e_ix, e_vp, e_lt, e_le, e_eq, e_lt0, e_eq0, e_b0, e_b1, e_10, e_11, true_or, or_true, false_or, nI_add, z_bi_0, z_bi_1, e_bb, z_uR_s, z_uR_k, z_uL_s, z_uL_k, true_and, and_true, and_self, not_true_eq_false, not_false_eq_true, forall_const, Option.toList, List.cons_append, List.nil_append, List.singleton_append, Nat.reduceAdd, Nat.zero_add, Nat.add_zero, Nat.reduceEqDiff, ↓reduceIte, ite_true, ite_false, reduceCtorEq, Int.cast_ofNat_Int, Int.reduceAdd, Int.reduceToNat, ne_eq, false_imp_iff, true_imp_iff, cl_136, bf_136_0, bf_136_2, bf_136_21, bo_136_0, bo_136_2, bo_136_21, hS, Nat.not_le.mpr, hk]
    refine k_goOn (w := 382) hS hsf hw (Or.inr rfl) (by rw [hf.2.1]; exact f_gos_rok h8 _ _ hr) hf.2.2 hc fun f' hf' => ?_
    simp (disch := omega) only [e_q0, e_nil, e_cons, e_q, e_qf, e_qt, e_af, z_hd, z_mk1, z_lg, z_s1, z_s2, z_kl, z_en, z_kI, z_fv, z_ic, z_c1, z_sh, z_pop, z_rc, z_tgt, z_tsw, z_lsw, z_nw, z_ac, o_kI, o_kL, o_ldi, o_ldl, o_lda, o_sti, o_sta, o_stl, o_inc, o_b2, o_bz, o_l2, o_lz, o_ls, o_lneg, o_i2l, o_l2i, o_lcmp, o_dup, o_dupx1, o_dup2, o_if, o_if2, o_ifnull, o_get, o_put, o_iald, o_zald, o_aald, o_alen, o_iast, o_zast, o_aast, o_new, o_newa, o_call, o_call1, o_callN, o_obj, o_reti, o_retl, o_ret, o_tsw, o_lsw, va_rf_s, va_rf_n, z_u2_s, z_u2_k, z_u2_f, z_uR_f, z_uL_f, e_ix, e_vp, e_lt, e_le, e_eq, e_lt0, e_eq0, e_b0, e_b1, e_10, e_11, true_or, or_true, false_or, nI_add, z_bi_0, z_bi_1, e_bb, z_uR_s, z_uR_k, z_uL_s, z_uL_k, true_and, and_true, and_self, not_true_eq_false, not_false_eq_true, forall_const, Option.toList, List.cons_append, List.nil_append, List.singleton_append, Nat.reduceAdd, Nat.zero_add, Nat.add_zero, Nat.reduceEqDiff, ↓reduceIte, ite_true, ite_false, reduceCtorEq, Int.cast_ofNat_Int, Int.reduceAdd, Int.reduceToNat, ne_eq, false_imp_iff, true_imp_iff, cl_136, bf_136_0, bf_136_2, bf_136_21, bo_136_0, bo_136_2, bo_136_21, hS]
    refine ih f' ⟨fun c q1 q2 => funext fun j => by rw [hf', if_neg q1, if_neg q2, hf.1 c q1 q2], funext fun j => ?_, ?_⟩
    · rw [hf', if_pos rfl, f_gos_s, hf.1 373 (by omega) (by omega), hf.2.1]
    · intro j hj
      rw [hf', if_neg (by omega), if_pos rfl, hf.2.1]
      exact (f_gos_rok h8 _ _ hr).2.2 j hj
end
