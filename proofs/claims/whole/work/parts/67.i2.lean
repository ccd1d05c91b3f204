/-- a new cell at X alone -/
def z_n0 (p : ZM) (X : Nat) (t : Nat × Nat) (nx sl : Nat) : ZM := (fun b j => if b = X then 0 else p.1 b j, fun b j => if b = X then none else p.2.1 b j, fun b j => if b = X then 0 else p.2.2.1 b j, fun b => if b = X then t else p.2.2.2.1 b, nx, sl)
/-- a reference put at place k of a -/
def z_sR (p : ZM) (a k v : Nat) : ZM := (p.1, z_uR p.2.1 a k (some v), p.2.2)
/-- the same below X, but for the references of w -/
def AG (w : Nat) (p q : ZM) (X : Nat) : Prop := ∀ c, c < X → (q.1 c = p.1 c ∧ q.2.2.1 c = p.2.2.1 c ∧ q.2.2.2.1 c = p.2.2.2.1 c) ∧ (c ≠ w → q.2.1 c = p.2.1 c)
section
variable {p q r : ZM} {w X Y k v b n nx sl : Nat} {t : Nat × Nat}
theorem AG.n0 : AG w p (z_n0 p X t nx sl) X := fun c hc => ⟨⟨funext fun _ => if_neg (by omega), funext fun _ => if_neg (by omega), if_neg (by omega)⟩, fun _ => funext fun _ => if_neg (by omega)⟩
theorem AG.if (h : IF p q X) : AG w p q X := fun c hc => ⟨h.1 c (by omega), fun _ => h.2 c hc⟩
theorem AG.sR : AG w p (z_sR p w k v) X := fun c hc => ⟨⟨rfl, rfl, rfl⟩, fun h => z_uR_f h⟩
theorem AG.trans (h1 : AG w p q X) (h2 : AG w q r Y) (h : X ≤ Y) : AG w p r X := fun c hc => ⟨⟨(h2 c (by omega)).1.1.trans (h1 c hc).1.1, (h2 c (by omega)).1.2.1.trans (h1 c hc).1.2.1, (h2 c (by omega)).1.2.2.trans (h1 c hc).1.2.2⟩, fun e => ((h2 c (by omega)).2 e).trans ((h1 c hc).2 e)⟩
theorem AG.mono (h : AG w p q X) (hY : Y ≤ X) : AG w p q Y := fun c hc => h c (by omega)
theorem AG.T (h : AG w p q X) {c : Nat} (hc : c < X) : q.2.2.2.1 c = p.2.2.2.1 c := (h c hc).1.2.2
theorem AG.R (h : AG w p q X) {c : Nat} (hc : c < X) (hw : c ≠ w) : q.2.1 c = p.2.1 c := (h c hc).2 hw
theorem SX.ag {a : Nat} (hS : SX p.2.2.2 p.2.1 a) (h : AG w p q X) (ha : a + 20 ≤ X) (hw : w < a ∨ a + 20 ≤ w) : SX q.2.2.2 q.2.1 a := by
  obtain ⟨⟨s1, s2, s3, s4, s5⟩, s6, s7⟩ := hS
  refine ⟨⟨(h.T (by omega)).trans s1, (h.T (by omega)).trans s2, (h.T (by omega)).trans s3, by rw [h.R (by omega) (by omega)]; exact s4, by rw [h.R (by omega) (by omega)]; exact s5⟩, fun i hi => ⟨(h.T (by omega)).trans (s6 i hi).1, by rw [h.R (by omega) (by omega)]; exact (s6 i hi).2⟩, fun i hi => ⟨(h.T (by omega)).trans (s7 i hi).1, by rw [h.R (by omega) (by omega)]; exact (s7 i hi).2⟩⟩
theorem I0.ag (h0 : I0 p b n) (h : AG w p q X) (hn : n ≤ X) : I0 q b n := fun c c1 c2 => (h c (by omega)).1.1.trans (h0 c c1 c2)
theorem I0.join {m : Nat} (h1 : I0 p b m) (h2 : p.1 m = fun _ => 0) (h3 : I0 p m n) : I0 p b n := fun c c1 c2 => by
  rcases Nat.lt_trichotomy c m with e | e | e
  · exact h1 c c1 e
  · rw [e]; exact h2
  · exact h3 c e c2
theorem n0_x : (z_n0 p X t nx sl).1 X = fun _ => 0 := funext fun _ => if_pos rfl
theorem n0_t : (z_n0 p X t nx sl).2.2.2.1 X = t := if_pos rfl
end
theorem i_c0 : (z_rm 0).cells = 281 ∧ (z_rm 0).slots = 3248 := cz_0.2
theorem i_c44 : (z_rm 44).cells = 3 ∧ (z_rm 44).slots = 18 := cz_44.2
section
variable {l : Launch} {G : ZG} {M : ZM} {mi : Nat → Nat → Int32} {mr : Nat → Nat → Option Nat} {ml : Nat → Nat → Int64} {T : (Nat → Nat × Nat) × Nat × Nat} {Q : ZR} {a : Nat}
theorem i_Obs (hT : T.1 a = (1, 4)) (hb : T.2.1 = a + 1) (h : ∀ M', IF (mi, mr, ml, T) M' a → M'.2.2.2.2 = (a + 4, T.2.2 + 18) → (M'.2.2.2.1 (a + 1) = (2, 6) ∧ M'.2.2.2.1 (a + 2) = (2, 6) ∧ M'.2.2.2.1 (a + 3) = (3, 6)) → (M'.2.1 a 0 = some (a + 1) ∧ M'.2.1 a 1 = some (a + 2) ∧ M'.2.1 a 2 = some (a + 3)) → I0 M' a (a + 4) → Q none M') : z_Ok l G m_Observations_init [.ref a] (mi, mr, ml, T) Q := by
  have na : (a = a + 1) = False := eq_false (by omega)
  have na2 : (a = a + 1 + 1) = False := eq_false (by omega)
  have na3 : (a = a + 1 + 1 + 1) = False := eq_false (by omega)
  refine z_ok_of cz_44.1 (by rw [cl_44]; exact Nat.le_of_ble_eq_true rfl) (z_run ck_44 2 bf_44_0 ?_)
  simp (disch := omega) only [e_q0, e_nil, e_cons, e_q, e_qf, e_qt, e_af, z_hd, z_mk1, z_lg, z_s1, z_s2, z_kl, z_en, z_kI, z_fv, z_ic, z_c1, z_sh, z_pop, z_rc, z_tgt, z_tsw, z_lsw, z_nw, z_ac, o_kI, o_kL, o_ldi, o_ldl, o_lda, o_sti, o_sta, o_stl, o_inc, o_b2, o_bz, o_l2, o_lz, o_ls, o_lneg, o_i2l, o_l2i, o_lcmp, o_dup, o_dupx1, o_dup2, o_if, o_if2, o_ifnull, o_get, o_put, o_iald, o_zald, o_aald, o_alen, o_iast, o_zast, o_aast, o_new, o_newa, o_call, o_call1, o_callN, o_obj, o_reti, o_retl, o_ret, o_tsw, o_lsw, va_rf_s, va_rf_n, z_u2_s, z_u2_k, z_u2_f, z_uR_f, z_uL_f, e_ix, e_vp, e_lt, e_le, e_eq, e_lt0, e_eq0, e_b0, e_b1, e_10, e_11, true_or, or_true, false_or, nI_add, z_bi_0, z_bi_1, e_bb, z_uR_s, z_uR_k, z_uL_s, z_uL_k, true_and, and_true, and_self, not_true_eq_false, not_false_eq_true, forall_const, Option.toList, List.cons_append, List.nil_append, List.singleton_append, Nat.reduceAdd, Nat.zero_add, Nat.add_zero, Nat.reduceEqDiff, ↓reduceIte, ite_true, ite_false, reduceCtorEq, Int.cast_ofNat_Int, Int.reduceAdd, Int.reduceToNat, ne_eq, false_imp_iff, true_imp_iff, cl_44, bf_44_0, bo_44_0, hT, hb, e_rmk, i_c44, na, na2, na3]
  refine ⟨by omega, by omega, by omega, ?_⟩
  exact h (z_new (z_new (z_new (mi, mr, ml, T) (a + 1) a 0 (2, 6) 0 0) (a + 1 + 1) a 1 (2, 6) 0 0) (a + 1 + 1 + 1) a 2 (3, 6) (a + 1 + 1 + 1 + 1) (T.2.2 + 6 + 6 + 6)) (IF.new (IF.new (IF.new IF.refl (by omega) (by omega)) (by omega) (by omega)) (by omega) (by omega)) n_5 ⟨(n_4 (by omega)).trans ((n_4 (by omega)).trans n_4x), (n_4 (by omega)).trans n_4x, n_4x⟩ ⟨(n_2a (by omega) (by omega)).trans ((n_2a (by omega) (by omega)).trans n_2k), (n_2a (by omega) (by omega)).trans n_2k, n_2k⟩ (I0.new (I0.new (I0.new fun c c1 c2 => absurd c1 (by omega))))
theorem i_History (hT : T.1 a = (1, 0)) (hb : T.2.1 = a + 1) (h : ∀ M', IF (mi, mr, ml, T) M' a → M'.2.2.2.2 = (a + 282, T.2.2 + 3248) → M'.2.2.2.1 (a + 1) = (6, 14) → M'.2.1 a 0 = some (a + 1) → (∀ i, i < 14 → M'.2.1 (a + 1) i = some (a + 2 + 20 * i) ∧ SX M'.2.2.2 M'.2.1 (a + 2 + 20 * i)) → I0 M' a (a + 282) → Q none M') : z_Ok l G m_History_init [.ref a] (mi, mr, ml, T) Q := by
  have na : (a = a + 1) = False := eq_false (by omega)
  refine z_ok_of cz_0.1 (by rw [cl_0]; exact Nat.le_of_ble_eq_true rfl) (z_run ck_0 3 bf_0_0 ?_)
  simp (disch := omega) only [e_q0, e_nil, e_cons, e_q, e_qf, e_qt, e_af, z_hd, z_mk1, z_lg, z_s1, z_s2, z_kl, z_en, z_kI, z_fv, z_ic, z_c1, z_sh, z_pop, z_rc, z_tgt, z_tsw, z_lsw, z_nw, z_ac, o_kI, o_kL, o_ldi, o_ldl, o_lda, o_sti, o_sta, o_stl, o_inc, o_b2, o_bz, o_l2, o_lz, o_ls, o_lneg, o_i2l, o_l2i, o_lcmp, o_dup, o_dupx1, o_dup2, o_if, o_if2, o_ifnull, o_get, o_put, o_iald, o_zald, o_aald, o_alen, o_iast, o_zast, o_aast, o_new, o_newa, o_call, o_call1, o_callN, o_obj, o_reti, o_retl, o_ret, o_tsw, o_lsw, va_rf_s, va_rf_n, z_u2_s, z_u2_k, z_u2_f, z_uR_f, z_uL_f, e_ix, e_vp, e_lt, e_le, e_eq, e_lt0, e_eq0, e_b0, e_b1, e_10, e_11, true_or, or_true, false_or, nI_add, z_bi_0, z_bi_1, e_bb, z_uR_s, z_uR_k, z_uL_s, z_uL_k, true_and, and_true, and_self, not_true_eq_false, not_false_eq_true, forall_const, Option.toList, List.cons_append, List.nil_append, List.singleton_append, Nat.reduceAdd, Nat.zero_add, Nat.add_zero, Nat.reduceEqDiff, ↓reduceIte, ite_true, ite_false, reduceCtorEq, Int.cast_ofNat_Int, Int.reduceAdd, Int.reduceToNat, ne_eq, false_imp_iff, true_imp_iff, cl_0, bf_0_0, bf_0_15, bf_0_40, bo_0_0, bo_0_15, bo_0_40, hT, hb, e_rmk, i_c0, na]
  refine ⟨by omega, ?_⟩
  refine z_for (α := ZM) (P := fun k p => p.2.2.2.2 = (a + 2 + 20 * k, T.2.2 + 14 + 231 * k) → IF (mi, mr, ml, T) p a → p.2.1 a 0 = some (a + 1) → p.2.2.2.1 (a + 1) = (6, 14) → (∀ i, i < k → p.2.1 (a + 1) i = some (a + 2 + 20 * i) ∧ SX p.2.2.2 p.2.1 (a + 2 + 20 * i)) → I0 p a (a + 2 + 20 * k) → z_W l G 0 (a + 1, T.2.2) (fun v M' => Q v M' ∧ M'.2.2.2.2.1 = a + 1 + 281 ∧ M'.2.2.2.2.2 = T.2.2 + 3248) 15 [some (.ref a), some (.int (nI k))] [] p) 14 (fun p p1 p2 p3 p4 p5 p6 => ?_) (fun k hk ih p p1 p2 p3 p4 p5 p6 => ?_) 0 (by omega) (z_new (mi, mr, ml, T) (a + 1) a 0 (6, 14) (a + 1 + 1) (T.2.2 + 14)) rfl (IF.new IF.refl (by omega) (by omega)) n_2k n_4x (fun i hi => absurd hi (Nat.not_lt_zero _)) (I0.new fun c c1 c2 => absurd c1 (by omega))
  · have q1 : p.2.2.2.1 a = (1, 0) := by rw [(p2.1 a (by omega)).2.2]; exact hT
    refine z_run ck_0 3 bf_0_15 ?_
    simp (disch := omega) only [e_q0, e_nil, e_cons, e_q, e_qf, e_qt, e_af, z_hd, z_mk1, z_lg, z_s1, z_s2, z_kl, z_en, z_kI, z_fv, z_ic, z_c1, z_sh, z_pop, z_rc, z_tgt, z_tsw, z_lsw, z_nw, z_ac, o_kI, o_kL, o_ldi, o_ldl, o_lda, o_sti, o_sta, o_stl, o_inc, o_b2, o_bz, o_l2, o_lz, o_ls, o_lneg, o_i2l, o_l2i, o_lcmp, o_dup, o_dupx1, o_dup2, o_if, o_if2, o_ifnull, o_get, o_put, o_iald, o_zald, o_aald, o_alen, o_iast, o_zast, o_aast, o_new, o_newa, o_call, o_call1, o_callN, o_obj, o_reti, o_retl, o_ret, o_tsw, o_lsw, va_rf_s, va_rf_n, z_u2_s, z_u2_k, z_u2_f, z_uR_f, z_uL_f, e_ix, e_vp, e_lt, e_le, e_eq, e_lt0, e_eq0, e_b0, e_b1, e_10, e_11, true_or, or_true, false_or, nI_add, z_bi_0, z_bi_1, e_bb, z_uR_s, z_uR_k, z_uL_s, z_uL_k, true_and, and_true, and_self, not_true_eq_false, not_false_eq_true, forall_const, Option.toList, List.cons_append, List.nil_append, List.singleton_append, Nat.reduceAdd, Nat.zero_add, Nat.add_zero, Nat.reduceEqDiff, ↓reduceIte, ite_true, ite_false, reduceCtorEq, Int.cast_ofNat_Int, Int.reduceAdd, Int.reduceToNat, ne_eq, false_imp_iff, true_imp_iff, cl_0, bf_0_0, bf_0_15, bf_0_40, bo_0_0, bo_0_15, bo_0_40, q1, p1, p3, p4, e_rmk, i_c0]
    exact ⟨fun _ => h p p2 p1 p4 p3 p5 p6, fun q => absurd (Nat.le_refl _) q⟩
  · have q1 : p.2.2.2.1 a = (1, 0) := by rw [(p2.1 a (by omega)).2.2]; exact hT
    have x1 : (a + 1 = a + 2 + 20 * k) = False := eq_false (by omega)
    have x2 : (a = a + 2 + 20 * k) = False := eq_false (by omega)
    refine z_run ck_0 3 bf_0_15 ?_
    simp (disch := omega) only [e_q0, e_nil, e_cons, e_q, e_qf, e_qt, e_af, z_hd, z_mk1, z_lg, z_s1, z_s2, z_kl, z_en, z_kI, z_fv, z_ic, z_c1, z_sh, z_pop, z_rc, z_tgt, z_tsw, z_lsw, z_nw, z_ac, o_kI, o_kL, o_ldi, o_ldl, o_lda, o_sti, o_sta, o_stl, o_inc, o_b2, o_bz, o_l2, o_lz, o_ls, o_lneg, o_i2l, o_l2i, o_lcmp, o_dup, o_dupx1, o_dup2, o_if, o_if2, o_ifnull, o_get, o_put, o_iald, o_zald, o_aald, o_alen, o_iast, o_zast, o_aast, o_new, o_newa, o_call, o_call1, o_callN, o_obj, o_reti, o_retl, o_ret, o_tsw, o_lsw, va_rf_s, va_rf_n, z_u2_s, z_u2_k, z_u2_f, z_uR_f, z_uL_f, e_ix, e_vp, e_lt, e_le, e_eq, e_lt0, e_eq0, e_b0, e_b1, e_10, e_11, true_or, or_true, false_or, nI_add, z_bi_0, z_bi_1, e_bb, z_uR_s, z_uR_k, z_uL_s, z_uL_k, true_and, and_true, and_self, not_true_eq_false, not_false_eq_true, forall_const, Option.toList, List.cons_append, List.nil_append, List.singleton_append, Nat.reduceAdd, Nat.zero_add, Nat.add_zero, Nat.reduceEqDiff, ↓reduceIte, ite_true, ite_false, reduceCtorEq, Int.cast_ofNat_Int, Int.reduceAdd, Int.reduceToNat, ne_eq, false_imp_iff, true_imp_iff, cl_0, bf_0_0, bf_0_15, bf_0_40, bo_0_0, bo_0_15, bo_0_40, q1, p1, p3, p4, e_rmk, i_c0, i_c11, x1, x2]
    refine ⟨fun q => absurd q (by omega), fun _ => ⟨by omega, by omega, i_Mesh (a := a + 2 + 20 * k) (if_pos rfl) rfl fun M' u1 u2 u3 u4 => ?_⟩⟩
    have A0 : ∀ w, AG w p M' (a + 2 + 20 * k) := fun w => AG.trans (AG.n0 (t := (1, 2)) (nx := 0) (sl := 0)) (AG.if u1) (Nat.le_refl _)
    have v1 : M'.2.2.2.1 (a + 1) = (6, 14) := ((A0 a).T (by omega)).trans p4
    have v2 := u3.1.1
    simp (disch := omega) only [e_q0, e_nil, e_cons, e_q, e_qf, e_qt, e_af, z_hd, z_mk1, z_lg, z_s1, z_s2, z_kl, z_en, z_kI, z_fv, z_ic, z_c1, z_sh, z_pop, z_rc, z_tgt, z_tsw, z_lsw, z_nw, z_ac, o_kI, o_kL, o_ldi, o_ldl, o_lda, o_sti, o_sta, o_stl, o_inc, o_b2, o_bz, o_l2, o_lz, o_ls, o_lneg, o_i2l, o_l2i, o_lcmp, o_dup, o_dupx1, o_dup2, o_if, o_if2, o_ifnull, o_get, o_put, o_iald, o_zald, o_aald, o_alen, o_iast, o_zast, o_aast, o_new, o_newa, o_call, o_call1, o_callN, o_obj, o_reti, o_retl, o_ret, o_tsw, o_lsw, va_rf_s, va_rf_n, z_u2_s, z_u2_k, z_u2_f, z_uR_f, z_uL_f, e_ix, e_vp, e_lt, e_le, e_eq, e_lt0, e_eq0, e_b0, e_b1, e_10, e_11, true_or, or_true, false_or, nI_add, z_bi_0, z_bi_1, e_bb, z_uR_s, z_uR_k, z_uL_s, z_uL_k, true_and, and_true, and_self, not_true_eq_false, not_false_eq_true, forall_const, Option.toList, List.cons_append, List.nil_append, List.singleton_append, Nat.reduceAdd, Nat.zero_add, Nat.add_zero, Nat.reduceEqDiff, ↓reduceIte, ite_true, ite_false, reduceCtorEq, Int.cast_ofNat_Int, Int.reduceAdd, Int.reduceToNat, ne_eq, false_imp_iff, true_imp_iff, cl_0, bf_0_0, bf_0_15, bf_0_40, bo_0_0, bo_0_15, bo_0_40, v1, v2, z_t6]
    have A1 : AG (a + 1) p (z_sR M' (a + 1) k (a + 2 + 20 * k)) (a + 2 + 20 * k) := AG.trans (A0 _) AG.sR (Nat.le_refl _)
    refine ih (z_sR M' (a + 1) k (a + 2 + 20 * k)) ?_ ⟨fun c hc => ⟨(A1 c (by omega)).1.1.trans (p2.1 c hc).1, (A1 c (by omega)).1.2.1.trans (p2.1 c hc).2.1, (A1 c (by omega)).1.2.2.trans (p2.1 c hc).2.2⟩, fun c hc => (A1.R (by omega) (by omega)).trans (p2.2 c hc)⟩ (by rw [A1.R (by omega) (by omega)]; exact p3) ((A1.T (by omega)).trans p4) (fun i hi => ?_) ?_
    · show M'.2.2.2.2 = _
      rw [u2]
      show (a + 2 + 20 * k + 20, T.2.2 + 14 + 231 * k + 7 + 224) = _
      rw [show a + 2 + 20 * k + 20 = a + 2 + 20 * (k + 1) by omega, show T.2.2 + 14 + 231 * k + 7 + 224 = T.2.2 + 14 + 231 * (k + 1) by omega]
    · by_cases e : i = k
      · rw [e]
        exact ⟨z_uR_s, SX.ag u3 (AG.sR (w := a + 1) (X := a + 2 + 20 * k + 20)) (Nat.le_refl _) (Or.inl (by omega))⟩
      · refine ⟨?_, SX.ag (p5 i (by omega)).2 A1 (by omega) (Or.inl (by omega))⟩
        show z_uR M'.2.1 (a + 1) k (some (a + 2 + 20 * k)) (a + 1) i = _
        rw [z_uR_k e, (A0 a).R (by omega) (by omega)]
        exact (p5 i (by omega)).1
    · have w : I0 (z_sR M' (a + 1) k (a + 2 + 20 * k)) a (a + 2 + 20 * k + 20) := I0.join (p6.ag A1 (Nat.le_refl _)) ((u1.1 _ (Nat.le_refl _)).1.trans (funext fun _ => if_pos rfl)) u4
      rw [show a + 2 + 20 * (k + 1) = a + 2 + 20 * k + 20 by omega]
      exact w
end
