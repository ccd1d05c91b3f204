theorem i_c58 : (z_rm 58).cells = 370 ∧ (z_rm 58).slots = 4304 := cz_58.2
/-- the same below X, but for the references of 2 and 327 -/
def AH (p q : ZM) (X : Nat) : Prop := ∀ c, c < X → (q.1 c = p.1 c ∧ q.2.2.2.1 c = p.2.2.2.1 c) ∧ (c ≠ 2 → c ≠ 327 → q.2.1 c = p.2.1 c)
theorem AG.h2 {p q : ZM} {X : Nat} (h : AG 2 p q X) : AH p q X := fun c hc => ⟨⟨(h c hc).1.1, (h c hc).1.2.2⟩, fun e _ => (h c hc).2 e⟩
theorem AG.h3 {p q : ZM} {X : Nat} (h : AG 327 p q X) : AH p q X := fun c hc => ⟨⟨(h c hc).1.1, (h c hc).1.2.2⟩, fun _ e => (h c hc).2 e⟩
theorem AH.trans {p q r : ZM} {X Y : Nat} (h1 : AH p q X) (h2 : AH q r Y) (h : X ≤ Y) : AH p r X := fun c hc => ⟨⟨(h2 c (by omega)).1.1.trans (h1 c hc).1.1, (h2 c (by omega)).1.2.trans (h1 c hc).1.2⟩, fun e e2 => ((h2 c (by omega)).2 e e2).trans ((h1 c hc).2 e e2)⟩
theorem AG.new {p : ZM} {w X k nx sl : Nat} {t : Nat × Nat} : AG w p (z_new p X w k t nx sl) X := fun c hc => ⟨⟨n_1 (by omega), n_3 (by omega), n_4 (by omega)⟩, fun e => n_2 (by omega) e⟩
theorem SX.ah {p q : ZM} {X a : Nat} (hS : SX p.2.2.2 p.2.1 a) (h : AH p q X) (ha : a + 20 ≤ X) (h2 : 2 < a) (h3 : 327 < a ∨ a + 20 ≤ 327) : SX q.2.2.2 q.2.1 a := by
  obtain ⟨⟨s1, s2, s3, s4, s5⟩, s6, s7⟩ := hS
  have hT : ∀ c, c < X → q.2.2.2.1 c = p.2.2.2.1 c := fun c hc => (h c hc).1.2
  have hR : ∀ c, c < X → c ≠ 2 → c ≠ 327 → q.2.1 c = p.2.1 c := fun c hc => (h c hc).2
  refine ⟨⟨(hT _ (by omega)).trans s1, (hT _ (by omega)).trans s2, (hT _ (by omega)).trans s3, by rw [hR _ (by omega) (by omega) (by omega)]; exact s4, by rw [hR _ (by omega) (by omega) (by omega)]; exact s5⟩, fun i hi => ⟨(hT _ (by omega)).trans (s6 i hi).1, by rw [hR _ (by omega) (by omega) (by omega)]; exact (s6 i hi).2⟩, fun i hi => ⟨(hT _ (by omega)).trans (s7 i hi).1, by rw [hR _ (by omega) (by omega) (by omega)]; exact (s7 i hi).2⟩⟩
theorem I0.ah {p q : ZM} {b n X : Nat} (h0 : I0 p b n) (h : AH p q X) (hn : n ≤ X) : I0 q b n := fun c c1 c2 => (h c (by omega)).1.1.trans (h0 c c1 c2)
/-- an object made and put into a field of the object at 2 -/
theorem i_st {p M' : ZM} {X kf nx sl : Nat} {t : Nat × Nat} (h2 : 2 < X) (u : IF (z_n0 p X t nx sl) M' X) : AG 2 p (z_sR M' 2 kf X) X ∧ (z_sR M' 2 kf X).2.1 2 kf = some X ∧ (∀ j, j ≠ kf → (z_sR M' 2 kf X).2.1 2 j = p.2.1 2 j) ∧ (z_sR M' 2 kf X).1 X = fun _ => 0 := by
  have A0 : ∀ w, AG w p M' X := fun w => AG.trans (AG.n0 (t := t) (nx := nx) (sl := sl)) (AG.if u) (Nat.le_refl _)
  refine ⟨AG.trans (A0 2) AG.sR (Nat.le_refl _), z_uR_s, fun j hj => ?_, (u.1 X (Nat.le_refl _)).1.trans n0_x⟩
  show z_uR M'.2.1 2 kf (some X) 2 j = _
  rw [z_uR_k hj, (A0 0).R h2 (by omega)]
section
variable {l : Launch} {G : ZG} {M : ZM} {mi : Nat → Nat → Int32} {mr : Nat → Nat → Option Nat} {ml : Nat → Nat → Int64} {T : (Nat → Nat × Nat) × Nat × Nat} {Q : ZR}
theorem i_MP (hT : T.1 2 = (1, 6)) (hb : T.2.1 = 3) (h : ∀ M', M'.2.2.2.2 = (373, T.2.2 + 4304) → SC M'.2.2.2 M'.2.1 → I0 M' 2 373 → M'.2.2.1 2 7 = 0 → Q none M') : z_Ok l G m_MP_init [.ref 2] (mi, mr, ml, T) Q := by
  refine z_ok_of cz_58.1 (by rw [cl_58]; exact Nat.le_of_ble_eq_true rfl) (z_run ck_58 3 bf_58_0 ?_)
  simp (disch := omega) only [e_q0, e_nil, e_cons, e_q, e_qf, e_qt, e_af, z_hd, z_mk1, z_lg, z_s1, z_s2, z_kl, z_en, z_kI, z_fv, z_ic, z_c1, z_sh, z_pop, z_rc, z_tgt, z_tsw, z_lsw, z_nw, z_ac, o_kI, o_kL, o_ldi, o_ldl, o_lda, o_sti, o_sta, o_stl, o_inc, o_b2, o_bz, o_l2, o_lz, o_ls, o_lneg, o_i2l, o_l2i, o_lcmp, o_dup, o_dupx1, o_dup2, o_if, o_if2, o_ifnull, o_get, o_put, o_iald, o_zald, o_aald, o_alen, o_iast, o_zast, o_aast, o_new, o_newa, o_call, o_call1, o_callN, o_obj, o_reti, o_retl, o_ret, o_tsw, o_lsw, va_rf_s, va_rf_n, z_u2_s, z_u2_k, z_u2_f, z_uR_f, z_uL_f, e_ix, e_vp, e_lt, e_le, e_eq, e_lt0, e_eq0, e_b0, e_b1, e_10, e_11, true_or, or_true, false_or, nI_add, z_bi_0, z_bi_1, e_bb, z_uR_s, z_uR_k, z_uL_s, z_uL_k, true_and, and_true, and_self, not_true_eq_false, not_false_eq_true, forall_const, Option.toList, List.cons_append, List.nil_append, List.singleton_append, Nat.reduceAdd, Nat.zero_add, Nat.add_zero, Nat.reduceEqDiff, ↓reduceIte, ite_true, ite_false, reduceCtorEq, Int.cast_ofNat_Int, Int.reduceAdd, Int.reduceToNat, ne_eq, false_imp_iff, true_imp_iff, cl_58, bf_58_0, bf_58_58, bf_58_82, bo_58_0, bo_58_58, bo_58_82, hT, hb, e_rmk, i_c58, i_c47]
  refine ⟨by omega, by omega, i_Text (a := 3) rfl rfl fun M1 u1 u2 u3 u4 u5 => ?_⟩
  have A1 : ∀ w, AG w (mi, mr, ml, T) M1 3 := fun w => AG.trans (AG.n0 (t := (1, 5)) (nx := 0) (sl := 0)) (AG.if u1) (Nat.le_refl _)
  have v1 : M1.2.2.2.1 2 = (1, 6) := ((A1 0).T (by omega)).trans hT
  obtain ⟨B1, b1, b1', z1⟩ := i_st (p := (mi, mr, ml, T)) (X := 3) (t := (1, 5)) (nx := 4) (sl := T.2.2 + 3) (kf := 0) (by omega) u1
  generalize hp1 : z_sR M1 2 0 3 = p1 at *
  simp (disch := omega) only [e_q0, e_nil, e_cons, e_q, e_qf, e_qt, e_af, z_hd, z_mk1, z_lg, z_s1, z_s2, z_kl, z_en, z_kI, z_fv, z_ic, z_c1, z_sh, z_pop, z_rc, z_tgt, z_tsw, z_lsw, z_nw, z_ac, o_kI, o_kL, o_ldi, o_ldl, o_lda, o_sti, o_sta, o_stl, o_inc, o_b2, o_bz, o_l2, o_lz, o_ls, o_lneg, o_i2l, o_l2i, o_lcmp, o_dup, o_dupx1, o_dup2, o_if, o_if2, o_ifnull, o_get, o_put, o_iald, o_zald, o_aald, o_alen, o_iast, o_zast, o_aast, o_new, o_newa, o_call, o_call1, o_callN, o_obj, o_reti, o_retl, o_ret, o_tsw, o_lsw, va_rf_s, va_rf_n, z_u2_s, z_u2_k, z_u2_f, z_uR_f, z_uL_f, e_ix, e_vp, e_lt, e_le, e_eq, e_lt0, e_eq0, e_b0, e_b1, e_10, e_11, true_or, or_true, false_or, nI_add, z_bi_0, z_bi_1, e_bb, z_uR_s, z_uR_k, z_uL_s, z_uL_k, true_and, and_true, and_self, not_true_eq_false, not_false_eq_true, forall_const, Option.toList, List.cons_append, List.nil_append, List.singleton_append, Nat.reduceAdd, Nat.zero_add, Nat.add_zero, Nat.reduceEqDiff, ↓reduceIte, ite_true, ite_false, reduceCtorEq, Int.cast_ofNat_Int, Int.reduceAdd, Int.reduceToNat, ne_eq, false_imp_iff, true_imp_iff, cl_58, bf_58_0, bf_58_58, bf_58_82, bo_58_0, bo_58_58, bo_58_82, v1, u2, e_rmk, i_c58, i_c11]
  refine ⟨by omega, by omega, i_Mesh (a := 5) rfl rfl fun M2 c1 c2 c3 c4 => ?_⟩
  have c1 : IF (z_n0 p1 5 (1, 2) 6 (T.2.2 + 3 + 100 + 7)) M2 5 := by rw [← hp1]; exact c1
  have A2 : AG 0 p1 M2 5 := AG.trans AG.n0 (AG.if c1) (Nat.le_refl _)
  have v2 : M2.2.2.2.1 2 = (1, 6) := (A2.T (by omega)).trans ((B1.T (by omega)).trans hT)
  obtain ⟨B2, b2, b2', z2⟩ := i_st (X := 5) (kf := 1) (by omega) c1
  generalize hp2 : z_sR M2 2 1 5 = p2 at *
  simp (disch := omega) only [e_q0, e_nil, e_cons, e_q, e_qf, e_qt, e_af, z_hd, z_mk1, z_lg, z_s1, z_s2, z_kl, z_en, z_kI, z_fv, z_ic, z_c1, z_sh, z_pop, z_rc, z_tgt, z_tsw, z_lsw, z_nw, z_ac, o_kI, o_kL, o_ldi, o_ldl, o_lda, o_sti, o_sta, o_stl, o_inc, o_b2, o_bz, o_l2, o_lz, o_ls, o_lneg, o_i2l, o_l2i, o_lcmp, o_dup, o_dupx1, o_dup2, o_if, o_if2, o_ifnull, o_get, o_put, o_iald, o_zald, o_aald, o_alen, o_iast, o_zast, o_aast, o_new, o_newa, o_call, o_call1, o_callN, o_obj, o_reti, o_retl, o_ret, o_tsw, o_lsw, va_rf_s, va_rf_n, z_u2_s, z_u2_k, z_u2_f, z_uR_f, z_uL_f, e_ix, e_vp, e_lt, e_le, e_eq, e_lt0, e_eq0, e_b0, e_b1, e_10, e_11, true_or, or_true, false_or, nI_add, z_bi_0, z_bi_1, e_bb, z_uR_s, z_uR_k, z_uL_s, z_uL_k, true_and, and_true, and_self, not_true_eq_false, not_false_eq_true, forall_const, Option.toList, List.cons_append, List.nil_append, List.singleton_append, Nat.reduceAdd, Nat.zero_add, Nat.add_zero, Nat.reduceEqDiff, ↓reduceIte, ite_true, ite_false, reduceCtorEq, Int.cast_ofNat_Int, Int.reduceAdd, Int.reduceToNat, ne_eq, false_imp_iff, true_imp_iff, cl_58, bf_58_0, bf_58_58, bf_58_82, bo_58_0, bo_58_58, bo_58_82, v2, c2, e_rmk, i_c58, i_c11]
  refine ⟨by omega, by omega, i_Mesh (a := 25) rfl rfl fun M3 d1 d2 d3 d4 => ?_⟩
  have d1 : IF (z_n0 p2 25 (1, 2) 26 (T.2.2 + 3 + 100 + 7 + 224 + 7)) M3 25 := by rw [← hp2]; exact d1
  have A3 : AG 0 p2 M3 25 := AG.trans AG.n0 (AG.if d1) (Nat.le_refl _)
  have v3 : M3.2.2.2.1 2 = (1, 6) := (A3.T (by omega)).trans ((B2.T (by omega)).trans ((B1.T (by omega)).trans hT))
  obtain ⟨B3, b3, b3', z3⟩ := i_st (X := 25) (kf := 2) (by omega) d1
  generalize hp3 : z_sR M3 2 2 25 = p3 at *
  simp (disch := omega) only [e_q0, e_nil, e_cons, e_q, e_qf, e_qt, e_af, z_hd, z_mk1, z_lg, z_s1, z_s2, z_kl, z_en, z_kI, z_fv, z_ic, z_c1, z_sh, z_pop, z_rc, z_tgt, z_tsw, z_lsw, z_nw, z_ac, o_kI, o_kL, o_ldi, o_ldl, o_lda, o_sti, o_sta, o_stl, o_inc, o_b2, o_bz, o_l2, o_lz, o_ls, o_lneg, o_i2l, o_l2i, o_lcmp, o_dup, o_dupx1, o_dup2, o_if, o_if2, o_ifnull, o_get, o_put, o_iald, o_zald, o_aald, o_alen, o_iast, o_zast, o_aast, o_new, o_newa, o_call, o_call1, o_callN, o_obj, o_reti, o_retl, o_ret, o_tsw, o_lsw, va_rf_s, va_rf_n, z_u2_s, z_u2_k, z_u2_f, z_uR_f, z_uL_f, e_ix, e_vp, e_lt, e_le, e_eq, e_lt0, e_eq0, e_b0, e_b1, e_10, e_11, true_or, or_true, false_or, nI_add, z_bi_0, z_bi_1, e_bb, z_uR_s, z_uR_k, z_uL_s, z_uL_k, true_and, and_true, and_self, not_true_eq_false, not_false_eq_true, forall_const, Option.toList, List.cons_append, List.nil_append, List.singleton_append, Nat.reduceAdd, Nat.zero_add, Nat.add_zero, Nat.reduceEqDiff, ↓reduceIte, ite_true, ite_false, reduceCtorEq, Int.cast_ofNat_Int, Int.reduceAdd, Int.reduceToNat, ne_eq, false_imp_iff, true_imp_iff, cl_58, bf_58_0, bf_58_58, bf_58_82, bo_58_0, bo_58_58, bo_58_82, v3, d2, e_rmk, i_c58, i_c0]
  refine ⟨by omega, by omega, i_History (a := 45) rfl rfl fun M4 e1 e2 e3 e4 e5 e6 => ?_⟩
  have e1 : IF (z_n0 p3 45 (1, 0) 46 (T.2.2 + 3 + 100 + 7 + 224 + 7 + 224 + 3)) M4 45 := by rw [← hp3]; exact e1
  have A4 : AG 0 p3 M4 45 := AG.trans AG.n0 (AG.if e1) (Nat.le_refl _)
  have v4 : M4.2.2.2.1 2 = (1, 6) := (A4.T (by omega)).trans ((B3.T (by omega)).trans ((B2.T (by omega)).trans ((B1.T (by omega)).trans hT)))
  obtain ⟨B4, b4, b4', z4⟩ := i_st (X := 45) (kf := 3) (by omega) e1
  generalize hp4 : z_sR M4 2 3 45 = p4 at *
  simp (disch := omega) only [e_q0, e_nil, e_cons, e_q, e_qf, e_qt, e_af, z_hd, z_mk1, z_lg, z_s1, z_s2, z_kl, z_en, z_kI, z_fv, z_ic, z_c1, z_sh, z_pop, z_rc, z_tgt, z_tsw, z_lsw, z_nw, z_ac, o_kI, o_kL, o_ldi, o_ldl, o_lda, o_sti, o_sta, o_stl, o_inc, o_b2, o_bz, o_l2, o_lz, o_ls, o_lneg, o_i2l, o_l2i, o_lcmp, o_dup, o_dupx1, o_dup2, o_if, o_if2, o_ifnull, o_get, o_put, o_iald, o_zald, o_aald, o_alen, o_iast, o_zast, o_aast, o_new, o_newa, o_call, o_call1, o_callN, o_obj, o_reti, o_retl, o_ret, o_tsw, o_lsw, va_rf_s, va_rf_n, z_u2_s, z_u2_k, z_u2_f, z_uR_f, z_uL_f, e_ix, e_vp, e_lt, e_le, e_eq, e_lt0, e_eq0, e_b0, e_b1, e_10, e_11, true_or, or_true, false_or, nI_add, z_bi_0, z_bi_1, e_bb, z_uR_s, z_uR_k, z_uL_s, z_uL_k, true_and, and_true, and_self, not_true_eq_false, not_false_eq_true, forall_const, Option.toList, List.cons_append, List.nil_append, List.singleton_append, Nat.reduceAdd, Nat.zero_add, Nat.add_zero, Nat.reduceEqDiff, ↓reduceIte, ite_true, ite_false, reduceCtorEq, Int.cast_ofNat_Int, Int.reduceAdd, Int.reduceToNat, ne_eq, false_imp_iff, true_imp_iff, cl_58, bf_58_0, bf_58_58, bf_58_82, bo_58_0, bo_58_58, bo_58_82, v4, e2, e_rmk, i_c58]
  refine ⟨by omega, ?_⟩
  have w4 : p4.2.2.2.1 2 = (1, 6) := by rw [← hp4]; exact v4
  subst hp4
  refine z_for (α := ZM) (P := fun k p => p.2.2.2.2 = (328 + 20 * k, T.2.2 + 3818 + 231 * k) → AG 327 (z_new (z_sR M4 2 3 45) 327 2 4 (6, 2) 328 (T.2.2 + 3818)) p 328 → p.2.2.2.1 327 = (6, 2) → (∀ i, i < k → p.2.1 327 i = some (328 + 20 * i) ∧ SX p.2.2.2 p.2.1 (328 + 20 * i)) → I0 p 327 (328 + 20 * k) → z_W l G 58 (3, T.2.2) (fun v M' => Q v M' ∧ M'.2.2.2.2.1 = 373 ∧ M'.2.2.2.2.2 = T.2.2 + 4304) 58 [some (.ref 2), some (.int (nI k))] [] p) 2 (fun p p1' p2' p3' p4' p5' => ?_) (fun k hk ih p p1' p2' p3' p4' p5' => ?_) 0 (by omega) (z_new (z_sR M4 2 3 45) 327 2 4 (6, 2) 328 (T.2.2 + 3818)) rfl (fun _ _ => ⟨⟨rfl, rfl, rfl⟩, fun _ => rfl⟩) n_4x (fun i hi => absurd hi (Nat.not_lt_zero _)) (fun c c1 c2 => absurd c1 (by omega))
  · have q1 : p.2.2.2.1 2 = (1, 6) := (p2'.T (by omega)).trans ((n_4 (by omega)).trans w4)
    have p1'' : p.2.2.2.2 = (368, T.2.2 + 4280) := by rw [p1']
    have x1 : (2 = 368) = False := eq_false (by omega)
    refine z_run ck_58 3 bf_58_58 ?_
    simp (disch := omega) only [e_q0, e_nil, e_cons, e_q, e_qf, e_qt, e_af, z_hd, z_mk1, z_lg, z_s1, z_s2, z_kl, z_en, z_kI, z_fv, z_ic, z_c1, z_sh, z_pop, z_rc, z_tgt, z_tsw, z_lsw, z_nw, z_ac, o_kI, o_kL, o_ldi, o_ldl, o_lda, o_sti, o_sta, o_stl, o_inc, o_b2, o_bz, o_l2, o_lz, o_ls, o_lneg, o_i2l, o_l2i, o_lcmp, o_dup, o_dupx1, o_dup2, o_if, o_if2, o_ifnull, o_get, o_put, o_iald, o_zald, o_aald, o_alen, o_iast, o_zast, o_aast, o_new, o_newa, o_call, o_call1, o_callN, o_obj, o_reti, o_retl, o_ret, o_tsw, o_lsw, va_rf_s, va_rf_n, z_u2_s, z_u2_k, z_u2_f, z_uR_f, z_uL_f, e_ix, e_vp, e_lt, e_le, e_eq, e_lt0, e_eq0, e_b0, e_b1, e_10, e_11, true_or, or_true, false_or, nI_add, z_bi_0, z_bi_1, e_bb, z_uR_s, z_uR_k, z_uL_s, z_uL_k, true_and, and_true, and_self, not_true_eq_false, not_false_eq_true, forall_const, Option.toList, List.cons_append, List.nil_append, List.singleton_append, Nat.reduceAdd, Nat.zero_add, Nat.add_zero, Nat.reduceEqDiff, ↓reduceIte, ite_true, ite_false, reduceCtorEq, Int.cast_ofNat_Int, Int.reduceAdd, Int.reduceToNat, ne_eq, false_imp_iff, true_imp_iff, cl_58, bf_58_0, bf_58_58, bf_58_82, bo_58_0, bo_58_58, bo_58_82, q1, p1'', e_rmk, i_c58, i_c44, x1, Nat.le_refl]
    refine ⟨by omega, by omega, i_Obs (a := 369) rfl rfl fun M8 g1 g2 g3 g4 g5 => ?_⟩
    have g1 : IF (z_n0 (z_new p 368 2 5 (3, 2) 369 (T.2.2 + 4282)) 369 (1, 4) 370 (T.2.2 + 4286)) M8 369 := g1
    have A8 : AG 0 (z_new p 368 2 5 (3, 2) 369 (T.2.2 + 4282)) M8 369 := AG.trans AG.n0 (AG.if g1) (Nat.le_refl _)
    have v8 : M8.2.2.2.1 2 = (1, 6) := (A8.T (by omega)).trans ((n_4 (by omega)).trans q1)
    obtain ⟨B8, b8, b8', z8⟩ := i_st (X := 369) (kf := 6) (by omega) g1
    simp (disch := omega) only [e_q0, e_nil, e_cons, e_q, e_qf, e_qt, e_af, z_hd, z_mk1, z_lg, z_s1, z_s2, z_kl, z_en, z_kI, z_fv, z_ic, z_c1, z_sh, z_pop, z_rc, z_tgt, z_tsw, z_lsw, z_nw, z_ac, o_kI, o_kL, o_ldi, o_ldl, o_lda, o_sti, o_sta, o_stl, o_inc, o_b2, o_bz, o_l2, o_lz, o_ls, o_lneg, o_i2l, o_l2i, o_lcmp, o_dup, o_dupx1, o_dup2, o_if, o_if2, o_ifnull, o_get, o_put, o_iald, o_zald, o_aald, o_alen, o_iast, o_zast, o_aast, o_new, o_newa, o_call, o_call1, o_callN, o_obj, o_reti, o_retl, o_ret, o_tsw, o_lsw, va_rf_s, va_rf_n, z_u2_s, z_u2_k, z_u2_f, z_uR_f, z_uL_f, e_ix, e_vp, e_lt, e_le, e_eq, e_lt0, e_eq0, e_b0, e_b1, e_10, e_11, true_or, or_true, false_or, nI_add, z_bi_0, z_bi_1, e_bb, z_uR_s, z_uR_k, z_uL_s, z_uL_k, true_and, and_true, and_self, not_true_eq_false, not_false_eq_true, forall_const, Option.toList, List.cons_append, List.nil_append, List.singleton_append, Nat.reduceAdd, Nat.zero_add, Nat.add_zero, Nat.reduceEqDiff, ↓reduceIte, ite_true, ite_false, reduceCtorEq, Int.cast_ofNat_Int, Int.reduceAdd, Int.reduceToNat, ne_eq, false_imp_iff, true_imp_iff, cl_58, bf_58_0, bf_58_58, bf_58_82, bo_58_0, bo_58_58, bo_58_82, v8, g2, e_rmk, i_c58]
    have L8 : AG 2 p (z_sR M8 2 6 369) 368 := AG.trans AG.new B8 (by omega)
    have H4 : AH (z_sR M4 2 3 45) (z_sR M8 2 6 369) 327 := AH.trans AG.new.h2 (AH.trans p2'.h3 L8.h2 (by omega)) (by omega)
    have H3 : AH p3 (z_sR M8 2 6 369) 45 := AH.trans B4.h2 H4 (by omega)
    have H2 : AH p2 (z_sR M8 2 6 369) 25 := AH.trans B3.h2 H3 (by omega)
    have H1 : AH p1 (z_sR M8 2 6 369) 5 := AH.trans B2.h2 H2 (by omega)
    have r4 : (z_sR M8 2 6 369).2.1 2 4 = some 327 := by rw [b8' 4 (by omega), n_2a (by omega) (by omega), p2'.R (by omega) (by omega)]; exact n_2k
    have r5 : (z_sR M8 2 6 369).2.1 2 5 = some 368 := by rw [b8' 5 (by omega)]; exact n_2k
    have rj : ∀ j, j < 4 → (z_sR M8 2 6 369).2.1 2 j = (z_sR M4 2 3 45).2.1 2 j := fun j hj => by rw [b8' j (by omega), n_2a (by omega) (by omega), p2'.R (by omega) (by omega), n_2a (by omega) (by omega)]
    have r3 : (z_sR M8 2 6 369).2.1 2 3 = some 45 := by rw [rj 3 (by omega)]; exact b4
    have r2 : (z_sR M8 2 6 369).2.1 2 2 = some 25 := by rw [rj 2 (by omega), b4' 2 (by omega)]; exact b3
    have r1 : (z_sR M8 2 6 369).2.1 2 1 = some 5 := by rw [rj 1 (by omega), b4' 1 (by omega), b3' 1 (by omega)]; exact b2
    have r0 : (z_sR M8 2 6 369).2.1 2 0 = some 3 := by rw [rj 0 (by omega), b4' 0 (by omega), b3' 0 (by omega), b2' 0 (by omega)]; exact b1
    have t3 : (z_sR M8 2 6 369).2.2.2.1 3 = (1, 5) := by rw [(H1 3 (by omega)).1.2, ← hp1]; exact (u1.1 3 (by omega)).2.2
    have t4 : (z_sR M8 2 6 369).2.2.2.1 4 = (2, 100) := by rw [(H1 4 (by omega)).1.2, ← hp1]; exact u3
    have s3 : (z_sR M8 2 6 369).2.1 3 0 = some 4 := by rw [(H1 3 (by omega)).2 (by omega) (by omega), ← hp1]; show z_uR M1.2.1 2 0 (some 3) 3 0 = _; rw [z_uR_f (by omega)]; exact u4
    have t45 : (z_sR M8 2 6 369).2.2.2.1 45 = (1, 0) := by rw [(H4 45 (by omega)).1.2]; exact (e1.1 45 (by omega)).2.2.trans n0_t
    have t46 : (z_sR M8 2 6 369).2.2.2.1 46 = (6, 14) := by rw [(H4 46 (by omega)).1.2]; exact e3
    have s45 : (z_sR M8 2 6 369).2.1 45 0 = some 46 := by rw [(H4 45 (by omega)).2 (by omega) (by omega)]; show z_uR M4.2.1 2 3 (some 45) 45 0 = _; rw [z_uR_f (by omega)]; exact e4
    have t327 : (z_sR M8 2 6 369).2.2.2.1 327 = (6, 2) := (L8.T (by omega)).trans p3'
    have t368 : (z_sR M8 2 6 369).2.2.2.1 368 = (3, 2) := (B8.T (by omega)).trans n_4x
    have t369 : (z_sR M8 2 6 369).2.2.2.1 369 = (1, 4) := (g1.1 369 (by omega)).2.2.trans n0_t
    have s369 : (z_sR M8 2 6 369).2.1 369 = M8.2.1 369 := by show z_uR M8.2.1 2 6 (some 369) 369 = _; rw [z_uR_f (by omega)]
    have sx5 : SX (z_sR M8 2 6 369).2.2.2 (z_sR M8 2 6 369).2.1 5 := by
      refine SX.ah ?_ H2 (by omega) (by omega) (by omega)
      rw [← hp2]
      exact SX.ag c3 (AG.sR (w := 2) (X := 25)) (by omega) (by omega)
    have sx25 : SX (z_sR M8 2 6 369).2.2.2 (z_sR M8 2 6 369).2.1 25 := by
      refine SX.ah ?_ H3 (by omega) (by omega) (by omega)
      rw [← hp3]
      exact SX.ag d3 (AG.sR (w := 2) (X := 45)) (by omega) (by omega)
    have i1 : I0 (z_sR M8 2 6 369) 2 5 := I0.ah (I0.join (m := 3) (fun c x y => absurd x (by omega)) z1 (by rw [← hp1]; exact u5)) H1 (by omega)
    have i2 : I0 (z_sR M8 2 6 369) 2 25 := I0.join i1 ((H2 5 (by omega)).1.1.trans z2) (I0.ah (by rw [← hp2]; exact c4) H2 (by omega))
    have i3 : I0 (z_sR M8 2 6 369) 2 45 := I0.join i2 ((H3 25 (by omega)).1.1.trans z3) (I0.ah (by rw [← hp3]; exact d4) H3 (by omega))
    have i4 : I0 (z_sR M8 2 6 369) 2 327 := I0.join i3 ((H4 45 (by omega)).1.1.trans z4) (I0.ah (p := z_sR M4 2 3 45) e6 H4 (by omega))
    have i5 : I0 (z_sR M8 2 6 369) 2 368 := I0.join i4 ((L8 327 (by omega)).1.1.trans ((p2' 327 (by omega)).1.1.trans n_1x)) (I0.ah (p := p) p5' L8.h2 (by omega))
    have i6 : I0 (z_sR M8 2 6 369) 2 369 := I0.join i5 ((B8 368 (by omega)).1.1.trans n_1x) (fun c x y => absurd x (by omega))
    have i7 : I0 (z_sR M8 2 6 369) 2 373 := I0.join i6 z8 g5
    refine h (M8.1, z_uR M8.2.1 2 6 (some 369), z_uL M8.2.2.1 2 7 (lN 0), M8.2.2.2) ?_ ?_ i7 ?_
    · show M8.2.2.2.2 = _
      rw [g2]
    · refine ⟨⟨⟨v8, t3, t4, t45, t46, t327, t368, t369, g3.1, g3.2.1, g3.2.2⟩, r0, r1, r2, r3, r4, r5, b8, s3, s45, ?_, ?_, ?_⟩, ⟨sx5, sx25⟩, fun i hi => ⟨?_, ?_⟩, fun i hi => ⟨?_, ?_⟩⟩
      · exact (congrFun s369 0).trans g4.1
      · exact (congrFun s369 1).trans g4.2.1
      · exact (congrFun s369 2).trans g4.2.2
      · show (z_sR M8 2 6 369).2.1 46 i = _
        rw [(H4 46 (by omega)).2 (by omega) (by omega)]
        show z_uR M4.2.1 2 3 (some 45) 46 i = _
        rw [z_uR_f (by omega)]
        exact (e5 i hi).1
      · exact SX.ah (p := z_sR M4 2 3 45) (SX.ag (e5 i hi).2 (AG.sR (w := 2) (X := 327)) (by omega) (by omega)) H4 (by omega) (by omega) (by omega)
      · show (z_sR M8 2 6 369).2.1 327 i = _
        rw [L8.R (by omega) (by omega)]
        exact (p4' i hi).1
      · exact SX.ag (p := p) (q := z_sR M8 2 6 369) (p4' i hi).2 L8 (by omega) (by omega)
    · show z_uL M8.2.2.1 2 7 (lN 0) 2 7 = _
      rw [z_uL_s]
      rfl
  · have q1 : p.2.2.2.1 2 = (1, 6) := (p2'.T (by omega)).trans ((n_4 (by omega)).trans w4)
    have q2 : p.2.1 2 4 = some 327 := by rw [p2'.R (by omega) (by omega)]; exact n_2k
    have x1 : (327 = 328 + 20 * k) = False := eq_false (by omega)
    have x2 : (2 = 328 + 20 * k) = False := eq_false (by omega)
    have hk' := Nat.not_le.mpr hk
    refine z_run ck_58 3 bf_58_58 ?_
    simp (disch := omega) only [e_q0, e_nil, e_cons, e_q, e_qf, e_qt, e_af, z_hd, z_mk1, z_lg, z_s1, z_s2, z_kl, z_en, z_kI, z_fv, z_ic, z_c1, z_sh, z_pop, z_rc, z_tgt, z_tsw, z_lsw, z_nw, z_ac, o_kI, o_kL, o_ldi, o_ldl, o_lda, o_sti, o_sta, o_stl, o_inc, o_b2, o_bz, o_l2, o_lz, o_ls, o_lneg, o_i2l, o_l2i, o_lcmp, o_dup, o_dupx1, o_dup2, o_if, o_if2, o_ifnull, o_get, o_put, o_iald, o_zald, o_aald, o_alen, o_iast, o_zast, o_aast, o_new, o_newa, o_call, o_call1, o_callN, o_obj, o_reti, o_retl, o_ret, o_tsw, o_lsw, va_rf_s, va_rf_n, z_u2_s, z_u2_k, z_u2_f, z_uR_f, z_uL_f, e_ix, e_vp, e_lt, e_le, e_eq, e_lt0, e_eq0, e_b0, e_b1, e_10, e_11, true_or, or_true, false_or, nI_add, z_bi_0, z_bi_1, e_bb, z_uR_s, z_uR_k, z_uL_s, z_uL_k, true_and, and_true, and_self, not_true_eq_false, not_false_eq_true, forall_const, Option.toList, List.cons_append, List.nil_append, List.singleton_append, Nat.reduceAdd, Nat.zero_add, Nat.add_zero, Nat.reduceEqDiff, ↓reduceIte, ite_true, ite_false, reduceCtorEq, Int.cast_ofNat_Int, Int.reduceAdd, Int.reduceToNat, ne_eq, false_imp_iff, true_imp_iff, cl_58, bf_58_0, bf_58_58, bf_58_82, bo_58_0, bo_58_58, bo_58_82, q1, q2, p1', p3', e_rmk, i_c58, i_c11, x1, x2, hk']
    refine ⟨by omega, by omega, i_Mesh (a := 328 + 20 * k) (if_pos rfl) rfl fun M' y1 y2 y3 y4 => ?_⟩
    have A0 : ∀ w, AG w p M' (328 + 20 * k) := fun w => AG.trans (AG.n0 (t := (1, 2)) (nx := 0) (sl := 0)) (AG.if y1) (Nat.le_refl _)
    have y5 : M'.2.2.2.1 327 = (6, 2) := ((A0 2).T (by omega)).trans p3'
    have y6 := y3.1.1
    simp (disch := omega) only [e_q0, e_nil, e_cons, e_q, e_qf, e_qt, e_af, z_hd, z_mk1, z_lg, z_s1, z_s2, z_kl, z_en, z_kI, z_fv, z_ic, z_c1, z_sh, z_pop, z_rc, z_tgt, z_tsw, z_lsw, z_nw, z_ac, o_kI, o_kL, o_ldi, o_ldl, o_lda, o_sti, o_sta, o_stl, o_inc, o_b2, o_bz, o_l2, o_lz, o_ls, o_lneg, o_i2l, o_l2i, o_lcmp, o_dup, o_dupx1, o_dup2, o_if, o_if2, o_ifnull, o_get, o_put, o_iald, o_zald, o_aald, o_alen, o_iast, o_zast, o_aast, o_new, o_newa, o_call, o_call1, o_callN, o_obj, o_reti, o_retl, o_ret, o_tsw, o_lsw, va_rf_s, va_rf_n, z_u2_s, z_u2_k, z_u2_f, z_uR_f, z_uL_f, e_ix, e_vp, e_lt, e_le, e_eq, e_lt0, e_eq0, e_b0, e_b1, e_10, e_11, true_or, or_true, false_or, nI_add, z_bi_0, z_bi_1, e_bb, z_uR_s, z_uR_k, z_uL_s, z_uL_k, true_and, and_true, and_self, not_true_eq_false, not_false_eq_true, forall_const, Option.toList, List.cons_append, List.nil_append, List.singleton_append, Nat.reduceAdd, Nat.zero_add, Nat.add_zero, Nat.reduceEqDiff, ↓reduceIte, ite_true, ite_false, reduceCtorEq, Int.cast_ofNat_Int, Int.reduceAdd, Int.reduceToNat, ne_eq, false_imp_iff, true_imp_iff, cl_58, bf_58_0, bf_58_58, bf_58_82, bo_58_0, bo_58_58, bo_58_82, y5, y6, z_t6]
    have A9 : AG 327 p (z_sR M' 327 k (328 + 20 * k)) (328 + 20 * k) := AG.trans (A0 _) AG.sR (Nat.le_refl _)
    refine ih (z_sR M' 327 k (328 + 20 * k)) ?_ (AG.trans p2' A9 (by omega)) ((A9.T (by omega)).trans p3') (fun i hi => ?_) ?_
    · show M'.2.2.2.2 = _
      rw [y2]
      show (328 + 20 * k + 20, T.2.2 + 3818 + 231 * k + 7 + 224) = _
      rw [show 328 + 20 * k + 20 = 328 + 20 * (k + 1) by omega, show T.2.2 + 3818 + 231 * k + 7 + 224 = T.2.2 + 3818 + 231 * (k + 1) by omega]
    · by_cases e : i = k
      · rw [e]
        exact ⟨z_uR_s, SX.ag y3 (AG.sR (w := 327) (X := 328 + 20 * k + 20)) (Nat.le_refl _) (Or.inl (by omega))⟩
      · refine ⟨?_, SX.ag (p4' i (by omega)).2 A9 (by omega) (Or.inl (by omega))⟩
        show z_uR M'.2.1 327 k (some (328 + 20 * k)) 327 i = _
        rw [z_uR_k e, (A0 2).R (by omega) (by omega)]
        exact (p4' i (by omega)).1
    · have w : I0 (z_sR M' 327 k (328 + 20 * k)) 327 (328 + 20 * k + 20) := I0.join (p5'.ag A9 (Nat.le_refl _)) ((y1.1 _ (Nat.le_refl _)).1.trans (funext fun _ => if_pos rfl)) y4
      rw [show 328 + 20 * (k + 1) = 328 + 20 * k + 20 by omega]
      exact w
end
