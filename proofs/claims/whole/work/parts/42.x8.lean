/-- a round's row, as the class's nodes -/
theorem f_air_go {s : ZS} {co : Int32} {r : ZW} {k : Nat} (h8 : s.1.1 ≤ 8) (hk : k < 9) : f_air s (f_go s co r) k = f_air s r k := by
  unfold f_air
  rw [f_go_hi h8 (by omega) (by omega) (by omega), f_go_hi h8 (by omega) (by omega) (by omega)]
section
variable {l : Launch} {G : ZG} {mi : Nat → Nat → Int32} {mr : Nat → Nat → Option Nat} {ml : Nat → Nat → Int64} {T : (Nat → Nat × Nat) × Nat × Nat} {Q : ZR} {a : Nat} {s : ZS} {r : ZW}
theorem z_biT : z_bi true = nI 1 := rfl
theorem z_biF : z_bi false = nI 0 := rfl
theorem z_bi_or {x y : Bool} : z_bi x ||| z_bi y = z_bi (x || y) := by cases x <;> cases y <;> decide
theorem NX.na {f : ZW} {co : Int32} {i : Nat} (h8 : s.1.1 ≤ 8) (hi : i < s.1.1) (hn : ¬ f_acts s r i = true) (h : NX f s r i) : NX f s (f_go s co r) i := by
  obtain ⟨g1, g2, g3, g4, g5⟩ := f_go_5n (co := co) h8 hi hn
  unfold NX
  rw [g1, g2, g3, g4, g5, f_go_hi h8 (by omega) (by omega) (by omega)]
  exact h
theorem x_lastLoop {co : Int32} {B : Nat} {p : (Nat → Nat → Int32) × (Nat → Nat → Option Nat)} (hS : SX T mr a) (hX : MX mi a s r) (hs : f_sok s) (hr : f_row s B r) (hB : B ≤ 1000000) (hp : GX p.1 mi p.2 mr a) (hn : RX p.1 p.2 a s co r (fun i => x_hrd s co r i s.1.2))
    (h : ∀ f g, FX f mi g mr a → MX f a s (f_go s co r) → Q none (f, g, ml, T)) : z_W l G 23 (T.2.1, T.2.2) (fun v M' => Q v M' ∧ M'.2.2.2 = T) 81 [some (.ref a), none, some (.int (nI 0)), some (.int (nI 0))] [] (p.1, p.2, ml, T) := by
  have h8 := hs.1
  have h1 := hS.1
  have h2 := hX.1
  have ea := hp a (by omega)
  have ea1 := hp (a + 1) (by omega)
  refine z_for (P := fun k f => (∀ c, (∀ i, i < k → c ≠ a + 2 + i) → f c = p.1 c) → (∀ c j, 9 ≤ j → f c j = p.1 c j) → (∀ i, i < k → NX (f (a + 2 + i)) s (f_go s co r) i) → z_W l G 23 (T.2.1, T.2.2) (fun v M' => Q v M' ∧ M'.2.2.2 = T) 81 [some (.ref a), none, some (.int (z_bi (f_asks s co r k))), some (.int (nI k))] [] (f, p.2, ml, T)) s.1.1 (fun f f1 f2 f3 => ?_) (fun k hk ih f f1 f2 f3 => ?_) 0 (by omega) p.1 (fun _ _ => rfl) (fun _ _ _ => rfl) (fun i hi => absurd hi (Nat.not_lt_zero _))
  · have fa := f1 a (fun i _ => by omega)
    refine z_run ck_23 9 bf_23_81 ?_
    simp (disch := omega) only [e_q0, e_nil, e_cons, e_q, e_qf, e_qt, e_af, z_hd, z_mk1, z_lg, z_s1, z_s2, z_kl, z_en, z_kI, z_fv, z_ic, z_c1, z_sh, z_pop, z_rc, z_tgt, z_tsw, z_lsw, z_nw, z_ac, o_kI, o_kL, o_ldi, o_ldl, o_lda, o_sti, o_sta, o_stl, o_inc, o_b2, o_bz, o_l2, o_lz, o_ls, o_lneg, o_i2l, o_l2i, o_lcmp, o_dup, o_dupx1, o_dup2, o_if, o_if2, o_ifnull, o_get, o_put, o_iald, o_zald, o_aald, o_alen, o_iast, o_zast, o_aast, o_new, o_newa, o_call, o_call1, o_callN, o_obj, o_reti, o_retl, o_ret, o_tsw, o_lsw, va_rf_s, va_rf_n, z_u2_s, z_u2_k, z_u2_f, z_uR_f, z_uL_f, e_ix, e_vp, e_lt, e_le, e_eq, e_lt0, e_eq0, e_b0, e_b1, e_10, e_11, true_or, or_true, false_or, nI_add, z_bi_0, z_bi_1, e_bb, z_uR_s, z_uR_k, z_uL_s, z_uL_k, true_and, and_true, and_self, not_true_eq_false, not_false_eq_true, forall_const, Option.toList, List.cons_append, List.nil_append, List.singleton_append, Nat.reduceAdd, Nat.zero_add, Nat.add_zero, Nat.reduceEqDiff, ↓reduceIte, ite_true, ite_false, reduceCtorEq, Int.cast_ofNat_Int, Int.reduceAdd, Int.reduceToNat, ne_eq, false_imp_iff, true_imp_iff, cl_23, bf_23_0, bf_23_2, bf_23_32, bf_23_33, bf_23_51, bf_23_53, bf_23_77, bf_23_81, bf_23_142, bf_23_148, bf_23_162, bo_23_0, bo_23_2, bo_23_32, bo_23_33, bo_23_51, bo_23_53, bo_23_77, bo_23_81, bo_23_142, bo_23_148, bo_23_162, h1, h2, ea, ea1, fa, Nat.le_refl, z_bi_0]
    have fin : ∀ F : Nat → Nat → Int32, (∀ c, c ≠ a → F c = f c) → (∀ j, j ≠ 5 → j ≠ 6 → F a j = f a j) → F a 5 = f_go s co r 76 → F a 6 = f_go s co r 77 → Q none (F, p.2, ml, T) := fun F b1 b2 b3 b4 => by
      refine h F p.2 ⟨fun c hc => ?_, fun c hc => (hp c hc).2⟩ ⟨⟨?_, ?_, ?_, b3, b4⟩, fun i hi => ?_, fun k hk => ?_⟩
      · rw [b1 c (by omega), f1 c (fun i hi => by omega)]; exact (hp c (by omega)).1
      · rw [b2 2 (by omega) (by omega), fa, ea.1]; exact h2.1
      · rw [b2 3 (by omega) (by omega), fa, ea.1]; exact h2.2.1
      · rw [b2 4 (by omega) (by omega), fa, ea.1, f_go_hi h8.1 (by omega) (by omega) (by omega)]; exact h2.2.2.1
      · rw [b1 _ (by omega)]; exact f3 i hi
      · rw [b1 _ (by omega), f1 _ (fun i hi => by omega), (hp _ (by omega)).1]
        unfold LX
        rw [f_go_hi h8.1 (by omega) (by omega) (by omega), f_go_hi h8.1 (by omega) (by omega) (by omega), f_go_hi h8.1 (by omega) (by omega) (by omega), f_air_go h8.1 (by omega)]
        exact hX.2.2 k hk
    have e6 := f_go_76 (s := s) (co := co) (A := r)
    have e7 := f_go_77 (s := s) (co := co) (A := r)
    refine ⟨fun c => fin _ (fun c hc => z_u2_f hc) (fun j _ hj => z_u2_k hj) ?_ ?_, fun c => fin _ (fun c hc => by rw [z_u2_f hc, z_u2_f hc]) (fun j h5 h6 => by rw [z_u2_k h6, z_u2_k h5]) ?_ ?_⟩
    · rw [z_u2_k (by omega), fa, ea.1, h2.2.2.2.1, e6, c, if_neg (by decide), show nI 0 = 0 from rfl, Int32.add_zero]
    · rw [z_u2_s, e7]
    · rw [z_u2_k (by omega), z_u2_s, e6, if_pos (by simpa using c)]
    · rw [z_u2_s, e7]
  · have fa := f1 a (fun i _ => by omega)
    have fk := f1 (a + 2 + k) (fun i hi => by omega)
    have hk' := Nat.not_le.mpr hk
    have q1 := hS.2.1 k (by omega)
    have nk := (hn k hk).1
    have e0 : f (a + 2 + k) 0 = s.2 0 k := by rw [fk]; exact nk.1.1
    refine z_run ck_23 9 bf_23_81 ?_
    simp (disch := omega) only [e_q0, e_nil, e_cons, e_q, e_qf, e_qt, e_af, z_hd, z_mk1, z_lg, z_s1, z_s2, z_kl, z_en, z_kI, z_fv, z_ic, z_c1, z_sh, z_pop, z_rc, z_tgt, z_tsw, z_lsw, z_nw, z_ac, o_kI, o_kL, o_ldi, o_ldl, o_lda, o_sti, o_sta, o_stl, o_inc, o_b2, o_bz, o_l2, o_lz, o_ls, o_lneg, o_i2l, o_l2i, o_lcmp, o_dup, o_dupx1, o_dup2, o_if, o_if2, o_ifnull, o_get, o_put, o_iald, o_zald, o_aald, o_alen, o_iast, o_zast, o_aast, o_new, o_newa, o_call, o_call1, o_callN, o_obj, o_reti, o_retl, o_ret, o_tsw, o_lsw, va_rf_s, va_rf_n, z_u2_s, z_u2_k, z_u2_f, z_uR_f, z_uL_f, e_ix, e_vp, e_lt, e_le, e_eq, e_lt0, e_eq0, e_b0, e_b1, e_10, e_11, true_or, or_true, false_or, nI_add, z_bi_0, z_bi_1, e_bb, z_uR_s, z_uR_k, z_uL_s, z_uL_k, true_and, and_true, and_self, not_true_eq_false, not_false_eq_true, forall_const, Option.toList, List.cons_append, List.nil_append, List.singleton_append, Nat.reduceAdd, Nat.zero_add, Nat.add_zero, Nat.reduceEqDiff, ↓reduceIte, ite_true, ite_false, reduceCtorEq, Int.cast_ofNat_Int, Int.reduceAdd, Int.reduceToNat, ne_eq, false_imp_iff, true_imp_iff, cl_23, bf_23_0, bf_23_2, bf_23_32, bf_23_33, bf_23_51, bf_23_53, bf_23_77, bf_23_81, bf_23_142, bf_23_148, bf_23_162, bo_23_0, bo_23_2, bo_23_32, bo_23_33, bo_23_51, bo_23_53, bo_23_77, bo_23_81, bo_23_142, bo_23_148, bo_23_162, h1, h2, ea, ea1, fa, q1, z_t4, z_t5, z_t6, hk', e0]
    have nogo : ¬ f_acts s r k = true → z_W l G 23 (T.2.1, T.2.2) (fun v M' => Q v M' ∧ M'.2.2.2 = T) 81 [some (.ref a), none, some (.int (z_bi (f_asks s co r k))), some (.int (nI (k + 1)))] [] (f, p.2, ml, T) := fun na => by
      have w := ih f (fun c hc => f1 c (fun i hi => hc i (by omega))) f2 (fun i hi => by
        by_cases e : i = k
        · subst e; rw [fk]; exact NX.na h8.1 hk na nk
        · exact f3 i (by omega))
      have e : f_asks s co r (k + 1) = f_asks s co r k := by
        show (f_asks s co r k || (f_acts s r k && f_ask s co r k)) = _
        rw [show f_acts s r k = false by simpa using na, Bool.false_and, Bool.or_false]
      rw [e] at w
      exact w
    refine ⟨fun c => nogo (by unfold f_acts; simp [c]), fun c => ?_⟩
    refine x_isAwake (mi := f) (mr := p.2) (s := s) (r := r) (i := k) q1.1 (by rw [fk]; exact nk) (fun e => ?_) ?_
    · rcases hs.2.1 k hk with ⟨q, _⟩ | ⟨_, c, p, g1, g2, _, g4, _⟩
      · rw [e] at q; rcases q with q | q <;> exact absurd q (by decide)
      · exact ⟨c, g1, g2, g4⟩
    cases hw : f_awake s (r 77) k with
    | false =>
      simp (disch := omega) only [e_q0, e_nil, e_cons, e_q, e_qf, e_qt, e_af, z_hd, z_mk1, z_lg, z_s1, z_s2, z_kl, z_en, z_kI, z_fv, z_ic, z_c1, z_sh, z_pop, z_rc, z_tgt, z_tsw, z_lsw, z_nw, z_ac, o_kI, o_kL, o_ldi, o_ldl, o_lda, o_sti, o_sta, o_stl, o_inc, o_b2, o_bz, o_l2, o_lz, o_ls, o_lneg, o_i2l, o_l2i, o_lcmp, o_dup, o_dupx1, o_dup2, o_if, o_if2, o_ifnull, o_get, o_put, o_iald, o_zald, o_aald, o_alen, o_iast, o_zast, o_aast, o_new, o_newa, o_call, o_call1, o_callN, o_obj, o_reti, o_retl, o_ret, o_tsw, o_lsw, va_rf_s, va_rf_n, z_u2_s, z_u2_k, z_u2_f, z_uR_f, z_uL_f, e_ix, e_vp, e_lt, e_le, e_eq, e_lt0, e_eq0, e_b0, e_b1, e_10, e_11, true_or, or_true, false_or, nI_add, z_bi_0, z_bi_1, e_bb, z_uR_s, z_uR_k, z_uL_s, z_uL_k, true_and, and_true, and_self, not_true_eq_false, not_false_eq_true, forall_const, Option.toList, List.cons_append, List.nil_append, List.singleton_append, Nat.reduceAdd, Nat.zero_add, Nat.add_zero, Nat.reduceEqDiff, ↓reduceIte, ite_true, ite_false, reduceCtorEq, Int.cast_ofNat_Int, Int.reduceAdd, Int.reduceToNat, ne_eq, false_imp_iff, true_imp_iff, cl_23, bf_23_0, bf_23_2, bf_23_32, bf_23_33, bf_23_51, bf_23_53, bf_23_77, bf_23_81, bf_23_142, bf_23_148, bf_23_162, bo_23_0, bo_23_2, bo_23_32, bo_23_33, bo_23_51, bo_23_53, bo_23_77, bo_23_81, bo_23_142, bo_23_148, bo_23_162, z_biT, z_biF]
      exact nogo (by unfold f_acts; simp [hw])
    | true =>
      have ha : f_acts s r k = true := by unfold f_acts; simp [hw, c]
      simp (disch := omega) only [e_q0, e_nil, e_cons, e_q, e_qf, e_qt, e_af, z_hd, z_mk1, z_lg, z_s1, z_s2, z_kl, z_en, z_kI, z_fv, z_ic, z_c1, z_sh, z_pop, z_rc, z_tgt, z_tsw, z_lsw, z_nw, z_ac, o_kI, o_kL, o_ldi, o_ldl, o_lda, o_sti, o_sta, o_stl, o_inc, o_b2, o_bz, o_l2, o_lz, o_ls, o_lneg, o_i2l, o_l2i, o_lcmp, o_dup, o_dupx1, o_dup2, o_if, o_if2, o_ifnull, o_get, o_put, o_iald, o_zald, o_aald, o_alen, o_iast, o_zast, o_aast, o_new, o_newa, o_call, o_call1, o_callN, o_obj, o_reti, o_retl, o_ret, o_tsw, o_lsw, va_rf_s, va_rf_n, z_u2_s, z_u2_k, z_u2_f, z_uR_f, z_uL_f, e_ix, e_vp, e_lt, e_le, e_eq, e_lt0, e_eq0, e_b0, e_b1, e_10, e_11, true_or, or_true, false_or, nI_add, z_bi_0, z_bi_1, e_bb, z_uR_s, z_uR_k, z_uL_s, z_uL_k, true_and, and_true, and_self, not_true_eq_false, not_false_eq_true, forall_const, Option.toList, List.cons_append, List.nil_append, List.singleton_append, Nat.reduceAdd, Nat.zero_add, Nat.add_zero, Nat.reduceEqDiff, ↓reduceIte, ite_true, ite_false, reduceCtorEq, Int.cast_ofNat_Int, Int.reduceAdd, Int.reduceToNat, ne_eq, false_imp_iff, true_imp_iff, cl_23, bf_23_0, bf_23_2, bf_23_32, bf_23_33, bf_23_51, bf_23_53, bf_23_77, bf_23_81, bf_23_142, bf_23_148, bf_23_162, bo_23_0, bo_23_2, bo_23_32, bo_23_33, bo_23_51, bo_23_53, bo_23_77, bo_23_81, bo_23_142, bo_23_148, bo_23_162, h1, h2, ea, ea1, fa, q1, z_t4, z_t5, z_t6, z_biT, z_biF]
      have gt : ∀ q, q < s.1.1 → f_offers s co r q = true → T.1 (a + 2 + q) = (1, 3) ∧ f (a + 2 + q) 10 = f_seq s r q := fun q hq ho => ⟨(hS.2.1 q (by omega)).1, by rw [f2 _ 10 (by omega)]; exact ((hn q hq).2.1.2 ho).1⟩
      refine x_choose (mi := f) (mr := p.2) (n := k) (s := s) (r := r) (t := x_hrd s co r k s.1.2) q1.1 (by rw [fk]; exact nk) (by rw [fk]; exact (hn k hk).2.2) (fun q hq => ?_) (fun q hq => ?_) fun F b1 b2 b4 b5 b6 b7 b8 => ?_
      · obtain ⟨m, pp⟩ := q
        obtain ⟨⟨j, hj, hf, ho, _⟩, _⟩ := (x_hrd_2 hs hk s.1.2 (Nat.le_refl _) m pp).mp hq
        exact gt m (x_from_some hs hk hj hf).2.1 ho.1
      · have w := x_hrd_3 (s := s) (co := co) (r := r) (n := k) s.1.2
        rw [hq] at w
        obtain ⟨j, hj, hf, ho, _⟩ := w.1
        exact gt q.1 (x_from_some hs hk hj hf).2.1 ho.1
      have Fa : F a = mi a := by rw [b1 a (by omega), fa, ea.1]
      simp (disch := omega) only [e_q0, e_nil, e_cons, e_q, e_qf, e_qt, e_af, z_hd, z_mk1, z_lg, z_s1, z_s2, z_kl, z_en, z_kI, z_fv, z_ic, z_c1, z_sh, z_pop, z_rc, z_tgt, z_tsw, z_lsw, z_nw, z_ac, o_kI, o_kL, o_ldi, o_ldl, o_lda, o_sti, o_sta, o_stl, o_inc, o_b2, o_bz, o_l2, o_lz, o_ls, o_lneg, o_i2l, o_l2i, o_lcmp, o_dup, o_dupx1, o_dup2, o_if, o_if2, o_ifnull, o_get, o_put, o_iald, o_zald, o_aald, o_alen, o_iast, o_zast, o_aast, o_new, o_newa, o_call, o_call1, o_callN, o_obj, o_reti, o_retl, o_ret, o_tsw, o_lsw, va_rf_s, va_rf_n, z_u2_s, z_u2_k, z_u2_f, z_uR_f, z_uL_f, e_ix, e_vp, e_lt, e_le, e_eq, e_lt0, e_eq0, e_b0, e_b1, e_10, e_11, true_or, or_true, false_or, nI_add, z_bi_0, z_bi_1, e_bb, z_uR_s, z_uR_k, z_uL_s, z_uL_k, true_and, and_true, and_self, not_true_eq_false, not_false_eq_true, forall_const, Option.toList, List.cons_append, List.nil_append, List.singleton_append, Nat.reduceAdd, Nat.zero_add, Nat.add_zero, Nat.reduceEqDiff, ↓reduceIte, ite_true, ite_false, reduceCtorEq, Int.cast_ofNat_Int, Int.reduceAdd, Int.reduceToNat, ne_eq, false_imp_iff, true_imp_iff, cl_23, bf_23_0, bf_23_2, bf_23_32, bf_23_33, bf_23_51, bf_23_53, bf_23_77, bf_23_81, bf_23_142, bf_23_148, bf_23_162, bo_23_0, bo_23_2, bo_23_32, bo_23_33, bo_23_51, bo_23_53, bo_23_77, bo_23_81, bo_23_142, bo_23_148, bo_23_162, h1, h2, ea, ea1, Fa, q1, z_t4, z_t5, z_t6, z_biT, z_biF]
      refine x_asks (mi := F) (mr := p.2) (b := f_any s co r k s.1.1) q1.1 ?_ ?_
      · rw [b2 12 (by omega) (by omega) (by omega) (by omega) (by omega), fk, ← x_hrd_any hs hr hB hk]
        exact (hn k hk).2.2.1
      simp (disch := omega) only [e_q0, e_nil, e_cons, e_q, e_qf, e_qt, e_af, z_hd, z_mk1, z_lg, z_s1, z_s2, z_kl, z_en, z_kI, z_fv, z_ic, z_c1, z_sh, z_pop, z_rc, z_tgt, z_tsw, z_lsw, z_nw, z_ac, o_kI, o_kL, o_ldi, o_ldl, o_lda, o_sti, o_sta, o_stl, o_inc, o_b2, o_bz, o_l2, o_lz, o_ls, o_lneg, o_i2l, o_l2i, o_lcmp, o_dup, o_dupx1, o_dup2, o_if, o_if2, o_ifnull, o_get, o_put, o_iald, o_zald, o_aald, o_alen, o_iast, o_zast, o_aast, o_new, o_newa, o_call, o_call1, o_callN, o_obj, o_reti, o_retl, o_ret, o_tsw, o_lsw, va_rf_s, va_rf_n, z_u2_s, z_u2_k, z_u2_f, z_uR_f, z_uL_f, e_ix, e_vp, e_lt, e_le, e_eq, e_lt0, e_eq0, e_b0, e_b1, e_10, e_11, true_or, or_true, false_or, nI_add, z_bi_0, z_bi_1, e_bb, z_uR_s, z_uR_k, z_uL_s, z_uL_k, true_and, and_true, and_self, not_true_eq_false, not_false_eq_true, forall_const, Option.toList, List.cons_append, List.nil_append, List.singleton_append, Nat.reduceAdd, Nat.zero_add, Nat.add_zero, Nat.reduceEqDiff, ↓reduceIte, ite_true, ite_false, reduceCtorEq, Int.cast_ofNat_Int, Int.reduceAdd, Int.reduceToNat, ne_eq, false_imp_iff, true_imp_iff, cl_23, bf_23_0, bf_23_2, bf_23_32, bf_23_33, bf_23_51, bf_23_53, bf_23_77, bf_23_81, bf_23_142, bf_23_148, bf_23_162, bo_23_0, bo_23_2, bo_23_32, bo_23_33, bo_23_51, bo_23_53, bo_23_77, bo_23_81, bo_23_142, bo_23_148, bo_23_162, h1, h2, ea, ea1, Fa, q1, z_t4, z_t5, z_t6, z_bi_or]
      obtain ⟨n1, n2, n3, n4, n5⟩ := x_new_eq (x_c2_eq (co := co) hs hr hB hk)
      have w := ih F (fun c hc => by rw [b1 c (hc k (by omega)), f1 c (fun i hi => hc i (by omega))]) (fun c j hj => by
        by_cases e : c = a + 2 + k
        · subst e; rw [b2 j (by omega) (by omega) (by omega) (by omega) (by omega), f2 _ j hj]
        · rw [b1 c e, f2 c j hj]) (fun i hi => by
        by_cases e : i = k
        · subst e
          obtain ⟨g1, g2, g3, g4, g5⟩ := f_go_5 (co := co) h8.1 hk ha
          have m := NX.cong nk (g := F (a + 2 + i))
          unfold NX
          rw [b4, b5, b6, b7, b8, g1, g2, g3, g4, g5, f_go_hi h8.1 (by omega) (by omega) (by omega), b2 0 (by omega) (by omega) (by omega) (by omega) (by omega), b2 1 (by omega) (by omega) (by omega) (by omega) (by omega), b2 2 (by omega) (by omega) (by omega) (by omega) (by omega), b2 3 (by omega) (by omega) (by omega) (by omega) (by omega), fk]
          exact ⟨nk.1, n1, n2, n3, n4, n5⟩
        · rw [b1 _ (by omega)]
          exact f3 i (by omega))
      have e : f_asks s co r (k + 1) = (f_asks s co r k || (decide (F (a + 2 + k) 4 = z_ng 9) && f_any s co r k s.1.1)) := by
        rw [b4, x_c2_eq hs hr hB hk, x_nrm_1]
        show (f_asks s co r k || (f_acts s r k && f_ask s co r k)) = _
        rw [ha, Bool.true_and]
        rfl
      rw [e] at w
      exact w
theorem x_passRound {mu co : Int32} {B : Nat} (hS : SX T mr a) (hX : MX mi a s r) (hs : f_sok s) (hr : f_row s B r) (hB : B ≤ 1000000)
    (hco : ∀ i, i < s.1.1 → s.2 0 i = 0 → f_has co i = decide (mu &&& z_shl (nI 1) (nI i) = 0))
    (h : ∀ f g, FX f mi g mr a → MX f a s (f_go s co r) → Q none (f, g, ml, T)) : z_Ok l G m_Mesh_passRound [.ref a, .int mu] (mi, mr, ml, T) Q := by
  have h8 := hs.1
  have h1 := hS.1
  have h2 := hX.1
  refine z_okN cz_23.1 (by rw [cl_23]; exact Nat.le_of_ble_eq_true rfl) cz_23.2 (z_run ck_23 9 bf_23_0 ?_)
  simp (disch := omega) only [e_q0, e_nil, e_cons, e_q, e_qf, e_qt, e_af, z_hd, z_mk1, z_lg, z_s1, z_s2, z_kl, z_en, z_kI, z_fv, z_ic, z_c1, z_sh, z_pop, z_rc, z_tgt, z_tsw, z_lsw, z_nw, z_ac, o_kI, o_kL, o_ldi, o_ldl, o_lda, o_sti, o_sta, o_stl, o_inc, o_b2, o_bz, o_l2, o_lz, o_ls, o_lneg, o_i2l, o_l2i, o_lcmp, o_dup, o_dupx1, o_dup2, o_if, o_if2, o_ifnull, o_get, o_put, o_iald, o_zald, o_aald, o_alen, o_iast, o_zast, o_aast, o_new, o_newa, o_call, o_call1, o_callN, o_obj, o_reti, o_retl, o_ret, o_tsw, o_lsw, va_rf_s, va_rf_n, z_u2_s, z_u2_k, z_u2_f, z_uR_f, z_uL_f, e_ix, e_vp, e_lt, e_le, e_eq, e_lt0, e_eq0, e_b0, e_b1, e_10, e_11, true_or, or_true, false_or, nI_add, z_bi_0, z_bi_1, e_bb, z_uR_s, z_uR_k, z_uL_s, z_uL_k, true_and, and_true, and_self, not_true_eq_false, not_false_eq_true, forall_const, Option.toList, List.cons_append, List.nil_append, List.singleton_append, Nat.reduceAdd, Nat.zero_add, Nat.add_zero, Nat.reduceEqDiff, ↓reduceIte, ite_true, ite_false, reduceCtorEq, Int.cast_ofNat_Int, Int.reduceAdd, Int.reduceToNat, ne_eq, false_imp_iff, true_imp_iff, cl_23, bf_23_0, bf_23_2, bf_23_32, bf_23_33, bf_23_51, bf_23_53, bf_23_77, bf_23_81, bf_23_142, bf_23_148, bf_23_162, bo_23_0, bo_23_2, bo_23_32, bo_23_33, bo_23_51, bo_23_53, bo_23_77, bo_23_81, bo_23_142, bo_23_148, bo_23_162, h1, h2]
  refine z_for (α := (Nat → Nat → Int32) × (Nat → Nat → Option Nat)) (P := fun k p => GX p.1 mi p.2 mr a → (∀ i, i < s.1.1 → NX (p.1 (a + 2 + i)) s r i ∧ (i < k → OX (p.1 (a + 2 + i)) s co r i ∧ HX (p.1 (a + 2 + i)) (p.2 (a + 2 + i)) a (false, none, none))) → z_W l G 23 (T.2.1, T.2.2) (fun v M' => Q v M' ∧ M'.2.2.2 = T) 2 [some (.ref a), some (.int mu), some (.int (nI k)), none] [] (p.1, p.2, ml, T)) s.1.1 (fun p hp hn => ?_) (fun k hk ih p hp hn => ?_) 0 (by omega) (mi, mr) (fun _ _ => ⟨rfl, rfl⟩) (fun i hi => ⟨hX.2.1 i hi, fun q => absurd q (Nat.not_lt_zero _)⟩)
  · have ea := hp a (by omega)
    have ea1 := hp (a + 1) (by omega)
    have ea10 := hp (a + 10) (by omega)
    refine z_run ck_23 9 bf_23_2 ?_
    simp (disch := omega) only [e_q0, e_nil, e_cons, e_q, e_qf, e_qt, e_af, z_hd, z_mk1, z_lg, z_s1, z_s2, z_kl, z_en, z_kI, z_fv, z_ic, z_c1, z_sh, z_pop, z_rc, z_tgt, z_tsw, z_lsw, z_nw, z_ac, o_kI, o_kL, o_ldi, o_ldl, o_lda, o_sti, o_sta, o_stl, o_inc, o_b2, o_bz, o_l2, o_lz, o_ls, o_lneg, o_i2l, o_l2i, o_lcmp, o_dup, o_dupx1, o_dup2, o_if, o_if2, o_ifnull, o_get, o_put, o_iald, o_zald, o_aald, o_alen, o_iast, o_zast, o_aast, o_new, o_newa, o_call, o_call1, o_callN, o_obj, o_reti, o_retl, o_ret, o_tsw, o_lsw, va_rf_s, va_rf_n, z_u2_s, z_u2_k, z_u2_f, z_uR_f, z_uL_f, e_ix, e_vp, e_lt, e_le, e_eq, e_lt0, e_eq0, e_b0, e_b1, e_10, e_11, true_or, or_true, false_or, nI_add, z_bi_0, z_bi_1, e_bb, z_uR_s, z_uR_k, z_uL_s, z_uL_k, true_and, and_true, and_self, not_true_eq_false, not_false_eq_true, forall_const, Option.toList, List.cons_append, List.nil_append, List.singleton_append, Nat.reduceAdd, Nat.zero_add, Nat.add_zero, Nat.reduceEqDiff, ↓reduceIte, ite_true, ite_false, reduceCtorEq, Int.cast_ofNat_Int, Int.reduceAdd, Int.reduceToNat, ne_eq, false_imp_iff, true_imp_iff, cl_23, bf_23_0, bf_23_2, bf_23_32, bf_23_33, bf_23_51, bf_23_53, bf_23_77, bf_23_81, bf_23_142, bf_23_148, bf_23_162, bo_23_0, bo_23_2, bo_23_32, bo_23_33, bo_23_51, bo_23_53, bo_23_77, bo_23_81, bo_23_142, bo_23_148, bo_23_162, h1, h2, ea, ea1, ea10, Nat.le_refl]
    refine z_for (α := (Nat → Nat → Int32) × (Nat → Nat → Option Nat)) (P := fun k p => GX p.1 mi p.2 mr a → RX p.1 p.2 a s co r (fun i => x_hrd s co r i k) → z_W l G 23 (T.2.1, T.2.2) (fun v M' => Q v M' ∧ M'.2.2.2 = T) 53 [some (.ref a), none, some (.int (nI k)), none] [] (p.1, p.2, ml, T)) s.1.2 (fun p hp hn => ?_) (fun k hk ih p hp hn => ?_) 0 (by omega) p hp (fun i hi => ⟨(hn i hi).1, (hn i hi).2 hi⟩)
    · have ea := hp a (by omega)
      have ea1 := hp (a + 1) (by omega)
      have ea10 := hp (a + 10) (by omega)
      refine z_run ck_23 9 bf_23_53 ?_
      simp (disch := omega) only [e_q0, e_nil, e_cons, e_q, e_qf, e_qt, e_af, z_hd, z_mk1, z_lg, z_s1, z_s2, z_kl, z_en, z_kI, z_fv, z_ic, z_c1, z_sh, z_pop, z_rc, z_tgt, z_tsw, z_lsw, z_nw, z_ac, o_kI, o_kL, o_ldi, o_ldl, o_lda, o_sti, o_sta, o_stl, o_inc, o_b2, o_bz, o_l2, o_lz, o_ls, o_lneg, o_i2l, o_l2i, o_lcmp, o_dup, o_dupx1, o_dup2, o_if, o_if2, o_ifnull, o_get, o_put, o_iald, o_zald, o_aald, o_alen, o_iast, o_zast, o_aast, o_new, o_newa, o_call, o_call1, o_callN, o_obj, o_reti, o_retl, o_ret, o_tsw, o_lsw, va_rf_s, va_rf_n, z_u2_s, z_u2_k, z_u2_f, z_uR_f, z_uL_f, e_ix, e_vp, e_lt, e_le, e_eq, e_lt0, e_eq0, e_b0, e_b1, e_10, e_11, true_or, or_true, false_or, nI_add, z_bi_0, z_bi_1, e_bb, z_uR_s, z_uR_k, z_uL_s, z_uL_k, true_and, and_true, and_self, not_true_eq_false, not_false_eq_true, forall_const, Option.toList, List.cons_append, List.nil_append, List.singleton_append, Nat.reduceAdd, Nat.zero_add, Nat.add_zero, Nat.reduceEqDiff, ↓reduceIte, ite_true, ite_false, reduceCtorEq, Int.cast_ofNat_Int, Int.reduceAdd, Int.reduceToNat, ne_eq, false_imp_iff, true_imp_iff, cl_23, bf_23_0, bf_23_2, bf_23_32, bf_23_33, bf_23_51, bf_23_53, bf_23_77, bf_23_81, bf_23_142, bf_23_148, bf_23_162, bo_23_0, bo_23_2, bo_23_32, bo_23_33, bo_23_51, bo_23_53, bo_23_77, bo_23_81, bo_23_142, bo_23_148, bo_23_162, h1, h2, ea, ea1, ea10, Nat.le_refl]
      exact x_lastLoop hS hX hs hr hB hp hn h
    · have ea := hp a (by omega)
      have ea1 := hp (a + 1) (by omega)
      have ea10 := hp (a + 10) (by omega)
      have hk' := Nat.not_le.mpr hk
      have q1 := hS.2.2 k (by omega)
      refine z_run ck_23 9 bf_23_53 ?_
      simp (disch := omega) only [e_q0, e_nil, e_cons, e_q, e_qf, e_qt, e_af, z_hd, z_mk1, z_lg, z_s1, z_s2, z_kl, z_en, z_kI, z_fv, z_ic, z_c1, z_sh, z_pop, z_rc, z_tgt, z_tsw, z_lsw, z_nw, z_ac, o_kI, o_kL, o_ldi, o_ldl, o_lda, o_sti, o_sta, o_stl, o_inc, o_b2, o_bz, o_l2, o_lz, o_ls, o_lneg, o_i2l, o_l2i, o_lcmp, o_dup, o_dupx1, o_dup2, o_if, o_if2, o_ifnull, o_get, o_put, o_iald, o_zald, o_aald, o_alen, o_iast, o_zast, o_aast, o_new, o_newa, o_call, o_call1, o_callN, o_obj, o_reti, o_retl, o_ret, o_tsw, o_lsw, va_rf_s, va_rf_n, z_u2_s, z_u2_k, z_u2_f, z_uR_f, z_uL_f, e_ix, e_vp, e_lt, e_le, e_eq, e_lt0, e_eq0, e_b0, e_b1, e_10, e_11, true_or, or_true, false_or, nI_add, z_bi_0, z_bi_1, e_bb, z_uR_s, z_uR_k, z_uL_s, z_uL_k, true_and, and_true, and_self, not_true_eq_false, not_false_eq_true, forall_const, Option.toList, List.cons_append, List.nil_append, List.singleton_append, Nat.reduceAdd, Nat.zero_add, Nat.add_zero, Nat.reduceEqDiff, ↓reduceIte, ite_true, ite_false, reduceCtorEq, Int.cast_ofNat_Int, Int.reduceAdd, Int.reduceToNat, ne_eq, false_imp_iff, true_imp_iff, cl_23, bf_23_0, bf_23_2, bf_23_32, bf_23_33, bf_23_51, bf_23_53, bf_23_77, bf_23_81, bf_23_142, bf_23_148, bf_23_162, bo_23_0, bo_23_2, bo_23_32, bo_23_33, bo_23_51, bo_23_53, bo_23_77, bo_23_81, bo_23_142, bo_23_148, bo_23_162, h1, h2, ea, ea1, ea10, q1, z_t4, z_t5, z_t6, hk']
      refine x_exchangeOffers (mi := p.1) (mr := p.2) (co := co) (t := fun i => x_hrd s co r i k) (SX.of hS fun c hc => (hp c hc).2) (by rw [ea.1]; exact h2.1) (by rw [(hp (a + 11 + k) (by omega)).1]; exact hX.2.2 k hk) hs hk hn (fun i hi q hq => by have := x_hrd_lt hs hi (Nat.le_of_lt hk) q hq; omega) fun f g g1 g2 => ?_
      simp (disch := omega) only [e_q0, e_nil, e_cons, e_q, e_qf, e_qt, e_af, z_hd, z_mk1, z_lg, z_s1, z_s2, z_kl, z_en, z_kI, z_fv, z_ic, z_c1, z_sh, z_pop, z_rc, z_tgt, z_tsw, z_lsw, z_nw, z_ac, o_kI, o_kL, o_ldi, o_ldl, o_lda, o_sti, o_sta, o_stl, o_inc, o_b2, o_bz, o_l2, o_lz, o_ls, o_lneg, o_i2l, o_l2i, o_lcmp, o_dup, o_dupx1, o_dup2, o_if, o_if2, o_ifnull, o_get, o_put, o_iald, o_zald, o_aald, o_alen, o_iast, o_zast, o_aast, o_new, o_newa, o_call, o_call1, o_callN, o_obj, o_reti, o_retl, o_ret, o_tsw, o_lsw, va_rf_s, va_rf_n, z_u2_s, z_u2_k, z_u2_f, z_uR_f, z_uL_f, e_ix, e_vp, e_lt, e_le, e_eq, e_lt0, e_eq0, e_b0, e_b1, e_10, e_11, true_or, or_true, false_or, nI_add, z_bi_0, z_bi_1, e_bb, z_uR_s, z_uR_k, z_uL_s, z_uL_k, true_and, and_true, and_self, not_true_eq_false, not_false_eq_true, forall_const, Option.toList, List.cons_append, List.nil_append, List.singleton_append, Nat.reduceAdd, Nat.zero_add, Nat.add_zero, Nat.reduceEqDiff, ↓reduceIte, ite_true, ite_false, reduceCtorEq, Int.cast_ofNat_Int, Int.reduceAdd, Int.reduceToNat, ne_eq, false_imp_iff, true_imp_iff, cl_23, bf_23_0, bf_23_2, bf_23_32, bf_23_33, bf_23_51, bf_23_53, bf_23_77, bf_23_81, bf_23_142, bf_23_148, bf_23_162, bo_23_0, bo_23_2, bo_23_32, bo_23_33, bo_23_51, bo_23_53, bo_23_77, bo_23_81, bo_23_142, bo_23_148, bo_23_162]
      exact ih (f, g) (fun c hc => ⟨(g1 c hc).1.trans (hp c hc).1, (g1 c hc).2.trans (hp c hc).2⟩) g2
  · have ea := hp a (by omega)
    have ea1 := hp (a + 1) (by omega)
    have ea10 := hp (a + 10) (by omega)
    have hk' := Nat.not_le.mpr hk
    have q1 := hS.2.1 k (by omega)
    have n1 : a ≠ a + 2 + k := by omega
    have n2 : a + 1 ≠ a + 2 + k := by omega
    have fin : ∀ f, (∀ c, c ≠ a + 2 + k → f c = p.1 c) → (∀ j, j ≠ 9 → j ≠ 10 → j ≠ 11 → f (a + 2 + k) j = p.1 (a + 2 + k) j) → OX (f (a + 2 + k)) s co r k → z_W l G 23 (T.2.1, T.2.2) (fun v M' => Q v M' ∧ M'.2.2.2 = T) 2 [some (.ref a), some (.int mu), some (.int (nI (k + 1))), none] [] (z_u2 f (a + 2 + k) 12 (nI 0), z_uR (z_uR p.2 (a + 2 + k) 13 none) (a + 2 + k) 15 none, ml, T) := fun f f1 f2 f3 => by
      refine ih (z_u2 f (a + 2 + k) 12 (nI 0), z_uR (z_uR p.2 (a + 2 + k) 13 none) (a + 2 + k) 15 none) (fun c hc => ?_) fun i hi => ?_
      · have hc' : c ≠ a + 2 + k := by omega
        show z_u2 f (a + 2 + k) 12 (nI 0) c = mi c ∧ z_uR (z_uR p.2 (a + 2 + k) 13 none) (a + 2 + k) 15 none c = mr c
        rw [z_u2_f hc', z_uR_f hc', z_uR_f hc', f1 c hc']
        exact hp c hc
      · show NX (z_u2 f (a + 2 + k) 12 (nI 0) (a + 2 + i)) s r i ∧ (i < k + 1 → OX (z_u2 f (a + 2 + k) 12 (nI 0) (a + 2 + i)) s co r i ∧ HX (z_u2 f (a + 2 + k) 12 (nI 0) (a + 2 + i)) (z_uR (z_uR p.2 (a + 2 + k) 13 none) (a + 2 + k) 15 none (a + 2 + i)) a (false, none, none))
        by_cases e : i = k
        · subst e
          refine ⟨NX.cong (hn i hi).1 fun j hj => ?_, fun _ => ⟨OX.cong f3 fun j _ hj => z_u2_k (by omega), ?_, ?_, ?_, ?_, ?_⟩⟩
          · rw [z_u2_k (by omega), f2 j (by omega) (by omega) (by omega)]
          · rw [z_u2_s]; rfl
          · rw [z_uR_k (by omega), z_uR_s]; rfl
          · intro q hq; cases hq
          · rw [z_uR_s]; rfl
          · intro q hq; cases hq
        · have n3 : a + 2 + i ≠ a + 2 + k := by omega
          rw [z_u2_f n3, z_uR_f n3, z_uR_f n3, f1 _ n3]
          exact ⟨(hn i hi).1, fun q => (hn i hi).2 (by omega)⟩
    refine z_run ck_23 9 bf_23_2 ?_
    simp (disch := omega) only [e_q0, e_nil, e_cons, e_q, e_qf, e_qt, e_af, z_hd, z_mk1, z_lg, z_s1, z_s2, z_kl, z_en, z_kI, z_fv, z_ic, z_c1, z_sh, z_pop, z_rc, z_tgt, z_tsw, z_lsw, z_nw, z_ac, o_kI, o_kL, o_ldi, o_ldl, o_lda, o_sti, o_sta, o_stl, o_inc, o_b2, o_bz, o_l2, o_lz, o_ls, o_lneg, o_i2l, o_l2i, o_lcmp, o_dup, o_dupx1, o_dup2, o_if, o_if2, o_ifnull, o_get, o_put, o_iald, o_zald, o_aald, o_alen, o_iast, o_zast, o_aast, o_new, o_newa, o_call, o_call1, o_callN, o_obj, o_reti, o_retl, o_ret, o_tsw, o_lsw, va_rf_s, va_rf_n, z_u2_s, z_u2_k, z_u2_f, z_uR_f, z_uL_f, e_ix, e_vp, e_lt, e_le, e_eq, e_lt0, e_eq0, e_b0, e_b1, e_10, e_11, true_or, or_true, false_or, nI_add, z_bi_0, z_bi_1, e_bb, z_uR_s, z_uR_k, z_uL_s, z_uL_k, true_and, and_true, and_self, not_true_eq_false, not_false_eq_true, forall_const, Option.toList, List.cons_append, List.nil_append, List.singleton_append, Nat.reduceAdd, Nat.zero_add, Nat.add_zero, Nat.reduceEqDiff, ↓reduceIte, ite_true, ite_false, reduceCtorEq, Int.cast_ofNat_Int, Int.reduceAdd, Int.reduceToNat, ne_eq, false_imp_iff, true_imp_iff, cl_23, bf_23_0, bf_23_2, bf_23_32, bf_23_33, bf_23_51, bf_23_53, bf_23_77, bf_23_81, bf_23_142, bf_23_148, bf_23_162, bo_23_0, bo_23_2, bo_23_32, bo_23_33, bo_23_51, bo_23_53, bo_23_77, bo_23_81, bo_23_142, bo_23_148, bo_23_162, h1, h2, ea, ea1, ea10, q1, z_t4, z_t5, z_t6, hk']
    refine ⟨fun c => x_fixOffer (mi := p.1) (mr := p.2) (b := false) (co := co) q1.1 (hn k hk).1 (fun z => by rw [hco k hk z, decide_eq_true c]; rfl) fun f f1 f2 f3 => ?_, fun c => x_fixOffer (mi := p.1) (mr := p.2) (b := true) (co := co) q1.1 (hn k hk).1 (fun z => by rw [hco k hk z, decide_eq_false c]; rfl) fun f f1 f2 f3 => ?_⟩
    all_goals
      have ea' := f1 a n1
      have ea1' := f1 (a + 1) n2
      simp (disch := omega) only [e_q0, e_nil, e_cons, e_q, e_qf, e_qt, e_af, z_hd, z_mk1, z_lg, z_s1, z_s2, z_kl, z_en, z_kI, z_fv, z_ic, z_c1, z_sh, z_pop, z_rc, z_tgt, z_tsw, z_lsw, z_nw, z_ac, o_kI, o_kL, o_ldi, o_ldl, o_lda, o_sti, o_sta, o_stl, o_inc, o_b2, o_bz, o_l2, o_lz, o_ls, o_lneg, o_i2l, o_l2i, o_lcmp, o_dup, o_dupx1, o_dup2, o_if, o_if2, o_ifnull, o_get, o_put, o_iald, o_zald, o_aald, o_alen, o_iast, o_zast, o_aast, o_new, o_newa, o_call, o_call1, o_callN, o_obj, o_reti, o_retl, o_ret, o_tsw, o_lsw, va_rf_s, va_rf_n, z_u2_s, z_u2_k, z_u2_f, z_uR_f, z_uL_f, e_ix, e_vp, e_lt, e_le, e_eq, e_lt0, e_eq0, e_b0, e_b1, e_10, e_11, true_or, or_true, false_or, nI_add, z_bi_0, z_bi_1, e_bb, z_uR_s, z_uR_k, z_uL_s, z_uL_k, true_and, and_true, and_self, not_true_eq_false, not_false_eq_true, forall_const, Option.toList, List.cons_append, List.nil_append, List.singleton_append, Nat.reduceAdd, Nat.zero_add, Nat.add_zero, Nat.reduceEqDiff, ↓reduceIte, ite_true, ite_false, reduceCtorEq, Int.cast_ofNat_Int, Int.reduceAdd, Int.reduceToNat, ne_eq, false_imp_iff, true_imp_iff, cl_23, bf_23_0, bf_23_2, bf_23_32, bf_23_33, bf_23_51, bf_23_53, bf_23_77, bf_23_81, bf_23_142, bf_23_148, bf_23_162, bo_23_0, bo_23_2, bo_23_32, bo_23_33, bo_23_51, bo_23_53, bo_23_77, bo_23_81, bo_23_142, bo_23_148, bo_23_162, h1, ea, ea1, ea', ea1', q1, z_t4, z_t5, z_t6]
      refine x_forgetHeard q1.1 ?_
      simp (disch := omega) only [e_q0, e_nil, e_cons, e_q, e_qf, e_qt, e_af, z_hd, z_mk1, z_lg, z_s1, z_s2, z_kl, z_en, z_kI, z_fv, z_ic, z_c1, z_sh, z_pop, z_rc, z_tgt, z_tsw, z_lsw, z_nw, z_ac, o_kI, o_kL, o_ldi, o_ldl, o_lda, o_sti, o_sta, o_stl, o_inc, o_b2, o_bz, o_l2, o_lz, o_ls, o_lneg, o_i2l, o_l2i, o_lcmp, o_dup, o_dupx1, o_dup2, o_if, o_if2, o_ifnull, o_get, o_put, o_iald, o_zald, o_aald, o_alen, o_iast, o_zast, o_aast, o_new, o_newa, o_call, o_call1, o_callN, o_obj, o_reti, o_retl, o_ret, o_tsw, o_lsw, va_rf_s, va_rf_n, z_u2_s, z_u2_k, z_u2_f, z_uR_f, z_uL_f, e_ix, e_vp, e_lt, e_le, e_eq, e_lt0, e_eq0, e_b0, e_b1, e_10, e_11, true_or, or_true, false_or, nI_add, z_bi_0, z_bi_1, e_bb, z_uR_s, z_uR_k, z_uL_s, z_uL_k, true_and, and_true, and_self, not_true_eq_false, not_false_eq_true, forall_const, Option.toList, List.cons_append, List.nil_append, List.singleton_append, Nat.reduceAdd, Nat.zero_add, Nat.add_zero, Nat.reduceEqDiff, ↓reduceIte, ite_true, ite_false, reduceCtorEq, Int.cast_ofNat_Int, Int.reduceAdd, Int.reduceToNat, ne_eq, false_imp_iff, true_imp_iff, cl_23, bf_23_0, bf_23_2, bf_23_32, bf_23_33, bf_23_51, bf_23_53, bf_23_77, bf_23_81, bf_23_142, bf_23_148, bf_23_162, bo_23_0, bo_23_2, bo_23_32, bo_23_33, bo_23_51, bo_23_53, bo_23_77, bo_23_81, bo_23_142, bo_23_148, bo_23_162]
      exact fin f f1 f2 f3
end
