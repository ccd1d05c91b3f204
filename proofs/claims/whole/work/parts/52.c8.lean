section
variable {l : Launch} {G : ZG} {mi : Nat → Nat → Int32} {mr : Nat → Nat → Option Nat} {ml : Nat → Nat → Int64} {T : (Nat → Nat × Nat) × Nat × Nat} {Q : ZR} {A : ZA} {B : Nat}
theorem f_one_dwn {x : Int32} (h : x = nI 0 ∨ x = nI 1) : nI 1 - x = nI 0 ∨ nI 1 - x = nI 1 := by
  rcases h with rfl | rfl
  · exact Or.inr (by decide)
  · exact Or.inl (by decide)
theorem f_drow_row {s : ZS} {r : ZW} {B j : Nat} (hs : f_sok s) (h : f_row s B r) (hj : j < 2147483648) (h0 : ¬ s.1.2 = 0) : f_row s B (f_drow s r (nI j)) := by
  have h8 := hs.1
  have e : z_rem (nI j) (nI s.1.2) = nI (j % s.1.2) := pk_rem hj (by omega) (by omega)
  have hlt : j % s.1.2 < s.1.2 := Nat.mod_lt _ (by omega)
  unfold f_drow
  rw [e, e_ix (by omega)]
  have hd := h.2.2.1 (j % s.1.2) hlt
  refine f_row_set hs h (Or.inr (Or.inl ⟨by omega, by omega, ?_⟩))
  split
  · exact f_one_dwn hd
  · exact hd
theorem f_draw_row (hI : IA A B) : ∀ k, k ≤ 100 → B ≤ 900000 → f_row A.s (B + k) (f_draw A k).1
  | 0, _, _ => hI.2.1
  | k + 1, hk, hB => by
    have ih := f_draw_row hI k (by omega) hB
    unfold f_draw
    by_cases c : A.s.1.2 = 0
    · rw [if_pos c]; exact f_row_mono ih (by omega)
    · rw [if_neg c]
      obtain ⟨j, hj, e⟩ := z_dv (f_nsd (f_draw A k).2.1)
      have e2 : f_dv (f_draw A k).2.1 = nI j := e
      show f_row A.s (B + (k + 1)) (f_go A.s (nI 255) (f_drow A.s (f_draw A k).1 (f_dv (f_draw A k).2.1)))
      rw [e2]
      exact f_go_row (B := B + k) hI.1 (f_drow_row hI.1 ih hj c) (by omega)
theorem f_draw_z {k : Nat} (c : A.s.1.2 = 0) : f_draw A (k + 1) = ((f_draw A k).1, f_nsd (f_draw A k).2.1, (f_draw A k).2.2) := by
  rw [f_draw, if_pos c]
theorem f_draw_n {k : Nat} {v : Int32} (c : ¬ A.s.1.2 = 0) (e : f_dv (f_draw A k).2.1 = v) : f_draw A (k + 1) = (f_go A.s (nI 255) (f_drow A.s (f_draw A k).1 v), f_nsd (f_draw A k).2.1, (f_draw A k).2.2 + (nI A.s.1.1 - f_ones (f_reached A.s (nI 255) (f_go A.s (nI 255) (f_drow A.s (f_draw A k).1 v)) A.s.1.1) 9)) := by
  subst e
  rw [f_draw, if_neg c]
theorem f_nsd_e (y : Int64) : y * lN 6364136223846793005 + lN 1442695040888963407 = f_nsd y := by unfold f_nsd; rfl
theorem f_dv_e {y : Int64} {j : Nat} (h : (z_lushr (f_nsd y) (nI 33)).toInt32 = nI j) : f_dv y = nI j := by unfold f_dv; exact h
theorem c_drawn {x : Int32} (hS : SC T mr) (hP : PX A mi ml) (hI : IA A B) (hB : B ≤ 900000) (hQ : ∀ f g h, PX (a_drawn A x).2 f h → FG g mr → (∀ c, 373 ≤ c → f c = mi c) → (∀ c, 373 ≤ c → h c = ml c) → Q (some (.int (a_drawn A x).1)) (f, g, h, T)) : z_Ok l G m_MP_drawn [.ref 2, .int x] (mi, mr, ml, T) Q := by
  have s1 := hS.1
  have s5 := hS.n
  have s25 := hS.t
  have h8 := hI.1.1
  unfold a_drawn at hQ
  refine z_okN cz_85.1 (by rw [cl_85]; exact Nat.le_of_ble_eq_true rfl) cz_85.2 (z_run ck_85 6 bf_85_0 ?_)
  simp (disch := omega) only [e_q0, e_nil, e_cons, e_q, e_qf, e_qt, e_af, z_hd, z_mk1, z_lg, z_s1, z_s2, z_kl, z_en, z_kI, z_fv, z_ic, z_c1, z_sh, z_pop, z_rc, z_tgt, z_tsw, z_lsw, z_nw, z_ac, o_kI, o_kL, o_ldi, o_ldl, o_lda, o_sti, o_sta, o_stl, o_inc, o_b2, o_bz, o_l2, o_lz, o_ls, o_lneg, o_i2l, o_l2i, o_lcmp, o_dup, o_dupx1, o_dup2, o_if, o_if2, o_ifnull, o_get, o_put, o_iald, o_zald, o_aald, o_alen, o_iast, o_zast, o_aast, o_new, o_newa, o_call, o_call1, o_callN, o_obj, o_reti, o_retl, o_ret, o_tsw, o_lsw, va_rf_s, va_rf_n, z_u2_s, z_u2_k, z_u2_f, z_uR_f, z_uL_f, e_ix, e_vp, e_lt, e_le, e_eq, e_lt0, e_eq0, e_b0, e_b1, e_10, e_11, true_or, or_true, false_or, nI_add, z_bi_0, z_bi_1, e_bb, z_uR_s, z_uR_k, z_uL_s, z_uL_k, true_and, and_true, and_self, not_true_eq_false, not_false_eq_true, forall_const, Option.toList, List.cons_append, List.nil_append, List.singleton_append, Nat.reduceAdd, Nat.zero_add, Nat.add_zero, Nat.reduceEqDiff, ↓reduceIte, ite_true, ite_false, reduceCtorEq, Int.cast_ofNat_Int, Int.reduceAdd, Int.reduceToNat, ne_eq, false_imp_iff, true_imp_iff, cl_85, bf_85_0, bf_85_13, bf_85_28, bf_85_100, bf_85_129, bf_85_135, bo_85_0, bo_85_13, bo_85_28, bo_85_100, bo_85_129, bo_85_135, s1, s5, s25]
  refine x_isWithin ?_
  cases hq2 : f_in x 1 20 with
  | false =>
    rw [hq2] at hQ
    simp (disch := omega) only [e_q0, e_nil, e_cons, e_q, e_qf, e_qt, e_af, z_hd, z_mk1, z_lg, z_s1, z_s2, z_kl, z_en, z_kI, z_fv, z_ic, z_c1, z_sh, z_pop, z_rc, z_tgt, z_tsw, z_lsw, z_nw, z_ac, o_kI, o_kL, o_ldi, o_ldl, o_lda, o_sti, o_sta, o_stl, o_inc, o_b2, o_bz, o_l2, o_lz, o_ls, o_lneg, o_i2l, o_l2i, o_lcmp, o_dup, o_dupx1, o_dup2, o_if, o_if2, o_ifnull, o_get, o_put, o_iald, o_zald, o_aald, o_alen, o_iast, o_zast, o_aast, o_new, o_newa, o_call, o_call1, o_callN, o_obj, o_reti, o_retl, o_ret, o_tsw, o_lsw, va_rf_s, va_rf_n, z_u2_s, z_u2_k, z_u2_f, z_uR_f, z_uL_f, e_ix, e_vp, e_lt, e_le, e_eq, e_lt0, e_eq0, e_b0, e_b1, e_10, e_11, true_or, or_true, false_or, nI_add, z_bi_0, z_bi_1, e_bb, z_uR_s, z_uR_k, z_uL_s, z_uL_k, true_and, and_true, and_self, not_true_eq_false, not_false_eq_true, forall_const, Option.toList, List.cons_append, List.nil_append, List.singleton_append, Nat.reduceAdd, Nat.zero_add, Nat.add_zero, Nat.reduceEqDiff, ↓reduceIte, ite_true, ite_false, reduceCtorEq, Int.cast_ofNat_Int, Int.reduceAdd, Int.reduceToNat, ne_eq, false_imp_iff, true_imp_iff, cl_85, bf_85_0, bf_85_13, bf_85_28, bf_85_100, bf_85_129, bf_85_135, bo_85_0, bo_85_13, bo_85_28, bo_85_100, bo_85_129, bo_85_135, s1, s5, z_biF]
    exact hQ _ _ _ hP (fun _ _ _ => rfl) (fun _ _ => rfl) fun _ _ => rfl
  | true =>
    simp only [hq2, if_true] at hQ
    obtain ⟨m, _, hm, rfl⟩ := f_in_t (by omega) (by omega) hq2
    rw [e_ix (by omega)] at hQ
    simp (disch := omega) only [e_q0, e_nil, e_cons, e_q, e_qf, e_qt, e_af, z_hd, z_mk1, z_lg, z_s1, z_s2, z_kl, z_en, z_kI, z_fv, z_ic, z_c1, z_sh, z_pop, z_rc, z_tgt, z_tsw, z_lsw, z_nw, z_ac, o_kI, o_kL, o_ldi, o_ldl, o_lda, o_sti, o_sta, o_stl, o_inc, o_b2, o_bz, o_l2, o_lz, o_ls, o_lneg, o_i2l, o_l2i, o_lcmp, o_dup, o_dupx1, o_dup2, o_if, o_if2, o_ifnull, o_get, o_put, o_iald, o_zald, o_aald, o_alen, o_iast, o_zast, o_aast, o_new, o_newa, o_call, o_call1, o_callN, o_obj, o_reti, o_retl, o_ret, o_tsw, o_lsw, va_rf_s, va_rf_n, z_u2_s, z_u2_k, z_u2_f, z_uR_f, z_uL_f, e_ix, e_vp, e_lt, e_le, e_eq, e_lt0, e_eq0, e_b0, e_b1, e_10, e_11, true_or, or_true, false_or, nI_add, z_bi_0, z_bi_1, e_bb, z_uR_s, z_uR_k, z_uL_s, z_uL_k, true_and, and_true, and_self, not_true_eq_false, not_false_eq_true, forall_const, Option.toList, List.cons_append, List.nil_append, List.singleton_append, Nat.reduceAdd, Nat.zero_add, Nat.add_zero, Nat.reduceEqDiff, ↓reduceIte, ite_true, ite_false, reduceCtorEq, Int.cast_ofNat_Int, Int.reduceAdd, Int.reduceToNat, ne_eq, false_imp_iff, true_imp_iff, cl_85, bf_85_0, bf_85_13, bf_85_28, bf_85_100, bf_85_129, bf_85_135, bo_85_0, bo_85_13, bo_85_28, bo_85_100, bo_85_129, bo_85_135, s1, s5, s25, z_biT]
    refine c_toTrial hS hP hI fun f f1 f2 => ?_
    simp (disch := omega) only [e_q0, e_nil, e_cons, e_q, e_qf, e_qt, e_af, z_hd, z_mk1, z_lg, z_s1, z_s2, z_kl, z_en, z_kI, z_fv, z_ic, z_c1, z_sh, z_pop, z_rc, z_tgt, z_tsw, z_lsw, z_nw, z_ac, o_kI, o_kL, o_ldi, o_ldl, o_lda, o_sti, o_sta, o_stl, o_inc, o_b2, o_bz, o_l2, o_lz, o_ls, o_lneg, o_i2l, o_l2i, o_lcmp, o_dup, o_dupx1, o_dup2, o_if, o_if2, o_ifnull, o_get, o_put, o_iald, o_zald, o_aald, o_alen, o_iast, o_zast, o_aast, o_new, o_newa, o_call, o_call1, o_callN, o_obj, o_reti, o_retl, o_ret, o_tsw, o_lsw, va_rf_s, va_rf_n, z_u2_s, z_u2_k, z_u2_f, z_uR_f, z_uL_f, e_ix, e_vp, e_lt, e_le, e_eq, e_lt0, e_eq0, e_b0, e_b1, e_10, e_11, true_or, or_true, false_or, nI_add, z_bi_0, z_bi_1, e_bb, z_uR_s, z_uR_k, z_uL_s, z_uL_k, true_and, and_true, and_self, not_true_eq_false, not_false_eq_true, forall_const, Option.toList, List.cons_append, List.nil_append, List.singleton_append, Nat.reduceAdd, Nat.zero_add, Nat.add_zero, Nat.reduceEqDiff, ↓reduceIte, ite_true, ite_false, reduceCtorEq, Int.cast_ofNat_Int, Int.reduceAdd, Int.reduceToNat, ne_eq, false_imp_iff, true_imp_iff, cl_85, bf_85_0, bf_85_13, bf_85_28, bf_85_100, bf_85_129, bf_85_135, bo_85_0, bo_85_13, bo_85_28, bo_85_100, bo_85_129, bo_85_135, s1, s5, s25]
    refine z_for (α := (Nat → Nat → Int32) × (Nat → Nat → Option Nat) × (Nat → Nat → Int64)) (P := fun k p => FX p.1 mi p.2.1 mr 25 → MX p.1 25 A.s (f_draw A k).1 → p.2.2 2 7 = (f_draw A k).2.1 → (∀ c, c ≠ 2 → p.2.2 c = ml c) → z_W l G 85 (T.2.1, T.2.2) (fun v M' => Q v M' ∧ M'.2.2.2 = T) 28 [some (.ref 2), some (.int (nI m)), some (.int (f_draw A k).2.2), some (.int (nI k)), none] [] (p.1, p.2.1, p.2.2, T)) m (fun p g1 g2 g3 g4 => ?_) (fun k hk ih p g1 g2 g3 g4 => ?_) 0 (by omega) (f, mr, ml) ⟨fun c hc => f1 c (by omega), fun _ _ => rfl⟩ f2 hP.2.2.2.2.2 (fun _ _ => rfl)
    · refine z_run ck_85 6 bf_85_28 ?_
      simp (disch := omega) only [e_q0, e_nil, e_cons, e_q, e_qf, e_qt, e_af, z_hd, z_mk1, z_lg, z_s1, z_s2, z_kl, z_en, z_kI, z_fv, z_ic, z_c1, z_sh, z_pop, z_rc, z_tgt, z_tsw, z_lsw, z_nw, z_ac, o_kI, o_kL, o_ldi, o_ldl, o_lda, o_sti, o_sta, o_stl, o_inc, o_b2, o_bz, o_l2, o_lz, o_ls, o_lneg, o_i2l, o_l2i, o_lcmp, o_dup, o_dupx1, o_dup2, o_if, o_if2, o_ifnull, o_get, o_put, o_iald, o_zald, o_aald, o_alen, o_iast, o_zast, o_aast, o_new, o_newa, o_call, o_call1, o_callN, o_obj, o_reti, o_retl, o_ret, o_tsw, o_lsw, va_rf_s, va_rf_n, z_u2_s, z_u2_k, z_u2_f, z_uR_f, z_uL_f, e_ix, e_vp, e_lt, e_le, e_eq, e_lt0, e_eq0, e_b0, e_b1, e_10, e_11, true_or, or_true, false_or, nI_add, z_bi_0, z_bi_1, e_bb, z_uR_s, z_uR_k, z_uL_s, z_uL_k, true_and, and_true, and_self, not_true_eq_false, not_false_eq_true, forall_const, Option.toList, List.cons_append, List.nil_append, List.singleton_append, Nat.reduceAdd, Nat.zero_add, Nat.add_zero, Nat.reduceEqDiff, ↓reduceIte, ite_true, ite_false, reduceCtorEq, Int.cast_ofNat_Int, Int.reduceAdd, Int.reduceToNat, ne_eq, false_imp_iff, true_imp_iff, cl_85, bf_85_0, bf_85_13, bf_85_28, bf_85_100, bf_85_129, bf_85_135, bo_85_0, bo_85_13, bo_85_28, bo_85_100, bo_85_129, bo_85_135, Nat.le_refl]
      obtain ⟨p1, p2, p3⟩ := PX.of25 g1 hP h8
      exact hQ _ _ _ ⟨p1.1, p1.2.1, p1.2.2.1, p1.2.2.2.1, p1.2.2.2.2.1, g3⟩ p2 p3 fun c hc => g4 c (by omega)
    · obtain ⟨p1, p2, p3⟩ := PX.of25 g1 hP h8
      have hS' := SC.of hS p2
      have s1' := hS'.1
      have s25' := hS'.t
      have hk' := Nat.not_le.mpr hk
      have n25 : p.1 25 3 = nI A.s.1.2 := g2.1.2.1
      have er := f_draw_row hI k (by omega) hB
      have ihz : ∀ f g h (w : ZW × Int64 × Int32), w = f_draw A (k + 1) → FX f mi g mr 25 → MX f 25 A.s w.1 → h 2 7 = w.2.1 → (∀ c, c ≠ 2 → h c = ml c) → z_W l G 85 (T.2.1, T.2.2) (fun v M' => Q v M' ∧ M'.2.2.2 = T) 28 [some (.ref 2), some (.int (nI m)), some (.int w.2.2), some (.int (nI (k + 1))), none] [] (f, g, h, T) := fun f g h w hw a1 a2 a3 a4 => by subst hw; exact ih (f, g, h) a1 a2 a3 a4
      clear ih hQ
      obtain ⟨j, hj, ev⟩ := z_dv (f_nsd (f_draw A k).2.1)
      have ed := f_dv_e ev
      have ihz0 := fun (c : A.s.1.2 = 0) f g h a1 a2 a3 a4 => ihz f g h _ (f_draw_z c).symm a1 a2 a3 a4
      have ihz1 := fun (c : ¬ A.s.1.2 = 0) f g h a1 a2 a3 a4 => ihz f g h _ (f_draw_n c ed).symm a1 a2 a3 a4
      clear ihz ed
      generalize f_draw A k = D at *
      obtain ⟨r, sd, sum⟩ := D
      have hns := f_nsd_e sd
      simp only at g2 g3 er ihz0 ihz1 ev hns
      refine z_run ck_85 6 bf_85_28 ?_
      simp (disch := omega) only [e_q0, e_nil, e_cons, e_q, e_qf, e_qt, e_af, z_hd, z_mk1, z_lg, z_s1, z_s2, z_kl, z_en, z_kI, z_fv, z_ic, z_c1, z_sh, z_pop, z_rc, z_tgt, z_tsw, z_lsw, z_nw, z_ac, o_kI, o_kL, o_ldi, o_ldl, o_lda, o_sti, o_sta, o_stl, o_inc, o_b2, o_bz, o_l2, o_lz, o_ls, o_lneg, o_i2l, o_l2i, o_lcmp, o_dup, o_dupx1, o_dup2, o_if, o_if2, o_ifnull, o_get, o_put, o_iald, o_zald, o_aald, o_alen, o_iast, o_zast, o_aast, o_new, o_newa, o_call, o_call1, o_callN, o_obj, o_reti, o_retl, o_ret, o_tsw, o_lsw, va_rf_s, va_rf_n, z_u2_s, z_u2_k, z_u2_f, z_uR_f, z_uL_f, e_ix, e_vp, e_lt, e_le, e_eq, e_lt0, e_eq0, e_b0, e_b1, e_10, e_11, true_or, or_true, false_or, nI_add, z_bi_0, z_bi_1, e_bb, z_uR_s, z_uR_k, z_uL_s, z_uL_k, true_and, and_true, and_self, not_true_eq_false, not_false_eq_true, forall_const, Option.toList, List.cons_append, List.nil_append, List.singleton_append, Nat.reduceAdd, Nat.zero_add, Nat.add_zero, Nat.reduceEqDiff, ↓reduceIte, ite_true, ite_false, reduceCtorEq, Int.cast_ofNat_Int, Int.reduceAdd, Int.reduceToNat, ne_eq, false_imp_iff, true_imp_iff, cl_85, bf_85_0, bf_85_13, bf_85_28, bf_85_100, bf_85_129, bf_85_135, bo_85_0, bo_85_13, bo_85_28, bo_85_100, bo_85_129, bo_85_135, s1', s5, s25', hk', g3, n25]
      simp only [hns]
      clear hns
      generalize f_nsd sd = sd' at *
      simp only [ev]
      have en : ∀ c, c ≠ 2 → z_uL p.2.2 2 7 sd' c = ml c := fun c hc => by rw [z_uL_f hc]; exact g4 c hc
      by_cases c0 : A.s.1.2 = 0
      · refine ⟨fun _ => ?_, fun q => absurd (by rw [c0]; decide) q⟩
        exact ihz0 c0 p.1 p.2.1 (z_uL p.2.2 2 7 sd') g1 g2 z_uL_s en
      · have erm : z_rem (nI j) (nI A.s.1.2) = nI (j % A.s.1.2) := pk_rem hj (by omega) (by omega)
        have hlt : j % A.s.1.2 < A.s.1.2 := Nat.mod_lt _ (by omega)
        have hdr := f_drow_row hI.1 er hj c0
        have hrr := f_go_row (B := B + k) (co := nI 255) hI.1 hdr (by omega)
        have m35 : p.2.1 35 (j % A.s.1.2) = some (36 + j % A.s.1.2) := (hS'.2.1.2.2.2 _ (by omega)).2
        have t36 : T.1 (36 + j % A.s.1.2) = (1, 1) := (hS'.2.1.2.2.2 _ (by omega)).1
        have ihz2 := ihz1 c0
        clear ihz0 ihz1
        have edr : f_drow A.s r (nI j) = if z_rem (nI j / nI 16) (nI 2) = 0 then f_set r (58 + j % A.s.1.2) (nI 1 - r (58 + j % A.s.1.2)) else r := by
          unfold f_drow
          rw [erm, e_ix (by omega)]
          by_cases c : z_rem (nI j / nI 16) (nI 2) = 0
          · rw [if_pos c, if_pos c]
          · rw [if_neg c, if_neg c]
            funext i
            by_cases q : i = 58 + j % A.s.1.2
            · rw [q, f_set_eq]
            · rw [f_set_ne q]
        generalize f_drow A.s r (nI j) = r2 at *
        have hd := er.2.2.1 _ hlt
        have hL := (g2.2.2 _ hlt).2.2.2.2.2.2
        refine ⟨fun q => absurd (show nI A.s.1.2 ≤ nI 0 from q) (by rw [e_le (by omega) (by omega)]; omega), fun _ => ⟨fun c => ⟨c0, ?_⟩, fun c => ?_⟩⟩
        · rw [if_pos c] at edr
          rw [erm, e_ix (by omega), e_vp (by omega) (by omega), m35]
          obtain ⟨b, hb⟩ : ∃ b : Bool, r (58 + j % A.s.1.2) = z_bi b := hd.elim (fun e => ⟨false, e⟩) (fun e => ⟨true, e⟩)
          have kb : ∀ b : Bool, z_bi (!b) = nI 1 - z_bi b := by decide
          simp (disch := omega) only [e_q0, e_nil, e_cons, e_q, e_qf, e_qt, e_af, z_hd, z_mk1, z_lg, z_s1, z_s2, z_kl, z_en, z_kI, z_fv, z_ic, z_c1, z_sh, z_pop, z_rc, z_tgt, z_tsw, z_lsw, z_nw, z_ac, o_kI, o_kL, o_ldi, o_ldl, o_lda, o_sti, o_sta, o_stl, o_inc, o_b2, o_bz, o_l2, o_lz, o_ls, o_lneg, o_i2l, o_l2i, o_lcmp, o_dup, o_dupx1, o_dup2, o_if, o_if2, o_ifnull, o_get, o_put, o_iald, o_zald, o_aald, o_alen, o_iast, o_zast, o_aast, o_new, o_newa, o_call, o_call1, o_callN, o_obj, o_reti, o_retl, o_ret, o_tsw, o_lsw, va_rf_s, va_rf_n, z_u2_s, z_u2_k, z_u2_f, z_uR_f, z_uL_f, e_ix, e_vp, e_lt, e_le, e_eq, e_lt0, e_eq0, e_b0, e_b1, e_10, e_11, true_or, or_true, false_or, nI_add, z_bi_0, z_bi_1, e_bb, z_uR_s, z_uR_k, z_uL_s, z_uL_k, true_and, and_true, and_self, not_true_eq_false, not_false_eq_true, forall_const, Option.toList, List.cons_append, List.nil_append, List.singleton_append, Nat.reduceAdd, Nat.zero_add, Nat.add_zero, Nat.reduceEqDiff, ↓reduceIte, ite_true, ite_false, reduceCtorEq, Int.cast_ofNat_Int, Int.reduceAdd, Int.reduceToNat, ne_eq, false_imp_iff, true_imp_iff, cl_85, bf_85_0, bf_85_13, bf_85_28, bf_85_100, bf_85_129, bf_85_135, bo_85_0, bo_85_13, bo_85_28, bo_85_100, bo_85_129, bo_85_135, t36, z_t5]
          refine x_flip (x := b) t36 (by rw [← hb]; exact hL) ?_
          have g2' : MX (z_u2 p.1 (36 + j % A.s.1.2) 6 (z_bi (!b))) 25 A.s r2 := by rw [edr, kb, ← hb]; exact MX.tn g2 h8 hlt
          simp (disch := omega) only [e_q0, e_nil, e_cons, e_q, e_qf, e_qt, e_af, z_hd, z_mk1, z_lg, z_s1, z_s2, z_kl, z_en, z_kI, z_fv, z_ic, z_c1, z_sh, z_pop, z_rc, z_tgt, z_tsw, z_lsw, z_nw, z_ac, o_kI, o_kL, o_ldi, o_ldl, o_lda, o_sti, o_sta, o_stl, o_inc, o_b2, o_bz, o_l2, o_lz, o_ls, o_lneg, o_i2l, o_l2i, o_lcmp, o_dup, o_dupx1, o_dup2, o_if, o_if2, o_ifnull, o_get, o_put, o_iald, o_zald, o_aald, o_alen, o_iast, o_zast, o_aast, o_new, o_newa, o_call, o_call1, o_callN, o_obj, o_reti, o_retl, o_ret, o_tsw, o_lsw, va_rf_s, va_rf_n, z_u2_s, z_u2_k, z_u2_f, z_uR_f, z_uL_f, e_ix, e_vp, e_lt, e_le, e_eq, e_lt0, e_eq0, e_b0, e_b1, e_10, e_11, true_or, or_true, false_or, nI_add, z_bi_0, z_bi_1, e_bb, z_uR_s, z_uR_k, z_uL_s, z_uL_k, true_and, and_true, and_self, not_true_eq_false, not_false_eq_true, forall_const, Option.toList, List.cons_append, List.nil_append, List.singleton_append, Nat.reduceAdd, Nat.zero_add, Nat.add_zero, Nat.reduceEqDiff, ↓reduceIte, ite_true, ite_false, reduceCtorEq, Int.cast_ofNat_Int, Int.reduceAdd, Int.reduceToNat, ne_eq, false_imp_iff, true_imp_iff, cl_85, bf_85_0, bf_85_13, bf_85_28, bf_85_100, bf_85_129, bf_85_135, bo_85_0, bo_85_13, bo_85_28, bo_85_100, bo_85_129, bo_85_135, s1', s5, s25']
          refine x_passRound (mr := p.2.1) (co := nI 255) hS'.2.1.2 g2' hI.1 hdr (by omega) (x_co0 h8.1) fun f' g' u1 u2 => ?_
          have u3 : FX f' mi g' mr 25 := FX.trans u1 ⟨fun c hc => (z_u2_f (show c ≠ 36 + j % A.s.1.2 by omega)).trans (g1.1 c hc), g1.2⟩
          have hS2 := SC.of hS (FG.t u3.2)
          have s1'' := hS2.1
          have n25' : f' 25 2 = nI A.s.1.1 := u2.1.1
          simp (disch := omega) only [e_q0, e_nil, e_cons, e_q, e_qf, e_qt, e_af, z_hd, z_mk1, z_lg, z_s1, z_s2, z_kl, z_en, z_kI, z_fv, z_ic, z_c1, z_sh, z_pop, z_rc, z_tgt, z_tsw, z_lsw, z_nw, z_ac, o_kI, o_kL, o_ldi, o_ldl, o_lda, o_sti, o_sta, o_stl, o_inc, o_b2, o_bz, o_l2, o_lz, o_ls, o_lneg, o_i2l, o_l2i, o_lcmp, o_dup, o_dupx1, o_dup2, o_if, o_if2, o_ifnull, o_get, o_put, o_iald, o_zald, o_aald, o_alen, o_iast, o_zast, o_aast, o_new, o_newa, o_call, o_call1, o_callN, o_obj, o_reti, o_retl, o_ret, o_tsw, o_lsw, va_rf_s, va_rf_n, z_u2_s, z_u2_k, z_u2_f, z_uR_f, z_uL_f, e_ix, e_vp, e_lt, e_le, e_eq, e_lt0, e_eq0, e_b0, e_b1, e_10, e_11, true_or, or_true, false_or, nI_add, z_bi_0, z_bi_1, e_bb, z_uR_s, z_uR_k, z_uL_s, z_uL_k, true_and, and_true, and_self, not_true_eq_false, not_false_eq_true, forall_const, Option.toList, List.cons_append, List.nil_append, List.singleton_append, Nat.reduceAdd, Nat.zero_add, Nat.add_zero, Nat.reduceEqDiff, ↓reduceIte, ite_true, ite_false, reduceCtorEq, Int.cast_ofNat_Int, Int.reduceAdd, Int.reduceToNat, ne_eq, false_imp_iff, true_imp_iff, cl_85, bf_85_0, bf_85_13, bf_85_28, bf_85_100, bf_85_129, bf_85_135, bo_85_0, bo_85_13, bo_85_28, bo_85_100, bo_85_129, bo_85_135, s1'', s5, s25', n25']
          refine x_reachedNodes hS2.2.1.2 u2 h8.1 hrr.1.2.1 ?_
          simp (disch := omega) only [e_q0, e_nil, e_cons, e_q, e_qf, e_qt, e_af, z_hd, z_mk1, z_lg, z_s1, z_s2, z_kl, z_en, z_kI, z_fv, z_ic, z_c1, z_sh, z_pop, z_rc, z_tgt, z_tsw, z_lsw, z_nw, z_ac, o_kI, o_kL, o_ldi, o_ldl, o_lda, o_sti, o_sta, o_stl, o_inc, o_b2, o_bz, o_l2, o_lz, o_ls, o_lneg, o_i2l, o_l2i, o_lcmp, o_dup, o_dupx1, o_dup2, o_if, o_if2, o_ifnull, o_get, o_put, o_iald, o_zald, o_aald, o_alen, o_iast, o_zast, o_aast, o_new, o_newa, o_call, o_call1, o_callN, o_obj, o_reti, o_retl, o_ret, o_tsw, o_lsw, va_rf_s, va_rf_n, z_u2_s, z_u2_k, z_u2_f, z_uR_f, z_uL_f, e_ix, e_vp, e_lt, e_le, e_eq, e_lt0, e_eq0, e_b0, e_b1, e_10, e_11, true_or, or_true, false_or, nI_add, z_bi_0, z_bi_1, e_bb, z_uR_s, z_uR_k, z_uL_s, z_uL_k, true_and, and_true, and_self, not_true_eq_false, not_false_eq_true, forall_const, Option.toList, List.cons_append, List.nil_append, List.singleton_append, Nat.reduceAdd, Nat.zero_add, Nat.add_zero, Nat.reduceEqDiff, ↓reduceIte, ite_true, ite_false, reduceCtorEq, Int.cast_ofNat_Int, Int.reduceAdd, Int.reduceToNat, ne_eq, false_imp_iff, true_imp_iff, cl_85, bf_85_0, bf_85_13, bf_85_28, bf_85_100, bf_85_129, bf_85_135, bo_85_0, bo_85_13, bo_85_28, bo_85_100, bo_85_129, bo_85_135, s1'', s5, s25', n25']
          refine x_bitsR h8.1 ?_
          simp (disch := omega) only [e_q0, e_nil, e_cons, e_q, e_qf, e_qt, e_af, z_hd, z_mk1, z_lg, z_s1, z_s2, z_kl, z_en, z_kI, z_fv, z_ic, z_c1, z_sh, z_pop, z_rc, z_tgt, z_tsw, z_lsw, z_nw, z_ac, o_kI, o_kL, o_ldi, o_ldl, o_lda, o_sti, o_sta, o_stl, o_inc, o_b2, o_bz, o_l2, o_lz, o_ls, o_lneg, o_i2l, o_l2i, o_lcmp, o_dup, o_dupx1, o_dup2, o_if, o_if2, o_ifnull, o_get, o_put, o_iald, o_zald, o_aald, o_alen, o_iast, o_zast, o_aast, o_new, o_newa, o_call, o_call1, o_callN, o_obj, o_reti, o_retl, o_ret, o_tsw, o_lsw, va_rf_s, va_rf_n, z_u2_s, z_u2_k, z_u2_f, z_uR_f, z_uL_f, e_ix, e_vp, e_lt, e_le, e_eq, e_lt0, e_eq0, e_b0, e_b1, e_10, e_11, true_or, or_true, false_or, nI_add, z_bi_0, z_bi_1, e_bb, z_uR_s, z_uR_k, z_uL_s, z_uL_k, true_and, and_true, and_self, not_true_eq_false, not_false_eq_true, forall_const, Option.toList, List.cons_append, List.nil_append, List.singleton_append, Nat.reduceAdd, Nat.zero_add, Nat.add_zero, Nat.reduceEqDiff, ↓reduceIte, ite_true, ite_false, reduceCtorEq, Int.cast_ofNat_Int, Int.reduceAdd, Int.reduceToNat, ne_eq, false_imp_iff, true_imp_iff, cl_85, bf_85_0, bf_85_13, bf_85_28, bf_85_100, bf_85_129, bf_85_135, bo_85_0, bo_85_13, bo_85_28, bo_85_100, bo_85_129, bo_85_135]
          exact ihz2 f' g' (z_uL p.2.2 2 7 sd') u3 u2 z_uL_s en
        · rw [if_neg c] at edr
          rw [edr] at hdr hrr ihz2
          refine x_passRound (mr := p.2.1) (co := nI 255) hS'.2.1.2 g2 hI.1 hdr (by omega) (x_co0 h8.1) fun f' g' u1 u2 => ?_
          have u3 : FX f' mi g' mr 25 := FX.trans u1 g1
          have hS2 := SC.of hS (FG.t u3.2)
          have s1'' := hS2.1
          have n25' : f' 25 2 = nI A.s.1.1 := u2.1.1
          simp (disch := omega) only [e_q0, e_nil, e_cons, e_q, e_qf, e_qt, e_af, z_hd, z_mk1, z_lg, z_s1, z_s2, z_kl, z_en, z_kI, z_fv, z_ic, z_c1, z_sh, z_pop, z_rc, z_tgt, z_tsw, z_lsw, z_nw, z_ac, o_kI, o_kL, o_ldi, o_ldl, o_lda, o_sti, o_sta, o_stl, o_inc, o_b2, o_bz, o_l2, o_lz, o_ls, o_lneg, o_i2l, o_l2i, o_lcmp, o_dup, o_dupx1, o_dup2, o_if, o_if2, o_ifnull, o_get, o_put, o_iald, o_zald, o_aald, o_alen, o_iast, o_zast, o_aast, o_new, o_newa, o_call, o_call1, o_callN, o_obj, o_reti, o_retl, o_ret, o_tsw, o_lsw, va_rf_s, va_rf_n, z_u2_s, z_u2_k, z_u2_f, z_uR_f, z_uL_f, e_ix, e_vp, e_lt, e_le, e_eq, e_lt0, e_eq0, e_b0, e_b1, e_10, e_11, true_or, or_true, false_or, nI_add, z_bi_0, z_bi_1, e_bb, z_uR_s, z_uR_k, z_uL_s, z_uL_k, true_and, and_true, and_self, not_true_eq_false, not_false_eq_true, forall_const, Option.toList, List.cons_append, List.nil_append, List.singleton_append, Nat.reduceAdd, Nat.zero_add, Nat.add_zero, Nat.reduceEqDiff, ↓reduceIte, ite_true, ite_false, reduceCtorEq, Int.cast_ofNat_Int, Int.reduceAdd, Int.reduceToNat, ne_eq, false_imp_iff, true_imp_iff, cl_85, bf_85_0, bf_85_13, bf_85_28, bf_85_100, bf_85_129, bf_85_135, bo_85_0, bo_85_13, bo_85_28, bo_85_100, bo_85_129, bo_85_135, s1'', s5, s25', n25']
          refine x_reachedNodes hS2.2.1.2 u2 h8.1 hrr.1.2.1 ?_
          simp (disch := omega) only [e_q0, e_nil, e_cons, e_q, e_qf, e_qt, e_af, z_hd, z_mk1, z_lg, z_s1, z_s2, z_kl, z_en, z_kI, z_fv, z_ic, z_c1, z_sh, z_pop, z_rc, z_tgt, z_tsw, z_lsw, z_nw, z_ac, o_kI, o_kL, o_ldi, o_ldl, o_lda, o_sti, o_sta, o_stl, o_inc, o_b2, o_bz, o_l2, o_lz, o_ls, o_lneg, o_i2l, o_l2i, o_lcmp, o_dup, o_dupx1, o_dup2, o_if, o_if2, o_ifnull, o_get, o_put, o_iald, o_zald, o_aald, o_alen, o_iast, o_zast, o_aast, o_new, o_newa, o_call, o_call1, o_callN, o_obj, o_reti, o_retl, o_ret, o_tsw, o_lsw, va_rf_s, va_rf_n, z_u2_s, z_u2_k, z_u2_f, z_uR_f, z_uL_f, e_ix, e_vp, e_lt, e_le, e_eq, e_lt0, e_eq0, e_b0, e_b1, e_10, e_11, true_or, or_true, false_or, nI_add, z_bi_0, z_bi_1, e_bb, z_uR_s, z_uR_k, z_uL_s, z_uL_k, true_and, and_true, and_self, not_true_eq_false, not_false_eq_true, forall_const, Option.toList, List.cons_append, List.nil_append, List.singleton_append, Nat.reduceAdd, Nat.zero_add, Nat.add_zero, Nat.reduceEqDiff, ↓reduceIte, ite_true, ite_false, reduceCtorEq, Int.cast_ofNat_Int, Int.reduceAdd, Int.reduceToNat, ne_eq, false_imp_iff, true_imp_iff, cl_85, bf_85_0, bf_85_13, bf_85_28, bf_85_100, bf_85_129, bf_85_135, bo_85_0, bo_85_13, bo_85_28, bo_85_100, bo_85_129, bo_85_135, s1'', s5, s25', n25']
          refine x_bitsR h8.1 ?_
          simp (disch := omega) only [e_q0, e_nil, e_cons, e_q, e_qf, e_qt, e_af, z_hd, z_mk1, z_lg, z_s1, z_s2, z_kl, z_en, z_kI, z_fv, z_ic, z_c1, z_sh, z_pop, z_rc, z_tgt, z_tsw, z_lsw, z_nw, z_ac, o_kI, o_kL, o_ldi, o_ldl, o_lda, o_sti, o_sta, o_stl, o_inc, o_b2, o_bz, o_l2, o_lz, o_ls, o_lneg, o_i2l, o_l2i, o_lcmp, o_dup, o_dupx1, o_dup2, o_if, o_if2, o_ifnull, o_get, o_put, o_iald, o_zald, o_aald, o_alen, o_iast, o_zast, o_aast, o_new, o_newa, o_call, o_call1, o_callN, o_obj, o_reti, o_retl, o_ret, o_tsw, o_lsw, va_rf_s, va_rf_n, z_u2_s, z_u2_k, z_u2_f, z_uR_f, z_uL_f, e_ix, e_vp, e_lt, e_le, e_eq, e_lt0, e_eq0, e_b0, e_b1, e_10, e_11, true_or, or_true, false_or, nI_add, z_bi_0, z_bi_1, e_bb, z_uR_s, z_uR_k, z_uL_s, z_uL_k, true_and, and_true, and_self, not_true_eq_false, not_false_eq_true, forall_const, Option.toList, List.cons_append, List.nil_append, List.singleton_append, Nat.reduceAdd, Nat.zero_add, Nat.add_zero, Nat.reduceEqDiff, ↓reduceIte, ite_true, ite_false, reduceCtorEq, Int.cast_ofNat_Int, Int.reduceAdd, Int.reduceToNat, ne_eq, false_imp_iff, true_imp_iff, cl_85, bf_85_0, bf_85_13, bf_85_28, bf_85_100, bf_85_129, bf_85_135, bo_85_0, bo_85_13, bo_85_28, bo_85_100, bo_85_129, bo_85_135]
          exact ihz2 f' g' (z_uL p.2.2 2 7 sd') u3 u2 z_uL_s en
end
