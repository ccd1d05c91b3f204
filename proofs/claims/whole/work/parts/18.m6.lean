/-- what the reference's object holds: the text, the mesh, its row now, the rows of the changes (latest first), the rows kept, the observations, the random number -/
abbrev PM (len : Nat) (txt : ZW) (s : ZS) (r : ZW) (h : Nat) (H : Nat → ZW) (fl : ZW) (K : Nat → ZW) (o : Nat) (O : Nat → ZW) (sd : Int64) (mi : Nat → Nat → Int32) (ml : Nat → Nat → Int64) : Prop :=
  PMs mi s ∧ (mi 373 1 = nI len ∧ len ≤ 100 ∧ ∀ j, j < len → mi 374 j = txt j) ∧ (mi 381 = r ∧ z_hi (mi 382) ∧ z_hi (mi 383) ∧ mi 373 23 = nI 255) ∧
  (mi 373 14 = nI h ∧ h ≤ 14 ∧ ∃ p, p < 14 ∧ mi 373 15 = nI p ∧ ∀ j, j < h → ∀ k, k < 78 → mi 384 (78 * ((p + 13 - j) % 14) + k) = H j k) ∧
  (∀ t, t < 2 → mi 386 t = fl t ∧ ∀ k, k < 78 → mi 385 (78 * t + k) = K t k) ∧
  (mi 373 21 = nI o ∧ o ≤ 6 ∧ ∀ j, j < o → mi 387 j = O 0 j ∧ mi 388 j = O 1 j ∧ mi 389 j = O 2 j) ∧ ml 373 22 = sd
/-- the rows are in order -/
abbrev WM (s : ZS) (r : ZW) (h : Nat) (H : Nat → ZW) (fl : ZW) (K : Nat → ZW) : Prop :=
  f_cyc s ∧ f_rok s r ∧ (∀ j, j < h → f_rok s (H j)) ∧ ∀ t, t < 2 → (fl t = nI 0 ∨ fl t = nI 1) ∧ (fl t = nI 1 → f_rok s (K t))
theorem PM.cong {len : Nat} {txt : ZW} {s : ZS} {r r' : ZW} {h : Nat} {H : Nat → ZW} {fl : ZW} {K : Nat → ZW} {o : Nat} {O : Nat → ZW} {sd : Int64} {mi f : Nat → Nat → Int32} {ml : Nat → Nat → Int64} (hM : PM len txt s r h H fl K o O sd mi ml)
    (h1 : f 373 1 = mi 373 1 ∧ f 373 2 = mi 373 2 ∧ f 373 6 = mi 373 6 ∧ f 373 14 = mi 373 14 ∧ f 373 15 = mi 373 15 ∧ f 373 21 = mi 373 21 ∧ f 373 23 = mi 373 23) (h2 : ∀ c, 374 ≤ c → c ≤ 389 → c ≠ 381 → c ≠ 382 → c ≠ 383 → f c = mi c) (h3 : f 381 = r') (h4 : z_hi (f 382)) (h5 : z_hi (f 383)) : PM len txt s r' h H fl K o O sd f ml := by
  obtain ⟨a1, a2, a3, a4, a5, a6, a7⟩ := hM
  obtain ⟨b1, b2, b3, b4, b5, b6, b7⟩ := h1
  obtain ⟨⟨c1, c2, c3, c4, c5, c6, c7, c8⟩, c9⟩ := a1
  refine ⟨⟨⟨by rw [b2]; exact c1, by rw [b3]; exact c2, ?_, ?_, ?_, ?_, ?_, ?_⟩, c9⟩, ⟨by rw [b1]; exact a2.1, a2.2.1, ?_⟩, ⟨h3, h4, h5, by rw [b7]; exact a3.2.2.2⟩, ⟨by rw [b4]; exact a4.1, a4.2.1, ?_⟩, ?_, ⟨by rw [b6]; exact a6.1, a6.2.1, ?_⟩, a7⟩
  · rw [h2 375 (by omega) (by omega) (by omega) (by omega) (by omega)]; exact c3
  · rw [h2 376 (by omega) (by omega) (by omega) (by omega) (by omega)]; exact c4
  · rw [h2 377 (by omega) (by omega) (by omega) (by omega) (by omega)]; exact c5
  · rw [h2 378 (by omega) (by omega) (by omega) (by omega) (by omega)]; exact c6
  · rw [h2 379 (by omega) (by omega) (by omega) (by omega) (by omega)]; exact c7
  · rw [h2 380 (by omega) (by omega) (by omega) (by omega) (by omega)]; exact c8
  · rw [h2 374 (by omega) (by omega) (by omega) (by omega) (by omega)]; exact a2.2.2
  · rw [h2 384 (by omega) (by omega) (by omega) (by omega) (by omega), b5]; exact a4.2.2
  · rw [h2 385 (by omega) (by omega) (by omega) (by omega) (by omega), h2 386 (by omega) (by omega) (by omega) (by omega) (by omega)]; exact a5
  · rw [h2 387 (by omega) (by omega) (by omega) (by omega) (by omega), h2 388 (by omega) (by omega) (by omega) (by omega) (by omega), h2 389 (by omega) (by omega) (by omega) (by omega) (by omega)]; exact a6.2.2
def f_push (r : ZW) (H : Nat → ZW) : Nat → ZW
  | 0 => r
  | j + 1 => H j
section
variable {l : Launch} {G : ZG} {mi : Nat → Nat → Int32} {mr : Nat → Nat → Option Nat} {ml : Nat → Nat → Int64} {T : (Nat → Nat × Nat) × Nat × Nat} {Q : ZR}
variable {len : Nat} {txt : ZW} {s : ZS} {r : ZW} {h : Nat} {H : Nat → ZW} {fl : ZW} {K : Nat → ZW} {o : Nat} {O : Nat → ZW} {sd : Int64}
theorem note_PM {f g : Nat → Nat → Int32} {h' p : Nat} (hM : PM len txt s r h H fl K o O sd mi ml) (hp : p < 14) (hpe : mi 373 15 = nI p) (hf : ∀ c j, f c j = if c = 384 then (if 78 * p ≤ j ∧ j < 78 * p + 78 then r (j - 78 * p) else mi 384 j) else mi c j)
    (hg : g = z_u2 (z_u2 f 373 15 (nI ((p + 1) % 14))) 373 14 (nI h')) (hh : h' = if h < 14 then h + 1 else 14) (hL : ∀ j, j < h → ∀ k, k < 78 → mi 384 (78 * ((p + 13 - j) % 14) + k) = H j k) :
    PM len txt s r h' (f_push r H) fl K o O sd g ml ∧ (∀ c, c < 373 → g c = mi c) ∧ g 382 = mi 382 := by
  obtain ⟨a1, a2, a3, ⟨a4, a4b, _⟩, a5, a6, a7⟩ := id hM
  have w1 : ∀ c, c ≠ 373 → c ≠ 384 → g c = mi c := fun c c1 c2 => by
    rw [hg, z_u2_f c1, z_u2_f c1]; exact z_sw hf c2
  have w2 : ∀ j, j ≠ 14 → j ≠ 15 → g 373 j = mi 373 j := fun j c1 c2 => by
    rw [hg, z_u2_k c1, z_u2_k c2, z_sw hf (by omega)]
  have w3 : g 373 14 = nI h' := by rw [hg]; exact z_u2_s
  have w4 : g 373 15 = nI ((p + 1) % 14) := by rw [hg, z_u2_k (by omega)]; exact z_u2_s
  have w5 : ∀ j, g 384 j = if 78 * p ≤ j ∧ j < 78 * p + 78 then r (j - 78 * p) else mi 384 j := fun j => by
    rw [hg, z_u2_a (by omega), z_u2_a (by omega), hf, if_pos rfl]
  obtain ⟨⟨c1, c2, c3, c4, c5, c6, c7, c8⟩, c9⟩ := a1
  refine ⟨⟨⟨⟨by rw [w2 _ (by omega) (by omega)]; exact c1, by rw [w2 _ (by omega) (by omega)]; exact c2, by rw [w1 _ (by omega) (by omega)]; exact c3, by rw [w1 _ (by omega) (by omega)]; exact c4, by rw [w1 _ (by omega) (by omega)]; exact c5, by rw [w1 _ (by omega) (by omega)]; exact c6, by rw [w1 _ (by omega) (by omega)]; exact c7, by rw [w1 _ (by omega) (by omega)]; exact c8⟩, c9⟩,
    ⟨by rw [w2 _ (by omega) (by omega)]; exact a2.1, a2.2.1, by rw [w1 _ (by omega) (by omega)]; exact a2.2.2⟩,
    ⟨by rw [w1 _ (by omega) (by omega)]; exact a3.1, by rw [w1 _ (by omega) (by omega)]; exact a3.2.1, by rw [w1 _ (by omega) (by omega)]; exact a3.2.2.1, by rw [w2 _ (by omega) (by omega)]; exact a3.2.2.2⟩,
    ⟨w3, by rw [hh]; split <;> omega, (p + 1) % 14, Nat.mod_lt _ (by omega), w4, ?_⟩,
    by rw [w1 _ (by omega) (by omega), w1 _ (by omega) (by omega)]; exact a5,
    ⟨by rw [w2 _ (by omega) (by omega)]; exact a6.1, a6.2.1, by rw [w1 387 (by omega) (by omega), w1 388 (by omega) (by omega), w1 389 (by omega) (by omega)]; exact a6.2.2⟩, a7⟩, fun c hc => w1 c (by omega) (by omega), w1 _ (by omega) (by omega)⟩
  intro j hj k hk
  rw [w5]
  have hj14 : j < 14 ∧ j ≤ h := by
    have e : h' ≤ 14 ∧ h' ≤ h + 1 := by rw [hh]; split <;> omega
    omega
  cases j with
  | zero =>
    have e : ((p + 1) % 14 + 13 - 0) % 14 = p := by omega
    rw [e, if_pos (by omega)]
    show r _ = r k
    congr 1
    omega
  | succ j =>
    have e : ((p + 1) % 14 + 13 - (j + 1)) % 14 = (p + 13 - j) % 14 := by omega
    have e2 : (p + 13 - j) % 14 ≠ p := by omega
    rw [e, if_neg (by omega)]
    exact hL j (by omega) k hk
theorem k_note (hS : SM T mr) (hM : PM len txt s r h H fl K o O sd mi ml)
    (hQ : ∀ f, PM len txt s r (if h < 14 then h + 1 else 14) (f_push r H) fl K o O sd f ml → (∀ c, c < 373 → f c = mi c) → f 382 = mi 382 → Q none (f, mr, ml, T)) : z_Ok l G m_Model_note [.ref 373] (mi, mr, ml, T) Q := by
  obtain ⟨a1, a2, a3, ⟨a4, a4b, p, hp, a4c, a4d⟩, a5, a6, a7⟩ := id hM
  refine z_okN cz_149.1 (by rw [cl_149]; exact Nat.le_of_ble_eq_true rfl) cz_149.2 (z_run ck_149 5 bf_149_0 ?_)
  simp (disch := omega) only [e_q0, e_nil, e_cons, e_q, e_qf, e_qt, e_af, z_hd, z_mk1, z_lg, z_s1, z_s2, z_kl, z_en, z_kI, z_fv, z_ic, z_c1, z_sh, z_pop, z_rc, z_tgt, z_tsw, z_lsw, z_nw, z_ac, o_kI, o_kL, o_ldi, o_ldl, o_lda, o_sti, o_sta, o_stl, o_inc, o_b2, o_bz, o_l2, o_lz, o_ls, o_lneg, o_i2l, o_l2i, o_lcmp, o_dup, o_dupx1, o_dup2, o_if, o_if2, o_ifnull, o_get, o_put, o_iald, o_zald, o_aald, o_alen, o_iast, o_zast, o_aast, o_new, o_newa, o_call, o_call1, o_callN, o_obj, o_reti, o_retl, o_ret, o_tsw, o_lsw, va_rf_s, va_rf_n, z_u2_s, z_u2_k, z_u2_f, z_uR_f, z_uL_f, e_ix, e_vp, e_lt, e_le, e_eq, e_lt0, e_eq0, e_b0, e_b1, e_10, e_11, true_or, or_true, false_or, nI_add, z_bi_0, z_bi_1, e_bb, z_uR_s, z_uR_k, z_uL_s, z_uL_k, true_and, and_true, and_self, not_true_eq_false, not_false_eq_true, forall_const, Option.toList, List.cons_append, List.nil_append, List.singleton_append, Nat.reduceAdd, Nat.zero_add, Nat.add_zero, Nat.reduceEqDiff, ↓reduceIte, ite_true, ite_false, reduceCtorEq, Int.cast_ofNat_Int, Int.reduceAdd, Int.reduceToNat, ne_eq, false_imp_iff, true_imp_iff, cl_149, bf_149_0, bf_149_2, bf_149_34, bf_149_66, bf_149_68, bo_149_0, bo_149_2, bo_149_34, bo_149_66, bo_149_68, hS]
  refine z_for (P := fun k f => (∀ c j, f c j = if c = 384 then (if 78 * p ≤ j ∧ j < 78 * p + k then r (j - 78 * p) else mi 384 j) else mi c j) → z_W l G 149 (T.2.1, T.2.2) (fun v M' => Q v M' ∧ M'.2.2.2 = T) 2 [some (.ref 373), some (.int (nI k))] [] (f, mr, ml, T)) 78 (fun f hf => ?_) (fun k hk ih f hf => ?_) 0 (by omega) mi (fun c j => by
    by_cases q : c = 384
    · rw [if_pos q, if_neg (by omega), q]
    · rw [if_neg q])
  · have e3 : f 373 = mi 373 := z_sw hf (by omega)
    refine z_run ck_149 5 bf_149_2 ?_
    simp (disch := omega) only [e_q0, e_nil, e_cons, e_q, e_qf, e_qt, e_af, z_hd, z_mk1, z_lg, z_s1, z_s2, z_kl, z_en, z_kI, z_fv, z_ic, z_c1, z_sh, z_pop, z_rc, z_tgt, z_tsw, z_lsw, z_nw, z_ac, o_kI, o_kL, o_ldi, o_ldl, o_lda, o_sti, o_sta, o_stl, o_inc, o_b2, o_bz, o_l2, o_lz, o_ls, o_lneg, o_i2l, o_l2i, o_lcmp, o_dup, o_dupx1, o_dup2, o_if, o_if2, o_ifnull, o_get, o_put, o_iald, o_zald, o_aald, o_alen, o_iast, o_zast, o_aast, o_new, o_newa, o_call, o_call1, o_callN, o_obj, o_reti, o_retl, o_ret, o_tsw, o_lsw, va_rf_s, va_rf_n, z_u2_s, z_u2_k, z_u2_f, z_uR_f, z_uL_f, e_ix, e_vp, e_lt, e_le, e_eq, e_lt0, e_eq0, e_b0, e_b1, e_10, e_11, true_or, or_true, false_or, nI_add, z_bi_0, z_bi_1, e_bb, z_uR_s, z_uR_k, z_uL_s, z_uL_k, true_and, and_true, and_self, not_true_eq_false, not_false_eq_true, forall_const, Option.toList, List.cons_append, List.nil_append, List.singleton_append, Nat.reduceAdd, Nat.zero_add, Nat.add_zero, Nat.reduceEqDiff, ↓reduceIte, ite_true, ite_false, reduceCtorEq, Int.cast_ofNat_Int, Int.reduceAdd, Int.reduceToNat, ne_eq, false_imp_iff, true_imp_iff, cl_149, bf_149_0, bf_149_2, bf_149_34, bf_149_66, bf_149_68, bo_149_0, bo_149_2, bo_149_34, bo_149_66, bo_149_68, hS, e3, a4, a4c, Nat.le_refl]
    rw [show z_rem (nI (p + 1)) (nI 14) = nI ((p + 1) % 14) from pk_rem (by omega) (by omega) (by omega)]
    refine ⟨fun c => ?_, fun c => ?_⟩
    · obtain ⟨x1, x2, x3⟩ := note_PM (h' := 14) hM hp a4c hf rfl (by rw [if_neg (by omega)]) a4d
      exact hQ _ (by rw [if_neg (by omega)]; exact x1) x2 x3
    · obtain ⟨x1, x2, x3⟩ := note_PM (h' := h + 1) hM hp a4c hf rfl (by rw [if_pos (by omega)]) a4d
      exact hQ _ (by rw [if_pos (by omega)]; exact x1) x2 x3
  · have e3 : f 373 = mi 373 := z_sw hf (by omega)
    have e1 : f 381 = r := by rw [z_sw hf (by omega)]; exact a3.1
    refine z_run ck_149 5 bf_149_2 ?_
    simp (disch := omega) only [e_q0, e_nil, e_cons, e_q, e_qf, e_qt, e_af, z_hd, z_mk1, z_lg, z_s1, z_s2, z_kl, z_en, z_kI, z_fv, z_ic, z_c1, z_sh, z_pop, z_rc, z_tgt, z_tsw, z_lsw, z_nw, z_ac, o_kI, o_kL, o_ldi, o_ldl, o_lda, o_sti, o_sta, o_stl, o_inc, o_b2, o_bz, o_l2, o_lz, o_ls, o_lneg, o_i2l, o_l2i, o_lcmp, o_dup, o_dupx1, o_dup2, o_if, o_if2, o_ifnull, o_get, o_put, o_iald, o_zald, o_aald, o_alen, o_iast, o_zast, o_aast, o_new, o_newa, o_call, o_call1, o_callN, o_obj, o_reti, o_retl, o_ret, o_tsw, o_lsw, va_rf_s, va_rf_n, z_u2_s, z_u2_k, z_u2_f, z_uR_f, z_uL_f, e_ix, e_vp, e_lt, e_le, e_eq, e_lt0, e_eq0, e_b0, e_b1, e_10, e_11, true_or, or_true, false_or, nI_add, z_bi_0, z_bi_1, e_bb, z_uR_s, z_uR_k, z_uL_s, z_uL_k, true_and, and_true, and_self, not_true_eq_false, not_false_eq_true, forall_const, Option.toList, List.cons_append, List.nil_append, List.singleton_append, Nat.reduceAdd, Nat.zero_add, Nat.add_zero, Nat.reduceEqDiff, ↓reduceIte, ite_true, ite_false, reduceCtorEq, Int.cast_ofNat_Int, Int.reduceAdd, Int.reduceToNat, ne_eq, false_imp_iff, true_imp_iff, cl_149, bf_149_0, bf_149_2, bf_149_34, bf_149_66, bf_149_68, bo_149_0, bo_149_2, bo_149_34, bo_149_66, bo_149_68, hS, e3, a4, a4c, e1, pk_mul, Nat.not_le.mpr, hk]
    refine ih _ (z_rw (z_ru hf) fun j => ?_)
    by_cases q : j = 78 * p + k
    · rw [if_pos q, if_pos (by omega), q]
      congr 1
      omega
    · rw [if_neg q]
      by_cases q2 : 78 * p ≤ j ∧ j < 78 * p + k
      · rw [if_pos q2, if_pos (by omega)]
      · rw [if_neg q2, if_neg (by omega)]
end
