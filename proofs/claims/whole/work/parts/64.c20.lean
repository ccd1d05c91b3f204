/-- the margin is a digit, or not yet read -/
def rd_mok (R : ZRd) : Prop := (R.2.2.2 = 1 ∧ R.2.2.1 = nI 77) ∨ ∃ v, v ≤ 9 ∧ R.2.1 = nI v
theorem rd_take_mg {R : ZRd} {x : Int32} (h : rd_mok R) (ht : (rd_take R x).1 = true) : rd_mok (rd_take R x).2 := by
  have keep : ∀ R' : ZRd, R'.2.1 = R.2.1 → (∃ v, v ≤ 9 ∧ R.2.1 = nI v) → rd_mok R' := fun R' e ⟨v, hv, e2⟩ => Or.inr ⟨v, hv, e.trans e2⟩
  unfold rd_take at ht ⊢
  by_cases c0 : R.2.2.2 = 0
  · rw [if_pos c0]
    have hv : ∃ v, v ≤ 9 ∧ R.2.1 = nI v := h.resolve_left (fun q => by omega)
    refine keep _ ?_ hv
    unfold rd_sign
    split
    · rfl
    split
    · split <;> rfl
    split
    · rfl
    · rfl
  · rw [if_neg c0] at ht ⊢
    by_cases c7 : R.2.2.1 = nI 77
    · rw [if_pos c7] at ht ⊢
      obtain ⟨v, _, hv, e⟩ := f_in_t (by omega) (by omega) ht
      exact Or.inr ⟨v, hv, e⟩
    · rw [if_neg c7]
      have hv : ∃ v, v ≤ 9 ∧ R.2.1 = nI v := h.resolve_left (fun q => c7 q.2)
      refine keep _ ?_ hv
      split
      · unfold rd_gate; split <;> rfl
      split
      · unfold rd_leaf
        split
        · rfl
        split <;> rfl
      · unfold rd_link
        split
        · rfl
        split
        · rfl
        split
        · rfl
        split
        · rfl
        split <;> rfl
theorem rd_go_mg {txt : ZW} {len : Nat} : ∀ d k R, rd_mok R → (rd_go txt len d k R).1 = z_ng 9 → k + d < 1000 → len < 1000 → rd_mok (rd_go txt len d k R).2 ∧ (rd_go txt len d k R).2.2.2.2 = 0
  | 0, k, R, h, e, _, hl => by
    refine ⟨h, ?_⟩
    show R.2.2.2 = 0
    refine Classical.byContradiction fun q => ?_
    have e : (if R.2.2.2 = 0 then z_ng 9 else nI len) = z_ng 9 := e
    rw [if_neg q] at e
    exact nI_ng (by omega) e
  | d + 1, k, R, h, e, hk, hl => by
    show rd_mok (if (rd_take R (txt k)).1 = true then rd_go txt len d (k + 1) (rd_take R (txt k)).2 else (nI k, (rd_take R (txt k)).2)).2 ∧ _
    have e : (if (rd_take R (txt k)).1 = true then rd_go txt len d (k + 1) (rd_take R (txt k)).2 else (nI k, (rd_take R (txt k)).2)).1 = z_ng 9 := e
    show _ ∧ (if (rd_take R (txt k)).1 = true then rd_go txt len d (k + 1) (rd_take R (txt k)).2 else (nI k, (rd_take R (txt k)).2)).2.2.2.2 = 0
    by_cases c : (rd_take R (txt k)).1 = true
    · rw [if_pos c] at e ⊢
      exact rd_go_mg d (k + 1) _ (rd_take_mg h c) e (by omega) hl
    · rw [if_neg c] at e
      exact absurd e (nI_ng (by omega))
theorem rd_text_mg {txt : ZW} {len : Nat} {F : Nat → Nat → Int32} {mg : Int32} (hl : len ≤ 100) (h : (rd_text txt len F mg).1 = z_ng 9) : ∃ v, v ≤ 9 ∧ (rd_text txt len F mg).2.2.1 = nI v := by
  unfold rd_text at h ⊢
  by_cases c : len = 0 ∨ ¬ txt 0 = nI 77
  · rw [if_pos c] at h
    exact absurd h (nI_ng (by omega))
  · rw [if_neg c] at h ⊢
    obtain ⟨h1, h2⟩ := rd_go_mg (len - 1) 1 (rd_0 F mg) (Or.inl ⟨rfl, rfl⟩) h (by omega) (by omega)
    exact h1.resolve_left (fun q => by omega)
section
variable {A : ZA} {R : ZRd}
theorem a_read_s (R : ZRd) (A : ZA) : (a_read A R).s = (R.1.1, f_mS A R) := rfl
theorem f_mS_n {i : Nat} (hi : i < R.1.1.1) : f_mS A R 0 i = R.1.2 0 i ∧ f_mS A R 1 i = R.1.2 1 i ∧ f_mS A R 2 i = R.1.2 2 i := ⟨if_pos hi, if_pos hi, if_pos hi⟩
theorem f_mS_l {k : Nat} (hk : k < R.1.1.2) : f_mS A R 3 k = R.1.2 4 k ∧ f_mS A R 4 k = R.1.2 5 k ∧ f_mS A R 5 k = R.1.2 8 k := ⟨if_pos hk, if_pos hk, if_pos hk⟩
/-- the row of a mesh just read -/
abbrev f_rr (R : ZRd) : ZW := f_set (f_mrow R.1.2 R.1.1.1 R.1.1.2) 75 R.2.1
theorem f_rr_n (hn : R.1.1.1 ≤ 8) {i : Nat} (hi : i < R.1.1.1) : f_rr R i = z_ng 9 ∧ f_rr R (24 + i) = nI 0 ∧ f_rr R (32 + i) = nI 9999 ∧ f_rr R (67 + i) = R.1.2 3 i := by
  refine ⟨?_, ?_, ?_, ?_⟩
  · unfold f_rr
    rw [f_set_ne (by omega)]
    unfold f_mrow f_fresh
    rw [if_neg (by omega), if_neg (by omega), if_neg (by omega), if_pos (by omega)]
  · unfold f_rr
    rw [f_set_ne (by omega)]
    unfold f_mrow f_fresh
    rw [if_neg (by omega), if_neg (by omega), if_neg (by omega), if_neg (by omega), if_neg (by omega)]
  · unfold f_rr
    rw [f_set_ne (by omega)]
    unfold f_mrow f_fresh
    rw [if_neg (by omega), if_neg (by omega), if_neg (by omega), if_neg (by omega), if_pos (by omega)]
  · unfold f_rr
    rw [f_set_ne (by omega)]
    unfold f_mrow
    rw [if_pos (by omega), show 67 + i - 67 = i by omega]
theorem f_rr_l (hn : R.1.1.1 ≤ 8) (hl : R.1.1.2 ≤ 9) {k : Nat} (hk : k < R.1.1.2) : f_rr R (40 + k) = R.1.2 6 k ∧ f_rr R (49 + k) = R.1.2 7 k ∧ f_rr R (58 + k) = nI 0 := by
  refine ⟨?_, ?_, ?_⟩
  · unfold f_rr
    rw [f_set_ne (by omega)]
    unfold f_mrow
    rw [if_neg (by omega), if_pos (by omega), show 40 + k - 40 = k by omega]
  · unfold f_rr
    rw [f_set_ne (by omega)]
    unfold f_mrow
    rw [if_neg (by omega), if_neg (by omega), if_pos (by omega), show 49 + k - 49 = k by omega]
  · unfold f_rr
    rw [f_set_ne (by omega)]
    unfold f_mrow f_fresh
    rw [if_neg (by omega), if_neg (by omega), if_neg (by omega), if_neg (by omega), if_neg (by omega)]
theorem f_rr_m (hn : R.1.1.1 ≤ 8) (hl : R.1.1.2 ≤ 9) : f_rr R 75 = R.2.1 ∧ f_rr R 76 = nI 0 ∧ f_rr R 77 = nI 0 ∧ ∀ j, 78 ≤ j → f_rr R j = 0 := by
  refine ⟨f_set_eq, ?_, ?_, fun j hj => ?_⟩
  all_goals
    unfold f_rr
    rw [f_set_ne (by omega)]
    unfold f_mrow f_fresh
    rw [if_neg (by omega), if_neg (by omega), if_neg (by omega), if_neg (by omega), if_neg (by omega)]
  rfl
theorem MX_read {f : Nat → Nat → Int32} (hM : RM f R) (hI : rd_in R.1.2 R.1.1.1 R.1.1.2) : MX f 25 (R.1.1, f_mS A R) (f_rr R) := by
  obtain ⟨m1, m2, m3, _⟩ := f_rr_m hI.1.1 hI.1.2
  obtain ⟨⟨a2, a3, a4, a5, a6⟩, b, c⟩ := hM
  refine ⟨⟨a2, a3, by rw [m1]; exact a4, by rw [m2]; exact a5, by rw [m3]; exact a6⟩, fun i hi => ?_, fun k hk => ?_⟩
  · obtain ⟨n1, n2, n3, n4⟩ := f_rr_n (R := R) hI.1.1 hi
    obtain ⟨s0, s1, s2⟩ := f_mS_n (A := A) hi
    obtain ⟨⟨w0, w1, w2, w3⟩, w4, w5, w6, w7, w8⟩ := b i hi
    refine ⟨⟨w0.trans s0.symm, w1.trans n4.symm, w2.trans s1.symm, w3.trans s2.symm⟩, w4.trans n1.symm, ?_, ?_, w7.trans n2.symm, w8.trans n3.symm⟩
    · rw [n1, if_pos rfl]; exact w5
    · rw [n1, if_pos rfl]; exact w6
  · obtain ⟨n1, n2, n3⟩ := f_rr_l (R := R) hI.1.1 hI.1.2 hk
    obtain ⟨s3, s4, s5⟩ := f_mS_l (A := A) hk
    obtain ⟨w0, w1, w2, w3, w4, w5, w6⟩ := c k hk
    refine ⟨w0.trans s3.symm, w1.trans s4.symm, w2.trans n1.symm, w3.trans n2.symm, w4.trans s5.symm, ?_, w6.trans n3.symm⟩
    rw [w5]
    unfold f_air
    rw [n1, n2]
    show _ = (nI 100 * f_mS A R 5 k + _ - _) / _
    rw [s5]
theorem sok_read (hI : rd_in R.1.2 R.1.1.1 R.1.1.2) : f_sok (R.1.1, f_mS A R) := by
  obtain ⟨h1, h2, h3, h4⟩ := hI
  refine ⟨h1, fun i hi => ?_, ⟨fun k hk => ?_, fun j k hj hk h => ?_⟩, fun k hk => ?_⟩
  · obtain ⟨s0, s1, s2⟩ := f_mS_n (A := A) hi
    show ((f_mS A R 0 i = nI 0 ∨ f_mS A R 0 i = nI 1) ∧ f_mS A R 1 i = nI 0 ∧ f_mS A R 2 i = nI 0) ∨ (f_mS A R 0 i = nI 2 ∧ ∃ c p, 1 ≤ c ∧ c ≤ 9 ∧ p < c ∧ f_mS A R 1 i = nI c ∧ f_mS A R 2 i = nI p)
    rw [s0, s1, s2]
    rcases h2 i hi with ⟨a, b, c, _⟩ | ⟨a, b, c, _⟩ | ⟨a, _, b⟩
    · exact Or.inl ⟨Or.inl a, b, c⟩
    · exact Or.inl ⟨Or.inr a, b, c⟩
    · exact Or.inr ⟨a, b⟩
  · obtain ⟨s3, s4, _⟩ := f_mS_l (A := A) hk
    obtain ⟨p, q, a1, a2, a3, a4, a5, _⟩ := h4 k hk
    exact ⟨p, q, a1, a2, a3, s3.trans a4, s4.trans a5⟩
  · have hj' : j < R.1.1.2 := hj
    have hk' : k < R.1.1.2 := hk
    obtain ⟨s3, s4, _⟩ := f_mS_l (A := A) hj'
    obtain ⟨t3, t4, _⟩ := f_mS_l (A := A) hk'
    obtain ⟨p, q, a1, a2, a3, a4, a5, a6⟩ := h4 j hj'
    obtain ⟨p', q', b1, b2, b3, b4, b5, b6⟩ := h4 k hk'
    have up : ∀ (a b m n : Nat), m < n → f_lkd R.1.2 a b n = false → ((decide (R.1.2 4 m = nI a) && decide (R.1.2 5 m = nI b)) || (decide (R.1.2 4 m = nI b) && decide (R.1.2 5 m = nI a))) = false := fun a b m n hmn h => by
      cases z : ((decide (R.1.2 4 m = nI a) && decide (R.1.2 5 m = nI b)) || (decide (R.1.2 4 m = nI b) && decide (R.1.2 5 m = nI a))) with
      | false => rfl
      | true =>
        have e : f_lkd R.1.2 a b (m + 1) = true := by
          show (f_lkd R.1.2 a b m || _) = true
          rw [z, Bool.or_true]
        have := f_lkd_up (n - (m + 1)) (m + 1) e
        rw [show m + 1 + (n - (m + 1)) = n by omega, h] at this
        cases this
    have h : ((decide (f_mS A R 3 j = f_mS A R 3 k) && decide (f_mS A R 4 j = f_mS A R 4 k)) || (decide (f_mS A R 3 j = f_mS A R 4 k) && decide (f_mS A R 4 j = f_mS A R 3 k))) = true := h
    rw [s3, s4, t3, t4, a4, a5, b4, b5] at h
    rcases Nat.lt_trichotomy j k with w | w | w
    · have := up p' q' j k w b6
      rw [a4, a5, h] at this
      cases this
    · exact w
    · have := up p q k j w a6
      rw [b4, b5] at this
      simp only [Bool.or_eq_true, Bool.and_eq_true, decide_eq_true_eq] at h
      rcases h with ⟨x, y⟩ | ⟨x, y⟩ <;> simp [x, y] at this
  · obtain ⟨_, _, s5⟩ := f_mS_l (A := A) hk
    obtain ⟨_, _, v, v1, v2, e⟩ := h3 k hk
    exact ⟨v, v1, v2, s5.trans e⟩
theorem row_read (hI : rd_in R.1.2 R.1.1.1 R.1.1.2) (hm : ∃ v, v ≤ 9 ∧ R.2.1 = nI v) : f_row (R.1.1, f_mS A R) 0 (f_rr R) := by
  obtain ⟨m1, m2, m3, m4⟩ := f_rr_m (R := R) hI.1.1 hI.1.2
  have hd : f_dig (R.1.1, f_mS A R) (f_rr R) := fun k hk => by
    obtain ⟨n1, n2, _⟩ := f_rr_l (R := R) hI.1.1 hI.1.2 hk
    obtain ⟨⟨x, hx, ex⟩, ⟨y, hy, ey⟩, _⟩ := hI.2.2.1 k hk
    exact ⟨⟨x, hx, n1.trans ex⟩, y, hy, n2.trans ey⟩
  refine ⟨⟨f_dig_pos hd, fun i hi => Or.inl (f_rr_n (R := R) hI.1.1 hi).1, m4⟩, hd, fun k hk => Or.inl (f_rr_l (R := R) hI.1.1 hI.1.2 hk).2.2, ?_, fun i hi => ⟨?_, fun _ => (f_rr_n (R := R) hI.1.1 hi).1⟩, 0, Nat.le_refl _, m3, fun i hi hne => absurd (f_rr_n (R := R) hI.1.1 hi).1 hne⟩
  · obtain ⟨v, hv, e⟩ := hm
    exact ⟨v, hv, m1.trans e⟩
  · obtain ⟨_, _, _, n4⟩ := f_rr_n (R := R) hI.1.1 hi
    obtain ⟨s0, _, _⟩ := f_mS_n (A := A) hi
    show ∃ v, v ≤ 9 ∧ f_rr R (67 + i) = nI v ∧ (¬ f_mS A R 0 i = 0 → v = 0)
    rw [n4, s0]
    rcases hI.2.1 i hi with ⟨a, _, _, v, hv, e⟩ | ⟨a, _, _, e⟩ | ⟨a, e, _⟩
    · exact ⟨v, hv, e, fun q => absurd a q⟩
    · exact ⟨0, by omega, e, fun _ => rfl⟩
    · exact ⟨0, by omega, e, fun _ => rfl⟩
end
section
variable {l : Launch} {G : ZG} {mi : Nat → Nat → Int32} {mr : Nat → Nat → Option Nat} {ml : Nat → Nat → Int64} {T : (Nat → Nat × Nat) × Nat × Nat} {Q : ZR} {A : ZA} {B : Nat} {F : Nat → Nat → Int32} {mg : Int32}
theorem PX.rd {f : Nat → Nat → Int32} (hP : PX A mi ml) (h8 : A.s.1.1 ≤ 8 ∧ A.s.1.2 ≤ 9) (e : TF f mi) : PX A f ml := by
  obtain ⟨h1, h2, ⟨h3, h4, p, hp, h5, h6⟩, h7, h9, h10⟩ := hP
  have ec : ∀ c, c ≠ 3 → ¬ (25 ≤ c ∧ c < 45) → f c = mi c := e.1
  refine ⟨MX.cong h1 h8 fun c _ _ => ec c (by omega) (by omega), ?_, ⟨?_, h4, p, hp, ?_, fun j hj => MX.cong (h6 j hj) h8 fun c _ _ => ec c (by omega) (by omega)⟩, fun t ht => ⟨?_, fun q => MX.cong ((h7 t ht).2 q) h8 fun c _ _ => ec c (by omega) (by omega)⟩, ?_, h10⟩
  · rw [e.2 1 (by omega), ec 4 (by omega) (by omega)]; exact h2
  · rw [ec 45 (by omega) (by omega)]; exact h3
  · rw [ec 45 (by omega) (by omega)]; exact h5
  · rw [ec 368 (by omega) (by omega)]; exact (h7 t ht).1
  · rw [ec 369 (by omega) (by omega), ec 370 (by omega) (by omega), ec 371 (by omega) (by omega), ec 372 (by omega) (by omega)]; exact h9
theorem c_fault (hS : SC T mr) (hP : PX A mi ml) (hI : IA A B) (hQ : ∀ f, PX A f ml → (∀ c, 373 ≤ c → f c = mi c) → Q (some (.int (rd_text A.txt A.len F mg).1)) (f, mr, ml, T)) : z_Ok l G m_MP_fault [.ref 2] (mi, mr, ml, T) Q := by
  have s1 := hS.1
  have s25 := hS.t
  refine z_okN cz_61.1 (by rw [cl_61]; exact Nat.le_of_ble_eq_true rfl) cz_61.2 (z_run ck_61 2 bf_61_0 ?_)
  simp (disch := omega) only [e_q0, e_nil, e_cons, e_q, e_qf, e_qt, e_af, z_hd, z_mk1, z_lg, z_s1, z_s2, z_kl, z_en, z_kI, z_fv, z_ic, z_c1, z_sh, z_pop, z_rc, z_tgt, z_tsw, z_lsw, z_nw, z_ac, o_kI, o_kL, o_ldi, o_ldl, o_lda, o_sti, o_sta, o_stl, o_inc, o_b2, o_bz, o_l2, o_lz, o_ls, o_lneg, o_i2l, o_l2i, o_lcmp, o_dup, o_dupx1, o_dup2, o_if, o_if2, o_ifnull, o_get, o_put, o_iald, o_zald, o_aald, o_alen, o_iast, o_zast, o_aast, o_new, o_newa, o_call, o_call1, o_callN, o_obj, o_reti, o_retl, o_ret, o_tsw, o_lsw, va_rf_s, va_rf_n, z_u2_s, z_u2_k, z_u2_f, z_uR_f, z_uL_f, e_ix, e_vp, e_lt, e_le, e_eq, e_lt0, e_eq0, e_b0, e_b1, e_10, e_11, true_or, or_true, false_or, nI_add, z_bi_0, z_bi_1, e_bb, z_uR_s, z_uR_k, z_uL_s, z_uL_k, true_and, and_true, and_self, not_true_eq_false, not_false_eq_true, forall_const, Option.toList, List.cons_append, List.nil_append, List.singleton_append, Nat.reduceAdd, Nat.zero_add, Nat.add_zero, Nat.reduceEqDiff, ↓reduceIte, ite_true, ite_false, reduceCtorEq, Int.cast_ofNat_Int, Int.reduceAdd, Int.reduceToNat, ne_eq, false_imp_iff, true_imp_iff, cl_61, bf_61_0, bo_61_0, s1, s25]
  refine x_readInto (F := F) (mg := mg) hS hP.2.1 fun f f1 _ => ?_
  have w := hQ f (PX.rd hP hI.1.1 f1) fun c hc => f1.1 c (by omega) (by omega)
  simp (disch := omega) only [e_q0, e_nil, e_cons, e_q, e_qf, e_qt, e_af, z_hd, z_mk1, z_lg, z_s1, z_s2, z_kl, z_en, z_kI, z_fv, z_ic, z_c1, z_sh, z_pop, z_rc, z_tgt, z_tsw, z_lsw, z_nw, z_ac, o_kI, o_kL, o_ldi, o_ldl, o_lda, o_sti, o_sta, o_stl, o_inc, o_b2, o_bz, o_l2, o_lz, o_ls, o_lneg, o_i2l, o_l2i, o_lcmp, o_dup, o_dupx1, o_dup2, o_if, o_if2, o_ifnull, o_get, o_put, o_iald, o_zald, o_aald, o_alen, o_iast, o_zast, o_aast, o_new, o_newa, o_call, o_call1, o_callN, o_obj, o_reti, o_retl, o_ret, o_tsw, o_lsw, va_rf_s, va_rf_n, z_u2_s, z_u2_k, z_u2_f, z_uR_f, z_uL_f, e_ix, e_vp, e_lt, e_le, e_eq, e_lt0, e_eq0, e_b0, e_b1, e_10, e_11, true_or, or_true, false_or, nI_add, z_bi_0, z_bi_1, e_bb, z_uR_s, z_uR_k, z_uL_s, z_uL_k, true_and, and_true, and_self, not_true_eq_false, not_false_eq_true, forall_const, Option.toList, List.cons_append, List.nil_append, List.singleton_append, Nat.reduceAdd, Nat.zero_add, Nat.add_zero, Nat.reduceEqDiff, ↓reduceIte, ite_true, ite_false, reduceCtorEq, Int.cast_ofNat_Int, Int.reduceAdd, Int.reduceToNat, ne_eq, false_imp_iff, true_imp_iff, cl_61, bf_61_0, bo_61_0]
  exact w
theorem c_mesh (hS : SC T mr) (hP : PX A mi ml) (hI : IA A B) (hQ : ∀ f, PX (a_mesh A F mg).2 f ml → IA (a_mesh A F mg).2 B → (∀ c, 373 ≤ c → f c = mi c) → Q (some (.int (a_mesh A F mg).1)) (f, mr, ml, T)) : z_Ok l G m_MP_mesh [.ref 2] (mi, mr, ml, T) Q := by
  have s1 := hS.1
  have s5 := hS.n
  have s25 := hS.t
  unfold a_mesh at hQ
  refine z_okN cz_62.1 (by rw [cl_62]; exact Nat.le_of_ble_eq_true rfl) cz_62.2 (z_run ck_62 4 bf_62_0 ?_)
  simp (disch := omega) only [e_q0, e_nil, e_cons, e_q, e_qf, e_qt, e_af, z_hd, z_mk1, z_lg, z_s1, z_s2, z_kl, z_en, z_kI, z_fv, z_ic, z_c1, z_sh, z_pop, z_rc, z_tgt, z_tsw, z_lsw, z_nw, z_ac, o_kI, o_kL, o_ldi, o_ldl, o_lda, o_sti, o_sta, o_stl, o_inc, o_b2, o_bz, o_l2, o_lz, o_ls, o_lneg, o_i2l, o_l2i, o_lcmp, o_dup, o_dupx1, o_dup2, o_if, o_if2, o_ifnull, o_get, o_put, o_iald, o_zald, o_aald, o_alen, o_iast, o_zast, o_aast, o_new, o_newa, o_call, o_call1, o_callN, o_obj, o_reti, o_retl, o_ret, o_tsw, o_lsw, va_rf_s, va_rf_n, z_u2_s, z_u2_k, z_u2_f, z_uR_f, z_uL_f, e_ix, e_vp, e_lt, e_le, e_eq, e_lt0, e_eq0, e_b0, e_b1, e_10, e_11, true_or, or_true, false_or, nI_add, z_bi_0, z_bi_1, e_bb, z_uR_s, z_uR_k, z_uL_s, z_uL_k, true_and, and_true, and_self, not_true_eq_false, not_false_eq_true, forall_const, Option.toList, List.cons_append, List.nil_append, List.singleton_append, Nat.reduceAdd, Nat.zero_add, Nat.add_zero, Nat.reduceEqDiff, ↓reduceIte, ite_true, ite_false, reduceCtorEq, Int.cast_ofNat_Int, Int.reduceAdd, Int.reduceToNat, ne_eq, false_imp_iff, true_imp_iff, cl_62, bf_62_0, bf_62_19, bf_62_39, bf_62_57, bo_62_0, bo_62_19, bo_62_39, bo_62_57, s1, s25]
  refine x_readInto (F := F) (mg := mg) hS hP.2.1 fun f f1 f2 => ?_
  simp (disch := omega) only [e_q0, e_nil, e_cons, e_q, e_qf, e_qt, e_af, z_hd, z_mk1, z_lg, z_s1, z_s2, z_kl, z_en, z_kI, z_fv, z_ic, z_c1, z_sh, z_pop, z_rc, z_tgt, z_tsw, z_lsw, z_nw, z_ac, o_kI, o_kL, o_ldi, o_ldl, o_lda, o_sti, o_sta, o_stl, o_inc, o_b2, o_bz, o_l2, o_lz, o_ls, o_lneg, o_i2l, o_l2i, o_lcmp, o_dup, o_dupx1, o_dup2, o_if, o_if2, o_ifnull, o_get, o_put, o_iald, o_zald, o_aald, o_alen, o_iast, o_zast, o_aast, o_new, o_newa, o_call, o_call1, o_callN, o_obj, o_reti, o_retl, o_ret, o_tsw, o_lsw, va_rf_s, va_rf_n, z_u2_s, z_u2_k, z_u2_f, z_uR_f, z_uL_f, e_ix, e_vp, e_lt, e_le, e_eq, e_lt0, e_eq0, e_b0, e_b1, e_10, e_11, true_or, or_true, false_or, nI_add, z_bi_0, z_bi_1, e_bb, z_uR_s, z_uR_k, z_uL_s, z_uL_k, true_and, and_true, and_self, not_true_eq_false, not_false_eq_true, forall_const, Option.toList, List.cons_append, List.nil_append, List.singleton_append, Nat.reduceAdd, Nat.zero_add, Nat.add_zero, Nat.reduceEqDiff, ↓reduceIte, ite_true, ite_false, reduceCtorEq, Int.cast_ofNat_Int, Int.reduceAdd, Int.reduceToNat, ne_eq, false_imp_iff, true_imp_iff, cl_62, bf_62_0, bf_62_19, bf_62_39, bf_62_57, bo_62_0, bo_62_19, bo_62_39, bo_62_57, s1, s5, s25]
  have hf := PX.rd hP hI.1.1 f1
  refine ⟨fun c => ?_, fun c => ?_⟩
  · obtain ⟨m1, m2⟩ := f2 c
    rw [if_pos c] at hQ
    have hmg := rd_text_mg (F := F) (mg := mg) hP.2.1.2.1 c
    generalize (rd_text A.txt A.len F mg).2 = R at *
    have hX := MX_read (A := A) m1 m2
    have hrow := row_read (A := A) m2 hmg
    have hsok := sok_read (A := A) m2
    refine x_copyMesh (s := (R.1.1, f_mS A R)) (r := f_rr R) hS.2.1.1 hS.2.1.2 hX hsok.1 hrow.2.2.1 (by omega) fun f3 g1 g2 => ?_
    simp (disch := omega) only [e_q0, e_nil, e_cons, e_q, e_qf, e_qt, e_af, z_hd, z_mk1, z_lg, z_s1, z_s2, z_kl, z_en, z_kI, z_fv, z_ic, z_c1, z_sh, z_pop, z_rc, z_tgt, z_tsw, z_lsw, z_nw, z_ac, o_kI, o_kL, o_ldi, o_ldl, o_lda, o_sti, o_sta, o_stl, o_inc, o_b2, o_bz, o_l2, o_lz, o_ls, o_lneg, o_i2l, o_l2i, o_lcmp, o_dup, o_dupx1, o_dup2, o_if, o_if2, o_ifnull, o_get, o_put, o_iald, o_zald, o_aald, o_alen, o_iast, o_zast, o_aast, o_new, o_newa, o_call, o_call1, o_callN, o_obj, o_reti, o_retl, o_ret, o_tsw, o_lsw, va_rf_s, va_rf_n, z_u2_s, z_u2_k, z_u2_f, z_uR_f, z_uL_f, e_ix, e_vp, e_lt, e_le, e_eq, e_lt0, e_eq0, e_b0, e_b1, e_10, e_11, true_or, or_true, false_or, nI_add, z_bi_0, z_bi_1, e_bb, z_uR_s, z_uR_k, z_uL_s, z_uL_k, true_and, and_true, and_self, not_true_eq_false, not_false_eq_true, forall_const, Option.toList, List.cons_append, List.nil_append, List.singleton_append, Nat.reduceAdd, Nat.zero_add, Nat.add_zero, Nat.reduceEqDiff, ↓reduceIte, ite_true, ite_false, reduceCtorEq, Int.cast_ofNat_Int, Int.reduceAdd, Int.reduceToNat, ne_eq, false_imp_iff, true_imp_iff, cl_62, bf_62_0, bf_62_19, bf_62_39, bf_62_57, bo_62_0, bo_62_19, bo_62_39, bo_62_57, s1, s5, s25]
    refine x_clear hS ?_
    simp (disch := omega) only [e_q0, e_nil, e_cons, e_q, e_qf, e_qt, e_af, z_hd, z_mk1, z_lg, z_s1, z_s2, z_kl, z_en, z_kI, z_fv, z_ic, z_c1, z_sh, z_pop, z_rc, z_tgt, z_tsw, z_lsw, z_nw, z_ac, o_kI, o_kL, o_ldi, o_ldl, o_lda, o_sti, o_sta, o_stl, o_inc, o_b2, o_bz, o_l2, o_lz, o_ls, o_lneg, o_i2l, o_l2i, o_lcmp, o_dup, o_dupx1, o_dup2, o_if, o_if2, o_ifnull, o_get, o_put, o_iald, o_zald, o_aald, o_alen, o_iast, o_zast, o_aast, o_new, o_newa, o_call, o_call1, o_callN, o_obj, o_reti, o_retl, o_ret, o_tsw, o_lsw, va_rf_s, va_rf_n, z_u2_s, z_u2_k, z_u2_f, z_uR_f, z_uL_f, e_ix, e_vp, e_lt, e_le, e_eq, e_lt0, e_eq0, e_b0, e_b1, e_10, e_11, true_or, or_true, false_or, nI_add, z_bi_0, z_bi_1, e_bb, z_uR_s, z_uR_k, z_uL_s, z_uL_k, true_and, and_true, and_self, not_true_eq_false, not_false_eq_true, forall_const, Option.toList, List.cons_append, List.nil_append, List.singleton_append, Nat.reduceAdd, Nat.zero_add, Nat.add_zero, Nat.reduceEqDiff, ↓reduceIte, ite_true, ite_false, reduceCtorEq, Int.cast_ofNat_Int, Int.reduceAdd, Int.reduceToNat, ne_eq, false_imp_iff, true_imp_iff, cl_62, bf_62_0, bf_62_19, bf_62_39, bf_62_57, bo_62_0, bo_62_19, bo_62_39, bo_62_57, s1, s5, s25]
    refine z_for (P := fun k g => (∀ c, c ≠ 368 → g c = z_u2 f3 45 2 (nI 0) c) → (∀ t, t < k → g 368 t = nI 0) → z_W l G 62 (T.2.1, T.2.2) (fun v M' => Q v M' ∧ M'.2.2.2 = T) 39 [some (.ref 2), some (.int (nI k))] [] (g, mr, ml, T)) 2 (fun g w1 w2 => ?_) (fun k hk ih g w1 w2 => ?_) 0 (by omega) _ (fun _ _ => rfl) (fun t ht => absurd ht (Nat.not_lt_zero _))
    · have n5 : g 5 2 = nI R.1.1.1 := by rw [w1 5 (by omega), z_u2_f (by omega)]; exact g2.1.1
      refine z_run ck_62 4 bf_62_39 ?_
      simp (disch := omega) only [e_q0, e_nil, e_cons, e_q, e_qf, e_qt, e_af, z_hd, z_mk1, z_lg, z_s1, z_s2, z_kl, z_en, z_kI, z_fv, z_ic, z_c1, z_sh, z_pop, z_rc, z_tgt, z_tsw, z_lsw, z_nw, z_ac, o_kI, o_kL, o_ldi, o_ldl, o_lda, o_sti, o_sta, o_stl, o_inc, o_b2, o_bz, o_l2, o_lz, o_ls, o_lneg, o_i2l, o_l2i, o_lcmp, o_dup, o_dupx1, o_dup2, o_if, o_if2, o_ifnull, o_get, o_put, o_iald, o_zald, o_aald, o_alen, o_iast, o_zast, o_aast, o_new, o_newa, o_call, o_call1, o_callN, o_obj, o_reti, o_retl, o_ret, o_tsw, o_lsw, va_rf_s, va_rf_n, z_u2_s, z_u2_k, z_u2_f, z_uR_f, z_uL_f, e_ix, e_vp, e_lt, e_le, e_eq, e_lt0, e_eq0, e_b0, e_b1, e_10, e_11, true_or, or_true, false_or, nI_add, z_bi_0, z_bi_1, e_bb, z_uR_s, z_uR_k, z_uL_s, z_uL_k, true_and, and_true, and_self, not_true_eq_false, not_false_eq_true, forall_const, Option.toList, List.cons_append, List.nil_append, List.singleton_append, Nat.reduceAdd, Nat.zero_add, Nat.add_zero, Nat.reduceEqDiff, ↓reduceIte, ite_true, ite_false, reduceCtorEq, Int.cast_ofNat_Int, Int.reduceAdd, Int.reduceToNat, ne_eq, false_imp_iff, true_imp_iff, cl_62, bf_62_0, bf_62_19, bf_62_39, bf_62_57, bo_62_0, bo_62_19, bo_62_39, bo_62_57, s1, s5, n5, Nat.le_refl]
      have fc : ∀ c, c ≠ 3 → c ≠ 45 → c ≠ 368 → ¬ (5 ≤ c ∧ c < 45) → g c = mi c := fun c c1 c2 c3 c4 => by rw [w1 c c3, z_u2_f c2, g1 c (by omega), f1.1 c c1 (by omega)]
      refine hQ g ?_ ⟨hsok, f_row_mono hrow (Nat.zero_le _), fun j hj => absurd hj (Nat.not_lt_zero _), fun t ht => ⟨Or.inl rfl, fun q => absurd q (show ¬ nI 0 = nI 1 by decide)⟩, hI.2.2.2.2⟩ fun c hc => fc c (by omega) (by omega) (by omega) (by omega)
      obtain ⟨h1, h2, ⟨h3, h4, p, hp, h5, h6⟩, h7, h9, h10⟩ := id hP
      refine ⟨MX.cong g2 hsok.1 fun c _ _ => by rw [w1 c (by omega), z_u2_f (by omega)], ?_, ⟨?_, Nat.zero_le _, p, hp, ?_, fun j hj => absurd hj (Nat.not_lt_zero _)⟩, fun t ht => ⟨w2 t ht, fun q => absurd q (show ¬ nI 0 = nI 1 by decide)⟩, ?_, h10⟩
      · rw [w1 3 (by omega), w1 4 (by omega), z_u2_f (by omega), z_u2_f (by omega), g1 3 (by omega), g1 4 (by omega), f1.2 1 (by omega), f1.1 4 (by omega) (by omega)]; exact h2
      · rw [w1 45 (by omega), z_u2_s]; rfl
      · rw [w1 45 (by omega), z_u2_k (by omega), g1 45 (by omega), f1.1 45 (by omega) (by omega)]; exact h5
      · rw [fc 369 (by omega) (by omega) (by omega) (by omega), fc 370 (by omega) (by omega) (by omega) (by omega), fc 371 (by omega) (by omega) (by omega) (by omega), fc 372 (by omega) (by omega) (by omega) (by omega)]; exact h9
    · have hk' := Nat.not_le.mpr hk
      refine z_run ck_62 4 bf_62_39 ?_
      simp (disch := omega) only [e_q0, e_nil, e_cons, e_q, e_qf, e_qt, e_af, z_hd, z_mk1, z_lg, z_s1, z_s2, z_kl, z_en, z_kI, z_fv, z_ic, z_c1, z_sh, z_pop, z_rc, z_tgt, z_tsw, z_lsw, z_nw, z_ac, o_kI, o_kL, o_ldi, o_ldl, o_lda, o_sti, o_sta, o_stl, o_inc, o_b2, o_bz, o_l2, o_lz, o_ls, o_lneg, o_i2l, o_l2i, o_lcmp, o_dup, o_dupx1, o_dup2, o_if, o_if2, o_ifnull, o_get, o_put, o_iald, o_zald, o_aald, o_alen, o_iast, o_zast, o_aast, o_new, o_newa, o_call, o_call1, o_callN, o_obj, o_reti, o_retl, o_ret, o_tsw, o_lsw, va_rf_s, va_rf_n, z_u2_s, z_u2_k, z_u2_f, z_uR_f, z_uL_f, e_ix, e_vp, e_lt, e_le, e_eq, e_lt0, e_eq0, e_b0, e_b1, e_10, e_11, true_or, or_true, false_or, nI_add, z_bi_0, z_bi_1, e_bb, z_uR_s, z_uR_k, z_uL_s, z_uL_k, true_and, and_true, and_self, not_true_eq_false, not_false_eq_true, forall_const, Option.toList, List.cons_append, List.nil_append, List.singleton_append, Nat.reduceAdd, Nat.zero_add, Nat.add_zero, Nat.reduceEqDiff, ↓reduceIte, ite_true, ite_false, reduceCtorEq, Int.cast_ofNat_Int, Int.reduceAdd, Int.reduceToNat, ne_eq, false_imp_iff, true_imp_iff, cl_62, bf_62_0, bf_62_19, bf_62_39, bf_62_57, bo_62_0, bo_62_19, bo_62_39, bo_62_57, s1, s5, hk']
      refine ih _ (fun c hc => by rw [z_u2_f hc]; exact w1 c hc) fun t ht => ?_
      by_cases q : t = k
      · rw [q, z_u2_s]
      · rw [z_u2_k q]; exact w2 t (by omega)
  · rw [if_neg c] at hQ
    exact hQ f hf hI fun c hc => f1.1 c (by omega) (by omega)
end
