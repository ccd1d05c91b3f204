/-- a node, a link of the class, as read -/
abbrev ND (g : ZW) (F : Nat → Nat → Int32) (i : Nat) : Prop := (g 0 = F 0 i ∧ g 1 = F 3 i ∧ g 2 = F 1 i ∧ g 3 = F 2 i) ∧ g 4 = z_ng 9 ∧ g 5 = z_ng 9 ∧ g 6 = z_ng 9 ∧ g 7 = nI 0 ∧ g 8 = nI 9999
abbrev LD (g : ZW) (F : Nat → Nat → Int32) (k : Nat) : Prop := g 0 = F 4 k ∧ g 1 = F 5 k ∧ g 2 = F 6 k ∧ g 3 = F 7 k ∧ g 4 = F 8 k ∧ g 5 = (nI 100 * F 8 k + (nI 10 - F 6 k) * (nI 10 - F 7 k) - nI 1) / ((nI 10 - F 6 k) * (nI 10 - F 7 k)) ∧ g 6 = nI 0
abbrev RM (f : Nat → Nat → Int32) (R : ZRd) : Prop := (f 25 2 = nI R.1.1.1 ∧ f 25 3 = nI R.1.1.2 ∧ f 25 4 = R.2.1 ∧ f 25 5 = nI 0 ∧ f 25 6 = nI 0) ∧ (∀ i, i < R.1.1.1 → ND (f (25 + 2 + i)) R.1.2 i) ∧ ∀ k, k < R.1.1.2 → LD (f (25 + 11 + k)) R.1.2 k
def rd_nk (F : Nat → Nat → Int32) (i : Nat) : Prop := (F 0 i = nI 0 ∧ F 1 i = nI 0 ∧ F 2 i = nI 0 ∧ ∃ v, v ≤ 9 ∧ F 3 i = nI v) ∨ (F 0 i = nI 1 ∧ F 1 i = nI 0 ∧ F 2 i = nI 0 ∧ F 3 i = nI 0) ∨ (F 0 i = nI 2 ∧ F 3 i = nI 0 ∧ ∃ c p, 1 ≤ c ∧ c ≤ 9 ∧ p < c ∧ F 1 i = nI c ∧ F 2 i = nI p)
def rd_lk (F : Nat → Nat → Int32) (k : Nat) : Prop := (∃ x, x ≤ 9 ∧ F 6 k = nI x) ∧ (∃ y, y ≤ 9 ∧ F 7 k = nI y) ∧ ∃ v, 1 ≤ v ∧ v ≤ 9 ∧ F 8 k = nI v
/-- what has been read is in order -/
def rd_in (F : Nat → Nat → Int32) (n l : Nat) : Prop := (n ≤ 8 ∧ l ≤ 9) ∧ (∀ i, i < n → rd_nk F i) ∧ (∀ k, k < l → rd_lk F k) ∧ x_lv F n l
/-- the text, and how far the reader came -/
abbrev TX (txt : ZW) (len : Nat) (f : Nat → Nat → Int32) (k : Nat) : Prop := (f 3 1 = nI len ∧ f 3 2 = nI k ∧ ∀ j, j < len → f 4 j = txt j) ∧ k ≤ len ∧ len ≤ 100
abbrev TF (f mi : Nat → Nat → Int32) : Prop := (∀ c, c ≠ 3 → ¬ (25 ≤ c ∧ c < 45) → f c = mi c) ∧ ∀ j, j ≠ 2 → f 3 j = mi 3 j
abbrev rd_g (txt : ZW) (len k : Nat) (R : ZRd) : Int32 × ZRd := rd_go txt len (len - k) k R
theorem rd_g_ok {txt : ZW} {len k : Nat} {R R' : ZRd} (hk : k < len) (h : rd_take R (txt k) = (true, R')) : rd_g txt len k R = rd_g txt len (k + 1) R' := by
  unfold rd_g
  rw [show len - k = len - (k + 1) + 1 by omega]
  show (if (rd_take R (txt k)).1 = true then rd_go txt len (len - (k + 1)) (k + 1) (rd_take R (txt k)).2 else (nI k, (rd_take R (txt k)).2)) = _
  rw [h]
  exact if_pos rfl
theorem rd_g_no {txt : ZW} {len k : Nat} {R : ZRd} (hk : k ≤ len) (hp : k < len ∨ ¬ R.2.2.2 = 0) (h : k < len → (rd_take R (txt k)).1 = false) : (rd_g txt len k R).1 = nI k := by
  unfold rd_g
  by_cases c : k < len
  · rw [show len - k = len - (k + 1) + 1 by omega]
    show (if (rd_take R (txt k)).1 = true then rd_go txt len (len - (k + 1)) (k + 1) (rd_take R (txt k)).2 else (nI k, (rd_take R (txt k)).2)).1 = _
    rw [h c]
    rfl
  · rw [show len - k = 0 by omega]
    show (if R.2.2.2 = 0 then z_ng 9 else nI len) = nI k
    rw [if_neg (hp.resolve_left c), show k = len by omega]
theorem rd_in_node {F F' : Nat → Nat → Int32} {n l : Nat} (h : rd_in F n l) (hn : n < 8) (e : ∀ i j, (i < 4 → j ≠ n) → F' i j = F i j) (hk : rd_nk F' n) : rd_in F' (n + 1) l := by
  obtain ⟨h1, h2, h3, h4⟩ := h
  have el : ∀ p q l, f_lkd F' p q l = f_lkd F p q l := fun p q l => by
    induction l with
    | zero => rfl
    | succ l ih => unfold f_lkd; rw [ih, e 4 l (by omega), e 5 l (by omega)]
  refine ⟨⟨by omega, h1.2⟩, fun i hi => ?_, fun k hk => ?_, fun k hk => ?_⟩
  · by_cases q : i = n
    · subst q; exact hk
    · have w := h2 i (by omega)
      unfold rd_nk at *
      rw [e 0 i (by omega), e 1 i (by omega), e 2 i (by omega), e 3 i (by omega)]
      exact w
  · have w := h3 k hk
    unfold rd_lk at *
    rw [e 6 k (by omega), e 7 k (by omega), e 8 k (by omega)]
    exact w
  · obtain ⟨p, q, a1, a2, a3, a4, a5, a6⟩ := h4 k hk
    exact ⟨p, q, by omega, by omega, a3, by rw [e 4 k (by omega)]; exact a4, by rw [e 5 k (by omega)]; exact a5, by rw [el]; exact a6⟩
theorem f_lkd_c {F F' : Nat → Nat → Int32} {p q : Nat} : ∀ l, (∀ j, j < l → F' 4 j = F 4 j ∧ F' 5 j = F 5 j) → f_lkd F' p q l = f_lkd F p q l
  | 0, _ => rfl
  | l + 1, h => by
    unfold f_lkd
    rw [f_lkd_c l (fun j hj => h j (by omega)), (h l (by omega)).1, (h l (by omega)).2]
theorem rd_in_link {F F' : Nat → Nat → Int32} {n l p q : Nat} (h : rd_in F n l) (hl : l < 9) (e : ∀ i j, (4 ≤ i → j ≠ l) → F' i j = F i j) (hk : rd_lk F' l) (hp : p < n) (hq : q < n) (hpq : p ≠ q) (e4 : F' 4 l = nI p) (e5 : F' 5 l = nI q) (h0 : f_lkd F p q l = false) : rd_in F' n (l + 1) := by
  obtain ⟨h1, h2, h3, h4⟩ := h
  have el : ∀ p q k, k ≤ l → f_lkd F' p q k = f_lkd F p q k := fun p q k hk => f_lkd_c k fun j hj => ⟨e 4 j (by omega), e 5 j (by omega)⟩
  refine ⟨⟨h1.1, by omega⟩, fun i hi => ?_, fun k hk' => ?_, fun k hk' => ?_⟩
  · have w := h2 i hi
    unfold rd_nk at *
    rw [e 0 i (by omega), e 1 i (by omega), e 2 i (by omega), e 3 i (by omega)]
    exact w
  · by_cases c : k = l
    · subst c; exact hk
    · have w := h3 k (by omega)
      unfold rd_lk at *
      rw [e 6 k (by omega), e 7 k (by omega), e 8 k (by omega)]
      exact w
  · by_cases c : k = l
    · subst c; exact ⟨p, q, hp, hq, hpq, e4, e5, by rw [el _ _ _ (by omega)]; exact h0⟩
    · obtain ⟨p, q, a1, a2, a3, a4, a5, a6⟩ := h4 k (by omega)
      exact ⟨p, q, a1, a2, a3, by rw [e 4 k (by omega)]; exact a4, by rw [e 5 k (by omega)]; exact a5, by rw [el _ _ _ (by omega)]; exact a6⟩
section
variable {l : Launch} {G : ZG} {mi : Nat → Nat → Int32} {mr : Nat → Nat → Option Nat} {ml : Nat → Nat → Int64} {T : (Nat → Nat × Nat) × Nat × Nat} {Q : ZR} {txt : ZW} {len k : Nat}
theorem x_letterHere (hS : SC T mr) (hT : TX txt len mi k) (h : Q (some (.int (if k < len then txt k else z_ng 1))) (mi, mr, ml, T)) : z_Ok l G m_Text_letterHere [.ref 3] (mi, mr, ml, T) Q := by
  have s1 := hS.1
  obtain ⟨⟨h1, h2, h3⟩, h4, h5⟩ := hT
  refine z_okN cz_55.1 (by rw [cl_55]; exact Nat.le_of_ble_eq_true rfl) cz_55.2 (z_run ck_55 4 bf_55_0 ?_)
  simp (disch := omega) only [e_q0, e_nil, e_cons, e_q, e_qf, e_qt, e_af, z_hd, z_mk1, z_lg, z_s1, z_s2, z_kl, z_en, z_kI, z_fv, z_ic, z_c1, z_sh, z_pop, z_rc, z_tgt, z_tsw, z_lsw, z_nw, z_ac, o_kI, o_kL, o_ldi, o_ldl, o_lda, o_sti, o_sta, o_stl, o_inc, o_b2, o_bz, o_l2, o_lz, o_ls, o_lneg, o_i2l, o_l2i, o_lcmp, o_dup, o_dupx1, o_dup2, o_if, o_if2, o_ifnull, o_get, o_put, o_iald, o_zald, o_aald, o_alen, o_iast, o_zast, o_aast, o_new, o_newa, o_call, o_call1, o_callN, o_obj, o_reti, o_retl, o_ret, o_tsw, o_lsw, va_rf_s, va_rf_n, z_u2_s, z_u2_k, z_u2_f, z_uR_f, z_uL_f, e_ix, e_vp, e_lt, e_le, e_eq, e_lt0, e_eq0, e_b0, e_b1, e_10, e_11, true_or, or_true, false_or, nI_add, z_bi_0, z_bi_1, e_bb, z_uR_s, z_uR_k, z_uL_s, z_uL_k, true_and, and_true, and_self, not_true_eq_false, not_false_eq_true, forall_const, Option.toList, List.cons_append, List.nil_append, List.singleton_append, Nat.reduceAdd, Nat.zero_add, Nat.add_zero, Nat.reduceEqDiff, ↓reduceIte, ite_true, ite_false, reduceCtorEq, Int.cast_ofNat_Int, Int.reduceAdd, Int.reduceToNat, ne_eq, false_imp_iff, true_imp_iff, cl_55, bf_55_0, bf_55_32, bf_55_33, bo_55_0, bo_55_32, bo_55_33, s1, h1, h2]
  refine ⟨fun c => ?_, fun c => ⟨fun c2 => absurd c2 (by omega), fun c2 => ⟨?_, ?_⟩⟩⟩
  · rw [if_neg (by omega)] at h; exact h
  · rw [e_vp (by omega) (by omega)]; trivial
  · rw [if_pos (by omega)] at h
    rw [h3 k (by omega)]; exact h
theorem x_digitHere {lo hi : Nat} (hS : SC T mr) (hT : TX txt len mi k) (hlo : lo ≤ 9) (hhi : hi ≤ 9)
    (h1 : ∀ v, k < len → lo ≤ v → v ≤ hi → txt k - nI 48 = nI v → Q (some (.int (nI v))) (mi, mr, ml, T)) (h0 : (k < len → f_in (txt k - nI 48) lo hi = false) → Q (some (.int (z_ng 1))) (mi, mr, ml, T)) : z_Ok l G m_Text_digitHere [.ref 3, .int (nI lo), .int (nI hi)] (mi, mr, ml, T) Q := by
  have s1 := hS.1
  refine z_okN cz_56.1 (by rw [cl_56]; exact Nat.le_of_ble_eq_true rfl) cz_56.2 (z_run ck_56 4 bf_56_0 ?_)
  simp (disch := omega) only [e_q0, e_nil, e_cons, e_q, e_qf, e_qt, e_af, z_hd, z_mk1, z_lg, z_s1, z_s2, z_kl, z_en, z_kI, z_fv, z_ic, z_c1, z_sh, z_pop, z_rc, z_tgt, z_tsw, z_lsw, z_nw, z_ac, o_kI, o_kL, o_ldi, o_ldl, o_lda, o_sti, o_sta, o_stl, o_inc, o_b2, o_bz, o_l2, o_lz, o_ls, o_lneg, o_i2l, o_l2i, o_lcmp, o_dup, o_dupx1, o_dup2, o_if, o_if2, o_ifnull, o_get, o_put, o_iald, o_zald, o_aald, o_alen, o_iast, o_zast, o_aast, o_new, o_newa, o_call, o_call1, o_callN, o_obj, o_reti, o_retl, o_ret, o_tsw, o_lsw, va_rf_s, va_rf_n, z_u2_s, z_u2_k, z_u2_f, z_uR_f, z_uL_f, e_ix, e_vp, e_lt, e_le, e_eq, e_lt0, e_eq0, e_b0, e_b1, e_10, e_11, true_or, or_true, false_or, nI_add, z_bi_0, z_bi_1, e_bb, z_uR_s, z_uR_k, z_uL_s, z_uL_k, true_and, and_true, and_self, not_true_eq_false, not_false_eq_true, forall_const, Option.toList, List.cons_append, List.nil_append, List.singleton_append, Nat.reduceAdd, Nat.zero_add, Nat.add_zero, Nat.reduceEqDiff, ↓reduceIte, ite_true, ite_false, reduceCtorEq, Int.cast_ofNat_Int, Int.reduceAdd, Int.reduceToNat, ne_eq, false_imp_iff, true_imp_iff, cl_56, bf_56_0, bf_56_22, bf_56_23, bo_56_0, bo_56_22, bo_56_23, s1]
  refine x_letterHere hS hT ?_
  simp (disch := omega) only [e_q0, e_nil, e_cons, e_q, e_qf, e_qt, e_af, z_hd, z_mk1, z_lg, z_s1, z_s2, z_kl, z_en, z_kI, z_fv, z_ic, z_c1, z_sh, z_pop, z_rc, z_tgt, z_tsw, z_lsw, z_nw, z_ac, o_kI, o_kL, o_ldi, o_ldl, o_lda, o_sti, o_sta, o_stl, o_inc, o_b2, o_bz, o_l2, o_lz, o_ls, o_lneg, o_i2l, o_l2i, o_lcmp, o_dup, o_dupx1, o_dup2, o_if, o_if2, o_ifnull, o_get, o_put, o_iald, o_zald, o_aald, o_alen, o_iast, o_zast, o_aast, o_new, o_newa, o_call, o_call1, o_callN, o_obj, o_reti, o_retl, o_ret, o_tsw, o_lsw, va_rf_s, va_rf_n, z_u2_s, z_u2_k, z_u2_f, z_uR_f, z_uL_f, e_ix, e_vp, e_lt, e_le, e_eq, e_lt0, e_eq0, e_b0, e_b1, e_10, e_11, true_or, or_true, false_or, nI_add, z_bi_0, z_bi_1, e_bb, z_uR_s, z_uR_k, z_uL_s, z_uL_k, true_and, and_true, and_self, not_true_eq_false, not_false_eq_true, forall_const, Option.toList, List.cons_append, List.nil_append, List.singleton_append, Nat.reduceAdd, Nat.zero_add, Nat.add_zero, Nat.reduceEqDiff, ↓reduceIte, ite_true, ite_false, reduceCtorEq, Int.cast_ofNat_Int, Int.reduceAdd, Int.reduceToNat, ne_eq, false_imp_iff, true_imp_iff, cl_56, bf_56_0, bf_56_22, bf_56_23, bo_56_0, bo_56_22, bo_56_23, s1]
  by_cases c : k < len
  · rw [if_pos c]
    cases q : f_in (txt k - nI 48) lo hi with
    | true =>
      obtain ⟨v, a1, a2, a3⟩ := f_in_t (by omega) (by omega) q
      have w := h1 v c a1 a2 a3
      rw [a3]
      refine ⟨fun z => absurd z ?_, fun _ => ⟨fun z => absurd z ?_, fun _ => w⟩⟩
      · rw [e_lt (by omega) (by omega)]; omega
      · rw [e_lt (by omega) (by omega)]; omega
    | false =>
      have w := h0 fun _ => q
      refine ⟨fun _ => w, fun z1 => ⟨fun _ => w, fun z2 => ?_⟩⟩
      exact absurd (f_in_f q) (fun z => z.elim z1 z2)
  · rw [if_neg c]
    have w := h0 fun z => absurd z c
    refine ⟨fun _ => w, fun z1 => absurd ?_ z1⟩
    have e : ∀ lo, lo < 10 → z_ng 1 - nI 48 < nI lo := by decide
    exact e lo (by omega)
theorem x_takeDigit {lo hi : Nat} (hS : SC T mr) (hT : TX txt len mi k) (hlo : lo ≤ 9) (hhi : hi ≤ 9)
    (h1 : ∀ v, k < len → lo ≤ v → v ≤ hi → txt k - nI 48 = nI v → Q (some (.int (nI v))) (z_u2 mi 3 2 (nI (k + 1)), mr, ml, T)) (h0 : (k < len → f_in (txt k - nI 48) lo hi = false) → Q (some (.int (z_ng 1))) (mi, mr, ml, T)) : z_Ok l G m_Text_takeDigit [.ref 3, .int (nI lo), .int (nI hi)] (mi, mr, ml, T) Q := by
  have s1 := hS.1
  have h2 := hT.1.2.1
  have hk := hT.2
  refine z_okN cz_57.1 (by rw [cl_57]; exact Nat.le_of_ble_eq_true rfl) cz_57.2 (z_run ck_57 3 bf_57_0 ?_)
  simp (disch := omega) only [e_q0, e_nil, e_cons, e_q, e_qf, e_qt, e_af, z_hd, z_mk1, z_lg, z_s1, z_s2, z_kl, z_en, z_kI, z_fv, z_ic, z_c1, z_sh, z_pop, z_rc, z_tgt, z_tsw, z_lsw, z_nw, z_ac, o_kI, o_kL, o_ldi, o_ldl, o_lda, o_sti, o_sta, o_stl, o_inc, o_b2, o_bz, o_l2, o_lz, o_ls, o_lneg, o_i2l, o_l2i, o_lcmp, o_dup, o_dupx1, o_dup2, o_if, o_if2, o_ifnull, o_get, o_put, o_iald, o_zald, o_aald, o_alen, o_iast, o_zast, o_aast, o_new, o_newa, o_call, o_call1, o_callN, o_obj, o_reti, o_retl, o_ret, o_tsw, o_lsw, va_rf_s, va_rf_n, z_u2_s, z_u2_k, z_u2_f, z_uR_f, z_uL_f, e_ix, e_vp, e_lt, e_le, e_eq, e_lt0, e_eq0, e_b0, e_b1, e_10, e_11, true_or, or_true, false_or, nI_add, z_bi_0, z_bi_1, e_bb, z_uR_s, z_uR_k, z_uL_s, z_uL_k, true_and, and_true, and_self, not_true_eq_false, not_false_eq_true, forall_const, Option.toList, List.cons_append, List.nil_append, List.singleton_append, Nat.reduceAdd, Nat.zero_add, Nat.add_zero, Nat.reduceEqDiff, ↓reduceIte, ite_true, ite_false, reduceCtorEq, Int.cast_ofNat_Int, Int.reduceAdd, Int.reduceToNat, ne_eq, false_imp_iff, true_imp_iff, cl_57, bf_57_0, bf_57_21, bo_57_0, bo_57_21, s1]
  refine x_digitHere hS hT hlo hhi (fun v g1 g2 g3 g4 => ?_) (fun g => ?_)
  · simp (disch := omega) only [e_q0, e_nil, e_cons, e_q, e_qf, e_qt, e_af, z_hd, z_mk1, z_lg, z_s1, z_s2, z_kl, z_en, z_kI, z_fv, z_ic, z_c1, z_sh, z_pop, z_rc, z_tgt, z_tsw, z_lsw, z_nw, z_ac, o_kI, o_kL, o_ldi, o_ldl, o_lda, o_sti, o_sta, o_stl, o_inc, o_b2, o_bz, o_l2, o_lz, o_ls, o_lneg, o_i2l, o_l2i, o_lcmp, o_dup, o_dupx1, o_dup2, o_if, o_if2, o_ifnull, o_get, o_put, o_iald, o_zald, o_aald, o_alen, o_iast, o_zast, o_aast, o_new, o_newa, o_call, o_call1, o_callN, o_obj, o_reti, o_retl, o_ret, o_tsw, o_lsw, va_rf_s, va_rf_n, z_u2_s, z_u2_k, z_u2_f, z_uR_f, z_uL_f, e_ix, e_vp, e_lt, e_le, e_eq, e_lt0, e_eq0, e_b0, e_b1, e_10, e_11, true_or, or_true, false_or, nI_add, z_bi_0, z_bi_1, e_bb, z_uR_s, z_uR_k, z_uL_s, z_uL_k, true_and, and_true, and_self, not_true_eq_false, not_false_eq_true, forall_const, Option.toList, List.cons_append, List.nil_append, List.singleton_append, Nat.reduceAdd, Nat.zero_add, Nat.add_zero, Nat.reduceEqDiff, ↓reduceIte, ite_true, ite_false, reduceCtorEq, Int.cast_ofNat_Int, Int.reduceAdd, Int.reduceToNat, ne_eq, false_imp_iff, true_imp_iff, cl_57, bf_57_0, bf_57_21, bo_57_0, bo_57_21, s1, h2, e_ge0]
    exact h1 v g1 g2 g3 g4
  · simp (disch := omega) only [e_q0, e_nil, e_cons, e_q, e_qf, e_qt, e_af, z_hd, z_mk1, z_lg, z_s1, z_s2, z_kl, z_en, z_kI, z_fv, z_ic, z_c1, z_sh, z_pop, z_rc, z_tgt, z_tsw, z_lsw, z_nw, z_ac, o_kI, o_kL, o_ldi, o_ldl, o_lda, o_sti, o_sta, o_stl, o_inc, o_b2, o_bz, o_l2, o_lz, o_ls, o_lneg, o_i2l, o_l2i, o_lcmp, o_dup, o_dupx1, o_dup2, o_if, o_if2, o_ifnull, o_get, o_put, o_iald, o_zald, o_aald, o_alen, o_iast, o_zast, o_aast, o_new, o_newa, o_call, o_call1, o_callN, o_obj, o_reti, o_retl, o_ret, o_tsw, o_lsw, va_rf_s, va_rf_n, z_u2_s, z_u2_k, z_u2_f, z_uR_f, z_uL_f, e_ix, e_vp, e_lt, e_le, e_eq, e_lt0, e_eq0, e_b0, e_b1, e_10, e_11, true_or, or_true, false_or, nI_add, z_bi_0, z_bi_1, e_bb, z_uR_s, z_uR_k, z_uL_s, z_uL_k, true_and, and_true, and_self, not_true_eq_false, not_false_eq_true, forall_const, Option.toList, List.cons_append, List.nil_append, List.singleton_append, Nat.reduceAdd, Nat.zero_add, Nat.add_zero, Nat.reduceEqDiff, ↓reduceIte, ite_true, ite_false, reduceCtorEq, Int.cast_ofNat_Int, Int.reduceAdd, Int.reduceToNat, ne_eq, false_imp_iff, true_imp_iff, cl_57, bf_57_0, bf_57_21, bo_57_0, bo_57_21, s1, h2]
    exact ⟨fun _ => h0 g, fun q => absurd (by decide) q⟩
theorem x_resetNode {N : Nat} {kd : Int32} (hN : T.1 N = (1, 3)) (h : ∀ f, (∀ c, c ≠ N → f c = mi c) → f N 0 = kd → f N 1 = nI 0 → f N 2 = nI 0 → f N 3 = nI 0 → (f N 4 = z_ng 9 ∧ f N 5 = z_ng 9 ∧ f N 6 = z_ng 9 ∧ f N 7 = nI 0 ∧ f N 8 = nI 9999) → Q none (f, mr, ml, T)) : z_Ok l G m_Node_reset [.ref N, .int kd] (mi, mr, ml, T) Q := by
  refine z_okN cz_33.1 (by rw [cl_33]; exact Nat.le_of_ble_eq_true rfl) cz_33.2 (z_run ck_33 2 bf_33_0 ?_)
  simp (disch := omega) only [e_q0, e_nil, e_cons, e_q, e_qf, e_qt, e_af, z_hd, z_mk1, z_lg, z_s1, z_s2, z_kl, z_en, z_kI, z_fv, z_ic, z_c1, z_sh, z_pop, z_rc, z_tgt, z_tsw, z_lsw, z_nw, z_ac, o_kI, o_kL, o_ldi, o_ldl, o_lda, o_sti, o_sta, o_stl, o_inc, o_b2, o_bz, o_l2, o_lz, o_ls, o_lneg, o_i2l, o_l2i, o_lcmp, o_dup, o_dupx1, o_dup2, o_if, o_if2, o_ifnull, o_get, o_put, o_iald, o_zald, o_aald, o_alen, o_iast, o_zast, o_aast, o_new, o_newa, o_call, o_call1, o_callN, o_obj, o_reti, o_retl, o_ret, o_tsw, o_lsw, va_rf_s, va_rf_n, z_u2_s, z_u2_k, z_u2_f, z_uR_f, z_uL_f, e_ix, e_vp, e_lt, e_le, e_eq, e_lt0, e_eq0, e_b0, e_b1, e_10, e_11, true_or, or_true, false_or, nI_add, z_bi_0, z_bi_1, e_bb, z_uR_s, z_uR_k, z_uL_s, z_uL_k, true_and, and_true, and_self, not_true_eq_false, not_false_eq_true, forall_const, Option.toList, List.cons_append, List.nil_append, List.singleton_append, Nat.reduceAdd, Nat.zero_add, Nat.add_zero, Nat.reduceEqDiff, ↓reduceIte, ite_true, ite_false, reduceCtorEq, Int.cast_ofNat_Int, Int.reduceAdd, Int.reduceToNat, ne_eq, false_imp_iff, true_imp_iff, cl_33, bf_33_0, bo_33_0, hN]
  refine x_dropParent hN ?_
  simp (disch := omega) only [e_q0, e_nil, e_cons, e_q, e_qf, e_qt, e_af, z_hd, z_mk1, z_lg, z_s1, z_s2, z_kl, z_en, z_kI, z_fv, z_ic, z_c1, z_sh, z_pop, z_rc, z_tgt, z_tsw, z_lsw, z_nw, z_ac, o_kI, o_kL, o_ldi, o_ldl, o_lda, o_sti, o_sta, o_stl, o_inc, o_b2, o_bz, o_l2, o_lz, o_ls, o_lneg, o_i2l, o_l2i, o_lcmp, o_dup, o_dupx1, o_dup2, o_if, o_if2, o_ifnull, o_get, o_put, o_iald, o_zald, o_aald, o_alen, o_iast, o_zast, o_aast, o_new, o_newa, o_call, o_call1, o_callN, o_obj, o_reti, o_retl, o_ret, o_tsw, o_lsw, va_rf_s, va_rf_n, z_u2_s, z_u2_k, z_u2_f, z_uR_f, z_uL_f, e_ix, e_vp, e_lt, e_le, e_eq, e_lt0, e_eq0, e_b0, e_b1, e_10, e_11, true_or, or_true, false_or, nI_add, z_bi_0, z_bi_1, e_bb, z_uR_s, z_uR_k, z_uL_s, z_uL_k, true_and, and_true, and_self, not_true_eq_false, not_false_eq_true, forall_const, Option.toList, List.cons_append, List.nil_append, List.singleton_append, Nat.reduceAdd, Nat.zero_add, Nat.add_zero, Nat.reduceEqDiff, ↓reduceIte, ite_true, ite_false, reduceCtorEq, Int.cast_ofNat_Int, Int.reduceAdd, Int.reduceToNat, ne_eq, false_imp_iff, true_imp_iff, cl_33, bf_33_0, bo_33_0, hN]
  exact h _ (fun c hc => by simp only [z_u2_f hc]) (by simp (disch := omega) only [z_u2_k, z_u2_s]) (by simp (disch := omega) only [z_u2_k, z_u2_s]) (by simp (disch := omega) only [z_u2_k, z_u2_s]) (by simp (disch := omega) only [z_u2_k, z_u2_s]) ⟨(by simp (disch := omega) only [z_u2_k, z_u2_s]), (by simp (disch := omega) only [z_u2_k, z_u2_s]), (by simp (disch := omega) only [z_u2_k, z_u2_s]), (by simp (disch := omega) only [z_u2_k, z_u2_s]), (by simp (disch := omega) only [z_u2_k, z_u2_s])⟩
theorem x_resetMesh {mg : Int32} (hS : SC T mr) (h : ∀ f, (∀ c, c ≠ 25 → f c = mi c) → (f 25 2 = nI 0 ∧ f 25 3 = nI 0 ∧ f 25 4 = mg ∧ f 25 5 = nI 0 ∧ f 25 6 = nI 0) → Q none (f, mr, ml, T)) : z_Ok l G m_Mesh_reset [.ref 25, .int mg] (mi, mr, ml, T) Q := by
  have s25 := hS.t
  refine z_okN cz_12.1 (by rw [cl_12]; exact Nat.le_of_ble_eq_true rfl) cz_12.2 (z_run ck_12 2 bf_12_0 ?_)
  simp (disch := omega) only [e_q0, e_nil, e_cons, e_q, e_qf, e_qt, e_af, z_hd, z_mk1, z_lg, z_s1, z_s2, z_kl, z_en, z_kI, z_fv, z_ic, z_c1, z_sh, z_pop, z_rc, z_tgt, z_tsw, z_lsw, z_nw, z_ac, o_kI, o_kL, o_ldi, o_ldl, o_lda, o_sti, o_sta, o_stl, o_inc, o_b2, o_bz, o_l2, o_lz, o_ls, o_lneg, o_i2l, o_l2i, o_lcmp, o_dup, o_dupx1, o_dup2, o_if, o_if2, o_ifnull, o_get, o_put, o_iald, o_zald, o_aald, o_alen, o_iast, o_zast, o_aast, o_new, o_newa, o_call, o_call1, o_callN, o_obj, o_reti, o_retl, o_ret, o_tsw, o_lsw, va_rf_s, va_rf_n, z_u2_s, z_u2_k, z_u2_f, z_uR_f, z_uL_f, e_ix, e_vp, e_lt, e_le, e_eq, e_lt0, e_eq0, e_b0, e_b1, e_10, e_11, true_or, or_true, false_or, nI_add, z_bi_0, z_bi_1, e_bb, z_uR_s, z_uR_k, z_uL_s, z_uL_k, true_and, and_true, and_self, not_true_eq_false, not_false_eq_true, forall_const, Option.toList, List.cons_append, List.nil_append, List.singleton_append, Nat.reduceAdd, Nat.zero_add, Nat.add_zero, Nat.reduceEqDiff, ↓reduceIte, ite_true, ite_false, reduceCtorEq, Int.cast_ofNat_Int, Int.reduceAdd, Int.reduceToNat, ne_eq, false_imp_iff, true_imp_iff, cl_12, bf_12_0, bo_12_0, s25]
  exact h _ (fun c hc => by simp only [z_u2_f hc]) ⟨(by simp (disch := omega) only [z_u2_k, z_u2_s]), (by simp (disch := omega) only [z_u2_k, z_u2_s]), (by simp (disch := omega) only [z_u2_k, z_u2_s]), (by simp (disch := omega) only [z_u2_k, z_u2_s]), (by simp (disch := omega) only [z_u2_k, z_u2_s])⟩
theorem x_resetLink {N x y v : Nat} {a b : Int32} (hN : T.1 N = (1, 1)) (hx : x ≤ 9) (hy : y ≤ 9) (h : ∀ f, (∀ c, c ≠ N → f c = mi c) → (f N 0 = a ∧ f N 1 = b ∧ f N 2 = nI x ∧ f N 3 = nI y ∧ f N 4 = nI v ∧ f N 5 = (nI 100 * nI v + (nI 10 - nI x) * (nI 10 - nI y) - nI 1) / ((nI 10 - nI x) * (nI 10 - nI y)) ∧ f N 6 = nI 0) → Q none (f, mr, ml, T)) : z_Ok l G m_Link_reset [.ref N, .int a, .int b, .int (nI x), .int (nI y), .int (nI v)] (mi, mr, ml, T) Q := by
  refine z_okN cz_5.1 (by rw [cl_5]; exact Nat.le_of_ble_eq_true rfl) cz_5.2 (z_run ck_5 2 bf_5_0 ?_)
  simp (disch := omega) only [e_q0, e_nil, e_cons, e_q, e_qf, e_qt, e_af, z_hd, z_mk1, z_lg, z_s1, z_s2, z_kl, z_en, z_kI, z_fv, z_ic, z_c1, z_sh, z_pop, z_rc, z_tgt, z_tsw, z_lsw, z_nw, z_ac, o_kI, o_kL, o_ldi, o_ldl, o_lda, o_sti, o_sta, o_stl, o_inc, o_b2, o_bz, o_l2, o_lz, o_ls, o_lneg, o_i2l, o_l2i, o_lcmp, o_dup, o_dupx1, o_dup2, o_if, o_if2, o_ifnull, o_get, o_put, o_iald, o_zald, o_aald, o_alen, o_iast, o_zast, o_aast, o_new, o_newa, o_call, o_call1, o_callN, o_obj, o_reti, o_retl, o_ret, o_tsw, o_lsw, va_rf_s, va_rf_n, z_u2_s, z_u2_k, z_u2_f, z_uR_f, z_uL_f, e_ix, e_vp, e_lt, e_le, e_eq, e_lt0, e_eq0, e_b0, e_b1, e_10, e_11, true_or, or_true, false_or, nI_add, z_bi_0, z_bi_1, e_bb, z_uR_s, z_uR_k, z_uL_s, z_uL_k, true_and, and_true, and_self, not_true_eq_false, not_false_eq_true, forall_const, Option.toList, List.cons_append, List.nil_append, List.singleton_append, Nat.reduceAdd, Nat.zero_add, Nat.add_zero, Nat.reduceEqDiff, ↓reduceIte, ite_true, ite_false, reduceCtorEq, Int.cast_ofNat_Int, Int.reduceAdd, Int.reduceToNat, ne_eq, false_imp_iff, true_imp_iff, cl_5, bf_5_0, bo_5_0, hN]
  refine x_computeAirtime (x := x) (y := y) (v := v) hN hx hy (by simp (disch := omega) only [z_u2_k, z_u2_s]) (by simp (disch := omega) only [z_u2_k, z_u2_s]) (by simp (disch := omega) only [z_u2_k, z_u2_s]) ?_
  simp (disch := omega) only [e_q0, e_nil, e_cons, e_q, e_qf, e_qt, e_af, z_hd, z_mk1, z_lg, z_s1, z_s2, z_kl, z_en, z_kI, z_fv, z_ic, z_c1, z_sh, z_pop, z_rc, z_tgt, z_tsw, z_lsw, z_nw, z_ac, o_kI, o_kL, o_ldi, o_ldl, o_lda, o_sti, o_sta, o_stl, o_inc, o_b2, o_bz, o_l2, o_lz, o_ls, o_lneg, o_i2l, o_l2i, o_lcmp, o_dup, o_dupx1, o_dup2, o_if, o_if2, o_ifnull, o_get, o_put, o_iald, o_zald, o_aald, o_alen, o_iast, o_zast, o_aast, o_new, o_newa, o_call, o_call1, o_callN, o_obj, o_reti, o_retl, o_ret, o_tsw, o_lsw, va_rf_s, va_rf_n, z_u2_s, z_u2_k, z_u2_f, z_uR_f, z_uL_f, e_ix, e_vp, e_lt, e_le, e_eq, e_lt0, e_eq0, e_b0, e_b1, e_10, e_11, true_or, or_true, false_or, nI_add, z_bi_0, z_bi_1, e_bb, z_uR_s, z_uR_k, z_uL_s, z_uL_k, true_and, and_true, and_self, not_true_eq_false, not_false_eq_true, forall_const, Option.toList, List.cons_append, List.nil_append, List.singleton_append, Nat.reduceAdd, Nat.zero_add, Nat.add_zero, Nat.reduceEqDiff, ↓reduceIte, ite_true, ite_false, reduceCtorEq, Int.cast_ofNat_Int, Int.reduceAdd, Int.reduceToNat, ne_eq, false_imp_iff, true_imp_iff, cl_5, bf_5_0, bo_5_0]
  exact h _ (fun c hc => by simp only [z_u2_f hc]) ⟨(by simp (disch := omega) only [z_u2_k, z_u2_s]), (by simp (disch := omega) only [z_u2_k, z_u2_s]), (by simp (disch := omega) only [z_u2_k, z_u2_s]), (by simp (disch := omega) only [z_u2_k, z_u2_s]), (by simp (disch := omega) only [z_u2_k, z_u2_s]), (by simp (disch := omega) only [z_u2_k, z_u2_s]), (by simp (disch := omega) only [z_u2_k, z_u2_s])⟩
end
