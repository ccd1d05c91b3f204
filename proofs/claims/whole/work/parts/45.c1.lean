/-! THE CLASS'S OBJECT -/
/-- its shape -/
abbrev SC (T : (Nat → Nat × Nat) × Nat × Nat) (mr : Nat → Nat → Option Nat) : Prop :=
  ((T.1 2 = (1, 6) ∧ T.1 3 = (1, 5) ∧ T.1 4 = (2, 100) ∧ T.1 45 = (1, 0) ∧ T.1 46 = (6, 14) ∧ T.1 327 = (6, 2) ∧ T.1 368 = (3, 2) ∧ T.1 369 = (1, 4) ∧ T.1 370 = (2, 6) ∧ T.1 371 = (2, 6) ∧ T.1 372 = (3, 6)) ∧
   (mr 2 0 = some 3 ∧ mr 2 1 = some 5 ∧ mr 2 2 = some 25 ∧ mr 2 3 = some 45 ∧ mr 2 4 = some 327 ∧ mr 2 5 = some 368 ∧ mr 2 6 = some 369 ∧ mr 3 0 = some 4 ∧ mr 45 0 = some 46 ∧ mr 369 0 = some 370 ∧ mr 369 1 = some 371 ∧ mr 369 2 = some 372)) ∧
  (SX T mr 5 ∧ SX T mr 25) ∧ (∀ i, i < 14 → mr 46 i = some (47 + 20 * i) ∧ SX T mr (47 + 20 * i)) ∧ ∀ i, i < 2 → mr 327 i = some (328 + 20 * i) ∧ SX T mr (328 + 20 * i)
abbrev FG (g mr : Nat → Nat → Option Nat) : Prop := ∀ c, ¬ (7 ≤ c ∧ c < 15) → ¬ (27 ≤ c ∧ c < 35) → g c = mr c
theorem SX.of' {T : (Nat → Nat × Nat) × Nat × Nat} {mr g : Nat → Nat → Option Nat} {a : Nat} (h : SX T mr a) (e : g a = mr a) (e1 : g (a + 1) = mr (a + 1)) (e10 : g (a + 10) = mr (a + 10)) : SX T g a := by
  unfold SX at *
  rw [e, e1, e10]
  exact h
theorem SC.of {T : (Nat → Nat × Nat) × Nat × Nat} {mr g : Nat → Nat → Option Nat} (h : SC T mr) (e : FG g mr) : SC T g := by
  obtain ⟨h1, ⟨h2, h3⟩, h4, h5⟩ := h
  refine ⟨?_, ⟨SX.of' h2 (e _ (by omega) (by omega)) (e _ (by omega) (by omega)) (e _ (by omega) (by omega)), SX.of' h3 (e _ (by omega) (by omega)) (e _ (by omega) (by omega)) (e _ (by omega) (by omega))⟩, fun i hi => ⟨?_, SX.of' (h4 i hi).2 (e _ (by omega) (by omega)) (e _ (by omega) (by omega)) (e _ (by omega) (by omega))⟩, fun i hi => ⟨?_, SX.of' (h5 i hi).2 (e _ (by omega) (by omega)) (e _ (by omega) (by omega)) (e _ (by omega) (by omega))⟩⟩
  · rw [e 2 (by omega) (by omega), e 3 (by omega) (by omega), e 45 (by omega) (by omega), e 369 (by omega) (by omega)]; exact h1
  · rw [e 46 (by omega) (by omega)]; exact (h4 i hi).1
  · rw [e 327 (by omega) (by omega)]; exact (h5 i hi).1
theorem FG.n {g mr : Nat → Nat → Option Nat} (h : ∀ c, ¬ (5 + 2 ≤ c ∧ c < 5 + 10) → g c = mr c) : FG g mr := fun c h1 _ => h c (by omega)
theorem FG.t {g mr : Nat → Nat → Option Nat} (h : ∀ c, ¬ (25 + 2 ≤ c ∧ c < 25 + 10) → g c = mr c) : FG g mr := fun c _ h1 => h c (by omega)
theorem FG.trans {g h mr : Nat → Nat → Option Nat} (h1 : FG g h) (h2 : FG h mr) : FG g mr := fun c a b => (h1 c a b).trans (h2 c a b)
theorem MX.cong {mi f : Nat → Nat → Int32} {a : Nat} {s : ZS} {r : ZW} (h : MX mi a s r) (h8 : s.1.1 ≤ 8 ∧ s.1.2 ≤ 9) (e : ∀ c, a ≤ c → c < a + 20 → f c = mi c) : MX f a s r :=
  ⟨by rw [e a (by omega) (by omega)]; exact h.1, fun i hi => by rw [e (a + 2 + i) (by omega) (by omega)]; exact h.2.1 i hi, fun k hk => by rw [e (a + 11 + k) (by omega) (by omega)]; exact h.2.2 k hk⟩
/-- what it holds -/
abbrev PX (A : ZA) (mi : Nat → Nat → Int32) (ml : Nat → Nat → Int64) : Prop :=
  MX mi 5 A.s A.r ∧ (mi 3 1 = nI A.len ∧ A.len ≤ 100 ∧ ∀ j, j < A.len → mi 4 j = A.txt j) ∧
  (mi 45 2 = nI A.h ∧ A.h ≤ 14 ∧ ∃ p, p < 14 ∧ mi 45 1 = nI p ∧ ∀ j, j < A.h → MX mi (47 + 20 * ((p + A.h + 13 - j) % 14)) A.s (A.H j)) ∧
  (∀ t, t < 2 → mi 368 t = A.fl t ∧ (A.fl t = nI 1 → MX mi (328 + 20 * t) A.s (A.K t))) ∧
  (mi 369 3 = nI A.o ∧ A.o ≤ 6 ∧ ∀ j, j < A.o → mi 370 j = A.O 0 j ∧ mi 371 j = A.O 1 j ∧ mi 372 j = A.O 2 j) ∧ ml 2 7 = A.sd
/-- what is so of both, after rounds of B at most -/
def IA (A : ZA) (B : Nat) : Prop := f_sok A.s ∧ f_row A.s B A.r ∧ (∀ j, j < A.h → f_row A.s B (A.H j)) ∧ (∀ t, t < 2 → (A.fl t = nI 0 ∨ A.fl t = nI 1) ∧ (A.fl t = nI 1 → f_row A.s B (A.K t))) ∧ ∀ j, j < A.o → (∃ v, v < 8 ∧ A.O 0 j = nI v) ∧ (∃ m, m ≤ 20 ∧ A.O 1 j = nI m) ∧ (A.O 2 j = nI 0 ∨ A.O 2 j = nI 1)
theorem IA.W {A : ZA} {B : Nat} (h : IA A B) : WA A := ⟨h.1.cyc, h.2.1.1, fun j hj => (h.2.2.1 j hj).1, fun t ht => ⟨(h.2.2.2.1 t ht).1, fun e => ((h.2.2.2.1 t ht).2 e).1⟩⟩
section
variable {mi f : Nat → Nat → Int32} {ml : Nat → Nat → Int64} {A : ZA} {B : Nat}
/-- the trial mesh is scratch; the reference lies behind -/
theorem PX.of (h : PX A mi ml) (h8 : A.s.1.1 ≤ 8 ∧ A.s.1.2 ≤ 9) (e : ∀ c, c < 373 → ¬ (25 ≤ c ∧ c < 45) → f c = mi c) : PX A f ml := by
  obtain ⟨h1, h2, ⟨h3, h4, p, hp, h5, h6⟩, h7, h9, h10⟩ := h
  refine ⟨MX.cong h1 h8 fun c _ _ => e c (by omega) (by omega), ?_, ⟨?_, h4, p, hp, ?_, fun j hj => MX.cong (h6 j hj) h8 fun c _ _ => e c (by omega) (by omega)⟩, fun t ht => ⟨?_, fun q => MX.cong ((h7 t ht).2 q) h8 fun c _ _ => e c (by omega) (by omega)⟩, ?_, h10⟩
  · rw [e 3 (by omega) (by omega), e 4 (by omega) (by omega)]; exact h2
  · rw [e 45 (by omega) (by omega)]; exact h3
  · rw [e 45 (by omega) (by omega)]; exact h5
  · rw [e 368 (by omega) (by omega)]; exact (h7 t ht).1
  · rw [e 369 (by omega) (by omega), e 370 (by omega) (by omega), e 371 (by omega) (by omega), e 372 (by omega) (by omega)]; exact h9
/-- the mesh now is another -/
theorem PX.row {r' : ZW} (h : PX A mi ml) (h8 : A.s.1.1 ≤ 8 ∧ A.s.1.2 ≤ 9) (e : ∀ c, c < 373 → ¬ (5 ≤ c ∧ c < 25) → f c = mi c) (hX : MX f 5 A.s r') : PX (a_row A r') f ml := by
  obtain ⟨h1, h2, ⟨h3, h4, p, hp, h5, h6⟩, h7, h9, h10⟩ := h
  refine ⟨hX, ?_, ⟨?_, h4, p, hp, ?_, fun j hj => MX.cong (h6 j hj) h8 fun c _ _ => e c (by omega) (by omega)⟩, fun t ht => ⟨?_, fun q => MX.cong ((h7 t ht).2 q) h8 fun c _ _ => e c (by omega) (by omega)⟩, ?_, h10⟩
  · rw [e 3 (by omega) (by omega), e 4 (by omega) (by omega)]; exact h2
  · rw [e 45 (by omega) (by omega)]; exact h3
  · rw [e 45 (by omega) (by omega)]; exact h5
  · rw [e 368 (by omega) (by omega)]; exact (h7 t ht).1
  · rw [e 369 (by omega) (by omega), e 370 (by omega) (by omega), e 371 (by omega) (by omega), e 372 (by omega) (by omega)]; exact h9
end
section
variable {l : Launch} {G : ZG} {mi : Nat → Nat → Int32} {mr : Nat → Nat → Option Nat} {ml : Nat → Nat → Int64} {T : (Nat → Nat × Nat) × Nat × Nat} {Q : ZR} {A : ZA} {B : Nat}
theorem SC.n (h : SC T mr) : T.1 5 = (1, 2) ∧ T.1 6 = (4, 8) ∧ T.1 15 = (5, 9) ∧ mr 5 0 = some 6 ∧ mr 5 1 = some 15 := h.2.1.1.1
theorem SC.t (h : SC T mr) : T.1 25 = (1, 2) ∧ T.1 26 = (4, 8) ∧ T.1 35 = (5, 9) ∧ mr 25 0 = some 26 ∧ mr 25 1 = some 35 := h.2.1.2.1
theorem e_rem {a b : Nat} (ha : a < 1000) (h0 : 0 < b) (hb : b < 1000) : z_rem (nI a) (nI b) = nI (a % b) := pk_rem (by omega) (by omega) (by omega)
theorem e_sub {a b : Nat} (h : b ≤ a) : nI a - nI b = nI (a - b) := pk_sub h
theorem push_PX {f : Nat → Nat → Int32} {p' h0 : Nat} (hP : PX A mi ml) (h8 : A.s.1.1 ≤ 8 ∧ A.s.1.2 ≤ 9) (hp : p' < 14) (hh : h0 ≤ 13) (he : (if A.h < 14 then A.h + 1 else 14) = h0 + 1) (ho : ∀ j, j < h0 → MX mi (47 + 20 * ((p' + h0 + 13 - j) % 14)) A.s (A.H j))
    (f2 : f 45 2 = nI (h0 + 1)) (f1 : f 45 1 = nI p') (fc : ∀ c, c < 373 → c ≠ 45 → ¬ (47 + 20 * ((p' + h0) % 14) ≤ c ∧ c < 47 + 20 * ((p' + h0) % 14) + 20) → f c = mi c) (fX : MX f (47 + 20 * ((p' + h0) % 14)) A.s A.r) : PX (a_note A) f ml := by
  obtain ⟨h1, h2, ⟨h3, h4, p, _, h5, h6⟩, h7, h9, h10⟩ := hP
  have hq : (p' + h0) % 14 < 14 := Nat.mod_lt _ (by omega)
  generalize hqe : (p' + h0) % 14 = q at fc fX hq
  refine ⟨MX.cong h1 h8 fun c _ _ => fc c (by omega) (by omega) (by omega), ?_, ⟨?_, ?_, p', hp, f1, ?_⟩, fun t ht => ⟨?_, fun w => MX.cong ((h7 t ht).2 w) h8 fun c _ _ => fc c (by omega) (by omega) (by omega)⟩, ?_, h10⟩
  · rw [fc 3 (by omega) (by omega) (by omega), fc 4 (by omega) (by omega) (by omega)]; exact h2
  · show f 45 2 = nI (if A.h < 14 then A.h + 1 else 14)
    rw [he]; exact f2
  · show (if A.h < 14 then A.h + 1 else 14) ≤ 14
    omega
  · show ∀ j, j < (if A.h < 14 then A.h + 1 else 14) → MX f (47 + 20 * ((p' + (if A.h < 14 then A.h + 1 else 14) + 13 - j) % 14)) A.s (f_push A.r A.H j)
    rw [he]
    intro j hj
    cases j with
    | zero =>
      rw [show (p' + (h0 + 1) + 13 - 0) % 14 = q by omega]
      exact fX
    | succ j =>
      have e1 : (p' + (h0 + 1) + 13 - (j + 1)) % 14 = (p' + h0 + 13 - j) % 14 := by omega
      have e2 : (p' + h0 + 13 - j) % 14 ≠ q ∧ (p' + h0 + 13 - j) % 14 < 14 := by omega
      rw [e1]
      exact MX.cong (ho j (by omega)) h8 fun c _ _ => fc c (by omega) (by omega) (by omega)
  · rw [fc 368 (by omega) (by omega) (by omega)]; exact (h7 t ht).1
  · rw [fc 369 (by omega) (by omega) (by omega), fc 370 (by omega) (by omega) (by omega), fc 371 (by omega) (by omega) (by omega), fc 372 (by omega) (by omega) (by omega)]; exact h9
theorem c_push (hS : SC T mr) (hP : PX A mi ml) (hI : IA A B) (h : ∀ f, PX (a_note A) f ml → (∀ c, 373 ≤ c → f c = mi c) → Q none (f, mr, ml, T)) : z_Ok l G m_History_push [.ref 45, .ref 5] (mi, mr, ml, T) Q := by
  have s1 := hS.1
  obtain ⟨h1, h2, ⟨h3, h4, p, hp, h5, h6⟩, h7, h9, h10⟩ := id hP
  have m46 : ∀ i, i < 14 → mr 46 i = some (47 + 20 * i) := fun i hi => (hS.2.2.1 i hi).1
  have t46 : ∀ i, i < 14 → T.1 (47 + 20 * i) = (1, 2) := fun i hi => (hS.2.2.1 i hi).2.1.1
  have h8 := hI.1.1
  refine z_okN cz_2.1 (by rw [cl_2]; exact Nat.le_of_ble_eq_true rfl) cz_2.2 (z_run ck_2 3 bf_2_0 ?_)
  by_cases c14 : A.h = 14
  · simp (disch := omega) only [e_q0, e_nil, e_cons, e_q, e_qf, e_qt, e_af, z_hd, z_mk1, z_lg, z_s1, z_s2, z_kl, z_en, z_kI, z_fv, z_ic, z_c1, z_sh, z_pop, z_rc, z_tgt, z_tsw, z_lsw, z_nw, z_ac, o_kI, o_kL, o_ldi, o_ldl, o_lda, o_sti, o_sta, o_stl, o_inc, o_b2, o_bz, o_l2, o_lz, o_ls, o_lneg, o_i2l, o_l2i, o_lcmp, o_dup, o_dupx1, o_dup2, o_if, o_if2, o_ifnull, o_get, o_put, o_iald, o_zald, o_aald, o_alen, o_iast, o_zast, o_aast, o_new, o_newa, o_call, o_call1, o_callN, o_obj, o_reti, o_retl, o_ret, o_tsw, o_lsw, va_rf_s, va_rf_n, z_u2_s, z_u2_k, z_u2_f, z_uR_f, z_uL_f, e_ix, e_vp, e_lt, e_le, e_eq, e_lt0, e_eq0, e_b0, e_b1, e_10, e_11, true_or, or_true, false_or, nI_add, z_bi_0, z_bi_1, e_bb, z_uR_s, z_uR_k, z_uL_s, z_uL_k, true_and, and_true, and_self, not_true_eq_false, not_false_eq_true, forall_const, Option.toList, List.cons_append, List.nil_append, List.singleton_append, Nat.reduceAdd, Nat.zero_add, Nat.add_zero, Nat.reduceEqDiff, ↓reduceIte, ite_true, ite_false, reduceCtorEq, Int.cast_ofNat_Int, Int.reduceAdd, Int.reduceToNat, ne_eq, false_imp_iff, true_imp_iff, cl_2, bf_2_0, bf_2_32, bo_2_0, bo_2_32, s1, h3, h5, e_rem, e_sub, m46, t46, z_t6]
    refine ⟨fun _ => ?_, fun c => absurd c14 c⟩
    have hq : ((p + 1) % 14 + (A.h - 1)) % 14 < 14 := Nat.mod_lt _ (by omega)
    have n45 : ∀ c, c ≠ 45 → z_u2 (z_u2 mi 45 1 (nI ((p + 1) % 14))) 45 2 (nI (A.h - 1)) c = mi c := fun c hc => by simp only [z_u2_f hc]
    have e1 : z_u2 (z_u2 mi 45 1 (nI ((p + 1) % 14))) 45 2 (nI (A.h - 1)) 45 1 = nI ((p + 1) % 14) := by rw [z_u2_k (by omega), z_u2_s]
    have e2 : z_u2 (z_u2 mi 45 1 (nI ((p + 1) % 14))) 45 2 (nI (A.h - 1)) 45 2 = nI (A.h - 1) := z_u2_s
    generalize z_u2 (z_u2 mi 45 1 (nI ((p + 1) % 14))) 45 2 (nI (A.h - 1)) = g at n45 e1 e2
    refine x_copyMesh (s := A.s) (r := A.r) (hS.2.2.1 _ hq).2 hS.2.1.1 (MX.cong h1 h8 fun c _ _ => n45 c (by omega)) h8 hI.2.1.2.2.1 (by omega) fun f f1 f2 => ?_
    have fe : f 45 = g 45 := f1 45 (by omega)
    simp (disch := omega) only [e_q0, e_nil, e_cons, e_q, e_qf, e_qt, e_af, z_hd, z_mk1, z_lg, z_s1, z_s2, z_kl, z_en, z_kI, z_fv, z_ic, z_c1, z_sh, z_pop, z_rc, z_tgt, z_tsw, z_lsw, z_nw, z_ac, o_kI, o_kL, o_ldi, o_ldl, o_lda, o_sti, o_sta, o_stl, o_inc, o_b2, o_bz, o_l2, o_lz, o_ls, o_lneg, o_i2l, o_l2i, o_lcmp, o_dup, o_dupx1, o_dup2, o_if, o_if2, o_ifnull, o_get, o_put, o_iald, o_zald, o_aald, o_alen, o_iast, o_zast, o_aast, o_new, o_newa, o_call, o_call1, o_callN, o_obj, o_reti, o_retl, o_ret, o_tsw, o_lsw, va_rf_s, va_rf_n, z_u2_s, z_u2_k, z_u2_f, z_uR_f, z_uL_f, e_ix, e_vp, e_lt, e_le, e_eq, e_lt0, e_eq0, e_b0, e_b1, e_10, e_11, true_or, or_true, false_or, nI_add, z_bi_0, z_bi_1, e_bb, z_uR_s, z_uR_k, z_uL_s, z_uL_k, true_and, and_true, and_self, not_true_eq_false, not_false_eq_true, forall_const, Option.toList, List.cons_append, List.nil_append, List.singleton_append, Nat.reduceAdd, Nat.zero_add, Nat.add_zero, Nat.reduceEqDiff, ↓reduceIte, ite_true, ite_false, reduceCtorEq, Int.cast_ofNat_Int, Int.reduceAdd, Int.reduceToNat, ne_eq, false_imp_iff, true_imp_iff, cl_2, bf_2_0, bf_2_32, bo_2_0, bo_2_32, s1, fe, e2]
    refine h _ (push_PX (p' := (p + 1) % 14) (h0 := A.h - 1) hP h8 (by omega) (by omega) (by rw [if_neg (by omega)]; omega) (fun j hj => ?_) z_u2_s (by rw [z_u2_k (by omega), fe, e1]) (fun c c1 c2 c3 => by rw [z_u2_f c2, f1 c c3, n45 c c2]) (MX.cong f2 h8 fun c _ _ => z_u2_f (by omega))) (fun c hc => by rw [z_u2_f (by omega), f1 c (by omega), n45 c (by omega)])
    rw [show ((p + 1) % 14 + (A.h - 1) + 13 - j) % 14 = (p + A.h + 13 - j) % 14 by omega]
    exact h6 j (by omega)
  · simp (disch := omega) only [e_q0, e_nil, e_cons, e_q, e_qf, e_qt, e_af, z_hd, z_mk1, z_lg, z_s1, z_s2, z_kl, z_en, z_kI, z_fv, z_ic, z_c1, z_sh, z_pop, z_rc, z_tgt, z_tsw, z_lsw, z_nw, z_ac, o_kI, o_kL, o_ldi, o_ldl, o_lda, o_sti, o_sta, o_stl, o_inc, o_b2, o_bz, o_l2, o_lz, o_ls, o_lneg, o_i2l, o_l2i, o_lcmp, o_dup, o_dupx1, o_dup2, o_if, o_if2, o_ifnull, o_get, o_put, o_iald, o_zald, o_aald, o_alen, o_iast, o_zast, o_aast, o_new, o_newa, o_call, o_call1, o_callN, o_obj, o_reti, o_retl, o_ret, o_tsw, o_lsw, va_rf_s, va_rf_n, z_u2_s, z_u2_k, z_u2_f, z_uR_f, z_uL_f, e_ix, e_vp, e_lt, e_le, e_eq, e_lt0, e_eq0, e_b0, e_b1, e_10, e_11, true_or, or_true, false_or, nI_add, z_bi_0, z_bi_1, e_bb, z_uR_s, z_uR_k, z_uL_s, z_uL_k, true_and, and_true, and_self, not_true_eq_false, not_false_eq_true, forall_const, Option.toList, List.cons_append, List.nil_append, List.singleton_append, Nat.reduceAdd, Nat.zero_add, Nat.add_zero, Nat.reduceEqDiff, ↓reduceIte, ite_true, ite_false, reduceCtorEq, Int.cast_ofNat_Int, Int.reduceAdd, Int.reduceToNat, ne_eq, false_imp_iff, true_imp_iff, cl_2, bf_2_0, bf_2_32, bo_2_0, bo_2_32, s1, h3, h5, e_rem, e_sub, m46, t46, z_t6]
    refine ⟨fun c => absurd c c14, fun c => ?_⟩
    have hq : (p + A.h) % 14 < 14 := Nat.mod_lt _ (by omega)
    refine x_copyMesh (s := A.s) (r := A.r) (hS.2.2.1 _ hq).2 hS.2.1.1 h1 h8 hI.2.1.2.2.1 (by omega) fun f f1 f2 => ?_
    have fe : f 45 = mi 45 := f1 45 (by omega)
    simp (disch := omega) only [e_q0, e_nil, e_cons, e_q, e_qf, e_qt, e_af, z_hd, z_mk1, z_lg, z_s1, z_s2, z_kl, z_en, z_kI, z_fv, z_ic, z_c1, z_sh, z_pop, z_rc, z_tgt, z_tsw, z_lsw, z_nw, z_ac, o_kI, o_kL, o_ldi, o_ldl, o_lda, o_sti, o_sta, o_stl, o_inc, o_b2, o_bz, o_l2, o_lz, o_ls, o_lneg, o_i2l, o_l2i, o_lcmp, o_dup, o_dupx1, o_dup2, o_if, o_if2, o_ifnull, o_get, o_put, o_iald, o_zald, o_aald, o_alen, o_iast, o_zast, o_aast, o_new, o_newa, o_call, o_call1, o_callN, o_obj, o_reti, o_retl, o_ret, o_tsw, o_lsw, va_rf_s, va_rf_n, z_u2_s, z_u2_k, z_u2_f, z_uR_f, z_uL_f, e_ix, e_vp, e_lt, e_le, e_eq, e_lt0, e_eq0, e_b0, e_b1, e_10, e_11, true_or, or_true, false_or, nI_add, z_bi_0, z_bi_1, e_bb, z_uR_s, z_uR_k, z_uL_s, z_uL_k, true_and, and_true, and_self, not_true_eq_false, not_false_eq_true, forall_const, Option.toList, List.cons_append, List.nil_append, List.singleton_append, Nat.reduceAdd, Nat.zero_add, Nat.add_zero, Nat.reduceEqDiff, ↓reduceIte, ite_true, ite_false, reduceCtorEq, Int.cast_ofNat_Int, Int.reduceAdd, Int.reduceToNat, ne_eq, false_imp_iff, true_imp_iff, cl_2, bf_2_0, bf_2_32, bo_2_0, bo_2_32, s1, fe, h3]
    exact h _ (push_PX (p' := p) (h0 := A.h) hP h8 hp (by omega) (by rw [if_pos (by omega)]) h6 z_u2_s (by rw [z_u2_k (by omega), fe, h5]) (fun c c1 c2 c3 => by rw [z_u2_f c2, f1 c c3]) (MX.cong f2 h8 fun c _ _ => z_u2_f (by omega))) (fun c hc => by rw [z_u2_f (by omega), f1 c (by omega)])
theorem c_pop (hS : SC T mr) (hP : PX A mi ml) (hI : IA A B) (h0 : 0 < A.h) (h : ∀ f, PX (a_undo A).2 f ml → (∀ c, 373 ≤ c → f c = mi c) → Q none (f, mr, ml, T)) : z_Ok l G m_History_popInto [.ref 45, .ref 5] (mi, mr, ml, T) Q := by
  have s1 := hS.1
  obtain ⟨h1, h2, ⟨h3, h4, p, hp, h5, h6⟩, h7, h9, h10⟩ := id hP
  have m46 : ∀ i, i < 14 → mr 46 i = some (47 + 20 * i) := fun i hi => (hS.2.2.1 i hi).1
  have t46 : ∀ i, i < 14 → T.1 (47 + 20 * i) = (1, 2) := fun i hi => (hS.2.2.1 i hi).2.1.1
  have h8 := hI.1.1
  have s5 := hS.n
  have hq : (p + (A.h - 1)) % 14 < 14 := Nat.mod_lt _ (by omega)
  refine z_okN cz_3.1 (by rw [cl_3]; exact Nat.le_of_ble_eq_true rfl) cz_3.2 (z_run ck_3 3 bf_3_0 ?_)
  simp (disch := omega) only [e_q0, e_nil, e_cons, e_q, e_qf, e_qt, e_af, z_hd, z_mk1, z_lg, z_s1, z_s2, z_kl, z_en, z_kI, z_fv, z_ic, z_c1, z_sh, z_pop, z_rc, z_tgt, z_tsw, z_lsw, z_nw, z_ac, o_kI, o_kL, o_ldi, o_ldl, o_lda, o_sti, o_sta, o_stl, o_inc, o_b2, o_bz, o_l2, o_lz, o_ls, o_lneg, o_i2l, o_l2i, o_lcmp, o_dup, o_dupx1, o_dup2, o_if, o_if2, o_ifnull, o_get, o_put, o_iald, o_zald, o_aald, o_alen, o_iast, o_zast, o_aast, o_new, o_newa, o_call, o_call1, o_callN, o_obj, o_reti, o_retl, o_ret, o_tsw, o_lsw, va_rf_s, va_rf_n, z_u2_s, z_u2_k, z_u2_f, z_uR_f, z_uL_f, e_ix, e_vp, e_lt, e_le, e_eq, e_lt0, e_eq0, e_b0, e_b1, e_10, e_11, true_or, or_true, false_or, nI_add, z_bi_0, z_bi_1, e_bb, z_uR_s, z_uR_k, z_uL_s, z_uL_k, true_and, and_true, and_self, not_true_eq_false, not_false_eq_true, forall_const, Option.toList, List.cons_append, List.nil_append, List.singleton_append, Nat.reduceAdd, Nat.zero_add, Nat.add_zero, Nat.reduceEqDiff, ↓reduceIte, ite_true, ite_false, reduceCtorEq, Int.cast_ofNat_Int, Int.reduceAdd, Int.reduceToNat, ne_eq, false_imp_iff, true_imp_iff, cl_3, bf_3_0, bf_3_38, bo_3_0, bo_3_38, s1, s5, h3, h5, e_rem, e_sub, m46, t46, z_t6]
  refine ⟨fun c => absurd c ?_, fun _ => ?_⟩
  · have e : (0 : Int32) = nI 0 := rfl
    rw [e, e_le (by omega) (by omega)]; omega
  have h60 := h6 0 h0
  rw [show (p + A.h + 13 - 0) % 14 = (p + (A.h - 1)) % 14 by omega] at h60
  refine x_copyMesh (s := A.s) (r := A.H 0) hS.2.1.1 (hS.2.2.1 _ hq).2 (MX.cong h60 h8 fun c _ _ => z_u2_f (by omega)) h8 (hI.2.2.1 0 h0).2.2.1 (by omega) fun f f1 f2 => ?_
  simp (disch := omega) only [e_q0, e_nil, e_cons, e_q, e_qf, e_qt, e_af, z_hd, z_mk1, z_lg, z_s1, z_s2, z_kl, z_en, z_kI, z_fv, z_ic, z_c1, z_sh, z_pop, z_rc, z_tgt, z_tsw, z_lsw, z_nw, z_ac, o_kI, o_kL, o_ldi, o_ldl, o_lda, o_sti, o_sta, o_stl, o_inc, o_b2, o_bz, o_l2, o_lz, o_ls, o_lneg, o_i2l, o_l2i, o_lcmp, o_dup, o_dupx1, o_dup2, o_if, o_if2, o_ifnull, o_get, o_put, o_iald, o_zald, o_aald, o_alen, o_iast, o_zast, o_aast, o_new, o_newa, o_call, o_call1, o_callN, o_obj, o_reti, o_retl, o_ret, o_tsw, o_lsw, va_rf_s, va_rf_n, z_u2_s, z_u2_k, z_u2_f, z_uR_f, z_uL_f, e_ix, e_vp, e_lt, e_le, e_eq, e_lt0, e_eq0, e_b0, e_b1, e_10, e_11, true_or, or_true, false_or, nI_add, z_bi_0, z_bi_1, e_bb, z_uR_s, z_uR_k, z_uL_s, z_uL_k, true_and, and_true, and_self, not_true_eq_false, not_false_eq_true, forall_const, Option.toList, List.cons_append, List.nil_append, List.singleton_append, Nat.reduceAdd, Nat.zero_add, Nat.add_zero, Nat.reduceEqDiff, ↓reduceIte, ite_true, ite_false, reduceCtorEq, Int.cast_ofNat_Int, Int.reduceAdd, Int.reduceToNat, ne_eq, false_imp_iff, true_imp_iff, cl_3, bf_3_0, bf_3_38, bo_3_0, bo_3_38]
  have fc : ∀ c, c ≠ 45 → ¬ (5 ≤ c ∧ c < 25) → f c = mi c := fun c c1 c2 => by rw [f1 c (by omega), z_u2_f c1]
  have f45 : f 45 = z_u2 mi 45 2 (nI (A.h - 1)) 45 := f1 45 (by omega)
  refine h f ?_ fun c hc => fc c (by omega) (by omega)
  unfold a_undo
  rw [if_neg (by omega)]
  refine ⟨f2, ?_, ⟨?_, ?_, p, hp, ?_, fun j hj => ?_⟩, fun t ht => ⟨?_, fun w => MX.cong ((h7 t ht).2 w) h8 fun c _ _ => fc c (by omega) (by omega)⟩, ?_, h10⟩
  · rw [fc 3 (by omega) (by omega), fc 4 (by omega) (by omega)]; exact h2
  · rw [f45, z_u2_s]
  · show A.h - 1 ≤ 14; omega
  · rw [f45, z_u2_k (by omega)]; exact h5
  · show MX f (47 + 20 * ((p + (A.h - 1) + 13 - j) % 14)) A.s (A.H (j + 1))
    have hj' : j < A.h - 1 := hj
    rw [show (p + (A.h - 1) + 13 - j) % 14 = (p + A.h + 13 - (j + 1)) % 14 by omega]
    exact MX.cong (h6 (j + 1) (by omega)) h8 fun c _ _ => fc c (by omega) (by omega)
  · rw [fc 368 (by omega) (by omega)]; exact (h7 t ht).1
  · rw [fc 369 (by omega) (by omega), fc 370 (by omega) (by omega), fc 371 (by omega) (by omega), fc 372 (by omega) (by omega)]; exact h9
end
