/-- Euclid's steps -/
def f_euc : Nat → Int64 → Int64 → Int64
  | 0, x, _ => x
  | k + 1, x, y => if y = lN 0 then x else f_euc k y (z_lrem x y)
/-- within k steps they end -/
def f_fin : Nat → Int64 → Int64 → Prop
  | 0, _, y => y = lN 0
  | k + 1, x, y => y = lN 0 ∨ f_fin k y (z_lrem x y)
def f_abs (x : Int64) : Int64 := if x < lN 0 then -x else x
def f_frac (x y : Int64) (u : Int32) : Int32 := ((if u = 0 then y else x) / f_euc 200 (f_abs x) y).toInt32
theorem f_fin_P : ∀ k a b, b ≤ a → a * b < 2 ^ k → a < 9223372036854775808 → f_fin (k + 1) (lN a) (lN b)
  | 0, a, b, h1, h2, _ => by
    have : a * b = 0 := by omega
    rcases Nat.mul_eq_zero.mp this with q | q
    · exact Or.inl (by rw [show b = 0 by omega])
    · exact Or.inl (by rw [q])
  | k + 1, a, b, h1, h2, h3 => by
    by_cases c : b = 0
    · exact Or.inl (by rw [c])
    · refine Or.inr ?_
      rw [z_lremN h3 (by omega) (by omega)]
      have hm : a % b < b := Nat.mod_lt _ (by omega)
      have hd : b * (a / b) + a % b = a := Nat.div_add_mod a b
      have hq : 1 ≤ a / b := (Nat.le_div_iff_mul_le (by omega)).mpr (by omega)
      have hb : b * 1 ≤ b * (a / b) := Nat.mul_le_mul_left b hq
      have h5 : b * (2 * (a % b)) ≤ b * a := Nat.mul_le_mul_left b (by omega)
      refine f_fin_P k b (a % b) (by omega) ?_ (by omega)
      rw [Nat.mul_left_comm] at h5
      rw [Nat.pow_succ, Nat.mul_comm a b] at h2
      omega
theorem f_fin_200 {a b : Nat} (ha : a < 9223372036854775808) (hb : b < 9223372036854775808) : f_fin 200 (lN a) (lN b) := by
  by_cases c : b = 0
  · exact Or.inl (by rw [c])
  · refine Or.inr ?_
    rw [z_lremN ha (by omega) (by omega)]
    have hm : a % b < b := Nat.mod_lt _ (by omega)
    refine f_fin_P 198 b (a % b) (by omega) ?_ hb
    exact Nat.lt_of_le_of_lt (Nat.mul_le_mul (Nat.le_of_lt hb) (Nat.le_of_lt (Nat.lt_trans hm hb))) (by decide)
theorem f_euc_pos : ∀ k a b, 0 < a → a < 9223372036854775808 → b < 9223372036854775808 → ∃ g, 0 < g ∧ g < 9223372036854775808 ∧ f_euc k (lN a) (lN b) = lN g
  | 0, a, b, h, h2, _ => ⟨a, h, h2, rfl⟩
  | k + 1, a, b, h, h2, h3 => by
    unfold f_euc
    by_cases c : b = 0
    · rw [if_pos (by rw [c])]
      exact ⟨a, h, h2, rfl⟩
    · rw [if_neg (fun q => lN_ne0 (by omega) h3 (q.trans rfl)), z_lremN h2 (by omega) h3]
      have hm : a % b < b := Nat.mod_lt _ (by omega)
      exact f_euc_pos k b (a % b) (by omega) h3 (by omega)
theorem f_euc_200 {a b : Nat} (ha : a < 9223372036854775808) (h0 : 0 < b) (hb : b < 9223372036854775808) : ∃ g, 0 < g ∧ g < 9223372036854775808 ∧ f_euc 200 (lN a) (lN b) = lN g := by
  rw [f_euc.eq_2, if_neg (fun q => lN_ne0 (by omega) hb (q.trans rfl)), z_lremN ha (by omega) hb]
  have hm : a % b < b := Nat.mod_lt _ (by omega)
  exact f_euc_pos 199 b (a % b) h0 hb (by omega)
section
variable {l : Launch} {G : ZG} {mi : Nat → Nat → Int32} {mr : Nat → Nat → Option Nat} {ml : Nat → Nat → Int64} {T : (Nat → Nat × Nat) × Nat × Nat} {Q : ZR} {A : ZA}
theorem lg_ge {x y : Int64} : (0 ≤ lg_cmp x y) = ¬ x < y := by
  rw [← lg_lt]
  exact propext Int32.not_lt.symm
theorem k_fraction {x y : Int64} {u : Int32} (hf : f_fin 200 (f_abs x) y) (h0 : ¬ f_euc 200 (f_abs x) y = 0) (hQ : Q (some (.int (f_frac x y u))) (mi, mr, ml, T)) : z_Ok l G m_Model_fraction [.long x, .long y, .int u] (mi, mr, ml, T) Q := by
  unfold f_frac at hQ
  have lp : ∀ k a b, f_fin k a b → f_euc 200 (f_abs x) y = f_euc k a b → z_W l G 108 (T.2.1, T.2.2) (fun v M' => Q v M' ∧ M'.2.2.2 = T) 17 [some (.long x), none, some (.long y), none, some (.int u), some (.long a), none, some (.long b), none, none, none] [] (mi, mr, ml, T) := by
    intro k
    induction k with
    | zero =>
      intro a b h1 h2
      have h1 : b = lN 0 := h1
      subst h1
      have h2 : f_euc 200 (f_abs x) y = a := h2
      rw [h2] at hQ h0
      refine z_run ck_108 7 bf_108_17 ?_
      simp (disch := omega) only [e_q0, e_nil, e_cons, e_q, e_qf, e_qt, e_af, z_hd, z_mk1, z_lg, z_s1, z_s2, z_kl, z_en, z_kI, z_fv, z_ic, z_c1, z_sh, z_pop, z_rc, z_tgt, z_tsw, z_lsw, z_nw, z_ac, o_kI, o_kL, o_ldi, o_ldl, o_lda, o_sti, o_sta, o_stl, o_inc, o_b2, o_bz, o_l2, o_lz, o_ls, o_lneg, o_i2l, o_l2i, o_lcmp, o_dup, o_dupx1, o_dup2, o_if, o_if2, o_ifnull, o_get, o_put, o_iald, o_zald, o_aald, o_alen, o_iast, o_zast, o_aast, o_new, o_newa, o_call, o_call1, o_callN, o_obj, o_reti, o_retl, o_ret, o_tsw, o_lsw, va_rf_s, va_rf_n, z_u2_s, z_u2_k, z_u2_f, z_uR_f, z_uL_f, e_ix, e_vp, e_lt, e_le, e_eq, e_lt0, e_eq0, e_b0, e_b1, e_10, e_11, true_or, or_true, false_or, nI_add, z_bi_0, z_bi_1, e_bb, z_uR_s, z_uR_k, z_uL_s, z_uL_k, true_and, and_true, and_self, not_true_eq_false, not_false_eq_true, forall_const, Option.toList, List.cons_append, List.nil_append, List.singleton_append, Nat.reduceAdd, Nat.zero_add, Nat.add_zero, Nat.reduceEqDiff, ↓reduceIte, ite_true, ite_false, reduceCtorEq, Int.cast_ofNat_Int, Int.reduceAdd, Int.reduceToNat, ne_eq, false_imp_iff, true_imp_iff, cl_108, bf_108_0, bf_108_11, bf_108_12, bf_108_17, bf_108_42, bf_108_54, bf_108_58, bo_108_0, bo_108_11, bo_108_12, bo_108_17, bo_108_42, bo_108_54, bo_108_58, lg_eq]
      refine ⟨fun c => ⟨h0, ?_⟩, fun c => ⟨h0, ?_⟩⟩
      · rw [if_pos c] at hQ
        exact hQ
      · rw [if_neg c] at hQ
        exact hQ
    | succ k ih =>
      intro a b h1 h2
      have h2 : f_euc 200 (f_abs x) y = (if b = lN 0 then a else f_euc k b (z_lrem a b)) := h2
      refine z_run ck_108 7 bf_108_17 ?_
      simp (disch := omega) only [e_q0, e_nil, e_cons, e_q, e_qf, e_qt, e_af, z_hd, z_mk1, z_lg, z_s1, z_s2, z_kl, z_en, z_kI, z_fv, z_ic, z_c1, z_sh, z_pop, z_rc, z_tgt, z_tsw, z_lsw, z_nw, z_ac, o_kI, o_kL, o_ldi, o_ldl, o_lda, o_sti, o_sta, o_stl, o_inc, o_b2, o_bz, o_l2, o_lz, o_ls, o_lneg, o_i2l, o_l2i, o_lcmp, o_dup, o_dupx1, o_dup2, o_if, o_if2, o_ifnull, o_get, o_put, o_iald, o_zald, o_aald, o_alen, o_iast, o_zast, o_aast, o_new, o_newa, o_call, o_call1, o_callN, o_obj, o_reti, o_retl, o_ret, o_tsw, o_lsw, va_rf_s, va_rf_n, z_u2_s, z_u2_k, z_u2_f, z_uR_f, z_uL_f, e_ix, e_vp, e_lt, e_le, e_eq, e_lt0, e_eq0, e_b0, e_b1, e_10, e_11, true_or, or_true, false_or, nI_add, z_bi_0, z_bi_1, e_bb, z_uR_s, z_uR_k, z_uL_s, z_uL_k, true_and, and_true, and_self, not_true_eq_false, not_false_eq_true, forall_const, Option.toList, List.cons_append, List.nil_append, List.singleton_append, Nat.reduceAdd, Nat.zero_add, Nat.add_zero, Nat.reduceEqDiff, ↓reduceIte, ite_true, ite_false, reduceCtorEq, Int.cast_ofNat_Int, Int.reduceAdd, Int.reduceToNat, ne_eq, false_imp_iff, true_imp_iff, cl_108, bf_108_0, bf_108_11, bf_108_12, bf_108_17, bf_108_42, bf_108_54, bf_108_58, bo_108_0, bo_108_11, bo_108_12, bo_108_17, bo_108_42, bo_108_54, bo_108_58, lg_eq]
      refine ⟨fun q => ?_, fun q => ?_⟩
      · rw [if_pos q] at h2
        rw [h2] at hQ h0
        refine ⟨fun c => ⟨h0, ?_⟩, fun c => ⟨h0, ?_⟩⟩
        · rw [if_pos c] at hQ
          exact hQ
        · rw [if_neg c] at hQ
          exact hQ
      · rw [if_neg q] at h2
        exact ⟨fun z => q (z.trans rfl), ih _ _ (h1.resolve_left q) h2⟩
  have lp0 := lp 200 (f_abs x) y hf rfl
  unfold f_abs at lp0
  refine z_okN cz_108.1 (by rw [cl_108]; exact Nat.le_of_ble_eq_true rfl) cz_108.2 (z_run ck_108 7 bf_108_0 ?_)
  simp (disch := omega) only [e_q0, e_nil, e_cons, e_q, e_qf, e_qt, e_af, z_hd, z_mk1, z_lg, z_s1, z_s2, z_kl, z_en, z_kI, z_fv, z_ic, z_c1, z_sh, z_pop, z_rc, z_tgt, z_tsw, z_lsw, z_nw, z_ac, o_kI, o_kL, o_ldi, o_ldl, o_lda, o_sti, o_sta, o_stl, o_inc, o_b2, o_bz, o_l2, o_lz, o_ls, o_lneg, o_i2l, o_l2i, o_lcmp, o_dup, o_dupx1, o_dup2, o_if, o_if2, o_ifnull, o_get, o_put, o_iald, o_zald, o_aald, o_alen, o_iast, o_zast, o_aast, o_new, o_newa, o_call, o_call1, o_callN, o_obj, o_reti, o_retl, o_ret, o_tsw, o_lsw, va_rf_s, va_rf_n, z_u2_s, z_u2_k, z_u2_f, z_uR_f, z_uL_f, e_ix, e_vp, e_lt, e_le, e_eq, e_lt0, e_eq0, e_b0, e_b1, e_10, e_11, true_or, or_true, false_or, nI_add, z_bi_0, z_bi_1, e_bb, z_uR_s, z_uR_k, z_uL_s, z_uL_k, true_and, and_true, and_self, not_true_eq_false, not_false_eq_true, forall_const, Option.toList, List.cons_append, List.nil_append, List.singleton_append, Nat.reduceAdd, Nat.zero_add, Nat.add_zero, Nat.reduceEqDiff, ↓reduceIte, ite_true, ite_false, reduceCtorEq, Int.cast_ofNat_Int, Int.reduceAdd, Int.reduceToNat, ne_eq, false_imp_iff, true_imp_iff, cl_108, bf_108_0, bf_108_11, bf_108_12, bf_108_17, bf_108_42, bf_108_54, bf_108_58, bo_108_0, bo_108_11, bo_108_12, bo_108_17, bo_108_42, bo_108_54, bo_108_58, lg_ge]
  refine ⟨fun c => ?_, fun c => ?_⟩
  · rw [if_neg c] at lp0
    exact lp0
  · rw [if_pos (Classical.not_not.mp c)] at lp0
    exact lp0
def f_facN : Nat → Nat
  | 0 => 1
  | k + 1 => (k + 1) * f_facN k
theorem f_fac_N : ∀ n, f_fac n = nI (f_facN n)
  | 0 => rfl
  | 1 => rfl
  | k + 2 => by
    unfold f_fac f_facN
    rw [f_fac_N (k + 1), pk_mul, Nat.mul_comm]
def f_sub (m u : Nat) : Bool := decide (m &&& u = m)
theorem f_sub_iff {m u : Nat} : f_sub m u = true ↔ ∀ i, m.testBit i = true → u.testBit i = true := by
  unfold f_sub
  rw [decide_eq_true_eq]
  constructor
  · intro h i hi
    have h1 := congrArg (fun n => n.testBit i) h
    simp only [Nat.testBit_and, hi, Bool.true_and] at h1
    exact h1
  · intro h
    refine Nat.eq_of_testBit_eq fun i => ?_
    rw [Nat.testBit_and]
    cases q : m.testBit i with
    | false => rfl
    | true => rw [h i q]; rfl
theorem z_subN {k u : Nat} (hk : k < 2147483648) (hu : u < 2147483648) : (nI k &&& (nI u ^^^ z_ng 1) = 0) = (f_sub k u = true) := by
  rw [z_sub_iff hk hu]
  exact propext f_sub_iff.symm
/-- the gateways -/
def f_gwb (A : ZA) : Nat := f_bits (fun i => decide (A.s.2 0 i = nI 0)) A.s.1.1
def f_gn (A : ZA) : Nat := f_cnt (fun i => decide (A.s.2 0 i = nI 0)) A.s.1.1
/-- the worth of a set of gateways -/
def f_wo (A : ZA) (m : Nat) : Nat := f_rc A.s (nI m) (f_gos A.s (nI m) 20 A.r)
def f_term (A : ZA) (g m : Nat) : Int := if f_sub m (f_gwb A) = true ∧ m.testBit g = false then ((f_facN (f_cnt m.testBit 9) * f_facN (f_gn A - 1 - f_cnt m.testBit 9) : Nat) : Int) * ((f_wo A (m ||| 2 ^ g) : Int) - (f_wo A m : Int)) else 0
def f_more (A : ZA) (g : Nat) : Nat → Int
  | 0 => 0
  | m + 1 => f_more A g m + f_term A g m
def a_share (A : ZA) (x u : Int32) : Int32 := if f_gate A.s x then f_frac (Int64.ofInt (f_more A (z_ix x) 256)) (lN (f_facN (f_gn A))) u else z_ng 1
theorem f_facN_le : ∀ n, n ≤ 8 → f_facN n ≤ 40320 ∧ 0 < f_facN n := by decide
theorem f_facN_mul : ∀ a, a ≤ 7 → ∀ b, b ≤ 7 → a + b ≤ 7 → f_facN a * f_facN b ≤ 5040 := by decide
/-- adding g to a set without g -/
theorem f_cnt_or {m g : Nat} (h : m.testBit g = false) : ∀ k, g < k → f_cnt (m ||| 2 ^ g).testBit k = f_cnt m.testBit k + 1
  | 0, hk => absurd hk (Nat.not_lt_zero _)
  | k + 1, hk => by
    unfold f_cnt
    by_cases q : g = k
    · subst q
      rw [f_cnt_congr g (q := m.testBit) fun i hi => by rw [Nat.testBit_or, Nat.testBit_two_pow, decide_eq_false (by omega), Bool.or_false]]
      rw [Nat.testBit_or, h, Nat.testBit_two_pow, decide_eq_true rfl]
      simp
    · rw [f_cnt_or h k (by omega)]
      rw [Nat.testBit_or, Nat.testBit_two_pow, decide_eq_false q, Bool.or_false]
      omega
theorem f_gn_le (A : ZA) : f_gn A ≤ A.s.1.1 := f_cnt_le _ _
theorem f_sub_g {A : ZA} {m g : Nat} (hg : g < A.s.1.1) (hg2 : A.s.2 0 g = 0) (h : f_sub m (f_gwb A) = true) : f_sub (m ||| 2 ^ g) (f_gwb A) = true := by
  rw [f_sub_iff] at h ⊢
  intro i hi
  rw [Nat.testBit_or, Nat.testBit_two_pow] at hi
  by_cases q : g = i
  · subst q
    unfold f_gwb
    rw [f_bits_tb, decide_eq_true hg, Bool.true_and]
    exact decide_eq_true hg2
  · rw [decide_eq_false q, Bool.or_false] at hi
    exact h i hi
theorem f_sub_cnt {A : ZA} {m g : Nat} (h8 : A.s.1.1 ≤ 8) (hg : g < A.s.1.1) (hg2 : A.s.2 0 g = 0) (h : f_sub m (f_gwb A) = true) (hm : m.testBit g = false) : f_cnt m.testBit 9 + 1 ≤ f_gn A := by
  rw [← f_cnt_or hm 9 (by omega)]
  have h1 := f_cnt_mono (f_sub_iff.mp (f_sub_g hg hg2 h)) 9
  have h2 := f_bits_cnt (p := fun i => decide (A.s.2 0 i = nI 0)) (n := A.s.1.1) (9 - A.s.1.1)
  rw [show A.s.1.1 + (9 - A.s.1.1) = 9 by omega] at h2
  exact Nat.le_trans h1 (Nat.le_of_eq h2)
theorem f_wo_le (A : ZA) (m : Nat) : f_wo A m ≤ A.s.1.1 := f_rc_le
theorem f_term_le {A : ZA} {m g : Nat} (h8 : A.s.1.1 ≤ 8) (hg : g < A.s.1.1) (hg2 : A.s.2 0 g = 0) : -40320 ≤ f_term A g m ∧ f_term A g m ≤ 40320 := by
  unfold f_term
  split
  · next c =>
    have h1 := f_sub_cnt h8 hg hg2 c.1 c.2
    have h2 := f_gn_le A
    have h3 := f_facN_mul (f_cnt m.testBit 9) (by omega) (f_gn A - 1 - f_cnt m.testBit 9) (by omega) (by omega)
    have h4 := f_wo_le A m
    have h5 := f_wo_le A (m ||| 2 ^ g)
    generalize f_facN (f_cnt m.testBit 9) * f_facN (f_gn A - 1 - f_cnt m.testBit 9) = a at h3 ⊢
    generalize f_wo A m = b at h4 ⊢
    generalize f_wo A (m ||| 2 ^ g) = c at h5 ⊢
    obtain ⟨d, hd, hd2, hd3⟩ : ∃ d : Int, (c : Int) - (b : Int) = d ∧ -8 ≤ d ∧ d ≤ 8 := ⟨_, rfl, by omega, by omega⟩
    rw [hd]
    have h6 : (a : Int) * d ≤ (a : Int) * 8 := Int.mul_le_mul_of_nonneg_left hd3 (by omega)
    have h7 : (a : Int) * (-8) ≤ (a : Int) * d := Int.mul_le_mul_of_nonneg_left hd2 (by omega)
    omega
  · omega
theorem f_more_le {A : ZA} {g : Nat} (h8 : A.s.1.1 ≤ 8) (hg : g < A.s.1.1) (hg2 : A.s.2 0 g = 0) : ∀ m : Nat, -40320 * (m : Int) ≤ f_more A g m ∧ f_more A g m ≤ 40320 * (m : Int)
  | 0 => by simp [f_more]
  | m + 1 => by
    have h1 := f_more_le h8 hg hg2 m
    have h2 := f_term_le (m := m) h8 hg hg2
    unfold f_more
    omega
theorem z_ofI32 {z : Int} (h1 : -2147483648 ≤ z) (h2 : z < 2147483648) : (Int32.ofInt z).toInt64 = Int64.ofInt z := by
  refine Int64.toInt_inj.mp ?_
  rw [Int32.toInt_toInt64, Int32.toInt_ofInt_of_le (by exact h1) (by exact h2), Int64.toInt_ofInt_of_le (by omega) (by omega)]
theorem f_abs_I {z : Int} (h1 : -4611686018427387904 < z) (h2 : z < 4611686018427387904) : f_abs (Int64.ofInt z) = lN z.natAbs := by
  have e : (Int64.ofInt z).toInt = z := Int64.toInt_ofInt_of_le (by omega) (by omega)
  have e0 : (lN 0).toInt = 0 := rfl
  refine Int64.toInt_inj.mp ?_
  rw [lN_Z (by omega)]
  unfold f_abs
  by_cases c : Int64.ofInt z < lN 0
  · rw [if_pos c]
    rw [Int64.lt_iff_toInt_lt, e, e0] at c
    rw [Int64.toInt_neg, e, Int.bmod_eq_of_le (by omega) (by omega)]
    omega
  · rw [if_neg c, e]
    rw [Int64.lt_iff_toInt_lt, e, e0] at c
    omega
theorem lN_I (n : Nat) : lN n = Int64.ofInt (n : Int) := (Int64.ofInt_eq_ofNat).symm
theorem nI_I (n : Nat) : nI n = Int32.ofInt (n : Int) := (Int32.ofInt_eq_ofNat).symm
end
