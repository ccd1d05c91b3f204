/-! reads behind writes -/
theorem z_u2_s {f : Nat → Nat → Int32} {a k : Nat} {x : Int32} : z_u2 f a k x a k = x := if_pos ⟨rfl, rfl⟩
theorem z_u2_k {f : Nat → Nat → Int32} {a b k j : Nat} {x : Int32} (h : j ≠ k) : z_u2 f a k x b j = f b j := if_neg fun q => h q.2
theorem z_u2_a {f : Nat → Nat → Int32} {a b k j : Nat} {x : Int32} (h : b ≠ a) : z_u2 f a k x b j = f b j := if_neg fun q => h q.1
theorem z_u2_f {f : Nat → Nat → Int32} {a b k : Nat} {x : Int32} (h : b ≠ a) : z_u2 f a k x b = f b := funext fun _ => z_u2_a h
theorem z_uR_s {f : Nat → Nat → Option Nat} {a k : Nat} {x : Option Nat} : z_uR f a k x a k = x := if_pos ⟨rfl, rfl⟩
theorem z_uR_k {f : Nat → Nat → Option Nat} {a b k j : Nat} {x : Option Nat} (h : j ≠ k) : z_uR f a k x b j = f b j := if_neg fun q => h q.2
theorem z_uR_a {f : Nat → Nat → Option Nat} {a b k j : Nat} {x : Option Nat} (h : b ≠ a) : z_uR f a k x b j = f b j := if_neg fun q => h q.1
theorem z_uR_f {f : Nat → Nat → Option Nat} {a b k : Nat} {x : Option Nat} (h : b ≠ a) : z_uR f a k x b = f b := funext fun _ => z_uR_a h
theorem z_uL_s {f : Nat → Nat → Int64} {a k : Nat} {x : Int64} : z_uL f a k x a k = x := if_pos ⟨rfl, rfl⟩
theorem z_uL_k {f : Nat → Nat → Int64} {a b k j : Nat} {x : Int64} (h : j ≠ k) : z_uL f a k x b j = f b j := if_neg fun q => h q.2
theorem z_uL_a {f : Nat → Nat → Int64} {a b k j : Nat} {x : Int64} (h : b ≠ a) : z_uL f a k x b j = f b j := if_neg fun q => h q.1
theorem z_uL_f {f : Nat → Nat → Int64} {a b k : Nat} {x : Int64} (h : b ≠ a) : z_uL f a k x b = f b := funext fun _ => z_uL_a h
/-! the evaluator's equations, for simp: whole applications alone -/
section
variable {G : ZG} {mid : Nat} {z0 : Nat × Nat} {C : Nat → List Value → ZM → ZR → Prop} {Rt : ZR} {J J0 : Nat → ZK} {E K : ZK} {L : ZL} {st : List Value} {M : ZM} {bk : List (Nat × ZE)}
theorem e_nil : z_wp G mid z0 C Rt J E [] L st M = E L st M := rfl
theorem e_cons {i : Instr} {a b c : Nat} {r : List ZO} : z_wp G mid z0 C Rt J E ((i, a, b, c) :: r) L st M = z_hd G mid z0 C Rt J i a b c (z_wp G mid z0 C Rt J E r) L st M := rfl
theorem e_q0 {pc : Nat} : z_q G mid z0 bk C Rt J0 0 pc L st M = J0 pc L st M := rfl
theorem e_q {n pc : Nat} : z_q G mid z0 bk C Rt J0 (n + 1) pc L st M = z_qs G mid z0 C Rt J0 (z_q G mid z0 bk C Rt J0 n) pc (z_fd bk pc) L st M := rfl
theorem e_qf {Jn : Nat → ZK} {pc e : Nat} {bs : List Bool} {ops : List ZO} : z_qs G mid z0 C Rt J0 Jn pc (some (false, bs, ops, e)) L st M = z_wp G mid z0 C Rt Jn (Jn e) ops (z_mk1 bs L) st M := rfl
theorem e_qt {Jn : Nat → ZK} {pc e : Nat} {bs : List Bool} {ops : List ZO} : z_qs G mid z0 C Rt J0 Jn pc (some (true, bs, ops, e)) L st M = J0 pc (z_mk1 bs L) st M := rfl
theorem e_af {r : Option Value} : z_af K L st r M = K L (r.toList ++ st) M := rfl
theorem va_rf_s {a : Nat} : va_rf (some a) = .ref a := rfl
theorem va_rf_n : va_rf none = .null := rfl
end
/-! numbers -/
def z_bi : Bool → Int32
  | true => nI 1
  | false => nI 0
theorem z_bi_0 {b : Bool} : (z_bi b = 0) = (b = false) := by cases b <;> simp [z_bi] <;> decide
theorem z_bi_1 {b : Bool} : (z_bi b = 1) = (b = true) := by cases b <;> simp [z_bi] <;> decide
theorem e_bb {b : Bool} : (b = false ∨ b = true) = True := by cases b <;> simp
theorem e_ix {n : Nat} (h : n < 2147483648) : z_ix (nI n) = n := nI_clamp h
theorem e_vp {n N : Nat} (h : n < N) (hN : N < 2147483648) : vp_in (nI n) N = True := eq_true (vp_in_nI h hN)
theorem e_lt {a b : Nat} (ha : a < 2147483648) (hb : b < 2147483648) : (nI a < nI b) = (a < b) := propext (nI_ltI ha hb)
theorem e_le {a b : Nat} (ha : a < 2147483648) (hb : b < 2147483648) : (nI a ≤ nI b) = (a ≤ b) := propext (nI_leI ha hb)
theorem e_eq {a b : Nat} (ha : a < 2147483648) (hb : b < 2147483648) : (nI a = nI b) = (a = b) := propext (nI_eq ha hb)
theorem e_lt0 {a : Nat} (ha : a < 2147483648) : (nI a < 0) = False := eq_false (nI_pos ha)
theorem e_eq0 {a : Nat} (ha : a < 2147483648) : (nI a = 0) = (a = 0) := by
  have := nI_eq (a := a) (b := 0) ha (by decide)
  rw [nI_0] at this
  exact propext this
theorem e_b0 : (nI 0 = 0 ∨ nI 0 = 1) = True := eq_true (Or.inl rfl)
theorem e_b1 : (nI 1 = 0 ∨ nI 1 = 1) = True := eq_true (Or.inr rfl)
theorem e_11 : (nI 1 = 1) = True := eq_true rfl
theorem e_10 : (nI 1 = 0) = False := eq_false (by decide)
theorem z_f0 {Q : ZR} {M : ZM} {B : Bool} (h : Q (some (.int (z_bi B))) M) (e : B = false) : Q (some (.int (nI 0))) M := by rw [e] at h; exact h
theorem z_f1 {Q : ZR} {M : ZM} {B : Bool} (h : Q (some (.int (z_bi B))) M) (e : B = true) : Q (some (.int (nI 1))) M := by rw [e] at h; exact h
theorem z_fv' {Q : ZR} {M : ZM} {v w : Int32} (h : Q (some (.int v)) M) (e : w = v) : Q (some (.int w)) M := by rw [e]; exact h
theorem z_fm {Q : ZR} {r : Option Value} {f g : Nat → Nat → Int32} {R : (Nat → Nat → Option Nat) × (Nat → Nat → Int64) × ((Nat → Nat × Nat) × Nat × Nat)} (h : Q r (f, R)) (e : g = f) : Q r (g, R) := by rw [e]; exact h
theorem lg_lt {x y : Int64} : (lg_cmp x y < 0) = (x < y) := by
  unfold lg_cmp
  by_cases h : x > y
  · rw [if_pos h]; simp only [eq_iff_iff]; exact ⟨fun q => absurd q (by decide), fun q => absurd q (by have := lg_lt_not h; exact this)⟩
  · rw [if_neg h]
    by_cases e : x = y
    · rw [if_pos e]; subst e; simp only [eq_iff_iff]; exact ⟨fun q => absurd q (by decide), fun q => absurd q h⟩
    · rw [if_neg e]; simp only [eq_iff_iff]
      refine ⟨fun _ => ?_, fun _ => by decide⟩
      have h1 : ¬ y.toInt < x.toInt := fun q => h (Int64.lt_iff_toInt_lt.mpr q)
      have h2 : x.toInt ≠ y.toInt := fun q => e (Int64.toInt_inj.mp q)
      exact Int64.lt_iff_toInt_lt.mpr (by omega)
theorem lg_gt {x y : Int64} : (0 < lg_cmp x y) = (y < x) := by
  unfold lg_cmp
  by_cases h : x > y
  · rw [if_pos h]; simp only [eq_iff_iff]; exact ⟨fun _ => h, fun _ => by decide⟩
  · rw [if_neg h]
    by_cases e : x = y
    · rw [if_pos e]; simp only [eq_iff_iff]; exact ⟨fun q => absurd q (by decide), fun q => absurd q h⟩
    · rw [if_neg e]; simp only [eq_iff_iff]; exact ⟨fun q => absurd q (by decide), fun q => absurd q h⟩
theorem lg_eq {x y : Int64} : (lg_cmp x y = 0) = (x = y) := by
  unfold lg_cmp
  by_cases h : x > y
  · rw [if_pos h]; simp only [eq_iff_iff]; exact ⟨fun q => absurd q (by decide), fun q => by subst q; exact absurd h (fun z => lg_lt_not z z)⟩
  · rw [if_neg h]
    by_cases e : x = y
    · rw [if_pos e]; simp [e]
    · rw [if_neg e]; simp only [eq_iff_iff]; exact ⟨fun q => absurd q (by decide), fun q => absurd q e⟩
/-- a counting loop: its end, its step -/
theorem z_for {α : Type} {P : Nat → α → Prop} (N : Nat) (hx : ∀ s, P N s) (hs : ∀ k, k < N → (∀ s, P (k + 1) s) → ∀ s, P k s) : ∀ k, k ≤ N → ∀ s, P k s := by
  have h : ∀ d k, k + d = N → ∀ s, P k s := by
    intro d
    induction d with
    | zero => intro k hk s; obtain rfl : k = N := by omega
              exact hx s
    | succ d ih => intro k hk s; exact hs k (by omega) (ih (k + 1) (by omega)) s
  intro k hk s
  exact h (N - k) k (by omega) s
theorem z_on_n {k : Nat} (h : k < 1000) : (nI k = z_ng 9) = False := eq_false fun q => by
  have h1 := congrArg Int32.toInt q
  rw [nI_toInt (by omega)] at h1
  have h2 : (z_ng 9).toInt = -9 := by decide
  omega
/-! rows of a memory, changed place by place -/
theorem z_ru {f g : Nat → Nat → Int32} {w k : Nat} {r : Nat → Int32} {x : Int32} (h : ∀ c j, f c j = if c = w then r j else g c j) : ∀ c j, z_u2 f w k x c j = if c = w then (if j = k then x else r j) else g c j := by
  intro c j
  show (if _ then _ else _) = _
  by_cases c1 : c = w
  · subst c1
    by_cases c2 : j = k
    · rw [if_pos ⟨rfl, c2⟩, if_pos rfl, if_pos c2]
    · rw [if_neg (fun q => c2 q.2), if_pos rfl, if_neg c2, h, if_pos rfl]
  · rw [if_neg (fun q => c1 q.1), if_neg c1, h, if_neg c1]
theorem z_ru0 {g : Nat → Nat → Int32} {w : Nat} : ∀ c j, g c j = if c = w then g w j else g c j := by
  intro c j
  by_cases c1 : c = w
  · rw [if_pos c1, c1]
  · rw [if_neg c1]
theorem z_rw {f g : Nat → Nat → Int32} {w : Nat} {r r' : Nat → Int32} (h : ∀ c j, f c j = if c = w then r j else g c j) (hr : ∀ j, r j = r' j) : ∀ c j, f c j = if c = w then r' j else g c j := fun c j => by rw [h, hr]
theorem z_ie {α : Type} {j k : Nat} {x y : α} (h : j = k) : (if j = k then x else y) = x := if_pos h
theorem z_in {α : Type} {j k : Nat} {x y : α} (h : j ≠ k) : (if j = k then x else y) = y := if_neg h
