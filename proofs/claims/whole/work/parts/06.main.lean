/-! that a block's list of instructions is the bytecode's, and that the evaluator is right about it -/
def z_own (mid : Nat) : String := (z_my mid).cls
def z_i32 (n : Int) : Bool := decide (-2147483648 ≤ n) && decide (n < 2147483648)
def z_jmp (pc : Nat) (off : Int) (a : Nat) : Bool := decide ((pc : Int) + off = (a : Int))
def z_fdc (mid idx a b pl : Nat) : Bool := match z_cls[a]? with
  | some r => decide (b < r.2.2) && z_at pl (.fieldLink (z_own mid) idx (r.2.1 b).1 (r.2.1 b).2.1 (r.2.1 b).2.2.1)
  | none => false
def z_fin (mid a b : Nat) : Bool := match z_cls[a]? with
  | some r => (r.2.1 b).2.2.2 == false || (decide ((z_my mid).name = "<init>") && decide ((r.2.1 b).1 = z_own mid))
  | none => false
def z_cic (c a : Nat) : Bool := match z_cls[c]? with
  | some r => decide (r.1 = z_own a)
  | none => false
def z_clk (mid idx c n pl : Nat) : Bool := match z_cls[c]? with
  | some r => decide (n = r.2.2) && z_at pl (.classLink (z_own mid) idx r.1)
  | none => false
def z_nst (mid idx a k : Nat) : Bool := match z_nest[k]? with
  | some q => decide (q.1 = z_own mid) && (decide (q.2.1 = idx) && decide (q.2.2.1 = z_my a))
  | none => false
def z_calls (mid a n : Nat) : Bool := z_okc mid a && decide (z_npar a = some n)
def z_nocell (a : Nat) : Bool := decide ((z_rm a).cells = 0) && decide ((z_rm a).slots = 0)
def z_okop (mid pc : Nat) : Instr → Nat → Nat → Nat → Nat → Nat → Bool
  | .iconst n, len, a, _, c, _ => len == 1 && decide (Int32.ofInt n = z_kI c a)
  | .bipush n, len, a, _, c, _ => len == 2 && decide ((Int8.ofInt n).toInt32 = z_kI c a)
  | .sipush n, len, a, _, c, _ => len == 3 && decide ((Int16.ofInt n).toInt32 = z_kI c a)
  | .ldc_w i, len, a, _, c, pl => len == 3 && z_at pl (.constant (z_own mid) i (z_kI c a))
  | .lconst n, len, a, _, _, _ => len == 1 && decide (Int64.ofNat n.val = lN a)
  | .ldc2_w i, len, a, _, _, pl => len == 3 && z_at pl (.constantLong (z_own mid) i (lN a))
  | .iload n, len, a, _, _, _ => len == 2 && a == n
  | .iload_n n, len, a, _, _, _ => len == 1 && a == n.val
  | .aload n, len, a, _, _, _ => len == 2 && a == n
  | .aload_n n, len, a, _, _, _ => len == 1 && a == n.val
  | .lload n, len, a, _, _, _ => len == 2 && a == n
  | .lload_n n, len, a, _, _, _ => len == 1 && a == n.val
  | .istore n, len, a, _, _, _ => (len == 2 && a == n) && decide (n < z_mL mid)
  | .istore_n n, len, a, _, _, _ => (len == 1 && a == n.val) && decide (n.val < z_mL mid)
  | .astore n, len, a, _, _, _ => (len == 2 && a == n) && decide (n < z_mL mid)
  | .astore_n n, len, a, _, _, _ => (len == 1 && a == n.val) && decide (n.val < z_mL mid)
  | .lstore n, len, a, _, _, _ => (len == 2 && a == n) && decide (n + 1 < z_mL mid)
  | .lstore_n n, len, a, _, _, _ => (len == 1 && a == n.val) && decide (n.val + 1 < z_mL mid)
  | .iinc n d, len, a, b, c, _ => (len == 3 && b == n) && (decide (n < z_mL mid) && decide (Int32.ofInt d = z_kI c a))
  | .iadd, len, _, _, _, _ => len == 1
  | .isub, len, _, _, _, _ => len == 1
  | .imul, len, _, _, _, _ => len == 1
  | .iand, len, _, _, _, _ => len == 1
  | .ior, len, _, _, _, _ => len == 1
  | .ixor, len, _, _, _, _ => len == 1
  | .ishl, len, _, _, _, _ => len == 1
  | .ishr, len, _, _, _, _ => len == 1
  | .iushr, len, _, _, _, _ => len == 1
  | .idiv, len, _, _, _, _ => len == 1
  | .irem, len, _, _, _, _ => len == 1
  | .ladd, len, _, _, _, _ => len == 1
  | .lsub, len, _, _, _, _ => len == 1
  | .lmul, len, _, _, _, _ => len == 1
  | .land, len, _, _, _, _ => len == 1
  | .lor, len, _, _, _, _ => len == 1
  | .ldiv, len, _, _, _, _ => len == 1
  | .lrem, len, _, _, _, _ => len == 1
  | .lshl, len, _, _, _, _ => len == 1
  | .lushr, len, _, _, _, _ => len == 1
  | .lneg, len, _, _, _, _ => len == 1
  | .i2l, len, _, _, _, _ => len == 1
  | .l2i, len, _, _, _, _ => len == 1
  | .lcmp, len, _, _, _, _ => len == 1
  | .dup, len, _, _, _, _ => len == 1
  | .dup_x1, len, _, _, _, _ => len == 1
  | .dup2, len, _, _, _, _ => len == 1
  | .goto off, len, a, _, _, _ => len == 3 && z_jmp pc off a
  | .ifCond _ off, len, a, _, _, _ => len == 3 && z_jmp pc off a
  | .if_icmp _ off, len, a, _, _, _ => len == 3 && z_jmp pc off a
  | .ifnull off, len, a, _, _, _ => len == 3 && z_jmp pc off a
  | .ifnonnull off, len, a, _, _, _ => len == 3 && z_jmp pc off a
  | .aconst_null, len, _, _, _, _ => len == 1
  | .getfield i, len, a, b, c, pl => len == 3 && (decide (z_fk a b = c) && z_fdc mid i a b pl)
  | .putfield i, len, a, b, c, pl => len == 3 && (decide (z_fk a b = c) && (z_fin mid a b && z_fdc mid i a b pl))
  | .getstatic i, len, _, _, _, pl => len == 3 && z_at pl (.fieldLink (z_own mid) i "MeshParents" "FACTORIAL" "[I")
  | .iaload, len, _, _, _, _ => len == 1
  | .baload, len, _, _, _, _ => len == 1
  | .aaload, len, _, _, _, _ => len == 1
  | .arraylength, len, _, _, _, _ => len == 1
  | .iastore, len, _, _, _, _ => len == 1
  | .bastore, len, _, _, _, _ => len == 1
  | .aastore, len, _, _, _, _ => len == 1
  | .new i, len, a, b, _, pl => len == 3 && z_clk mid i a b pl
  | .newarray .int, len, _, _, _, _ => len == 2
  | .newarray .boolean, len, _, _, _, _ => len == 2
  | .anewarray i, len, a, b, _, pl => len == 3 && ((decide (4 ≤ a) && decide (a ≤ 6)) && z_clk mid i (z_ac a) ((z_cls[z_ac a]?).elim 0 fun r => r.2.2) pl)
  | .invokevirtual i, len, a, b, c, pl => len == 3 && (z_at pl (.methodLink (z_own mid) i (z_my a)) && (match b, c with | n + 1, k + 1 => z_calls mid a n && z_cic k a | _, _ => false) && (decide (z_kindOf a = 2) && z_nocell a))
  | .invokestatic i, len, a, b, c, pl => len == 3 && (z_at pl (.methodLink (z_own mid) i (z_my a)) && (c == 0 && z_calls mid a b) && (decide (z_kindOf a = 0) && z_nocell a))
  | .invokespecial i, len, a, b, c, pl => len == 3 && if c = 99 then z_at pl (.methodLink (z_own mid) i objectInit) && (decide (1 ≤ (z_rm mid).frames) && decide (20 ≤ (z_rm mid).locals))
    else (z_at pl (.methodLink (z_own mid) i (z_my a)) || z_nst mid i a pl) && ((match b, c with | n + 1, _ + 1 => z_calls mid a n | _, _ => false) && (decide (z_kindOf a = 1) && decide (z_mr a = none)))
  | .ireturn, len, a, _, _, _ => len == 1 && match z_mr mid with
    | some .int => a == 0
    | some .boolean => a == 1
    | _ => false
  | .lreturn, len, _, _, _, _ => len == 1 && decide (z_mr mid = some .long)
  | .return_, len, _, _, _, _ => len == 1 && decide (z_mr mid = none)
  | .tableswitch d lo hi offs, _, a, b, c, _ => (a == pc && (decide ((b : Int) = lo) && (decide ((c : Int) = hi) && decide (c < 1000)))) && (decide (0 ≤ (pc : Int) + d) && (decide (lo ≤ hi) && decide ((offs.size : Int) = hi - lo + 1)) && offs.toList.all (fun t => decide (0 ≤ (pc : Int) + t)))
  | .lookupswitch d ps, _, a, _, _, _ => (a == pc && ((ps.toList.zip (ps.toList.drop 1)).all (fun (x, next) => x.1 < next.1))) && (decide (0 ≤ (pc : Int) + d) && ps.toList.all (fun t => decide (0 ≤ (pc : Int) + t.2) && (decide (0 ≤ t.1) && decide (t.1 < 1000))))
  | _, _, _, _, _, _ => false
/-- is the way over behind it? -/
def z_term : Instr → Bool
  | .goto _ => true
  | .ireturn => true
  | .lreturn => true
  | .return_ => true
  | .tableswitch .. => true
  | .lookupswitch .. => true
  | _ => false
def z_pool : Instr → Bool
  | .ldc_w _ => true
  | .ldc2_w _ => true
  | .getfield _ => true
  | .putfield _ => true
  | .getstatic _ => true
  | .new _ => true
  | .anewarray _ => true
  | .invokevirtual _ => true
  | .invokestatic _ => true
  | .invokespecial _ => true
  | _ => false
def z_chk (mid : Nat) : List ZO → Nat → Nat → List Nat → Bool
  | [], pc, e, _ => pc == e
  | (i, a, b, c) :: r, pc, e, pl => match decode (z_mc mid) pc with
    | .ok (j, len) => decide (j = i) && (z_okop mid pc i len a b c (pl.headD 0) && (if z_term i then r.isEmpty else z_chk mid r (pc + len) e (if z_pool i then pl.tail else pl)))
    | .error _ => false
def z_chks (mid : Nat) : List (Nat × ZE) → List (List Nat) → Bool
  | [], _ => true
  | (pc, x) :: t, pl => z_chk mid x.2.2.1 pc x.2.2.2 (pl.headD []) && z_chks mid t pl.tail
theorem z_len {len n : Nat} (h : (len == n) = true) : len = n := by simpa using h
theorem z_jmpS {pc a : Nat} {off : Int} (h : z_jmp pc off a = true) : (pc : Int) + off = (a : Int) := of_decide_eq_true h
theorem z_tgtS {pc : Nat} {off : Int} (h : 0 ≤ (pc : Int) + off) : (pc : Int) + off = (z_tgt pc off : Int) := by unfold z_tgt; omega
theorem z_i32S {n : Int} (h : z_i32 n = true) : (Int32.ofInt n).toInt = n := by
  simp only [z_i32, Bool.and_eq_true, decide_eq_true_eq] at h
  exact Int32.toInt_ofInt_of_le (by simpa using h.1) (by simpa using h.2)
section
variable {l : Launch} {G : ZG} {mid : Nat} {z0 : Nat × Nat} {Rt : ZR} {pc len a b c pl : Nat} {L : ZL} {st : List Value} {M : ZM} {J : Nat → ZK} {K : ZK}
theorem h_if {cd : Jvm.ClassFile.Cond} {off : Int} (hne : cd ≠ .ne) (hd : decode (z_mc mid) pc = .ok (.ifCond cd off, 3)) (hj : (pc : Int) + off = (a : Int)) (hJ : ∀ t L st M, J t L st M → z_W l G mid z0 Rt t L st M) (hK : ∀ L st M, K L st M → z_W l G mid z0 Rt (pc + 3) L st M) (h : o_if (fun x => z_ic cd x 0) (J a) K L st M) : z_W l G mid z0 Rt pc L st M := by
  match st, h with
  | .int x :: st, ⟨ht, hf⟩ =>
    intro p e s m args below meth c H locs cells slots ls Z hS hN hM hl hlo hC hR
    have kt := fun (q : z_ic cd x 0) => hJ _ _ _ _ (ht q) p e s m args below meth c H locs cells slots ls Z hS hN hM hl hlo hC hR
    have kf := fun (q : ¬ z_ic cd x 0) => hK _ _ _ (hf q) p e s m args below meth c H locs cells slots ls Z hS hN hM hl hlo hC hR
    cases cd with
    | eq => exact lv_if_eq hS.1.1 hS.1.2 hd hj kt kf
    | ne => exact absurd rfl hne
    | lt => exact lv_if_lt hS.1.1 hS.1.2 hd hj kt kf
    | ge => exact lv_if_ge hS.1.1 hS.1.2 hd hj kt kf
    | gt => exact lv_if_gt hS.1.1 hS.1.2 hd hj kt kf
    | le => exact lv_if_le hS.1.1 hS.1.2 hd hj kt kf
theorem h_if2 {cd : Jvm.ClassFile.Cond} {off : Int} (hne : cd ≠ .ne) (hd : decode (z_mc mid) pc = .ok (.if_icmp cd off, 3)) (hj : (pc : Int) + off = (a : Int)) (hJ : ∀ t L st M, J t L st M → z_W l G mid z0 Rt t L st M) (hK : ∀ L st M, K L st M → z_W l G mid z0 Rt (pc + 3) L st M) (h : o_if2 (z_ic cd) (J a) K L st M) : z_W l G mid z0 Rt pc L st M := by
  match st, h with
  | .int y :: .int x :: st, ⟨ht, hf⟩ =>
    intro p e s m args below meth c H locs cells slots ls Z hS hN hM hl hlo hC hR
    have kt := fun (q : z_ic cd x y) => hJ _ _ _ _ (ht q) p e s m args below meth c H locs cells slots ls Z hS hN hM hl hlo hC hR
    have kf := fun (q : ¬ z_ic cd x y) => hK _ _ _ (hf q) p e s m args below meth c H locs cells slots ls Z hS hN hM hl hlo hC hR
    cases cd with
    | eq => exact lv_icmp_eq hS.1.1 hS.1.2 hd hj kt kf
    | ne => exact absurd rfl hne
    | lt => exact lv_icmp_lt hS.1.1 hS.1.2 hd hj kt kf
    | ge => exact lv_icmp_ge hS.1.1 hS.1.2 hd hj kt kf
    | gt => exact lv_icmp_gt hS.1.1 hS.1.2 hd hj kt kf
    | le => exact lv_icmp_le hS.1.1 hS.1.2 hd hj kt kf
theorem h_ifN {off : Int} (hd : decode (z_mc mid) pc = .ok (.ifCond .ne off, 3)) (hj : (pc : Int) + off = (a : Int)) (hJ : ∀ t L st M, J t L st M → z_W l G mid z0 Rt t L st M) (hK : ∀ L st M, K L st M → z_W l G mid z0 Rt (pc + 3) L st M) (h : o_if (fun x => x = 0) K (J a) L st M) : z_W l G mid z0 Rt pc L st M := by
  match st, h with
  | .int x :: st, ⟨ht, hf⟩ =>
    intro p e s m args below meth c H locs cells slots ls Z hS hN hM hl hlo hC hR
    exact lv_if_ne hS.1.1 hS.1.2 hd hj (fun q => hJ _ _ _ _ (hf q) p e s m args below meth c H locs cells slots ls Z hS hN hM hl hlo hC hR) (fun q => hK _ _ _ (ht q) p e s m args below meth c H locs cells slots ls Z hS hN hM hl hlo hC hR)
theorem h_ifN2 {off : Int} (hd : decode (z_mc mid) pc = .ok (.if_icmp .ne off, 3)) (hj : (pc : Int) + off = (a : Int)) (hJ : ∀ t L st M, J t L st M → z_W l G mid z0 Rt t L st M) (hK : ∀ L st M, K L st M → z_W l G mid z0 Rt (pc + 3) L st M) (h : o_if2 (fun x y => x = y) K (J a) L st M) : z_W l G mid z0 Rt pc L st M := by
  match st, h with
  | .int y :: .int x :: st, ⟨ht, hf⟩ =>
    intro p e s m args below meth c H locs cells slots ls Z hS hN hM hl hlo hC hR
    exact lv_icmp_ne hS.1.1 hS.1.2 hd hj (fun q => hJ _ _ _ _ (hf q) p e s m args below meth c H locs cells slots ls Z hS hN hM hl hlo hC hR) (fun q => hK _ _ _ (ht q) p e s m args below meth c H locs cells slots ls Z hS hN hM hl hlo hC hR)
theorem h_ldi {v : Option Value} (row : ∀ x, v = some (.int x) → K L (.int x :: st) M → z_W l G mid z0 Rt pc L st M) (h : o_ldi v K L st M) : z_W l G mid z0 Rt pc L st M := by
  match v, h with
  | some (.int x), h => exact row x rfl h
theorem h_ldl {v : Option Value} (row : ∀ x, v = some (.long x) → K L (.long x :: st) M → z_W l G mid z0 Rt pc L st M) (h : o_ldl v K L st M) : z_W l G mid z0 Rt pc L st M := by
  match v, h with
  | some (.long x), h => exact row x rfl h
theorem h_lda {v : Option Value} (row : ∀ x, v = some (.ref x) → K L (.ref x :: st) M → z_W l G mid z0 Rt pc L st M) (h : o_lda v K L st M) : z_W l G mid z0 Rt pc L st M := by
  match v, h with
  | some (.ref x), h => exact row x rfl h
/-- a row that reads a local -/
theorem z_rowL {n : Nat} {v : Value} {pc' : Nat} {st' : List Value} (hv : z_lg n L = some v) (row : ∀ {p : Program} {e : Env} {R : Room} {s : State} {m : MethodId} {args : Array Value} {below : List Frame} {meth : Method} {c : Code} {H : Heap} {locs : List Loc} {cells slots : Nat} {Z : State → Prop} {ls : Array Slot}, p.tables.exec = Jvm.exec → c.code = z_mc mid → ls[n]? = some (.val (z_em G v)) → W p l e R s m args below meth c H locs cells slots Z (F0 m pc' ls (st'.map (z_em G))) → W p l e R s m args below meth c H locs cells slots Z (F0 m pc ls (st.map (z_em G))))
    (h : z_W l G mid z0 Rt pc' L st' M) : z_W l G mid z0 Rt pc L st M :=
  fun p e s m args below meth c H locs cells slots ls Z hS hN hM hl hlo hC hR => row hS.1.1 hS.1.2 (hl.2 n v hv) (h p e s m args below meth c H locs cells slots ls Z hS hN hM hl hlo hC hR)
/-- a row that writes a local -/
theorem z_rowS {L' : ZL} {pc' : Nat} {st' : List Value} (row : ∀ {p : Program} {e : Env} {R : Room} {s : State} {m : MethodId} {args : Array Value} {below : List Frame} {meth : Method} {c : Code} {H : Heap} {locs : List Loc} {cells slots : Nat} {Z : State → Prop} {ls : Array Slot}, p.tables.exec = Jvm.exec → c.code = z_mc mid → z_lv G (z_mL mid) ls L → (∀ ls' : Array Slot, z_lv G (z_mL mid) ls' L' → W p l e R s m args below meth c H locs cells slots Z (F0 m pc' ls' (st'.map (z_em G)))) → W p l e R s m args below meth c H locs cells slots Z (F0 m pc ls (st.map (z_em G))))
    (h : z_W l G mid z0 Rt pc' L' st' M) : z_W l G mid z0 Rt pc L st M :=
  fun p e s m args below meth c H locs cells slots ls Z hS hN hM hl hlo hC hR => row hS.1.1 hS.1.2 hl (fun ls' hl' => h p e s m args below meth c H locs cells slots ls' Z hS hN hM hl' hlo hC hR)
theorem h_c1 {v : Value} (h : z_c1 v) : (z_em G v).category = 1 := by
  match v, h with
  | .int _, _ => rfl
  | .ref _, _ => rfl
theorem h_get {i : Nat} (hd : decode (z_mc mid) pc = .ok (.getfield i, 3)) (h1 : z_fk a b = c) (h2 : z_fdc mid i a b pl = true) (hK : ∀ L st M, K L st M → z_W l G mid z0 Rt (pc + 3) L st M) (h : o_get a b c K L st M) : z_W l G mid z0 Rt pc L st M := by
  match st, h with
  | .ref o :: st, ⟨ht, h⟩ =>
    unfold z_fdc at h2
    cases hc : z_cls[a]? with
    | none => rw [hc] at h2; cases h2
    | some r =>
      rw [hc] at h2
      simp only [Bool.and_eq_true, decide_eq_true_eq] at h2
      exact s_get hd hc h2.1 h1 (z_at_mem h2.2) ht (hK _ _ _ h)
theorem z_fkty {r : vw_C} (hc : z_cls[a]? = some r) (hb : b < r.2.2) : ∃ ty, parseFieldDescriptor (r.2.1 b).2.2.1 = some ty ∧ z_fk a b = z_kd ty := by
  obtain ⟨-, -, ⟨y, hy, hpd⟩, -⟩ := z_clsok a r hc
  exact ⟨y b, hpd b hb, by unfold z_fk; rw [hy]⟩
theorem z_fvI {o k : Nat} {x : Int32} (t j : Nat) (hj : j ≠ k) : z_fv t (z_u2 M.1 o k x, M.2) o j = z_fv t M o j := z_fv_same t j (if_neg fun z => hj z.2).symm rfl rfl
theorem z_fvL {o k : Nat} {x : Int64} (t j : Nat) (hj : j ≠ k) : z_fv t (M.1, M.2.1, z_uL M.2.2.1 o k x, M.2.2.2) o j = z_fv t M o j := z_fv_same t j rfl rfl (if_neg fun z => hj z.2).symm
theorem z_fvR {o k : Nat} {x : Option Nat} (t j : Nat) (hj : j ≠ k) : z_fv t (M.1, z_uR M.2.1 o k x, M.2.2) o j = z_fv t M o j := z_fv_same t j rfl (if_neg fun z => hj z.2).symm rfl
theorem h_put {i : Nat} (hd : decode (z_mc mid) pc = .ok (.putfield i, 3)) (h1 : z_fk a b = c) (hfi : z_fin mid a b = true) (h2 : z_fdc mid i a b pl = true) (hK : ∀ L st M, K L st M → z_W l G mid z0 Rt (pc + 3) L st M) (h : o_put a b c K L st M) : z_W l G mid z0 Rt pc L st M := by
  unfold z_fdc at h2
  unfold z_fin at hfi
  cases hc : z_cls[a]? with
  | none => rw [hc] at h2; cases h2
  | some r =>
    rw [hc] at h2 hfi
    simp only [Bool.and_eq_true, decide_eq_true_eq] at h2
    simp only [Bool.or_eq_true, beq_iff_eq, Bool.and_eq_true, decide_eq_true_eq] at hfi
    obtain ⟨ty, hty, hfk⟩ := z_fkty hc h2.1
    rw [h1] at hfk
    have base := fun (v : Value) (o : Nat) (M' : ZM) (st : List Value) => s_put (l := l) (G := G) (z0 := z0) (Rt := Rt) (L := L) (M := M) (v := v) (o := o) (M' := M') (ty := ty) (st := st) hd hc h2.1 (z_at_mem h2.2) hfi hty
    match c, st, h with
    | 0, .int x :: .ref o :: st, ⟨ht, h⟩ =>
      refine base (.int x) o (z_u2 M.1 o b x, M.2) st ?_ ?_ ht rfl (fun q hq j => if_neg (fun z => hq z.1)) (fun _ _ _ => rfl) (fun _ _ _ => rfl) (fun j => ?_) (hK _ _ _ h)
      · cases ty <;> first | rfl | (simp [z_kd] at hfk; done)
      · cases ty <;> first | rfl | (simp [z_kd] at hfk; done)
      · by_cases e : j = b
        · subst e; rw [if_pos rfl, h1]; show Value.int (if _ then _ else _) = _; rw [if_pos ⟨rfl, rfl⟩]
        · rw [if_neg e]; exact z_fvI _ j e
    | 3, .int x :: .ref o :: st, ⟨⟨ht, h01⟩, h⟩ =>
      refine base (.int x) o (z_u2 M.1 o b x, M.2) st ?_ ?_ ht rfl (fun q hq j => if_neg (fun z => hq z.1)) (fun _ _ _ => rfl) (fun _ _ _ => rfl) (fun j => ?_) (hK _ _ _ h)
      · rcases h01 with rfl | rfl <;> cases ty <;> first | rfl | (simp [z_kd] at hfk; done)
      · rcases h01 with rfl | rfl <;> cases ty <;> first | rfl | (simp [z_kd] at hfk; done)
      · by_cases e : j = b
        · subst e; rw [if_pos rfl, h1]; show Value.int (if _ then _ else _) = _; rw [if_pos ⟨rfl, rfl⟩]
        · rw [if_neg e]; exact z_fvI _ j e
    | 1, .long x :: .ref o :: st, ⟨ht, h⟩ =>
      refine base (.long x) o (M.1, M.2.1, z_uL M.2.2.1 o b x, M.2.2.2) st ?_ ?_ ht rfl (fun _ _ _ => rfl) (fun _ _ _ => rfl) (fun q hq j => if_neg (fun z => hq z.1)) (fun j => ?_) (hK _ _ _ h)
      · cases ty <;> first | rfl | (simp [z_kd] at hfk; done)
      · cases ty <;> first | rfl | (simp [z_kd] at hfk; done)
      · by_cases e : j = b
        · subst e; rw [if_pos rfl, h1]; show Value.long (if _ then _ else _) = _; rw [if_pos ⟨rfl, rfl⟩]
        · rw [if_neg e]; exact z_fvL _ j e
    | 2, .ref x :: .ref o :: st, ⟨ht, h⟩ =>
      refine base (.ref x) o (M.1, z_uR M.2.1 o b (some x), M.2.2) st ?_ ?_ ht rfl (fun _ _ _ => rfl) (fun q hq j => if_neg (fun z => hq z.1)) (fun _ _ _ => rfl) (fun j => ?_) (hK _ _ _ h)
      · cases ty <;> first | rfl | (simp [z_kd] at hfk; done)
      · cases ty <;> first | rfl | (simp [z_kd] at hfk; done)
      · by_cases e : j = b
        · subst e; rw [if_pos rfl, h1]; show va_rf (if _ then _ else _) = _; rw [if_pos ⟨rfl, rfl⟩]; rfl
        · rw [if_neg e]; exact z_fvR _ j e
    | 2, .null :: .ref o :: st, ⟨ht, h⟩ =>
      refine base .null o (M.1, z_uR M.2.1 o b none, M.2.2) st ?_ ?_ ht rfl (fun _ _ _ => rfl) (fun q hq j => if_neg (fun z => hq z.1)) (fun _ _ _ => rfl) (fun j => ?_) (hK _ _ _ h)
      · cases ty <;> first | rfl | (simp [z_kd] at hfk; done)
      · cases ty <;> first | rfl | (simp [z_kd] at hfk; done)
      · by_cases e : j = b
        · subst e; rw [if_pos rfl, h1]; show va_rf (if _ then _ else _) = _; rw [if_pos ⟨rfl, rfl⟩]; rfl
        · rw [if_neg e]; exact z_fvR _ j e
theorem h_tswS {x : Int32} (hJ : ∀ t L st M, J t L st M → z_W l G mid z0 Rt t L st M) : ∀ (offs : List Int) (k : Nat), k + offs.length ≤ 1000 → z_tsw J pc x k offs L st M → ∀ (n : Nat) (t : Int), offs[n]? = some t → x.toInt = (k : Int) + n → z_W l G mid z0 Rt (z_tgt pc t) L st M
  | [], k, hk, h, n, t, ht, hx => by simp at ht
  | o :: r, k, hk, h, 0, t, ht, hx => by
    simp only [List.getElem?_cons_zero] at ht
    cases ht
    refine hJ _ _ _ _ (h.1 ?_)
    simp only [List.length_cons] at hk
    exact Int32.toInt_inj.mp (by rw [nI_toInt (by omega)]; simpa using hx)
  | o :: r, k, hk, h, n + 1, t, ht, hx => by
    simp only [List.length_cons] at hk
    exact h_tswS hJ r (k + 1) (by omega) h.2 n t (by simpa using ht) (by rw [hx]; omega)
theorem h_lswS {x : Int32} {d : Int} (hJ : ∀ t L st M, J t L st M → z_W l G mid z0 Rt t L st M) : ∀ (ps : List (Int × Int)), (∀ q ∈ ps, 0 ≤ q.1 ∧ q.1 < 1000) → z_lsw J pc x d ps L st M → z_W l G mid z0 Rt (z_tgt pc (Op.lookupswitch.offset ps d x.toInt)) L st M
  | [], hk, h => hJ _ _ _ _ h
  | (k, t) :: r, hk, h => by
    have hk1 := hk (k, t) List.mem_cons_self
    have e : (nI k.toNat).toInt = k := by
      have h0 : 0 ≤ k := hk1.1
      have h1 : k < 1000 := hk1.2
      rw [nI_toInt (by omega)]; omega
    rw [Op.lookupswitch.offset_cons]
    by_cases q : x = nI k.toNat
    · rw [if_pos (by rw [q, e])]
      exact hJ _ _ _ _ (h.1 q)
    · rw [if_neg (fun z => q (Int32.toInt_inj.mp (by rw [e]; exact z.symm)))]
      exact h_lswS hJ r (fun q hq => hk q (List.mem_cons_of_mem _ hq)) (h.2 q)
end
