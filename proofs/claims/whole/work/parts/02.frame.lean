/-! THE FRAME: an evaluator of bytecode over a memory of numbers; that the machine does what it says -/
abbrev ZM : Type := (Nat → Nat → Int32) × (Nat → Nat → Option Nat) × (Nat → Nat → Int64) × ((Nat → Nat × Nat) × Nat × Nat)
abbrev ZL : Type := List (Option Value)
abbrev ZK : Type := ZL → List Value → ZM → Prop
abbrev ZO : Type := Instr × Nat × Nat × Nat
abbrev ZR : Type := Option Value → ZM → Prop
/-- the surroundings: (where the own cells begin, the class's static array, the script), the script's length and values, class numbers, array classes, the heap at the start -/
abbrev ZG : Type := (Nat × Nat × Nat) × (Nat × (Nat → Int32)) × va_G × (Nat → ClassId) × Heap
def z_ad (G : ZG) : Nat → Nat
  | 0 => G.1.2.1
  | 1 => G.1.2.2
  | n + 2 => G.1.1 + n
def z_em (G : ZG) : Value → Value
  | .ref k => .ref (z_ad G k)
  | v => v
def z_kd : FieldType → Nat
  | .boolean => 3
  | .long => 1
  | .array _ => 2
  | .object _ => 2
  | .int => 0
  | _ => 4
def z_fk (ci k : Nat) : Nat := match z_tys[ci]? with
  | some y => z_kd (y k)
  | none => 0
def z_fv : Nat → ZM → Nat → Nat → Value
  | 1, M, a, k => .long (M.2.2.1 a k)
  | 2, M, a, k => va_rf (M.2.1 a k)
  | _, M, a, k => .int (M.1 a k)
def z_ng (n : Nat) : Int32 := -(nI n)
def z_kI : Nat → Nat → Int32
  | 0, a => nI a
  | _ + 1, a => z_ng a
def z_rem (x y : Int32) : Int32 := x - x / y * y
def z_lrem (x y : Int64) : Int64 := x - x / y * y
def z_shl (x y : Int32) : Int32 := x <<< (y &&& 31)
def z_shr (x y : Int32) : Int32 := x >>> (y &&& 31)
def z_ushr (x y : Int32) : Int32 := (x.toUInt32 >>> (y.toUInt32 &&& Int32.toUInt32 31)).toInt32
def z_lshl (x : Int64) (y : Int32) : Int64 := x <<< (y.toInt64 &&& 63)
def z_lushr (x : Int64) (y : Int32) : Int64 := (x.toUInt64 >>> (y.toInt64.toUInt64 &&& Int64.toUInt64 63)).toInt64
def z_fct : Nat → Int32
  | 0 => 1
  | 1 => 1
  | 2 => 2
  | 3 => 6
  | 4 => 24
  | 5 => 120
  | 6 => 720
  | 7 => 5040
  | _ => 40320
def z_u2 (f : Nat → Nat → Int32) (a k : Nat) (x : Int32) : Nat → Nat → Int32 := fun b j => if b = a ∧ j = k then x else f b j
def z_uR (f : Nat → Nat → Option Nat) (a k : Nat) (x : Option Nat) : Nat → Nat → Option Nat := fun b j => if b = a ∧ j = k then x else f b j
def z_uL (f : Nat → Nat → Int64) (a k : Nat) (x : Int64) : Nat → Nat → Int64 := fun b j => if b = a ∧ j = k then x else f b j
def z_ix (i : Int32) : Nat := i.toNatClampNeg
/-! locals -/
def z_lg : Nat → ZL → Option Value
  | _, [] => none
  | 0, a :: _ => a
  | n + 1, _ :: t => z_lg n t
def z_kl : Option Value → Option Value
  | some (.long _) => none
  | some (.double _) => none
  | x => x
def z_s1 : Nat → Value → ZL → ZL
  | _, _, [] => []
  | 0, v, _ :: t => some v :: t
  | 1, v, a :: t => z_kl a :: z_s1 0 v t
  | n + 2, v, a :: t => a :: z_s1 (n + 1) v t
def z_s2 : Nat → Value → ZL → ZL
  | 0, v, _ :: _ :: t => some v :: none :: t
  | 1, v, a :: t => z_kl a :: z_s2 0 v t
  | n + 2, v, a :: t => a :: z_s2 (n + 1) v t
  | _, _, _ => []
def z_mk1 : List Bool → ZL → ZL
  | true :: b, x :: t => x :: z_mk1 b t
  | false :: b, _ :: t => none :: z_mk1 b t
  | _, _ => []
/-! the instructions -/
def o_kI (x : Int32) (K : ZK) (L : ZL) (st : List Value) (M : ZM) : Prop := K L (.int x :: st) M
def o_kL (x : Int64) (K : ZK) (L : ZL) (st : List Value) (M : ZM) : Prop := K L (.long x :: st) M
def o_ldi : Option Value → ZK → ZL → List Value → ZM → Prop
  | some (.int x), K, L, st, M => K L (.int x :: st) M
  | _, _, _, _, _ => False
def o_ldl : Option Value → ZK → ZL → List Value → ZM → Prop
  | some (.long x), K, L, st, M => K L (.long x :: st) M
  | _, _, _, _, _ => False
def o_lda : Option Value → ZK → ZL → List Value → ZM → Prop
  | some (.ref x), K, L, st, M => K L (.ref x :: st) M
  | _, _, _, _, _ => False
def o_sti : Nat → ZK → ZL → List Value → ZM → Prop
  | n, K, L, .int x :: st, M => K (z_s1 n (.int x) L) st M
  | _, _, _, _, _ => False
def o_sta : Nat → ZK → ZL → List Value → ZM → Prop
  | n, K, L, .ref x :: st, M => K (z_s1 n (.ref x) L) st M
  | _, _, _, _, _ => False
def o_stl : Nat → ZK → ZL → List Value → ZM → Prop
  | n, K, L, .long x :: st, M => K (z_s2 n (.long x) L) st M
  | _, _, _, _, _ => False
def o_inc : Nat → Int32 → Option Value → ZK → ZL → List Value → ZM → Prop
  | n, d, some (.int x), K, L, st, M => K (z_s1 n (.int (x + d)) L) st M
  | _, _, _, _, _, _, _ => False
def o_b2 (f : Int32 → Int32 → Int32) : ZK → ZL → List Value → ZM → Prop
  | K, L, .int y :: .int x :: st, M => K L (.int (f x y) :: st) M
  | _, _, _, _ => False
def o_bz (f : Int32 → Int32 → Int32) : ZK → ZL → List Value → ZM → Prop
  | K, L, .int y :: .int x :: st, M => ¬ y = 0 ∧ K L (.int (f x y) :: st) M
  | _, _, _, _ => False
def o_l2 (f : Int64 → Int64 → Int64) : ZK → ZL → List Value → ZM → Prop
  | K, L, .long y :: .long x :: st, M => K L (.long (f x y) :: st) M
  | _, _, _, _ => False
def o_lz (f : Int64 → Int64 → Int64) : ZK → ZL → List Value → ZM → Prop
  | K, L, .long y :: .long x :: st, M => ¬ y = 0 ∧ K L (.long (f x y) :: st) M
  | _, _, _, _ => False
def o_ls (f : Int64 → Int32 → Int64) : ZK → ZL → List Value → ZM → Prop
  | K, L, .int y :: .long x :: st, M => K L (.long (f x y) :: st) M
  | _, _, _, _ => False
def o_lneg : ZK → ZL → List Value → ZM → Prop
  | K, L, .long x :: st, M => K L (.long (-x) :: st) M
  | _, _, _, _ => False
def o_i2l : ZK → ZL → List Value → ZM → Prop
  | K, L, .int x :: st, M => K L (.long x.toInt64 :: st) M
  | _, _, _, _ => False
def o_l2i : ZK → ZL → List Value → ZM → Prop
  | K, L, .long x :: st, M => K L (.int x.toInt32 :: st) M
  | _, _, _, _ => False
def o_lcmp : ZK → ZL → List Value → ZM → Prop
  | K, L, .long y :: .long x :: st, M => K L (.int (lg_cmp x y) :: st) M
  | _, _, _, _ => False
def z_c1 : Value → Prop
  | .int _ => True
  | .ref _ => True
  | _ => False
def o_dup : ZK → ZL → List Value → ZM → Prop
  | K, L, v :: st, M => z_c1 v ∧ K L (v :: v :: st) M
  | _, _, _, _ => False
def o_dupx1 : ZK → ZL → List Value → ZM → Prop
  | K, L, v :: w :: st, M => (z_c1 v ∧ z_c1 w) ∧ K L (v :: w :: v :: st) M
  | _, _, _, _ => False
def o_dup2 : ZK → ZL → List Value → ZM → Prop
  | K, L, v :: w :: st, M => (z_c1 v ∧ z_c1 w) ∧ K L (v :: w :: v :: w :: st) M
  | _, _, _, _ => False
def o_if (c : Int32 → Prop) (J K : ZK) : ZL → List Value → ZM → Prop
  | L, .int x :: st, M => (c x → J L st M) ∧ (¬ c x → K L st M)
  | _, _, _ => False
def o_if2 (c : Int32 → Int32 → Prop) (J K : ZK) : ZL → List Value → ZM → Prop
  | L, .int y :: .int x :: st, M => (c x y → J L st M) ∧ (¬ c x y → K L st M)
  | _, _, _ => False
def z_ic : Jvm.ClassFile.Cond → Int32 → Int32 → Prop
  | .eq, x, y => x = y
  | .ne, x, y => ¬ x = y
  | .lt, x, y => x < y
  | .ge, x, y => y ≤ x
  | .gt, x, y => y < x
  | .le, x, y => x ≤ y
def o_ifnull (J K : ZK) : ZL → List Value → ZM → Prop
  | L, .null :: st, M => J L st M
  | L, .ref _ :: st, M => K L st M
  | _, _, _ => False
def o_get (ci k ty : Nat) : ZK → ZL → List Value → ZM → Prop
  | K, L, .ref o :: st, M => M.2.2.2.1 o = (1, ci) ∧ K L (z_fv ty M o k :: st) M
  | _, _, _, _ => False
def o_put (ci k : Nat) : Nat → ZK → ZL → List Value → ZM → Prop
  | 0, K, L, .int x :: .ref o :: st, M => M.2.2.2.1 o = (1, ci) ∧ K L st (z_u2 M.1 o k x, M.2)
  | 3, K, L, .int x :: .ref o :: st, M => (M.2.2.2.1 o = (1, ci) ∧ (x = 0 ∨ x = 1)) ∧ K L st (z_u2 M.1 o k x, M.2)
  | 1, K, L, .long x :: .ref o :: st, M => M.2.2.2.1 o = (1, ci) ∧ K L st (M.1, M.2.1, z_uL M.2.2.1 o k x, M.2.2.2)
  | 2, K, L, .ref x :: .ref o :: st, M => M.2.2.2.1 o = (1, ci) ∧ K L st (M.1, z_uR M.2.1 o k (some x), M.2.2)
  | 2, K, L, .null :: .ref o :: st, M => M.2.2.2.1 o = (1, ci) ∧ K L st (M.1, z_uR M.2.1 o k none, M.2.2)
  | _, _, _, _, _ => False
def o_iald (G : ZG) : Nat → ZK → ZL → List Value → ZM → Prop
  | 0, K, L, .int i :: .ref o :: st, M => ((M.2.2.2.1 o).1 = 2 ∧ vp_in i (M.2.2.2.1 o).2) ∧ K L (.int (M.1 o (z_ix i)) :: st) M
  | 1, K, L, .int i :: .ref 0 :: st, M => vp_in i 9 ∧ K L (.int (z_fct (z_ix i)) :: st) M
  | 2, K, L, .int i :: .ref 1 :: st, M => vp_in i G.2.1.1 ∧ K L (.int (G.2.1.2 (z_ix i)) :: st) M
  | _, _, _, _, _ => False
def o_zald : ZK → ZL → List Value → ZM → Prop
  | K, L, .int i :: .ref o :: st, M => ((M.2.2.2.1 o).1 = 3 ∧ vp_in i (M.2.2.2.1 o).2) ∧ K L (.int (M.1 o (z_ix i)) :: st) M
  | _, _, _, _ => False
def o_aald : ZK → ZL → List Value → ZM → Prop
  | K, L, .int i :: .ref o :: st, M => ((4 ≤ (M.2.2.2.1 o).1 ∧ (M.2.2.2.1 o).1 ≤ 6) ∧ vp_in i (M.2.2.2.1 o).2) ∧ K L (va_rf (M.2.1 o (z_ix i)) :: st) M
  | _, _, _, _ => False
def o_alen (G : ZG) : ZK → ZL → List Value → ZM → Prop
  | K, L, .ref 1 :: st, M => K L (.int (nI G.2.1.1) :: st) M
  | _, _, _, _ => False
def o_iast : ZK → ZL → List Value → ZM → Prop
  | K, L, .int x :: .int i :: .ref o :: st, M => ((M.2.2.2.1 o).1 = 2 ∧ vp_in i (M.2.2.2.1 o).2) ∧ K L st (z_u2 M.1 o (z_ix i) x, M.2)
  | _, _, _, _ => False
def o_zast : ZK → ZL → List Value → ZM → Prop
  | K, L, .int x :: .int i :: .ref o :: st, M => (((M.2.2.2.1 o).1 = 3 ∧ vp_in i (M.2.2.2.1 o).2) ∧ (x = 0 ∨ x = 1)) ∧ K L st (z_u2 M.1 o (z_ix i) x, M.2)
  | _, _, _, _ => False
/-- an array of references: what its objects' class is -/
def z_ac : Nat → Nat
  | 4 => 3
  | 5 => 1
  | _ => 2
def o_aast : ZK → ZL → List Value → ZM → Prop
  | K, L, .ref v :: .int i :: .ref o :: st, M => (((4 ≤ (M.2.2.2.1 o).1 ∧ (M.2.2.2.1 o).1 ≤ 6) ∧ vp_in i (M.2.2.2.1 o).2) ∧ M.2.2.2.1 v = (1, z_ac (M.2.2.2.1 o).1)) ∧ K L st (M.1, z_uR M.2.1 o (z_ix i) (some v), M.2.2)
  | _, _, _, _ => False
/-- a new cell: its places hold nothing yet -/
def z_nw (M : ZM) (t : Nat × Nat) (n : Nat) : ZM := (fun b j => if b = M.2.2.2.2.1 then 0 else M.1 b j, fun b j => if b = M.2.2.2.2.1 then none else M.2.1 b j, fun b j => if b = M.2.2.2.2.1 then 0 else M.2.2.1 b j, fun b => if b = M.2.2.2.2.1 then t else M.2.2.2.1 b, M.2.2.2.2.1 + 1, M.2.2.2.2.2 + n)
def z_rmk (R : Room) (z0 : Nat × Nat) (M : ZM) (c n : Nat) : Prop := M.2.2.2.2.1 + c ≤ z0.1 + R.cells ∧ M.2.2.2.2.2 + n ≤ z0.2 + R.slots
def o_new (R : Room) (z0 : Nat × Nat) (ci n : Nat) (K : ZK) (L : ZL) (st : List Value) (M : ZM) : Prop := z_rmk R z0 M 1 n ∧ K L (.ref M.2.2.2.2.1 :: st) (z_nw M (1, ci) n)
def o_newa (R : Room) (z0 : Nat × Nat) (k : Nat) : ZK → ZL → List Value → ZM → Prop
  | K, L, .int n :: st, M => (z_rmk R z0 M 1 (z_ix n) ∧ (¬ n < 0 ∧ z_ix n ≤ 65536)) ∧ K L (.ref M.2.2.2.2.1 :: st) (z_nw M (k, z_ix n) (z_ix n))
  | _, _, _, _ => False
/-- what goes on behind a call -/
def z_af (K : ZK) (L : ZL) (st : List Value) : ZR := fun r M => K L (r.toList ++ st) M
def z_sh : List Value → Prop
  | [] => True
  | [_] => True
  | [_, _] => True
  | [_, _, _] => True
  | [_, _, _, _] => True
  | _ => False
def z_pop : Nat → (List Value → List Value → Prop) → List Value → List Value → Prop
  | 0, k, acc, st => k acc st
  | n + 1, k, acc, v :: st => z_pop n k (v :: acc) st
  | _, _, _, _ => False
def z_rc : Nat → List Value → ZM → Prop
  | 0, _, _ => True
  | c + 1, .ref o :: _, M => M.2.2.2.1 o = (1, c)
  | _, _, _ => False
def o_call1 (C : Nat → List Value → ZM → ZR → Prop) (mid c : Nat) (K : ZK) (L : ZL) (M : ZM) (as st : List Value) : Prop := (z_rc c as M ∧ z_sh st) ∧ C mid as M (z_af K L st)
def o_call (C : Nat → List Value → ZM → ZR → Prop) (mid n c : Nat) (K : ZK) (L : ZL) (st : List Value) (M : ZM) : Prop := z_pop n (o_call1 C mid c K L M) [] st
/-- a call that makes cells -/
def o_callN (C : Nat → List Value → ZM → ZR → Prop) (R : Room) (z0 : Nat × Nat) (mid n c : Nat) (K : ZK) (L : ZL) (st : List Value) (M : ZM) : Prop := z_rmk R z0 M (z_rm mid).cells (z_rm mid).slots ∧ z_pop n (o_call1 C mid c K L M) [] st
def o_obj : ZK → ZL → List Value → ZM → Prop
  | K, L, .ref _ :: st, M => z_sh st ∧ K L st M
  | _, _, _, _ => False
def o_reti (Rt : ZR) : Nat → ZL → List Value → ZM → Prop
  | 0, _, [.int x], M => Rt (some (.int x)) M
  | 1, _, [.int x], M => (x = 0 ∨ x = 1) ∧ Rt (some (.int x)) M
  | _, _, _, _ => False
def o_retl (Rt : ZR) : ZL → List Value → ZM → Prop
  | _, [.long x], M => Rt (some (.long x)) M
  | _, _, _ => False
def o_ret (Rt : ZR) : ZL → List Value → ZM → Prop
  | _, [], M => Rt none M
  | _, _, _ => False
def z_tgt (pc : Nat) (off : Int) : Nat := ((pc : Int) + off).toNat
def z_tsw (J : Nat → ZK) (pc : Nat) (x : Int32) : Nat → List Int → ZL → List Value → ZM → Prop
  | _, [], _, _, _ => True
  | k, t :: r, L, st, M => (x = nI k → J (z_tgt pc t) L st M) ∧ z_tsw J pc x (k + 1) r L st M
def o_tsw (J : Nat → ZK) (pc lo hi : Nat) (d : Int) (offs : List Int) : ZL → List Value → ZM → Prop
  | L, .int x :: st, M => (x < nI lo → J (z_tgt pc d) L st M) ∧ (nI hi < x → J (z_tgt pc d) L st M) ∧ z_tsw J pc x lo offs L st M
  | _, _, _ => False
def z_lsw (J : Nat → ZK) (pc : Nat) (x : Int32) (d : Int) : List (Int × Int) → ZL → List Value → ZM → Prop
  | [], L, st, M => J (z_tgt pc d) L st M
  | (k, t) :: r, L, st, M => (x = nI k.toNat → J (z_tgt pc t) L st M) ∧ (¬ x = nI k.toNat → z_lsw J pc x d r L st M)
def o_lsw (J : Nat → ZK) (pc : Nat) (d : Int) (ps : List (Int × Int)) : ZL → List Value → ZM → Prop
  | L, .int x :: st, M => z_lsw J pc x d ps L st M
  | _, _, _ => False
def z_hd (G : ZG) (mid : Nat) (z0 : Nat × Nat) (C : Nat → List Value → ZM → ZR → Prop) (Rt : ZR) (J : Nat → ZK) : Instr → Nat → Nat → Nat → ZK → ZL → List Value → ZM → Prop
  | .iconst _, a, _, c, K, L, st, M => o_kI (z_kI c a) K L st M
  | .bipush _, a, _, c, K, L, st, M => o_kI (z_kI c a) K L st M
  | .sipush _, a, _, c, K, L, st, M => o_kI (z_kI c a) K L st M
  | .ldc_w _, a, _, c, K, L, st, M => o_kI (z_kI c a) K L st M
  | .lconst _, a, _, _, K, L, st, M => o_kL (lN a) K L st M
  | .ldc2_w _, a, _, _, K, L, st, M => o_kL (lN a) K L st M
  | .iload _, a, _, _, K, L, st, M => o_ldi (z_lg a L) K L st M
  | .iload_n _, a, _, _, K, L, st, M => o_ldi (z_lg a L) K L st M
  | .aload _, a, _, _, K, L, st, M => o_lda (z_lg a L) K L st M
  | .aload_n _, a, _, _, K, L, st, M => o_lda (z_lg a L) K L st M
  | .lload _, a, _, _, K, L, st, M => o_ldl (z_lg a L) K L st M
  | .lload_n _, a, _, _, K, L, st, M => o_ldl (z_lg a L) K L st M
  | .istore _, a, _, _, K, L, st, M => o_sti a K L st M
  | .istore_n _, a, _, _, K, L, st, M => o_sti a K L st M
  | .astore _, a, _, _, K, L, st, M => o_sta a K L st M
  | .astore_n _, a, _, _, K, L, st, M => o_sta a K L st M
  | .lstore _, a, _, _, K, L, st, M => o_stl a K L st M
  | .lstore_n _, a, _, _, K, L, st, M => o_stl a K L st M
  | .iinc _ _, a, b, c, K, L, st, M => o_inc b (z_kI c a) (z_lg b L) K L st M
  | .iadd, _, _, _, K, L, st, M => o_b2 (fun x y => x + y) K L st M
  | .isub, _, _, _, K, L, st, M => o_b2 (fun x y => x - y) K L st M
  | .imul, _, _, _, K, L, st, M => o_b2 (fun x y => x * y) K L st M
  | .iand, _, _, _, K, L, st, M => o_b2 (fun x y => x &&& y) K L st M
  | .ior, _, _, _, K, L, st, M => o_b2 (fun x y => x ||| y) K L st M
  | .ixor, _, _, _, K, L, st, M => o_b2 (fun x y => x ^^^ y) K L st M
  | .ishl, _, _, _, K, L, st, M => o_b2 z_shl K L st M
  | .ishr, _, _, _, K, L, st, M => o_b2 z_shr K L st M
  | .iushr, _, _, _, K, L, st, M => o_b2 z_ushr K L st M
  | .idiv, _, _, _, K, L, st, M => o_bz (fun x y => x / y) K L st M
  | .irem, _, _, _, K, L, st, M => o_bz z_rem K L st M
  | .ladd, _, _, _, K, L, st, M => o_l2 (fun x y => x + y) K L st M
  | .lsub, _, _, _, K, L, st, M => o_l2 (fun x y => x - y) K L st M
  | .lmul, _, _, _, K, L, st, M => o_l2 (fun x y => x * y) K L st M
  | .land, _, _, _, K, L, st, M => o_l2 (fun x y => x &&& y) K L st M
  | .lor, _, _, _, K, L, st, M => o_l2 (fun x y => x ||| y) K L st M
  | .ldiv, _, _, _, K, L, st, M => o_lz (fun x y => x / y) K L st M
  | .lrem, _, _, _, K, L, st, M => o_lz z_lrem K L st M
  | .lshl, _, _, _, K, L, st, M => o_ls z_lshl K L st M
  | .lushr, _, _, _, K, L, st, M => o_ls z_lushr K L st M
  | .lneg, _, _, _, K, L, st, M => o_lneg K L st M
  | .i2l, _, _, _, K, L, st, M => o_i2l K L st M
  | .l2i, _, _, _, K, L, st, M => o_l2i K L st M
  | .lcmp, _, _, _, K, L, st, M => o_lcmp K L st M
  | .dup, _, _, _, K, L, st, M => o_dup K L st M
  | .dup_x1, _, _, _, K, L, st, M => o_dupx1 K L st M
  | .dup2, _, _, _, K, L, st, M => o_dup2 K L st M
  | .goto _, a, _, _, _, L, st, M => J a L st M
  | .ifCond .ne _, a, _, _, K, L, st, M => o_if (fun x => x = 0) K (J a) L st M
  | .ifCond c _, a, _, _, K, L, st, M => o_if (fun x => z_ic c x 0) (J a) K L st M
  | .if_icmp .ne _, a, _, _, K, L, st, M => o_if2 (fun x y => x = y) K (J a) L st M
  | .if_icmp c _, a, _, _, K, L, st, M => o_if2 (z_ic c) (J a) K L st M
  | .ifnull _, a, _, _, K, L, st, M => o_ifnull (J a) K L st M
  | .ifnonnull _, a, _, _, K, L, st, M => o_ifnull K (J a) L st M
  | .aconst_null, _, _, _, K, L, st, M => K L (.null :: st) M
  | .getfield _, a, b, c, K, L, st, M => o_get a b c K L st M
  | .putfield _, a, b, c, K, L, st, M => o_put a b c K L st M
  | .getstatic _, _, _, _, K, L, st, M => K L (.ref 0 :: st) M
  | .iaload, a, _, _, K, L, st, M => o_iald G a K L st M
  | .baload, _, _, _, K, L, st, M => o_zald K L st M
  | .aaload, _, _, _, K, L, st, M => o_aald K L st M
  | .arraylength, _, _, _, K, L, st, M => o_alen G K L st M
  | .iastore, _, _, _, K, L, st, M => o_iast K L st M
  | .bastore, _, _, _, K, L, st, M => o_zast K L st M
  | .aastore, _, _, _, K, L, st, M => o_aast K L st M
  | .new _, a, b, _, K, L, st, M => o_new (z_rm mid) z0 a b K L st M
  | .newarray .int, _, _, _, K, L, st, M => o_newa (z_rm mid) z0 2 K L st M
  | .newarray .boolean, _, _, _, K, L, st, M => o_newa (z_rm mid) z0 3 K L st M
  | .anewarray _, a, _, _, K, L, st, M => o_newa (z_rm mid) z0 a K L st M
  | .invokevirtual _, a, b, c, K, L, st, M => o_call C a b c K L st M
  | .invokestatic _, a, b, c, K, L, st, M => o_call C a b c K L st M
  | .invokespecial _, a, b, c, K, L, st, M => if c = 99 then o_obj K L st M else o_callN C (z_rm mid) z0 a b c K L st M
  | .ireturn, a, _, _, _, L, st, M => o_reti Rt a L st M
  | .lreturn, _, _, _, _, L, st, M => o_retl Rt L st M
  | .return_, _, _, _, _, L, st, M => o_ret Rt L st M
  | .tableswitch d _ _ offs, a, b, c, _, L, st, M => o_tsw J a b c d offs.toList L st M
  | .lookupswitch d ps, a, _, _, _, L, st, M => o_lsw J a d ps.toList L st M
  | _, _, _, _, _, _, _, _ => False
def z_wp (G : ZG) (mid : Nat) (z0 : Nat × Nat) (C : Nat → List Value → ZM → ZR → Prop) (Rt : ZR) (J : Nat → ZK) (E : ZK) : List ZO → ZL → List Value → ZM → Prop
  | [], L, st, M => E L st M
  | (i, a, b, c) :: r, L, st, M => z_hd G mid z0 C Rt J i a b c (z_wp G mid z0 C Rt J E r) L st M
abbrev ZE : Type := Bool × List Bool × List ZO × Nat
def z_fd : List (Nat × ZE) → Nat → Option ZE
  | [], _ => none
  | (k, x) :: t, p => if p = k then some x else z_fd t p
def z_qs (G : ZG) (mid : Nat) (z0 : Nat × Nat) (C : Nat → List Value → ZM → ZR → Prop) (Rt : ZR) (J0 Jn : Nat → ZK) (pc : Nat) : Option ZE → ZL → List Value → ZM → Prop
  | some (false, bs, ops, e), L, st, M => z_wp G mid z0 C Rt Jn (Jn e) ops (z_mk1 bs L) st M
  | some (true, bs, _, _), L, st, M => J0 pc (z_mk1 bs L) st M
  | none, L, st, M => J0 pc L st M
def z_q (G : ZG) (mid : Nat) (z0 : Nat × Nat) (bk : List (Nat × ZE)) (C : Nat → List Value → ZM → ZR → Prop) (Rt : ZR) (J0 : Nat → ZK) : Nat → Nat → ZL → List Value → ZM → Prop
  | 0, pc, L, st, M => J0 pc L st M
  | n + 1, pc, L, st, M => z_qs G mid z0 C Rt J0 (z_q G mid z0 bk C Rt J0 n) pc (z_fd bk pc) L st M
