/-! what the heap holds, what a method stands on -/
def z_b0 (G : ZG) : Nat := G.1.1
def z_cell (G : ZG) (M : ZM) (a : Nat) (H : Heap) : Prop := match (M.2.2.2.1 a).1 with
  | 0 => True
  | 1 => ∃ r, z_cls[(M.2.2.2.1 a).2]? = some r ∧ t_OB (z_ad G a) (G.2.2.1.1 (M.2.2.2.1 a).2) r.2.2 (G.2.2.1.2 (M.2.2.2.1 a).2) H (fun k => z_em G (z_fv (z_fk (M.2.2.2.1 a).2 k) M a k))
  | 2 => H[z_ad G a]? = some (arrV (G.2.2.2.1 2) (M.2.2.2.1 a).2 (fun j => .int (M.1 a j)))
  | 3 => H[z_ad G a]? = some (arrV (G.2.2.2.1 3) (M.2.2.2.1 a).2 (fun j => .int (M.1 a j)))
  | k + 4 => H[z_ad G a]? = some (arrV (G.2.2.2.1 (k + 4)) (M.2.2.2.1 a).2 (fun j => z_em G (va_rf (M.2.1 a j))))
def z_Mo (G : ZG) (M : ZM) (H : Heap) : Prop :=
  (H.size + 2 = z_b0 G + M.2.2.2.2.1 ∧ 2 ≤ M.2.2.2.2.1) ∧ (∀ q : Nat, q < z_b0 G → H[q]? = G.2.2.2.2[q]?) ∧ (∀ a : Nat, (M.2.2.2.1 a).1 ≠ 0 → 2 ≤ a ∧ a < M.2.2.2.2.1) ∧ ∀ a : Nat, z_cell G M a H
def z_aty : Nat → FieldType
  | 2 => .int
  | 3 => .boolean
  | 4 => .object "MeshParents$Node"
  | 5 => .object "MeshParents$Link"
  | _ => .object "MeshParents$Mesh"
def z_Kn (G : ZG) (U : State) : Prop :=
  (∀ (c : Nat) (q : vw_C), z_cls[c]? = some q → u_Kn U q.1 q.2.1 q.2.2 (G.2.2.1.1 c) (G.2.2.1.2 c)) ∧
  (∀ k : Nat, 2 ≤ k → k ≤ 6 → ArrOfT U (G.2.2.2.1 k) (z_aty k) ∧ va_RA U (G.2.2.2.1 k) (z_aty k)) ∧
  va_Z "MeshParents" "FACTORIAL" "[I" (.ref G.1.2.1) (fun q => z_b0 G ≤ q) U G.2.2.2.2 ∧
  va_T .int G.1.2.1 9 (fun j => .int (z_fct j)) (fun q => z_b0 G ≤ q) U G.2.2.2.2 ∧
  (va_X G.1.2.2 G.2.1.1 G.2.1.2 U G.2.2.2.2 ∧ G.1.2.2 < z_b0 G ∧ G.2.2.2.2.size = z_b0 G ∧ G.2.1.1 < 2 ^ 31) ∧
  (∀ q ∈ z_nest, va_Nw (.methodLinkNest q.1 q.2.1 q.2.2.1 q.2.2.2) U) ∧
  (va_AO "MeshParents$Node" U ∧ va_AO "MeshParents$Link" U ∧ va_AO "MeshParents$Mesh" U)
theorem z_Kn.moved {G : ZG} {u U : State} (hvm : u.vm.Alike U.vm) (hn : ∀ q ∈ z_nest, va_Nw (.methodLinkNest q.1 q.2.1 q.2.2.1 q.2.2.2) U) (h : z_Kn G u) : z_Kn G U := by
  obtain ⟨h1, h2, h3, h4, ⟨h5, h5b⟩, h6, h7a, h7b, h7c⟩ := h
  exact ⟨fun c q hq => u_Kn_moved hvm (h1 c q hq), fun k a b => ⟨arrOfT_moved hvm (h2 k a b).1, (h2 k a b).2.moved hvm⟩, h3.moved hvm, h4.moved hvm, ⟨h5.moved hvm, h5b⟩, hn, h7a.moved hvm, h7b.moved hvm, h7c.moved hvm⟩
theorem z_Kn.warm {G : ZG} {s U : State} (hW : s.WarmedH U.vm) (h : z_Kn G s) : z_Kn G U := h.moved hW.alike (fun q hq => (h.2.2.2.2.2.1 q hq).warmM hW)
theorem z_Kn.same {G : ZG} {u U : State} (hv : u.vm = U.vm) (h : z_Kn G u) : z_Kn G U := h.moved (by rw [hv]; exact Vm.Alike.refl _) (fun q hq => (h.2.2.2.2.2.1 q hq).same rfl hv)
def z_ws (mid : Nat) : List Cond := z_cw mid :: z_tb
def z_lv (G : ZG) (nL : Nat) (ls : Array Slot) (L : ZL) : Prop := (ls.size = nL ∧ lv_wf ls) ∧ ∀ (k : Nat) (v : Value), z_lg k L = some v → ls[k]? = some (.val (z_em G v))
def z_Std (mid : Nat) (p : Program) (s : State) (m : MethodId) (args : Array Value) (meth : Method) (c : Code) : Prop :=
  (p.tables.exec = Jvm.exec ∧ c.code = z_mc mid) ∧ c.maxLocals = z_mL mid ∧ meth.sig.returnType = z_mr mid ∧ (∀ w ∈ z_tb, w.before args s = true) ∧ s.vm.findClass (z_my mid).cls = some m.cls ∧ meth.locks = false ∧ meth.name = (z_my mid).name
def z_Cn (mid : Nat) (z0 : Nat × Nat) (M : ZM) (cells slots : Nat) : Prop := (M.2.2.2.2.1 = z0.1 + cells ∧ M.2.2.2.2.2 = z0.2 + slots) ∧ cells ≤ (z_rm mid).cells ∧ slots ≤ (z_rm mid).slots
/-- a method's end: its instruction, and the answer -/
def z_rt (mid pc : Nat) : Option Value → Prop
  | none => decode (z_mc mid) pc = .ok (.return_, 1) ∧ z_mr mid = none
  | some (.int x) => decode (z_mc mid) pc = .ok (.ireturn, 1) ∧ ∃ ty, z_mr mid = some ty ∧ narrow ty (.int x) = .int x
  | some (.long _) => decode (z_mc mid) pc = .ok (.lreturn, 1) ∧ z_mr mid = some .long
  | _ => False
def z_Rets (l : Launch) (G : ZG) (mid : Nat) (z0 : Nat × Nat) (Rt : ZR) (p : Program) (e : Env) (s : State) (m : MethodId) (args : Array Value) (below : List Frame) (meth : Method) (c : Code) (Z : State → Prop) : Prop :=
  ∀ (pc : Nat) (ls : Array Slot) (H : Heap) (locs : List Loc) (cells slots : Nat) (v : Option Value) (M : ZM), z_rt mid pc v → z_Mo G M H → Rt v M → (∀ q ∈ locs, z_b0 G ≤ q.base) → z_Cn mid z0 M cells slots →
    W p l e (z_rm mid) s m args below meth c H locs cells slots Z (F0 m pc ls v.toList)
def z_W (l : Launch) (G : ZG) (mid : Nat) (z0 : Nat × Nat) (Rt : ZR) (pc : Nat) (L : ZL) (st : List Value) (M : ZM) : Prop :=
  ∀ (p : Program) (e : Env) (s : State) (m : MethodId) (args : Array Value) (below : List Frame) (meth : Method) (c : Code) (H : Heap) (locs : List Loc) (cells slots : Nat) (ls : Array Slot) (Z : State → Prop),
    z_Std mid p s m args meth c → z_Kn G s → z_Mo G M H → z_lv G (z_mL mid) ls L → (∀ q ∈ locs, z_b0 G ≤ q.base) → z_Cn mid z0 M cells slots → z_Rets l G mid z0 Rt p e s m args below meth c Z →
    W p l e (z_rm mid) s m args below meth c H locs cells slots Z (F0 m pc ls (st.map (z_em G)))
/-- a method's answer and the memory behind it -/
def z_Qc (G : ZG) (mid : Nat) (M : ZM) (Q : ZR) : Array Value → State → Outcome → State → Prop := fun _ _ o t => ∃ (r : Option Value) (M' : ZM), (o = .returned r ∧ Q r M' ∧ z_Mo G M' t.heap) ∧ (M'.2.2.2.2.1 = M.2.2.2.2.1 + (z_rm mid).cells ∧ M'.2.2.2.2.2 = M.2.2.2.2.2 + (z_rm mid).slots) ∧ ∀ x, r ≠ some (.ref x)
/-- a method, called with these arguments in this memory, comes to its end with Q -/
def z_Ok (l : Launch) (G : ZG) (mid : Nat) (as : List Value) (M : ZM) (Q : ZR) : Prop :=
  Met l (z_my mid) (z_ws mid) (z_rm mid) (fun v U => v = (as.map (z_em G)).toArray ∧ z_Mo G M U.heap ∧ z_Kn G U) (z_Qc G mid M Q) (z_rm mid).cells (z_rm mid).slots (fun q => z_b0 G ≤ q)
/-! locals -/
theorem z_cat (G : ZG) (v : Value) : (z_em G v).category = v.category := by cases v <;> rfl
theorem z_kl_some {x : Option Value} {w : Value} (h : z_kl x = some w) : x = some w ∧ w.category = 1 := by
  cases x with
  | none => cases h
  | some v => cases v <;> first | (simp [z_kl] at h; done) | (simp only [z_kl] at h; cases h; exact ⟨rfl, rfl⟩)
theorem z_lg_s1 : ∀ (L : ZL) (i k : Nat) (v w : Value), z_lg k (z_s1 i v L) = some w → (k = i ∧ w = v) ∨ (k ≠ i ∧ z_lg k L = some w ∧ ¬ (k + 1 = i ∧ w.category = 2))
  | [], i, k, v, w, h => by cases i <;> simp [z_s1, z_lg] at h
  | a :: t, 0, 0, v, w, h => by simp only [z_s1, z_lg] at h; cases h; exact Or.inl ⟨rfl, rfl⟩
  | a :: t, 0, k + 1, v, w, h => by simp only [z_s1, z_lg] at h; exact Or.inr ⟨by omega, h, by omega⟩
  | a :: t, 1, 0, v, w, h => by
    simp only [z_s1, z_lg] at h
    obtain ⟨h1, h2⟩ := z_kl_some h
    exact Or.inr ⟨by omega, by simpa [z_lg] using h1, by omega⟩
  | a :: t, 1, k + 1, v, w, h => by
    simp only [z_s1, z_lg] at h
    rcases z_lg_s1 t 0 k v w h with ⟨h1, h2⟩ | ⟨h1, h2, h3⟩
    · exact Or.inl ⟨by omega, h2⟩
    · exact Or.inr ⟨by omega, by simpa [z_lg] using h2, by omega⟩
  | a :: t, n + 2, 0, v, w, h => by simp only [z_s1, z_lg] at h; exact Or.inr ⟨by omega, by simpa [z_lg] using h, by omega⟩
  | a :: t, n + 2, k + 1, v, w, h => by
    simp only [z_s1, z_lg] at h
    rcases z_lg_s1 t (n + 1) k v w h with ⟨h1, h2⟩ | ⟨h1, h2, h3⟩
    · exact Or.inl ⟨by omega, h2⟩
    · exact Or.inr ⟨by omega, by simpa [z_lg] using h2, fun q => h3 ⟨by omega, q.2⟩⟩
theorem z_lg_s2 : ∀ (L : ZL) (i k : Nat) (v w : Value), z_lg k (z_s2 i v L) = some w → (k = i ∧ w = v) ∨ (k ≠ i ∧ k ≠ i + 1 ∧ z_lg k L = some w ∧ ¬ (k + 1 = i ∧ w.category = 2))
  | [], i, k, v, w, h => by cases i <;> simp [z_s2, z_lg] at h
  | [a], 0, k, v, w, h => by simp [z_s2, z_lg] at h
  | a :: b :: t, 0, 0, v, w, h => by simp only [z_s2, z_lg] at h; cases h; exact Or.inl ⟨rfl, rfl⟩
  | a :: b :: t, 0, 1, v, w, h => by simp [z_s2, z_lg] at h
  | a :: b :: t, 0, k + 2, v, w, h => by simp only [z_s2, z_lg] at h; exact Or.inr ⟨by omega, by omega, h, by omega⟩
  | a :: t, 1, 0, v, w, h => by
    simp only [z_s2, z_lg] at h
    obtain ⟨h1, h2⟩ := z_kl_some h
    exact Or.inr ⟨by omega, by omega, by simpa [z_lg] using h1, by omega⟩
  | a :: t, 1, k + 1, v, w, h => by
    simp only [z_s2, z_lg] at h
    rcases z_lg_s2 t 0 k v w h with ⟨h1, h2⟩ | ⟨h1, h1b, h2, h3⟩
    · exact Or.inl ⟨by omega, h2⟩
    · exact Or.inr ⟨by omega, by omega, by simpa [z_lg] using h2, by omega⟩
  | a :: t, n + 2, 0, v, w, h => by simp only [z_s2, z_lg] at h; exact Or.inr ⟨by omega, by omega, by simpa [z_lg] using h, by omega⟩
  | a :: t, n + 2, k + 1, v, w, h => by
    simp only [z_s2, z_lg] at h
    rcases z_lg_s2 t (n + 1) k v w h with ⟨h1, h2⟩ | ⟨h1, h1b, h2, h3⟩
    · exact Or.inl ⟨by omega, h2⟩
    · exact Or.inr ⟨by omega, by omega, by simpa [z_lg] using h2, fun q => h3 ⟨by omega, q.2⟩⟩
theorem z_lg_mk : ∀ (b : List Bool) (L : ZL) (k : Nat) (w : Value), z_lg k (z_mk1 b L) = some w → z_lg k L = some w
  | [], L, k, w, h => by cases L <;> simp [z_mk1, z_lg] at h
  | true :: b, [], k, w, h => by simp [z_mk1, z_lg] at h
  | false :: b, [], k, w, h => by simp [z_mk1, z_lg] at h
  | true :: b, x :: t, 0, w, h => by simpa [z_mk1, z_lg] using h
  | false :: b, x :: t, 0, w, h => by simp [z_mk1, z_lg] at h
  | true :: b, x :: t, k + 1, w, h => by simp only [z_mk1, z_lg] at h; simpa [z_lg] using z_lg_mk b t k w h
  | false :: b, x :: t, k + 1, w, h => by simp only [z_mk1, z_lg] at h; simpa [z_lg] using z_lg_mk b t k w h
/-- the set locals as a list -/
def z_ll (G : ZG) : Nat → ZL → List (Nat × Value)
  | _, [] => []
  | i, some v :: t => (i, z_em G v) :: z_ll G (i + 1) t
  | i, none :: t => z_ll G (i + 1) t
theorem z_ll_mem {G : ZG} : ∀ (L : ZL) (i k : Nat) (w : Value), z_lg k L = some w → (i + k, z_em G w) ∈ z_ll G i L
  | [], i, k, w, h => by simp [z_lg] at h
  | some v :: t, i, 0, w, h => by simp only [z_lg] at h; cases h; exact List.mem_cons_self
  | none :: t, i, 0, w, h => by simp [z_lg] at h
  | some v :: t, i, k + 1, w, h => by
    simp only [z_lg] at h
    have := z_ll_mem (G := G) t (i + 1) k w h
    rw [show i + (k + 1) = i + 1 + k by omega]
    exact List.mem_cons_of_mem _ this
  | none :: t, i, k + 1, w, h => by
    simp only [z_lg] at h
    have := z_ll_mem (G := G) t (i + 1) k w h
    rw [show i + (k + 1) = i + 1 + k by omega]
    exact this
theorem z_ll_of {G : ZG} : ∀ (L : ZL) (i : Nat) (q : Nat × Value), q ∈ z_ll G i L → ∃ (k : Nat) (w : Value), q = (i + k, z_em G w) ∧ z_lg k L = some w
  | [], i, q, h => by simp [z_ll] at h
  | some v :: t, i, q, h => by
    simp only [z_ll] at h
    rcases List.mem_cons.mp h with rfl | h
    · exact ⟨0, v, rfl, rfl⟩
    · obtain ⟨k, w, h1, h2⟩ := z_ll_of t (i + 1) q h
      exact ⟨k + 1, w, by rw [h1, show i + 1 + k = i + (k + 1) by omega], h2⟩
  | none :: t, i, q, h => by
    simp only [z_ll] at h
    obtain ⟨k, w, h1, h2⟩ := z_ll_of t (i + 1) q h
    exact ⟨k + 1, w, by rw [h1, show i + 1 + k = i + (k + 1) by omega], h2⟩
theorem z_lv.has {G : ZG} {nL : Nat} {ls : Array Slot} {L : ZL} (h : z_lv G nL ls L) : lv_has ls nL (z_ll G 0 L) := by
  refine ⟨h.1.1, h.1.2, fun q hq => ?_⟩
  obtain ⟨k, w, rfl, h2⟩ := z_ll_of L 0 q hq
  rw [Nat.zero_add]
  exact h.2 k w h2
theorem z_lv.st1 {G : ZG} {nL : Nat} {ls : Array Slot} {L : ZL} {i : Nat} {v : Value} (h : lv_has ls nL ((i, z_em G v) :: (z_ll G 0 L).filter (fun q => !(q.1 == i) && !(q.1 + 1 == i && q.2.category == 2)))) : z_lv G nL ls (z_s1 i v L) := by
  refine ⟨⟨h.1, h.2.1⟩, fun k w hk => ?_⟩
  rcases z_lg_s1 L i k v w hk with ⟨rfl, rfl⟩ | ⟨h1, h2, h3⟩
  · exact h.2.2 _ List.mem_cons_self
  · refine h.2.2 (k, z_em G w) (List.mem_cons_of_mem _ (List.mem_filter.mpr ⟨?_, ?_⟩))
    · have := z_ll_mem (G := G) L 0 k w h2
      rwa [Nat.zero_add] at this
    · rw [← z_cat G w] at h3
      simp [h1]
      by_cases a : k + 1 = i
      · exact Or.inr fun b => h3 ⟨a, b⟩
      · exact Or.inl a
theorem z_lv.st2 {G : ZG} {nL : Nat} {ls : Array Slot} {L : ZL} {i : Nat} {v : Value} (h : lv_has ls nL ((i, z_em G v) :: (z_ll G 0 L).filter (fun q => !(q.1 == i) && (!(q.1 == i + 1) && !(q.1 + 1 == i && q.2.category == 2))))) : z_lv G nL ls (z_s2 i v L) := by
  refine ⟨⟨h.1, h.2.1⟩, fun k w hk => ?_⟩
  rcases z_lg_s2 L i k v w hk with ⟨rfl, rfl⟩ | ⟨h1, h1b, h2, h3⟩
  · exact h.2.2 _ List.mem_cons_self
  · refine h.2.2 (k, z_em G w) (List.mem_cons_of_mem _ (List.mem_filter.mpr ⟨?_, ?_⟩))
    · have := z_ll_mem (G := G) L 0 k w h2
      rwa [Nat.zero_add] at this
    · rw [← z_cat G w] at h3
      simp [h1, h1b]
      by_cases a : k + 1 = i
      · exact Or.inr fun b => h3 ⟨a, b⟩
      · exact Or.inl a
theorem z_lv.mk {G : ZG} {nL : Nat} {ls : Array Slot} {L : ZL} (b : List Bool) (h : z_lv G nL ls L) : z_lv G nL ls (z_mk1 b L) := ⟨h.1, fun k w hk => h.2 k w (z_lg_mk b L k w hk)⟩
/-! the heap -/
theorem z_ad_inj {G : ZG} {a b : Nat} (ha : 2 ≤ a) (hb : 2 ≤ b) (h : z_ad G a = z_ad G b) : a = b := by
  match a, b, ha, hb, h with
  | a + 2, b + 2, _, _, h => simp only [z_ad] at h; omega
theorem z_ad_ge {G : ZG} {a : Nat} (ha : 2 ≤ a) : z_ad G a = z_b0 G + (a - 2) := by
  match a, ha with
  | a + 2, _ => rfl
theorem z_fv_same {M M' : ZM} {a : Nat} (t k : Nat) (h1 : M'.1 a k = M.1 a k) (h2 : M'.2.1 a k = M.2.1 a k) (h3 : M'.2.2.1 a k = M.2.2.1 a k) : z_fv t M a k = z_fv t M' a k := by
  match t with
  | 0 => show Value.int _ = Value.int _; rw [h1]
  | 1 => show Value.long _ = Value.long _; rw [h3]
  | 2 => show va_rf _ = va_rf _; rw [h2]
  | t + 3 => show Value.int _ = Value.int _; rw [h1]
theorem z_cell.same {G : ZG} {M M' : ZM} {a : Nat} {H H' : Heap} (h : z_cell G M a H) (h1 : ∀ j, M'.1 a j = M.1 a j) (h2 : ∀ j, M'.2.1 a j = M.2.1 a j) (h3 : ∀ j, M'.2.2.1 a j = M.2.2.1 a j) (h4 : M'.2.2.2.1 a = M.2.2.2.1 a) (h5 : (M.2.2.2.1 a).1 ≠ 0 → H'[z_ad G a]? = H[z_ad G a]?) : z_cell G M' a H' := by
  unfold z_cell at h ⊢
  rw [h4]
  generalize hq : M.2.2.2.1 a = q at h h5 ⊢
  obtain ⟨k, n⟩ := q
  have e1 : (fun j => Value.int (M'.1 a j)) = (fun j => Value.int (M.1 a j)) := funext fun j => by rw [h1]
  have e2 : (fun j => z_em G (va_rf (M'.2.1 a j))) = (fun j => z_em G (va_rf (M.2.1 a j))) := funext fun j => by rw [h2]
  match k, h, h5 with
  | 0, _, _ => trivial
  | 1, ⟨r, h6, h7⟩, h5 =>
    refine ⟨r, h6, (h7.kept (h5 (by simp))).to fun k hk => ?_⟩
    congr 1
    exact z_fv_same _ k (h1 k) (h2 k) (h3 k)
  | 2, h, h5 => show H'[_]? = _; rw [e1, h5 (by simp)]; exact h
  | 3, h, h5 => show H'[_]? = _; rw [e1, h5 (by simp)]; exact h
  | k + 4, h, h5 => show H'[_]? = _; rw [e2, h5 (by simp)]; exact h
/-- one cell changes -/
theorem z_Mo.upd {G : ZG} {M M' : ZM} {H H' : Heap} {a : Nat} (h : z_Mo G M H) (ha : (M.2.2.2.1 a).1 ≠ 0) (hT : M'.2.2.2 = M.2.2.2) (hz : H'.size = H.size) (ho : ∀ q : Nat, q ≠ z_ad G a → H'[q]? = H[q]?) (h1 : ∀ b, b ≠ a → ∀ j, M'.1 b j = M.1 b j) (h2 : ∀ b, b ≠ a → ∀ j, M'.2.1 b j = M.2.1 b j) (h3 : ∀ b, b ≠ a → ∀ j, M'.2.2.1 b j = M.2.2.1 b j) (hc : z_cell G M' a H') : z_Mo G M' H' := by
  obtain ⟨⟨q1, q1b⟩, q2, q3, q4⟩ := h
  have h2a := (q3 a ha).1
  refine ⟨⟨by rw [hz, hT]; exact q1, by rw [hT]; exact q1b⟩, fun q hq => ?_, fun b hb => ?_, fun b => ?_⟩
  · rw [ho q (fun e => by rw [z_ad_ge h2a] at e; omega)]
    exact q2 q hq
  · rw [hT] at hb ⊢
    exact q3 b hb
  · by_cases e : b = a
    · subst e; exact hc
    · refine (q4 b).same (h1 b e) (h2 b e) (h3 b e) (by rw [hT]) fun hb => ho _ fun e2 => e (z_ad_inj (q3 b hb).1 h2a e2)
theorem z_loc {G : ZG} {M : ZM} {H : Heap} {a i : Nat} {locs : List Loc} (h : z_Mo G M H) (ha : (M.2.2.2.1 a).1 ≠ 0) (hl : ∀ q ∈ locs, z_b0 G ≤ q.base) : ∀ q ∈ locs ++ [⟨z_ad G a, i⟩], z_b0 G ≤ q.base := by
  intro q hq
  rcases List.mem_append.mp hq with h1 | h1
  · exact hl q h1
  · rw [List.mem_singleton.mp h1]
    show z_b0 G ≤ z_ad G a
    rw [z_ad_ge (h.2.2.1 a ha).1]
    exact Nat.le_add_right _ _
theorem z_Mo.obj {G : ZG} {M : ZM} {H : Heap} {a ci : Nat} (h : z_Mo G M H) (ha : M.2.2.2.1 a = (1, ci)) : ∃ r, z_cls[ci]? = some r ∧ t_OB (z_ad G a) (G.2.2.1.1 ci) r.2.2 (G.2.2.1.2 ci) H (fun k => z_em G (z_fv (z_fk ci k) M a k)) := by
  have := h.2.2.2 a
  unfold z_cell at this
  rw [ha] at this
  exact this
