/-! the rows of single instructions, over the memory -/
section
variable {l : Launch} {G : ZG} {mid : Nat} {z0 : Nat × Nat} {Rt : ZR} {pc : Nat} {L : ZL} {st : List Value} {M : ZM}
theorem z_row {pc' : Nat} {st' : List Value} (row : ∀ {p : Program} {e : Env} {R : Room} {s : State} {m : MethodId} {args : Array Value} {below : List Frame} {meth : Method} {c : Code} {H : Heap} {locs : List Loc} {cells slots : Nat} {Z : State → Prop} {ls : Array Slot}, p.tables.exec = Jvm.exec → c.code = z_mc mid → W p l e R s m args below meth c H locs cells slots Z (F0 m pc' ls (st'.map (z_em G))) → W p l e R s m args below meth c H locs cells slots Z (F0 m pc ls (st.map (z_em G))))
    (h : z_W l G mid z0 Rt pc' L st' M) : z_W l G mid z0 Rt pc L st M :=
  fun p e s m args below meth c H locs cells slots ls Z hS hN hM hl hlo hC hR => row hS.1.1 hS.1.2 (h p e s m args below meth c H locs cells slots ls Z hS hN hM hl hlo hC hR)
theorem z_mask (b : List Bool) (h : z_W l G mid z0 Rt pc (z_mk1 b L) st M) : z_W l G mid z0 Rt pc L st M :=
  fun p e s m args below meth c H locs cells slots ls Z hS hN hM hl hlo hC hR => h p e s m args below meth c H locs cells slots ls Z hS hN hM (hl.mk b) hlo hC hR
theorem s_get {idx ci k ty o : Nat} {r : vw_C} (hd : decode (z_mc mid) pc = .ok (.getfield idx, 3)) (hc : z_cls[ci]? = some r) (hk : k < r.2.2) (hty : z_fk ci k = ty) (hw : Cond.fieldLink (z_my mid).cls idx (r.2.1 k).1 (r.2.1 k).2.1 (r.2.1 k).2.2.1 ∈ z_tb) (ht : M.2.2.2.1 o = (1, ci))
    (h : z_W l G mid z0 Rt (pc + 3) L (z_fv ty M o k :: st) M) : z_W l G mid z0 Rt pc L (.ref o :: st) M := by
  intro p e s m args below meth c H locs cells slots ls Z hS hN hM hl hlo hC hR
  obtain ⟨⟨hx, hb⟩, hml, hr, hts, hown, hlk, hnm⟩ := id hS
  obtain ⟨hin, hnames, ⟨y, hy, hpd⟩, hini, hins⟩ := z_clsok ci r hc
  obtain ⟨r', hr', cell, q1, q2, q3, q4⟩ := hM.obj ht
  obtain rfl : r' = r := Option.some.inj (hr'.symm.trans hc)
  obtain ⟨hSl, hfc, kC, hkC, hkind⟩ := hN.1 ci _ hc
  obtain ⟨cf, kf, fi, f, hi, hsl⟩ := hSl k hk
  refine W.getf hx hb hown (hts _ hw) hi (u_facts hfc hkC (u_lays hts hin hk) hi).1 q1 (by rw [q3]; exact fun h => by cases h) (v := z_em G (z_fv ty M o k)) ?_ rfl rfl hd (h p e s m args below meth c H locs cells slots ls Z hS hN hM hl hlo hC hR)
  rw [hsl, ← hty]
  exact q4 k hk
theorem s_put {idx ci k o : Nat} {v : Value} {M' : ZM} {r : vw_C} {ty : FieldType} (hd : decode (z_mc mid) pc = .ok (.putfield idx, 3)) (hc : z_cls[ci]? = some r) (hk : k < r.2.2) (hw : Cond.fieldLink (z_my mid).cls idx (r.2.1 k).1 (r.2.1 k).2.1 (r.2.1 k).2.2.1 ∈ z_tb) (hfin : (r.2.1 k).2.2.2 = false ∨ ((z_my mid).name = "<init>" ∧ (r.2.1 k).1 = (z_my mid).cls))
    (hpt : parseFieldDescriptor (r.2.1 k).2.2.1 = some ty) (hn : narrow ty (z_em G v) = z_em G v) (hf : fits ty (z_em G v) = true)
    (ht : M.2.2.2.1 o = (1, ci)) (hT : M'.2.2.2 = M.2.2.2) (h1 : ∀ b, b ≠ o → ∀ j, M'.1 b j = M.1 b j) (h2 : ∀ b, b ≠ o → ∀ j, M'.2.1 b j = M.2.1 b j) (h3 : ∀ b, b ≠ o → ∀ j, M'.2.2.1 b j = M.2.2.1 b j)
    (hV : ∀ j, z_fv (z_fk ci j) M' o j = if j = k then v else z_fv (z_fk ci j) M o j)
    (h : z_W l G mid z0 Rt (pc + 3) L st M') : z_W l G mid z0 Rt pc L (v :: .ref o :: st) M := by
  intro p e s m args below meth c H locs cells slots ls Z hS hN hM hl hlo hC hR
  obtain ⟨⟨hx, hb⟩, hml, hr, hts, hown, hlk, hnm⟩ := id hS
  obtain ⟨hin, hnames, ⟨y, hy, hpd⟩, hini, hins⟩ := z_clsok ci r hc
  obtain ⟨r', hr', cell, q1, q2, q3, q4⟩ := hM.obj ht
  obtain rfl : r' = r := Option.some.inj (hr'.symm.trans hc)
  obtain ⟨hSl, hfc, kC, hkC, hkind⟩ := hN.1 ci _ hc
  have hap : ∀ x y, x < r'.2.2 → y < r'.2.2 → x ≠ y → (G.2.2.1.2 ci) x ≠ (G.2.2.1.2 ci) y := by
    intro x y' hx' hy' hne
    obtain ⟨_, _, _, fa, hia, ea⟩ := hSl x hx'
    obtain ⟨_, _, _, fb, hib, eb⟩ := hSl y' hy'
    rw [← ea, ← eb]
    refine u_apart (u_lays hts hin hx') (u_lays hts hin hy') hia hib ?_
    rw [(State.fieldFound?_type hia (hpd x hx')).1, (State.fieldFound?_type hib (hpd y' hy')).1]
    exact hnames x hx' y' hy' hne
  obtain ⟨cf, kf, fi, f, hi, hsl⟩ := hSl k hk
  have hlay := hts _ (hin _ (u_in_lay hk))
  have hst := (u_facts hfc hkC (u_lays hts hin hk) hi).1
  have goal : ∀ H' : Heap, H'[z_ad G o]? = some (cell.setSlot f.slot (z_em G v)) → H'.size = H.size → (∀ q, q ≠ z_ad G o → H'[q]? = H[q]?) → W p l e (z_rm mid) s m args below meth c H' (locs ++ [⟨z_ad G o, f.slot⟩]) cells slots Z (F0 m (pc + 3) ls (st.map (z_em G))) := by
    intro H' e1 e2 e3
    refine h p e s m args below meth c H' _ cells slots ls Z hS hN (hM.upd (by rw [ht]; simp) hT e2 e3 h1 h2 h3 ?_) hl (z_loc hM (by rw [ht]; simp) hlo) ⟨by rw [hT]; exact hC.1, hC.2⟩ hR
    unfold z_cell
    rw [hT, ht]
    refine ⟨_, hc, ?_⟩
    rw [hsl] at e1
    refine t_OB.to (V := updV (fun k => z_em G (z_fv (z_fk ci k) M o k)) k (z_em G v)) ⟨_, e1, q2, q3, t_set q4 hap hk _⟩ (fun j _ => ?_)
    show (if j = k then _ else _) = _
    rw [hV j]
    by_cases e : j = k
    · rw [if_pos e, if_pos e]
    · rw [if_neg e, if_neg e]
  have hhs : f.slot < cell.slots.size := by rw [hsl]; exact k2_hasslot (q4 k hk)
  unfold u_lay at hlay
  cases hF : (r'.2.1 k).2.2.2 with
  | false =>
    rw [if_neg (by rw [hF]; decide)] at hlay
    have h6 := u_store hfc hkC hkind hlay hi hpt hn hf
    exact W.putK hx hb (f := f) ⟨hown, hts _ hw, ⟨_, _, _, hi⟩, hst⟩ (by rw [q2]; exact h6) q1 q3 hhs rfl rfl hd goal
  | true =>
    rcases hfin with h9 | ⟨h9, h9b⟩
    · rw [hF] at h9; cases h9
    rw [if_pos hF] at hlay
    have hcf : m.cls = cf := by
      obtain ⟨_, _, c', _, _, _, -, -, hf', -, -, -, hown2, -⟩ := Cond.laysFinal_spec hlay
      have e1 : c' = cf := by have := hi.symm.trans hf'; simp at this; exact this.1.symm
      rw [h9b] at hown2
      rw [← e1]; exact Option.some.inj (hown.symm.trans hown2)
    have h6 := u_fits hfc hkC hkind (Or.inr hlay) hi hpt hn hf
    exact W.putFinK hx hb hown (hts _ hw) hi hst hcf (hnm.trans h9) (by rw [q2]; exact h6) q1 q3 hhs rfl rfl hd goal
/-! arrays -/
theorem z_Mo.arr {H : Heap} {a k n : Nat} (h : z_Mo G M H) (ha : M.2.2.2.1 a = (k, n)) (hk : k = 2 ∨ k = 3) : H[z_ad G a]? = some (arrV (G.2.2.2.1 k) n (fun j => .int (M.1 a j))) := by
  have := h.2.2.2 a
  unfold z_cell at this
  rw [ha] at this
  rcases hk with rfl | rfl <;> exact this
theorem z_Mo.arq {H : Heap} {a k n : Nat} (h : z_Mo G M H) (ha : M.2.2.2.1 a = (k, n)) (hk : 4 ≤ k) : H[z_ad G a]? = some (arrV (G.2.2.2.1 k) n (fun j => z_em G (va_rf (M.2.1 a j)))) := by
  have := h.2.2.2 a
  unfold z_cell at this
  rw [ha] at this
  match k, hk, this with
  | k + 4, _, this => exact this
theorem z_cell_arq {M : ZM} {H : Heap} {a k n : Nat} (ha : M.2.2.2.1 a = (k, n)) (hk : 4 ≤ k) (h : H[z_ad G a]? = some (arrV (G.2.2.2.1 k) n (fun j => z_em G (va_rf (M.2.1 a j))))) : z_cell G M a H := by
  unfold z_cell
  rw [ha]
  match k, hk, h with
  | k + 4, _, h => exact h
theorem z_upR {M : ZM} {H H' : Heap} {o k n v : Nat} {i : Int32} (hM : z_Mo G M H) (ht : M.2.2.2.1 o = (k, n)) (hk : 4 ≤ k) (e1 : H'[z_ad G o]? = some ((arrV (G.2.2.2.1 k) n (fun j => z_em G (va_rf (M.2.1 o j)))).setSlot i.toNatClampNeg (.ref (z_ad G v)))) (e2 : H'.size = H.size) (e3 : ∀ q, q ≠ z_ad G o → H'[q]? = H[q]?) : z_Mo G (M.1, z_uR M.2.1 o (z_ix i) (some v), M.2.2) H' := by
  refine hM.upd (a := o) (by rw [ht]; show k ≠ 0; omega) rfl e2 e3 (fun _ _ _ => rfl) (fun b hb j => if_neg (fun q => hb q.1)) (fun _ _ _ => rfl) (z_cell_arq (k := k) (n := n) ht hk ?_)
  rw [e1, arrV_store]
  congr 2
  funext j
  show updV _ _ _ j = z_em G (va_rf (z_uR M.2.1 o (z_ix i) (some v) o j))
  unfold updV z_uR z_ix
  by_cases hj : j = i.toNatClampNeg
  · rw [if_pos hj, if_pos ⟨rfl, hj⟩]; rfl
  · rw [if_neg hj, if_neg (fun q => hj q.2)]
theorem z_in_lt {i : Int32} {n : Nat} (h : vp_in i n) : i.toNatClampNeg < n := Nat.not_le.mp fun q => h (Or.inr q)
theorem s_iald {o n : Nat} {i : Int32} (hd : decode (z_mc mid) pc = .ok (.iaload, 1)) (ht : M.2.2.2.1 o = (2, n)) (hi : vp_in i n) (h : z_W l G mid z0 Rt (pc + 1) L (.int (M.1 o (z_ix i)) :: st) M) : z_W l G mid z0 Rt pc L (.int i :: .ref o :: st) M := by
  intro p e s m args below meth c H locs cells slots ls Z hS hN hM hl hlo hC hR
  exact W.iald (v := .int (M.1 o (z_ix i))) hS.1.1 hS.1.2 (hM.arr ht (Or.inl rfl)) ((hN.2.1 2 (by omega) (by omega)).1 n _) (fun q => by cases q) (by rw [arrV_size]; exact hi) (by rw [arrV_read _ _ (z_in_lt hi)]; rfl) rfl rfl hd (h p e s m args below meth c H locs cells slots ls Z hS hN hM hl hlo hC hR)
theorem s_zald {o n : Nat} {i : Int32} (hd : decode (z_mc mid) pc = .ok (.baload, 1)) (ht : M.2.2.2.1 o = (3, n)) (hi : vp_in i n) (h : z_W l G mid z0 Rt (pc + 1) L (.int (M.1 o (z_ix i)) :: st) M) : z_W l G mid z0 Rt pc L (.int i :: .ref o :: st) M := by
  intro p e s m args below meth c H locs cells slots ls Z hS hN hM hl hlo hC hR
  exact W.zald (v := .int (M.1 o (z_ix i))) hS.1.1 hS.1.2 (hM.arr ht (Or.inr rfl)) ((hN.2.1 3 (by omega) (by omega)).1 n _) (fun q => by cases q) (by rw [arrV_size]; exact hi) (by rw [arrV_read _ _ (z_in_lt hi)]; rfl) rfl rfl hd (h p e s m args below meth c H locs cells slots ls Z hS hN hM hl hlo hC hR)
theorem z_atyR {k : Nat} (hk : 4 ≤ k) : (z_aty k).isReference = true := by
  match k, hk with
  | 4, _ => rfl
  | 5, _ => rfl
  | k + 6, _ => rfl
theorem s_aald {o k n : Nat} {i : Int32} (hd : decode (z_mc mid) pc = .ok (.aaload, 1)) (ht : M.2.2.2.1 o = (k, n)) (hk : 4 ≤ k ∧ k ≤ 6) (hi : vp_in i n) (h : z_W l G mid z0 Rt (pc + 1) L (va_rf (M.2.1 o (z_ix i)) :: st) M) : z_W l G mid z0 Rt pc L (.int i :: .ref o :: st) M := by
  intro p e s m args below meth c H locs cells slots ls Z hS hN hM hl hlo hC hR
  exact W.aald (v := z_em G (va_rf (M.2.1 o (z_ix i)))) hS.1.1 hS.1.2 (hM.arq ht hk.1) ((hN.2.1 k (by omega) hk.2).1 n _) (z_atyR hk.1) (fun q => by cases q) (by rw [arrV_size]; exact hi) (by rw [arrV_read _ _ (z_in_lt hi)]; rfl) rfl rfl hd (h p e s m args below meth c H locs cells slots ls Z hS hN hM hl hlo hC hR)
theorem s_iast {o n : Nat} {i x : Int32} (hd : decode (z_mc mid) pc = .ok (.iastore, 1)) (ht : M.2.2.2.1 o = (2, n)) (hi : vp_in i n) (h : z_W l G mid z0 Rt (pc + 1) L st (z_u2 M.1 o (z_ix i) x, M.2)) : z_W l G mid z0 Rt pc L (.int x :: .int i :: .ref o :: st) M := by
  intro p e s m args below meth c H locs cells slots ls Z hS hN hM hl hlo hC hR
  refine W.iast hS.1.1 hS.1.2 (hM.arr ht (Or.inl rfl)) ((hN.2.1 2 (by omega) (by omega)).1 n _) (fun q => by cases q) (by rw [arrV_size]; exact hi) rfl rfl hd fun H' e1 e2 e3 => ?_
  refine h p e s m args below meth c H' _ cells slots ls Z hS hN (hM.upd (by rw [ht]; simp) rfl e2 e3 (fun b hb j => if_neg (fun q => hb q.1)) (fun _ _ _ => rfl) (fun _ _ _ => rfl) ?_) hl (z_loc hM (by rw [ht]; simp) hlo) hC hR
  unfold z_cell
  show match (M.2.2.2.1 o).1 with | 0 => _ | 1 => _ | 2 => _ | 3 => _ | k + 4 => _
  rw [ht]
  show H'[_]? = _
  rw [e1, arrV_store]
  congr 2
  funext j
  show updV _ _ _ j = Value.int (z_u2 M.1 o (z_ix i) x o j)
  unfold updV z_u2 z_ix
  by_cases hj : j = i.toNatClampNeg
  · rw [if_pos hj, if_pos ⟨rfl, hj⟩]
  · rw [if_neg hj, if_neg (fun q => hj q.2)]
theorem s_zast {o n : Nat} {i x : Int32} (hd : decode (z_mc mid) pc = .ok (.bastore, 1)) (ht : M.2.2.2.1 o = (3, n)) (hi : vp_in i n) (hx01 : x = 0 ∨ x = 1) (h : z_W l G mid z0 Rt (pc + 1) L st (z_u2 M.1 o (z_ix i) x, M.2)) : z_W l G mid z0 Rt pc L (.int x :: .int i :: .ref o :: st) M := by
  intro p e s m args below meth c H locs cells slots ls Z hS hN hM hl hlo hC hR
  have hn : narrow .boolean (.int x) = .int x := by rcases hx01 with rfl | rfl <;> rfl
  refine W.zast hS.1.1 hS.1.2 (hM.arr ht (Or.inr rfl)) ((hN.2.1 3 (by omega) (by omega)).1 n _) (fun q => by cases q) (by rw [arrV_size]; exact hi) rfl rfl hd fun H' e1 e2 e3 => ?_
  refine h p e s m args below meth c H' _ cells slots ls Z hS hN (hM.upd (by rw [ht]; simp) rfl e2 e3 (fun b hb j => if_neg (fun q => hb q.1)) (fun _ _ _ => rfl) (fun _ _ _ => rfl) ?_) hl (z_loc hM (by rw [ht]; simp) hlo) hC hR
  unfold z_cell
  show match (M.2.2.2.1 o).1 with | 0 => _ | 1 => _ | 2 => _ | 3 => _ | k + 4 => _
  rw [ht]
  show H'[_]? = _
  rw [e1, arrV_store, hn]
  congr 2
  funext j
  show updV _ _ _ j = Value.int (z_u2 M.1 o (z_ix i) x o j)
  unfold updV z_u2 z_ix
  by_cases hj : j = i.toNatClampNeg
  · rw [if_pos hj, if_pos ⟨rfl, hj⟩]
  · rw [if_neg hj, if_neg (fun q => hj q.2)]
theorem z_acOk {k : Nat} (hk : 4 ≤ k ∧ k ≤ 6) : ∃ r : vw_C, z_cls[z_ac k]? = some r ∧ z_aty k = .object r.1 := by
  obtain ⟨h1, h2⟩ := hk
  rcases (show k = 4 ∨ k = 5 ∨ k = 6 by omega) with rfl | rfl | rfl <;> exact ⟨_, rfl, rfl⟩
theorem s_aast {o v k n : Nat} {i : Int32} (hd : decode (z_mc mid) pc = .ok (.aastore, 1)) (ht : M.2.2.2.1 o = (k, n)) (hk : 4 ≤ k ∧ k ≤ 6) (hi : vp_in i n) (hv : M.2.2.2.1 v = (1, z_ac k)) (h : z_W l G mid z0 Rt (pc + 1) L st (M.1, z_uR M.2.1 o (z_ix i) (some v), M.2.2)) : z_W l G mid z0 Rt pc L (.ref v :: .int i :: .ref o :: st) M := by
  intro p e s m args below meth c H locs cells slots ls Z hS hN hM hl hlo hC hR
  obtain ⟨r, hr, hro⟩ := z_acOk hk
  obtain ⟨r', hr', cellV, g1, g2, g3, -⟩ := hM.obj hv
  have hcls := (hN.1 (z_ac k) r hr).2
  have hra := (hN.2.1 k (by omega) hk.2).2
  rw [hro] at hra
  obtain ⟨kA, comp, k1, k2, k3, -⟩ := hra
  have hcomp : comp = G.2.2.1.1 (z_ac k) := Option.some.inj (k3.symm.trans hcls.1)
  subst hcomp
  obtain ⟨kC, hkC, -⟩ := hcls.2
  refine W.aast hS.1.1 hS.1.2 (hM.arq ht hk.1) (fun q h => by cases h) (fun h => by cases h) k1 k2 rfl hkC ⟨fun q => hi (Or.inl q), by rw [arrV_size]; exact z_in_lt hi⟩ g1 (fun q h => by rw [g3] at h; cases h) (by rw [g2]; exact hkC) (by rw [g2]; exact va_assign hcls) rfl rfl hd fun H' e1 e2 e3 => ?_
  exact h p e s m args below meth c H' _ cells slots ls Z hS hN (z_upR hM ht hk.1 e1 e2 e3) hl (z_loc hM (by rw [ht]; show k ≠ 0; omega) hlo) hC hR
/-! new cells -/
theorem z_ad_new {H : Heap} (h : z_Mo G M H) : z_ad G M.2.2.2.2.1 = H.size := by
  rw [z_ad_ge h.1.2]
  have := h.1.1
  have := h.1.2
  omega
theorem z_Mo.new {H H' : Heap} {t : Nat × Nat} {n : Nat} (h : z_Mo G M H) (hz : H'.size = H.size + 1) (ho : ∀ q : Nat, q < H.size → H'[q]? = H[q]?) (hc : z_cell G (z_nw M t n) M.2.2.2.2.1 H') : z_Mo G (z_nw M t n) H' := by
  obtain ⟨⟨q1, q1b⟩, q2, q3, q4⟩ := id h
  refine ⟨⟨?_, ?_⟩, fun q hq => ?_, fun b hb => ?_, fun b => ?_⟩
  · show H'.size + 2 = z_b0 G + (M.2.2.2.2.1 + 1); omega
  · show 2 ≤ M.2.2.2.2.1 + 1; omega
  · rw [ho q (by omega)]; exact q2 q hq
  · show 2 ≤ b ∧ b < M.2.2.2.2.1 + 1
    by_cases e : b = M.2.2.2.2.1
    · omega
    · have hb2 : ((z_nw M t n).2.2.2.1 b).1 = (M.2.2.2.1 b).1 := by show (if _ then _ else _ : Nat × Nat).1 = _; rw [if_neg e]
      rw [hb2] at hb
      have := q3 b hb
      omega
  · by_cases e : b = M.2.2.2.2.1
    · rw [e]; exact hc
    · refine (q4 b).same (fun j => if_neg e) (fun j => if_neg e) (fun j => if_neg e) (if_neg e) fun hb => ho _ ?_
      have := q3 b hb
      rw [z_ad_ge this.1]
      omega
theorem s_new {idx ci : Nat} {r : vw_C} (hd : decode (z_mc mid) pc = .ok (.new idx, 3)) (hc : z_cls[ci]? = some r) (hw : Cond.classLink (z_my mid).cls idx r.1 ∈ z_tb) (hrm : z_rmk (z_rm mid) z0 M 1 r.2.2) (h : z_W l G mid z0 Rt (pc + 3) L (.ref M.2.2.2.2.1 :: st) (z_nw M (1, ci) r.2.2)) : z_W l G mid z0 Rt pc L st M := by
  intro p e s m args below meth c H locs cells slots ls Z hS hN hM hl hlo hC hR
  obtain ⟨⟨hx, hb⟩, hml, hr, hts, hown, hlk, hnm⟩ := id hS
  obtain ⟨hin, hnames, ⟨y, hy, hpd⟩, hini, hins⟩ := z_clsok ci r hc
  have hKn := hN.1 ci _ hc
  obtain ⟨r1, r2⟩ := hrm
  obtain ⟨⟨c1, c2⟩, c3, c4⟩ := hC
  refine W.newcK hx hb hown (hts _ hw) (hts _ hins) (hts _ hini) rfl hd (by omega) (by omega) hKn.2.1 rfl fun H1 kC hkC e1 z1 o1 => ?_
  have e9 : (F0 m (pc + 3) ls (Value.ref H.size :: st.map (z_em G))) = F0 m (pc + 3) ls ((Value.ref M.2.2.2.2.1 :: st).map (z_em G)) := by
    show F0 _ _ _ _ = F0 m (pc + 3) ls (Value.ref (z_ad G M.2.2.2.2.1) :: st.map (z_em G))
    rw [z_ad_new hM]
  refine W.eq e9 (h p e s m args below meth c H1 locs (cells + 1) (slots + r.2.2) ls Z hS hN (hM.new z1 o1 ?_) hl hlo ⟨⟨by show _ + 1 = _; omega, by show _ + r.2.2 = _; omega⟩, by omega, by omega⟩ hR)
  unfold z_cell
  have ht : (z_nw M (1, ci) r.2.2).2.2.2.1 M.2.2.2.2.1 = (1, ci) := if_pos rfl
  rw [ht, z_ad_new hM]
  refine ⟨r, hc, (u_born y hts hin hKn hkC e1 hpd).to fun k hk => ?_⟩
  show defaultValue (y k) = _
  have : z_fk ci k = z_kd (y k) := by unfold z_fk; rw [hy]
  rw [show (1, ci).2 = ci from rfl, this]
  have hz : (z_nw M (1, ci) r.2.2).1 M.2.2.2.2.1 k = 0 ∧ (z_nw M (1, ci) r.2.2).2.1 M.2.2.2.2.1 k = none ∧ (z_nw M (1, ci) r.2.2).2.2.1 M.2.2.2.2.1 k = 0 := ⟨if_pos rfl, if_pos rfl, if_pos rfl⟩
  generalize z_nw M (1, ci) r.2.2 = M2 at hz
  have hok : y k ≠ .float ∧ y k ≠ .double := by
    have h9 : ∀ (ci : Nat) (r : vw_C) (y : Nat → FieldType), z_cls[ci]? = some r → z_tys[ci]? = some y → ∀ k, k < r.2.2 → y k ≠ .float ∧ y k ≠ .double := by
      intro ci r y h1 h2
      match ci, h1, h2 with
      | 0, h1, h2 => cases h1; cases h2; decide
      | 1, h1, h2 => cases h1; cases h2; decide
      | 2, h1, h2 => cases h1; cases h2; decide
      | 3, h1, h2 => cases h1; cases h2; decide
      | 4, h1, h2 => cases h1; cases h2; decide
      | 5, h1, h2 => cases h1; cases h2; decide
      | 6, h1, h2 => cases h1; cases h2; decide
      | 7, h1, h2 => cases h1; cases h2; decide +kernel
      | n + 8, h1, h2 => simp [z_cls] at h1
    exact h9 ci r y hc hy k hk
  cases hyk : y k with
  | float => exact absurd hyk hok.1
  | double => exact absurd hyk hok.2
  | long => show Value.long 0 = Value.long (M2.2.2.1 _ _); rw [hz.2.2]
  | array t => show Value.null = z_em G (va_rf (M2.2.1 _ _)); rw [hz.2.1]; rfl
  | object t => show Value.null = z_em G (va_rf (M2.2.1 _ _)); rw [hz.2.1]; rfl
  | _ => show Value.int 0 = Value.int (M2.1 _ _); rw [hz.1]
theorem s_newaP {n : Int32} {at0 : ArrayType} {k : Nat} (hd : decode (z_mc mid) pc = .ok (.newarray at0, 2)) (hk : (at0 = .int ∧ k = 2) ∨ (at0 = .boolean ∧ k = 3)) (hrm : z_rmk (z_rm mid) z0 M 1 (z_ix n)) (hn : ¬ n < 0) (hsm : z_ix n ≤ 65536) (h : z_W l G mid z0 Rt (pc + 2) L (.ref M.2.2.2.2.1 :: st) (z_nw M (k, z_ix n) (z_ix n))) : z_W l G mid z0 Rt pc L (.int n :: st) M := by
  intro p e s m args below meth c H locs cells slots ls Z hS hN hM hl hlo hC hR
  obtain ⟨⟨hx, hb⟩, hml, hr, hts, hown, hlk, hnm⟩ := id hS
  obtain ⟨r1, r2⟩ := hrm
  obtain ⟨⟨c1, c2⟩, c3, c4⟩ := hC
  have hk2 : k = 2 ∨ k = 3 := by rcases hk with h | h <;> omega
  have harr : (Cond.arrayClass (newarray.typeOf at0)).before args s = true := by
    rcases hk with ⟨rfl, -⟩ | ⟨rfl, -⟩
    · exact hts _ z_over_in.2.1
    · exact hts _ z_over_in.2.2
  have hby : z_ix n * componentBytes (newarray.typeOf at0) ≤ 536870912 := by
    rcases hk with ⟨rfl, -⟩ | ⟨rfl, -⟩
    · show z_ix n * 4 ≤ _; omega
    · show z_ix n * 1 ≤ _; omega
  refine va_newaK hx hb harr rfl hd rfl hn rfl hby (by omega) (by show slots + z_ix n ≤ _; omega) rfl fun H1 cA e1 z1 o1 hAr hNm => ?_
  have hcA : cA = G.2.2.2.1 k := by
    rcases hk with ⟨rfl, rfl⟩ | ⟨rfl, rfl⟩
    · exact Option.some.inj (hNm.symm.trans (hN.2.1 2 (by omega) (by omega)).2)
    · exact Option.some.inj (hNm.symm.trans (hN.2.1 3 (by omega) (by omega)).2)
  have e9 : (F0 m (pc + 2) ls (Value.ref H.size :: st.map (z_em G))) = F0 m (pc + 2) ls ((Value.ref M.2.2.2.2.1 :: st).map (z_em G)) := by
    show F0 _ _ _ _ = F0 m (pc + 2) ls (Value.ref (z_ad G M.2.2.2.2.1) :: st.map (z_em G))
    rw [z_ad_new hM]
  refine W.eq e9 (h p e s m args below meth c H1 locs (cells + 1) (slots + z_ix n) ls Z hS hN (hM.new z1 o1 ?_) hl hlo ⟨⟨by show _ + 1 = _; omega, by show _ + z_ix n = _; omega⟩, by omega, by omega⟩ hR)
  unfold z_cell
  have ht : (z_nw M (k, z_ix n) (z_ix n)).2.2.2.1 M.2.2.2.2.1 = (k, z_ix n) := if_pos rfl
  rw [ht, z_ad_new hM]
  have hz : ∀ j, (z_nw M (k, z_ix n) (z_ix n)).1 M.2.2.2.2.1 j = 0 := fun j => if_pos rfl
  generalize z_nw M (k, z_ix n) (z_ix n) = M2 at hz
  have e2 : (fun j => Value.int (M2.1 M.2.2.2.2.1 j)) = fun _ => Value.int 0 := funext fun j => by rw [hz]
  subst hcA
  rcases hk with ⟨rfl, rfl⟩ | ⟨rfl, rfl⟩
  · show H1[_]? = _; rw [e2]; exact e1
  · show H1[_]? = _; rw [e2]; exact e1
theorem s_newaR {n : Int32} {idx k : Nat} (hd : decode (z_mc mid) pc = .ok (.anewarray idx, 3)) (hk : 4 ≤ k ∧ k ≤ 6) {r : vw_C} (hc : z_cls[z_ac k]? = some r) (hw : Cond.classLink (z_my mid).cls idx r.1 ∈ z_tb) (hrm : z_rmk (z_rm mid) z0 M 1 (z_ix n)) (hn : ¬ n < 0) (hsm : z_ix n ≤ 65536) (h : z_W l G mid z0 Rt (pc + 3) L (.ref M.2.2.2.2.1 :: st) (z_nw M (k, z_ix n) (z_ix n))) : z_W l G mid z0 Rt pc L (.int n :: st) M := by
  intro p e s m args below meth c H locs cells slots ls Z hS hN hM hl hlo hC hR
  obtain ⟨⟨hx, hb⟩, hml, hr, hts, hown, hlk, hnm⟩ := id hS
  obtain ⟨r1, r2⟩ := hrm
  obtain ⟨⟨c1, c2⟩, c3, c4⟩ := hC
  obtain ⟨r', hr', hro⟩ := z_acOk hk
  obtain rfl : r' = r := Option.some.inj (hr'.symm.trans hc)
  have hra := (hN.2.1 k (by omega) hk.2).2
  rw [hro] at hra
  obtain ⟨kA0, comp0, k1, k2, k3, k4⟩ := hra
  have hover : va_AO r'.1 s := by
    obtain ⟨-, -, -, -, -, -, ha, hb', hc'⟩ := hN
    obtain ⟨h1, h2⟩ := hk
    rcases (show k = 4 ∨ k = 5 ∨ k = 6 by omega) with rfl | rfl | rfl
    · cases hc; exact ha
    · cases hc; exact hb'
    · cases hc; exact hc'
  refine W.anew hx hb hown (hts _ hw) (va_AO.use hover) rfl hd rfl hn (by show z_ix n * 4 ≤ _; omega) (by omega) (by show slots + z_ix n ≤ _; omega) fun cA kA comp f1 f2 f3 f4 => ?_
  have hcA : cA = G.2.2.2.1 k := Option.some.inj (f1.symm.trans k4)
  generalize hH1 : H.push ({ cls := cA, slots := Array.replicate n.toNatClampNeg .null, vm := .none } : Cell) = H1
  have z1 : H1.size = H.size + 1 := by rw [← hH1, Array.size_push]
  have e1 : H1[H.size]? = some (arrV cA n.toNatClampNeg (fun _ => .null)) := by rw [← hH1, Array.getElem?_push_size, ← arrV_new]
  have o1 : ∀ q : Nat, q < H.size → H1[q]? = H[q]? := fun q hq => by rw [← hH1, Array.getElem?_push, if_neg (Nat.ne_of_lt hq)]
  have e9 : (F0 m (pc + 3) ls (Value.ref H.size :: st.map (z_em G))) = F0 m (pc + 3) ls ((Value.ref M.2.2.2.2.1 :: st).map (z_em G)) := by
    show F0 _ _ _ _ = F0 m (pc + 3) ls (Value.ref (z_ad G M.2.2.2.2.1) :: st.map (z_em G))
    rw [z_ad_new hM]
  refine W.eq e9 (h p e s m args below meth c H1 locs (cells + 1) (slots + z_ix n) ls Z hS hN (hM.new z1 o1 ?_) hl hlo ⟨⟨by show _ + 1 = _; omega, by show _ + z_ix n = _; omega⟩, by omega, by omega⟩ hR)
  unfold z_cell
  have ht : (z_nw M (k, z_ix n) (z_ix n)).2.2.2.1 M.2.2.2.2.1 = (k, z_ix n) := if_pos rfl
  rw [ht, z_ad_new hM]
  have hz : ∀ j, (z_nw M (k, z_ix n) (z_ix n)).2.1 M.2.2.2.2.1 j = none := fun j => if_pos rfl
  generalize z_nw M (k, z_ix n) (z_ix n) = M2 at hz
  have e2 : (fun j => z_em G (va_rf (M2.2.1 M.2.2.2.2.1 j))) = fun _ => Value.null := funext fun j => by rw [hz]; rfl
  subst hcA
  match k, hk, e1 with
  | k + 4, _, e1 => show H1[_]? = _; rw [e2]; exact e1
/-! the class's static array, the law's script -/
theorem s_gets {idx : Nat} (hd : decode (z_mc mid) pc = .ok (.getstatic idx, 3)) (hw : Cond.fieldLink (z_my mid).cls idx "MeshParents" "FACTORIAL" "[I" ∈ z_tb) (h : z_W l G mid z0 Rt (pc + 3) L (.ref 0 :: st) M) : z_W l G mid z0 Rt pc L st M := by
  intro p e s m args below meth c H locs cells slots ls Z hS hN hM hl hlo hC hR
  obtain ⟨⟨hx, hb⟩, hml, hr, hts, hown, hlk, hnm⟩ := id hS
  obtain ⟨cf, kf, fi, f, a, cell, h1, h2, h3, h4, h5, h6, h7, h8⟩ := id hN.2.2.1
  have ha : a < z_b0 G := Nat.not_le.mp h8
  refine W.gets hx hb hown (hts _ hw) h1 h2 h3 h4 (by rw [hM.2.1 a ha]; exact h5) (fun q => by rw [q] at h6; cases h6) h7 rfl hd ?_
  exact h p e s m args below meth c H locs cells slots ls Z hS hN hM hl hlo hC hR
theorem s_ialdF {i : Int32} (hd : decode (z_mc mid) pc = .ok (.iaload, 1)) (hi : vp_in i 9) (h : z_W l G mid z0 Rt (pc + 1) L (.int (z_fct (z_ix i)) :: st) M) : z_W l G mid z0 Rt pc L (.int i :: .ref 0 :: st) M := by
  intro p e s m args below meth c H locs cells slots ls Z hS hN hM hl hlo hC hR
  obtain ⟨cell, h1, h2, h3, h4, h5, h6, h7⟩ := id hN.2.2.2.1
  have ha : G.1.2.1 < z_b0 G := Nat.not_le.mp h7
  have hlt := z_in_lt hi
  exact W.iald (v := .int (z_fct (z_ix i))) hS.1.1 hS.1.2 (a := z_ad G 0) (by show H[G.1.2.1]? = _; rw [hM.2.1 _ ha]; exact h1) h2 h3 (fun q => hi (q.imp id (fun q => Nat.le_trans h4 q))) (h6 _ hlt) rfl rfl hd (h p e s m args below meth c H locs cells slots ls Z hS hN hM hl hlo hC hR)
theorem s_ialdX {i : Int32} (hd : decode (z_mc mid) pc = .ok (.iaload, 1)) (hi : vp_in i G.2.1.1) (h : z_W l G mid z0 Rt (pc + 1) L (.int (G.2.1.2 (z_ix i)) :: st) M) : z_W l G mid z0 Rt pc L (.int i :: .ref 1 :: st) M := by
  intro p e s m args below meth c H locs cells slots ls Z hS hN hM hl hlo hC hR
  obtain ⟨⟨cell, h1, h2, h3, h4, h5⟩, ha, -, -⟩ := id hN.2.2.2.2.1
  have hlt := z_in_lt hi
  exact W.iald (v := .int (G.2.1.2 (z_ix i))) hS.1.1 hS.1.2 (a := z_ad G 1) (by show H[G.1.2.2]? = _; rw [hM.2.1 _ ha]; exact h1) h2 h3 (by rw [h4]; exact hi) (h5 _ hlt) rfl rfl hd (h p e s m args below meth c H locs cells slots ls Z hS hN hM hl hlo hC hR)
theorem s_alen (hd : decode (z_mc mid) pc = .ok (.arraylength, 1)) (h : z_W l G mid z0 Rt (pc + 1) L (.int (nI G.2.1.1) :: st) M) : z_W l G mid z0 Rt pc L (.ref 1 :: st) M := by
  intro p e s m args below meth c H locs cells slots ls Z hS hN hM hl hlo hC hR
  obtain ⟨⟨cell, h1, h2, h3, h4, h5⟩, ha, -, -⟩ := id hN.2.2.2.2.1
  exact W.alen (n := nI G.2.1.1) hS.1.1 hS.1.2 (a := z_ad G 1) (by show H[G.1.2.2]? = _; rw [hM.2.1 _ ha]; exact h1) h2 (by rw [h4]; rfl) rfl rfl hd (h p e s m args below meth c H locs cells slots ls Z hS hN hM hl hlo hC hR)
end
