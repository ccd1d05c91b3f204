/-! calls -/
theorem z_pop_spec {k : List Value → List Value → Prop} : ∀ (n : Nat) (acc st : List Value), z_pop n k acc st → ∃ as rest, st = as.reverse ++ rest ∧ as.length = n ∧ k (as ++ acc) rest
  | 0, acc, st, h => ⟨[], st, rfl, rfl, h⟩
  | n + 1, acc, [], h => by simp [z_pop] at h
  | n + 1, acc, v :: st, h => by
    obtain ⟨as, rest, h1, h2, h3⟩ := z_pop_spec n (v :: acc) st h
    refine ⟨as ++ [v], rest, ?_, by simp [h2], by simpa using h3⟩
    rw [h1]; simp
theorem z_sh_sum {G : ZG} {st : List Value} (h : z_sh st) : ((st.map (z_em G)).map fun v => v.category).sum ≤ 8 := by
  have c : ∀ v : Value, v.category ≤ 2 := fun v => by rcases lv_cat v with h | h <;> omega
  match st, h with
  | [], _ => simp
  | [a], _ => have := c (z_em G a); simp; omega
  | [a, b], _ => have := c (z_em G a); have := c (z_em G b); simp; omega
  | [a, b, d], _ => have := c (z_em G a); have := c (z_em G b); have := c (z_em G d); simp; omega
  | [a, b, d, f], _ => have := c (z_em G a); have := c (z_em G b); have := c (z_em G d); have := c (z_em G f); simp; omega
theorem z_good : ∀ w ∈ z_tb, goodWord w = true := fun w h => (List.mem_filter.mp h).2
theorem z_ws_good {mid : Nat} (h : mid < 179) : GoodIn z_tb (z_ws mid) := by
  intro w hw
  have hm : w ∈ z_tb := by
    rcases List.mem_cons.mp hw with rfl | hw
    · exact z_cw_mem h
    · exact hw
  exact ⟨hm, good_of_word (z_good w hm)⟩
theorem z_mk_at {i : Nat} (h : i < 179) : z_mk (z_my i) ((z_mp[i]?).getD (0, 0, 0, 3)) = true := List.all_eq_true.mp z_mk_all i (List.mem_range.mpr h)
def z_okc (mid a : Nat) : Bool := decide (a < 179) && (decide ((z_rm a).frames + 1 ≤ (z_rm mid).frames) && decide (8 + (z_mL a + 11) + (z_rm a).locals ≤ (z_rm mid).locals))
def z_npar (a : Nat) : Option Nat := (parseMethodDescriptor (z_my a).desc).map (fun d => d.parameters.length)
def z_kindOf (a : Nat) : Nat := ((z_mp[a]?).getD (0, 0, 0, 3)).2.2.2
section
variable {l : Launch} {G : ZG} {mid a : Nat} {z0 : Nat × Nat} {Rt : ZR} {pc len : Nat} {L : ZL} {st : List Value} {M : ZM}
/-- behind a call that has run -/
theorem z_goes {p : Program} {e : Env} {s : State} {m : MethodId} {args : Array Value} {below : List Frame} {meth : Method} {c : Code} {H : Heap} {locs : List Loc} {cells slots : Nat} {ls : Array Slot} {Z : State → Prop} {S rest : List Value} {Q : ZR} {arr : Array Value}
    (hr : va_Run p l e (z_rm mid) s m args below meth c H locs cells slots (z_rm a).cells (z_rm a).slots (F0 m pc ls S) (rest.map (z_em G)) (z_Qc G a M Q arr) (fun q => z_b0 G ≤ q))
    (hS : z_Std mid p s m args meth c) (hN : z_Kn G s) (hl : z_lv G (z_mL mid) ls L) (hlo : ∀ q ∈ locs, z_b0 G ≤ q.base) (hC : z_Cn mid z0 M cells slots) (hrm : cells + (z_rm a).cells ≤ (z_rm mid).cells ∧ slots + (z_rm a).slots ≤ (z_rm mid).slots) (hR : z_Rets l G mid z0 Rt p e s m args below meth c Z)
    (hK : ∀ r M', Q r M' → z_W l G mid z0 Rt (pc + 3) L (r.toList ++ rest) M') : W p l e (z_rm mid) s m args below meth c H locs cells slots Z (F0 m pc ls S) := by
  intro T hT X
  obtain ⟨v, st₀, t, T', L1, h0, X', hL, e1, e2, ⟨r, M', ⟨ho, hQ, hM'⟩, ⟨q1, q2⟩, hnr⟩, hgo⟩ := hr T hT X
  have hv : v = r := Outcome.returned.inj ho
  subst hv
  obtain ⟨⟨c1, c2⟩, c3, c4⟩ := hC
  obtain ⟨t2, a1, b1⟩ := hK v M' hQ p e s m args below meth c T'.heap (locs ++ L1) (cells + (z_rm a).cells) (slots + (z_rm a).slots) ls Z hS hN (by rw [e1]; exact hM') hl (fun q hq => by
    rcases List.mem_append.mp hq with h | h
    · exact hlo q h
    · exact hL q h) ⟨⟨by omega, by omega⟩, hrm.1, hrm.2⟩ hR T' rfl X'
  refine ⟨t2, hgo t2 ?_, b1⟩
  have e9 : (v.toList ++ rest).map (z_em G) = v.toList ++ rest.map (z_em G) := by
    cases v with
    | none => rfl
    | some w => cases w <;> first | rfl | exact absurd rfl (hnr _)
  rw [e9] at a1
  exact a1
theorem z_blind {arr : List Value} {M : ZM} : FrameBlind (fun v U => v = (arr.map (z_em G)).toArray ∧ z_Mo G M U.heap ∧ z_Kn G U) := by
  intro v U g mk h
  exact ⟨h.1, h.2.1, h.2.2.same rfl⟩
theorem z_callB {s : State} {args : Array Value} {own : String} {idx n : Nat} (hts : ∀ w ∈ z_tb, w.before args s = true) (ha : a < 179) (hl : Cond.methodLink own idx (z_my a) ∈ z_tb) (hnp : z_npar a = some n) (hfr : (z_rm a).frames + 1 ≤ (z_rm mid).frames ∧ 8 + (z_mL a + 11) + (z_rm a).locals ≤ (z_rm mid).locals) :
    CallB (z_rm mid) s args own idx (z_my a) (z_mc a) (z_mL a) (z_mr a) (z_ws a) (z_rm a) (z_rm a).cells (z_rm a).slots n := by
  have hmk := z_mk_at ha
  simp only [z_mk, Bool.and_eq_true, decide_eq_true_eq] at hmk
  exact callB_of n hts (z_ws_good ha) rfl rfl rfl (hts _ (z_at_mem hmk.1)) (hts _ hl) ⟨hmk.2.1.1, hmk.2.1.2, hnp⟩ hfr
theorem s_callV {idx n ci : Nat} (hd : decode (z_mc mid) pc = .ok (.invokevirtual idx, 3)) (hok : z_okc mid a = true) (hl : Cond.methodLink (z_my mid).cls idx (z_my a) ∈ z_tb) (hnp : z_npar a = some n) (hk : z_kindOf a = 2) (h0 : (z_rm a).cells = 0 ∧ (z_rm a).slots = 0)
    (hcl : ∃ r : vw_C, z_cls[ci]? = some r ∧ r.1 = (z_my a).cls) {K : ZK} (hK : ∀ L st M, K L st M → z_W l G mid z0 Rt (pc + 3) L st M) (h : o_call (z_Ok l G) a (n + 1) (ci + 1) K L st M) : z_W l G mid z0 Rt pc L st M := by
  obtain ⟨as, rest, rfl, hlen, ⟨hrc, hsh⟩, hM⟩ := z_pop_spec _ _ _ h
  rw [List.append_nil] at hrc hM
  intro p e s m args below meth c H locs cells slots ls Z hS hN hMo hlv hlo hC hR
  obtain ⟨⟨hx, hb⟩, hml, hr, hts, hown, hlk, hnm⟩ := id hS
  simp only [z_okc, Bool.and_eq_true, decide_eq_true_eq] at hok
  obtain ⟨ha, hfr⟩ := hok
  match as, hlen, hrc, hM with
  | .ref o :: As, hlen, hrc, hM =>
    have hmk := z_mk_at ha
    simp only [z_mk, Bool.and_eq_true, decide_eq_true_eq] at hmk
    have hk' : ((z_mp[a]?).getD (0, 0, 0, 3)).2.2.2 = 2 := hk
    rw [hk'] at hmk
    simp only [Bool.and_eq_true] at hmk
    obtain ⟨r, hr1, hr2⟩ := hcl
    obtain ⟨r', hr', cell, q1, q2, q3, q4⟩ := hMo.obj (show M.2.2.2.1 o = (1, ci) from hrc)
    have e9 : ((Value.ref o :: As).reverse ++ rest).map (z_em G) = (As.map (z_em G)).reverse ++ .ref (z_ad G o) :: rest.map (z_em G) := by
      simp [z_em]
    rw [e9]
    refine z_goes (rest := rest) (Q := z_af K L rest) (M := M) (a := a) (arr := (Value.ref (z_ad G o) :: As.map (z_em G)).toArray) ?_ hS hN hlv hlo hC ⟨by have := hC.2.1; omega, by have := hC.2.2; omega⟩ hR (fun r M' hq => hK _ _ _ hq)
    exact va_runV (C := (z_my a).cls) (b := z_ad G o) (As := As.map (z_em G)) (n := n) (Ts := z_tb) ⟨hx, hb, hml, hown, hts⟩ hM ⟨z_callB hts ha hl hnp hfr, hts _ (z_at_mem hmk.2.2.1), hts _ (z_at_mem hmk.2.2.2)⟩
      ⟨z_blind, ⟨cell, q1, by rw [q3]; rfl, by rw [q2, ← hr2]; exact (hN.1 ci r hr1).2.1⟩, fun U hU hW => ⟨by simp [z_em], by rw [hU]; exact hMo, hN.warm hW⟩⟩ rfl (by simp at hlen; simp [hlen]) hlv.1.1 rfl (lv_room (z_sh_sum hsh)) hd ⟨by have := hC.2.1; omega, by have := hC.2.2; omega⟩
theorem s_callS {idx n : Nat} (hd : decode (z_mc mid) pc = .ok (.invokestatic idx, 3)) (hok : z_okc mid a = true) (hl : Cond.methodLink (z_my mid).cls idx (z_my a) ∈ z_tb) (hnp : z_npar a = some n) (hk : z_kindOf a = 0) (h0 : (z_rm a).cells = 0 ∧ (z_rm a).slots = 0)
    {K : ZK} (hK : ∀ L st M, K L st M → z_W l G mid z0 Rt (pc + 3) L st M) (h : o_call (z_Ok l G) a n 0 K L st M) : z_W l G mid z0 Rt pc L st M := by
  obtain ⟨as, rest, rfl, hlen, ⟨hrc, hsh⟩, hM⟩ := z_pop_spec _ _ _ h
  rw [List.append_nil] at hrc hM
  intro p e s m args below meth c H locs cells slots ls Z hS hN hMo hlv hlo hC hR
  obtain ⟨⟨hx, hb⟩, hml, hr, hts, hown, hlk, hnm⟩ := id hS
  simp only [z_okc, Bool.and_eq_true, decide_eq_true_eq] at hok
  obtain ⟨ha, hfr⟩ := hok
  have hmk := z_mk_at ha
  simp only [z_mk, Bool.and_eq_true, decide_eq_true_eq] at hmk
  have hk' : ((z_mp[a]?).getD (0, 0, 0, 3)).2.2.2 = 0 := hk
  rw [hk'] at hmk
  have e9 : (as.reverse ++ rest).map (z_em G) = (as.map (z_em G)).reverse ++ rest.map (z_em G) := by simp
  rw [e9]
  refine z_goes (rest := rest) (Q := z_af K L rest) (M := M) (a := a) (arr := (as.map (z_em G)).toArray) ?_ hS hN hlv hlo hC ⟨by have := hC.2.1; omega, by have := hC.2.2; omega⟩ hR (fun r M' hq => hK _ _ _ hq)
  exact va_runS (As := as.map (z_em G)) (n := n) (Ts := z_tb) ⟨hx, hb, hml, hown, hts⟩ hM ⟨z_callB hts ha hl hnp hfr, hts _ (z_at_mem hmk.2.2)⟩
    ⟨z_blind, fun U hU hW => ⟨rfl, by rw [hU]; exact hMo, hN.warm hW⟩⟩ rfl (by simp [hlen]) hlv.1.1 rfl (lv_room (z_sh_sum hsh)) hd ⟨by have := hC.2.1; omega, by have := hC.2.2; omega⟩
theorem s_callI {idx n c9 : Nat} (hd : decode (z_mc mid) pc = .ok (.invokespecial idx, 3)) (hok : z_okc mid a = true) (hl : Cond.methodLink (z_my mid).cls idx (z_my a) ∈ z_tb ∨ ∃ host, ((z_my mid).cls, idx, z_my a, host) ∈ z_nest) (hnp : z_npar a = some n) (hk : z_kindOf a = 1) (hret : z_mr a = none)
    {K : ZK} (hK : ∀ L st M, K L st M → z_W l G mid z0 Rt (pc + 3) L st M) (h : o_callN (z_Ok l G) (z_rm mid) z0 a (n + 1) (c9 + 1) K L st M) : z_W l G mid z0 Rt pc L st M := by
  obtain ⟨⟨rm1, rm2⟩, h⟩ := h
  obtain ⟨as, rest, rfl, hlen, ⟨hrc, hsh⟩, hM⟩ := z_pop_spec _ _ _ h
  rw [List.append_nil] at hrc hM
  intro p e s m args below meth c H locs cells slots ls Z hS hN hMo hlv hlo hC hR
  obtain ⟨⟨hx, hb⟩, hml, hr, hts, hown, hlk, hnm⟩ := id hS
  simp only [z_okc, Bool.and_eq_true, decide_eq_true_eq] at hok
  obtain ⟨ha, hfr⟩ := hok
  have hroom : cells + (z_rm a).cells ≤ (z_rm mid).cells ∧ slots + (z_rm a).slots ≤ (z_rm mid).slots := by
    obtain ⟨⟨c1, c2⟩, c3, c4⟩ := hC
    constructor <;> omega
  match as, hlen, hrc, hM with
  | .ref o :: As, hlen, hrc, hM =>
    have hmk := z_mk_at ha
    simp only [z_mk, Bool.and_eq_true, decide_eq_true_eq] at hmk
    have hk' : ((z_mp[a]?).getD (0, 0, 0, 3)).2.2.2 = 1 := hk
    rw [hk'] at hmk
    simp only [Bool.and_eq_true, decide_eq_true_eq] at hmk
    have e9 : ((Value.ref o :: As).reverse ++ rest).map (z_em G) = (As.map (z_em G)).reverse ++ .ref (z_ad G o) :: rest.map (z_em G) := by
      simp [z_em]
    rw [e9]
    refine z_goes (rest := rest) (Q := z_af K L rest) (M := M) (a := a) (arr := (Value.ref (z_ad G o) :: As.map (z_em G)).toArray) ?_ hS hN hlv hlo hC hroom hR (fun r M' hq => hK _ _ _ hq)
    have hp : PreS s H (fun v U => v = ((Value.ref o :: As).map (z_em G)).toArray ∧ z_Mo G M U.heap ∧ z_Kn G U) (.ref (z_ad G o) :: As.map (z_em G)) := ⟨z_blind, fun U hU hW => ⟨by simp [z_em], by rw [hU]; exact hMo, hN.warm hW⟩⟩
    rcases hl with hl | ⟨host, hl⟩
    · have cb := z_callB (s := s) (args := args) (own := (z_my mid).cls) hts ha hl hnp hfr
      rw [hret] at cb
      exact va_runI (b := z_ad G o) (As := As.map (z_em G)) (n := n) (Ts := z_tb) ⟨hx, hb, hml, hown, hts⟩ hM ⟨cb, hmk.2.2.2, hts _ (z_at_mem hmk.2.2.1)⟩ hp rfl (by simp at hlen; simp [hlen]) hlv.1.1 rfl (lv_room (z_sh_sum hsh)) hd hroom
    · have hcw := z_cw_mem ha
      unfold z_cw at hcw
      have cb := va_cnB (own := (z_my mid).cls) (host := host) (index := idx) (R := z_rm mid) (s := s) (args := args) (y := z_my a) (bytes := z_mc a) (maxL := z_mL a) (ret := z_mr a) (ws := z_ws a) (rm := z_rm a) n hts (z_ws_good ha) rfl rfl rfl (hN.2.2.2.2.2.1 _ hl) (hts _ (z_at_mem hmk.1)) ⟨hmk.2.1.1, hmk.2.1.2, hnp⟩ hfr
      rw [hret] at cb
      exact va_runIN (b := z_ad G o) (As := As.map (z_em G)) (n := n) (Ts := z_tb) (host := host) ⟨hx, hb, hml, hown, hts⟩ hM ⟨cb, hmk.2.2.2, hts _ (z_at_mem hmk.2.2.1)⟩ hp rfl (by simp at hlen; simp [hlen]) hlv.1.1 rfl (lv_room (z_sh_sum hsh)) hd hroom
theorem s_obj {idx o : Nat} (hd : decode (z_mc mid) pc = .ok (.invokespecial idx, 3)) (hl : Cond.methodLink (z_my mid).cls idx objectInit ∈ z_tb) (hfr : 1 ≤ (z_rm mid).frames ∧ 20 ≤ (z_rm mid).locals) (hsh : z_sh st) (h : z_W l G mid z0 Rt (pc + 3) L st M) : z_W l G mid z0 Rt pc L (.ref o :: st) M := by
  intro p e s m args below meth c H locs cells slots ls Z hS hN hMo hlv hlo hC hR
  obtain ⟨⟨hx, hb⟩, hml, hr, hts, hown, hlk, hnm⟩ := id hS
  refine W.objInit hx hb hown (hts _ hl) (hts _ z_obj_in.1) (hts _ z_obj_in.2) rfl (by rw [hml]; exact hlv.1.1) rfl hd hfr.1 ?_ (W.eq rfl (h p e s m args below meth c H locs cells slots ls Z hS hN hMo hlv hlo hC hR))
  have := lv_room (m := m) (pc := pc) (ls := ls) (rest := (Value.ref o :: st).map (z_em G)) (z_sh_sum (G := G) hsh)
  have e8 : (F0 m pc ls ((Value.ref o :: st).map (z_em G))).monitorRoom = (F0 m pc ls ((Value.ref o :: st).map (z_em G))).monitorRoom := rfl
  omega
/-! a method's end, and its contract -/
theorem s_end {v : Option Value} (hrt : z_rt mid pc v) (h : Rt v M) : z_W l G mid z0 Rt pc L v.toList M := by
  intro p e s m args below meth c H locs cells slots ls Z hS hN hMo hlv hlo hC hR
  have e9 : v.toList.map (z_em G) = v.toList := by
    match v, hrt with
    | none, _ => rfl
    | some (.int x), _ => rfl
    | some (.long x), _ => rfl
  rw [e9]
  exact hR pc ls H locs cells slots v M hrt hMo h hlo hC
def z_en : Nat → List Value → ZL
  | 0, _ => []
  | n + 1, [] => none :: z_en n []
  | n + 2, .long x :: t => some (.long x) :: none :: z_en n t
  | n + 1, .int x :: t => some (.int x) :: z_en n t
  | n + 1, .ref x :: t => some (.ref x) :: z_en n t
  | _, _ => []
def z_wd : List Value → Nat
  | [] => 0
  | .long _ :: t => z_wd t + 2
  | .double _ :: t => z_wd t + 2
  | _ :: t => z_wd t + 1
theorem z_wd_eq : ∀ as : List Value, (lg_sl (as.map (z_em G))).length = z_wd as
  | [] => rfl
  | v :: t => by
    have ih := z_wd_eq t
    have e : lg_sl ((v :: t).map (z_em G)) = (if (z_em G v).category = 2 then [Slot.val (z_em G v), .second] else [Slot.val (z_em G v)]) ++ lg_sl (t.map (z_em G)) := rfl
    rw [e, List.length_append, ih]
    cases v <;> simp [z_em, z_wd, Value.category] <;> omega
theorem z_en_nil : ∀ (n k : Nat) (w : Value), z_lg k (z_en n []) = some w → False
  | 0, k, w, h => by simp [z_en, z_lg] at h
  | n + 1, 0, w, h => by simp [z_en, z_lg] at h
  | n + 1, k + 1, w, h => z_en_nil n k w (by simpa [z_en, z_lg] using h)
theorem z_en_mem : ∀ (n : Nat) (as : List Value) (k i : Nat) (w : Value), z_lg k (z_en n as) = some w → (i + k, z_em G w) ∈ lv_args i (as.map (z_em G))
  | n, [], k, i, w, h => (z_en_nil n k w h).elim
  | 0, _ :: _, k, i, w, h => by simp [z_en, z_lg] at h
  | 1, .long x :: t, k, i, w, h => by simp [z_en, z_lg] at h
  | n + 2, .long x :: t, 0, i, w, h => by simp only [z_en, z_lg] at h; cases h; exact List.mem_cons_self
  | n + 2, .long x :: t, 1, i, w, h => by simp [z_en, z_lg] at h
  | n + 2, .long x :: t, k + 2, i, w, h => by
    have := z_en_mem n t k (i + 2) w (by simpa [z_en, z_lg] using h)
    rw [show i + (k + 2) = i + 2 + k by omega]
    exact List.mem_cons_of_mem _ this
  | n + 1, .int x :: t, 0, i, w, h => by simp only [z_en, z_lg] at h; cases h; exact List.mem_cons_self
  | n + 1, .int x :: t, k + 1, i, w, h => by
    have := z_en_mem n t k (i + 1) w (by simpa [z_en, z_lg] using h)
    rw [show i + (k + 1) = i + 1 + k by omega]
    exact List.mem_cons_of_mem _ this
  | n + 1, .ref x :: t, 0, i, w, h => by simp only [z_en, z_lg] at h; cases h; exact List.mem_cons_self
  | n + 1, .ref x :: t, k + 1, i, w, h => by
    have := z_en_mem n t k (i + 1) w (by simpa [z_en, z_lg] using h)
    rw [show i + (k + 1) = i + 1 + k by omega]
    exact List.mem_cons_of_mem _ this
  | n + 1, .null :: t, k, i, w, h => by simp [z_en, z_lg] at h
  | n + 1, .float x :: t, k, i, w, h => by simp [z_en, z_lg] at h
  | n + 1, .double x :: t, k, i, w, h => by simp [z_en, z_lg] at h
  | n + 1, .retAddr x :: t, k, i, w, h => by simp [z_en, z_lg] at h
/-- a method's contract out of its body -/
theorem z_ok_of {as : List Value} {Q : ZR} (hp : plainFor (z_my mid) = true) (hw : z_wd as ≤ z_mL mid) (h : z_W l G mid (M.2.2.2.2.1, M.2.2.2.2.2) (fun v M' => Q v M' ∧ (M'.2.2.2.2.1 = M.2.2.2.2.1 + (z_rm mid).cells ∧ M'.2.2.2.2.2 = M.2.2.2.2.2 + (z_rm mid).slots)) 0 (z_en (z_mL mid) as) [] M) : z_Ok l G mid as M Q := by
  refine va_MetF (cc := z_mc mid) (maxL := z_mL mid) (ret := z_mr mid) hp rfl ?_
  intro p e s m args below meth c s₁ B hml hv
  obtain ⟨rfl, hM, hN⟩ := hv
  have hts := atoms_spec (ws := z_ws mid) B.pre
  have hl := lv_entry (as.map (z_em G)) (n := z_mL mid) (by rw [z_wd_eq]; exact hw)
  rw [lg_entry_eq]
  have hS : z_Std mid p s m (as.map (z_em G)).toArray meth c := ⟨⟨B.exec, B.bytes⟩, hml, B.returns, fun w hw => hts w (List.mem_cons_of_mem _ hw), findClass_of_methodNamed B.named, B.notSynchronized, (name_of_methodNamed B.named B.method).1⟩
  refine h p e s m _ below meth c s.heap [] 0 0 _ _ hS hN hM ⟨⟨hl.1, hl.2.1⟩, fun k w hk => ?_⟩ (fun q hq => by cases hq) ⟨⟨rfl, rfl⟩, Nat.zero_le _, Nat.zero_le _⟩ ?_
  · have := hl.2.2 _ (z_en_mem (G := G) _ as k 0 w hk)
    rwa [Nat.zero_add] at this
  · intro pc ls H locs cells slots v M' hrt hM' hQ hlo hC
    refine W.widen hC.2.1 hC.2.2 ?_
    match v, hrt, hQ with
    | none, hrt, hQ => exact W.vret B.exec B.bytes (by rw [B.returns]; exact hrt.2) (fun t ht hW => ⟨none, M', ⟨rfl, hQ.1, by rw [ht]; exact hM'⟩, hQ.2, fun x q => by cases q⟩) hlo hrt.1 B.notSynchronized
    | some (.int x), ⟨h1, ty, h2, h3⟩, hQ => exact W.zret (ty := ty) B.exec B.bytes (by rw [B.returns]; exact h2) h3 (fun t ht hW => ⟨some (.int x), M', ⟨rfl, hQ.1, by rw [ht]; exact hM'⟩, hQ.2, fun x q => by cases q⟩) hlo h1 B.notSynchronized
    | some (.long x), hrt, hQ => exact W.lret B.exec B.bytes (by rw [B.returns]; exact hrt.2) (fun t ht hW => ⟨some (.long x), M', ⟨rfl, hQ.1, by rw [ht]; exact hM'⟩, hQ.2, fun x q => by cases q⟩) hlo hrt.1 B.notSynchronized
/-- the same, of a method that makes no cells: the memory's bounds stay -/
theorem z_okN {as : List Value} {Q : ZR} {mi : Nat → Nat → Int32} {mr : Nat → Nat → Option Nat} {ml : Nat → Nat → Int64} {T : (Nat → Nat × Nat) × Nat × Nat} (hp : plainFor (z_my mid) = true) (hw : z_wd as ≤ z_mL mid) (h0 : (z_rm mid).cells = 0 ∧ (z_rm mid).slots = 0) (h : z_W l G mid (T.2.1, T.2.2) (fun v M' => Q v M' ∧ M'.2.2.2 = T) 0 (z_en (z_mL mid) as) [] (mi, mr, ml, T)) : z_Ok l G mid as (mi, mr, ml, T) Q := by
  refine z_ok_of hp hw ?_
  have e : (fun (v : Option Value) (M' : ZM) => Q v M' ∧ (M'.2.2.2.2.1 = T.2.1 + (z_rm mid).cells ∧ M'.2.2.2.2.2 = T.2.2 + (z_rm mid).slots)) = fun v M' => Q v M' ∧ (M'.2.2.2.2.1 = T.2.1 ∧ M'.2.2.2.2.2 = T.2.2) := by rw [h0.1, h0.2]; rfl
  show z_W l G mid (T.2.1, T.2.2) (fun v M' => Q v M' ∧ (M'.2.2.2.2.1 = T.2.1 + (z_rm mid).cells ∧ M'.2.2.2.2.2 = T.2.2 + (z_rm mid).slots)) 0 _ [] _
  rw [e]
  intro p e s m args below meth c H locs cells slots ls Z hS hN hM hl hlo hC hR
  refine h p e s m args below meth c H locs cells slots ls Z hS hN hM hl hlo hC ?_
  intro pc ls H locs cells slots v M' hrt hM' hQ hlo hC
  exact hR pc ls H locs cells slots v M' hrt hM' ⟨hQ.1, by rw [hQ.2]; exact ⟨rfl, rfl⟩⟩ hlo hC
end
