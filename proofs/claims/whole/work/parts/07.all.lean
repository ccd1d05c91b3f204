section
variable {l : Launch} {G : ZG} {mid : Nat} {z0 : Nat × Nat} {Rt : ZR}
set_option maxHeartbeats 8000000 in
theorem z_hd_sound {J : Nat → ZK} (hJ : ∀ t L st M, J t L st M → z_W l G mid z0 Rt t L st M) {pc len a b c pl : Nat} {K : ZK} {i : Instr} {L : ZL} {st : List Value} {M : ZM} (hd : decode (z_mc mid) pc = .ok (i, len)) (ok : z_okop mid pc i len a b c pl = true)
    (hK : z_term i = false → ∀ L st M, K L st M → z_W l G mid z0 Rt (pc + len) L st M) (h : z_hd G mid z0 (z_Ok l G) Rt J i a b c K L st M) : z_W l G mid z0 Rt pc L st M := by
  have b2 : ∀ {f : Int32 → Int32 → Int32}, o_b2 f K L st M → (∀ {x y : Int32} {r : List Value}, st = .int y :: .int x :: r → K L (.int (f x y) :: r) M → z_W l G mid z0 Rt pc L st M) → z_W l G mid z0 Rt pc L st M := by
    intro f h k
    match st, h with
    | .int y :: .int x :: r, h => exact k rfl h
  have l2 : ∀ {f : Int64 → Int64 → Int64}, o_l2 f K L st M → (∀ {x y : Int64} {r : List Value}, st = .long y :: .long x :: r → K L (.long (f x y) :: r) M → z_W l G mid z0 Rt pc L st M) → z_W l G mid z0 Rt pc L st M := by
    intro f h k
    match st, h with
    | .long y :: .long x :: r, h => exact k rfl h
  cases i with
  | iconst n =>
    simp only [z_okop, Bool.and_eq_true, decide_eq_true_eq] at ok
    obtain rfl := z_len ok.1
    exact z_row (fun hx hb k => lv_iconst hx hb hd ok.2 k) (hK rfl _ _ _ h)
  | bipush n =>
    simp only [z_okop, Bool.and_eq_true, decide_eq_true_eq] at ok
    obtain rfl := z_len ok.1
    exact z_row (fun hx hb k => lv_bipush hx hb hd ok.2 k) (hK rfl _ _ _ h)
  | sipush n =>
    simp only [z_okop, Bool.and_eq_true, decide_eq_true_eq] at ok
    obtain rfl := z_len ok.1
    exact z_row (fun hx hb k => lv_sipush hx hb hd ok.2 k) (hK rfl _ _ _ h)
  | ldc_w n =>
    simp only [z_okop, Bool.and_eq_true] at ok
    obtain rfl := z_len ok.1
    intro p e s m args below meth c' H locs cells slots ls Z hS hN hM hl hlo hC hR
    exact lv_ldcw hS.1.1 hS.1.2 hS.2.2.2.2.1 (hS.2.2.2.1 _ (z_at_mem ok.2)) hd (hK rfl _ _ _ h p e s m args below meth c' H locs cells slots ls Z hS hN hM hl hlo hC hR)
  | lconst n =>
    simp only [z_okop, Bool.and_eq_true, decide_eq_true_eq] at ok
    obtain rfl := z_len ok.1
    exact z_row (fun hx hb k => lv_lconst hx hb hd ok.2 k) (hK rfl _ _ _ h)
  | ldc2_w n =>
    simp only [z_okop, Bool.and_eq_true] at ok
    obtain rfl := z_len ok.1
    intro p e s m args below meth c' H locs cells slots ls Z hS hN hM hl hlo hC hR
    exact lv_ldc2 hS.1.1 hS.1.2 hS.2.2.2.2.1 (hS.2.2.2.1 _ (z_at_mem ok.2)) hd (hK rfl _ _ _ h p e s m args below meth c' H locs cells slots ls Z hS hN hM hl hlo hC hR)
  | iload n =>
    simp only [z_okop, Bool.and_eq_true] at ok
    obtain rfl := z_len ok.1
    obtain rfl := z_len ok.2
    exact h_ldi (fun x hx h => z_rowL hx (fun he hb hl k => lv_iload he hb hd hl k) (hK rfl _ _ _ h)) h
  | iload_n n =>
    simp only [z_okop, Bool.and_eq_true] at ok
    obtain rfl := z_len ok.1
    obtain rfl := z_len ok.2
    exact h_ldi (fun x hx h => z_rowL hx (fun he hb hl k => lv_iload_n he hb hd rfl hl k) (hK rfl _ _ _ h)) h
  | lload n =>
    simp only [z_okop, Bool.and_eq_true] at ok
    obtain rfl := z_len ok.1
    obtain rfl := z_len ok.2
    exact h_ldl (fun x hx h => z_rowL hx (fun he hb hl k => lv_lload he hb hd hl k) (hK rfl _ _ _ h)) h
  | lload_n n =>
    simp only [z_okop, Bool.and_eq_true] at ok
    obtain rfl := z_len ok.1
    obtain rfl := z_len ok.2
    exact h_ldl (fun x hx h => z_rowL hx (fun he hb hl k => lv_lload_n he hb hd rfl hl k) (hK rfl _ _ _ h)) h
  | aload n =>
    simp only [z_okop, Bool.and_eq_true] at ok
    obtain rfl := z_len ok.1
    obtain rfl := z_len ok.2
    exact h_lda (fun x hx h => z_rowL hx (fun he hb hl k => lv_aload he hb hd hl k) (hK rfl _ _ _ h)) h
  | aload_n n =>
    simp only [z_okop, Bool.and_eq_true] at ok
    obtain rfl := z_len ok.1
    obtain rfl := z_len ok.2
    exact h_lda (fun x hx h => z_rowL hx (fun he hb hl k => lv_aload_n he hb hd rfl hl k) (hK rfl _ _ _ h)) h
  | istore n =>
    simp only [z_okop, Bool.and_eq_true, decide_eq_true_eq] at ok
    obtain rfl := z_len ok.1.1
    obtain rfl := z_len ok.1.2
    match st, h with
    | .int x :: st, h => exact z_rowS (fun he hb hl k => lv_istore he hb hd hl.has ok.2 rfl (fun ls' hl' => k ls' (z_lv.st1 hl'))) (hK rfl _ _ _ h)
  | istore_n n =>
    simp only [z_okop, Bool.and_eq_true, decide_eq_true_eq] at ok
    obtain rfl := z_len ok.1.1
    obtain rfl := z_len ok.1.2
    match st, h with
    | .int x :: st, h => exact z_rowS (fun he hb hl k => lv_istore_n he hb hd rfl hl.has ok.2 rfl (fun ls' hl' => k ls' (z_lv.st1 hl'))) (hK rfl _ _ _ h)
  | astore n =>
    simp only [z_okop, Bool.and_eq_true, decide_eq_true_eq] at ok
    obtain rfl := z_len ok.1.1
    obtain rfl := z_len ok.1.2
    match st, h with
    | .ref x :: st, h => exact z_rowS (fun he hb hl k => lv_astore he hb hd hl.has ok.2 rfl (fun ls' hl' => k ls' (z_lv.st1 (v := .ref x) hl'))) (hK rfl _ _ _ h)
  | astore_n n =>
    simp only [z_okop, Bool.and_eq_true, decide_eq_true_eq] at ok
    obtain rfl := z_len ok.1.1
    obtain rfl := z_len ok.1.2
    match st, h with
    | .ref x :: st, h => exact z_rowS (fun he hb hl k => lv_astore_n he hb hd rfl hl.has ok.2 rfl (fun ls' hl' => k ls' (z_lv.st1 (v := .ref x) hl'))) (hK rfl _ _ _ h)
  | lstore n =>
    simp only [z_okop, Bool.and_eq_true, decide_eq_true_eq] at ok
    obtain rfl := z_len ok.1.1
    obtain rfl := z_len ok.1.2
    match st, h with
    | .long x :: st, h => exact z_rowS (fun he hb hl k => lv_lstore he hb hd hl.has ok.2 rfl (fun ls' hl' => k ls' (z_lv.st2 hl'))) (hK rfl _ _ _ h)
  | lstore_n n =>
    simp only [z_okop, Bool.and_eq_true, decide_eq_true_eq] at ok
    obtain rfl := z_len ok.1.1
    obtain rfl := z_len ok.1.2
    match st, h with
    | .long x :: st, h => exact z_rowS (fun he hb hl k => lv_lstore_n he hb hd rfl hl.has ok.2 rfl (fun ls' hl' => k ls' (z_lv.st2 hl'))) (hK rfl _ _ _ h)
  | iinc n d =>
    simp only [z_okop, Bool.and_eq_true, decide_eq_true_eq] at ok
    obtain ⟨⟨ok0, ok1⟩, ok2, ok3⟩ := ok
    obtain rfl := z_len ok0
    obtain rfl := z_len ok1
    have h' : o_inc b (z_kI c a) (z_lg b L) K L st M := h
    cases hv : z_lg b L with
    | none => rw [hv] at h'; exact h'.elim
    | some v =>
      rw [hv] at h'
      match v, h', hv with
      | .int x, h', hv =>
        refine z_rowS (fun he hb hl k => ?_) (hK rfl _ _ _ h')
        have hm := z_ll_mem (G := G) L 0 b _ hv
        rw [Nat.zero_add] at hm
        obtain ⟨q, hq⟩ := List.getElem?_of_mem hm
        exact lv_iinc he hb hd hl.has (k := q) hq (by rw [ok3]) ok2 rfl (fun ls' hl' => k ls' (z_lv.st1 (v := .int (x + z_kI c a)) hl'))
  | iadd => obtain rfl := z_len ok; exact b2 h (fun e h => by subst e; exact z_row (fun hx hb k => lv_iadd hx hb hd k) (hK rfl _ _ _ h))
  | isub => obtain rfl := z_len ok; exact b2 h (fun e h => by subst e; exact z_row (fun hx hb k => lv_isub hx hb hd k) (hK rfl _ _ _ h))
  | imul => obtain rfl := z_len ok; exact b2 h (fun e h => by subst e; exact z_row (fun hx hb k => lv_imul hx hb hd k) (hK rfl _ _ _ h))
  | iand => obtain rfl := z_len ok; exact b2 h (fun e h => by subst e; exact z_row (fun hx hb k => lv_iand hx hb hd k) (hK rfl _ _ _ h))
  | ior => obtain rfl := z_len ok; exact b2 h (fun e h => by subst e; exact z_row (fun hx hb k => lv_ior hx hb hd k) (hK rfl _ _ _ h))
  | ixor => obtain rfl := z_len ok; exact b2 h (fun e h => by subst e; exact z_row (fun hx hb k => lv_ixor hx hb hd k) (hK rfl _ _ _ h))
  | ishl => obtain rfl := z_len ok; exact b2 h (fun e h => by subst e; exact z_row (fun hx hb k => lv_ishl hx hb hd k) (hK rfl _ _ _ h))
  | ishr => obtain rfl := z_len ok; exact b2 h (fun e h => by subst e; exact z_row (fun hx hb k => lv_ishr hx hb hd k) (hK rfl _ _ _ h))
  | iushr => obtain rfl := z_len ok; exact b2 h (fun e h => by subst e; exact z_row (fun hx hb k => lv_iushr hx hb hd rfl k) (hK rfl _ _ _ h))
  | idiv =>
    obtain rfl := z_len ok
    match st, h with
    | .int y :: .int x :: st, h => exact z_row (fun hx hb k => lv_idiv hx hb hd h.1 k) (hK rfl _ _ _ h.2)
  | irem =>
    obtain rfl := z_len ok
    match st, h with
    | .int y :: .int x :: st, h => exact z_row (fun hx hb k => lv_irem hx hb hd h.1 k) (hK rfl _ _ _ h.2)
  | ladd => obtain rfl := z_len ok; exact l2 h (fun e h => by subst e; exact z_row (fun hx hb k => lv_ladd hx hb hd k) (hK rfl _ _ _ h))
  | lsub => obtain rfl := z_len ok; exact l2 h (fun e h => by subst e; exact z_row (fun hx hb k => lv_lsub hx hb hd k) (hK rfl _ _ _ h))
  | lmul => obtain rfl := z_len ok; exact l2 h (fun e h => by subst e; exact z_row (fun hx hb k => lv_lmul hx hb hd k) (hK rfl _ _ _ h))
  | land => obtain rfl := z_len ok; exact l2 h (fun e h => by subst e; exact z_row (fun hx hb k => lv_land hx hb hd k) (hK rfl _ _ _ h))
  | lor => obtain rfl := z_len ok; exact l2 h (fun e h => by subst e; exact z_row (fun hx hb k => lv_lor hx hb hd k) (hK rfl _ _ _ h))
  | ldiv =>
    obtain rfl := z_len ok
    match st, h with
    | .long y :: .long x :: st, h => exact z_row (fun hx hb k => lv_ldiv hx hb hd h.1 k) (hK rfl _ _ _ h.2)
  | lrem =>
    obtain rfl := z_len ok
    match st, h with
    | .long y :: .long x :: st, h => exact z_row (fun hx hb k => lv_lrem hx hb hd h.1 k) (hK rfl _ _ _ h.2)
  | lshl =>
    obtain rfl := z_len ok
    match st, h with
    | .int y :: .long x :: st, h => exact z_row (fun hx hb k => lv_lshl hx hb hd rfl k) (hK rfl _ _ _ h)
  | lushr =>
    obtain rfl := z_len ok
    match st, h with
    | .int y :: .long x :: st, h => exact z_row (fun hx hb k => lv_lushr hx hb hd rfl k) (hK rfl _ _ _ h)
  | lneg =>
    obtain rfl := z_len ok
    match st, h with
    | .long x :: st, h => exact z_row (fun hx hb k => lv_lneg hx hb hd k) (hK rfl _ _ _ h)
  | i2l =>
    obtain rfl := z_len ok
    match st, h with
    | .int x :: st, h => exact z_row (fun hx hb k => lv_i2l hx hb hd rfl k) (hK rfl _ _ _ h)
  | l2i =>
    obtain rfl := z_len ok
    match st, h with
    | .long x :: st, h => exact z_row (fun hx hb k => lv_l2i hx hb hd rfl k) (hK rfl _ _ _ h)
  | lcmp =>
    obtain rfl := z_len ok
    match st, h with
    | .long y :: .long x :: st, h => exact z_row (fun hx hb k => W.lcmp hx hb hd k) (hK rfl _ _ _ h)
  | dup =>
    obtain rfl := z_len ok
    match st, h with
    | v :: st, h => exact z_row (fun hx hb k => lv_dup hx hb hd (h_c1 h.1) k) (hK rfl _ _ _ h.2)
  | dup_x1 =>
    obtain rfl := z_len ok
    match st, h with
    | v :: w :: st, h => exact z_row (fun hx hb k => lv_dup_x1 hx hb hd (h_c1 h.1.1) (h_c1 h.1.2) k) (hK rfl _ _ _ h.2)
  | dup2 =>
    obtain rfl := z_len ok
    match st, h with
    | v :: w :: st, h => exact z_row (fun hx hb k => lv_dup2_11 hx hb hd (h_c1 h.1.1) (h_c1 h.1.2) k) (hK rfl _ _ _ h.2)
  | goto off =>
    simp only [z_okop, Bool.and_eq_true] at ok
    obtain rfl := z_len ok.1
    exact z_row (fun hx hb k => lv_goto hx hb hd (z_jmpS ok.2) k) (hJ _ _ _ _ h)
  | ifCond cd off =>
    simp only [z_okop, Bool.and_eq_true] at ok
    obtain rfl := z_len ok.1
    cases cd with
    | ne => exact h_ifN hd (z_jmpS ok.2) hJ (hK rfl) h
    | eq => exact h_if (by simp) hd (z_jmpS ok.2) hJ (hK rfl) h
    | lt => exact h_if (by simp) hd (z_jmpS ok.2) hJ (hK rfl) h
    | ge => exact h_if (by simp) hd (z_jmpS ok.2) hJ (hK rfl) h
    | gt => exact h_if (by simp) hd (z_jmpS ok.2) hJ (hK rfl) h
    | le => exact h_if (by simp) hd (z_jmpS ok.2) hJ (hK rfl) h
  | if_icmp cd off =>
    simp only [z_okop, Bool.and_eq_true] at ok
    obtain rfl := z_len ok.1
    cases cd with
    | ne => exact h_ifN2 hd (z_jmpS ok.2) hJ (hK rfl) h
    | eq => exact h_if2 (by simp) hd (z_jmpS ok.2) hJ (hK rfl) h
    | lt => exact h_if2 (by simp) hd (z_jmpS ok.2) hJ (hK rfl) h
    | ge => exact h_if2 (by simp) hd (z_jmpS ok.2) hJ (hK rfl) h
    | gt => exact h_if2 (by simp) hd (z_jmpS ok.2) hJ (hK rfl) h
    | le => exact h_if2 (by simp) hd (z_jmpS ok.2) hJ (hK rfl) h
  | ifnull off =>
    simp only [z_okop, Bool.and_eq_true] at ok
    obtain rfl := z_len ok.1
    match st, h with
    | .null :: st, h => exact z_row (fun hx hb k => lv_ifnullN hx hb hd (z_jmpS ok.2) k) (hJ _ _ _ _ h)
    | .ref o :: st, h => exact z_row (fun hx hb k => lv_ifnull hx hb hd k) (hK rfl _ _ _ h)
  | ifnonnull off =>
    simp only [z_okop, Bool.and_eq_true] at ok
    obtain rfl := z_len ok.1
    match st, h with
    | .null :: st, h => exact z_row (fun hx hb k => lv_ifnonnullN hx hb hd k) (hK rfl _ _ _ h)
    | .ref o :: st, h => exact z_row (fun hx hb k => lv_ifnonnull hx hb hd (z_jmpS ok.2) k) (hJ _ _ _ _ h)
  | aconst_null => obtain rfl := z_len ok; exact z_row (fun hx hb k => lv_null hx hb hd k) (hK rfl _ _ _ h)
  | getfield i =>
    simp only [z_okop, Bool.and_eq_true, decide_eq_true_eq] at ok
    obtain rfl := z_len ok.1
    exact h_get hd ok.2.1 ok.2.2 (hK rfl) h
  | putfield i =>
    simp only [z_okop, Bool.and_eq_true, decide_eq_true_eq] at ok
    obtain rfl := z_len ok.1
    exact h_put hd ok.2.1 ok.2.2.1 ok.2.2.2 (hK rfl) h
  | getstatic i =>
    simp only [z_okop, Bool.and_eq_true] at ok
    obtain rfl := z_len ok.1
    exact s_gets hd (z_at_mem ok.2) (hK rfl _ _ _ h)
  | iaload =>
    obtain rfl := z_len ok
    match a, st, h with
    | 0, .int i :: .ref o :: st, h => exact s_iald (n := (M.2.2.2.1 o).2) hd (Prod.ext h.1.1 rfl) h.1.2 (hK rfl _ _ _ h.2)
    | 1, .int i :: .ref 0 :: st, h => exact s_ialdF hd h.1 (hK rfl _ _ _ h.2)
    | 2, .int i :: .ref 1 :: st, h => exact s_ialdX hd h.1 (hK rfl _ _ _ h.2)
  | baload =>
    obtain rfl := z_len ok
    match st, h with
    | .int i :: .ref o :: st, h => exact s_zald (n := (M.2.2.2.1 o).2) hd (Prod.ext h.1.1 rfl) h.1.2 (hK rfl _ _ _ h.2)
  | aaload =>
    obtain rfl := z_len ok
    match st, h with
    | .int i :: .ref o :: st, h => exact s_aald (k := (M.2.2.2.1 o).1) (n := (M.2.2.2.1 o).2) hd rfl h.1.1 h.1.2 (hK rfl _ _ _ h.2)
  | arraylength =>
    obtain rfl := z_len ok
    match st, h with
    | .ref 1 :: st, h => exact s_alen hd (hK rfl _ _ _ h)
  | iastore =>
    obtain rfl := z_len ok
    match st, h with
    | .int x :: .int i :: .ref o :: st, h => exact s_iast (n := (M.2.2.2.1 o).2) hd (Prod.ext h.1.1 rfl) h.1.2 (hK rfl _ _ _ h.2)
  | bastore =>
    obtain rfl := z_len ok
    match st, h with
    | .int x :: .int i :: .ref o :: st, h => exact s_zast (n := (M.2.2.2.1 o).2) hd (Prod.ext h.1.1.1 rfl) h.1.1.2 h.1.2 (hK rfl _ _ _ h.2)
  | aastore =>
    obtain rfl := z_len ok
    match st, h with
    | .ref v :: .int i :: .ref o :: st, h => exact s_aast (k := (M.2.2.2.1 o).1) (n := (M.2.2.2.1 o).2) hd rfl h.1.1.1 h.1.1.2 h.1.2 (hK rfl _ _ _ h.2)
  | new i =>
    simp only [z_okop, Bool.and_eq_true] at ok
    obtain rfl := z_len ok.1
    have ok2 := ok.2
    unfold z_clk at ok2
    cases hc : z_cls[a]? with
    | none => rw [hc] at ok2; cases ok2
    | some r =>
      rw [hc] at ok2
      simp only [Bool.and_eq_true, decide_eq_true_eq] at ok2
      obtain ⟨rfl, hw⟩ := ok2
      exact s_new hd hc (z_at_mem hw) h.1 (hK rfl _ _ _ h.2)
  | newarray t =>
    cases t with
    | int =>
      obtain rfl := z_len ok
      match st, h with
      | .int n :: st, h => exact s_newaP hd (Or.inl ⟨rfl, rfl⟩) h.1.1 h.1.2.1 h.1.2.2 (hK rfl _ _ _ h.2)
    | boolean =>
      obtain rfl := z_len ok
      match st, h with
      | .int n :: st, h => exact s_newaP hd (Or.inr ⟨rfl, rfl⟩) h.1.1 h.1.2.1 h.1.2.2 (hK rfl _ _ _ h.2)
    | _ => exact h.elim
  | anewarray i =>
    simp only [z_okop, Bool.and_eq_true, decide_eq_true_eq] at ok
    obtain ⟨ok0, ⟨k1, k2⟩, ok2⟩ := ok
    obtain rfl := z_len ok0
    unfold z_clk at ok2
    cases hc : z_cls[z_ac a]? with
    | none => rw [hc] at ok2; cases ok2
    | some r =>
      rw [hc] at ok2
      simp only [Bool.and_eq_true] at ok2
      match st, h with
      | .int n :: st, h => exact s_newaR hd ⟨k1, k2⟩ hc (z_at_mem ok2.2) h.1.1 h.1.2.1 h.1.2.2 (hK rfl _ _ _ h.2)
  | invokevirtual i =>
    simp only [z_okop, Bool.and_eq_true, decide_eq_true_eq, z_nocell] at ok
    obtain ⟨ok0, ⟨ok1, ok2⟩, ok3, ok4, ok5⟩ := ok
    obtain rfl := z_len ok0
    match b, c, ok2, h with
    | n + 1, k + 1, ok2, h =>
      simp only [Bool.and_eq_true, z_calls, decide_eq_true_eq, z_cic] at ok2
      have hcl : ∃ r : vw_C, z_cls[k]? = some r ∧ r.1 = (z_my a).cls := by
        cases hc : z_cls[k]? with
        | none => rw [hc] at ok2; exact absurd ok2.2 (by simp)
        | some r => rw [hc] at ok2; exact ⟨r, rfl, of_decide_eq_true ok2.2⟩
      exact s_callV hd ok2.1.1 (z_at_mem ok1) ok2.1.2 ok3 ⟨ok4, ok5⟩ hcl (hK rfl) h
  | invokestatic i =>
    simp only [z_okop, Bool.and_eq_true, decide_eq_true_eq, z_nocell, z_calls, beq_iff_eq] at ok
    obtain ⟨ok0, ⟨ok1, rfl, ok2, ok6⟩, ok3, ok4, ok5⟩ := ok
    subst ok0
    exact s_callS hd ok2 (z_at_mem ok1) ok6 ok3 ⟨ok4, ok5⟩ (hK rfl) h
  | invokespecial i =>
    simp only [z_okop, Bool.and_eq_true] at ok
    obtain ⟨ok0, ok⟩ := ok
    obtain rfl := z_len ok0
    have h' : (if c = 99 then o_obj K L st M else o_callN (z_Ok l G) (z_rm mid) z0 a b c K L st M) := h
    by_cases hc : c = 99
    · rw [if_pos hc] at ok h'
      simp only [Bool.and_eq_true, decide_eq_true_eq] at ok
      match st, h' with
      | .ref o :: st, h => exact s_obj hd (z_at_mem ok.1) ok.2 h.1 (hK rfl _ _ _ h.2)
    · rw [if_neg hc] at ok h'
      simp only [Bool.and_eq_true, decide_eq_true_eq, Bool.or_eq_true] at ok
      obtain ⟨ok1, ok2, ok3, ok4⟩ := ok
      match b, c, ok2, h' with
      | n + 1, k + 1, ok2, h' =>
        simp only [Bool.and_eq_true, z_calls, decide_eq_true_eq] at ok2
        refine s_callI (c9 := k) hd ok2.1 ?_ ok2.2 ok3 ok4 (hK rfl) h'
        rcases ok1 with h | h
        · exact Or.inl (z_at_mem h)
        · refine Or.inr ?_
          unfold z_nst at h
          cases hq : z_nest[pl]? with
          | none => rw [hq] at h; cases h
          | some q =>
            rw [hq] at h
            simp only [Bool.and_eq_true, decide_eq_true_eq] at h
            obtain ⟨q1, q2, q3, q4⟩ := q
            obtain ⟨rfl, rfl, rfl⟩ := h
            exact ⟨q4, List.mem_of_getElem? hq⟩
  | ireturn =>
    simp only [z_okop, Bool.and_eq_true] at ok
    obtain rfl := z_len ok.1
    have ok2 := ok.2
    cases hr : z_mr mid with
    | none => rw [hr] at ok2; cases ok2
    | some t =>
      rw [hr] at ok2
      cases t with
      | int =>
        have ha : a = 0 := by simpa using ok2
        subst ha
        match st, h with
        | [.int x], h => exact s_end (v := some (.int x)) ⟨hd, _, hr, rfl⟩ h
      | boolean =>
        have ha : a = 1 := by simpa using ok2
        subst ha
        match st, h with
        | [.int x], h => exact s_end (v := some (.int x)) ⟨hd, _, hr, by rcases h.1 with rfl | rfl <;> rfl⟩ h.2
      | _ => cases ok2
  | lreturn =>
    simp only [z_okop, Bool.and_eq_true, decide_eq_true_eq] at ok
    obtain rfl := z_len ok.1
    match st, h with
    | [.long x], h => exact s_end (v := some (.long x)) ⟨hd, ok.2⟩ h
  | return_ =>
    simp only [z_okop, Bool.and_eq_true, decide_eq_true_eq] at ok
    obtain rfl := z_len ok.1
    match st, h with
    | [], h => exact s_end (v := none) ⟨hd, ok.2⟩ h
  | tableswitch d lo hi offs =>
    simp only [z_okop, Bool.and_eq_true, decide_eq_true_eq, List.all_eq_true, beq_iff_eq] at ok
    obtain ⟨⟨rfl, rfl, rfl, hc1⟩, ⟨hd0, hlh, hsz⟩, hall⟩ := ok
    match st, h with
    | .int x :: st, h =>
      intro p e s m args below meth c' H locs cells slots ls Z hS hN hM hl hlo hC hR
      by_cases q1 : x.toInt < (b : Int)
      · exact lv_tableOut hS.1.1 hS.1.2 hd (Or.inl q1) (z_tgtS hd0) (hJ _ _ _ _ (h.1 (Int32.lt_iff_toInt_lt.mpr (by rw [nI_toInt (by omega)]; exact q1))) p e s m args below meth c' H locs cells slots ls Z hS hN hM hl hlo hC hR)
      · by_cases q2 : (c : Int) < x.toInt
        · exact lv_tableOut hS.1.1 hS.1.2 hd (Or.inr q2) (z_tgtS hd0) (hJ _ _ _ _ (h.2.1 (Int32.lt_iff_toInt_lt.mpr (by rw [nI_toInt (by omega)]; exact q2))) p e s m args below meth c' H locs cells slots ls Z hS hN hM hl hlo hC hR)
        · have hlt : (x.toInt - b).toNat < offs.size := by omega
          have ho : offs[(x.toInt - b).toNat]? = some offs[(x.toInt - b).toNat] := Array.getElem?_eq_getElem hlt
          have ho2 : offs.toList[(x.toInt - b).toNat]? = some offs[(x.toInt - b).toNat] := by rw [Array.getElem?_toList]; exact ho
          refine lv_tableIn hS.1.1 hS.1.2 hd q1 q2 ho (z_tgtS (hall _ (List.mem_of_getElem? ho2))) ?_
          exact h_tswS hJ offs.toList b (by simp only [Array.length_toList]; omega) h.2.2 _ _ ho2 (by omega) p e s m args below meth c' H locs cells slots ls Z hS hN hM hl hlo hC hR
  | lookupswitch d ps =>
    simp only [z_okop, Bool.and_eq_true, decide_eq_true_eq, beq_iff_eq] at ok
    obtain ⟨⟨rfl, hsort⟩, hd0, hall⟩ := ok
    rw [List.all_eq_true] at hall
    match st, h with
    | .int x :: st, h =>
      intro p e s m args below meth c' H locs cells slots ls Z hS hN hM hl hlo hC hR
      have hge : 0 ≤ (a : Int) + Op.lookupswitch.offset ps.toList d x.toInt := by
        have : ∀ (l : List (Int × Int)), (∀ q ∈ l, 0 ≤ (a : Int) + q.2) → 0 ≤ (a : Int) + Op.lookupswitch.offset l d x.toInt := by
          intro l
          induction l with
          | nil => intro _; exact hd0
          | cons q r ih =>
            intro hq
            obtain ⟨k, t⟩ := q
            rw [Op.lookupswitch.offset_cons]
            split
            · exact hq (k, t) List.mem_cons_self
            · exact ih (fun q hq' => hq q (List.mem_cons_of_mem _ hq'))
        refine this _ fun q hq => ?_
        have := hall q hq
        simp only [Bool.and_eq_true, decide_eq_true_eq] at this
        exact this.1
      refine lv_lookup hS.1.1 hS.1.2 hd hsort rfl (z_tgtS hge) ?_
      refine h_lswS hJ ps.toList (fun q hq => ?_) h p e s m args below meth c' H locs cells slots ls Z hS hN hM hl hlo hC hR
      have := hall q hq
      simp only [Bool.and_eq_true, decide_eq_true_eq] at this
      exact this.2
  | _ => exact h.elim
theorem z_wp_sound {J : Nat → ZK} {e : Nat} (hJ : ∀ t L st M, J t L st M → z_W l G mid z0 Rt t L st M) : ∀ (ops : List ZO) (pc : Nat) (pl : List Nat), z_chk mid ops pc e pl = true → ∀ L st M, z_wp G mid z0 (z_Ok l G) Rt J (J e) ops L st M → z_W l G mid z0 Rt pc L st M
  | [], pc, pl, hc, L, st, M, h => by
    have : pc = e := by simpa [z_chk] using hc
    subst this
    exact hJ _ _ _ _ h
  | (i, a, b, c) :: r, pc, pl, hc, L, st, M, h => by
    unfold z_chk at hc
    cases hd : decode (z_mc mid) pc with
    | error x => rw [hd] at hc; cases hc
    | ok q =>
      obtain ⟨j, len⟩ := q
      rw [hd] at hc
      simp only [Bool.and_eq_true, decide_eq_true_eq] at hc
      obtain ⟨rfl, ok, hr⟩ := hc
      refine z_hd_sound hJ hd ok (fun ht L st M h => ?_) h
      rw [if_neg (by rw [ht]; simp)] at hr
      exact z_wp_sound hJ r _ _ hr L st M h
theorem z_fd_chk {bk : List (Nat × ZE)} : ∀ (pl : List (List Nat)), z_chks mid bk pl = true → ∀ (pc : Nat) (x : ZE), z_fd bk pc = some x → ∃ q, z_chk mid x.2.2.1 pc x.2.2.2 q = true := by
  induction bk with
  | nil => intro pl h pc x hx; cases hx
  | cons k t ih =>
    intro pl h pc x hx
    obtain ⟨k, y⟩ := k
    simp only [z_chks, Bool.and_eq_true] at h
    unfold z_fd at hx
    by_cases e : pc = k
    · rw [if_pos e] at hx
      cases hx
      subst e
      exact ⟨_, h.1⟩
    · rw [if_neg e] at hx
      exact ih _ h.2 pc x hx
theorem z_q_sound {bk : List (Nat × ZE)} {pl : List (List Nat)} (hc : z_chks mid bk pl = true) : ∀ (n pc : Nat) (L : ZL) (st : List Value) (M : ZM), z_q G mid z0 bk (z_Ok l G) Rt (z_W l G mid z0 Rt) n pc L st M → z_W l G mid z0 Rt pc L st M
  | 0, pc, L, st, M, h => h
  | n + 1, pc, L, st, M, h => by
    unfold z_q at h
    cases hf : z_fd bk pc with
    | none => rw [hf] at h; exact h
    | some x =>
      obtain ⟨cut, bs, ops, e⟩ := x
      rw [hf] at h
      cases cut with
      | true => exact z_mask bs h
      | false =>
        obtain ⟨q, hq⟩ := z_fd_chk pl hc pc _ hf
        exact z_mask bs (z_wp_sound (fun t L st M h => z_q_sound hc n t L st M h) ops pc q hq _ st M h)
/-- from a block on, to the next cuts -/
theorem z_run {bk : List (Nat × ZE)} {pl : List (List Nat)} (hc : z_chks mid bk pl = true) {pc : Nat} (n : Nat) {cut : Bool} {bs : List Bool} {ops : List ZO} {e : Nat} (hf : z_fd bk pc = some (cut, bs, ops, e)) {L : ZL} {st : List Value} {M : ZM} (h : z_wp G mid z0 (z_Ok l G) Rt (z_q G mid z0 bk (z_Ok l G) Rt (z_W l G mid z0 Rt) n) (z_q G mid z0 bk (z_Ok l G) Rt (z_W l G mid z0 Rt) n e) ops (z_mk1 bs L) st M) : z_W l G mid z0 Rt pc L st M := by
  obtain ⟨q, hq⟩ := z_fd_chk pl hc pc _ hf
  exact z_mask bs (z_wp_sound (fun t L st M h => z_q_sound hc n t L st M h) ops pc q hq _ st M h)
end
theorem z_chks_cons {mid pc e : Nat} {cut : Bool} {bs : List Bool} {ops : List ZO} {t : List (Nat × ZE)} {q : List Nat} {pl : List (List Nat)} (h1 : z_chk mid ops pc e q = true) (h2 : z_chks mid t pl = true) : z_chks mid ((pc, cut, bs, ops, e) :: t) (q :: pl) = true := by
  simp only [z_chks, List.headD_cons, List.tail_cons, h1, h2, Bool.and_self]
theorem z_chks_nil {mid : Nat} : z_chks mid [] [] = true := rfl
