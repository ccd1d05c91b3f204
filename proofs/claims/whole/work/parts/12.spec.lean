/-! THE MESH AS NUMBERS: s.1 = (nodes, links); s.2: 0 sort, 1 cycle, 2 phase, 3 one, 4 other, 5 slots. A row r: 0 parent, 8 cost, 16 sequence, 24 bound, 32 bound's cost, 40 loss, 49 loss back, 58 down, 67 offset, 75 margin, 76 last sequence number, 77 rounds -/
abbrev ZS : Type := (Nat × Nat) × (Nat → Nat → Int32)
abbrev ZW : Type := Nat → Int32
/-- the shape of the reference's object -/
abbrev SM (T : (Nat → Nat × Nat) × Nat × Nat) (mr : Nat → Nat → Option Nat) : Prop := (T.1 373 = (1, 7) ∧ T.1 374 = (2, 100) ∧ T.1 375 = (2, 8) ∧ T.1 376 = (2, 8) ∧ T.1 377 = (2, 8) ∧ T.1 378 = (2, 9) ∧ T.1 379 = (2, 9) ∧ T.1 380 = (2, 9) ∧ T.1 381 = (2, 78) ∧ T.1 382 = (2, 78) ∧ T.1 383 = (2, 78) ∧ T.1 384 = (2, 1092) ∧ T.1 385 = (2, 156) ∧ T.1 386 = (3, 2) ∧ T.1 387 = (2, 6) ∧ T.1 388 = (2, 6) ∧ T.1 389 = (2, 6) ∧ T.1 390 = (2, 400) ∧ T.1 391 = (2, 256) ∧ T.1 392 = (2, 8) ∧ T.1 393 = (2, 8) ∧ T.1 394 = (2, 8) ∧ T.1 395 = (2, 8) ∧ T.1 396 = (2, 9) ∧ T.1 397 = (2, 9) ∧ T.1 398 = (2, 9) ∧ T.1 399 = (2, 9) ∧ T.1 400 = (2, 9)) ∧ (mr 373 0 = some 374 ∧ mr 373 3 = some 375 ∧ mr 373 4 = some 376 ∧ mr 373 5 = some 377 ∧ mr 373 7 = some 378 ∧ mr 373 8 = some 379 ∧ mr 373 9 = some 380 ∧ mr 373 10 = some 381 ∧ mr 373 11 = some 382 ∧ mr 373 12 = some 383 ∧ mr 373 13 = some 384 ∧ mr 373 16 = some 385 ∧ mr 373 17 = some 386 ∧ mr 373 18 = some 387 ∧ mr 373 19 = some 388 ∧ mr 373 20 = some 389 ∧ mr 373 24 = some 390 ∧ mr 373 25 = some 391 ∧ mr 373 27 = some 392 ∧ mr 373 28 = some 393 ∧ mr 373 29 = some 394 ∧ mr 373 30 = some 395 ∧ mr 373 32 = some 396 ∧ mr 373 33 = some 397 ∧ mr 373 34 = some 398 ∧ mr 373 35 = some 399 ∧ mr 373 36 = some 400)
/-- the reference's mesh -/
abbrev PMs (mi : Nat → Nat → Int32) (s : ZS) : Prop := (mi 373 2 = nI s.1.1 ∧ mi 373 6 = nI s.1.2 ∧ mi 375 = s.2 0 ∧ mi 376 = s.2 1 ∧ mi 377 = s.2 2 ∧ mi 378 = s.2 3 ∧ mi 379 = s.2 4 ∧ mi 380 = s.2 5) ∧ s.1.1 ≤ 8 ∧ s.1.2 ≤ 9
def f_air (s : ZS) (r : ZW) (k : Nat) : Int32 := (nI 100 * s.2 5 k + (nI 10 - r (40 + k)) * (nI 10 - r (49 + k)) - nI 1) / ((nI 10 - r (40 + k)) * (nI 10 - r (49 + k)))
def f_is (s : ZS) (a b : Int32) (k : Nat) : Bool := (decide (s.2 3 k = a) && decide (s.2 4 k = b)) || (decide (s.2 3 k = b) && decide (s.2 4 k = a))
def f_link (s : ZS) (r : ZW) (a b : Int32) : Nat → Option Nat
  | 0 => none
  | k + 1 => if f_is s a b k && decide (r (58 + k) = 0) then some k else f_link s r a b k
def z_on : Option Nat → Int32
  | none => z_ng 9
  | some k => nI k
def f_has (x : Int32) (k : Nat) : Bool := decide (z_shr x (nI k) &&& nI 1 = nI 1)
def f_offers (s : ZS) (co : Int32) (r : ZW) (i : Nat) : Bool := if s.2 0 i = 0 then f_has co i else decide (s.2 0 i = nI 1) && decide (r i ≠ z_ng 9)
def f_offered (s : ZS) (r : ZW) (i : Nat) : Int32 := if s.2 0 i = 0 then r (67 + i) else r (8 + i)
def f_seq (s : ZS) (r : ZW) (i : Nat) : Int32 := if s.2 0 i = 0 then r 76 else r (16 + i)
def f_price (s : ZS) (co : Int32) (r : ZW) (a b : Nat) : Int32 := match f_link s r (nI a) (nI b) s.1.2 with
  | none => z_ng 9
  | some k => if f_offers s co r a then f_offered s r a + f_air s r k else z_ng 9
def f_safe (s : ZS) (r : ZW) (a b : Nat) : Bool := decide (r (24 + b) < f_seq s r a) || (decide (f_seq s r a = r (24 + b)) && decide (f_offered s r a < r (32 + b)))
def f_good (s : ZS) (co : Int32) (r : ZW) (a b : Nat) : Bool := decide (a ≠ b) && (decide (f_price s co r a b ≠ z_ng 9) && f_safe s r a b)
def f_awake (s : ZS) (rd : Int32) (i : Nat) : Bool := decide (s.2 0 i ≠ nI 2) || decide (z_rem rd (s.2 1 i) = s.2 2 i)
/-! a node's round -/
def f_par (A : ZW) (n : Nat) : Option Nat := if A n = z_ng 9 then none else some (z_ix (A n))
def f_st1 (s : ZS) (co : Int32) (A : ZW) (n : Nat) : Int32 × Int32 × Int32 := match f_par A n with
  | some p => if f_good s co A p n then (A n, f_price s co A p n, f_seq s A p) else (z_ng 9, A (8 + n), A (16 + n))
  | none => (z_ng 9, A (8 + n), A (16 + n))
def f_best (s : ZS) (co : Int32) (A : ZW) (n : Nat) : Nat → Option Nat
  | 0 => none
  | k + 1 => match f_best s co A n k with
    | none => if f_good s co A k n then some k else none
    | some b => if f_good s co A k n && decide (f_price s co A k n < f_price s co A b n) then some k else some b
def f_any (s : ZS) (co : Int32) (A : ZW) (n : Nat) : Nat → Bool
  | 0 => false
  | k + 1 => f_any s co A n k || (decide (k ≠ n) && decide (f_price s co A k n ≠ z_ng 9))
def f_st2 (s : ZS) (co : Int32) (A : ZW) (n : Nat) : Int32 × Int32 × Int32 := match f_best s co A n s.1.1 with
  | none => f_st1 s co A n
  | some b => if (f_st1 s co A n).1 = z_ng 9 ∨ f_price s co A b n + A 75 < (f_st1 s co A n).2.1 then (nI b, f_price s co A b n, f_seq s A b) else f_st1 s co A n
def f_new (s : ZS) (co : Int32) (A : ZW) (n : Nat) : Int32 × Int32 × Int32 × Int32 × Int32 :=
  if (f_st2 s co A n).1 = z_ng 9 then (z_ng 9, nI 0, nI 0, A (24 + n), A (32 + n))
  else if A (24 + n) < (f_st2 s co A n).2.2 then ((f_st2 s co A n).1, (f_st2 s co A n).2.1, (f_st2 s co A n).2.2, (f_st2 s co A n).2.2, (f_st2 s co A n).2.1)
  else if (f_st2 s co A n).2.1 < A (32 + n) then ((f_st2 s co A n).1, (f_st2 s co A n).2.1, (f_st2 s co A n).2.2, A (24 + n), (f_st2 s co A n).2.1)
  else ((f_st2 s co A n).1, (f_st2 s co A n).2.1, (f_st2 s co A n).2.2, A (24 + n), A (32 + n))
def f_ask (s : ZS) (co : Int32) (A : ZW) (n : Nat) : Bool := decide ((f_st2 s co A n).1 = z_ng 9) && f_any s co A n s.1.1
/-- node n acts in this round -/
def f_acts (s : ZS) (A : ZW) (n : Nat) : Bool := decide (¬ s.2 0 n = 0) && f_awake s (A 77) n
/-- five places of a row, of node n -/
def f_put (r : ZW) (n : Nat) (v : Int32 × Int32 × Int32 × Int32 × Int32) : ZW := fun j =>
  if j = n then v.1 else if j = 8 + n then v.2.1 else if j = 16 + n then v.2.2.1 else if j = 24 + n then v.2.2.2.1 else if j = 32 + n then v.2.2.2.2 else r j
def f_rows (s : ZS) (co : Int32) (A : ZW) : Nat → ZW
  | 0 => A
  | k + 1 => if f_acts s A k then f_put (f_rows s co A k) k (f_new s co A k) else f_rows s co A k
def f_asks (s : ZS) (co : Int32) (A : ZW) : Nat → Bool
  | 0 => false
  | k + 1 => f_asks s co A k || (f_acts s A k && f_ask s co A k)
/-- a round -/
def f_go (s : ZS) (co : Int32) (A : ZW) : ZW := fun j =>
  if j = 77 then A 77 + nI 1 else if j = 76 then A 76 + (if f_asks s co A s.1.1 then nI 1 else nI 0) else f_rows s co A s.1.1 j
def f_gos (s : ZS) (co : Int32) : Nat → ZW → ZW
  | 0, r => r
  | k + 1, r => f_gos s co k (f_go s co r)
def z_hi (r : ZW) : Prop := ∀ j, 78 ≤ j → r j = 0
/-- where a node's way ends -/
def f_end (s : ZS) (r : ZW) : Nat → Nat → Nat
  | 0, a => a
  | k + 1, a => if s.2 0 a = 0 then a else match f_par r a with
    | none => a
    | some p => f_end s r k p
def f_endOf (s : ZS) (co : Int32) (r : ZW) (i : Nat) : Option Nat := if s.2 0 (f_end s r s.1.1 i) = 0 then (if f_has co (f_end s r s.1.1 i) then some (f_end s r s.1.1 i) else none) else none
def f_reached (s : ZS) (co : Int32) (r : ZW) : Nat → Int32
  | 0 => nI 0
  | k + 1 => f_reached s co r k ||| (if (f_endOf s co r k).isSome then z_shl (nI 1) (nI k) else nI 0)
def f_load (s : ZS) (co : Int32) (r : ZW) (g : Nat) : Nat → Nat
  | 0 => 0
  | k + 1 => f_load s co r g k + (if k ≠ g ∧ f_endOf s co r k = some g then 1 else 0)
def f_those (s : ZS) (x : Int32) : Nat → Int32
  | 0 => nI 0
  | k + 1 => f_those s x k ||| (if s.2 0 k = x then z_shl (nI 1) (nI k) else nI 0)
def f_downs (r : ZW) : Nat → Int32
  | 0 => nI 0
  | k + 1 => f_downs r k ||| z_shl (r (58 + k)) (nI k)
def f_ones (x : Int32) : Nat → Int32
  | 0 => nI 0
  | k + 1 => f_ones x k + (z_shr x (nI k) &&& nI 1)
def f_pow (x : Int32) : Nat → Int32
  | 0 => nI 1
  | k + 1 => f_pow x k * x
def f_fac : Nat → Int32
  | 0 => nI 1
  | 1 => nI 1
  | k + 2 => f_fac (k + 1) * nI (k + 2)
/-- a property of a node -/
def f_par1 (s : ZS) (r : ZW) (i : Nat) : Bool := decide (¬ s.2 0 i = 0) && decide (¬ r i = z_ng 9)
def f_tell (s : ZS) (co : Int32) (r : ZW) (i : Nat) (what : Int32) : Int32 :=
  if what = nI 0 then s.2 0 i
  else if what = nI 1 then (if s.2 0 i = 0 then r (67 + i) else s.2 1 i)
  else if what = nI 2 then (if s.2 0 i = nI 2 then s.2 2 i else nI 0)
  else if what = nI 3 then (if f_par1 s r i then r i else z_ng 9)
  else if what = nI 4 then (if f_par1 s r i then r (8 + i) else z_ng 9)
  else if what = nI 5 then (if f_par1 s r i then r (16 + i) else z_ng 9)
  else if what = nI 6 then (if s.2 0 i = 0 then z_ng 9 else r (24 + i))
  else if what = nI 7 then (if s.2 0 i = 0 then z_ng 9 else r (32 + i))
  else if what = nI 8 then z_on (f_endOf s co r i)
  else if what = nI 9 then (if s.2 0 i = 0 then nI (f_load s co r i s.1.1) else z_ng 9)
  else z_ng 2
def f_linkp (s : ZS) (r : ZW) (k : Nat) (what : Int32) : Int32 :=
  if what = nI 0 then s.2 3 k
  else if what = nI 1 then s.2 4 k
  else if what = nI 2 then r (40 + k)
  else if what = nI 3 then r (49 + k)
  else if what = nI 4 then s.2 5 k
  else if what = nI 5 then f_air s r k
  else if what = nI 6 then r (58 + k)
  else z_ng 2
