theorem i_c100 : (z_rm 100).cells = 27 ∧ (z_rm 100).slots = 2386 := cz_100.2
/-- the reference's arrays, made one behind another -/
def z_mod (mi : Nat → Nat → Int32) (mr : Nat → Nat → Option Nat) (ml : Nat → Nat → Int64) (T : (Nat → Nat × Nat) × Nat × Nat) : ZM := (z_new (z_new (z_new (z_new (z_new (z_new (z_new (z_new (z_new (z_new (z_new (z_new (z_new (z_new (z_new (z_new (z_new (z_new (z_new (z_new (z_new (z_new (z_new (z_new (z_new (z_new (z_new (mi, mr, ml, T) 374 373 0 (2, 100) (374 + 1) (T.2.2 + 100)) 375 373 3 (2, 8) (375 + 1) (T.2.2 + 100 + 8)) 376 373 4 (2, 8) (376 + 1) (T.2.2 + 108 + 8)) 377 373 5 (2, 8) (377 + 1) (T.2.2 + 116 + 8)) 378 373 7 (2, 9) (378 + 1) (T.2.2 + 124 + 9)) 379 373 8 (2, 9) (379 + 1) (T.2.2 + 133 + 9)) 380 373 9 (2, 9) (380 + 1) (T.2.2 + 142 + 9)) 381 373 10 (2, 78) (381 + 1) (T.2.2 + 151 + 78)) 382 373 11 (2, 78) (382 + 1) (T.2.2 + 229 + 78)) 383 373 12 (2, 78) (383 + 1) (T.2.2 + 307 + 78)) 384 373 13 (2, 1092) (384 + 1) (T.2.2 + 385 + 1092)) 385 373 16 (2, 156) (385 + 1) (T.2.2 + 1477 + 156)) 386 373 17 (3, 2) (386 + 1) (T.2.2 + 1633 + 2)) 387 373 18 (2, 6) (387 + 1) (T.2.2 + 1635 + 6)) 388 373 19 (2, 6) (388 + 1) (T.2.2 + 1641 + 6)) 389 373 20 (2, 6) (389 + 1) (T.2.2 + 1647 + 6)) 390 373 24 (2, 400) (390 + 1) (T.2.2 + 1653 + 400)) 391 373 25 (2, 256) (391 + 1) (T.2.2 + 2053 + 256)) 392 373 27 (2, 8) (392 + 1) (T.2.2 + 2309 + 8)) 393 373 28 (2, 8) (393 + 1) (T.2.2 + 2317 + 8)) 394 373 29 (2, 8) (394 + 1) (T.2.2 + 2325 + 8)) 395 373 30 (2, 8) (395 + 1) (T.2.2 + 2333 + 8)) 396 373 32 (2, 9) (396 + 1) (T.2.2 + 2341 + 9)) 397 373 33 (2, 9) (397 + 1) (T.2.2 + 2350 + 9)) 398 373 34 (2, 9) (398 + 1) (T.2.2 + 2359 + 9)) 399 373 35 (2, 9) (399 + 1) (T.2.2 + 2368 + 9)) 400 373 36 (2, 9) (400 + 1) (T.2.2 + 2377 + 9))
section
variable {mi : Nat → Nat → Int32} {mr : Nat → Nat → Option Nat} {ml : Nat → Nat → Int64} {T : (Nat → Nat × Nat) × Nat × Nat}
theorem z_mod_ag : AG 373 (mi, mr, ml, T) (z_mod mi mr ml T) 374 := by
  unfold z_mod
  exact AG.trans (AG.trans (AG.trans (AG.trans (AG.trans (AG.trans (AG.trans (AG.trans (AG.trans (AG.trans (AG.trans (AG.trans (AG.trans (AG.trans (AG.trans (AG.trans (AG.trans (AG.trans (AG.trans (AG.trans (AG.trans (AG.trans (AG.trans (AG.trans (AG.trans (AG.trans (AG.new) AG.new (by omega)) AG.new (by omega)) AG.new (by omega)) AG.new (by omega)) AG.new (by omega)) AG.new (by omega)) AG.new (by omega)) AG.new (by omega)) AG.new (by omega)) AG.new (by omega)) AG.new (by omega)) AG.new (by omega)) AG.new (by omega)) AG.new (by omega)) AG.new (by omega)) AG.new (by omega)) AG.new (by omega)) AG.new (by omega)) AG.new (by omega)) AG.new (by omega)) AG.new (by omega)) AG.new (by omega)) AG.new (by omega)) AG.new (by omega)) AG.new (by omega)) AG.new (by omega)
theorem z_mod_T0 : (z_mod mi mr ml T).2.2.2.1 374 = (2, 100) := by
  unfold z_mod
  simp (disch := omega) only [n_4, n_4x]
theorem z_mod_R0 : (z_mod mi mr ml T).2.1 373 0 = some 374 := by
  unfold z_mod
  simp (disch := omega) only [n_2a, n_2k]
theorem z_mod_I0 : (z_mod mi mr ml T).1 374 = fun _ => 0 := by
  unfold z_mod
  simp (disch := omega) only [n_1, n_1x]
theorem z_mod_T1 : (z_mod mi mr ml T).2.2.2.1 375 = (2, 8) := by
  unfold z_mod
  simp (disch := omega) only [n_4, n_4x]
theorem z_mod_R1 : (z_mod mi mr ml T).2.1 373 3 = some 375 := by
  unfold z_mod
  simp (disch := omega) only [n_2a, n_2k]
theorem z_mod_I1 : (z_mod mi mr ml T).1 375 = fun _ => 0 := by
  unfold z_mod
  simp (disch := omega) only [n_1, n_1x]
theorem z_mod_T2 : (z_mod mi mr ml T).2.2.2.1 376 = (2, 8) := by
  unfold z_mod
  simp (disch := omega) only [n_4, n_4x]
theorem z_mod_R2 : (z_mod mi mr ml T).2.1 373 4 = some 376 := by
  unfold z_mod
  simp (disch := omega) only [n_2a, n_2k]
theorem z_mod_I2 : (z_mod mi mr ml T).1 376 = fun _ => 0 := by
  unfold z_mod
  simp (disch := omega) only [n_1, n_1x]
theorem z_mod_T3 : (z_mod mi mr ml T).2.2.2.1 377 = (2, 8) := by
  unfold z_mod
  simp (disch := omega) only [n_4, n_4x]
theorem z_mod_R3 : (z_mod mi mr ml T).2.1 373 5 = some 377 := by
  unfold z_mod
  simp (disch := omega) only [n_2a, n_2k]
theorem z_mod_I3 : (z_mod mi mr ml T).1 377 = fun _ => 0 := by
  unfold z_mod
  simp (disch := omega) only [n_1, n_1x]
theorem z_mod_T4 : (z_mod mi mr ml T).2.2.2.1 378 = (2, 9) := by
  unfold z_mod
  simp (disch := omega) only [n_4, n_4x]
theorem z_mod_R4 : (z_mod mi mr ml T).2.1 373 7 = some 378 := by
  unfold z_mod
  simp (disch := omega) only [n_2a, n_2k]
theorem z_mod_I4 : (z_mod mi mr ml T).1 378 = fun _ => 0 := by
  unfold z_mod
  simp (disch := omega) only [n_1, n_1x]
theorem z_mod_T5 : (z_mod mi mr ml T).2.2.2.1 379 = (2, 9) := by
  unfold z_mod
  simp (disch := omega) only [n_4, n_4x]
theorem z_mod_R5 : (z_mod mi mr ml T).2.1 373 8 = some 379 := by
  unfold z_mod
  simp (disch := omega) only [n_2a, n_2k]
theorem z_mod_I5 : (z_mod mi mr ml T).1 379 = fun _ => 0 := by
  unfold z_mod
  simp (disch := omega) only [n_1, n_1x]
theorem z_mod_T6 : (z_mod mi mr ml T).2.2.2.1 380 = (2, 9) := by
  unfold z_mod
  simp (disch := omega) only [n_4, n_4x]
theorem z_mod_R6 : (z_mod mi mr ml T).2.1 373 9 = some 380 := by
  unfold z_mod
  simp (disch := omega) only [n_2a, n_2k]
theorem z_mod_I6 : (z_mod mi mr ml T).1 380 = fun _ => 0 := by
  unfold z_mod
  simp (disch := omega) only [n_1, n_1x]
theorem z_mod_T7 : (z_mod mi mr ml T).2.2.2.1 381 = (2, 78) := by
  unfold z_mod
  simp (disch := omega) only [n_4, n_4x]
theorem z_mod_R7 : (z_mod mi mr ml T).2.1 373 10 = some 381 := by
  unfold z_mod
  simp (disch := omega) only [n_2a, n_2k]
theorem z_mod_I7 : (z_mod mi mr ml T).1 381 = fun _ => 0 := by
  unfold z_mod
  simp (disch := omega) only [n_1, n_1x]
theorem z_mod_T8 : (z_mod mi mr ml T).2.2.2.1 382 = (2, 78) := by
  unfold z_mod
  simp (disch := omega) only [n_4, n_4x]
theorem z_mod_R8 : (z_mod mi mr ml T).2.1 373 11 = some 382 := by
  unfold z_mod
  simp (disch := omega) only [n_2a, n_2k]
theorem z_mod_I8 : (z_mod mi mr ml T).1 382 = fun _ => 0 := by
  unfold z_mod
  simp (disch := omega) only [n_1, n_1x]
theorem z_mod_T9 : (z_mod mi mr ml T).2.2.2.1 383 = (2, 78) := by
  unfold z_mod
  simp (disch := omega) only [n_4, n_4x]
theorem z_mod_R9 : (z_mod mi mr ml T).2.1 373 12 = some 383 := by
  unfold z_mod
  simp (disch := omega) only [n_2a, n_2k]
theorem z_mod_I9 : (z_mod mi mr ml T).1 383 = fun _ => 0 := by
  unfold z_mod
  simp (disch := omega) only [n_1, n_1x]
theorem z_mod_T10 : (z_mod mi mr ml T).2.2.2.1 384 = (2, 1092) := by
  unfold z_mod
  simp (disch := omega) only [n_4, n_4x]
theorem z_mod_R10 : (z_mod mi mr ml T).2.1 373 13 = some 384 := by
  unfold z_mod
  simp (disch := omega) only [n_2a, n_2k]
theorem z_mod_I10 : (z_mod mi mr ml T).1 384 = fun _ => 0 := by
  unfold z_mod
  simp (disch := omega) only [n_1, n_1x]
theorem z_mod_T11 : (z_mod mi mr ml T).2.2.2.1 385 = (2, 156) := by
  unfold z_mod
  simp (disch := omega) only [n_4, n_4x]
theorem z_mod_R11 : (z_mod mi mr ml T).2.1 373 16 = some 385 := by
  unfold z_mod
  simp (disch := omega) only [n_2a, n_2k]
theorem z_mod_I11 : (z_mod mi mr ml T).1 385 = fun _ => 0 := by
  unfold z_mod
  simp (disch := omega) only [n_1, n_1x]
theorem z_mod_T12 : (z_mod mi mr ml T).2.2.2.1 386 = (3, 2) := by
  unfold z_mod
  simp (disch := omega) only [n_4, n_4x]
theorem z_mod_R12 : (z_mod mi mr ml T).2.1 373 17 = some 386 := by
  unfold z_mod
  simp (disch := omega) only [n_2a, n_2k]
theorem z_mod_I12 : (z_mod mi mr ml T).1 386 = fun _ => 0 := by
  unfold z_mod
  simp (disch := omega) only [n_1, n_1x]
theorem z_mod_T13 : (z_mod mi mr ml T).2.2.2.1 387 = (2, 6) := by
  unfold z_mod
  simp (disch := omega) only [n_4, n_4x]
theorem z_mod_R13 : (z_mod mi mr ml T).2.1 373 18 = some 387 := by
  unfold z_mod
  simp (disch := omega) only [n_2a, n_2k]
theorem z_mod_I13 : (z_mod mi mr ml T).1 387 = fun _ => 0 := by
  unfold z_mod
  simp (disch := omega) only [n_1, n_1x]
theorem z_mod_T14 : (z_mod mi mr ml T).2.2.2.1 388 = (2, 6) := by
  unfold z_mod
  simp (disch := omega) only [n_4, n_4x]
theorem z_mod_R14 : (z_mod mi mr ml T).2.1 373 19 = some 388 := by
  unfold z_mod
  simp (disch := omega) only [n_2a, n_2k]
theorem z_mod_I14 : (z_mod mi mr ml T).1 388 = fun _ => 0 := by
  unfold z_mod
  simp (disch := omega) only [n_1, n_1x]
theorem z_mod_T15 : (z_mod mi mr ml T).2.2.2.1 389 = (2, 6) := by
  unfold z_mod
  simp (disch := omega) only [n_4, n_4x]
theorem z_mod_R15 : (z_mod mi mr ml T).2.1 373 20 = some 389 := by
  unfold z_mod
  simp (disch := omega) only [n_2a, n_2k]
theorem z_mod_I15 : (z_mod mi mr ml T).1 389 = fun _ => 0 := by
  unfold z_mod
  simp (disch := omega) only [n_1, n_1x]
theorem z_mod_T16 : (z_mod mi mr ml T).2.2.2.1 390 = (2, 400) := by
  unfold z_mod
  simp (disch := omega) only [n_4, n_4x]
theorem z_mod_R16 : (z_mod mi mr ml T).2.1 373 24 = some 390 := by
  unfold z_mod
  simp (disch := omega) only [n_2a, n_2k]
theorem z_mod_I16 : (z_mod mi mr ml T).1 390 = fun _ => 0 := by
  unfold z_mod
  simp (disch := omega) only [n_1, n_1x]
theorem z_mod_T17 : (z_mod mi mr ml T).2.2.2.1 391 = (2, 256) := by
  unfold z_mod
  simp (disch := omega) only [n_4, n_4x]
theorem z_mod_R17 : (z_mod mi mr ml T).2.1 373 25 = some 391 := by
  unfold z_mod
  simp (disch := omega) only [n_2a, n_2k]
theorem z_mod_I17 : (z_mod mi mr ml T).1 391 = fun _ => 0 := by
  unfold z_mod
  simp (disch := omega) only [n_1, n_1x]
theorem z_mod_T18 : (z_mod mi mr ml T).2.2.2.1 392 = (2, 8) := by
  unfold z_mod
  simp (disch := omega) only [n_4, n_4x]
theorem z_mod_R18 : (z_mod mi mr ml T).2.1 373 27 = some 392 := by
  unfold z_mod
  simp (disch := omega) only [n_2a, n_2k]
theorem z_mod_I18 : (z_mod mi mr ml T).1 392 = fun _ => 0 := by
  unfold z_mod
  simp (disch := omega) only [n_1, n_1x]
theorem z_mod_T19 : (z_mod mi mr ml T).2.2.2.1 393 = (2, 8) := by
  unfold z_mod
  simp (disch := omega) only [n_4, n_4x]
theorem z_mod_R19 : (z_mod mi mr ml T).2.1 373 28 = some 393 := by
  unfold z_mod
  simp (disch := omega) only [n_2a, n_2k]
theorem z_mod_I19 : (z_mod mi mr ml T).1 393 = fun _ => 0 := by
  unfold z_mod
  simp (disch := omega) only [n_1, n_1x]
theorem z_mod_T20 : (z_mod mi mr ml T).2.2.2.1 394 = (2, 8) := by
  unfold z_mod
  simp (disch := omega) only [n_4, n_4x]
theorem z_mod_R20 : (z_mod mi mr ml T).2.1 373 29 = some 394 := by
  unfold z_mod
  simp (disch := omega) only [n_2a, n_2k]
theorem z_mod_I20 : (z_mod mi mr ml T).1 394 = fun _ => 0 := by
  unfold z_mod
  simp (disch := omega) only [n_1, n_1x]
theorem z_mod_T21 : (z_mod mi mr ml T).2.2.2.1 395 = (2, 8) := by
  unfold z_mod
  simp (disch := omega) only [n_4, n_4x]
theorem z_mod_R21 : (z_mod mi mr ml T).2.1 373 30 = some 395 := by
  unfold z_mod
  simp (disch := omega) only [n_2a, n_2k]
theorem z_mod_I21 : (z_mod mi mr ml T).1 395 = fun _ => 0 := by
  unfold z_mod
  simp (disch := omega) only [n_1, n_1x]
theorem z_mod_T22 : (z_mod mi mr ml T).2.2.2.1 396 = (2, 9) := by
  unfold z_mod
  simp (disch := omega) only [n_4, n_4x]
theorem z_mod_R22 : (z_mod mi mr ml T).2.1 373 32 = some 396 := by
  unfold z_mod
  simp (disch := omega) only [n_2a, n_2k]
theorem z_mod_I22 : (z_mod mi mr ml T).1 396 = fun _ => 0 := by
  unfold z_mod
  simp (disch := omega) only [n_1, n_1x]
theorem z_mod_T23 : (z_mod mi mr ml T).2.2.2.1 397 = (2, 9) := by
  unfold z_mod
  simp (disch := omega) only [n_4, n_4x]
theorem z_mod_R23 : (z_mod mi mr ml T).2.1 373 33 = some 397 := by
  unfold z_mod
  simp (disch := omega) only [n_2a, n_2k]
theorem z_mod_I23 : (z_mod mi mr ml T).1 397 = fun _ => 0 := by
  unfold z_mod
  simp (disch := omega) only [n_1, n_1x]
theorem z_mod_T24 : (z_mod mi mr ml T).2.2.2.1 398 = (2, 9) := by
  unfold z_mod
  simp (disch := omega) only [n_4, n_4x]
theorem z_mod_R24 : (z_mod mi mr ml T).2.1 373 34 = some 398 := by
  unfold z_mod
  simp (disch := omega) only [n_2a, n_2k]
theorem z_mod_I24 : (z_mod mi mr ml T).1 398 = fun _ => 0 := by
  unfold z_mod
  simp (disch := omega) only [n_1, n_1x]
theorem z_mod_T25 : (z_mod mi mr ml T).2.2.2.1 399 = (2, 9) := by
  unfold z_mod
  simp (disch := omega) only [n_4, n_4x]
theorem z_mod_R25 : (z_mod mi mr ml T).2.1 373 35 = some 399 := by
  unfold z_mod
  simp (disch := omega) only [n_2a, n_2k]
theorem z_mod_I25 : (z_mod mi mr ml T).1 399 = fun _ => 0 := by
  unfold z_mod
  simp (disch := omega) only [n_1, n_1x]
theorem z_mod_T26 : (z_mod mi mr ml T).2.2.2.1 400 = (2, 9) := by
  unfold z_mod
  simp (disch := omega) only [n_4, n_4x]
theorem z_mod_R26 : (z_mod mi mr ml T).2.1 373 36 = some 400 := by
  unfold z_mod
  simp (disch := omega) only [n_2a, n_2k]
theorem z_mod_I26 : (z_mod mi mr ml T).1 400 = fun _ => 0 := by
  unfold z_mod
  simp (disch := omega) only [n_1, n_1x]
theorem z_mod_SM (hT : T.1 373 = (1, 7)) : SM (z_mod mi mr ml T).2.2.2 (z_mod mi mr ml T).2.1 := ⟨⟨(z_mod_ag.T (by omega)).trans hT, z_mod_T0, z_mod_T1, z_mod_T2, z_mod_T3, z_mod_T4, z_mod_T5, z_mod_T6, z_mod_T7, z_mod_T8, z_mod_T9, z_mod_T10, z_mod_T11, z_mod_T12, z_mod_T13, z_mod_T14, z_mod_T15, z_mod_T16, z_mod_T17, z_mod_T18, z_mod_T19, z_mod_T20, z_mod_T21, z_mod_T22, z_mod_T23, z_mod_T24, z_mod_T25, z_mod_T26⟩, z_mod_R0, z_mod_R1, z_mod_R2, z_mod_R3, z_mod_R4, z_mod_R5, z_mod_R6, z_mod_R7, z_mod_R8, z_mod_R9, z_mod_R10, z_mod_R11, z_mod_R12, z_mod_R13, z_mod_R14, z_mod_R15, z_mod_R16, z_mod_R17, z_mod_R18, z_mod_R19, z_mod_R20, z_mod_R21, z_mod_R22, z_mod_R23, z_mod_R24, z_mod_R25, z_mod_R26⟩
theorem z_mod_I : ∀ c, 373 < c → c < 401 → (z_mod mi mr ml T).1 c = fun _ => 0 := fun c h1 h2 => by
  have e : c = 374 ∨ c = 375 ∨ c = 376 ∨ c = 377 ∨ c = 378 ∨ c = 379 ∨ c = 380 ∨ c = 381 ∨ c = 382 ∨ c = 383 ∨ c = 384 ∨ c = 385 ∨ c = 386 ∨ c = 387 ∨ c = 388 ∨ c = 389 ∨ c = 390 ∨ c = 391 ∨ c = 392 ∨ c = 393 ∨ c = 394 ∨ c = 395 ∨ c = 396 ∨ c = 397 ∨ c = 398 ∨ c = 399 ∨ c = 400 := by omega
  rcases e with rfl | rfl | rfl | rfl | rfl | rfl | rfl | rfl | rfl | rfl | rfl | rfl | rfl | rfl | rfl | rfl | rfl | rfl | rfl | rfl | rfl | rfl | rfl | rfl | rfl | rfl | rfl
  · exact z_mod_I0
  · exact z_mod_I1
  · exact z_mod_I2
  · exact z_mod_I3
  · exact z_mod_I4
  · exact z_mod_I5
  · exact z_mod_I6
  · exact z_mod_I7
  · exact z_mod_I8
  · exact z_mod_I9
  · exact z_mod_I10
  · exact z_mod_I11
  · exact z_mod_I12
  · exact z_mod_I13
  · exact z_mod_I14
  · exact z_mod_I15
  · exact z_mod_I16
  · exact z_mod_I17
  · exact z_mod_I18
  · exact z_mod_I19
  · exact z_mod_I20
  · exact z_mod_I21
  · exact z_mod_I22
  · exact z_mod_I23
  · exact z_mod_I24
  · exact z_mod_I25
  · exact z_mod_I26
end
section
variable {G : ZG} {z0 : Nat × Nat} {C : Nat → List Value → ZM → ZR → Prop} {Rt : ZR} {J : Nat → ZK} {E : ZK}
theorem i_beg {p : ZM} {r : List ZO} (h : z_wp G 100 z0 C Rt J E r [some (.ref 373)] [] p) : z_wp G 100 z0 C Rt J E ((.aload_n 0, 0, 0, 0) :: (.invokespecial 1, 0, 1, 99) :: r) [some (.ref 373)] [] p := by
  rw [e_cons]
  show z_wp G 100 z0 C Rt J E ((.invokespecial 1, 0, 1, 99) :: r) [some (.ref 373)] [.ref 373] p
  rw [e_cons]
  exact ⟨trivial, h⟩
/-- an array made and put into a field of the reference -/
theorem i_arr {p : ZM} {i : Instr} {a b c n kf X sl k idx : Nat} {at0 : ArrayType} {r : List ZO} (hi : ∀ K L st M, z_hd G 100 z0 C Rt J i a b c K L st M = K L (.int (nI n) :: st) M) (hat : ∀ K L st M, z_hd G 100 z0 C Rt J (.newarray at0) 0 0 0 K L st M = o_newa (z_rm 100) z0 k K L st M)
    (hT : p.2.2.2.1 373 = (1, 7)) (hX : p.2.2.2.2 = (X, sl)) (h3 : 373 < X) (hn : n ≤ 65536) (hr1 : X + 1 ≤ z0.1 + 27) (hr2 : sl + n ≤ z0.2 + 2386)
    (h : z_wp G 100 z0 C Rt J E r [some (.ref 373)] [] (z_new p X 373 kf (k, n) (X + 1) (sl + n))) :
    z_wp G 100 z0 C Rt J E ((.aload_n 0, 0, 0, 0) :: (i, a, b, c) :: (.newarray at0, 0, 0, 0) :: (.putfield idx, 7, kf, 2) :: r) [some (.ref 373)] [] p := by
  rw [e_cons]
  show z_wp G 100 z0 C Rt J E ((i, a, b, c) :: (.newarray at0, 0, 0, 0) :: (.putfield idx, 7, kf, 2) :: r) [some (.ref 373)] [.ref 373] p
  rw [e_cons, hi, e_cons, hat]
  show (z_rmk (z_rm 100) z0 p 1 (z_ix (nI n)) ∧ (¬ nI n < 0 ∧ z_ix (nI n) ≤ 65536)) ∧ z_wp G 100 z0 C Rt J E ((.putfield idx, 7, kf, 2) :: r) [some (.ref 373)] [.ref p.2.2.2.2.1, .ref 373] (z_nw p (k, z_ix (nI n)) (z_ix (nI n)))
  rw [e_ix (by omega), e_lt0 (by omega), e_rmk, i_c100.1, i_c100.2, hX]
  refine ⟨⟨⟨hr1, hr2⟩, not_false, hn⟩, ?_⟩
  rw [e_cons]
  show (z_nw p (k, n) n).2.2.2.1 373 = (1, 7) ∧ z_wp G 100 z0 C Rt J E r [some (.ref 373)] [] ((z_nw p (k, n) n).1, z_uR (z_nw p (k, n) n).2.1 373 kf (some X), (z_nw p (k, n) n).2.2)
  unfold z_nw
  rw [hX]
  refine ⟨?_, h⟩
  show (if 373 = X then (k, n) else p.2.2.2.1 373) = _
  rw [if_neg (by omega)]
  exact hT
end
section
variable {l : Launch} {G : ZG} {M : ZM} {mi : Nat → Nat → Int32} {mr : Nat → Nat → Option Nat} {ml : Nat → Nat → Int64} {T : (Nat → Nat × Nat) × Nat × Nat} {Q : ZR}
theorem i_Model (hT : T.1 373 = (1, 7)) (hb : T.2.1 = 374) (h : ∀ M', M'.2.2.2.2 = (401, T.2.2 + 2386) → SM M'.2.2.2 M'.2.1 → AG 373 (mi, mr, ml, T) M' 373 → M'.1 381 = f_fresh → (∀ c, 373 < c → c < 401 → c ≠ 381 → M'.1 c = fun _ => 0) → (M'.1 373 23 = nI 255 ∧ ∀ j, j ≠ 23 → M'.1 373 j = mi 373 j) → M'.2.2.1 373 = ml 373 → Q none M') : z_Ok l G m_Model_init [.ref 373] (mi, mr, ml, T) Q := by
  refine z_ok_of cz_100.1 (by rw [cl_100]; exact Nat.le_of_ble_eq_true rfl) (z_run ck_100 2 bf_100_0 ?_)
  rw [hb]
  rw [show z_mL m_Model_init = 1 from cl_100]
  show z_wp G 100 (374, T.2.2) _ _ _ _ bo_100_0 [some (.ref 373)] [] (mi, mr, ml, T)
  dsimp only [bo_100_0]
  refine i_beg ?_
  refine i_arr (n := 100) (k := 2) (X := 374) (sl := T.2.2) (fun _ _ _ _ => rfl) (fun _ _ _ _ => rfl) hT (Prod.ext hb rfl) (by omega) (by omega) (by show _ ≤ 374 + 27; omega) (by show _ ≤ T.2.2 + 2386; omega) ?_
  refine i_arr (n := 8) (k := 2) (X := 375) (sl := T.2.2 + 100) (fun _ _ _ _ => rfl) (fun _ _ _ _ => rfl) (by simp (disch := omega) only [n_4, hT]) rfl (by omega) (by omega) (by show _ ≤ 374 + 27; omega) (by show _ ≤ T.2.2 + 2386; omega) ?_
  refine i_arr (n := 8) (k := 2) (X := 376) (sl := T.2.2 + 108) (fun _ _ _ _ => rfl) (fun _ _ _ _ => rfl) (by simp (disch := omega) only [n_4, hT]) rfl (by omega) (by omega) (by show _ ≤ 374 + 27; omega) (by show _ ≤ T.2.2 + 2386; omega) ?_
  refine i_arr (n := 8) (k := 2) (X := 377) (sl := T.2.2 + 116) (fun _ _ _ _ => rfl) (fun _ _ _ _ => rfl) (by simp (disch := omega) only [n_4, hT]) rfl (by omega) (by omega) (by show _ ≤ 374 + 27; omega) (by show _ ≤ T.2.2 + 2386; omega) ?_
  refine i_arr (n := 9) (k := 2) (X := 378) (sl := T.2.2 + 124) (fun _ _ _ _ => rfl) (fun _ _ _ _ => rfl) (by simp (disch := omega) only [n_4, hT]) rfl (by omega) (by omega) (by show _ ≤ 374 + 27; omega) (by show _ ≤ T.2.2 + 2386; omega) ?_
  refine i_arr (n := 9) (k := 2) (X := 379) (sl := T.2.2 + 133) (fun _ _ _ _ => rfl) (fun _ _ _ _ => rfl) (by simp (disch := omega) only [n_4, hT]) rfl (by omega) (by omega) (by show _ ≤ 374 + 27; omega) (by show _ ≤ T.2.2 + 2386; omega) ?_
  refine i_arr (n := 9) (k := 2) (X := 380) (sl := T.2.2 + 142) (fun _ _ _ _ => rfl) (fun _ _ _ _ => rfl) (by simp (disch := omega) only [n_4, hT]) rfl (by omega) (by omega) (by show _ ≤ 374 + 27; omega) (by show _ ≤ T.2.2 + 2386; omega) ?_
  refine i_arr (n := 78) (k := 2) (X := 381) (sl := T.2.2 + 151) (fun _ _ _ _ => rfl) (fun _ _ _ _ => rfl) (by simp (disch := omega) only [n_4, hT]) rfl (by omega) (by omega) (by show _ ≤ 374 + 27; omega) (by show _ ≤ T.2.2 + 2386; omega) ?_
  refine i_arr (n := 78) (k := 2) (X := 382) (sl := T.2.2 + 229) (fun _ _ _ _ => rfl) (fun _ _ _ _ => rfl) (by simp (disch := omega) only [n_4, hT]) rfl (by omega) (by omega) (by show _ ≤ 374 + 27; omega) (by show _ ≤ T.2.2 + 2386; omega) ?_
  refine i_arr (n := 78) (k := 2) (X := 383) (sl := T.2.2 + 307) (fun _ _ _ _ => rfl) (fun _ _ _ _ => rfl) (by simp (disch := omega) only [n_4, hT]) rfl (by omega) (by omega) (by show _ ≤ 374 + 27; omega) (by show _ ≤ T.2.2 + 2386; omega) ?_
  refine i_arr (n := 1092) (k := 2) (X := 384) (sl := T.2.2 + 385) (fun _ _ _ _ => rfl) (fun _ _ _ _ => rfl) (by simp (disch := omega) only [n_4, hT]) rfl (by omega) (by omega) (by show _ ≤ 374 + 27; omega) (by show _ ≤ T.2.2 + 2386; omega) ?_
  refine i_arr (n := 156) (k := 2) (X := 385) (sl := T.2.2 + 1477) (fun _ _ _ _ => rfl) (fun _ _ _ _ => rfl) (by simp (disch := omega) only [n_4, hT]) rfl (by omega) (by omega) (by show _ ≤ 374 + 27; omega) (by show _ ≤ T.2.2 + 2386; omega) ?_
  refine i_arr (n := 2) (k := 3) (X := 386) (sl := T.2.2 + 1633) (fun _ _ _ _ => rfl) (fun _ _ _ _ => rfl) (by simp (disch := omega) only [n_4, hT]) rfl (by omega) (by omega) (by show _ ≤ 374 + 27; omega) (by show _ ≤ T.2.2 + 2386; omega) ?_
  refine i_arr (n := 6) (k := 2) (X := 387) (sl := T.2.2 + 1635) (fun _ _ _ _ => rfl) (fun _ _ _ _ => rfl) (by simp (disch := omega) only [n_4, hT]) rfl (by omega) (by omega) (by show _ ≤ 374 + 27; omega) (by show _ ≤ T.2.2 + 2386; omega) ?_
  refine i_arr (n := 6) (k := 2) (X := 388) (sl := T.2.2 + 1641) (fun _ _ _ _ => rfl) (fun _ _ _ _ => rfl) (by simp (disch := omega) only [n_4, hT]) rfl (by omega) (by omega) (by show _ ≤ 374 + 27; omega) (by show _ ≤ T.2.2 + 2386; omega) ?_
  refine i_arr (n := 6) (k := 2) (X := 389) (sl := T.2.2 + 1647) (fun _ _ _ _ => rfl) (fun _ _ _ _ => rfl) (by simp (disch := omega) only [n_4, hT]) rfl (by omega) (by omega) (by show _ ≤ 374 + 27; omega) (by show _ ≤ T.2.2 + 2386; omega) ?_
  refine i_arr (n := 400) (k := 2) (X := 390) (sl := T.2.2 + 1653) (fun _ _ _ _ => rfl) (fun _ _ _ _ => rfl) (by simp (disch := omega) only [n_4, hT]) rfl (by omega) (by omega) (by show _ ≤ 374 + 27; omega) (by show _ ≤ T.2.2 + 2386; omega) ?_
  refine i_arr (n := 256) (k := 2) (X := 391) (sl := T.2.2 + 2053) (fun _ _ _ _ => rfl) (fun _ _ _ _ => rfl) (by simp (disch := omega) only [n_4, hT]) rfl (by omega) (by omega) (by show _ ≤ 374 + 27; omega) (by show _ ≤ T.2.2 + 2386; omega) ?_
  refine i_arr (n := 8) (k := 2) (X := 392) (sl := T.2.2 + 2309) (fun _ _ _ _ => rfl) (fun _ _ _ _ => rfl) (by simp (disch := omega) only [n_4, hT]) rfl (by omega) (by omega) (by show _ ≤ 374 + 27; omega) (by show _ ≤ T.2.2 + 2386; omega) ?_
  refine i_arr (n := 8) (k := 2) (X := 393) (sl := T.2.2 + 2317) (fun _ _ _ _ => rfl) (fun _ _ _ _ => rfl) (by simp (disch := omega) only [n_4, hT]) rfl (by omega) (by omega) (by show _ ≤ 374 + 27; omega) (by show _ ≤ T.2.2 + 2386; omega) ?_
  refine i_arr (n := 8) (k := 2) (X := 394) (sl := T.2.2 + 2325) (fun _ _ _ _ => rfl) (fun _ _ _ _ => rfl) (by simp (disch := omega) only [n_4, hT]) rfl (by omega) (by omega) (by show _ ≤ 374 + 27; omega) (by show _ ≤ T.2.2 + 2386; omega) ?_
  refine i_arr (n := 8) (k := 2) (X := 395) (sl := T.2.2 + 2333) (fun _ _ _ _ => rfl) (fun _ _ _ _ => rfl) (by simp (disch := omega) only [n_4, hT]) rfl (by omega) (by omega) (by show _ ≤ 374 + 27; omega) (by show _ ≤ T.2.2 + 2386; omega) ?_
  refine i_arr (n := 9) (k := 2) (X := 396) (sl := T.2.2 + 2341) (fun _ _ _ _ => rfl) (fun _ _ _ _ => rfl) (by simp (disch := omega) only [n_4, hT]) rfl (by omega) (by omega) (by show _ ≤ 374 + 27; omega) (by show _ ≤ T.2.2 + 2386; omega) ?_
  refine i_arr (n := 9) (k := 2) (X := 397) (sl := T.2.2 + 2350) (fun _ _ _ _ => rfl) (fun _ _ _ _ => rfl) (by simp (disch := omega) only [n_4, hT]) rfl (by omega) (by omega) (by show _ ≤ 374 + 27; omega) (by show _ ≤ T.2.2 + 2386; omega) ?_
  refine i_arr (n := 9) (k := 2) (X := 398) (sl := T.2.2 + 2359) (fun _ _ _ _ => rfl) (fun _ _ _ _ => rfl) (by simp (disch := omega) only [n_4, hT]) rfl (by omega) (by omega) (by show _ ≤ 374 + 27; omega) (by show _ ≤ T.2.2 + 2386; omega) ?_
  refine i_arr (n := 9) (k := 2) (X := 399) (sl := T.2.2 + 2368) (fun _ _ _ _ => rfl) (fun _ _ _ _ => rfl) (by simp (disch := omega) only [n_4, hT]) rfl (by omega) (by omega) (by show _ ≤ 374 + 27; omega) (by show _ ≤ T.2.2 + 2386; omega) ?_
  refine i_arr (n := 9) (k := 2) (X := 400) (sl := T.2.2 + 2377) (fun _ _ _ _ => rfl) (fun _ _ _ _ => rfl) (by simp (disch := omega) only [n_4, hT]) rfl (by omega) (by omega) (by show _ ≤ 374 + 27; omega) (by show _ ≤ T.2.2 + 2386; omega) ?_
  show z_wp G 100 (374, T.2.2) _ _ _ _ _ [some (.ref 373)] [] (z_mod mi mr ml T)
  have f1 := z_mod_SM (mi := mi) (mr := mr) (ml := ml) hT
  have f2 := z_mod_ag (mi := mi) (mr := mr) (ml := ml) (T := T)
  have f3 := z_mod_I (mi := mi) (mr := mr) (ml := ml) (T := T)
  have f4 : (z_mod mi mr ml T).2.2.2.2 = (401, T.2.2 + 2386) := rfl
  generalize z_mod mi mr ml T = N at *
  have q1 := f1.1.1
  simp (disch := omega) only [e_q0, e_nil, e_cons, e_q, e_qf, e_qt, e_af, z_hd, z_mk1, z_lg, z_s1, z_s2, z_kl, z_en, z_kI, z_fv, z_ic, z_c1, z_sh, z_pop, z_rc, z_tgt, z_tsw, z_lsw, z_nw, z_ac, o_kI, o_kL, o_ldi, o_ldl, o_lda, o_sti, o_sta, o_stl, o_inc, o_b2, o_bz, o_l2, o_lz, o_ls, o_lneg, o_i2l, o_l2i, o_lcmp, o_dup, o_dupx1, o_dup2, o_if, o_if2, o_ifnull, o_get, o_put, o_iald, o_zald, o_aald, o_alen, o_iast, o_zast, o_aast, o_new, o_newa, o_call, o_call1, o_callN, o_obj, o_reti, o_retl, o_ret, o_tsw, o_lsw, va_rf_s, va_rf_n, z_u2_s, z_u2_k, z_u2_f, z_uR_f, z_uL_f, e_ix, e_vp, e_lt, e_le, e_eq, e_lt0, e_eq0, e_b0, e_b1, e_10, e_11, true_or, or_true, false_or, nI_add, z_bi_0, z_bi_1, e_bb, z_uR_s, z_uR_k, z_uL_s, z_uL_k, true_and, and_true, and_self, not_true_eq_false, not_false_eq_true, forall_const, Option.toList, List.cons_append, List.nil_append, List.singleton_append, Nat.reduceAdd, Nat.zero_add, Nat.add_zero, Nat.reduceEqDiff, ↓reduceIte, ite_true, ite_false, reduceCtorEq, Int.cast_ofNat_Int, Int.reduceAdd, Int.reduceToNat, ne_eq, false_imp_iff, true_imp_iff, cl_100, bf_100_0, bo_100_0, q1, f4, i_c100]
  refine k_fresh (mi := z_u2 N.1 373 23 (nI 255)) (mr := N.2.1) (ml := N.2.2.1) (T := N.2.2.2) f1 (by rw [z_u2_f (by omega), f3 381 (by omega) (by omega)]; exact fun _ _ => rfl) fun f g1 g2 => ?_
  simp (disch := omega) only [e_q0, e_nil, e_cons, e_q, e_qf, e_qt, e_af, z_hd, z_mk1, z_lg, z_s1, z_s2, z_kl, z_en, z_kI, z_fv, z_ic, z_c1, z_sh, z_pop, z_rc, z_tgt, z_tsw, z_lsw, z_nw, z_ac, o_kI, o_kL, o_ldi, o_ldl, o_lda, o_sti, o_sta, o_stl, o_inc, o_b2, o_bz, o_l2, o_lz, o_ls, o_lneg, o_i2l, o_l2i, o_lcmp, o_dup, o_dupx1, o_dup2, o_if, o_if2, o_ifnull, o_get, o_put, o_iald, o_zald, o_aald, o_alen, o_iast, o_zast, o_aast, o_new, o_newa, o_call, o_call1, o_callN, o_obj, o_reti, o_retl, o_ret, o_tsw, o_lsw, va_rf_s, va_rf_n, z_u2_s, z_u2_k, z_u2_f, z_uR_f, z_uL_f, e_ix, e_vp, e_lt, e_le, e_eq, e_lt0, e_eq0, e_b0, e_b1, e_10, e_11, true_or, or_true, false_or, nI_add, z_bi_0, z_bi_1, e_bb, z_uR_s, z_uR_k, z_uL_s, z_uL_k, true_and, and_true, and_self, not_true_eq_false, not_false_eq_true, forall_const, Option.toList, List.cons_append, List.nil_append, List.singleton_append, Nat.reduceAdd, Nat.zero_add, Nat.add_zero, Nat.reduceEqDiff, ↓reduceIte, ite_true, ite_false, reduceCtorEq, Int.cast_ofNat_Int, Int.reduceAdd, Int.reduceToNat, ne_eq, false_imp_iff, true_imp_iff, cl_100, bf_100_0, bo_100_0]
  have fc : ∀ c, c ≠ 373 → c ≠ 381 → f c = N.1 c := fun c c1 c2 => by rw [g2 c c2, z_u2_f c1]
  have f373 : f 373 = z_u2 N.1 373 23 (nI 255) 373 := g2 373 (by omega)
  refine ⟨h (f, N.2) f4 f1 (fun c hc => ⟨⟨(fc c (by omega) (by omega)).trans (f2 c (by omega)).1.1, (f2 c (by omega)).1.2⟩, (f2 c (by omega)).2⟩) g1 (fun c c1 c2 c3 => (fc c (by omega) c3).trans (f3 c c1 c2)) ⟨?_, fun j hj => ?_⟩ (f2 373 (by omega)).1.2.1, by rw [f4], by rw [f4]⟩
  · show f 373 23 = _
    rw [f373, z_u2_s]
  · show f 373 j = _
    rw [f373, z_u2_k hj]
    exact congrFun (f2 373 (by omega)).1.1 j
end
