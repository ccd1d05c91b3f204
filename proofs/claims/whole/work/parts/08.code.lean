/-! the code of the methods in blocks (written by wip/whole/gen08.py): (instruction, what it means) *, checked against the bytes -/
-- 0 History_init
def bo_0_0 : List ZO := [(.aload_n 0, 0, 0, 0), (.invokespecial 3, 0, 1, 99), (.aload_n 0, 0, 0, 0), (.bipush 14, 14, 0, 0), (.anewarray 9, 6, 0, 0), (.putfield 11, 0, 0, 2), (.iconst 0, 0, 0, 0), (.istore_n 1, 1, 0, 0)]
def bo_0_15 : List ZO := [(.iload_n 1, 1, 0, 0), (.bipush 14, 14, 0, 0), (.if_icmp .ge 22, 40, 0, 0), (.aload_n 0, 0, 0, 0), (.getfield 11, 0, 0, 2), (.iload_n 1, 1, 0, 0), (.new 9, 2, 7, 0), (.dup, 0, 0, 0), (.invokespecial 17, 11, 1, 3), (.aastore, 0, 0, 0), (.iinc 1 1, 1, 1, 0), (.goto (-22), 15, 0, 0)]
def bo_0_40 : List ZO := [(.return_, 0, 0, 0)]
def bk_0 : List (Nat × ZE) := [(0, false, [true, false], bo_0_0, 15), (15, true, [true, true], bo_0_15, 0), (40, false, [false, false], bo_0_40, 0)]
theorem ck_0 : z_chks 0 bk_0 [[243, 244, 247], [247, 244, 246], []] = true := by decide +kernel
theorem bf_0_0 : z_fd bk_0 0 = some (false, [true, false], bo_0_0, 15) := rfl
theorem bf_0_15 : z_fd bk_0 15 = some (true, [true, true], bo_0_15, 0) := rfl
theorem bf_0_40 : z_fd bk_0 40 = some (false, [false, false], bo_0_40, 0) := rfl
theorem cl_0 : z_mL 0 = 2 := by decide +kernel
theorem cz_0 : plainFor (z_my 0) = true ∧ ((z_rm 0).cells = 281 ∧ (z_rm 0).slots = 3248) := by decide +kernel
-- 1 History_clear
def bo_1_0 : List ZO := [(.aload_n 0, 0, 0, 0), (.iconst 0, 0, 0, 0), (.putfield 18, 0, 2, 0), (.return_, 0, 0, 0)]
def bk_1 : List (Nat × ZE) := [(0, false, [true], bo_1_0, 0)]
theorem ck_1 : z_chks 1 bk_1 [[249]] = true := by decide +kernel
theorem bf_1_0 : z_fd bk_1 0 = some (false, [true], bo_1_0, 0) := rfl
theorem cl_1 : z_mL 1 = 1 := by decide +kernel
theorem cz_1 : plainFor (z_my 1) = true ∧ ((z_rm 1).cells = 0 ∧ (z_rm 1).slots = 0) := by decide +kernel
-- 2 History_push
def bo_2_0 : List ZO := [(.aload_n 0, 0, 0, 0), (.getfield 18, 0, 2, 0), (.bipush 14, 14, 0, 0), (.if_icmp .ne 26, 32, 0, 0), (.aload_n 0, 0, 0, 0), (.aload_n 0, 0, 0, 0), (.getfield 22, 0, 1, 0), (.iconst 1, 1, 0, 0), (.iadd, 0, 0, 0), (.bipush 14, 14, 0, 0), (.irem, 0, 0, 0), (.putfield 22, 0, 1, 0), (.aload_n 0, 0, 0, 0), (.dup, 0, 0, 0), (.getfield 18, 0, 2, 0), (.iconst 1, 1, 0, 0), (.isub, 0, 0, 0), (.putfield 18, 0, 2, 0), (.aload_n 0, 0, 0, 0), (.getfield 11, 0, 0, 2), (.aload_n 0, 0, 0, 0), (.getfield 22, 0, 1, 0), (.aload_n 0, 0, 0, 0), (.getfield 18, 0, 2, 0), (.iadd, 0, 0, 0), (.bipush 14, 14, 0, 0), (.irem, 0, 0, 0), (.aaload, 0, 0, 0), (.aload_n 1, 1, 0, 0), (.invokevirtual 25, 13, 2, 3), (.aload_n 0, 0, 0, 0), (.dup, 0, 0, 0), (.getfield 18, 0, 2, 0), (.iconst 1, 1, 0, 0), (.iadd, 0, 0, 0), (.putfield 18, 0, 2, 0), (.return_, 0, 0, 0)]
def bo_2_32 : List ZO := [(.aload_n 0, 0, 0, 0), (.getfield 11, 0, 0, 2), (.aload_n 0, 0, 0, 0), (.getfield 22, 0, 1, 0), (.aload_n 0, 0, 0, 0), (.getfield 18, 0, 2, 0), (.iadd, 0, 0, 0), (.bipush 14, 14, 0, 0), (.irem, 0, 0, 0), (.aaload, 0, 0, 0), (.aload_n 1, 1, 0, 0), (.invokevirtual 25, 13, 2, 3), (.aload_n 0, 0, 0, 0), (.dup, 0, 0, 0), (.getfield 18, 0, 2, 0), (.iconst 1, 1, 0, 0), (.iadd, 0, 0, 0), (.putfield 18, 0, 2, 0), (.return_, 0, 0, 0)]
def bk_2 : List (Nat × ZE) := [(0, false, [true, true], bo_2_0, 0), (32, false, [true, true], bo_2_32, 0)]
theorem ck_2 : z_chks 2 bk_2 [[249, 248, 248, 249, 249, 247, 248, 249, 497, 249, 249], [247, 248, 249, 497, 249, 249]] = true := by decide +kernel
theorem bf_2_0 : z_fd bk_2 0 = some (false, [true, true], bo_2_0, 0) := rfl
theorem bf_2_32 : z_fd bk_2 32 = some (false, [true, true], bo_2_32, 0) := rfl
theorem cl_2 : z_mL 2 = 2 := by decide +kernel
theorem cz_2 : plainFor (z_my 2) = true ∧ ((z_rm 2).cells = 0 ∧ (z_rm 2).slots = 0) := by decide +kernel
-- 3 History_popInto
def bo_3_0 : List ZO := [(.aload_n 0, 0, 0, 0), (.getfield 18, 0, 2, 0), (.ifCond .le 34, 38, 0, 0), (.aload_n 0, 0, 0, 0), (.dup, 0, 0, 0), (.getfield 18, 0, 2, 0), (.iconst 1, 1, 0, 0), (.isub, 0, 0, 0), (.putfield 18, 0, 2, 0), (.aload_n 1, 1, 0, 0), (.aload_n 0, 0, 0, 0), (.getfield 11, 0, 0, 2), (.aload_n 0, 0, 0, 0), (.getfield 22, 0, 1, 0), (.aload_n 0, 0, 0, 0), (.getfield 18, 0, 2, 0), (.iadd, 0, 0, 0), (.bipush 14, 14, 0, 0), (.irem, 0, 0, 0), (.aaload, 0, 0, 0), (.invokevirtual 25, 13, 2, 3), (.return_, 0, 0, 0)]
def bo_3_38 : List ZO := [(.return_, 0, 0, 0)]
def bk_3 : List (Nat × ZE) := [(0, false, [true, true], bo_3_0, 0), (38, false, [false, false], bo_3_38, 0)]
theorem ck_3 : z_chks 3 bk_3 [[249, 249, 249, 247, 248, 249, 497], []] = true := by decide +kernel
theorem bf_3_0 : z_fd bk_3 0 = some (false, [true, true], bo_3_0, 0) := rfl
theorem bf_3_38 : z_fd bk_3 38 = some (false, [false, false], bo_3_38, 0) := rfl
theorem cl_3 : z_mL 3 = 2 := by decide +kernel
theorem cz_3 : plainFor (z_my 3) = true ∧ ((z_rm 3).cells = 0 ∧ (z_rm 3).slots = 0) := by decide +kernel
-- 4 Link_init
def bo_4_0 : List ZO := [(.aload_n 0, 0, 0, 0), (.invokespecial 1, 0, 1, 99), (.return_, 0, 0, 0)]
def bk_4 : List (Nat × ZE) := [(0, false, [true], bo_4_0, 0)]
theorem ck_4 : z_chks 4 bk_4 [[171]] = true := by decide +kernel
theorem bf_4_0 : z_fd bk_4 0 = some (false, [true], bo_4_0, 0) := rfl
theorem cl_4 : z_mL 4 = 1 := by decide +kernel
theorem cz_4 : plainFor (z_my 4) = true ∧ ((z_rm 4).cells = 0 ∧ (z_rm 4).slots = 0) := by decide +kernel
-- 5 Link_reset
def bo_5_0 : List ZO := [(.aload_n 0, 0, 0, 0), (.iload_n 1, 1, 0, 0), (.putfield 7, 1, 0, 0), (.aload_n 0, 0, 0, 0), (.iload_n 2, 2, 0, 0), (.putfield 13, 1, 1, 0), (.aload_n 0, 0, 0, 0), (.iload_n 3, 3, 0, 0), (.putfield 16, 1, 2, 0), (.aload_n 0, 0, 0, 0), (.iload 4, 4, 0, 0), (.putfield 19, 1, 3, 0), (.aload_n 0, 0, 0, 0), (.iload 5, 5, 0, 0), (.putfield 22, 1, 4, 0), (.aload_n 0, 0, 0, 0), (.iconst 0, 0, 0, 0), (.putfield 25, 1, 6, 3), (.aload_n 0, 0, 0, 0), (.invokevirtual 29, 9, 1, 2), (.return_, 0, 0, 0)]
def bk_5 : List (Nat × ZE) := [(0, false, [true, true, true, true, true, true], bo_5_0, 0)]
theorem ck_5 : z_chks 5 bk_5 [[172, 175, 178, 180, 182, 187, 387]] = true := by decide +kernel
theorem bf_5_0 : z_fd bk_5 0 = some (false, [true, true, true, true, true, true], bo_5_0, 0) := rfl
theorem cl_5 : z_mL 5 = 6 := by decide +kernel
theorem cz_5 : plainFor (z_my 5) = true ∧ ((z_rm 5).cells = 0 ∧ (z_rm 5).slots = 0) := by decide +kernel
-- 6 Link_copyFrom
def bo_6_0 : List ZO := [(.aload_n 0, 0, 0, 0), (.aload_n 1, 1, 0, 0), (.getfield 7, 1, 0, 0), (.putfield 7, 1, 0, 0), (.aload_n 0, 0, 0, 0), (.aload_n 1, 1, 0, 0), (.getfield 13, 1, 1, 0), (.putfield 13, 1, 1, 0), (.aload_n 0, 0, 0, 0), (.aload_n 1, 1, 0, 0), (.getfield 16, 1, 2, 0), (.putfield 16, 1, 2, 0), (.aload_n 0, 0, 0, 0), (.aload_n 1, 1, 0, 0), (.getfield 19, 1, 3, 0), (.putfield 19, 1, 3, 0), (.aload_n 0, 0, 0, 0), (.aload_n 1, 1, 0, 0), (.getfield 22, 1, 4, 0), (.putfield 22, 1, 4, 0), (.aload_n 0, 0, 0, 0), (.aload_n 1, 1, 0, 0), (.getfield 32, 1, 5, 0), (.putfield 32, 1, 5, 0), (.aload_n 0, 0, 0, 0), (.aload_n 1, 1, 0, 0), (.getfield 25, 1, 6, 3), (.putfield 25, 1, 6, 3), (.return_, 0, 0, 0)]
def bk_6 : List (Nat × ZE) := [(0, false, [true, true], bo_6_0, 0)]
theorem ck_6 : z_chks 6 bk_6 [[172, 172, 175, 175, 178, 178, 180, 180, 182, 182, 184, 184, 187, 187]] = true := by decide +kernel
theorem bf_6_0 : z_fd bk_6 0 = some (false, [true, true], bo_6_0, 0) := rfl
theorem cl_6 : z_mL 6 = 2 := by decide +kernel
theorem cz_6 : plainFor (z_my 6) = true ∧ ((z_rm 6).cells = 0 ∧ (z_rm 6).slots = 0) := by decide +kernel
-- 7 Link_flip
def bo_7_0 : List ZO := [(.aload_n 0, 0, 0, 0), (.aload_n 0, 0, 0, 0), (.getfield 25, 1, 6, 3), (.ifCond .ne 7, 12, 0, 0), (.iconst 1, 1, 0, 0), (.goto 4, 13, 0, 0)]
def bo_7_12 : List ZO := [(.iconst 0, 0, 0, 0), (.putfield 25, 1, 6, 3), (.return_, 0, 0, 0)]
def bo_7_13 : List ZO := [(.putfield 25, 1, 6, 3), (.return_, 0, 0, 0)]
def bk_7 : List (Nat × ZE) := [(0, false, [true], bo_7_0, 0), (12, false, [false], bo_7_12, 0), (13, false, [false], bo_7_13, 0)]
theorem ck_7 : z_chks 7 bk_7 [[187], [187], [187]] = true := by decide +kernel
theorem bf_7_0 : z_fd bk_7 0 = some (false, [true], bo_7_0, 0) := rfl
theorem bf_7_12 : z_fd bk_7 12 = some (false, [false], bo_7_12, 0) := rfl
theorem bf_7_13 : z_fd bk_7 13 = some (false, [false], bo_7_13, 0) := rfl
theorem cl_7 : z_mL 7 = 1 := by decide +kernel
theorem cz_7 : plainFor (z_my 7) = true ∧ ((z_rm 7).cells = 0 ∧ (z_rm 7).slots = 0) := by decide +kernel
-- 8 Link_setLoss
def bo_8_0 : List ZO := [(.iload_n 1, 1, 0, 0), (.ifCond .eq 11, 12, 0, 0), (.aload_n 0, 0, 0, 0), (.iload_n 2, 2, 0, 0), (.putfield 19, 1, 3, 0), (.goto 8, 17, 0, 0)]
def bo_8_12 : List ZO := [(.aload_n 0, 0, 0, 0), (.iload_n 2, 2, 0, 0), (.putfield 16, 1, 2, 0), (.aload_n 0, 0, 0, 0), (.invokevirtual 29, 9, 1, 2), (.return_, 0, 0, 0)]
def bo_8_17 : List ZO := [(.aload_n 0, 0, 0, 0), (.invokevirtual 29, 9, 1, 2), (.return_, 0, 0, 0)]
def bk_8 : List (Nat × ZE) := [(0, false, [true, true, true], bo_8_0, 0), (12, false, [true, false, true], bo_8_12, 0), (17, false, [true, false, false], bo_8_17, 0)]
theorem ck_8 : z_chks 8 bk_8 [[180], [178, 387], [387]] = true := by decide +kernel
theorem bf_8_0 : z_fd bk_8 0 = some (false, [true, true, true], bo_8_0, 0) := rfl
theorem bf_8_12 : z_fd bk_8 12 = some (false, [true, false, true], bo_8_12, 0) := rfl
theorem bf_8_17 : z_fd bk_8 17 = some (false, [true, false, false], bo_8_17, 0) := rfl
theorem cl_8 : z_mL 8 = 3 := by decide +kernel
theorem cz_8 : plainFor (z_my 8) = true ∧ ((z_rm 8).cells = 0 ∧ (z_rm 8).slots = 0) := by decide +kernel
-- 9 Link_computeAirtime
def bo_9_0 : List ZO := [(.bipush 10, 10, 0, 0), (.aload_n 0, 0, 0, 0), (.getfield 16, 1, 2, 0), (.isub, 0, 0, 0), (.bipush 10, 10, 0, 0), (.aload_n 0, 0, 0, 0), (.getfield 19, 1, 3, 0), (.isub, 0, 0, 0), (.imul, 0, 0, 0), (.istore_n 1, 1, 0, 0), (.iload_n 1, 1, 0, 0), (.ifCond .le 20, 37, 0, 0), (.aload_n 0, 0, 0, 0), (.bipush 100, 100, 0, 0), (.aload_n 0, 0, 0, 0), (.getfield 22, 1, 4, 0), (.imul, 0, 0, 0), (.iload_n 1, 1, 0, 0), (.iadd, 0, 0, 0), (.iconst 1, 1, 0, 0), (.isub, 0, 0, 0), (.iload_n 1, 1, 0, 0), (.idiv, 0, 0, 0), (.putfield 32, 1, 5, 0), (.return_, 0, 0, 0)]
def bo_9_37 : List ZO := [(.return_, 0, 0, 0)]
def bk_9 : List (Nat × ZE) := [(0, false, [true, false], bo_9_0, 0), (37, false, [false, false], bo_9_37, 0)]
theorem ck_9 : z_chks 9 bk_9 [[178, 180, 182, 184], []] = true := by decide +kernel
theorem bf_9_0 : z_fd bk_9 0 = some (false, [true, false], bo_9_0, 0) := rfl
theorem bf_9_37 : z_fd bk_9 37 = some (false, [false, false], bo_9_37, 0) := rfl
theorem cl_9 : z_mL 9 = 2 := by decide +kernel
theorem cz_9 : plainFor (z_my 9) = true ∧ ((z_rm 9).cells = 0 ∧ (z_rm 9).slots = 0) := by decide +kernel
-- 10 Link_joins
def bo_10_0 : List ZO := [(.aload_n 0, 0, 0, 0), (.getfield 7, 1, 0, 0), (.iload_n 1, 1, 0, 0), (.if_icmp .ne 11, 16, 0, 0), (.aload_n 0, 0, 0, 0), (.getfield 13, 1, 1, 0), (.iload_n 2, 2, 0, 0), (.if_icmp .eq 19, 32, 0, 0), (.aload_n 0, 0, 0, 0), (.getfield 7, 1, 0, 0), (.iload_n 2, 2, 0, 0), (.if_icmp .ne 15, 36, 0, 0), (.aload_n 0, 0, 0, 0), (.getfield 13, 1, 1, 0), (.iload_n 1, 1, 0, 0), (.if_icmp .ne 7, 36, 0, 0), (.iconst 1, 1, 0, 0), (.goto 4, 37, 0, 0)]
def bo_10_16 : List ZO := [(.aload_n 0, 0, 0, 0), (.getfield 7, 1, 0, 0), (.iload_n 2, 2, 0, 0), (.if_icmp .ne 15, 36, 0, 0), (.aload_n 0, 0, 0, 0), (.getfield 13, 1, 1, 0), (.iload_n 1, 1, 0, 0), (.if_icmp .ne 7, 36, 0, 0), (.iconst 1, 1, 0, 0), (.goto 4, 37, 0, 0)]
def bo_10_32 : List ZO := [(.iconst 1, 1, 0, 0), (.goto 4, 37, 0, 0)]
def bo_10_36 : List ZO := [(.iconst 0, 0, 0, 0), (.ireturn, 1, 0, 0)]
def bo_10_37 : List ZO := [(.ireturn, 1, 0, 0)]
def bk_10 : List (Nat × ZE) := [(0, false, [true, true, true], bo_10_0, 0), (16, false, [true, true, true], bo_10_16, 0), (32, false, [false, false, false], bo_10_32, 0), (36, false, [false, false, false], bo_10_36, 0), (37, false, [false, false, false], bo_10_37, 0)]
theorem ck_10 : z_chks 10 bk_10 [[172, 175, 172, 175], [172, 175], [], [], []] = true := by decide +kernel
theorem bf_10_0 : z_fd bk_10 0 = some (false, [true, true, true], bo_10_0, 0) := rfl
theorem bf_10_16 : z_fd bk_10 16 = some (false, [true, true, true], bo_10_16, 0) := rfl
theorem bf_10_32 : z_fd bk_10 32 = some (false, [false, false, false], bo_10_32, 0) := rfl
theorem bf_10_36 : z_fd bk_10 36 = some (false, [false, false, false], bo_10_36, 0) := rfl
theorem bf_10_37 : z_fd bk_10 37 = some (false, [false, false, false], bo_10_37, 0) := rfl
theorem cl_10 : z_mL 10 = 3 := by decide +kernel
theorem cz_10 : plainFor (z_my 10) = true ∧ ((z_rm 10).cells = 0 ∧ (z_rm 10).slots = 0) := by decide +kernel
-- 11 Mesh_init
def bo_11_0 : List ZO := [(.aload_n 0, 0, 0, 0), (.invokespecial 3, 0, 1, 99), (.aload_n 0, 0, 0, 0), (.bipush 8, 8, 0, 0), (.anewarray 9, 4, 0, 0), (.putfield 11, 2, 0, 2), (.iconst 0, 0, 0, 0), (.istore_n 1, 1, 0, 0)]
def bo_11_15 : List ZO := [(.iload_n 1, 1, 0, 0), (.bipush 8, 8, 0, 0), (.if_icmp .ge 22, 40, 0, 0), (.aload_n 0, 0, 0, 0), (.getfield 11, 2, 0, 2), (.iload_n 1, 1, 0, 0), (.new 9, 3, 18, 0), (.dup, 0, 0, 0), (.invokespecial 17, 32, 1, 4), (.aastore, 0, 0, 0), (.iinc 1 1, 1, 1, 0), (.goto (-22), 15, 0, 0)]
def bo_11_40 : List ZO := [(.aload_n 0, 0, 0, 0), (.bipush 9, 9, 0, 0), (.anewarray 18, 5, 0, 0), (.putfield 20, 2, 1, 2), (.iconst 0, 0, 0, 0), (.istore_n 1, 1, 0, 0)]
def bo_11_51 : List ZO := [(.iload_n 1, 1, 0, 0), (.bipush 9, 9, 0, 0), (.if_icmp .ge 22, 76, 0, 0), (.aload_n 0, 0, 0, 0), (.getfield 20, 2, 1, 2), (.iload_n 1, 1, 0, 0), (.new 18, 1, 7, 0), (.dup, 0, 0, 0), (.invokespecial 24, 4, 1, 2), (.aastore, 0, 0, 0), (.iinc 1 1, 1, 1, 0), (.goto (-22), 51, 0, 0)]
def bo_11_76 : List ZO := [(.return_, 0, 0, 0)]
def bk_11 : List (Nat × ZE) := [(0, false, [true, false], bo_11_0, 15), (15, true, [true, true], bo_11_15, 0), (40, false, [true, false], bo_11_40, 51), (51, true, [true, true], bo_11_51, 0), (76, false, [false, false], bo_11_76, 0)]
theorem ck_11 : z_chks 11 bk_11 [[86, 87, 205], [205, 87, 1], [165, 208], [208, 165, 2], []] = true := by decide +kernel
theorem bf_11_0 : z_fd bk_11 0 = some (false, [true, false], bo_11_0, 15) := rfl
theorem bf_11_15 : z_fd bk_11 15 = some (true, [true, true], bo_11_15, 0) := rfl
theorem bf_11_40 : z_fd bk_11 40 = some (false, [true, false], bo_11_40, 51) := rfl
theorem bf_11_51 : z_fd bk_11 51 = some (true, [true, true], bo_11_51, 0) := rfl
theorem bf_11_76 : z_fd bk_11 76 = some (false, [false, false], bo_11_76, 0) := rfl
theorem cl_11 : z_mL 11 = 2 := by decide +kernel
theorem cz_11 : plainFor (z_my 11) = true ∧ ((z_rm 11).cells = 19 ∧ (z_rm 11).slots = 224) := by decide +kernel
-- 12 Mesh_reset
def bo_12_0 : List ZO := [(.aload_n 0, 0, 0, 0), (.iconst 0, 0, 0, 0), (.putfield 25, 2, 2, 0), (.aload_n 0, 0, 0, 0), (.iconst 0, 0, 0, 0), (.putfield 29, 2, 3, 0), (.aload_n 0, 0, 0, 0), (.iload_n 1, 1, 0, 0), (.putfield 32, 2, 4, 0), (.aload_n 0, 0, 0, 0), (.iconst 0, 0, 0, 0), (.putfield 35, 2, 5, 0), (.aload_n 0, 0, 0, 0), (.iconst 0, 0, 0, 0), (.putfield 38, 2, 6, 0), (.return_, 0, 0, 0)]
def bk_12 : List (Nat × ZE) := [(0, false, [true, true], bo_12_0, 0)]
theorem ck_12 : z_chks 12 bk_12 [[211, 214, 217, 219, 221]] = true := by decide +kernel
theorem bf_12_0 : z_fd bk_12 0 = some (false, [true, true], bo_12_0, 0) := rfl
theorem cl_12 : z_mL 12 = 2 := by decide +kernel
theorem cz_12 : plainFor (z_my 12) = true ∧ ((z_rm 12).cells = 0 ∧ (z_rm 12).slots = 0) := by decide +kernel
-- 13 Mesh_copyFrom
def bo_13_0 : List ZO := [(.aload_n 0, 0, 0, 0), (.aload_n 1, 1, 0, 0), (.getfield 25, 2, 2, 0), (.putfield 25, 2, 2, 0), (.aload_n 0, 0, 0, 0), (.aload_n 1, 1, 0, 0), (.getfield 29, 2, 3, 0), (.putfield 29, 2, 3, 0), (.aload_n 0, 0, 0, 0), (.aload_n 1, 1, 0, 0), (.getfield 32, 2, 4, 0), (.putfield 32, 2, 4, 0), (.aload_n 0, 0, 0, 0), (.aload_n 1, 1, 0, 0), (.getfield 35, 2, 5, 0), (.putfield 35, 2, 5, 0), (.aload_n 0, 0, 0, 0), (.aload_n 1, 1, 0, 0), (.getfield 38, 2, 6, 0), (.putfield 38, 2, 6, 0), (.iconst 0, 0, 0, 0), (.istore_n 2, 2, 0, 0)]
def bo_13_42 : List ZO := [(.iload_n 2, 2, 0, 0), (.aload_n 0, 0, 0, 0), (.getfield 25, 2, 2, 0), (.if_icmp .ge 24, 71, 0, 0), (.aload_n 0, 0, 0, 0), (.getfield 11, 2, 0, 2), (.iload_n 2, 2, 0, 0), (.aaload, 0, 0, 0), (.aload_n 1, 1, 0, 0), (.getfield 11, 2, 0, 2), (.iload_n 2, 2, 0, 0), (.aaload, 0, 0, 0), (.invokevirtual 41, 34, 2, 4), (.iinc 2 1, 1, 2, 0), (.goto (-26), 42, 0, 0)]
def bo_13_71 : List ZO := [(.iconst 0, 0, 0, 0), (.istore_n 2, 2, 0, 0)]
def bo_13_73 : List ZO := [(.iload_n 2, 2, 0, 0), (.aload_n 0, 0, 0, 0), (.getfield 29, 2, 3, 0), (.if_icmp .ge 24, 102, 0, 0), (.aload_n 0, 0, 0, 0), (.getfield 20, 2, 1, 2), (.iload_n 2, 2, 0, 0), (.aaload, 0, 0, 0), (.aload_n 1, 1, 0, 0), (.getfield 20, 2, 1, 2), (.iload_n 2, 2, 0, 0), (.aaload, 0, 0, 0), (.invokevirtual 45, 6, 2, 2), (.iinc 2 1, 1, 2, 0), (.goto (-26), 73, 0, 0)]
def bo_13_102 : List ZO := [(.return_, 0, 0, 0)]
def bk_13 : List (Nat × ZE) := [(0, false, [true, true, false], bo_13_0, 42), (42, true, [true, true, true], bo_13_42, 0), (71, false, [true, true, false], bo_13_71, 73), (73, true, [true, true, true], bo_13_73, 0), (102, false, [false, false, false], bo_13_102, 0)]
theorem ck_13 : z_chks 13 bk_13 [[211, 211, 214, 214, 217, 217, 219, 219, 221, 221], [211, 205, 205, 399], [], [214, 208, 208, 403], []] = true := by decide +kernel
theorem bf_13_0 : z_fd bk_13 0 = some (false, [true, true, false], bo_13_0, 42) := rfl
theorem bf_13_42 : z_fd bk_13 42 = some (true, [true, true, true], bo_13_42, 0) := rfl
theorem bf_13_71 : z_fd bk_13 71 = some (false, [true, true, false], bo_13_71, 73) := rfl
theorem bf_13_73 : z_fd bk_13 73 = some (true, [true, true, true], bo_13_73, 0) := rfl
theorem bf_13_102 : z_fd bk_13 102 = some (false, [false, false, false], bo_13_102, 0) := rfl
theorem cl_13 : z_mL 13 = 3 := by decide +kernel
theorem cz_13 : plainFor (z_my 13) = true ∧ ((z_rm 13).cells = 0 ∧ (z_rm 13).slots = 0) := by decide +kernel
-- 14 Mesh_hasNode
def bo_14_0 : List ZO := [(.iload_n 1, 1, 0, 0), (.ifCond .lt 15, 16, 0, 0), (.iload_n 1, 1, 0, 0), (.aload_n 0, 0, 0, 0), (.getfield 25, 2, 2, 0), (.if_icmp .ge 7, 16, 0, 0), (.iconst 1, 1, 0, 0), (.goto 4, 17, 0, 0)]
def bo_14_16 : List ZO := [(.iconst 0, 0, 0, 0), (.ireturn, 1, 0, 0)]
def bo_14_17 : List ZO := [(.ireturn, 1, 0, 0)]
def bk_14 : List (Nat × ZE) := [(0, false, [true, true], bo_14_0, 0), (16, false, [false, false], bo_14_16, 0), (17, false, [false, false], bo_14_17, 0)]
theorem ck_14 : z_chks 14 bk_14 [[211], [], []] = true := by decide +kernel
theorem bf_14_0 : z_fd bk_14 0 = some (false, [true, true], bo_14_0, 0) := rfl
theorem bf_14_16 : z_fd bk_14 16 = some (false, [false, false], bo_14_16, 0) := rfl
theorem bf_14_17 : z_fd bk_14 17 = some (false, [false, false], bo_14_17, 0) := rfl
theorem cl_14 : z_mL 14 = 2 := by decide +kernel
theorem cz_14 : plainFor (z_my 14) = true ∧ ((z_rm 14).cells = 0 ∧ (z_rm 14).slots = 0) := by decide +kernel
-- 15 Mesh_hasLink
def bo_15_0 : List ZO := [(.iload_n 1, 1, 0, 0), (.ifCond .lt 15, 16, 0, 0), (.iload_n 1, 1, 0, 0), (.aload_n 0, 0, 0, 0), (.getfield 29, 2, 3, 0), (.if_icmp .ge 7, 16, 0, 0), (.iconst 1, 1, 0, 0), (.goto 4, 17, 0, 0)]
def bo_15_16 : List ZO := [(.iconst 0, 0, 0, 0), (.ireturn, 1, 0, 0)]
def bo_15_17 : List ZO := [(.ireturn, 1, 0, 0)]
def bk_15 : List (Nat × ZE) := [(0, false, [true, true], bo_15_0, 0), (16, false, [false, false], bo_15_16, 0), (17, false, [false, false], bo_15_17, 0)]
theorem ck_15 : z_chks 15 bk_15 [[214], [], []] = true := by decide +kernel
theorem bf_15_0 : z_fd bk_15 0 = some (false, [true, true], bo_15_0, 0) := rfl
theorem bf_15_16 : z_fd bk_15 16 = some (false, [false, false], bo_15_16, 0) := rfl
theorem bf_15_17 : z_fd bk_15 17 = some (false, [false, false], bo_15_17, 0) := rfl
theorem cl_15 : z_mL 15 = 2 := by decide +kernel
theorem cz_15 : plainFor (z_my 15) = true ∧ ((z_rm 15).cells = 0 ∧ (z_rm 15).slots = 0) := by decide +kernel
-- 16 Mesh_isGateway
def bo_16_0 : List ZO := [(.aload_n 0, 0, 0, 0), (.iload_n 1, 1, 0, 0), (.invokevirtual 48, 14, 2, 3), (.ifCond .eq 19, 24, 0, 0), (.aload_n 0, 0, 0, 0), (.getfield 11, 2, 0, 2), (.iload_n 1, 1, 0, 0), (.aaload, 0, 0, 0), (.getfield 52, 3, 0, 0), (.ifCond .ne 7, 24, 0, 0), (.iconst 1, 1, 0, 0), (.goto 4, 25, 0, 0)]
def bo_16_24 : List ZO := [(.iconst 0, 0, 0, 0), (.ireturn, 1, 0, 0)]
def bo_16_25 : List ZO := [(.ireturn, 1, 0, 0)]
def bk_16 : List (Nat × ZE) := [(0, false, [true, true], bo_16_0, 0), (24, false, [false, false], bo_16_24, 0), (25, false, [false, false], bo_16_25, 0)]
theorem ck_16 : z_chks 16 bk_16 [[431, 205, 95], [], []] = true := by decide +kernel
theorem bf_16_0 : z_fd bk_16 0 = some (false, [true, true], bo_16_0, 0) := rfl
theorem bf_16_24 : z_fd bk_16 24 = some (false, [false, false], bo_16_24, 0) := rfl
theorem bf_16_25 : z_fd bk_16 25 = some (false, [false, false], bo_16_25, 0) := rfl
theorem cl_16 : z_mL 16 = 2 := by decide +kernel
theorem cz_16 : plainFor (z_my 16) = true ∧ ((z_rm 16).cells = 0 ∧ (z_rm 16).slots = 0) := by decide +kernel
-- 17 Mesh_nodesOfKind
def bo_17_0 : List ZO := [(.iconst 0, 0, 0, 0), (.istore_n 2, 2, 0, 0), (.iconst 0, 0, 0, 0), (.istore_n 3, 3, 0, 0)]
def bo_17_4 : List ZO := [(.iload_n 3, 3, 0, 0), (.aload_n 0, 0, 0, 0), (.getfield 25, 2, 2, 0), (.if_icmp .ge 28, 37, 0, 0), (.aload_n 0, 0, 0, 0), (.getfield 11, 2, 0, 2), (.iload_n 3, 3, 0, 0), (.aaload, 0, 0, 0), (.getfield 52, 3, 0, 0), (.iload_n 1, 1, 0, 0), (.if_icmp .ne 9, 31, 0, 0), (.iload_n 2, 2, 0, 0), (.iconst 1, 1, 0, 0), (.iload_n 3, 3, 0, 0), (.ishl, 0, 0, 0), (.ior, 0, 0, 0), (.istore_n 2, 2, 0, 0), (.iinc 3 1, 1, 3, 0), (.goto (-30), 4, 0, 0)]
def bo_17_31 : List ZO := [(.iinc 3 1, 1, 3, 0), (.goto (-30), 4, 0, 0)]
def bo_17_37 : List ZO := [(.iload_n 2, 2, 0, 0), (.ireturn, 0, 0, 0)]
def bk_17 : List (Nat × ZE) := [(0, false, [true, true, false, false], bo_17_0, 4), (4, true, [true, true, true, true], bo_17_4, 0), (31, false, [true, true, true, true], bo_17_31, 0), (37, false, [false, false, true, false], bo_17_37, 0)]
theorem ck_17 : z_chks 17 bk_17 [[], [211, 205, 95], [], []] = true := by decide +kernel
theorem bf_17_0 : z_fd bk_17 0 = some (false, [true, true, false, false], bo_17_0, 4) := rfl
theorem bf_17_4 : z_fd bk_17 4 = some (true, [true, true, true, true], bo_17_4, 0) := rfl
theorem bf_17_31 : z_fd bk_17 31 = some (false, [true, true, true, true], bo_17_31, 0) := rfl
theorem bf_17_37 : z_fd bk_17 37 = some (false, [false, false, true, false], bo_17_37, 0) := rfl
theorem cl_17 : z_mL 17 = 4 := by decide +kernel
theorem cz_17 : plainFor (z_my 17) = true ∧ ((z_rm 17).cells = 0 ∧ (z_rm 17).slots = 0) := by decide +kernel
-- 18 Mesh_downLinks
def bo_18_0 : List ZO := [(.iconst 0, 0, 0, 0), (.istore_n 1, 1, 0, 0), (.iconst 0, 0, 0, 0), (.istore_n 2, 2, 0, 0)]
def bo_18_4 : List ZO := [(.iload_n 2, 2, 0, 0), (.aload_n 0, 0, 0, 0), (.getfield 29, 2, 3, 0), (.if_icmp .ge 27, 36, 0, 0), (.aload_n 0, 0, 0, 0), (.getfield 20, 2, 1, 2), (.iload_n 2, 2, 0, 0), (.aaload, 0, 0, 0), (.getfield 55, 1, 6, 3), (.ifCond .eq 9, 30, 0, 0), (.iload_n 1, 1, 0, 0), (.iconst 1, 1, 0, 0), (.iload_n 2, 2, 0, 0), (.ishl, 0, 0, 0), (.ior, 0, 0, 0), (.istore_n 1, 1, 0, 0), (.iinc 2 1, 1, 2, 0), (.goto (-29), 4, 0, 0)]
def bo_18_30 : List ZO := [(.iinc 2 1, 1, 2, 0), (.goto (-29), 4, 0, 0)]
def bo_18_36 : List ZO := [(.iload_n 1, 1, 0, 0), (.ireturn, 0, 0, 0)]
def bk_18 : List (Nat × ZE) := [(0, false, [true, false, false], bo_18_0, 4), (4, true, [true, true, true], bo_18_4, 0), (30, false, [true, true, true], bo_18_30, 0), (36, false, [false, true, false], bo_18_36, 0)]
theorem ck_18 : z_chks 18 bk_18 [[], [214, 208, 188], [], []] = true := by decide +kernel
theorem bf_18_0 : z_fd bk_18 0 = some (false, [true, false, false], bo_18_0, 4) := rfl
theorem bf_18_4 : z_fd bk_18 4 = some (true, [true, true, true], bo_18_4, 0) := rfl
theorem bf_18_30 : z_fd bk_18 30 = some (false, [true, true, true], bo_18_30, 0) := rfl
theorem bf_18_36 : z_fd bk_18 36 = some (false, [false, true, false], bo_18_36, 0) := rfl
theorem cl_18 : z_mL 18 = 3 := by decide +kernel
theorem cz_18 : plainFor (z_my 18) = true ∧ ((z_rm 18).cells = 0 ∧ (z_rm 18).slots = 0) := by decide +kernel
-- 19 Mesh_linksAt
def bo_19_0 : List ZO := [(.iconst 0, 0, 0, 0), (.istore_n 2, 2, 0, 0), (.iconst 0, 0, 0, 0), (.istore_n 3, 3, 0, 0)]
def bo_19_4 : List ZO := [(.iload_n 3, 3, 0, 0), (.aload_n 0, 0, 0, 0), (.getfield 29, 2, 3, 0), (.if_icmp .ge 38, 47, 0, 0), (.aload_n 0, 0, 0, 0), (.getfield 20, 2, 1, 2), (.iload_n 3, 3, 0, 0), (.aaload, 0, 0, 0), (.getfield 59, 1, 0, 0), (.iload_n 1, 1, 0, 0), (.if_icmp .eq 16, 38, 0, 0), (.aload_n 0, 0, 0, 0), (.getfield 20, 2, 1, 2), (.iload_n 3, 3, 0, 0), (.aaload, 0, 0, 0), (.getfield 62, 1, 1, 0), (.iload_n 1, 1, 0, 0), (.if_icmp .ne 6, 41, 0, 0), (.iinc 2 1, 1, 2, 0), (.iinc 3 1, 1, 3, 0), (.goto (-40), 4, 0, 0)]
def bo_19_38 : List ZO := [(.iinc 2 1, 1, 2, 0), (.iinc 3 1, 1, 3, 0), (.goto (-40), 4, 0, 0)]
def bo_19_41 : List ZO := [(.iinc 3 1, 1, 3, 0), (.goto (-40), 4, 0, 0)]
def bo_19_47 : List ZO := [(.iload_n 2, 2, 0, 0), (.ireturn, 0, 0, 0)]
def bk_19 : List (Nat × ZE) := [(0, false, [true, true, false, false], bo_19_0, 4), (4, true, [true, true, true, true], bo_19_4, 0), (38, false, [true, true, true, true], bo_19_38, 0), (41, false, [true, true, true, true], bo_19_41, 0), (47, false, [false, false, true, false], bo_19_47, 0)]
theorem ck_19 : z_chks 19 bk_19 [[], [214, 208, 174, 208, 177], [], [], []] = true := by decide +kernel
theorem bf_19_0 : z_fd bk_19 0 = some (false, [true, true, false, false], bo_19_0, 4) := rfl
theorem bf_19_4 : z_fd bk_19 4 = some (true, [true, true, true, true], bo_19_4, 0) := rfl
theorem bf_19_38 : z_fd bk_19 38 = some (false, [true, true, true, true], bo_19_38, 0) := rfl
theorem bf_19_41 : z_fd bk_19 41 = some (false, [true, true, true, true], bo_19_41, 0) := rfl
theorem bf_19_47 : z_fd bk_19 47 = some (false, [false, false, true, false], bo_19_47, 0) := rfl
theorem cl_19 : z_mL 19 = 4 := by decide +kernel
theorem cz_19 : plainFor (z_my 19) = true ∧ ((z_rm 19).cells = 0 ∧ (z_rm 19).slots = 0) := by decide +kernel
-- 20 Mesh_linkBetween
def bo_20_0 : List ZO := [(.iconst 0, 0, 0, 0), (.istore_n 3, 3, 0, 0)]
def bo_20_2 : List ZO := [(.iload_n 3, 3, 0, 0), (.aload_n 0, 0, 0, 0), (.getfield 29, 2, 3, 0), (.if_icmp .ge 25, 32, 0, 0), (.aload_n 0, 0, 0, 0), (.getfield 20, 2, 1, 2), (.iload_n 3, 3, 0, 0), (.aaload, 0, 0, 0), (.iload_n 1, 1, 0, 0), (.iload_n 2, 2, 0, 0), (.invokevirtual 65, 10, 3, 2), (.ifCond .eq 5, 26, 0, 0), (.iload_n 3, 3, 0, 0), (.ireturn, 0, 0, 0)]
def bo_20_26 : List ZO := [(.iinc 3 1, 1, 3, 0), (.goto (-27), 2, 0, 0)]
def bo_20_32 : List ZO := [(.bipush (-9), 9, 0, 1), (.ireturn, 0, 0, 0)]
def bk_20 : List (Nat × ZE) := [(0, false, [true, true, true, false], bo_20_0, 2), (2, true, [true, true, true, true], bo_20_2, 0), (26, false, [true, true, true, true], bo_20_26, 0), (32, false, [false, false, false, false], bo_20_32, 0)]
theorem ck_20 : z_chks 20 bk_20 [[], [214, 208, 379], [], []] = true := by decide +kernel
theorem bf_20_0 : z_fd bk_20 0 = some (false, [true, true, true, false], bo_20_0, 2) := rfl
theorem bf_20_2 : z_fd bk_20 2 = some (true, [true, true, true, true], bo_20_2, 0) := rfl
theorem bf_20_26 : z_fd bk_20 26 = some (false, [true, true, true, true], bo_20_26, 0) := rfl
theorem bf_20_32 : z_fd bk_20 32 = some (false, [false, false, false, false], bo_20_32, 0) := rfl
theorem cl_20 : z_mL 20 = 4 := by decide +kernel
theorem cz_20 : plainFor (z_my 20) = true ∧ ((z_rm 20).cells = 0 ∧ (z_rm 20).slots = 0) := by decide +kernel
-- 21 Mesh_openOffer
def bo_21_0 : List ZO := [(.aload_n 0, 0, 0, 0), (.getfield 11, 2, 0, 2), (.iload_n 1, 1, 0, 0), (.aaload, 0, 0, 0), (.aload_n 0, 0, 0, 0), (.getfield 35, 2, 5, 0), (.iconst 0, 0, 0, 0), (.invokevirtual 69, 37, 3, 4), (.aload_n 0, 0, 0, 0), (.iload_n 1, 1, 0, 0), (.iload_n 2, 2, 0, 0), (.invokevirtual 73, 20, 3, 3), (.istore_n 3, 3, 0, 0), (.iload_n 3, 3, 0, 0), (.ifCond .lt 27, 49, 0, 0), (.aload_n 0, 0, 0, 0), (.getfield 20, 2, 1, 2), (.iload_n 3, 3, 0, 0), (.aaload, 0, 0, 0), (.getfield 55, 1, 6, 3), (.ifCond .ne 15, 49, 0, 0), (.aload_n 0, 0, 0, 0), (.getfield 11, 2, 0, 2), (.iload_n 1, 1, 0, 0), (.aaload, 0, 0, 0), (.getfield 77, 3, 9, 3), (.ifCond .ne 8, 54, 0, 0), (.bipush (-9), 9, 0, 1), (.goto 4, 55, 0, 0)]
def bo_21_49 : List ZO := [(.bipush (-9), 9, 0, 1), (.goto 4, 55, 0, 0)]
def bo_21_54 : List ZO := [(.iload_n 3, 3, 0, 0), (.ireturn, 0, 0, 0)]
def bo_21_55 : List ZO := [(.ireturn, 0, 0, 0)]
def bk_21 : List (Nat × ZE) := [(0, false, [true, true, true, false], bo_21_0, 0), (49, false, [false, false, false, false], bo_21_49, 0), (54, false, [false, false, false, true], bo_21_54, 0), (55, false, [false, false, false, false], bo_21_55, 0)]
theorem ck_21 : z_chks 21 bk_21 [[205, 219, 476, 480, 208, 188, 205, 118], [], [], []] = true := by decide +kernel
theorem bf_21_0 : z_fd bk_21 0 = some (false, [true, true, true, false], bo_21_0, 0) := rfl
theorem bf_21_49 : z_fd bk_21 49 = some (false, [false, false, false, false], bo_21_49, 0) := rfl
theorem bf_21_54 : z_fd bk_21 54 = some (false, [false, false, false, true], bo_21_54, 0) := rfl
theorem bf_21_55 : z_fd bk_21 55 = some (false, [false, false, false, false], bo_21_55, 0) := rfl
theorem cl_21 : z_mL 21 = 4 := by decide +kernel
theorem cz_21 : plainFor (z_my 21) = true ∧ ((z_rm 21).cells = 0 ∧ (z_rm 21).slots = 0) := by decide +kernel
-- 22 Mesh_passRounds
def bo_22_0 : List ZO := [(.iconst 0, 0, 0, 0), (.istore_n 3, 3, 0, 0)]
def bo_22_2 : List ZO := [(.iload_n 3, 3, 0, 0), (.iload_n 1, 1, 0, 0), (.if_icmp .ge 14, 18, 0, 0), (.aload_n 0, 0, 0, 0), (.iload_n 2, 2, 0, 0), (.invokevirtual 80, 23, 2, 3), (.iinc 3 1, 1, 3, 0), (.goto (-13), 2, 0, 0)]
def bo_22_18 : List ZO := [(.return_, 0, 0, 0)]
def bk_22 : List (Nat × ZE) := [(0, false, [true, true, true, false], bo_22_0, 2), (2, true, [true, true, true, true], bo_22_2, 0), (18, false, [false, false, false, false], bo_22_18, 0)]
theorem ck_22 : z_chks 22 bk_22 [[], [502], []] = true := by decide +kernel
theorem bf_22_0 : z_fd bk_22 0 = some (false, [true, true, true, false], bo_22_0, 2) := rfl
theorem bf_22_2 : z_fd bk_22 2 = some (true, [true, true, true, true], bo_22_2, 0) := rfl
theorem bf_22_18 : z_fd bk_22 18 = some (false, [false, false, false, false], bo_22_18, 0) := rfl
theorem cl_22 : z_mL 22 = 4 := by decide +kernel
theorem cz_22 : plainFor (z_my 22) = true ∧ ((z_rm 22).cells = 0 ∧ (z_rm 22).slots = 0) := by decide +kernel
-- 23 Mesh_passRound
def bo_23_0 : List ZO := [(.iconst 0, 0, 0, 0), (.istore_n 2, 2, 0, 0)]
theorem cb_23_0 : z_chk 23 bo_23_0 0 2 [] = true := by decide +kernel
def bo_23_2 : List ZO := [(.iload_n 2, 2, 0, 0), (.aload_n 0, 0, 0, 0), (.getfield 25, 2, 2, 0), (.if_icmp .ge 44, 51, 0, 0), (.aload_n 0, 0, 0, 0), (.getfield 11, 2, 0, 2), (.iload_n 2, 2, 0, 0), (.aaload, 0, 0, 0), (.aload_n 0, 0, 0, 0), (.getfield 35, 2, 5, 0), (.iload_n 1, 1, 0, 0), (.iconst 1, 1, 0, 0), (.iload_n 2, 2, 0, 0), (.ishl, 0, 0, 0), (.iand, 0, 0, 0), (.ifCond .eq 7, 32, 0, 0), (.iconst 1, 1, 0, 0), (.goto 4, 33, 0, 0)]
theorem cb_23_2 : z_chk 23 bo_23_2 2 0 [211, 205, 219] = true := by decide +kernel
def bo_23_32 : List ZO := [(.iconst 0, 0, 0, 0), (.invokevirtual 69, 37, 3, 4), (.aload_n 0, 0, 0, 0), (.getfield 11, 2, 0, 2), (.iload_n 2, 2, 0, 0), (.aaload, 0, 0, 0), (.invokevirtual 84, 39, 1, 4), (.iinc 2 1, 1, 2, 0), (.goto (-46), 2, 0, 0)]
theorem cb_23_32 : z_chk 23 bo_23_32 32 0 [476, 205, 506] = true := by decide +kernel
def bo_23_33 : List ZO := [(.invokevirtual 69, 37, 3, 4), (.aload_n 0, 0, 0, 0), (.getfield 11, 2, 0, 2), (.iload_n 2, 2, 0, 0), (.aaload, 0, 0, 0), (.invokevirtual 84, 39, 1, 4), (.iinc 2 1, 1, 2, 0), (.goto (-46), 2, 0, 0)]
theorem cb_23_33 : z_chk 23 bo_23_33 33 0 [476, 205, 506] = true := by decide +kernel
def bo_23_51 : List ZO := [(.iconst 0, 0, 0, 0), (.istore_n 2, 2, 0, 0)]
theorem cb_23_51 : z_chk 23 bo_23_51 51 53 [] = true := by decide +kernel
def bo_23_53 : List ZO := [(.iload_n 2, 2, 0, 0), (.aload_n 0, 0, 0, 0), (.getfield 29, 2, 3, 0), (.if_icmp .ge 19, 77, 0, 0), (.aload_n 0, 0, 0, 0), (.aload_n 0, 0, 0, 0), (.getfield 20, 2, 1, 2), (.iload_n 2, 2, 0, 0), (.aaload, 0, 0, 0), (.invokevirtual 87, 24, 2, 3), (.iinc 2 1, 1, 2, 0), (.goto (-21), 53, 0, 0)]
theorem cb_23_53 : z_chk 23 bo_23_53 53 0 [214, 208, 510] = true := by decide +kernel
def bo_23_77 : List ZO := [(.iconst 0, 0, 0, 0), (.istore_n 2, 2, 0, 0), (.iconst 0, 0, 0, 0), (.istore_n 3, 3, 0, 0)]
theorem cb_23_77 : z_chk 23 bo_23_77 77 81 [] = true := by decide +kernel
def bo_23_81 : List ZO := [(.iload_n 3, 3, 0, 0), (.aload_n 0, 0, 0, 0), (.getfield 25, 2, 2, 0), (.if_icmp .ge 62, 148, 0, 0), (.aload_n 0, 0, 0, 0), (.getfield 11, 2, 0, 2), (.iload_n 3, 3, 0, 0), (.aaload, 0, 0, 0), (.getfield 52, 3, 0, 0), (.ifCond .eq 44, 142, 0, 0), (.aload_n 0, 0, 0, 0), (.getfield 11, 2, 0, 2), (.iload_n 3, 3, 0, 0), (.aaload, 0, 0, 0), (.aload_n 0, 0, 0, 0), (.getfield 38, 2, 6, 0), (.invokevirtual 90, 36, 2, 4), (.ifCond .eq 28, 142, 0, 0), (.aload_n 0, 0, 0, 0), (.getfield 11, 2, 0, 2), (.iload_n 3, 3, 0, 0), (.aaload, 0, 0, 0), (.aload_n 0, 0, 0, 0), (.getfield 32, 2, 4, 0), (.invokevirtual 93, 41, 2, 4), (.iload_n 2, 2, 0, 0), (.aload_n 0, 0, 0, 0), (.getfield 11, 2, 0, 2), (.iload_n 3, 3, 0, 0), (.aaload, 0, 0, 0), (.invokevirtual 96, 43, 1, 4), (.ior, 0, 0, 0), (.istore_n 2, 2, 0, 0), (.iinc 3 1, 1, 3, 0), (.goto (-64), 81, 0, 0)]
theorem cb_23_81 : z_chk 23 bo_23_81 81 0 [211, 205, 95, 205, 221, 519, 205, 217, 523, 205, 531] = true := by decide +kernel
def bo_23_142 : List ZO := [(.iinc 3 1, 1, 3, 0), (.goto (-64), 81, 0, 0)]
theorem cb_23_142 : z_chk 23 bo_23_142 142 0 [] = true := by decide +kernel
def bo_23_148 : List ZO := [(.iload_n 2, 2, 0, 0), (.ifCond .eq 13, 162, 0, 0), (.aload_n 0, 0, 0, 0), (.dup, 0, 0, 0), (.getfield 35, 2, 5, 0), (.iconst 1, 1, 0, 0), (.iadd, 0, 0, 0), (.putfield 35, 2, 5, 0), (.aload_n 0, 0, 0, 0), (.dup, 0, 0, 0), (.getfield 38, 2, 6, 0), (.iconst 1, 1, 0, 0), (.iadd, 0, 0, 0), (.putfield 38, 2, 6, 0), (.return_, 0, 0, 0)]
theorem cb_23_148 : z_chk 23 bo_23_148 148 0 [219, 219, 221, 221] = true := by decide +kernel
def bo_23_162 : List ZO := [(.aload_n 0, 0, 0, 0), (.dup, 0, 0, 0), (.getfield 38, 2, 6, 0), (.iconst 1, 1, 0, 0), (.iadd, 0, 0, 0), (.putfield 38, 2, 6, 0), (.return_, 0, 0, 0)]
theorem cb_23_162 : z_chk 23 bo_23_162 162 0 [221, 221] = true := by decide +kernel
def bk_23 : List (Nat × ZE) := [(0, false, [true, true, false, false], bo_23_0, 2), (2, true, [true, true, true, false], bo_23_2, 0), (32, false, [true, true, true, false], bo_23_32, 0), (33, false, [true, true, true, false], bo_23_33, 0), (51, false, [true, false, false, false], bo_23_51, 53), (53, true, [true, false, true, false], bo_23_53, 0), (77, false, [true, false, false, false], bo_23_77, 81), (81, true, [true, false, true, true], bo_23_81, 0), (142, false, [true, false, true, true], bo_23_142, 0), (148, false, [true, false, true, false], bo_23_148, 0), (162, false, [true, false, false, false], bo_23_162, 0)]
theorem ck_23 : z_chks 23 bk_23 [[], [211, 205, 219], [476, 205, 506], [476, 205, 506], [], [214, 208, 510], [], [211, 205, 95, 205, 221, 519, 205, 217, 523, 205, 531], [], [219, 219, 221, 221], [221, 221]] = true := z_chks_cons cb_23_0 (z_chks_cons cb_23_2 (z_chks_cons cb_23_32 (z_chks_cons cb_23_33 (z_chks_cons cb_23_51 (z_chks_cons cb_23_53 (z_chks_cons cb_23_77 (z_chks_cons cb_23_81 (z_chks_cons cb_23_142 (z_chks_cons cb_23_148 (z_chks_cons cb_23_162 (z_chks_nil)))))))))))
theorem bf_23_0 : z_fd bk_23 0 = some (false, [true, true, false, false], bo_23_0, 2) := rfl
theorem bf_23_2 : z_fd bk_23 2 = some (true, [true, true, true, false], bo_23_2, 0) := rfl
theorem bf_23_32 : z_fd bk_23 32 = some (false, [true, true, true, false], bo_23_32, 0) := rfl
theorem bf_23_33 : z_fd bk_23 33 = some (false, [true, true, true, false], bo_23_33, 0) := rfl
theorem bf_23_51 : z_fd bk_23 51 = some (false, [true, false, false, false], bo_23_51, 53) := rfl
theorem bf_23_53 : z_fd bk_23 53 = some (true, [true, false, true, false], bo_23_53, 0) := rfl
theorem bf_23_77 : z_fd bk_23 77 = some (false, [true, false, false, false], bo_23_77, 81) := rfl
theorem bf_23_81 : z_fd bk_23 81 = some (true, [true, false, true, true], bo_23_81, 0) := rfl
theorem bf_23_142 : z_fd bk_23 142 = some (false, [true, false, true, true], bo_23_142, 0) := rfl
theorem bf_23_148 : z_fd bk_23 148 = some (false, [true, false, true, false], bo_23_148, 0) := rfl
theorem bf_23_162 : z_fd bk_23 162 = some (false, [true, false, false, false], bo_23_162, 0) := rfl
theorem cl_23 : z_mL 23 = 4 := by decide +kernel
theorem cz_23 : plainFor (z_my 23) = true ∧ ((z_rm 23).cells = 0 ∧ (z_rm 23).slots = 0) := by decide +kernel
-- 24 Mesh_exchangeOffers
def bo_24_0 : List ZO := [(.aload_n 1, 1, 0, 0), (.getfield 55, 1, 6, 3), (.ifCond .ne 25, 29, 0, 0), (.aload_n 0, 0, 0, 0), (.aload_n 1, 1, 0, 0), (.getfield 59, 1, 0, 0), (.invokevirtual 48, 14, 2, 3), (.ifCond .eq 14, 29, 0, 0), (.aload_n 0, 0, 0, 0), (.aload_n 1, 1, 0, 0), (.getfield 62, 1, 1, 0), (.invokevirtual 48, 14, 2, 3), (.ifCond .ne 4, 30, 0, 0), (.return_, 0, 0, 0)]
def bo_24_29 : List ZO := [(.return_, 0, 0, 0)]
def bo_24_30 : List ZO := [(.aload_n 0, 0, 0, 0), (.getfield 11, 2, 0, 2), (.aload_n 1, 1, 0, 0), (.getfield 59, 1, 0, 0), (.aaload, 0, 0, 0), (.astore_n 2, 2, 0, 0), (.aload_n 0, 0, 0, 0), (.getfield 11, 2, 0, 2), (.aload_n 1, 1, 0, 0), (.getfield 62, 1, 1, 0), (.aaload, 0, 0, 0), (.astore_n 3, 3, 0, 0), (.aload_n 2, 2, 0, 0), (.aload_n 3, 3, 0, 0), (.aload_n 1, 1, 0, 0), (.getfield 62, 1, 1, 0), (.aload_n 1, 1, 0, 0), (.getfield 100, 1, 5, 0), (.invokevirtual 103, 40, 4, 4), (.aload_n 3, 3, 0, 0), (.aload_n 2, 2, 0, 0), (.aload_n 1, 1, 0, 0), (.getfield 59, 1, 0, 0), (.aload_n 1, 1, 0, 0), (.getfield 100, 1, 5, 0), (.invokevirtual 103, 40, 4, 4), (.return_, 0, 0, 0)]
def bk_24 : List (Nat × ZE) := [(0, false, [true, true, false, false], bo_24_0, 0), (29, false, [false, false, false, false], bo_24_29, 0), (30, false, [true, true, false, false], bo_24_30, 0)]
theorem ck_24 : z_chks 24 bk_24 [[188, 174, 431, 177, 431], [], [205, 174, 205, 177, 177, 186, 514, 174, 186, 514]] = true := by decide +kernel
theorem bf_24_0 : z_fd bk_24 0 = some (false, [true, true, false, false], bo_24_0, 0) := rfl
theorem bf_24_29 : z_fd bk_24 29 = some (false, [false, false, false, false], bo_24_29, 0) := rfl
theorem bf_24_30 : z_fd bk_24 30 = some (false, [true, true, false, false], bo_24_30, 0) := rfl
theorem cl_24 : z_mL 24 = 4 := by decide +kernel
theorem cz_24 : plainFor (z_my 24) = true ∧ ((z_rm 24).cells = 0 ∧ (z_rm 24).slots = 0) := by decide +kernel
-- 25 Mesh_endOfRoute
def bo_25_0 : List ZO := [(.iload_n 1, 1, 0, 0), (.istore_n 2, 2, 0, 0), (.iconst 0, 0, 0, 0), (.istore_n 3, 3, 0, 0)]
def bo_25_4 : List ZO := [(.iload_n 3, 3, 0, 0), (.bipush 8, 8, 0, 0), (.if_icmp .gt 41, 48, 0, 0), (.aload_n 0, 0, 0, 0), (.iload_n 2, 2, 0, 0), (.invokevirtual 48, 14, 2, 3), (.ifCond .eq 33, 48, 0, 0), (.aload_n 0, 0, 0, 0), (.getfield 11, 2, 0, 2), (.iload_n 2, 2, 0, 0), (.aaload, 0, 0, 0), (.getfield 52, 3, 0, 0), (.ifCond .ne 5, 32, 0, 0), (.iload_n 2, 2, 0, 0), (.ireturn, 0, 0, 0)]
def bo_25_32 : List ZO := [(.aload_n 0, 0, 0, 0), (.getfield 11, 2, 0, 2), (.iload_n 2, 2, 0, 0), (.aaload, 0, 0, 0), (.getfield 107, 3, 4, 0), (.istore_n 2, 2, 0, 0), (.iinc 3 1, 1, 3, 0), (.goto (-41), 4, 0, 0)]
def bo_25_48 : List ZO := [(.bipush (-9), 9, 0, 1), (.ireturn, 0, 0, 0)]
def bk_25 : List (Nat × ZE) := [(0, false, [true, true, false, false], bo_25_0, 4), (4, true, [true, false, true, true], bo_25_4, 0), (32, false, [true, false, true, true], bo_25_32, 0), (48, false, [false, false, false, false], bo_25_48, 0)]
theorem ck_25 : z_chks 25 bk_25 [[], [431, 205, 95], [205, 107], []] = true := by decide +kernel
theorem bf_25_0 : z_fd bk_25 0 = some (false, [true, true, false, false], bo_25_0, 4) := rfl
theorem bf_25_4 : z_fd bk_25 4 = some (true, [true, false, true, true], bo_25_4, 0) := rfl
theorem bf_25_32 : z_fd bk_25 32 = some (false, [true, false, true, true], bo_25_32, 0) := rfl
theorem bf_25_48 : z_fd bk_25 48 = some (false, [false, false, false, false], bo_25_48, 0) := rfl
theorem cl_25 : z_mL 25 = 4 := by decide +kernel
theorem cz_25 : plainFor (z_my 25) = true ∧ ((z_rm 25).cells = 0 ∧ (z_rm 25).slots = 0) := by decide +kernel
-- 26 Mesh_isReached
def bo_26_0 : List ZO := [(.aload_n 0, 0, 0, 0), (.iload_n 1, 1, 0, 0), (.invokevirtual 110, 25, 2, 3), (.bipush (-9), 9, 0, 1), (.if_icmp .eq 7, 14, 0, 0), (.iconst 1, 1, 0, 0), (.goto 4, 15, 0, 0)]
def bo_26_14 : List ZO := [(.iconst 0, 0, 0, 0), (.ireturn, 1, 0, 0)]
def bo_26_15 : List ZO := [(.ireturn, 1, 0, 0)]
def bk_26 : List (Nat × ZE) := [(0, false, [true, true], bo_26_0, 0), (14, false, [false, false], bo_26_14, 0), (15, false, [false, false], bo_26_15, 0)]
theorem ck_26 : z_chks 26 bk_26 [[427], [], []] = true := by decide +kernel
theorem bf_26_0 : z_fd bk_26 0 = some (false, [true, true], bo_26_0, 0) := rfl
theorem bf_26_14 : z_fd bk_26 14 = some (false, [false, false], bo_26_14, 0) := rfl
theorem bf_26_15 : z_fd bk_26 15 = some (false, [false, false], bo_26_15, 0) := rfl
theorem cl_26 : z_mL 26 = 2 := by decide +kernel
theorem cz_26 : plainFor (z_my 26) = true ∧ ((z_rm 26).cells = 0 ∧ (z_rm 26).slots = 0) := by decide +kernel
-- 27 Mesh_reachedNodes
def bo_27_0 : List ZO := [(.iconst 0, 0, 0, 0), (.istore_n 1, 1, 0, 0), (.iconst 0, 0, 0, 0), (.istore_n 2, 2, 0, 0)]
def bo_27_4 : List ZO := [(.iload_n 2, 2, 0, 0), (.aload_n 0, 0, 0, 0), (.getfield 25, 2, 2, 0), (.if_icmp .ge 23, 32, 0, 0), (.aload_n 0, 0, 0, 0), (.iload_n 2, 2, 0, 0), (.invokevirtual 114, 26, 2, 3), (.ifCond .eq 9, 26, 0, 0), (.iload_n 1, 1, 0, 0), (.iconst 1, 1, 0, 0), (.iload_n 2, 2, 0, 0), (.ishl, 0, 0, 0), (.ior, 0, 0, 0), (.istore_n 1, 1, 0, 0), (.iinc 2 1, 1, 2, 0), (.goto (-25), 4, 0, 0)]
def bo_27_26 : List ZO := [(.iinc 2 1, 1, 2, 0), (.goto (-25), 4, 0, 0)]
def bo_27_32 : List ZO := [(.iload_n 1, 1, 0, 0), (.ireturn, 0, 0, 0)]
def bk_27 : List (Nat × ZE) := [(0, false, [true, false, false], bo_27_0, 4), (4, true, [true, true, true], bo_27_4, 0), (26, false, [true, true, true], bo_27_26, 0), (32, false, [false, true, false], bo_27_32, 0)]
theorem ck_27 : z_chks 27 bk_27 [[], [211, 423], [], []] = true := by decide +kernel
theorem bf_27_0 : z_fd bk_27 0 = some (false, [true, false, false], bo_27_0, 4) := rfl
theorem bf_27_4 : z_fd bk_27 4 = some (true, [true, true, true], bo_27_4, 0) := rfl
theorem bf_27_26 : z_fd bk_27 26 = some (false, [true, true, true], bo_27_26, 0) := rfl
theorem bf_27_32 : z_fd bk_27 32 = some (false, [false, true, false], bo_27_32, 0) := rfl
theorem cl_27 : z_mL 27 = 3 := by decide +kernel
theorem cz_27 : plainFor (z_my 27) = true ∧ ((z_rm 27).cells = 0 ∧ (z_rm 27).slots = 0) := by decide +kernel
-- 28 Mesh_load
def bo_28_0 : List ZO := [(.iconst 0, 0, 0, 0), (.istore_n 2, 2, 0, 0), (.iconst 0, 0, 0, 0), (.istore_n 3, 3, 0, 0)]
def bo_28_4 : List ZO := [(.iload_n 3, 3, 0, 0), (.aload_n 0, 0, 0, 0), (.getfield 25, 2, 2, 0), (.if_icmp .ge 26, 35, 0, 0), (.iload_n 3, 3, 0, 0), (.iload_n 1, 1, 0, 0), (.if_icmp .eq 15, 29, 0, 0), (.aload_n 0, 0, 0, 0), (.iload_n 3, 3, 0, 0), (.invokevirtual 110, 25, 2, 3), (.iload_n 1, 1, 0, 0), (.if_icmp .ne 6, 29, 0, 0), (.iinc 2 1, 1, 2, 0), (.iinc 3 1, 1, 3, 0), (.goto (-28), 4, 0, 0)]
def bo_28_29 : List ZO := [(.iinc 3 1, 1, 3, 0), (.goto (-28), 4, 0, 0)]
def bo_28_35 : List ZO := [(.iload_n 2, 2, 0, 0), (.ireturn, 0, 0, 0)]
def bk_28 : List (Nat × ZE) := [(0, false, [true, true, false, false], bo_28_0, 4), (4, true, [true, true, true, true], bo_28_4, 0), (29, false, [true, true, true, true], bo_28_29, 0), (35, false, [false, false, true, false], bo_28_35, 0)]
theorem ck_28 : z_chks 28 bk_28 [[], [211, 427], [], []] = true := by decide +kernel
theorem bf_28_0 : z_fd bk_28 0 = some (false, [true, true, false, false], bo_28_0, 4) := rfl
theorem bf_28_4 : z_fd bk_28 4 = some (true, [true, true, true, true], bo_28_4, 0) := rfl
theorem bf_28_29 : z_fd bk_28 29 = some (false, [true, true, true, true], bo_28_29, 0) := rfl
theorem bf_28_35 : z_fd bk_28 35 = some (false, [false, false, true, false], bo_28_35, 0) := rfl
theorem cl_28 : z_mL 28 = 4 := by decide +kernel
theorem cz_28 : plainFor (z_my 28) = true ∧ ((z_rm 28).cells = 0 ∧ (z_rm 28).slots = 0) := by decide +kernel
-- 29 Mesh_loadSpread
def bo_29_0 : List ZO := [(.iconst 0, 0, 0, 0), (.istore_n 1, 1, 0, 0), (.bipush 8, 8, 0, 0), (.istore_n 2, 2, 0, 0), (.iconst 0, 0, 0, 0), (.istore_n 3, 3, 0, 0)]
def bo_29_7 : List ZO := [(.iload_n 3, 3, 0, 0), (.aload_n 0, 0, 0, 0), (.getfield 25, 2, 2, 0), (.if_icmp .ge 42, 54, 0, 0), (.aload_n 0, 0, 0, 0), (.getfield 11, 2, 0, 2), (.iload_n 3, 3, 0, 0), (.aaload, 0, 0, 0), (.getfield 52, 3, 0, 0), (.ifCond .ne 24, 48, 0, 0), (.aload_n 0, 0, 0, 0), (.iload_n 3, 3, 0, 0), (.invokevirtual 117, 28, 2, 3), (.istore 4, 4, 0, 0), (.iload_n 1, 1, 0, 0), (.iload 4, 4, 0, 0), (.invokestatic 120, 177, 2, 0), (.istore_n 1, 1, 0, 0), (.iload_n 2, 2, 0, 0), (.iload 4, 4, 0, 0), (.invokestatic 125, 178, 2, 0), (.istore_n 2, 2, 0, 0), (.iinc 3 1, 1, 3, 0), (.goto (-44), 7, 0, 0)]
def bo_29_48 : List ZO := [(.iinc 3 1, 1, 3, 0), (.goto (-44), 7, 0, 0)]
def bo_29_54 : List ZO := [(.iload_n 1, 1, 0, 0), (.iload_n 2, 2, 0, 0), (.isub, 0, 0, 0), (.ireturn, 0, 0, 0)]
def bk_29 : List (Nat × ZE) := [(0, false, [true, false, false, false, false], bo_29_0, 7), (7, true, [true, true, true, true, false], bo_29_7, 0), (48, false, [true, true, true, true, false], bo_29_48, 0), (54, false, [false, true, true, false, false], bo_29_54, 0)]
theorem ck_29 : z_chks 29 bk_29 [[], [211, 205, 95, 448, 600, 603], [], []] = true := by decide +kernel
theorem bf_29_0 : z_fd bk_29 0 = some (false, [true, false, false, false, false], bo_29_0, 7) := rfl
theorem bf_29_7 : z_fd bk_29 7 = some (true, [true, true, true, true, false], bo_29_7, 0) := rfl
theorem bf_29_48 : z_fd bk_29 48 = some (false, [true, true, true, true, false], bo_29_48, 0) := rfl
theorem bf_29_54 : z_fd bk_29 54 = some (false, [false, true, true, false, false], bo_29_54, 0) := rfl
theorem cl_29 : z_mL 29 = 5 := by decide +kernel
theorem cz_29 : plainFor (z_my 29) = true ∧ ((z_rm 29).cells = 0 ∧ (z_rm 29).slots = 0) := by decide +kernel
-- 30 Mesh_allParents
def bo_30_0 : List ZO := [(.lconst 0, 0, 0, 0), (.lstore_n 1, 1, 0, 0), (.iconst 0, 0, 0, 0), (.istore_n 3, 3, 0, 0)]
def bo_30_4 : List ZO := [(.iload_n 3, 3, 0, 0), (.aload_n 0, 0, 0, 0), (.getfield 25, 2, 2, 0), (.if_icmp .ge 45, 54, 0, 0), (.lload_n 1, 1, 0, 0), (.ldc2_w 128, 16, 0, 0), (.lmul, 0, 0, 0), (.aload_n 0, 0, 0, 0), (.getfield 11, 2, 0, 2), (.iload_n 3, 3, 0, 0), (.aaload, 0, 0, 0), (.getfield 107, 3, 4, 0), (.bipush (-9), 9, 0, 1), (.if_icmp .ne 8, 36, 0, 0), (.bipush 8, 8, 0, 0), (.goto 12, 45, 0, 0)]
def bo_30_36 : List ZO := [(.aload_n 0, 0, 0, 0), (.getfield 11, 2, 0, 2), (.iload_n 3, 3, 0, 0), (.aaload, 0, 0, 0), (.getfield 107, 3, 4, 0), (.i2l, 0, 0, 0), (.ladd, 0, 0, 0), (.lstore_n 1, 1, 0, 0), (.iinc 3 1, 1, 3, 0), (.goto (-47), 4, 0, 0)]
def bo_30_45 : List ZO := [(.i2l, 0, 0, 0), (.ladd, 0, 0, 0), (.lstore_n 1, 1, 0, 0), (.iinc 3 1, 1, 3, 0), (.goto (-47), 4, 0, 0)]
def bo_30_54 : List ZO := [(.lload_n 1, 1, 0, 0), (.lreturn, 0, 0, 0)]
def bk_30 : List (Nat × ZE) := [(0, false, [true, false, false, false], bo_30_0, 4), (4, true, [true, true, false, true], bo_30_4, 0), (36, false, [true, false, false, true], bo_30_36, 0), (45, false, [true, false, false, true], bo_30_45, 0), (54, false, [false, true, false, false], bo_30_54, 0)]
theorem ck_30 : z_chks 30 bk_30 [[], [211, 585, 205, 107], [205, 107], [], []] = true := by decide +kernel
theorem bf_30_0 : z_fd bk_30 0 = some (false, [true, false, false, false], bo_30_0, 4) := rfl
theorem bf_30_4 : z_fd bk_30 4 = some (true, [true, true, false, true], bo_30_4, 0) := rfl
theorem bf_30_36 : z_fd bk_30 36 = some (false, [true, false, false, true], bo_30_36, 0) := rfl
theorem bf_30_45 : z_fd bk_30 45 = some (false, [true, false, false, true], bo_30_45, 0) := rfl
theorem bf_30_54 : z_fd bk_30 54 = some (false, [false, true, false, false], bo_30_54, 0) := rfl
theorem cl_30 : z_mL 30 = 4 := by decide +kernel
theorem cz_30 : plainFor (z_my 30) = true ∧ ((z_rm 30).cells = 0 ∧ (z_rm 30).slots = 0) := by decide +kernel
-- 31 Mesh_nodeProperty
def bo_31_0 : List ZO := [(.aload_n 0, 0, 0, 0), (.getfield 11, 2, 0, 2), (.iload_n 1, 1, 0, 0), (.aaload, 0, 0, 0), (.astore_n 3, 3, 0, 0), (.aload_n 3, 3, 0, 0), (.getfield 52, 3, 0, 0), (.ifCond .ne 7, 18, 0, 0), (.iconst 1, 1, 0, 0), (.goto 4, 19, 0, 0)]
theorem cb_31_0 : z_chk 31 bo_31_0 0 0 [205, 95] = true := by decide +kernel
def bo_31_18 : List ZO := [(.iconst 0, 0, 0, 0), (.istore 4, 4, 0, 0), (.iload_n 2, 2, 0, 0), (.tableswitch 151 0 9 #[54, 59, 79, 84, 89, 94, 99, 114, 129, 135], 22, 0, 9)]
theorem cb_31_18 : z_chk 31 bo_31_18 18 0 [] = true := by decide +kernel
def bo_31_19 : List ZO := [(.istore 4, 4, 0, 0), (.iload_n 2, 2, 0, 0), (.tableswitch 151 0 9 #[54, 59, 79, 84, 89, 94, 99, 114, 129, 135], 22, 0, 9)]
theorem cb_31_19 : z_chk 31 bo_31_19 19 0 [] = true := by decide +kernel
def bo_31_76 : List ZO := [(.aload_n 3, 3, 0, 0), (.getfield 52, 3, 0, 0), (.ireturn, 0, 0, 0)]
theorem cb_31_76 : z_chk 31 bo_31_76 76 0 [95] = true := by decide +kernel
def bo_31_81 : List ZO := [(.aload_n 3, 3, 0, 0), (.getfield 52, 3, 0, 0), (.iconst 2, 2, 0, 0), (.if_icmp .ne 10, 96, 0, 0), (.aload_n 3, 3, 0, 0), (.getfield 130, 3, 2, 0), (.goto 7, 100, 0, 0)]
theorem cb_31_81 : z_chk 31 bo_31_81 81 0 [95, 102] = true := by decide +kernel
def bo_31_96 : List ZO := [(.aload_n 3, 3, 0, 0), (.getfield 133, 3, 1, 0), (.ireturn, 0, 0, 0)]
theorem cb_31_96 : z_chk 31 bo_31_96 96 0 [99] = true := by decide +kernel
def bo_31_100 : List ZO := [(.ireturn, 0, 0, 0)]
theorem cb_31_100 : z_chk 31 bo_31_100 100 0 [] = true := by decide +kernel
def bo_31_101 : List ZO := [(.aload_n 3, 3, 0, 0), (.getfield 136, 3, 3, 0), (.ireturn, 0, 0, 0)]
theorem cb_31_101 : z_chk 31 bo_31_101 101 0 [105] = true := by decide +kernel
def bo_31_106 : List ZO := [(.aload_n 3, 3, 0, 0), (.getfield 107, 3, 4, 0), (.ireturn, 0, 0, 0)]
theorem cb_31_106 : z_chk 31 bo_31_106 106 0 [107] = true := by decide +kernel
def bo_31_111 : List ZO := [(.aload_n 3, 3, 0, 0), (.getfield 139, 3, 5, 0), (.ireturn, 0, 0, 0)]
theorem cb_31_111 : z_chk 31 bo_31_111 111 0 [110] = true := by decide +kernel
def bo_31_116 : List ZO := [(.aload_n 3, 3, 0, 0), (.getfield 142, 3, 6, 0), (.ireturn, 0, 0, 0)]
theorem cb_31_116 : z_chk 31 bo_31_116 116 0 [112] = true := by decide +kernel
def bo_31_121 : List ZO := [(.iload 4, 4, 0, 0), (.ifCond .eq 8, 131, 0, 0), (.bipush (-9), 9, 0, 1), (.goto 7, 135, 0, 0)]
theorem cb_31_121 : z_chk 31 bo_31_121 121 0 [] = true := by decide +kernel
def bo_31_131 : List ZO := [(.aload_n 3, 3, 0, 0), (.getfield 143, 3, 7, 0), (.ireturn, 0, 0, 0)]
theorem cb_31_131 : z_chk 31 bo_31_131 131 0 [114] = true := by decide +kernel
def bo_31_135 : List ZO := [(.ireturn, 0, 0, 0)]
theorem cb_31_135 : z_chk 31 bo_31_135 135 0 [] = true := by decide +kernel
def bo_31_136 : List ZO := [(.iload 4, 4, 0, 0), (.ifCond .eq 8, 146, 0, 0), (.bipush (-9), 9, 0, 1), (.goto 7, 150, 0, 0)]
theorem cb_31_136 : z_chk 31 bo_31_136 136 0 [] = true := by decide +kernel
def bo_31_146 : List ZO := [(.aload_n 3, 3, 0, 0), (.getfield 146, 3, 8, 0), (.ireturn, 0, 0, 0)]
theorem cb_31_146 : z_chk 31 bo_31_146 146 0 [116] = true := by decide +kernel
def bo_31_150 : List ZO := [(.ireturn, 0, 0, 0)]
theorem cb_31_150 : z_chk 31 bo_31_150 150 0 [] = true := by decide +kernel
def bo_31_151 : List ZO := [(.aload_n 0, 0, 0, 0), (.iload_n 1, 1, 0, 0), (.invokevirtual 110, 25, 2, 3), (.ireturn, 0, 0, 0)]
theorem cb_31_151 : z_chk 31 bo_31_151 151 0 [427] = true := by decide +kernel
def bo_31_157 : List ZO := [(.iload 4, 4, 0, 0), (.ifCond .eq 11, 170, 0, 0), (.aload_n 0, 0, 0, 0), (.iload_n 1, 1, 0, 0), (.invokevirtual 117, 28, 2, 3), (.goto 5, 172, 0, 0)]
theorem cb_31_157 : z_chk 31 bo_31_157 157 0 [448] = true := by decide +kernel
def bo_31_170 : List ZO := [(.bipush (-9), 9, 0, 1), (.ireturn, 0, 0, 0)]
theorem cb_31_170 : z_chk 31 bo_31_170 170 0 [] = true := by decide +kernel
def bo_31_172 : List ZO := [(.ireturn, 0, 0, 0)]
theorem cb_31_172 : z_chk 31 bo_31_172 172 0 [] = true := by decide +kernel
def bo_31_173 : List ZO := [(.bipush (-2), 2, 0, 1), (.ireturn, 0, 0, 0)]
theorem cb_31_173 : z_chk 31 bo_31_173 173 0 [] = true := by decide +kernel
def bk_31 : List (Nat × ZE) := [(0, false, [true, true, true, false, false], bo_31_0, 0), (18, false, [true, true, true, true, false], bo_31_18, 0), (19, false, [true, true, true, true, false], bo_31_19, 0), (76, false, [false, false, false, true, false], bo_31_76, 0), (81, false, [false, false, false, true, false], bo_31_81, 0), (96, false, [false, false, false, true, false], bo_31_96, 0), (100, false, [false, false, false, false, false], bo_31_100, 0), (101, false, [false, false, false, true, false], bo_31_101, 0), (106, false, [false, false, false, true, false], bo_31_106, 0), (111, false, [false, false, false, true, false], bo_31_111, 0), (116, false, [false, false, false, true, false], bo_31_116, 0), (121, false, [false, false, false, true, true], bo_31_121, 0), (131, false, [false, false, false, true, false], bo_31_131, 0), (135, false, [false, false, false, false, false], bo_31_135, 0), (136, false, [false, false, false, true, true], bo_31_136, 0), (146, false, [false, false, false, true, false], bo_31_146, 0), (150, false, [false, false, false, false, false], bo_31_150, 0), (151, false, [true, true, false, false, false], bo_31_151, 0), (157, false, [true, true, false, false, true], bo_31_157, 0), (170, false, [false, false, false, false, false], bo_31_170, 0), (172, false, [false, false, false, false, false], bo_31_172, 0), (173, false, [false, false, false, false, false], bo_31_173, 0)]
theorem ck_31 : z_chks 31 bk_31 [[205, 95], [], [], [95], [95, 102], [99], [], [105], [107], [110], [112], [], [114], [], [], [116], [], [427], [448], [], [], []] = true := z_chks_cons cb_31_0 (z_chks_cons cb_31_18 (z_chks_cons cb_31_19 (z_chks_cons cb_31_76 (z_chks_cons cb_31_81 (z_chks_cons cb_31_96 (z_chks_cons cb_31_100 (z_chks_cons cb_31_101 (z_chks_cons cb_31_106 (z_chks_cons cb_31_111 (z_chks_cons cb_31_116 (z_chks_cons cb_31_121 (z_chks_cons cb_31_131 (z_chks_cons cb_31_135 (z_chks_cons cb_31_136 (z_chks_cons cb_31_146 (z_chks_cons cb_31_150 (z_chks_cons cb_31_151 (z_chks_cons cb_31_157 (z_chks_cons cb_31_170 (z_chks_cons cb_31_172 (z_chks_cons cb_31_173 (z_chks_nil))))))))))))))))))))))
theorem bf_31_0 : z_fd bk_31 0 = some (false, [true, true, true, false, false], bo_31_0, 0) := rfl
theorem bf_31_18 : z_fd bk_31 18 = some (false, [true, true, true, true, false], bo_31_18, 0) := rfl
theorem bf_31_19 : z_fd bk_31 19 = some (false, [true, true, true, true, false], bo_31_19, 0) := rfl
theorem bf_31_76 : z_fd bk_31 76 = some (false, [false, false, false, true, false], bo_31_76, 0) := rfl
theorem bf_31_81 : z_fd bk_31 81 = some (false, [false, false, false, true, false], bo_31_81, 0) := rfl
theorem bf_31_96 : z_fd bk_31 96 = some (false, [false, false, false, true, false], bo_31_96, 0) := rfl
theorem bf_31_100 : z_fd bk_31 100 = some (false, [false, false, false, false, false], bo_31_100, 0) := rfl
theorem bf_31_101 : z_fd bk_31 101 = some (false, [false, false, false, true, false], bo_31_101, 0) := rfl
theorem bf_31_106 : z_fd bk_31 106 = some (false, [false, false, false, true, false], bo_31_106, 0) := rfl
theorem bf_31_111 : z_fd bk_31 111 = some (false, [false, false, false, true, false], bo_31_111, 0) := rfl
theorem bf_31_116 : z_fd bk_31 116 = some (false, [false, false, false, true, false], bo_31_116, 0) := rfl
theorem bf_31_121 : z_fd bk_31 121 = some (false, [false, false, false, true, true], bo_31_121, 0) := rfl
theorem bf_31_131 : z_fd bk_31 131 = some (false, [false, false, false, true, false], bo_31_131, 0) := rfl
theorem bf_31_135 : z_fd bk_31 135 = some (false, [false, false, false, false, false], bo_31_135, 0) := rfl
theorem bf_31_136 : z_fd bk_31 136 = some (false, [false, false, false, true, true], bo_31_136, 0) := rfl
theorem bf_31_146 : z_fd bk_31 146 = some (false, [false, false, false, true, false], bo_31_146, 0) := rfl
theorem bf_31_150 : z_fd bk_31 150 = some (false, [false, false, false, false, false], bo_31_150, 0) := rfl
theorem bf_31_151 : z_fd bk_31 151 = some (false, [true, true, false, false, false], bo_31_151, 0) := rfl
theorem bf_31_157 : z_fd bk_31 157 = some (false, [true, true, false, false, true], bo_31_157, 0) := rfl
theorem bf_31_170 : z_fd bk_31 170 = some (false, [false, false, false, false, false], bo_31_170, 0) := rfl
theorem bf_31_172 : z_fd bk_31 172 = some (false, [false, false, false, false, false], bo_31_172, 0) := rfl
theorem bf_31_173 : z_fd bk_31 173 = some (false, [false, false, false, false, false], bo_31_173, 0) := rfl
theorem cl_31 : z_mL 31 = 5 := by decide +kernel
theorem cz_31 : plainFor (z_my 31) = true ∧ ((z_rm 31).cells = 0 ∧ (z_rm 31).slots = 0) := by decide +kernel
-- 32 Node_init
def bo_32_0 : List ZO := [(.aload_n 0, 0, 0, 0), (.invokespecial 3, 0, 1, 99), (.return_, 0, 0, 0)]
def bk_32 : List (Nat × ZE) := [(0, false, [true], bo_32_0, 0)]
theorem ck_32 : z_chks 32 bk_32 [[93]] = true := by decide +kernel
theorem bf_32_0 : z_fd bk_32 0 = some (false, [true], bo_32_0, 0) := rfl
theorem cl_32 : z_mL 32 = 1 := by decide +kernel
theorem cz_32 : plainFor (z_my 32) = true ∧ ((z_rm 32).cells = 0 ∧ (z_rm 32).slots = 0) := by decide +kernel
-- 33 Node_reset
def bo_33_0 : List ZO := [(.aload_n 0, 0, 0, 0), (.iload_n 1, 1, 0, 0), (.putfield 9, 3, 0, 0), (.aload_n 0, 0, 0, 0), (.iconst 0, 0, 0, 0), (.putfield 15, 3, 1, 0), (.aload_n 0, 0, 0, 0), (.iconst 0, 0, 0, 0), (.putfield 18, 3, 2, 0), (.aload_n 0, 0, 0, 0), (.iconst 0, 0, 0, 0), (.putfield 21, 3, 3, 0), (.aload_n 0, 0, 0, 0), (.invokevirtual 24, 35, 1, 4), (.aload_n 0, 0, 0, 0), (.iconst 0, 0, 0, 0), (.putfield 27, 3, 7, 0), (.aload_n 0, 0, 0, 0), (.sipush 9999, 9999, 0, 0), (.putfield 30, 3, 8, 0), (.return_, 0, 0, 0)]
def bk_33 : List (Nat × ZE) := [(0, false, [true, true], bo_33_0, 0)]
theorem ck_33 : z_chks 33 bk_33 [[94, 96, 100, 103, 355, 113, 115]] = true := by decide +kernel
theorem bf_33_0 : z_fd bk_33 0 = some (false, [true, true], bo_33_0, 0) := rfl
theorem cl_33 : z_mL 33 = 2 := by decide +kernel
theorem cz_33 : plainFor (z_my 33) = true ∧ ((z_rm 33).cells = 0 ∧ (z_rm 33).slots = 0) := by decide +kernel
-- 34 Node_copyFrom
def bo_34_0 : List ZO := [(.aload_n 0, 0, 0, 0), (.aload_n 1, 1, 0, 0), (.getfield 9, 3, 0, 0), (.putfield 9, 3, 0, 0), (.aload_n 0, 0, 0, 0), (.aload_n 1, 1, 0, 0), (.getfield 15, 3, 1, 0), (.putfield 15, 3, 1, 0), (.aload_n 0, 0, 0, 0), (.aload_n 1, 1, 0, 0), (.getfield 18, 3, 2, 0), (.putfield 18, 3, 2, 0), (.aload_n 0, 0, 0, 0), (.aload_n 1, 1, 0, 0), (.getfield 21, 3, 3, 0), (.putfield 21, 3, 3, 0), (.aload_n 0, 0, 0, 0), (.aload_n 1, 1, 0, 0), (.getfield 33, 3, 4, 0), (.putfield 33, 3, 4, 0), (.aload_n 0, 0, 0, 0), (.aload_n 1, 1, 0, 0), (.getfield 36, 3, 5, 0), (.putfield 36, 3, 5, 0), (.aload_n 0, 0, 0, 0), (.aload_n 1, 1, 0, 0), (.getfield 39, 3, 6, 0), (.putfield 39, 3, 6, 0), (.aload_n 0, 0, 0, 0), (.aload_n 1, 1, 0, 0), (.getfield 27, 3, 7, 0), (.putfield 27, 3, 7, 0), (.aload_n 0, 0, 0, 0), (.aload_n 1, 1, 0, 0), (.getfield 30, 3, 8, 0), (.putfield 30, 3, 8, 0), (.return_, 0, 0, 0)]
def bk_34 : List (Nat × ZE) := [(0, false, [true, true], bo_34_0, 0)]
theorem ck_34 : z_chks 34 bk_34 [[94, 94, 96, 96, 100, 100, 103, 103, 106, 106, 109, 109, 111, 111, 113, 113, 115, 115]] = true := by decide +kernel
theorem bf_34_0 : z_fd bk_34 0 = some (false, [true, true], bo_34_0, 0) := rfl
theorem cl_34 : z_mL 34 = 2 := by decide +kernel
theorem cz_34 : plainFor (z_my 34) = true ∧ ((z_rm 34).cells = 0 ∧ (z_rm 34).slots = 0) := by decide +kernel
-- 35 Node_dropParent
def bo_35_0 : List ZO := [(.aload_n 0, 0, 0, 0), (.bipush (-9), 9, 0, 1), (.putfield 33, 3, 4, 0), (.aload_n 0, 0, 0, 0), (.bipush (-9), 9, 0, 1), (.putfield 36, 3, 5, 0), (.aload_n 0, 0, 0, 0), (.bipush (-9), 9, 0, 1), (.putfield 39, 3, 6, 0), (.return_, 0, 0, 0)]
def bk_35 : List (Nat × ZE) := [(0, false, [true], bo_35_0, 0)]
theorem ck_35 : z_chks 35 bk_35 [[106, 109, 111]] = true := by decide +kernel
theorem bf_35_0 : z_fd bk_35 0 = some (false, [true], bo_35_0, 0) := rfl
theorem cl_35 : z_mL 35 = 1 := by decide +kernel
theorem cz_35 : plainFor (z_my 35) = true ∧ ((z_rm 35).cells = 0 ∧ (z_rm 35).slots = 0) := by decide +kernel
-- 36 Node_isAwake
def bo_36_0 : List ZO := [(.aload_n 0, 0, 0, 0), (.getfield 9, 3, 0, 0), (.iconst 2, 2, 0, 0), (.if_icmp .ne 23, 28, 0, 0), (.aload_n 0, 0, 0, 0), (.getfield 18, 3, 2, 0), (.ifCond .le 20, 32, 0, 0), (.iload_n 1, 1, 0, 0), (.aload_n 0, 0, 0, 0), (.getfield 18, 3, 2, 0), (.irem, 0, 0, 0), (.aload_n 0, 0, 0, 0), (.getfield 21, 3, 3, 0), (.if_icmp .ne 7, 32, 0, 0), (.iconst 1, 1, 0, 0), (.goto 4, 33, 0, 0)]
def bo_36_28 : List ZO := [(.iconst 1, 1, 0, 0), (.goto 4, 33, 0, 0)]
def bo_36_32 : List ZO := [(.iconst 0, 0, 0, 0), (.ireturn, 1, 0, 0)]
def bo_36_33 : List ZO := [(.ireturn, 1, 0, 0)]
def bk_36 : List (Nat × ZE) := [(0, false, [true, true], bo_36_0, 0), (28, false, [false, false], bo_36_28, 0), (32, false, [false, false], bo_36_32, 0), (33, false, [false, false], bo_36_33, 0)]
theorem ck_36 : z_chks 36 bk_36 [[94, 100, 100, 103], [], [], []] = true := by decide +kernel
theorem bf_36_0 : z_fd bk_36 0 = some (false, [true, true], bo_36_0, 0) := rfl
theorem bf_36_28 : z_fd bk_36 28 = some (false, [false, false], bo_36_28, 0) := rfl
theorem bf_36_32 : z_fd bk_36 32 = some (false, [false, false], bo_36_32, 0) := rfl
theorem bf_36_33 : z_fd bk_36 33 = some (false, [false, false], bo_36_33, 0) := rfl
theorem cl_36 : z_mL 36 = 2 := by decide +kernel
theorem cz_36 : plainFor (z_my 36) = true ∧ ((z_rm 36).cells = 0 ∧ (z_rm 36).slots = 0) := by decide +kernel
-- 37 Node_fixOffer
def bo_37_0 : List ZO := [(.aload_n 0, 0, 0, 0), (.getfield 9, 3, 0, 0), (.ifCond .ne 32, 36, 0, 0), (.aload_n 0, 0, 0, 0), (.iload_n 2, 2, 0, 0), (.ifCond .ne 7, 16, 0, 0), (.iconst 1, 1, 0, 0), (.goto 4, 17, 0, 0)]
theorem cb_37_0 : z_chk 37 bo_37_0 0 0 [94] = true := by decide +kernel
def bo_37_16 : List ZO := [(.iconst 0, 0, 0, 0), (.putfield 42, 3, 9, 3), (.aload_n 0, 0, 0, 0), (.iload_n 1, 1, 0, 0), (.putfield 46, 3, 10, 0), (.aload_n 0, 0, 0, 0), (.aload_n 0, 0, 0, 0), (.getfield 15, 3, 1, 0), (.putfield 49, 3, 11, 0), (.goto 45, 78, 0, 0)]
theorem cb_37_16 : z_chk 37 bo_37_16 16 0 [117, 119, 96, 120] = true := by decide +kernel
def bo_37_17 : List ZO := [(.putfield 42, 3, 9, 3), (.aload_n 0, 0, 0, 0), (.iload_n 1, 1, 0, 0), (.putfield 46, 3, 10, 0), (.aload_n 0, 0, 0, 0), (.aload_n 0, 0, 0, 0), (.getfield 15, 3, 1, 0), (.putfield 49, 3, 11, 0), (.goto 45, 78, 0, 0)]
theorem cb_37_17 : z_chk 37 bo_37_17 17 0 [117, 119, 96, 120] = true := by decide +kernel
def bo_37_36 : List ZO := [(.aload_n 0, 0, 0, 0), (.aload_n 0, 0, 0, 0), (.getfield 9, 3, 0, 0), (.iconst 1, 1, 0, 0), (.if_icmp .ne 16, 58, 0, 0), (.aload_n 0, 0, 0, 0), (.getfield 33, 3, 4, 0), (.bipush (-9), 9, 0, 1), (.if_icmp .eq 7, 58, 0, 0), (.iconst 1, 1, 0, 0), (.goto 4, 59, 0, 0)]
theorem cb_37_36 : z_chk 37 bo_37_36 36 0 [94, 106] = true := by decide +kernel
def bo_37_58 : List ZO := [(.iconst 0, 0, 0, 0), (.putfield 42, 3, 9, 3), (.aload_n 0, 0, 0, 0), (.aload_n 0, 0, 0, 0), (.getfield 39, 3, 6, 0), (.putfield 46, 3, 10, 0), (.aload_n 0, 0, 0, 0), (.aload_n 0, 0, 0, 0), (.getfield 36, 3, 5, 0), (.putfield 49, 3, 11, 0), (.return_, 0, 0, 0)]
theorem cb_37_58 : z_chk 37 bo_37_58 58 0 [117, 111, 119, 109, 120] = true := by decide +kernel
def bo_37_59 : List ZO := [(.putfield 42, 3, 9, 3), (.aload_n 0, 0, 0, 0), (.aload_n 0, 0, 0, 0), (.getfield 39, 3, 6, 0), (.putfield 46, 3, 10, 0), (.aload_n 0, 0, 0, 0), (.aload_n 0, 0, 0, 0), (.getfield 36, 3, 5, 0), (.putfield 49, 3, 11, 0), (.return_, 0, 0, 0)]
theorem cb_37_59 : z_chk 37 bo_37_59 59 0 [117, 111, 119, 109, 120] = true := by decide +kernel
def bo_37_78 : List ZO := [(.return_, 0, 0, 0)]
theorem cb_37_78 : z_chk 37 bo_37_78 78 0 [] = true := by decide +kernel
def bk_37 : List (Nat × ZE) := [(0, false, [true, true, true], bo_37_0, 0), (16, false, [true, true, false], bo_37_16, 0), (17, false, [true, true, false], bo_37_17, 0), (36, false, [true, false, false], bo_37_36, 0), (58, false, [true, false, false], bo_37_58, 0), (59, false, [true, false, false], bo_37_59, 0), (78, false, [false, false, false], bo_37_78, 0)]
theorem ck_37 : z_chks 37 bk_37 [[94], [117, 119, 96, 120], [117, 119, 96, 120], [94, 106], [117, 111, 119, 109, 120], [117, 111, 119, 109, 120], []] = true := z_chks_cons cb_37_0 (z_chks_cons cb_37_16 (z_chks_cons cb_37_17 (z_chks_cons cb_37_36 (z_chks_cons cb_37_58 (z_chks_cons cb_37_59 (z_chks_cons cb_37_78 (z_chks_nil)))))))
theorem bf_37_0 : z_fd bk_37 0 = some (false, [true, true, true], bo_37_0, 0) := rfl
theorem bf_37_16 : z_fd bk_37 16 = some (false, [true, true, false], bo_37_16, 0) := rfl
theorem bf_37_17 : z_fd bk_37 17 = some (false, [true, true, false], bo_37_17, 0) := rfl
theorem bf_37_36 : z_fd bk_37 36 = some (false, [true, false, false], bo_37_36, 0) := rfl
theorem bf_37_58 : z_fd bk_37 58 = some (false, [true, false, false], bo_37_58, 0) := rfl
theorem bf_37_59 : z_fd bk_37 59 = some (false, [true, false, false], bo_37_59, 0) := rfl
theorem bf_37_78 : z_fd bk_37 78 = some (false, [false, false, false], bo_37_78, 0) := rfl
theorem cl_37 : z_mL 37 = 3 := by decide +kernel
theorem cz_37 : plainFor (z_my 37) = true ∧ ((z_rm 37).cells = 0 ∧ (z_rm 37).slots = 0) := by decide +kernel
-- 38 Node_isFeasible
def bo_38_0 : List ZO := [(.aload_n 1, 1, 0, 0), (.getfield 46, 3, 10, 0), (.aload_n 0, 0, 0, 0), (.getfield 27, 3, 7, 0), (.if_icmp .gt 25, 33, 0, 0), (.aload_n 1, 1, 0, 0), (.getfield 46, 3, 10, 0), (.aload_n 0, 0, 0, 0), (.getfield 27, 3, 7, 0), (.if_icmp .ne 18, 37, 0, 0), (.aload_n 1, 1, 0, 0), (.getfield 49, 3, 11, 0), (.aload_n 0, 0, 0, 0), (.getfield 30, 3, 8, 0), (.if_icmp .ge 7, 37, 0, 0), (.iconst 1, 1, 0, 0), (.goto 4, 38, 0, 0)]
def bo_38_33 : List ZO := [(.iconst 1, 1, 0, 0), (.goto 4, 38, 0, 0)]
def bo_38_37 : List ZO := [(.iconst 0, 0, 0, 0), (.ireturn, 1, 0, 0)]
def bo_38_38 : List ZO := [(.ireturn, 1, 0, 0)]
def bk_38 : List (Nat × ZE) := [(0, false, [true, true], bo_38_0, 0), (33, false, [false, false], bo_38_33, 0), (37, false, [false, false], bo_38_37, 0), (38, false, [false, false], bo_38_38, 0)]
theorem ck_38 : z_chks 38 bk_38 [[119, 113, 119, 113, 120, 115], [], [], []] = true := by decide +kernel
theorem bf_38_0 : z_fd bk_38 0 = some (false, [true, true], bo_38_0, 0) := rfl
theorem bf_38_33 : z_fd bk_38 33 = some (false, [false, false], bo_38_33, 0) := rfl
theorem bf_38_37 : z_fd bk_38 37 = some (false, [false, false], bo_38_37, 0) := rfl
theorem bf_38_38 : z_fd bk_38 38 = some (false, [false, false], bo_38_38, 0) := rfl
theorem cl_38 : z_mL 38 = 2 := by decide +kernel
theorem cz_38 : plainFor (z_my 38) = true ∧ ((z_rm 38).cells = 0 ∧ (z_rm 38).slots = 0) := by decide +kernel
-- 39 Node_forgetHeard
def bo_39_0 : List ZO := [(.aload_n 0, 0, 0, 0), (.iconst 0, 0, 0, 0), (.putfield 52, 3, 12, 3), (.aload_n 0, 0, 0, 0), (.aconst_null, 0, 0, 0), (.putfield 55, 3, 13, 2), (.aload_n 0, 0, 0, 0), (.aconst_null, 0, 0, 0), (.putfield 59, 3, 15, 2), (.return_, 0, 0, 0)]
def bk_39 : List (Nat × ZE) := [(0, false, [true], bo_39_0, 0)]
theorem ck_39 : z_chks 39 bk_39 [[122, 123, 125]] = true := by decide +kernel
theorem bf_39_0 : z_fd bk_39 0 = some (false, [true], bo_39_0, 0) := rfl
theorem cl_39 : z_mL 39 = 1 := by decide +kernel
theorem cz_39 : plainFor (z_my 39) = true ∧ ((z_rm 39).cells = 0 ∧ (z_rm 39).slots = 0) := by decide +kernel
-- 40 Node_hear
def bo_40_0 : List ZO := [(.aload_n 1, 1, 0, 0), (.getfield 42, 3, 9, 3), (.ifCond .ne 4, 8, 0, 0), (.return_, 0, 0, 0)]
theorem cb_40_0 : z_chk 40 bo_40_0 0 0 [117] = true := by decide +kernel
def bo_40_8 : List ZO := [(.aload_n 0, 0, 0, 0), (.iconst 1, 1, 0, 0), (.putfield 52, 3, 12, 3), (.aload_n 0, 0, 0, 0), (.aload_n 1, 1, 0, 0), (.invokevirtual 62, 38, 2, 4), (.ifCond .ne 4, 22, 0, 0), (.return_, 0, 0, 0)]
theorem cb_40_8 : z_chk 40 bo_40_8 8 0 [122, 518] = true := by decide +kernel
def bo_40_22 : List ZO := [(.aload_n 1, 1, 0, 0), (.getfield 49, 3, 11, 0), (.iload_n 3, 3, 0, 0), (.iadd, 0, 0, 0), (.istore 4, 4, 0, 0), (.iload_n 2, 2, 0, 0), (.aload_n 0, 0, 0, 0), (.getfield 33, 3, 4, 0), (.if_icmp .ne 14, 49, 0, 0), (.aload_n 0, 0, 0, 0), (.aload_n 1, 1, 0, 0), (.putfield 55, 3, 13, 2), (.aload_n 0, 0, 0, 0), (.iload 4, 4, 0, 0), (.putfield 66, 3, 14, 0), (.aload_n 0, 0, 0, 0), (.getfield 59, 3, 15, 2), (.ifnull 29, 82, 0, 0), (.iload 4, 4, 0, 0), (.aload_n 0, 0, 0, 0), (.getfield 69, 3, 17, 0), (.if_icmp .lt 20, 82, 0, 0), (.iload 4, 4, 0, 0), (.aload_n 0, 0, 0, 0), (.getfield 69, 3, 17, 0), (.if_icmp .ne 27, 98, 0, 0), (.iload_n 2, 2, 0, 0), (.aload_n 0, 0, 0, 0), (.getfield 72, 3, 16, 0), (.if_icmp .ge 19, 98, 0, 0), (.aload_n 0, 0, 0, 0), (.aload_n 1, 1, 0, 0), (.putfield 59, 3, 15, 2), (.aload_n 0, 0, 0, 0), (.iload_n 2, 2, 0, 0), (.putfield 72, 3, 16, 0), (.aload_n 0, 0, 0, 0), (.iload 4, 4, 0, 0), (.putfield 69, 3, 17, 0), (.return_, 0, 0, 0)]
theorem cb_40_22 : z_chk 40 bo_40_22 22 0 [120, 106, 123, 124, 125, 127, 127, 126, 125, 126, 127] = true := by decide +kernel
def bo_40_49 : List ZO := [(.aload_n 0, 0, 0, 0), (.getfield 59, 3, 15, 2), (.ifnull 29, 82, 0, 0), (.iload 4, 4, 0, 0), (.aload_n 0, 0, 0, 0), (.getfield 69, 3, 17, 0), (.if_icmp .lt 20, 82, 0, 0), (.iload 4, 4, 0, 0), (.aload_n 0, 0, 0, 0), (.getfield 69, 3, 17, 0), (.if_icmp .ne 27, 98, 0, 0), (.iload_n 2, 2, 0, 0), (.aload_n 0, 0, 0, 0), (.getfield 72, 3, 16, 0), (.if_icmp .ge 19, 98, 0, 0), (.aload_n 0, 0, 0, 0), (.aload_n 1, 1, 0, 0), (.putfield 59, 3, 15, 2), (.aload_n 0, 0, 0, 0), (.iload_n 2, 2, 0, 0), (.putfield 72, 3, 16, 0), (.aload_n 0, 0, 0, 0), (.iload 4, 4, 0, 0), (.putfield 69, 3, 17, 0), (.return_, 0, 0, 0)]
theorem cb_40_49 : z_chk 40 bo_40_49 49 0 [125, 127, 127, 126, 125, 126, 127] = true := by decide +kernel
def bo_40_82 : List ZO := [(.aload_n 0, 0, 0, 0), (.aload_n 1, 1, 0, 0), (.putfield 59, 3, 15, 2), (.aload_n 0, 0, 0, 0), (.iload_n 2, 2, 0, 0), (.putfield 72, 3, 16, 0), (.aload_n 0, 0, 0, 0), (.iload 4, 4, 0, 0), (.putfield 69, 3, 17, 0), (.return_, 0, 0, 0)]
theorem cb_40_82 : z_chk 40 bo_40_82 82 0 [125, 126, 127] = true := by decide +kernel
def bo_40_98 : List ZO := [(.return_, 0, 0, 0)]
theorem cb_40_98 : z_chk 40 bo_40_98 98 0 [] = true := by decide +kernel
def bk_40 : List (Nat × ZE) := [(0, false, [true, true, true, true, false], bo_40_0, 0), (8, false, [true, true, true, true, false], bo_40_8, 0), (22, false, [true, true, true, true, false], bo_40_22, 0), (49, false, [true, true, true, false, true], bo_40_49, 0), (82, false, [true, true, true, false, true], bo_40_82, 0), (98, false, [false, false, false, false, false], bo_40_98, 0)]
theorem ck_40 : z_chks 40 bk_40 [[117], [122, 518], [120, 106, 123, 124, 125, 127, 127, 126, 125, 126, 127], [125, 127, 127, 126, 125, 126, 127], [125, 126, 127], []] = true := z_chks_cons cb_40_0 (z_chks_cons cb_40_8 (z_chks_cons cb_40_22 (z_chks_cons cb_40_49 (z_chks_cons cb_40_82 (z_chks_cons cb_40_98 (z_chks_nil))))))
theorem bf_40_0 : z_fd bk_40 0 = some (false, [true, true, true, true, false], bo_40_0, 0) := rfl
theorem bf_40_8 : z_fd bk_40 8 = some (false, [true, true, true, true, false], bo_40_8, 0) := rfl
theorem bf_40_22 : z_fd bk_40 22 = some (false, [true, true, true, true, false], bo_40_22, 0) := rfl
theorem bf_40_49 : z_fd bk_40 49 = some (false, [true, true, true, false, true], bo_40_49, 0) := rfl
theorem bf_40_82 : z_fd bk_40 82 = some (false, [true, true, true, false, true], bo_40_82, 0) := rfl
theorem bf_40_98 : z_fd bk_40 98 = some (false, [false, false, false, false, false], bo_40_98, 0) := rfl
theorem cl_40 : z_mL 40 = 5 := by decide +kernel
theorem cz_40 : plainFor (z_my 40) = true ∧ ((z_rm 40).cells = 0 ∧ (z_rm 40).slots = 0) := by decide +kernel
-- 41 Node_choose
def bo_41_0 : List ZO := [(.aload_n 0, 0, 0, 0), (.getfield 55, 3, 13, 2), (.ifnonnull 10, 14, 0, 0), (.aload_n 0, 0, 0, 0), (.invokevirtual 24, 35, 1, 4), (.goto 22, 33, 0, 0)]
theorem cb_41_0 : z_chk 41 bo_41_0 0 0 [123, 355] = true := by decide +kernel
def bo_41_14 : List ZO := [(.aload_n 0, 0, 0, 0), (.aload_n 0, 0, 0, 0), (.getfield 66, 3, 14, 0), (.putfield 36, 3, 5, 0), (.aload_n 0, 0, 0, 0), (.aload_n 0, 0, 0, 0), (.getfield 55, 3, 13, 2), (.getfield 46, 3, 10, 0), (.putfield 39, 3, 6, 0), (.aload_n 0, 0, 0, 0), (.getfield 59, 3, 15, 2), (.ifnull 52, 89, 0, 0), (.aload_n 0, 0, 0, 0), (.getfield 33, 3, 4, 0), (.bipush (-9), 9, 0, 1), (.if_icmp .eq 16, 62, 0, 0), (.aload_n 0, 0, 0, 0), (.getfield 36, 3, 5, 0), (.aload_n 0, 0, 0, 0), (.getfield 69, 3, 17, 0), (.iload_n 1, 1, 0, 0), (.iadd, 0, 0, 0), (.if_icmp .le 30, 89, 0, 0), (.aload_n 0, 0, 0, 0), (.aload_n 0, 0, 0, 0), (.getfield 72, 3, 16, 0), (.putfield 33, 3, 4, 0), (.aload_n 0, 0, 0, 0), (.aload_n 0, 0, 0, 0), (.getfield 69, 3, 17, 0), (.putfield 36, 3, 5, 0), (.aload_n 0, 0, 0, 0), (.aload_n 0, 0, 0, 0), (.getfield 59, 3, 15, 2), (.getfield 46, 3, 10, 0), (.putfield 39, 3, 6, 0), (.aload_n 0, 0, 0, 0), (.getfield 33, 3, 4, 0), (.bipush (-9), 9, 0, 1), (.if_icmp .eq 7, 102, 0, 0), (.aload_n 0, 0, 0, 0), (.invokevirtual 75, 42, 1, 4), (.return_, 0, 0, 0)]
theorem cb_41_14 : z_chk 41 bo_41_14 14 0 [124, 109, 123, 119, 111, 125, 106, 109, 127, 126, 106, 127, 109, 125, 119, 111, 106, 527] = true := by decide +kernel
def bo_41_33 : List ZO := [(.aload_n 0, 0, 0, 0), (.getfield 59, 3, 15, 2), (.ifnull 52, 89, 0, 0), (.aload_n 0, 0, 0, 0), (.getfield 33, 3, 4, 0), (.bipush (-9), 9, 0, 1), (.if_icmp .eq 16, 62, 0, 0), (.aload_n 0, 0, 0, 0), (.getfield 36, 3, 5, 0), (.aload_n 0, 0, 0, 0), (.getfield 69, 3, 17, 0), (.iload_n 1, 1, 0, 0), (.iadd, 0, 0, 0), (.if_icmp .le 30, 89, 0, 0), (.aload_n 0, 0, 0, 0), (.aload_n 0, 0, 0, 0), (.getfield 72, 3, 16, 0), (.putfield 33, 3, 4, 0), (.aload_n 0, 0, 0, 0), (.aload_n 0, 0, 0, 0), (.getfield 69, 3, 17, 0), (.putfield 36, 3, 5, 0), (.aload_n 0, 0, 0, 0), (.aload_n 0, 0, 0, 0), (.getfield 59, 3, 15, 2), (.getfield 46, 3, 10, 0), (.putfield 39, 3, 6, 0), (.aload_n 0, 0, 0, 0), (.getfield 33, 3, 4, 0), (.bipush (-9), 9, 0, 1), (.if_icmp .eq 7, 102, 0, 0), (.aload_n 0, 0, 0, 0), (.invokevirtual 75, 42, 1, 4), (.return_, 0, 0, 0)]
theorem cb_41_33 : z_chk 41 bo_41_33 33 0 [125, 106, 109, 127, 126, 106, 127, 109, 125, 119, 111, 106, 527] = true := by decide +kernel
def bo_41_62 : List ZO := [(.aload_n 0, 0, 0, 0), (.aload_n 0, 0, 0, 0), (.getfield 72, 3, 16, 0), (.putfield 33, 3, 4, 0), (.aload_n 0, 0, 0, 0), (.aload_n 0, 0, 0, 0), (.getfield 69, 3, 17, 0), (.putfield 36, 3, 5, 0), (.aload_n 0, 0, 0, 0), (.aload_n 0, 0, 0, 0), (.getfield 59, 3, 15, 2), (.getfield 46, 3, 10, 0), (.putfield 39, 3, 6, 0), (.aload_n 0, 0, 0, 0), (.getfield 33, 3, 4, 0), (.bipush (-9), 9, 0, 1), (.if_icmp .eq 7, 102, 0, 0), (.aload_n 0, 0, 0, 0), (.invokevirtual 75, 42, 1, 4), (.return_, 0, 0, 0)]
theorem cb_41_62 : z_chk 41 bo_41_62 62 0 [126, 106, 127, 109, 125, 119, 111, 106, 527] = true := by decide +kernel
def bo_41_89 : List ZO := [(.aload_n 0, 0, 0, 0), (.getfield 33, 3, 4, 0), (.bipush (-9), 9, 0, 1), (.if_icmp .eq 7, 102, 0, 0), (.aload_n 0, 0, 0, 0), (.invokevirtual 75, 42, 1, 4), (.return_, 0, 0, 0)]
theorem cb_41_89 : z_chk 41 bo_41_89 89 0 [106, 527] = true := by decide +kernel
def bo_41_102 : List ZO := [(.return_, 0, 0, 0)]
theorem cb_41_102 : z_chk 41 bo_41_102 102 0 [] = true := by decide +kernel
def bk_41 : List (Nat × ZE) := [(0, false, [true, true], bo_41_0, 0), (14, false, [true, true], bo_41_14, 0), (33, false, [true, true], bo_41_33, 0), (62, false, [true, false], bo_41_62, 0), (89, false, [true, false], bo_41_89, 0), (102, false, [false, false], bo_41_102, 0)]
theorem ck_41 : z_chks 41 bk_41 [[123, 355], [124, 109, 123, 119, 111, 125, 106, 109, 127, 126, 106, 127, 109, 125, 119, 111, 106, 527], [125, 106, 109, 127, 126, 106, 127, 109, 125, 119, 111, 106, 527], [126, 106, 127, 109, 125, 119, 111, 106, 527], [106, 527], []] = true := z_chks_cons cb_41_0 (z_chks_cons cb_41_14 (z_chks_cons cb_41_33 (z_chks_cons cb_41_62 (z_chks_cons cb_41_89 (z_chks_cons cb_41_102 (z_chks_nil))))))
theorem bf_41_0 : z_fd bk_41 0 = some (false, [true, true], bo_41_0, 0) := rfl
theorem bf_41_14 : z_fd bk_41 14 = some (false, [true, true], bo_41_14, 0) := rfl
theorem bf_41_33 : z_fd bk_41 33 = some (false, [true, true], bo_41_33, 0) := rfl
theorem bf_41_62 : z_fd bk_41 62 = some (false, [true, false], bo_41_62, 0) := rfl
theorem bf_41_89 : z_fd bk_41 89 = some (false, [true, false], bo_41_89, 0) := rfl
theorem bf_41_102 : z_fd bk_41 102 = some (false, [false, false], bo_41_102, 0) := rfl
theorem cl_41 : z_mL 41 = 2 := by decide +kernel
theorem cz_41 : plainFor (z_my 41) = true ∧ ((z_rm 41).cells = 0 ∧ (z_rm 41).slots = 0) := by decide +kernel
-- 42 Node_tightenBound
def bo_42_0 : List ZO := [(.aload_n 0, 0, 0, 0), (.getfield 39, 3, 6, 0), (.aload_n 0, 0, 0, 0), (.getfield 27, 3, 7, 0), (.if_icmp .le 22, 30, 0, 0), (.aload_n 0, 0, 0, 0), (.aload_n 0, 0, 0, 0), (.getfield 39, 3, 6, 0), (.putfield 27, 3, 7, 0), (.aload_n 0, 0, 0, 0), (.aload_n 0, 0, 0, 0), (.getfield 36, 3, 5, 0), (.putfield 30, 3, 8, 0), (.goto 22, 49, 0, 0)]
def bo_42_30 : List ZO := [(.aload_n 0, 0, 0, 0), (.getfield 36, 3, 5, 0), (.aload_n 0, 0, 0, 0), (.getfield 30, 3, 8, 0), (.if_icmp .ge 11, 49, 0, 0), (.aload_n 0, 0, 0, 0), (.aload_n 0, 0, 0, 0), (.getfield 36, 3, 5, 0), (.putfield 30, 3, 8, 0), (.return_, 0, 0, 0)]
def bo_42_49 : List ZO := [(.return_, 0, 0, 0)]
def bk_42 : List (Nat × ZE) := [(0, false, [true], bo_42_0, 0), (30, false, [true], bo_42_30, 0), (49, false, [false], bo_42_49, 0)]
theorem ck_42 : z_chks 42 bk_42 [[111, 113, 111, 113, 109, 115], [109, 115, 109, 115], []] = true := by decide +kernel
theorem bf_42_0 : z_fd bk_42 0 = some (false, [true], bo_42_0, 0) := rfl
theorem bf_42_30 : z_fd bk_42 30 = some (false, [true], bo_42_30, 0) := rfl
theorem bf_42_49 : z_fd bk_42 49 = some (false, [false], bo_42_49, 0) := rfl
theorem cl_42 : z_mL 42 = 1 := by decide +kernel
theorem cz_42 : plainFor (z_my 42) = true ∧ ((z_rm 42).cells = 0 ∧ (z_rm 42).slots = 0) := by decide +kernel
-- 43 Node_asks
def bo_43_0 : List ZO := [(.aload_n 0, 0, 0, 0), (.getfield 33, 3, 4, 0), (.bipush (-9), 9, 0, 1), (.if_icmp .ne 14, 20, 0, 0), (.aload_n 0, 0, 0, 0), (.getfield 52, 3, 12, 3), (.ifCond .eq 7, 20, 0, 0), (.iconst 1, 1, 0, 0), (.goto 4, 21, 0, 0)]
def bo_43_20 : List ZO := [(.iconst 0, 0, 0, 0), (.ireturn, 1, 0, 0)]
def bo_43_21 : List ZO := [(.ireturn, 1, 0, 0)]
def bk_43 : List (Nat × ZE) := [(0, false, [true], bo_43_0, 0), (20, false, [false], bo_43_20, 0), (21, false, [false], bo_43_21, 0)]
theorem ck_43 : z_chks 43 bk_43 [[106, 122], [], []] = true := by decide +kernel
theorem bf_43_0 : z_fd bk_43 0 = some (false, [true], bo_43_0, 0) := rfl
theorem bf_43_20 : z_fd bk_43 20 = some (false, [false], bo_43_20, 0) := rfl
theorem bf_43_21 : z_fd bk_43 21 = some (false, [false], bo_43_21, 0) := rfl
theorem cl_43 : z_mL 43 = 1 := by decide +kernel
theorem cz_43 : plainFor (z_my 43) = true ∧ ((z_rm 43).cells = 0 ∧ (z_rm 43).slots = 0) := by decide +kernel
-- 44 Observations_init
def bo_44_0 : List ZO := [(.aload_n 0, 0, 0, 0), (.invokespecial 3, 0, 1, 99), (.aload_n 0, 0, 0, 0), (.bipush 6, 6, 0, 0), (.newarray .int, 0, 0, 0), (.putfield 9, 4, 0, 2), (.aload_n 0, 0, 0, 0), (.bipush 6, 6, 0, 0), (.newarray .int, 0, 0, 0), (.putfield 15, 4, 1, 2), (.aload_n 0, 0, 0, 0), (.bipush 6, 6, 0, 0), (.newarray .boolean, 0, 0, 0), (.putfield 18, 4, 2, 2), (.return_, 0, 0, 0)]
def bk_44 : List (Nat × ZE) := [(0, false, [true], bo_44_0, 0)]
theorem ck_44 : z_chks 44 bk_44 [[263, 264, 265, 266]] = true := by decide +kernel
theorem bf_44_0 : z_fd bk_44 0 = some (false, [true], bo_44_0, 0) := rfl
theorem cl_44 : z_mL 44 = 1 := by decide +kernel
theorem cz_44 : plainFor (z_my 44) = true ∧ ((z_rm 44).cells = 3 ∧ (z_rm 44).slots = 18) := by decide +kernel
-- 45 Observations_add
def bo_45_0 : List ZO := [(.aload_n 0, 0, 0, 0), (.getfield 22, 4, 3, 0), (.bipush 6, 6, 0, 0), (.if_icmp .ge 43, 49, 0, 0), (.aload_n 0, 0, 0, 0), (.getfield 9, 4, 0, 2), (.aload_n 0, 0, 0, 0), (.getfield 22, 4, 3, 0), (.iload_n 1, 1, 0, 0), (.iastore, 0, 0, 0), (.aload_n 0, 0, 0, 0), (.getfield 15, 4, 1, 2), (.aload_n 0, 0, 0, 0), (.getfield 22, 4, 3, 0), (.iload_n 2, 2, 0, 0), (.iastore, 0, 0, 0), (.aload_n 0, 0, 0, 0), (.getfield 18, 4, 2, 2), (.aload_n 0, 0, 0, 0), (.getfield 22, 4, 3, 0), (.iload_n 3, 3, 0, 0), (.bastore, 0, 0, 0), (.aload_n 0, 0, 0, 0), (.dup, 0, 0, 0), (.getfield 22, 4, 3, 0), (.iconst 1, 1, 0, 0), (.iadd, 0, 0, 0), (.putfield 22, 4, 3, 0), (.return_, 0, 0, 0)]
def bo_45_49 : List ZO := [(.return_, 0, 0, 0)]
def bk_45 : List (Nat × ZE) := [(0, false, [true, true, true, true], bo_45_0, 0), (49, false, [false, false, false, false], bo_45_49, 0)]
theorem ck_45 : z_chks 45 bk_45 [[267, 264, 267, 265, 267, 266, 267, 267, 267], []] = true := by decide +kernel
theorem bf_45_0 : z_fd bk_45 0 = some (false, [true, true, true, true], bo_45_0, 0) := rfl
theorem bf_45_49 : z_fd bk_45 49 = some (false, [false, false, false, false], bo_45_49, 0) := rfl
theorem cl_45 : z_mL 45 = 4 := by decide +kernel
theorem cz_45 : plainFor (z_my 45) = true ∧ ((z_rm 45).cells = 0 ∧ (z_rm 45).slots = 0) := by decide +kernel
-- 46 Observations_agreeAfter
def bo_46_0 : List ZO := [(.iconst 0, 0, 0, 0), (.istore_n 3, 3, 0, 0)]
def bo_46_2 : List ZO := [(.iload_n 3, 3, 0, 0), (.aload_n 0, 0, 0, 0), (.getfield 22, 4, 3, 0), (.if_icmp .ge 48, 55, 0, 0), (.aload_n 0, 0, 0, 0), (.getfield 15, 4, 1, 2), (.iload_n 3, 3, 0, 0), (.iaload, 0, 0, 0), (.iload_n 1, 1, 0, 0), (.if_icmp .ne 32, 49, 0, 0), (.aload_n 0, 0, 0, 0), (.getfield 18, 4, 2, 2), (.iload_n 3, 3, 0, 0), (.baload, 0, 0, 0), (.iload_n 2, 2, 0, 0), (.iconst 1, 1, 0, 0), (.aload_n 0, 0, 0, 0), (.getfield 9, 4, 0, 2), (.iload_n 3, 3, 0, 0), (.iaload, 0, 0, 0), (.ishl, 0, 0, 0), (.iand, 0, 0, 0), (.ifCond .eq 7, 43, 0, 0), (.iconst 1, 1, 0, 0), (.goto 4, 44, 0, 0)]
def bo_46_43 : List ZO := [(.iconst 0, 0, 0, 0), (.if_icmp .eq 5, 49, 0, 0), (.iconst 0, 0, 0, 0), (.ireturn, 1, 0, 0)]
def bo_46_44 : List ZO := [(.if_icmp .eq 5, 49, 0, 0), (.iconst 0, 0, 0, 0), (.ireturn, 1, 0, 0)]
def bo_46_49 : List ZO := [(.iinc 3 1, 1, 3, 0), (.goto (-50), 2, 0, 0)]
def bo_46_55 : List ZO := [(.iconst 1, 1, 0, 0), (.ireturn, 1, 0, 0)]
def bk_46 : List (Nat × ZE) := [(0, false, [true, true, true, false], bo_46_0, 2), (2, true, [true, true, true, true], bo_46_2, 0), (43, false, [true, true, true, true], bo_46_43, 0), (44, false, [true, true, true, true], bo_46_44, 0), (49, false, [true, true, true, true], bo_46_49, 0), (55, false, [false, false, false, false], bo_46_55, 0)]
theorem ck_46 : z_chks 46 bk_46 [[], [267, 265, 266, 264], [], [], [], []] = true := by decide +kernel
theorem bf_46_0 : z_fd bk_46 0 = some (false, [true, true, true, false], bo_46_0, 2) := rfl
theorem bf_46_2 : z_fd bk_46 2 = some (true, [true, true, true, true], bo_46_2, 0) := rfl
theorem bf_46_43 : z_fd bk_46 43 = some (false, [true, true, true, true], bo_46_43, 0) := rfl
theorem bf_46_44 : z_fd bk_46 44 = some (false, [true, true, true, true], bo_46_44, 0) := rfl
theorem bf_46_49 : z_fd bk_46 49 = some (false, [true, true, true, true], bo_46_49, 0) := rfl
theorem bf_46_55 : z_fd bk_46 55 = some (false, [false, false, false, false], bo_46_55, 0) := rfl
theorem cl_46 : z_mL 46 = 4 := by decide +kernel
theorem cz_46 : plainFor (z_my 46) = true ∧ ((z_rm 46).cells = 0 ∧ (z_rm 46).slots = 0) := by decide +kernel
-- 47 Text_init
def bo_47_0 : List ZO := [(.aload_n 0, 0, 0, 0), (.invokespecial 3, 0, 1, 99), (.aload_n 0, 0, 0, 0), (.bipush 100, 100, 0, 0), (.newarray .int, 0, 0, 0), (.putfield 9, 5, 0, 2), (.return_, 0, 0, 0)]
def bk_47 : List (Nat × ZE) := [(0, false, [true], bo_47_0, 0)]
theorem ck_47 : z_chks 47 bk_47 [[68, 69]] = true := by decide +kernel
theorem bf_47_0 : z_fd bk_47 0 = some (false, [true], bo_47_0, 0) := rfl
theorem cl_47 : z_mL 47 = 1 := by decide +kernel
theorem cz_47 : plainFor (z_my 47) = true ∧ ((z_rm 47).cells = 1 ∧ (z_rm 47).slots = 100) := by decide +kernel
-- 48 Text_append
def bo_48_0 : List ZO := [(.aload_n 0, 0, 0, 0), (.getfield 15, 5, 1, 0), (.bipush 100, 100, 0, 0), (.if_icmp .ge 23, 29, 0, 0), (.aload_n 0, 0, 0, 0), (.getfield 9, 5, 0, 2), (.aload_n 0, 0, 0, 0), (.getfield 15, 5, 1, 0), (.iload_n 1, 1, 0, 0), (.iastore, 0, 0, 0), (.aload_n 0, 0, 0, 0), (.dup, 0, 0, 0), (.getfield 15, 5, 1, 0), (.iconst 1, 1, 0, 0), (.iadd, 0, 0, 0), (.putfield 15, 5, 1, 0), (.return_, 0, 0, 0)]
def bo_48_29 : List ZO := [(.return_, 0, 0, 0)]
def bk_48 : List (Nat × ZE) := [(0, false, [true, true], bo_48_0, 0), (29, false, [false, false], bo_48_29, 0)]
theorem ck_48 : z_chks 48 bk_48 [[70, 69, 70, 70, 70], []] = true := by decide +kernel
theorem bf_48_0 : z_fd bk_48 0 = some (false, [true, true], bo_48_0, 0) := rfl
theorem bf_48_29 : z_fd bk_48 29 = some (false, [false, false], bo_48_29, 0) := rfl
theorem cl_48 : z_mL 48 = 2 := by decide +kernel
theorem cz_48 : plainFor (z_my 48) = true ∧ ((z_rm 48).cells = 0 ∧ (z_rm 48).slots = 0) := by decide +kernel
-- 49 Text_readInto
def bo_49_0 : List ZO := [(.aload_n 0, 0, 0, 0), (.iconst 0, 0, 0, 0), (.putfield 19, 5, 2, 0), (.aload_n 1, 1, 0, 0), (.iconst 0, 0, 0, 0), (.invokevirtual 22, 12, 2, 3), (.aload_n 0, 0, 0, 0), (.invokevirtual 28, 55, 1, 6), (.bipush 77, 77, 0, 0), (.if_icmp .eq 8, 24, 0, 0), (.aload_n 0, 0, 0, 0), (.getfield 19, 5, 2, 0), (.ireturn, 0, 0, 0)]
def bo_49_24 : List ZO := [(.aload_n 0, 0, 0, 0), (.dup, 0, 0, 0), (.getfield 19, 5, 2, 0), (.iconst 1, 1, 0, 0), (.iadd, 0, 0, 0), (.putfield 19, 5, 2, 0), (.aload_n 0, 0, 0, 0), (.iconst 0, 0, 0, 0), (.bipush 9, 9, 0, 0), (.invokevirtual 32, 57, 3, 6), (.istore_n 2, 2, 0, 0), (.iload_n 2, 2, 0, 0), (.ifCond .ge 8, 51, 0, 0), (.aload_n 0, 0, 0, 0), (.getfield 19, 5, 2, 0), (.ireturn, 0, 0, 0)]
def bo_49_51 : List ZO := [(.aload_n 1, 1, 0, 0), (.iload_n 2, 2, 0, 0), (.invokevirtual 22, 12, 2, 3), (.iconst 0, 0, 0, 0), (.istore_n 3, 3, 0, 0)]
def bo_49_58 : List ZO := [(.iload_n 3, 3, 0, 0), (.bipush 100, 100, 0, 0), (.if_icmp .ge 33, 94, 0, 0), (.aload_n 0, 0, 0, 0), (.getfield 19, 5, 2, 0), (.aload_n 0, 0, 0, 0), (.getfield 15, 5, 1, 0), (.if_icmp .ge 22, 94, 0, 0), (.aload_n 0, 0, 0, 0), (.aload_n 1, 1, 0, 0), (.invokevirtual 36, 50, 2, 6), (.ifCond .ne 8, 88, 0, 0), (.aload_n 0, 0, 0, 0), (.getfield 19, 5, 2, 0), (.ireturn, 0, 0, 0)]
def bo_49_88 : List ZO := [(.iinc 3 1, 1, 3, 0), (.goto (-33), 58, 0, 0)]
def bo_49_94 : List ZO := [(.bipush (-9), 9, 0, 1), (.ireturn, 0, 0, 0)]
def bk_49 : List (Nat × ZE) := [(0, false, [true, true, false, false], bo_49_0, 0), (24, false, [true, true, false, false], bo_49_24, 0), (51, false, [true, true, true, false], bo_49_51, 58), (58, true, [true, true, false, true], bo_49_58, 0), (88, false, [true, true, false, true], bo_49_88, 0), (94, false, [false, false, false, false], bo_49_94, 0)]
theorem ck_49 : z_chks 49 bk_49 [[72, 327, 331, 72], [72, 72, 335, 72], [327], [72, 70, 343, 72], [], []] = true := by decide +kernel
theorem bf_49_0 : z_fd bk_49 0 = some (false, [true, true, false, false], bo_49_0, 0) := rfl
theorem bf_49_24 : z_fd bk_49 24 = some (false, [true, true, false, false], bo_49_24, 0) := rfl
theorem bf_49_51 : z_fd bk_49 51 = some (false, [true, true, true, false], bo_49_51, 58) := rfl
theorem bf_49_58 : z_fd bk_49 58 = some (true, [true, true, false, true], bo_49_58, 0) := rfl
theorem bf_49_88 : z_fd bk_49 88 = some (false, [true, true, false, true], bo_49_88, 0) := rfl
theorem bf_49_94 : z_fd bk_49 94 = some (false, [false, false, false, false], bo_49_94, 0) := rfl
theorem cl_49 : z_mL 49 = 4 := by decide +kernel
theorem cz_49 : plainFor (z_my 49) = true ∧ ((z_rm 49).cells = 0 ∧ (z_rm 49).slots = 0) := by decide +kernel
-- 50 Text_readPart
def bo_50_0 : List ZO := [(.aload_n 0, 0, 0, 0), (.invokevirtual 28, 55, 1, 6), (.lookupswitch 68 #[(103, 44), (107, 62), (108, 56), (114, 50)], 4, 0, 0)]
def bo_50_48 : List ZO := [(.aload_n 0, 0, 0, 0), (.aload_n 1, 1, 0, 0), (.invokevirtual 40, 51, 2, 6), (.ireturn, 1, 0, 0)]
def bo_50_54 : List ZO := [(.aload_n 0, 0, 0, 0), (.aload_n 1, 1, 0, 0), (.invokevirtual 43, 52, 2, 6), (.ireturn, 1, 0, 0)]
def bo_50_60 : List ZO := [(.aload_n 0, 0, 0, 0), (.aload_n 1, 1, 0, 0), (.invokevirtual 46, 53, 2, 6), (.ireturn, 1, 0, 0)]
def bo_50_66 : List ZO := [(.aload_n 0, 0, 0, 0), (.aload_n 1, 1, 0, 0), (.invokevirtual 49, 54, 2, 6), (.ireturn, 1, 0, 0)]
def bo_50_72 : List ZO := [(.iconst 0, 0, 0, 0), (.ireturn, 1, 0, 0)]
def bk_50 : List (Nat × ZE) := [(0, false, [true, true], bo_50_0, 0), (48, false, [true, true], bo_50_48, 0), (54, false, [true, true], bo_50_54, 0), (60, false, [true, true], bo_50_60, 0), (66, false, [true, true], bo_50_66, 0), (72, false, [false, false], bo_50_72, 0)]
theorem ck_50 : z_chks 50 bk_50 [[331], [347], [359], [363], [367], []] = true := by decide +kernel
theorem bf_50_0 : z_fd bk_50 0 = some (false, [true, true], bo_50_0, 0) := rfl
theorem bf_50_48 : z_fd bk_50 48 = some (false, [true, true], bo_50_48, 0) := rfl
theorem bf_50_54 : z_fd bk_50 54 = some (false, [true, true], bo_50_54, 0) := rfl
theorem bf_50_60 : z_fd bk_50 60 = some (false, [true, true], bo_50_60, 0) := rfl
theorem bf_50_66 : z_fd bk_50 66 = some (false, [true, true], bo_50_66, 0) := rfl
theorem bf_50_72 : z_fd bk_50 72 = some (false, [false, false], bo_50_72, 0) := rfl
theorem cl_50 : z_mL 50 = 2 := by decide +kernel
theorem cz_50 : plainFor (z_my 50) = true ∧ ((z_rm 50).cells = 0 ∧ (z_rm 50).slots = 0) := by decide +kernel
-- 51 Text_readGateway
def bo_51_0 : List ZO := [(.aload_n 1, 1, 0, 0), (.getfield 52, 2, 2, 0), (.bipush 8, 8, 0, 0), (.if_icmp .lt 5, 11, 0, 0), (.iconst 0, 0, 0, 0), (.ireturn, 1, 0, 0)]
def bo_51_11 : List ZO := [(.aload_n 0, 0, 0, 0), (.dup, 0, 0, 0), (.getfield 19, 5, 2, 0), (.iconst 1, 1, 0, 0), (.iadd, 0, 0, 0), (.putfield 19, 5, 2, 0), (.aload_n 0, 0, 0, 0), (.iconst 0, 0, 0, 0), (.bipush 9, 9, 0, 0), (.invokevirtual 32, 57, 3, 6), (.istore_n 2, 2, 0, 0), (.iload_n 2, 2, 0, 0), (.ifCond .ge 5, 35, 0, 0), (.iconst 0, 0, 0, 0), (.ireturn, 1, 0, 0)]
def bo_51_35 : List ZO := [(.aload_n 1, 1, 0, 0), (.getfield 55, 2, 0, 2), (.aload_n 1, 1, 0, 0), (.dup, 0, 0, 0), (.getfield 52, 2, 2, 0), (.dup_x1, 0, 0, 0), (.iconst 1, 1, 0, 0), (.iadd, 0, 0, 0), (.putfield 52, 2, 2, 0), (.aaload, 0, 0, 0), (.astore_n 3, 3, 0, 0), (.aload_n 3, 3, 0, 0), (.iconst 0, 0, 0, 0), (.invokevirtual 59, 33, 2, 4), (.aload_n 3, 3, 0, 0), (.iload_n 2, 2, 0, 0), (.putfield 62, 3, 1, 0), (.iconst 1, 1, 0, 0), (.ireturn, 1, 0, 0)]
def bk_51 : List (Nat × ZE) := [(0, false, [true, true, false, false], bo_51_0, 0), (11, false, [true, true, false, false], bo_51_11, 0), (35, false, [false, true, true, false], bo_51_35, 0)]
theorem ck_51 : z_chks 51 bk_51 [[212], [72, 72, 335], [206, 212, 212, 351, 97]] = true := by decide +kernel
theorem bf_51_0 : z_fd bk_51 0 = some (false, [true, true, false, false], bo_51_0, 0) := rfl
theorem bf_51_11 : z_fd bk_51 11 = some (false, [true, true, false, false], bo_51_11, 0) := rfl
theorem bf_51_35 : z_fd bk_51 35 = some (false, [false, true, true, false], bo_51_35, 0) := rfl
theorem cl_51 : z_mL 51 = 4 := by decide +kernel
theorem cz_51 : plainFor (z_my 51) = true ∧ ((z_rm 51).cells = 0 ∧ (z_rm 51).slots = 0) := by decide +kernel
-- 52 Text_readRouter
def bo_52_0 : List ZO := [(.aload_n 1, 1, 0, 0), (.getfield 52, 2, 2, 0), (.bipush 8, 8, 0, 0), (.if_icmp .lt 5, 11, 0, 0), (.iconst 0, 0, 0, 0), (.ireturn, 1, 0, 0)]
def bo_52_11 : List ZO := [(.aload_n 0, 0, 0, 0), (.dup, 0, 0, 0), (.getfield 19, 5, 2, 0), (.iconst 1, 1, 0, 0), (.iadd, 0, 0, 0), (.putfield 19, 5, 2, 0), (.aload_n 1, 1, 0, 0), (.getfield 55, 2, 0, 2), (.aload_n 1, 1, 0, 0), (.dup, 0, 0, 0), (.getfield 52, 2, 2, 0), (.dup_x1, 0, 0, 0), (.iconst 1, 1, 0, 0), (.iadd, 0, 0, 0), (.putfield 52, 2, 2, 0), (.aaload, 0, 0, 0), (.iconst 1, 1, 0, 0), (.invokevirtual 59, 33, 2, 4), (.iconst 1, 1, 0, 0), (.ireturn, 1, 0, 0)]
def bk_52 : List (Nat × ZE) := [(0, false, [true, true], bo_52_0, 0), (11, false, [true, true], bo_52_11, 0)]
theorem ck_52 : z_chks 52 bk_52 [[212], [72, 72, 206, 212, 212, 351]] = true := by decide +kernel
theorem bf_52_0 : z_fd bk_52 0 = some (false, [true, true], bo_52_0, 0) := rfl
theorem bf_52_11 : z_fd bk_52 11 = some (false, [true, true], bo_52_11, 0) := rfl
theorem cl_52 : z_mL 52 = 2 := by decide +kernel
theorem cz_52 : plainFor (z_my 52) = true ∧ ((z_rm 52).cells = 0 ∧ (z_rm 52).slots = 0) := by decide +kernel
-- 53 Text_readLeaf
def bo_53_0 : List ZO := [(.aload_n 1, 1, 0, 0), (.getfield 52, 2, 2, 0), (.bipush 8, 8, 0, 0), (.if_icmp .lt 5, 11, 0, 0), (.iconst 0, 0, 0, 0), (.ireturn, 1, 0, 0)]
def bo_53_11 : List ZO := [(.aload_n 0, 0, 0, 0), (.dup, 0, 0, 0), (.getfield 19, 5, 2, 0), (.iconst 1, 1, 0, 0), (.iadd, 0, 0, 0), (.putfield 19, 5, 2, 0), (.aload_n 0, 0, 0, 0), (.iconst 1, 1, 0, 0), (.bipush 9, 9, 0, 0), (.invokevirtual 32, 57, 3, 6), (.istore_n 2, 2, 0, 0), (.iload_n 2, 2, 0, 0), (.ifCond .ge 5, 35, 0, 0), (.iconst 0, 0, 0, 0), (.ireturn, 1, 0, 0)]
def bo_53_35 : List ZO := [(.aload_n 0, 0, 0, 0), (.iconst 0, 0, 0, 0), (.iload_n 2, 2, 0, 0), (.iconst 1, 1, 0, 0), (.isub, 0, 0, 0), (.invokevirtual 32, 57, 3, 6), (.istore_n 3, 3, 0, 0), (.iload_n 3, 3, 0, 0), (.ifCond .ge 5, 50, 0, 0), (.iconst 0, 0, 0, 0), (.ireturn, 1, 0, 0)]
def bo_53_50 : List ZO := [(.aload_n 1, 1, 0, 0), (.getfield 55, 2, 0, 2), (.aload_n 1, 1, 0, 0), (.dup, 0, 0, 0), (.getfield 52, 2, 2, 0), (.dup_x1, 0, 0, 0), (.iconst 1, 1, 0, 0), (.iadd, 0, 0, 0), (.putfield 52, 2, 2, 0), (.aaload, 0, 0, 0), (.astore 4, 4, 0, 0), (.aload 4, 4, 0, 0), (.iconst 2, 2, 0, 0), (.invokevirtual 59, 33, 2, 4), (.aload 4, 4, 0, 0), (.iload_n 2, 2, 0, 0), (.putfield 65, 3, 2, 0), (.aload 4, 4, 0, 0), (.iload_n 3, 3, 0, 0), (.putfield 68, 3, 3, 0), (.iconst 1, 1, 0, 0), (.ireturn, 1, 0, 0)]
def bk_53 : List (Nat × ZE) := [(0, false, [true, true, false, false, false], bo_53_0, 0), (11, false, [true, true, false, false, false], bo_53_11, 0), (35, false, [true, true, true, false, false], bo_53_35, 0), (50, false, [false, true, true, true, false], bo_53_50, 0)]
theorem ck_53 : z_chks 53 bk_53 [[212], [72, 72, 335], [335], [206, 212, 212, 351, 101, 104]] = true := by decide +kernel
theorem bf_53_0 : z_fd bk_53 0 = some (false, [true, true, false, false, false], bo_53_0, 0) := rfl
theorem bf_53_11 : z_fd bk_53 11 = some (false, [true, true, false, false, false], bo_53_11, 0) := rfl
theorem bf_53_35 : z_fd bk_53 35 = some (false, [true, true, true, false, false], bo_53_35, 0) := rfl
theorem bf_53_50 : z_fd bk_53 50 = some (false, [false, true, true, true, false], bo_53_50, 0) := rfl
theorem cl_53 : z_mL 53 = 5 := by decide +kernel
theorem cz_53 : plainFor (z_my 53) = true ∧ ((z_rm 53).cells = 0 ∧ (z_rm 53).slots = 0) := by decide +kernel
-- 54 Text_readLink
def bo_54_0 : List ZO := [(.aload_n 1, 1, 0, 0), (.getfield 52, 2, 2, 0), (.aload_n 1, 1, 0, 0), (.getfield 52, 2, 2, 0), (.iconst 1, 1, 0, 0), (.isub, 0, 0, 0), (.imul, 0, 0, 0), (.iconst 2, 2, 0, 0), (.idiv, 0, 0, 0), (.istore_n 2, 2, 0, 0), (.aload_n 1, 1, 0, 0), (.getfield 71, 2, 3, 0), (.bipush 9, 9, 0, 0), (.if_icmp .ge 11, 31, 0, 0), (.aload_n 1, 1, 0, 0), (.getfield 71, 2, 3, 0), (.iload_n 2, 2, 0, 0), (.if_icmp .lt 5, 33, 0, 0), (.iconst 0, 0, 0, 0), (.ireturn, 1, 0, 0)]
theorem cb_54_0 : z_chk 54 bo_54_0 0 0 [212, 212, 216, 216] = true := by decide +kernel
def bo_54_31 : List ZO := [(.iconst 0, 0, 0, 0), (.ireturn, 1, 0, 0)]
theorem cb_54_31 : z_chk 54 bo_54_31 31 0 [] = true := by decide +kernel
def bo_54_33 : List ZO := [(.aload_n 0, 0, 0, 0), (.dup, 0, 0, 0), (.getfield 19, 5, 2, 0), (.iconst 1, 1, 0, 0), (.iadd, 0, 0, 0), (.putfield 19, 5, 2, 0), (.aload_n 0, 0, 0, 0), (.iconst 0, 0, 0, 0), (.aload_n 1, 1, 0, 0), (.getfield 52, 2, 2, 0), (.iconst 1, 1, 0, 0), (.isub, 0, 0, 0), (.invokevirtual 74, 56, 3, 6), (.istore_n 3, 3, 0, 0), (.iload_n 3, 3, 0, 0), (.ifCond .lt 17, 73, 0, 0), (.aload_n 1, 1, 0, 0), (.iload_n 3, 3, 0, 0), (.invokevirtual 77, 19, 2, 3), (.aload_n 1, 1, 0, 0), (.getfield 52, 2, 2, 0), (.iconst 1, 1, 0, 0), (.isub, 0, 0, 0), (.if_icmp .lt 5, 75, 0, 0), (.iconst 0, 0, 0, 0), (.ireturn, 1, 0, 0)]
theorem cb_54_33 : z_chk 54 bo_54_33 33 0 [72, 72, 212, 339, 371, 212] = true := by decide +kernel
def bo_54_73 : List ZO := [(.iconst 0, 0, 0, 0), (.ireturn, 1, 0, 0)]
theorem cb_54_73 : z_chk 54 bo_54_73 73 0 [] = true := by decide +kernel
def bo_54_75 : List ZO := [(.aload_n 0, 0, 0, 0), (.dup, 0, 0, 0), (.getfield 19, 5, 2, 0), (.iconst 1, 1, 0, 0), (.iadd, 0, 0, 0), (.putfield 19, 5, 2, 0), (.aload_n 0, 0, 0, 0), (.iconst 0, 0, 0, 0), (.aload_n 1, 1, 0, 0), (.getfield 52, 2, 2, 0), (.iconst 1, 1, 0, 0), (.isub, 0, 0, 0), (.invokevirtual 74, 56, 3, 6), (.istore 4, 4, 0, 0), (.iload 4, 4, 0, 0), (.ifCond .lt 19, 119, 0, 0), (.iload 4, 4, 0, 0), (.iload_n 3, 3, 0, 0), (.if_icmp .eq 13, 119, 0, 0), (.aload_n 1, 1, 0, 0), (.iload_n 3, 3, 0, 0), (.iload 4, 4, 0, 0), (.invokevirtual 81, 20, 3, 3), (.ifCond .lt 5, 121, 0, 0), (.iconst 0, 0, 0, 0), (.ireturn, 1, 0, 0)]
theorem cb_54_75 : z_chk 54 bo_54_75 75 0 [72, 72, 212, 339, 375] = true := by decide +kernel
def bo_54_119 : List ZO := [(.iconst 0, 0, 0, 0), (.ireturn, 1, 0, 0)]
theorem cb_54_119 : z_chk 54 bo_54_119 119 0 [] = true := by decide +kernel
def bo_54_121 : List ZO := [(.aload_n 0, 0, 0, 0), (.dup, 0, 0, 0), (.getfield 19, 5, 2, 0), (.iconst 1, 1, 0, 0), (.iadd, 0, 0, 0), (.putfield 19, 5, 2, 0), (.aload_n 0, 0, 0, 0), (.iconst 0, 0, 0, 0), (.bipush 9, 9, 0, 0), (.invokevirtual 32, 57, 3, 6), (.istore 5, 5, 0, 0), (.iload 5, 5, 0, 0), (.ifCond .ge 7, 149, 0, 0), (.iconst (-1), 1, 0, 1), (.goto 10, 156, 0, 0)]
theorem cb_54_121 : z_chk 54 bo_54_121 121 0 [72, 72, 335] = true := by decide +kernel
def bo_54_149 : List ZO := [(.aload_n 0, 0, 0, 0), (.iconst 0, 0, 0, 0), (.bipush 9, 9, 0, 0), (.invokevirtual 32, 57, 3, 6), (.istore 6, 6, 0, 0), (.iload 6, 6, 0, 0), (.ifCond .ge 7, 167, 0, 0), (.iconst (-1), 1, 0, 1), (.goto 10, 174, 0, 0)]
theorem cb_54_149 : z_chk 54 bo_54_149 149 0 [335] = true := by decide +kernel
def bo_54_156 : List ZO := [(.istore 6, 6, 0, 0), (.iload 6, 6, 0, 0), (.ifCond .ge 7, 167, 0, 0), (.iconst (-1), 1, 0, 1), (.goto 10, 174, 0, 0)]
theorem cb_54_156 : z_chk 54 bo_54_156 156 0 [] = true := by decide +kernel
def bo_54_167 : List ZO := [(.aload_n 0, 0, 0, 0), (.iconst 1, 1, 0, 0), (.bipush 9, 9, 0, 0), (.invokevirtual 32, 57, 3, 6), (.istore 7, 7, 0, 0), (.iload 7, 7, 0, 0), (.ifCond .ge 5, 183, 0, 0), (.iconst 0, 0, 0, 0), (.ireturn, 1, 0, 0)]
theorem cb_54_167 : z_chk 54 bo_54_167 167 0 [335] = true := by decide +kernel
def bo_54_174 : List ZO := [(.istore 7, 7, 0, 0), (.iload 7, 7, 0, 0), (.ifCond .ge 5, 183, 0, 0), (.iconst 0, 0, 0, 0), (.ireturn, 1, 0, 0)]
theorem cb_54_174 : z_chk 54 bo_54_174 174 0 [] = true := by decide +kernel
def bo_54_183 : List ZO := [(.aload_n 1, 1, 0, 0), (.getfield 84, 2, 1, 2), (.aload_n 1, 1, 0, 0), (.dup, 0, 0, 0), (.getfield 71, 2, 3, 0), (.dup_x1, 0, 0, 0), (.iconst 1, 1, 0, 0), (.iadd, 0, 0, 0), (.putfield 71, 2, 3, 0), (.aaload, 0, 0, 0), (.iload_n 3, 3, 0, 0), (.iload 4, 4, 0, 0), (.iload 5, 5, 0, 0), (.iload 6, 6, 0, 0), (.iload 7, 7, 0, 0), (.invokevirtual 88, 5, 6, 2), (.iconst 1, 1, 0, 0), (.ireturn, 1, 0, 0)]
theorem cb_54_183 : z_chk 54 bo_54_183 183 0 [210, 216, 216, 383] = true := by decide +kernel
def bk_54 : List (Nat × ZE) := [(0, false, [true, true, false, false, false, false, false, false], bo_54_0, 0), (31, false, [false, false, false, false, false, false, false, false], bo_54_31, 0), (33, false, [true, true, false, false, false, false, false, false], bo_54_33, 0), (73, false, [false, false, false, false, false, false, false, false], bo_54_73, 0), (75, false, [true, true, false, true, false, false, false, false], bo_54_75, 0), (119, false, [false, false, false, false, false, false, false, false], bo_54_119, 0), (121, false, [true, true, false, true, true, false, false, false], bo_54_121, 0), (149, false, [true, true, false, true, true, true, false, false], bo_54_149, 0), (156, false, [true, true, false, true, true, true, false, false], bo_54_156, 0), (167, false, [true, true, false, true, true, true, true, false], bo_54_167, 0), (174, false, [false, true, false, true, true, true, true, false], bo_54_174, 0), (183, false, [false, true, false, true, true, true, true, true], bo_54_183, 0)]
theorem ck_54 : z_chks 54 bk_54 [[212, 212, 216, 216], [], [72, 72, 212, 339, 371, 212], [], [72, 72, 212, 339, 375], [], [72, 72, 335], [335], [], [335], [], [210, 216, 216, 383]] = true := z_chks_cons cb_54_0 (z_chks_cons cb_54_31 (z_chks_cons cb_54_33 (z_chks_cons cb_54_73 (z_chks_cons cb_54_75 (z_chks_cons cb_54_119 (z_chks_cons cb_54_121 (z_chks_cons cb_54_149 (z_chks_cons cb_54_156 (z_chks_cons cb_54_167 (z_chks_cons cb_54_174 (z_chks_cons cb_54_183 (z_chks_nil))))))))))))
theorem bf_54_0 : z_fd bk_54 0 = some (false, [true, true, false, false, false, false, false, false], bo_54_0, 0) := rfl
theorem bf_54_31 : z_fd bk_54 31 = some (false, [false, false, false, false, false, false, false, false], bo_54_31, 0) := rfl
theorem bf_54_33 : z_fd bk_54 33 = some (false, [true, true, false, false, false, false, false, false], bo_54_33, 0) := rfl
theorem bf_54_73 : z_fd bk_54 73 = some (false, [false, false, false, false, false, false, false, false], bo_54_73, 0) := rfl
theorem bf_54_75 : z_fd bk_54 75 = some (false, [true, true, false, true, false, false, false, false], bo_54_75, 0) := rfl
theorem bf_54_119 : z_fd bk_54 119 = some (false, [false, false, false, false, false, false, false, false], bo_54_119, 0) := rfl
theorem bf_54_121 : z_fd bk_54 121 = some (false, [true, true, false, true, true, false, false, false], bo_54_121, 0) := rfl
theorem bf_54_149 : z_fd bk_54 149 = some (false, [true, true, false, true, true, true, false, false], bo_54_149, 0) := rfl
theorem bf_54_156 : z_fd bk_54 156 = some (false, [true, true, false, true, true, true, false, false], bo_54_156, 0) := rfl
theorem bf_54_167 : z_fd bk_54 167 = some (false, [true, true, false, true, true, true, true, false], bo_54_167, 0) := rfl
theorem bf_54_174 : z_fd bk_54 174 = some (false, [false, true, false, true, true, true, true, false], bo_54_174, 0) := rfl
theorem bf_54_183 : z_fd bk_54 183 = some (false, [false, true, false, true, true, true, true, true], bo_54_183, 0) := rfl
theorem cl_54 : z_mL 54 = 8 := by decide +kernel
theorem cz_54 : plainFor (z_my 54) = true ∧ ((z_rm 54).cells = 0 ∧ (z_rm 54).slots = 0) := by decide +kernel
-- 55 Text_letterHere
def bo_55_0 : List ZO := [(.aload_n 0, 0, 0, 0), (.getfield 19, 5, 2, 0), (.aload_n 0, 0, 0, 0), (.getfield 15, 5, 1, 0), (.if_icmp .ge 24, 32, 0, 0), (.aload_n 0, 0, 0, 0), (.getfield 19, 5, 2, 0), (.bipush 100, 100, 0, 0), (.if_icmp .ge 15, 32, 0, 0), (.aload_n 0, 0, 0, 0), (.getfield 9, 5, 0, 2), (.aload_n 0, 0, 0, 0), (.getfield 19, 5, 2, 0), (.iaload, 0, 0, 0), (.goto 4, 33, 0, 0)]
def bo_55_32 : List ZO := [(.iconst (-1), 1, 0, 1), (.ireturn, 0, 0, 0)]
def bo_55_33 : List ZO := [(.ireturn, 0, 0, 0)]
def bk_55 : List (Nat × ZE) := [(0, false, [true], bo_55_0, 0), (32, false, [false], bo_55_32, 0), (33, false, [false], bo_55_33, 0)]
theorem ck_55 : z_chks 55 bk_55 [[72, 70, 72, 69, 72], [], []] = true := by decide +kernel
theorem bf_55_0 : z_fd bk_55 0 = some (false, [true], bo_55_0, 0) := rfl
theorem bf_55_32 : z_fd bk_55 32 = some (false, [false], bo_55_32, 0) := rfl
theorem bf_55_33 : z_fd bk_55 33 = some (false, [false], bo_55_33, 0) := rfl
theorem cl_55 : z_mL 55 = 1 := by decide +kernel
theorem cz_55 : plainFor (z_my 55) = true ∧ ((z_rm 55).cells = 0 ∧ (z_rm 55).slots = 0) := by decide +kernel
-- 56 Text_digitHere
def bo_56_0 : List ZO := [(.aload_n 0, 0, 0, 0), (.invokevirtual 28, 55, 1, 6), (.bipush 48, 48, 0, 0), (.isub, 0, 0, 0), (.istore_n 3, 3, 0, 0), (.iload_n 3, 3, 0, 0), (.iload_n 1, 1, 0, 0), (.if_icmp .lt 12, 22, 0, 0), (.iload_n 3, 3, 0, 0), (.iload_n 2, 2, 0, 0), (.if_icmp .gt 7, 22, 0, 0), (.iload_n 3, 3, 0, 0), (.goto 4, 23, 0, 0)]
def bo_56_22 : List ZO := [(.iconst (-1), 1, 0, 1), (.ireturn, 0, 0, 0)]
def bo_56_23 : List ZO := [(.ireturn, 0, 0, 0)]
def bk_56 : List (Nat × ZE) := [(0, false, [true, true, true, false], bo_56_0, 0), (22, false, [false, false, false, false], bo_56_22, 0), (23, false, [false, false, false, false], bo_56_23, 0)]
theorem ck_56 : z_chks 56 bk_56 [[331], [], []] = true := by decide +kernel
theorem bf_56_0 : z_fd bk_56 0 = some (false, [true, true, true, false], bo_56_0, 0) := rfl
theorem bf_56_22 : z_fd bk_56 22 = some (false, [false, false, false, false], bo_56_22, 0) := rfl
theorem bf_56_23 : z_fd bk_56 23 = some (false, [false, false, false, false], bo_56_23, 0) := rfl
theorem cl_56 : z_mL 56 = 4 := by decide +kernel
theorem cz_56 : plainFor (z_my 56) = true ∧ ((z_rm 56).cells = 0 ∧ (z_rm 56).slots = 0) := by decide +kernel
-- 57 Text_takeDigit
def bo_57_0 : List ZO := [(.aload_n 0, 0, 0, 0), (.iload_n 1, 1, 0, 0), (.iload_n 2, 2, 0, 0), (.invokevirtual 74, 56, 3, 6), (.istore_n 3, 3, 0, 0), (.iload_n 3, 3, 0, 0), (.ifCond .lt 13, 21, 0, 0), (.aload_n 0, 0, 0, 0), (.dup, 0, 0, 0), (.getfield 19, 5, 2, 0), (.iconst 1, 1, 0, 0), (.iadd, 0, 0, 0), (.putfield 19, 5, 2, 0), (.iload_n 3, 3, 0, 0), (.ireturn, 0, 0, 0)]
def bo_57_21 : List ZO := [(.iload_n 3, 3, 0, 0), (.ireturn, 0, 0, 0)]
def bk_57 : List (Nat × ZE) := [(0, false, [true, true, true, false], bo_57_0, 0), (21, false, [false, false, false, true], bo_57_21, 0)]
theorem ck_57 : z_chks 57 bk_57 [[339, 72, 72], []] = true := by decide +kernel
theorem bf_57_0 : z_fd bk_57 0 = some (false, [true, true, true, false], bo_57_0, 0) := rfl
theorem bf_57_21 : z_fd bk_57 21 = some (false, [false, false, false, true], bo_57_21, 0) := rfl
theorem cl_57 : z_mL 57 = 4 := by decide +kernel
theorem cz_57 : plainFor (z_my 57) = true ∧ ((z_rm 57).cells = 0 ∧ (z_rm 57).slots = 0) := by decide +kernel
-- 58 MP_init
def bo_58_0 : List ZO := [(.aload_n 0, 0, 0, 0), (.invokespecial 1, 0, 1, 99), (.aload_n 0, 0, 0, 0), (.new 7, 5, 3, 0), (.dup, 0, 0, 0), (.invokespecial 9, 47, 1, 6), (.putfield 10, 6, 0, 2), (.aload_n 0, 0, 0, 0), (.new 16, 2, 7, 0), (.dup, 0, 0, 0), (.invokespecial 18, 11, 1, 3), (.putfield 19, 6, 1, 2), (.aload_n 0, 0, 0, 0), (.new 16, 2, 7, 0), (.dup, 0, 0, 0), (.invokespecial 18, 11, 1, 3), (.putfield 23, 6, 2, 2), (.aload_n 0, 0, 0, 0), (.new 26, 0, 3, 0), (.dup, 0, 0, 0), (.invokespecial 28, 0, 1, 1), (.putfield 29, 6, 3, 2), (.aload_n 0, 0, 0, 0), (.iconst 2, 2, 0, 0), (.anewarray 16, 6, 0, 0), (.putfield 33, 6, 4, 2), (.iconst 0, 0, 0, 0), (.istore_n 1, 1, 0, 0)]
def bo_58_58 : List ZO := [(.iload_n 1, 1, 0, 0), (.iconst 2, 2, 0, 0), (.if_icmp .ge 22, 82, 0, 0), (.aload_n 0, 0, 0, 0), (.getfield 33, 6, 4, 2), (.iload_n 1, 1, 0, 0), (.new 16, 2, 7, 0), (.dup, 0, 0, 0), (.invokespecial 18, 11, 1, 3), (.aastore, 0, 0, 0), (.iinc 1 1, 1, 1, 0), (.goto (-21), 58, 0, 0)]
def bo_58_82 : List ZO := [(.aload_n 0, 0, 0, 0), (.iconst 2, 2, 0, 0), (.newarray .boolean, 0, 0, 0), (.putfield 37, 6, 5, 2), (.aload_n 0, 0, 0, 0), (.new 41, 4, 4, 0), (.dup, 0, 0, 0), (.invokespecial 43, 44, 1, 5), (.putfield 44, 6, 6, 2), (.aload_n 0, 0, 0, 0), (.lconst 0, 0, 0, 0), (.putfield 48, 6, 7, 1), (.return_, 0, 0, 0)]
def bk_58 : List (Nat × ZE) := [(0, false, [true, false], bo_58_0, 58), (58, true, [true, true], bo_58_58, 0), (82, false, [true, false], bo_58_82, 0)]
theorem ck_58 : z_chks 58 bk_58 [[60, 63, 0, 279, 81, 83, 280, 81, 83, 281, 238, 240, 282, 81, 283], [283, 81, 83], [284, 258, 3, 285, 286]] = true := by decide +kernel
theorem bf_58_0 : z_fd bk_58 0 = some (false, [true, false], bo_58_0, 58) := rfl
theorem bf_58_58 : z_fd bk_58 58 = some (true, [true, true], bo_58_58, 0) := rfl
theorem bf_58_82 : z_fd bk_58 82 = some (false, [true, false], bo_58_82, 0) := rfl
theorem cl_58 : z_mL 58 = 2 := by decide +kernel
theorem cz_58 : plainFor (z_my 58) = true ∧ ((z_rm 58).cells = 370 ∧ (z_rm 58).slots = 4304) := by decide +kernel
-- 59 MP_write
def bo_59_0 : List ZO := [(.iload_n 1, 1, 0, 0), (.iconst 0, 0, 0, 0), (.sipush 255, 255, 0, 0), (.invokestatic 52, 88, 3, 0), (.ifCond .ne 6, 14, 0, 0), (.bipush (-2), 2, 0, 1), (.ireturn, 0, 0, 0)]
def bo_59_14 : List ZO := [(.aload_n 0, 0, 0, 0), (.getfield 10, 6, 0, 2), (.getfield 56, 5, 1, 0), (.bipush 100, 100, 0, 0), (.if_icmp .lt 6, 29, 0, 0), (.bipush (-4), 4, 0, 1), (.ireturn, 0, 0, 0)]
def bo_59_29 : List ZO := [(.aload_n 0, 0, 0, 0), (.getfield 10, 6, 0, 2), (.iload_n 1, 1, 0, 0), (.invokevirtual 60, 48, 2, 6), (.aload_n 0, 0, 0, 0), (.getfield 10, 6, 0, 2), (.getfield 56, 5, 1, 0), (.ireturn, 0, 0, 0)]
def bk_59 : List (Nat × ZE) := [(0, false, [true, true], bo_59_0, 0), (14, false, [true, true], bo_59_14, 0), (29, false, [true, true], bo_59_29, 0)]
theorem ck_59 : z_chks 59 bk_59 [[308], [279, 71], [279, 311, 279, 71]] = true := by decide +kernel
theorem bf_59_0 : z_fd bk_59 0 = some (false, [true, true], bo_59_0, 0) := rfl
theorem bf_59_14 : z_fd bk_59 14 = some (false, [true, true], bo_59_14, 0) := rfl
theorem bf_59_29 : z_fd bk_59 29 = some (false, [true, true], bo_59_29, 0) := rfl
theorem cl_59 : z_mL 59 = 2 := by decide +kernel
theorem cz_59 : plainFor (z_my 59) = true ∧ ((z_rm 59).cells = 0 ∧ (z_rm 59).slots = 0) := by decide +kernel
-- 60 MP_wipe
def bo_60_0 : List ZO := [(.aload_n 0, 0, 0, 0), (.getfield 10, 6, 0, 2), (.getfield 56, 5, 1, 0), (.istore_n 1, 1, 0, 0), (.aload_n 0, 0, 0, 0), (.getfield 10, 6, 0, 2), (.iconst 0, 0, 0, 0), (.putfield 56, 5, 1, 0), (.iload_n 1, 1, 0, 0), (.ireturn, 0, 0, 0)]
def bk_60 : List (Nat × ZE) := [(0, false, [true, false], bo_60_0, 0)]
theorem ck_60 : z_chks 60 bk_60 [[279, 71, 279, 71]] = true := by decide +kernel
theorem bf_60_0 : z_fd bk_60 0 = some (false, [true, false], bo_60_0, 0) := rfl
theorem cl_60 : z_mL 60 = 2 := by decide +kernel
theorem cz_60 : plainFor (z_my 60) = true ∧ ((z_rm 60).cells = 0 ∧ (z_rm 60).slots = 0) := by decide +kernel
-- 61 MP_fault
def bo_61_0 : List ZO := [(.aload_n 0, 0, 0, 0), (.getfield 10, 6, 0, 2), (.aload_n 0, 0, 0, 0), (.getfield 23, 6, 2, 2), (.invokevirtual 64, 49, 2, 6), (.ireturn, 0, 0, 0)]
def bk_61 : List (Nat × ZE) := [(0, false, [true], bo_61_0, 0)]
theorem ck_61 : z_chks 61 bk_61 [[279, 281, 323]] = true := by decide +kernel
theorem bf_61_0 : z_fd bk_61 0 = some (false, [true], bo_61_0, 0) := rfl
theorem cl_61 : z_mL 61 = 1 := by decide +kernel
theorem cz_61 : plainFor (z_my 61) = true ∧ ((z_rm 61).cells = 0 ∧ (z_rm 61).slots = 0) := by decide +kernel
-- 62 MP_mesh
def bo_62_0 : List ZO := [(.aload_n 0, 0, 0, 0), (.getfield 10, 6, 0, 2), (.aload_n 0, 0, 0, 0), (.getfield 23, 6, 2, 2), (.invokevirtual 64, 49, 2, 6), (.bipush (-9), 9, 0, 1), (.if_icmp .eq 6, 19, 0, 0), (.bipush (-3), 3, 0, 1), (.ireturn, 0, 0, 0)]
def bo_62_19 : List ZO := [(.aload_n 0, 0, 0, 0), (.getfield 19, 6, 1, 2), (.aload_n 0, 0, 0, 0), (.getfield 23, 6, 2, 2), (.invokevirtual 68, 13, 2, 3), (.aload_n 0, 0, 0, 0), (.getfield 29, 6, 3, 2), (.invokevirtual 72, 1, 1, 1), (.iconst 0, 0, 0, 0), (.istore_n 1, 1, 0, 0)]
def bo_62_39 : List ZO := [(.iload_n 1, 1, 0, 0), (.iconst 2, 2, 0, 0), (.if_icmp .ge 16, 57, 0, 0), (.aload_n 0, 0, 0, 0), (.getfield 37, 6, 5, 2), (.iload_n 1, 1, 0, 0), (.iconst 0, 0, 0, 0), (.bastore, 0, 0, 0), (.iinc 1 1, 1, 1, 0), (.goto (-15), 39, 0, 0)]
def bo_62_57 : List ZO := [(.aload_n 0, 0, 0, 0), (.getfield 19, 6, 1, 2), (.getfield 75, 2, 2, 0), (.ireturn, 0, 0, 0)]
def bk_62 : List (Nat × ZE) := [(0, false, [true, false], bo_62_0, 0), (19, false, [true, false], bo_62_19, 39), (39, true, [true, true], bo_62_39, 0), (57, false, [true, false], bo_62_57, 0)]
theorem ck_62 : z_chks 62 bk_62 [[279, 281, 323], [280, 281, 395, 282, 407], [284], [280, 213]] = true := by decide +kernel
theorem bf_62_0 : z_fd bk_62 0 = some (false, [true, false], bo_62_0, 0) := rfl
theorem bf_62_19 : z_fd bk_62 19 = some (false, [true, false], bo_62_19, 39) := rfl
theorem bf_62_39 : z_fd bk_62 39 = some (true, [true, true], bo_62_39, 0) := rfl
theorem bf_62_57 : z_fd bk_62 57 = some (false, [true, false], bo_62_57, 0) := rfl
theorem cl_62 : z_mL 62 = 2 := by decide +kernel
theorem cz_62 : plainFor (z_my 62) = true ∧ ((z_rm 62).cells = 0 ∧ (z_rm 62).slots = 0) := by decide +kernel
-- 63 MP_about
def bo_63_0 : List ZO := [(.iload_n 1, 1, 0, 0), (.tableswitch 161 0 11 #[63, 71, 79, 88, 97, 105, 113, 121, 129, 137, 145, 153], 1, 0, 11)]
theorem cb_63_0 : z_chk 63 bo_63_0 0 0 [] = true := by decide +kernel
def bo_63_64 : List ZO := [(.aload_n 0, 0, 0, 0), (.getfield 19, 6, 1, 2), (.getfield 75, 2, 2, 0), (.ireturn, 0, 0, 0)]
theorem cb_63_64 : z_chk 63 bo_63_64 64 0 [280, 213] = true := by decide +kernel
def bo_63_72 : List ZO := [(.aload_n 0, 0, 0, 0), (.getfield 19, 6, 1, 2), (.getfield 78, 2, 3, 0), (.ireturn, 0, 0, 0)]
theorem cb_63_72 : z_chk 63 bo_63_72 72 0 [280, 215] = true := by decide +kernel
def bo_63_80 : List ZO := [(.aload_n 0, 0, 0, 0), (.getfield 19, 6, 1, 2), (.iconst 0, 0, 0, 0), (.invokevirtual 81, 17, 2, 3), (.ireturn, 0, 0, 0)]
theorem cb_63_80 : z_chk 63 bo_63_80 80 0 [280, 415] = true := by decide +kernel
def bo_63_89 : List ZO := [(.aload_n 0, 0, 0, 0), (.getfield 19, 6, 1, 2), (.iconst 2, 2, 0, 0), (.invokevirtual 81, 17, 2, 3), (.ireturn, 0, 0, 0)]
theorem cb_63_89 : z_chk 63 bo_63_89 89 0 [280, 415] = true := by decide +kernel
def bo_63_98 : List ZO := [(.aload_n 0, 0, 0, 0), (.getfield 19, 6, 1, 2), (.getfield 85, 2, 4, 0), (.ireturn, 0, 0, 0)]
theorem cb_63_98 : z_chk 63 bo_63_98 98 0 [280, 218] = true := by decide +kernel
def bo_63_106 : List ZO := [(.aload_n 0, 0, 0, 0), (.getfield 19, 6, 1, 2), (.getfield 88, 2, 5, 0), (.ireturn, 0, 0, 0)]
theorem cb_63_106 : z_chk 63 bo_63_106 106 0 [280, 220] = true := by decide +kernel
def bo_63_114 : List ZO := [(.aload_n 0, 0, 0, 0), (.getfield 19, 6, 1, 2), (.getfield 91, 2, 6, 0), (.ireturn, 0, 0, 0)]
theorem cb_63_114 : z_chk 63 bo_63_114 114 0 [280, 222] = true := by decide +kernel
def bo_63_122 : List ZO := [(.aload_n 0, 0, 0, 0), (.getfield 19, 6, 1, 2), (.invokevirtual 94, 27, 1, 3), (.ireturn, 0, 0, 0)]
theorem cb_63_122 : z_chk 63 bo_63_122 122 0 [280, 419] = true := by decide +kernel
def bo_63_130 : List ZO := [(.aload_n 0, 0, 0, 0), (.getfield 19, 6, 1, 2), (.invokevirtual 98, 18, 1, 3), (.ireturn, 0, 0, 0)]
theorem cb_63_130 : z_chk 63 bo_63_130 130 0 [280, 435] = true := by decide +kernel
def bo_63_138 : List ZO := [(.aload_n 0, 0, 0, 0), (.getfield 29, 6, 3, 2), (.getfield 101, 0, 2, 0), (.ireturn, 0, 0, 0)]
theorem cb_63_138 : z_chk 63 bo_63_138 138 0 [282, 250] = true := by decide +kernel
def bo_63_146 : List ZO := [(.aload_n 0, 0, 0, 0), (.getfield 44, 6, 6, 2), (.getfield 104, 4, 3, 0), (.ireturn, 0, 0, 0)]
theorem cb_63_146 : z_chk 63 bo_63_146 146 0 [285, 268] = true := by decide +kernel
def bo_63_154 : List ZO := [(.aload_n 0, 0, 0, 0), (.getfield 10, 6, 0, 2), (.getfield 56, 5, 1, 0), (.ireturn, 0, 0, 0)]
theorem cb_63_154 : z_chk 63 bo_63_154 154 0 [279, 71] = true := by decide +kernel
def bo_63_162 : List ZO := [(.bipush (-2), 2, 0, 1), (.ireturn, 0, 0, 0)]
theorem cb_63_162 : z_chk 63 bo_63_162 162 0 [] = true := by decide +kernel
def bk_63 : List (Nat × ZE) := [(0, false, [true, true], bo_63_0, 0), (64, false, [true, false], bo_63_64, 0), (72, false, [true, false], bo_63_72, 0), (80, false, [true, false], bo_63_80, 0), (89, false, [true, false], bo_63_89, 0), (98, false, [true, false], bo_63_98, 0), (106, false, [true, false], bo_63_106, 0), (114, false, [true, false], bo_63_114, 0), (122, false, [true, false], bo_63_122, 0), (130, false, [true, false], bo_63_130, 0), (138, false, [true, false], bo_63_138, 0), (146, false, [true, false], bo_63_146, 0), (154, false, [true, false], bo_63_154, 0), (162, false, [false, false], bo_63_162, 0)]
theorem ck_63 : z_chks 63 bk_63 [[], [280, 213], [280, 215], [280, 415], [280, 415], [280, 218], [280, 220], [280, 222], [280, 419], [280, 435], [282, 250], [285, 268], [279, 71], []] = true := z_chks_cons cb_63_0 (z_chks_cons cb_63_64 (z_chks_cons cb_63_72 (z_chks_cons cb_63_80 (z_chks_cons cb_63_89 (z_chks_cons cb_63_98 (z_chks_cons cb_63_106 (z_chks_cons cb_63_114 (z_chks_cons cb_63_122 (z_chks_cons cb_63_130 (z_chks_cons cb_63_138 (z_chks_cons cb_63_146 (z_chks_cons cb_63_154 (z_chks_cons cb_63_162 (z_chks_nil))))))))))))))
theorem bf_63_0 : z_fd bk_63 0 = some (false, [true, true], bo_63_0, 0) := rfl
theorem bf_63_64 : z_fd bk_63 64 = some (false, [true, false], bo_63_64, 0) := rfl
theorem bf_63_72 : z_fd bk_63 72 = some (false, [true, false], bo_63_72, 0) := rfl
theorem bf_63_80 : z_fd bk_63 80 = some (false, [true, false], bo_63_80, 0) := rfl
theorem bf_63_89 : z_fd bk_63 89 = some (false, [true, false], bo_63_89, 0) := rfl
theorem bf_63_98 : z_fd bk_63 98 = some (false, [true, false], bo_63_98, 0) := rfl
theorem bf_63_106 : z_fd bk_63 106 = some (false, [true, false], bo_63_106, 0) := rfl
theorem bf_63_114 : z_fd bk_63 114 = some (false, [true, false], bo_63_114, 0) := rfl
theorem bf_63_122 : z_fd bk_63 122 = some (false, [true, false], bo_63_122, 0) := rfl
theorem bf_63_130 : z_fd bk_63 130 = some (false, [true, false], bo_63_130, 0) := rfl
theorem bf_63_138 : z_fd bk_63 138 = some (false, [true, false], bo_63_138, 0) := rfl
theorem bf_63_146 : z_fd bk_63 146 = some (false, [true, false], bo_63_146, 0) := rfl
theorem bf_63_154 : z_fd bk_63 154 = some (false, [true, false], bo_63_154, 0) := rfl
theorem bf_63_162 : z_fd bk_63 162 = some (false, [false, false], bo_63_162, 0) := rfl
theorem cl_63 : z_mL 63 = 2 := by decide +kernel
theorem cz_63 : plainFor (z_my 63) = true ∧ ((z_rm 63).cells = 0 ∧ (z_rm 63).slots = 0) := by decide +kernel
-- 64 MP_node
def bo_64_0 : List ZO := [(.aload_n 0, 0, 0, 0), (.getfield 19, 6, 1, 2), (.iload_n 1, 1, 0, 0), (.invokevirtual 105, 14, 2, 3), (.ifCond .ne 5, 13, 0, 0), (.iconst (-1), 1, 0, 1), (.ireturn, 0, 0, 0)]
def bo_64_13 : List ZO := [(.iload_n 2, 2, 0, 0), (.iconst 0, 0, 0, 0), (.bipush 9, 9, 0, 0), (.invokestatic 52, 88, 3, 0), (.ifCond .ne 6, 26, 0, 0), (.bipush (-2), 2, 0, 1), (.ireturn, 0, 0, 0)]
def bo_64_26 : List ZO := [(.aload_n 0, 0, 0, 0), (.getfield 19, 6, 1, 2), (.iload_n 1, 1, 0, 0), (.iload_n 2, 2, 0, 0), (.invokevirtual 109, 31, 3, 3), (.ireturn, 0, 0, 0)]
def bk_64 : List (Nat × ZE) := [(0, false, [true, true, true], bo_64_0, 0), (13, false, [true, true, true], bo_64_13, 0), (26, false, [true, true, true], bo_64_26, 0)]
theorem ck_64 : z_chks 64 bk_64 [[280, 443], [308], [280, 444]] = true := by decide +kernel
theorem bf_64_0 : z_fd bk_64 0 = some (false, [true, true, true], bo_64_0, 0) := rfl
theorem bf_64_13 : z_fd bk_64 13 = some (false, [true, true, true], bo_64_13, 0) := rfl
theorem bf_64_26 : z_fd bk_64 26 = some (false, [true, true, true], bo_64_26, 0) := rfl
theorem cl_64 : z_mL 64 = 3 := by decide +kernel
theorem cz_64 : plainFor (z_my 64) = true ∧ ((z_rm 64).cells = 0 ∧ (z_rm 64).slots = 0) := by decide +kernel
-- 65 MP_link
def bo_65_0 : List ZO := [(.aload_n 0, 0, 0, 0), (.getfield 19, 6, 1, 2), (.iload_n 1, 1, 0, 0), (.invokevirtual 113, 15, 2, 3), (.ifCond .ne 5, 13, 0, 0), (.iconst (-1), 1, 0, 1), (.ireturn, 0, 0, 0)]
theorem cb_65_0 : z_chk 65 bo_65_0 0 0 [280, 456] = true := by decide +kernel
def bo_65_13 : List ZO := [(.aload_n 0, 0, 0, 0), (.getfield 19, 6, 1, 2), (.getfield 116, 2, 1, 2), (.iload_n 1, 1, 0, 0), (.aaload, 0, 0, 0), (.astore_n 3, 3, 0, 0), (.iload_n 2, 2, 0, 0), (.tableswitch 87 0 6 #[44, 49, 54, 59, 64, 69, 74], 24, 0, 6)]
theorem cb_65_13 : z_chk 65 bo_65_13 13 0 [280, 209] = true := by decide +kernel
def bo_65_68 : List ZO := [(.aload_n 3, 3, 0, 0), (.getfield 120, 1, 0, 0), (.ireturn, 0, 0, 0)]
theorem cb_65_68 : z_chk 65 bo_65_68 68 0 [173] = true := by decide +kernel
def bo_65_73 : List ZO := [(.aload_n 3, 3, 0, 0), (.getfield 125, 1, 1, 0), (.ireturn, 0, 0, 0)]
theorem cb_65_73 : z_chk 65 bo_65_73 73 0 [176] = true := by decide +kernel
def bo_65_78 : List ZO := [(.aload_n 3, 3, 0, 0), (.getfield 128, 1, 2, 0), (.ireturn, 0, 0, 0)]
theorem cb_65_78 : z_chk 65 bo_65_78 78 0 [179] = true := by decide +kernel
def bo_65_83 : List ZO := [(.aload_n 3, 3, 0, 0), (.getfield 131, 1, 3, 0), (.ireturn, 0, 0, 0)]
theorem cb_65_83 : z_chk 65 bo_65_83 83 0 [181] = true := by decide +kernel
def bo_65_88 : List ZO := [(.aload_n 3, 3, 0, 0), (.getfield 134, 1, 4, 0), (.ireturn, 0, 0, 0)]
theorem cb_65_88 : z_chk 65 bo_65_88 88 0 [183] = true := by decide +kernel
def bo_65_93 : List ZO := [(.aload_n 3, 3, 0, 0), (.getfield 137, 1, 5, 0), (.ireturn, 0, 0, 0)]
theorem cb_65_93 : z_chk 65 bo_65_93 93 0 [185] = true := by decide +kernel
def bo_65_98 : List ZO := [(.aload_n 3, 3, 0, 0), (.getfield 140, 1, 6, 3), (.ifCond .eq 7, 109, 0, 0), (.iconst 1, 1, 0, 0), (.goto 4, 110, 0, 0)]
theorem cb_65_98 : z_chk 65 bo_65_98 98 0 [189] = true := by decide +kernel
def bo_65_109 : List ZO := [(.iconst 0, 0, 0, 0), (.ireturn, 0, 0, 0)]
theorem cb_65_109 : z_chk 65 bo_65_109 109 0 [] = true := by decide +kernel
def bo_65_110 : List ZO := [(.ireturn, 0, 0, 0)]
theorem cb_65_110 : z_chk 65 bo_65_110 110 0 [] = true := by decide +kernel
def bo_65_111 : List ZO := [(.bipush (-2), 2, 0, 1), (.ireturn, 0, 0, 0)]
theorem cb_65_111 : z_chk 65 bo_65_111 111 0 [] = true := by decide +kernel
def bk_65 : List (Nat × ZE) := [(0, false, [true, true, true, false], bo_65_0, 0), (13, false, [true, true, true, false], bo_65_13, 0), (68, false, [false, false, false, true], bo_65_68, 0), (73, false, [false, false, false, true], bo_65_73, 0), (78, false, [false, false, false, true], bo_65_78, 0), (83, false, [false, false, false, true], bo_65_83, 0), (88, false, [false, false, false, true], bo_65_88, 0), (93, false, [false, false, false, true], bo_65_93, 0), (98, false, [false, false, false, true], bo_65_98, 0), (109, false, [false, false, false, false], bo_65_109, 0), (110, false, [false, false, false, false], bo_65_110, 0), (111, false, [false, false, false, false], bo_65_111, 0)]
theorem ck_65 : z_chks 65 bk_65 [[280, 456], [280, 209], [173], [176], [179], [181], [183], [185], [189], [], [], []] = true := z_chks_cons cb_65_0 (z_chks_cons cb_65_13 (z_chks_cons cb_65_68 (z_chks_cons cb_65_73 (z_chks_cons cb_65_78 (z_chks_cons cb_65_83 (z_chks_cons cb_65_88 (z_chks_cons cb_65_93 (z_chks_cons cb_65_98 (z_chks_cons cb_65_109 (z_chks_cons cb_65_110 (z_chks_cons cb_65_111 (z_chks_nil))))))))))))
theorem bf_65_0 : z_fd bk_65 0 = some (false, [true, true, true, false], bo_65_0, 0) := rfl
theorem bf_65_13 : z_fd bk_65 13 = some (false, [true, true, true, false], bo_65_13, 0) := rfl
theorem bf_65_68 : z_fd bk_65 68 = some (false, [false, false, false, true], bo_65_68, 0) := rfl
theorem bf_65_73 : z_fd bk_65 73 = some (false, [false, false, false, true], bo_65_73, 0) := rfl
theorem bf_65_78 : z_fd bk_65 78 = some (false, [false, false, false, true], bo_65_78, 0) := rfl
theorem bf_65_83 : z_fd bk_65 83 = some (false, [false, false, false, true], bo_65_83, 0) := rfl
theorem bf_65_88 : z_fd bk_65 88 = some (false, [false, false, false, true], bo_65_88, 0) := rfl
theorem bf_65_93 : z_fd bk_65 93 = some (false, [false, false, false, true], bo_65_93, 0) := rfl
theorem bf_65_98 : z_fd bk_65 98 = some (false, [false, false, false, true], bo_65_98, 0) := rfl
theorem bf_65_109 : z_fd bk_65 109 = some (false, [false, false, false, false], bo_65_109, 0) := rfl
theorem bf_65_110 : z_fd bk_65 110 = some (false, [false, false, false, false], bo_65_110, 0) := rfl
theorem bf_65_111 : z_fd bk_65 111 = some (false, [false, false, false, false], bo_65_111, 0) := rfl
theorem cl_65 : z_mL 65 = 4 := by decide +kernel
theorem cz_65 : plainFor (z_my 65) = true ∧ ((z_rm 65).cells = 0 ∧ (z_rm 65).slots = 0) := by decide +kernel
-- 66 MP_price
def bo_66_0 : List ZO := [(.aload_n 0, 0, 0, 0), (.iload_n 1, 1, 0, 0), (.iload_n 2, 2, 0, 0), (.invokevirtual 144, 89, 3, 7), (.istore_n 3, 3, 0, 0), (.iload_n 3, 3, 0, 0), (.ifCond .eq 5, 13, 0, 0), (.iload_n 3, 3, 0, 0), (.ireturn, 0, 0, 0)]
def bo_66_13 : List ZO := [(.aload_n 0, 0, 0, 0), (.getfield 19, 6, 1, 2), (.iload_n 1, 1, 0, 0), (.iload_n 2, 2, 0, 0), (.invokevirtual 147, 21, 3, 3), (.istore 4, 4, 0, 0), (.iload 4, 4, 0, 0), (.ifCond .ge 8, 34, 0, 0), (.bipush (-9), 9, 0, 1), (.goto 29, 60, 0, 0)]
def bo_66_34 : List ZO := [(.aload_n 0, 0, 0, 0), (.getfield 19, 6, 1, 2), (.getfield 150, 2, 0, 2), (.iload_n 1, 1, 0, 0), (.aaload, 0, 0, 0), (.getfield 154, 3, 11, 0), (.aload_n 0, 0, 0, 0), (.getfield 19, 6, 1, 2), (.getfield 116, 2, 1, 2), (.iload 4, 4, 0, 0), (.aaload, 0, 0, 0), (.getfield 137, 1, 5, 0), (.iadd, 0, 0, 0), (.ireturn, 0, 0, 0)]
def bo_66_60 : List ZO := [(.ireturn, 0, 0, 0)]
def bk_66 : List (Nat × ZE) := [(0, false, [true, true, true, false, false], bo_66_0, 0), (13, false, [true, true, true, false, false], bo_66_13, 0), (34, false, [true, true, false, false, true], bo_66_34, 0), (60, false, [false, false, false, false, false], bo_66_60, 0)]
theorem ck_66 : z_chks 66 bk_66 [[464], [280, 472], [280, 207, 121, 280, 209, 185], []] = true := by decide +kernel
theorem bf_66_0 : z_fd bk_66 0 = some (false, [true, true, true, false, false], bo_66_0, 0) := rfl
theorem bf_66_13 : z_fd bk_66 13 = some (false, [true, true, true, false, false], bo_66_13, 0) := rfl
theorem bf_66_34 : z_fd bk_66 34 = some (false, [true, true, false, false, true], bo_66_34, 0) := rfl
theorem bf_66_60 : z_fd bk_66 60 = some (false, [false, false, false, false, false], bo_66_60, 0) := rfl
theorem cl_66 : z_mL 66 = 5 := by decide +kernel
theorem cz_66 : plainFor (z_my 66) = true ∧ ((z_rm 66).cells = 0 ∧ (z_rm 66).slots = 0) := by decide +kernel
-- 67 MP_safe
def bo_67_0 : List ZO := [(.aload_n 0, 0, 0, 0), (.iload_n 1, 1, 0, 0), (.iload_n 2, 2, 0, 0), (.invokevirtual 144, 89, 3, 7), (.istore_n 3, 3, 0, 0), (.iload_n 3, 3, 0, 0), (.ifCond .eq 5, 13, 0, 0), (.iload_n 3, 3, 0, 0), (.ireturn, 0, 0, 0)]
def bo_67_13 : List ZO := [(.aload_n 0, 0, 0, 0), (.getfield 19, 6, 1, 2), (.iload_n 1, 1, 0, 0), (.iload_n 2, 2, 0, 0), (.invokevirtual 147, 21, 3, 3), (.ifCond .ge 6, 28, 0, 0), (.bipush (-9), 9, 0, 1), (.ireturn, 0, 0, 0)]
def bo_67_28 : List ZO := [(.aload_n 0, 0, 0, 0), (.getfield 19, 6, 1, 2), (.getfield 150, 2, 0, 2), (.iload_n 2, 2, 0, 0), (.aaload, 0, 0, 0), (.aload_n 0, 0, 0, 0), (.getfield 19, 6, 1, 2), (.getfield 150, 2, 0, 2), (.iload_n 1, 1, 0, 0), (.aaload, 0, 0, 0), (.invokevirtual 159, 38, 2, 4), (.ifCond .eq 7, 56, 0, 0), (.iconst 1, 1, 0, 0), (.goto 4, 57, 0, 0)]
def bo_67_56 : List ZO := [(.iconst 0, 0, 0, 0), (.ireturn, 0, 0, 0)]
def bo_67_57 : List ZO := [(.ireturn, 0, 0, 0)]
def bk_67 : List (Nat × ZE) := [(0, false, [true, true, true, false], bo_67_0, 0), (13, false, [true, true, true, false], bo_67_13, 0), (28, false, [true, true, true, false], bo_67_28, 0), (56, false, [false, false, false, false], bo_67_56, 0), (57, false, [false, false, false, false], bo_67_57, 0)]
theorem ck_67 : z_chks 67 bk_67 [[464], [280, 472], [280, 207, 280, 207, 485], [], []] = true := by decide +kernel
theorem bf_67_0 : z_fd bk_67 0 = some (false, [true, true, true, false], bo_67_0, 0) := rfl
theorem bf_67_13 : z_fd bk_67 13 = some (false, [true, true, true, false], bo_67_13, 0) := rfl
theorem bf_67_28 : z_fd bk_67 28 = some (false, [true, true, true, false], bo_67_28, 0) := rfl
theorem bf_67_56 : z_fd bk_67 56 = some (false, [false, false, false, false], bo_67_56, 0) := rfl
theorem bf_67_57 : z_fd bk_67 57 = some (false, [false, false, false, false], bo_67_57, 0) := rfl
theorem cl_67 : z_mL 67 = 4 := by decide +kernel
theorem cz_67 : plainFor (z_my 67) = true ∧ ((z_rm 67).cells = 0 ∧ (z_rm 67).slots = 0) := by decide +kernel
-- 68 MP_round
def bo_68_0 : List ZO := [(.iload_n 1, 1, 0, 0), (.iconst 1, 1, 0, 0), (.bipush 99, 99, 0, 0), (.invokestatic 52, 88, 3, 0), (.ifCond .ne 6, 13, 0, 0), (.bipush (-2), 2, 0, 1), (.ireturn, 0, 0, 0)]
def bo_68_13 : List ZO := [(.aload_n 0, 0, 0, 0), (.getfield 29, 6, 3, 2), (.aload_n 0, 0, 0, 0), (.getfield 19, 6, 1, 2), (.invokevirtual 163, 2, 2, 1), (.aload_n 0, 0, 0, 0), (.getfield 19, 6, 1, 2), (.iload_n 1, 1, 0, 0), (.iconst 0, 0, 0, 0), (.invokevirtual 166, 22, 3, 3), (.aload_n 0, 0, 0, 0), (.getfield 19, 6, 1, 2), (.invokevirtual 94, 27, 1, 3), (.invokestatic 170, 175, 1, 0), (.ireturn, 0, 0, 0)]
def bk_68 : List (Nat × ZE) := [(0, false, [true, true], bo_68_0, 0), (13, false, [true, true], bo_68_13, 0)]
theorem ck_68 : z_chks 68 bk_68 [[308], [282, 280, 493, 280, 498, 280, 419, 535]] = true := by decide +kernel
theorem bf_68_0 : z_fd bk_68 0 = some (false, [true, true], bo_68_0, 0) := rfl
theorem bf_68_13 : z_fd bk_68 13 = some (false, [true, true], bo_68_13, 0) := rfl
theorem cl_68 : z_mL 68 = 2 := by decide +kernel
theorem cz_68 : plainFor (z_my 68) = true ∧ ((z_rm 68).cells = 0 ∧ (z_rm 68).slots = 0) := by decide +kernel
-- 69 MP_turn
def bo_69_0 : List ZO := [(.aload_n 0, 0, 0, 0), (.getfield 19, 6, 1, 2), (.iload_n 1, 1, 0, 0), (.invokevirtual 113, 15, 2, 3), (.ifCond .ne 5, 13, 0, 0), (.iconst (-1), 1, 0, 1), (.ireturn, 0, 0, 0)]
def bo_69_13 : List ZO := [(.aload_n 0, 0, 0, 0), (.getfield 29, 6, 3, 2), (.aload_n 0, 0, 0, 0), (.getfield 19, 6, 1, 2), (.invokevirtual 163, 2, 2, 1), (.aload_n 0, 0, 0, 0), (.getfield 19, 6, 1, 2), (.getfield 116, 2, 1, 2), (.iload_n 1, 1, 0, 0), (.aaload, 0, 0, 0), (.invokevirtual 175, 7, 1, 2), (.aload_n 0, 0, 0, 0), (.getfield 19, 6, 1, 2), (.getfield 116, 2, 1, 2), (.iload_n 1, 1, 0, 0), (.aaload, 0, 0, 0), (.getfield 140, 1, 6, 3), (.ifCond .eq 7, 55, 0, 0), (.iconst 1, 1, 0, 0), (.goto 4, 56, 0, 0)]
def bo_69_55 : List ZO := [(.iconst 0, 0, 0, 0), (.ireturn, 0, 0, 0)]
def bo_69_56 : List ZO := [(.ireturn, 0, 0, 0)]
def bk_69 : List (Nat × ZE) := [(0, false, [true, true], bo_69_0, 0), (13, false, [true, true], bo_69_13, 0), (55, false, [false, false], bo_69_55, 0), (56, false, [false, false], bo_69_56, 0)]
theorem ck_69 : z_chks 69 bk_69 [[280, 456], [282, 280, 493, 280, 209, 545, 280, 209, 189], [], []] = true := by decide +kernel
theorem bf_69_0 : z_fd bk_69 0 = some (false, [true, true], bo_69_0, 0) := rfl
theorem bf_69_13 : z_fd bk_69 13 = some (false, [true, true], bo_69_13, 0) := rfl
theorem bf_69_55 : z_fd bk_69 55 = some (false, [false, false], bo_69_55, 0) := rfl
theorem bf_69_56 : z_fd bk_69 56 = some (false, [false, false], bo_69_56, 0) := rfl
theorem cl_69 : z_mL 69 = 2 := by decide +kernel
theorem cz_69 : plainFor (z_my 69) = true ∧ ((z_rm 69).cells = 0 ∧ (z_rm 69).slots = 0) := by decide +kernel
-- 70 MP_lose
def bo_70_0 : List ZO := [(.aload_n 0, 0, 0, 0), (.getfield 19, 6, 1, 2), (.iload_n 1, 1, 0, 0), (.invokevirtual 113, 15, 2, 3), (.ifCond .ne 5, 13, 0, 0), (.iconst (-1), 1, 0, 1), (.ireturn, 0, 0, 0)]
def bo_70_13 : List ZO := [(.iload_n 3, 3, 0, 0), (.iconst 0, 0, 0, 0), (.bipush 9, 9, 0, 0), (.invokestatic 52, 88, 3, 0), (.ifCond .ne 6, 26, 0, 0), (.bipush (-2), 2, 0, 1), (.ireturn, 0, 0, 0)]
def bo_70_26 : List ZO := [(.aload_n 0, 0, 0, 0), (.getfield 29, 6, 3, 2), (.aload_n 0, 0, 0, 0), (.getfield 19, 6, 1, 2), (.invokevirtual 163, 2, 2, 1), (.aload_n 0, 0, 0, 0), (.getfield 19, 6, 1, 2), (.getfield 116, 2, 1, 2), (.iload_n 1, 1, 0, 0), (.aaload, 0, 0, 0), (.iload_n 2, 2, 0, 0), (.iload_n 3, 3, 0, 0), (.invokevirtual 178, 8, 3, 2), (.aload_n 0, 0, 0, 0), (.getfield 19, 6, 1, 2), (.getfield 116, 2, 1, 2), (.iload_n 1, 1, 0, 0), (.aaload, 0, 0, 0), (.getfield 137, 1, 5, 0), (.ireturn, 0, 0, 0)]
def bk_70 : List (Nat × ZE) := [(0, false, [true, true, true, true], bo_70_0, 0), (13, false, [true, true, true, true], bo_70_13, 0), (26, false, [true, true, true, true], bo_70_26, 0)]
theorem ck_70 : z_chks 70 bk_70 [[280, 456], [308], [282, 280, 493, 280, 209, 553, 280, 209, 185]] = true := by decide +kernel
theorem bf_70_0 : z_fd bk_70 0 = some (false, [true, true, true, true], bo_70_0, 0) := rfl
theorem bf_70_13 : z_fd bk_70 13 = some (false, [true, true, true, true], bo_70_13, 0) := rfl
theorem bf_70_26 : z_fd bk_70 26 = some (false, [true, true, true, true], bo_70_26, 0) := rfl
theorem cl_70 : z_mL 70 = 4 := by decide +kernel
theorem cz_70 : plainFor (z_my 70) = true ∧ ((z_rm 70).cells = 0 ∧ (z_rm 70).slots = 0) := by decide +kernel
-- 71 MP_offset
def bo_71_0 : List ZO := [(.aload_n 0, 0, 0, 0), (.getfield 19, 6, 1, 2), (.iload_n 1, 1, 0, 0), (.invokevirtual 182, 16, 2, 3), (.ifCond .ne 5, 13, 0, 0), (.iconst (-1), 1, 0, 1), (.ireturn, 0, 0, 0)]
def bo_71_13 : List ZO := [(.iload_n 2, 2, 0, 0), (.iconst 0, 0, 0, 0), (.bipush 9, 9, 0, 0), (.invokestatic 52, 88, 3, 0), (.ifCond .ne 6, 26, 0, 0), (.bipush (-2), 2, 0, 1), (.ireturn, 0, 0, 0)]
def bo_71_26 : List ZO := [(.aload_n 0, 0, 0, 0), (.getfield 29, 6, 3, 2), (.aload_n 0, 0, 0, 0), (.getfield 19, 6, 1, 2), (.invokevirtual 163, 2, 2, 1), (.aload_n 0, 0, 0, 0), (.getfield 19, 6, 1, 2), (.getfield 150, 2, 0, 2), (.iload_n 1, 1, 0, 0), (.aaload, 0, 0, 0), (.getfield 185, 3, 1, 0), (.istore_n 3, 3, 0, 0), (.aload_n 0, 0, 0, 0), (.getfield 19, 6, 1, 2), (.getfield 150, 2, 0, 2), (.iload_n 1, 1, 0, 0), (.aaload, 0, 0, 0), (.iload_n 2, 2, 0, 0), (.putfield 185, 3, 1, 0), (.iload_n 3, 3, 0, 0), (.ireturn, 0, 0, 0)]
def bk_71 : List (Nat × ZE) := [(0, false, [true, true, true, false], bo_71_0, 0), (13, false, [true, true, true, false], bo_71_13, 0), (26, false, [true, true, true, false], bo_71_26, 0)]
theorem ck_71 : z_chks 71 bk_71 [[280, 468], [308], [282, 280, 493, 280, 207, 98, 280, 207, 98]] = true := by decide +kernel
theorem bf_71_0 : z_fd bk_71 0 = some (false, [true, true, true, false], bo_71_0, 0) := rfl
theorem bf_71_13 : z_fd bk_71 13 = some (false, [true, true, true, false], bo_71_13, 0) := rfl
theorem bf_71_26 : z_fd bk_71 26 = some (false, [true, true, true, false], bo_71_26, 0) := rfl
theorem cl_71 : z_mL 71 = 4 := by decide +kernel
theorem cz_71 : plainFor (z_my 71) = true ∧ ((z_rm 71).cells = 0 ∧ (z_rm 71).slots = 0) := by decide +kernel
-- 72 MP_margin
def bo_72_0 : List ZO := [(.iload_n 1, 1, 0, 0), (.iconst 0, 0, 0, 0), (.bipush 9, 9, 0, 0), (.invokestatic 52, 88, 3, 0), (.ifCond .ne 6, 13, 0, 0), (.bipush (-2), 2, 0, 1), (.ireturn, 0, 0, 0)]
def bo_72_13 : List ZO := [(.aload_n 0, 0, 0, 0), (.getfield 29, 6, 3, 2), (.aload_n 0, 0, 0, 0), (.getfield 19, 6, 1, 2), (.invokevirtual 163, 2, 2, 1), (.aload_n 0, 0, 0, 0), (.getfield 19, 6, 1, 2), (.getfield 85, 2, 4, 0), (.istore_n 2, 2, 0, 0), (.aload_n 0, 0, 0, 0), (.getfield 19, 6, 1, 2), (.iload_n 1, 1, 0, 0), (.putfield 85, 2, 4, 0), (.iload_n 2, 2, 0, 0), (.ireturn, 0, 0, 0)]
def bk_72 : List (Nat × ZE) := [(0, false, [true, true, false], bo_72_0, 0), (13, false, [true, true, false], bo_72_13, 0)]
theorem ck_72 : z_chks 72 bk_72 [[308], [282, 280, 493, 280, 218, 280, 218]] = true := by decide +kernel
theorem bf_72_0 : z_fd bk_72 0 = some (false, [true, true, false], bo_72_0, 0) := rfl
theorem bf_72_13 : z_fd bk_72 13 = some (false, [true, true, false], bo_72_13, 0) := rfl
theorem cl_72 : z_mL 72 = 3 := by decide +kernel
theorem cz_72 : plainFor (z_my 72) = true ∧ ((z_rm 72).cells = 0 ∧ (z_rm 72).slots = 0) := by decide +kernel
-- 73 MP_undo
def bo_73_0 : List ZO := [(.aload_n 0, 0, 0, 0), (.getfield 29, 6, 3, 2), (.getfield 101, 0, 2, 0), (.ifCond .ne 6, 13, 0, 0), (.bipush (-3), 3, 0, 1), (.ireturn, 0, 0, 0)]
def bo_73_13 : List ZO := [(.aload_n 0, 0, 0, 0), (.getfield 29, 6, 3, 2), (.aload_n 0, 0, 0, 0), (.getfield 19, 6, 1, 2), (.invokevirtual 188, 3, 2, 1), (.aload_n 0, 0, 0, 0), (.getfield 29, 6, 3, 2), (.getfield 101, 0, 2, 0), (.ireturn, 0, 0, 0)]
def bk_73 : List (Nat × ZE) := [(0, false, [true], bo_73_0, 0), (13, false, [true], bo_73_13, 0)]
theorem ck_73 : z_chks 73 bk_73 [[282, 250], [282, 280, 569, 282, 250]] = true := by decide +kernel
theorem bf_73_0 : z_fd bk_73 0 = some (false, [true], bo_73_0, 0) := rfl
theorem bf_73_13 : z_fd bk_73 13 = some (false, [true], bo_73_13, 0) := rfl
theorem cl_73 : z_mL 73 = 1 := by decide +kernel
theorem cz_73 : plainFor (z_my 73) = true ∧ ((z_rm 73).cells = 0 ∧ (z_rm 73).slots = 0) := by decide +kernel
-- 74 MP_ahead
def bo_74_0 : List ZO := [(.aload_n 0, 0, 0, 0), (.getfield 19, 6, 1, 2), (.iload_n 2, 2, 0, 0), (.invokevirtual 105, 14, 2, 3), (.ifCond .ne 5, 13, 0, 0), (.iconst (-1), 1, 0, 1), (.ireturn, 0, 0, 0)]
def bo_74_13 : List ZO := [(.iload_n 1, 1, 0, 0), (.iconst 0, 0, 0, 0), (.bipush 99, 99, 0, 0), (.invokestatic 52, 88, 3, 0), (.ifCond .eq 13, 33, 0, 0), (.iload_n 3, 3, 0, 0), (.iconst 3, 3, 0, 0), (.bipush 9, 9, 0, 0), (.invokestatic 52, 88, 3, 0), (.ifCond .ne 6, 36, 0, 0), (.bipush (-2), 2, 0, 1), (.ireturn, 0, 0, 0)]
def bo_74_33 : List ZO := [(.bipush (-2), 2, 0, 1), (.ireturn, 0, 0, 0)]
def bo_74_36 : List ZO := [(.aload_n 0, 0, 0, 0), (.getfield 23, 6, 2, 2), (.aload_n 0, 0, 0, 0), (.getfield 19, 6, 1, 2), (.invokevirtual 68, 13, 2, 3), (.aload_n 0, 0, 0, 0), (.getfield 23, 6, 2, 2), (.iload_n 1, 1, 0, 0), (.iconst 0, 0, 0, 0), (.invokevirtual 166, 22, 3, 3), (.aload_n 0, 0, 0, 0), (.getfield 23, 6, 2, 2), (.iload_n 2, 2, 0, 0), (.iload_n 3, 3, 0, 0), (.invokevirtual 109, 31, 3, 3), (.ireturn, 0, 0, 0)]
def bk_74 : List (Nat × ZE) := [(0, false, [true, true, true, true], bo_74_0, 0), (13, false, [true, true, true, true], bo_74_13, 0), (33, false, [false, false, false, false], bo_74_33, 0), (36, false, [true, true, true, true], bo_74_36, 0)]
theorem ck_74 : z_chks 74 bk_74 [[280, 443], [308, 308], [], [281, 280, 395, 281, 498, 281, 444]] = true := by decide +kernel
theorem bf_74_0 : z_fd bk_74 0 = some (false, [true, true, true, true], bo_74_0, 0) := rfl
theorem bf_74_13 : z_fd bk_74 13 = some (false, [true, true, true, true], bo_74_13, 0) := rfl
theorem bf_74_33 : z_fd bk_74 33 = some (false, [false, false, false, false], bo_74_33, 0) := rfl
theorem bf_74_36 : z_fd bk_74 36 = some (false, [true, true, true, true], bo_74_36, 0) := rfl
theorem cl_74 : z_mL 74 = 4 := by decide +kernel
theorem cz_74 : plainFor (z_my 74) = true ∧ ((z_rm 74).cells = 0 ∧ (z_rm 74).slots = 0) := by decide +kernel
-- 75 MP_still
def bo_75_0 : List ZO := [(.aload_n 0, 0, 0, 0), (.getfield 23, 6, 2, 2), (.aload_n 0, 0, 0, 0), (.getfield 19, 6, 1, 2), (.invokevirtual 68, 13, 2, 3), (.iconst 0, 0, 0, 0), (.istore_n 1, 1, 0, 0), (.iconst 1, 1, 0, 0), (.istore_n 2, 2, 0, 0)]
def bo_75_15 : List ZO := [(.iload_n 2, 2, 0, 0), (.bipush 49, 49, 0, 0), (.if_icmp .gt 52, 70, 0, 0), (.aload_n 0, 0, 0, 0), (.getfield 23, 6, 2, 2), (.invokevirtual 191, 30, 1, 3), (.lstore_n 3, 3, 0, 0), (.aload_n 0, 0, 0, 0), (.getfield 23, 6, 2, 2), (.iconst 0, 0, 0, 0), (.invokevirtual 195, 23, 2, 3), (.aload_n 0, 0, 0, 0), (.getfield 23, 6, 2, 2), (.invokevirtual 191, 30, 1, 3), (.lload_n 3, 3, 0, 0), (.lcmp, 0, 0, 0), (.ifCond .eq 8, 54, 0, 0), (.iload_n 2, 2, 0, 0), (.istore_n 1, 1, 0, 0), (.goto 13, 64, 0, 0)]
def bo_75_54 : List ZO := [(.iload_n 2, 2, 0, 0), (.iload_n 1, 1, 0, 0), (.isub, 0, 0, 0), (.bipush 9, 9, 0, 0), (.if_icmp .ne 5, 64, 0, 0), (.iload_n 1, 1, 0, 0), (.ireturn, 0, 0, 0)]
def bo_75_64 : List ZO := [(.iinc 2 1, 1, 2, 0), (.goto (-52), 15, 0, 0)]
def bo_75_70 : List ZO := [(.bipush (-9), 9, 0, 1), (.ireturn, 0, 0, 0)]
def bk_75 : List (Nat × ZE) := [(0, false, [true, false, false, false, false], bo_75_0, 15), (15, true, [true, true, true, false, false], bo_75_15, 0), (54, false, [true, true, true, false, false], bo_75_54, 0), (64, false, [true, true, true, false, false], bo_75_64, 0), (70, false, [false, false, false, false, false], bo_75_70, 0)]
theorem ck_75 : z_chks 75 bk_75 [[281, 280, 395], [281, 581, 281, 586, 281, 581], [], [], []] = true := by decide +kernel
theorem bf_75_0 : z_fd bk_75 0 = some (false, [true, false, false, false, false], bo_75_0, 15) := rfl
theorem bf_75_15 : z_fd bk_75 15 = some (true, [true, true, true, false, false], bo_75_15, 0) := rfl
theorem bf_75_54 : z_fd bk_75 54 = some (false, [true, true, true, false, false], bo_75_54, 0) := rfl
theorem bf_75_64 : z_fd bk_75 64 = some (false, [true, true, true, false, false], bo_75_64, 0) := rfl
theorem bf_75_70 : z_fd bk_75 70 = some (false, [false, false, false, false, false], bo_75_70, 0) := rfl
theorem cl_75 : z_mL 75 = 5 := by decide +kernel
theorem cz_75 : plainFor (z_my 75) = true ∧ ((z_rm 75).cells = 0 ∧ (z_rm 75).slots = 0) := by decide +kernel
-- 76 MP_word
def bo_76_0 : List ZO := [(.aload_n 0, 0, 0, 0), (.getfield 19, 6, 1, 2), (.iload_n 1, 1, 0, 0), (.invokevirtual 105, 14, 2, 3), (.ifCond .ne 5, 13, 0, 0), (.iconst (-1), 1, 0, 1), (.ireturn, 0, 0, 0)]
theorem cb_76_0 : z_chk 76 bo_76_0 0 0 [280, 443] = true := by decide +kernel
def bo_76_13 : List ZO := [(.aload_n 0, 0, 0, 0), (.getfield 19, 6, 1, 2), (.iload_n 1, 1, 0, 0), (.invokevirtual 182, 16, 2, 3), (.ifCond .eq 5, 26, 0, 0), (.iconst 0, 0, 0, 0), (.ireturn, 0, 0, 0)]
theorem cb_76_13 : z_chk 76 bo_76_13 13 0 [280, 468] = true := by decide +kernel
def bo_76_26 : List ZO := [(.aload_n 0, 0, 0, 0), (.getfield 23, 6, 2, 2), (.aload_n 0, 0, 0, 0), (.getfield 19, 6, 1, 2), (.invokevirtual 68, 13, 2, 3), (.iload_n 1, 1, 0, 0), (.istore_n 2, 2, 0, 0), (.iconst 1, 1, 0, 0), (.istore_n 3, 3, 0, 0)]
theorem cb_76_26 : z_chk 76 bo_76_26 26 41 [281, 280, 395] = true := by decide +kernel
def bo_76_41 : List ZO := [(.iload_n 3, 3, 0, 0), (.bipush 60, 60, 0, 0), (.if_icmp .gt 85, 129, 0, 0), (.aload_n 0, 0, 0, 0), (.getfield 23, 6, 2, 2), (.getfield 150, 2, 0, 2), (.iload_n 2, 2, 0, 0), (.aaload, 0, 0, 0), (.aload_n 0, 0, 0, 0), (.getfield 23, 6, 2, 2), (.getfield 91, 2, 6, 0), (.invokevirtual 198, 36, 2, 4), (.istore 4, 4, 0, 0), (.aload_n 0, 0, 0, 0), (.getfield 23, 6, 2, 2), (.iconst 0, 0, 0, 0), (.invokevirtual 195, 23, 2, 3), (.aload_n 0, 0, 0, 0), (.getfield 23, 6, 2, 2), (.getfield 150, 2, 0, 2), (.iload_n 2, 2, 0, 0), (.aaload, 0, 0, 0), (.getfield 201, 3, 4, 0), (.istore 5, 5, 0, 0), (.iload 4, 4, 0, 0), (.ifCond .eq 18, 110, 0, 0), (.aload_n 0, 0, 0, 0), (.getfield 23, 6, 2, 2), (.iload 5, 5, 0, 0), (.invokevirtual 105, 14, 2, 3), (.ifCond .eq 6, 110, 0, 0), (.iload 5, 5, 0, 0), (.istore_n 2, 2, 0, 0), (.aload_n 0, 0, 0, 0), (.getfield 23, 6, 2, 2), (.iload_n 2, 2, 0, 0), (.invokevirtual 182, 16, 2, 3), (.ifCond .eq 5, 123, 0, 0), (.iload_n 3, 3, 0, 0), (.ireturn, 0, 0, 0)]
theorem cb_76_41 : z_chk 76 bo_76_41 41 0 [281, 207, 281, 222, 591, 281, 586, 281, 207, 108, 281, 443, 281, 468] = true := by decide +kernel
def bo_76_110 : List ZO := [(.aload_n 0, 0, 0, 0), (.getfield 23, 6, 2, 2), (.iload_n 2, 2, 0, 0), (.invokevirtual 182, 16, 2, 3), (.ifCond .eq 5, 123, 0, 0), (.iload_n 3, 3, 0, 0), (.ireturn, 0, 0, 0)]
theorem cb_76_110 : z_chk 76 bo_76_110 110 0 [281, 468] = true := by decide +kernel
def bo_76_123 : List ZO := [(.iinc 3 1, 1, 3, 0), (.goto (-85), 41, 0, 0)]
theorem cb_76_123 : z_chk 76 bo_76_123 123 0 [] = true := by decide +kernel
def bo_76_129 : List ZO := [(.bipush (-9), 9, 0, 1), (.ireturn, 0, 0, 0)]
theorem cb_76_129 : z_chk 76 bo_76_129 129 0 [] = true := by decide +kernel
def bk_76 : List (Nat × ZE) := [(0, false, [true, true, false, false, false, false], bo_76_0, 0), (13, false, [true, true, false, false, false, false], bo_76_13, 0), (26, false, [true, true, false, false, false, false], bo_76_26, 41), (41, true, [true, false, true, true, false, false], bo_76_41, 0), (110, false, [true, false, true, true, false, false], bo_76_110, 0), (123, false, [true, false, true, true, false, false], bo_76_123, 0), (129, false, [false, false, false, false, false, false], bo_76_129, 0)]
theorem ck_76 : z_chks 76 bk_76 [[280, 443], [280, 468], [281, 280, 395], [281, 207, 281, 222, 591, 281, 586, 281, 207, 108, 281, 443, 281, 468], [281, 468], [], []] = true := z_chks_cons cb_76_0 (z_chks_cons cb_76_13 (z_chks_cons cb_76_26 (z_chks_cons cb_76_41 (z_chks_cons cb_76_110 (z_chks_cons cb_76_123 (z_chks_cons cb_76_129 (z_chks_nil)))))))
theorem bf_76_0 : z_fd bk_76 0 = some (false, [true, true, false, false, false, false], bo_76_0, 0) := rfl
theorem bf_76_13 : z_fd bk_76 13 = some (false, [true, true, false, false, false, false], bo_76_13, 0) := rfl
theorem bf_76_26 : z_fd bk_76 26 = some (false, [true, true, false, false, false, false], bo_76_26, 41) := rfl
theorem bf_76_41 : z_fd bk_76 41 = some (true, [true, false, true, true, false, false], bo_76_41, 0) := rfl
theorem bf_76_110 : z_fd bk_76 110 = some (false, [true, false, true, true, false, false], bo_76_110, 0) := rfl
theorem bf_76_123 : z_fd bk_76 123 = some (false, [true, false, true, true, false, false], bo_76_123, 0) := rfl
theorem bf_76_129 : z_fd bk_76 129 = some (false, [false, false, false, false, false, false], bo_76_129, 0) := rfl
theorem cl_76 : z_mL 76 = 6 := by decide +kernel
theorem cz_76 : plainFor (z_my 76) = true ∧ ((z_rm 76).cells = 0 ∧ (z_rm 76).slots = 0) := by decide +kernel
-- 77 MP_even
def bo_77_0 : List ZO := [(.aload_n 0, 0, 0, 0), (.getfield 19, 6, 1, 2), (.iload_n 1, 1, 0, 0), (.invokevirtual 182, 16, 2, 3), (.ifCond .ne 5, 13, 0, 0), (.iconst (-1), 1, 0, 1), (.ireturn, 0, 0, 0)]
def bo_77_13 : List ZO := [(.iconst 0, 0, 0, 0), (.istore_n 2, 2, 0, 0), (.bipush 9, 9, 0, 0), (.istore_n 3, 3, 0, 0), (.iconst 0, 0, 0, 0), (.istore 4, 4, 0, 0)]
def bo_77_21 : List ZO := [(.iload 4, 4, 0, 0), (.bipush 9, 9, 0, 0), (.if_icmp .gt 65, 90, 0, 0), (.aload_n 0, 0, 0, 0), (.getfield 23, 6, 2, 2), (.aload_n 0, 0, 0, 0), (.getfield 19, 6, 1, 2), (.invokevirtual 68, 13, 2, 3), (.aload_n 0, 0, 0, 0), (.getfield 23, 6, 2, 2), (.getfield 150, 2, 0, 2), (.iload_n 1, 1, 0, 0), (.aaload, 0, 0, 0), (.iload 4, 4, 0, 0), (.putfield 185, 3, 1, 0), (.aload_n 0, 0, 0, 0), (.getfield 23, 6, 2, 2), (.bipush 20, 20, 0, 0), (.iconst 0, 0, 0, 0), (.invokevirtual 166, 22, 3, 3), (.aload_n 0, 0, 0, 0), (.getfield 23, 6, 2, 2), (.invokevirtual 204, 29, 1, 3), (.istore 5, 5, 0, 0), (.iload 5, 5, 0, 0), (.iload_n 3, 3, 0, 0), (.if_icmp .ge 9, 84, 0, 0), (.iload 4, 4, 0, 0), (.istore_n 2, 2, 0, 0), (.iload 5, 5, 0, 0), (.istore_n 3, 3, 0, 0), (.iinc 4 1, 1, 4, 0), (.goto (-66), 21, 0, 0)]
def bo_77_84 : List ZO := [(.iinc 4 1, 1, 4, 0), (.goto (-66), 21, 0, 0)]
def bo_77_90 : List ZO := [(.iload_n 2, 2, 0, 0), (.ireturn, 0, 0, 0)]
def bk_77 : List (Nat × ZE) := [(0, false, [true, true, false, false, false, false], bo_77_0, 0), (13, false, [true, true, false, false, false, false], bo_77_13, 21), (21, true, [true, true, true, true, true, false], bo_77_21, 0), (84, false, [true, true, true, true, true, false], bo_77_84, 0), (90, false, [false, false, true, false, false, false], bo_77_90, 0)]
theorem ck_77 : z_chks 77 bk_77 [[280, 468], [], [281, 280, 395, 281, 207, 98, 281, 498, 281, 596], [], []] = true := by decide +kernel
theorem bf_77_0 : z_fd bk_77 0 = some (false, [true, true, false, false, false, false], bo_77_0, 0) := rfl
theorem bf_77_13 : z_fd bk_77 13 = some (false, [true, true, false, false, false, false], bo_77_13, 21) := rfl
theorem bf_77_21 : z_fd bk_77 21 = some (true, [true, true, true, true, true, false], bo_77_21, 0) := rfl
theorem bf_77_84 : z_fd bk_77 84 = some (false, [true, true, true, true, true, false], bo_77_84, 0) := rfl
theorem bf_77_90 : z_fd bk_77 90 = some (false, [false, false, true, false, false, false], bo_77_90, 0) := rfl
theorem cl_77 : z_mL 77 = 6 := by decide +kernel
theorem cz_77 : plainFor (z_my 77) = true ∧ ((z_rm 77).cells = 0 ∧ (z_rm 77).slots = 0) := by decide +kernel
-- 78 MP_judge
def bo_78_0 : List ZO := [(.iload_n 1, 1, 0, 0), (.iconst 1, 1, 0, 0), (.iconst 3, 3, 0, 0), (.invokestatic 52, 88, 3, 0), (.ifCond .eq 19, 25, 0, 0), (.lload_n 2, 2, 0, 0), (.lconst 0, 0, 0, 0), (.lcmp, 0, 0, 0), (.ifCond .lt 13, 25, 0, 0), (.lload_n 2, 2, 0, 0), (.iload_n 1, 1, 0, 0), (.invokestatic 207, 90, 2, 0), (.lconst 0, 0, 0, 0), (.lcmp, 0, 0, 0), (.ifCond .eq 6, 28, 0, 0), (.bipush (-2), 2, 0, 1), (.ireturn, 0, 0, 0)]
def bo_78_25 : List ZO := [(.bipush (-2), 2, 0, 1), (.ireturn, 0, 0, 0)]
def bo_78_28 : List ZO := [(.aload_n 0, 0, 0, 0), (.getfield 23, 6, 2, 2), (.aload_n 0, 0, 0, 0), (.getfield 19, 6, 1, 2), (.invokevirtual 68, 13, 2, 3), (.iconst 0, 0, 0, 0), (.istore 4, 4, 0, 0)]
def bo_78_42 : List ZO := [(.iload 4, 4, 0, 0), (.iload_n 1, 1, 0, 0), (.if_icmp .ge 38, 83, 0, 0), (.lload_n 2, 2, 0, 0), (.iload_n 1, 1, 0, 0), (.iconst 1, 1, 0, 0), (.isub, 0, 0, 0), (.iload 4, 4, 0, 0), (.isub, 0, 0, 0), (.invokestatic 207, 90, 2, 0), (.ldc2_w 211, 100000, 0, 0), (.lrem, 0, 0, 0), (.l2i, 0, 0, 0), (.istore 5, 5, 0, 0), (.aload_n 0, 0, 0, 0), (.iload 5, 5, 0, 0), (.invokevirtual 213, 91, 2, 7), (.ifCond .ne 6, 77, 0, 0), (.iload 4, 4, 0, 0), (.ireturn, 0, 0, 0)]
def bo_78_77 : List ZO := [(.iinc 4 1, 1, 4, 0), (.goto (-38), 42, 0, 0)]
def bo_78_83 : List ZO := [(.bipush (-9), 9, 0, 1), (.ireturn, 0, 0, 0)]
def bk_78 : List (Nat × ZE) := [(0, false, [true, true, true, false, false, false], bo_78_0, 0), (25, false, [false, false, false, false, false, false], bo_78_25, 0), (28, false, [true, true, true, false, false, false], bo_78_28, 42), (42, true, [true, true, true, false, true, false], bo_78_42, 0), (77, false, [true, true, true, false, true, false], bo_78_77, 0), (83, false, [false, false, false, false, false, false], bo_78_83, 0)]
theorem ck_78 : z_chks 78 bk_78 [[308, 610], [], [281, 280, 395], [610, 613, 614], [], []] = true := by decide +kernel
theorem bf_78_0 : z_fd bk_78 0 = some (false, [true, true, true, false, false, false], bo_78_0, 0) := rfl
theorem bf_78_25 : z_fd bk_78 25 = some (false, [false, false, false, false, false, false], bo_78_25, 0) := rfl
theorem bf_78_28 : z_fd bk_78 28 = some (false, [true, true, true, false, false, false], bo_78_28, 42) := rfl
theorem bf_78_42 : z_fd bk_78 42 = some (true, [true, true, true, false, true, false], bo_78_42, 0) := rfl
theorem bf_78_77 : z_fd bk_78 77 = some (false, [true, true, true, false, true, false], bo_78_77, 0) := rfl
theorem bf_78_83 : z_fd bk_78 83 = some (false, [false, false, false, false, false, false], bo_78_83, 0) := rfl
theorem cl_78 : z_mL 78 = 6 := by decide +kernel
theorem cz_78 : plainFor (z_my 78) = true ∧ ((z_rm 78).cells = 0 ∧ (z_rm 78).slots = 0) := by decide +kernel
-- 79 MP_see
def bo_79_0 : List ZO := [(.aload_n 0, 0, 0, 0), (.getfield 19, 6, 1, 2), (.iload_n 1, 1, 0, 0), (.invokevirtual 105, 14, 2, 3), (.ifCond .ne 5, 13, 0, 0), (.iconst (-1), 1, 0, 1), (.ireturn, 0, 0, 0)]
theorem cb_79_0 : z_chk 79 bo_79_0 0 0 [280, 443] = true := by decide +kernel
def bo_79_13 : List ZO := [(.iload_n 2, 2, 0, 0), (.iconst 0, 0, 0, 0), (.bipush 20, 20, 0, 0), (.invokestatic 52, 88, 3, 0), (.ifCond .eq 12, 32, 0, 0), (.iload_n 3, 3, 0, 0), (.iconst 0, 0, 0, 0), (.iconst 1, 1, 0, 0), (.invokestatic 52, 88, 3, 0), (.ifCond .ne 6, 35, 0, 0), (.bipush (-2), 2, 0, 1), (.ireturn, 0, 0, 0)]
theorem cb_79_13 : z_chk 79 bo_79_13 13 0 [308, 308] = true := by decide +kernel
def bo_79_32 : List ZO := [(.bipush (-2), 2, 0, 1), (.ireturn, 0, 0, 0)]
theorem cb_79_32 : z_chk 79 bo_79_32 32 0 [] = true := by decide +kernel
def bo_79_35 : List ZO := [(.aload_n 0, 0, 0, 0), (.getfield 44, 6, 6, 2), (.getfield 104, 4, 3, 0), (.bipush 6, 6, 0, 0), (.if_icmp .lt 6, 50, 0, 0), (.bipush (-4), 4, 0, 1), (.ireturn, 0, 0, 0)]
theorem cb_79_35 : z_chk 79 bo_79_35 35 0 [285, 268] = true := by decide +kernel
def bo_79_50 : List ZO := [(.aload_n 0, 0, 0, 0), (.getfield 44, 6, 6, 2), (.iload_n 1, 1, 0, 0), (.iload_n 2, 2, 0, 0), (.iload_n 3, 3, 0, 0), (.iconst 1, 1, 0, 0), (.if_icmp .ne 7, 65, 0, 0), (.iconst 1, 1, 0, 0), (.goto 4, 66, 0, 0)]
theorem cb_79_50 : z_chk 79 bo_79_50 50 0 [285] = true := by decide +kernel
def bo_79_65 : List ZO := [(.iconst 0, 0, 0, 0), (.invokevirtual 216, 45, 4, 5), (.aload_n 0, 0, 0, 0), (.getfield 44, 6, 6, 2), (.getfield 104, 4, 3, 0), (.ireturn, 0, 0, 0)]
theorem cb_79_65 : z_chk 79 bo_79_65 65 0 [632, 285, 268] = true := by decide +kernel
def bo_79_66 : List ZO := [(.invokevirtual 216, 45, 4, 5), (.aload_n 0, 0, 0, 0), (.getfield 44, 6, 6, 2), (.getfield 104, 4, 3, 0), (.ireturn, 0, 0, 0)]
theorem cb_79_66 : z_chk 79 bo_79_66 66 0 [632, 285, 268] = true := by decide +kernel
def bk_79 : List (Nat × ZE) := [(0, false, [true, true, true, true], bo_79_0, 0), (13, false, [true, true, true, true], bo_79_13, 0), (32, false, [false, false, false, false], bo_79_32, 0), (35, false, [true, true, true, true], bo_79_35, 0), (50, false, [true, true, true, true], bo_79_50, 0), (65, false, [true, false, false, false], bo_79_65, 0), (66, false, [true, false, false, false], bo_79_66, 0)]
theorem ck_79 : z_chks 79 bk_79 [[280, 443], [308, 308], [], [285, 268], [285], [632, 285, 268], [632, 285, 268]] = true := z_chks_cons cb_79_0 (z_chks_cons cb_79_13 (z_chks_cons cb_79_32 (z_chks_cons cb_79_35 (z_chks_cons cb_79_50 (z_chks_cons cb_79_65 (z_chks_cons cb_79_66 (z_chks_nil)))))))
theorem bf_79_0 : z_fd bk_79 0 = some (false, [true, true, true, true], bo_79_0, 0) := rfl
theorem bf_79_13 : z_fd bk_79 13 = some (false, [true, true, true, true], bo_79_13, 0) := rfl
theorem bf_79_32 : z_fd bk_79 32 = some (false, [false, false, false, false], bo_79_32, 0) := rfl
theorem bf_79_35 : z_fd bk_79 35 = some (false, [true, true, true, true], bo_79_35, 0) := rfl
theorem bf_79_50 : z_fd bk_79 50 = some (false, [true, true, true, true], bo_79_50, 0) := rfl
theorem bf_79_65 : z_fd bk_79 65 = some (false, [true, false, false, false], bo_79_65, 0) := rfl
theorem bf_79_66 : z_fd bk_79 66 = some (false, [true, false, false, false], bo_79_66, 0) := rfl
theorem cl_79 : z_mL 79 = 4 := by decide +kernel
theorem cz_79 : plainFor (z_my 79) = true ∧ ((z_rm 79).cells = 0 ∧ (z_rm 79).slots = 0) := by decide +kernel
-- 80 MP_unsee
def bo_80_0 : List ZO := [(.aload_n 0, 0, 0, 0), (.getfield 44, 6, 6, 2), (.getfield 104, 4, 3, 0), (.istore_n 1, 1, 0, 0), (.aload_n 0, 0, 0, 0), (.getfield 44, 6, 6, 2), (.iconst 0, 0, 0, 0), (.putfield 104, 4, 3, 0), (.iload_n 1, 1, 0, 0), (.ireturn, 0, 0, 0)]
def bk_80 : List (Nat × ZE) := [(0, false, [true, false], bo_80_0, 0)]
theorem ck_80 : z_chks 80 bk_80 [[285, 268, 285, 268]] = true := by decide +kernel
theorem bf_80_0 : z_fd bk_80 0 = some (false, [true, false], bo_80_0, 0) := rfl
theorem cl_80 : z_mL 80 = 2 := by decide +kernel
theorem cz_80 : plainFor (z_my 80) = true ∧ ((z_rm 80).cells = 0 ∧ (z_rm 80).slots = 0) := by decide +kernel
-- 81 MP_which
def bo_81_0 : List ZO := [(.iconst 0, 0, 0, 0), (.istore_n 1, 1, 0, 0), (.iconst 0, 0, 0, 0), (.istore_n 2, 2, 0, 0)]
def bo_81_4 : List ZO := [(.iload_n 2, 2, 0, 0), (.aload_n 0, 0, 0, 0), (.getfield 19, 6, 1, 2), (.getfield 78, 2, 3, 0), (.if_icmp .ge 38, 50, 0, 0), (.aload_n 0, 0, 0, 0), (.getfield 19, 6, 1, 2), (.getfield 116, 2, 1, 2), (.iload_n 2, 2, 0, 0), (.aaload, 0, 0, 0), (.getfield 140, 1, 6, 3), (.ifCond .ne 17, 44, 0, 0), (.aload_n 0, 0, 0, 0), (.iload_n 2, 2, 0, 0), (.invokevirtual 220, 94, 2, 7), (.ifCond .eq 9, 44, 0, 0), (.iload_n 1, 1, 0, 0), (.iconst 1, 1, 0, 0), (.iload_n 2, 2, 0, 0), (.ishl, 0, 0, 0), (.ior, 0, 0, 0), (.istore_n 1, 1, 0, 0), (.iinc 2 1, 1, 2, 0), (.goto (-43), 4, 0, 0)]
def bo_81_44 : List ZO := [(.iinc 2 1, 1, 2, 0), (.goto (-43), 4, 0, 0)]
def bo_81_50 : List ZO := [(.iload_n 1, 1, 0, 0), (.ireturn, 0, 0, 0)]
def bk_81 : List (Nat × ZE) := [(0, false, [true, false, false], bo_81_0, 4), (4, true, [true, true, true], bo_81_4, 0), (44, false, [true, true, true], bo_81_44, 0), (50, false, [false, true, false], bo_81_50, 0)]
theorem ck_81 : z_chks 81 bk_81 [[], [280, 215, 280, 209, 189, 644], [], []] = true := by decide +kernel
theorem bf_81_0 : z_fd bk_81 0 = some (false, [true, false, false], bo_81_0, 4) := rfl
theorem bf_81_4 : z_fd bk_81 4 = some (true, [true, true, true], bo_81_4, 0) := rfl
theorem bf_81_44 : z_fd bk_81 44 = some (false, [true, true, true], bo_81_44, 0) := rfl
theorem bf_81_50 : z_fd bk_81 50 = some (false, [false, true, false], bo_81_50, 0) := rfl
theorem cl_81 : z_mL 81 = 3 := by decide +kernel
theorem cz_81 : plainFor (z_my 81) = true ∧ ((z_rm 81).cells = 0 ∧ (z_rm 81).slots = 0) := by decide +kernel
-- 82 MP_share
def bo_82_0 : List ZO := [(.aload_n 0, 0, 0, 0), (.getfield 19, 6, 1, 2), (.iload_n 1, 1, 0, 0), (.invokevirtual 182, 16, 2, 3), (.ifCond .ne 5, 13, 0, 0), (.iconst (-1), 1, 0, 1), (.ireturn, 0, 0, 0)]
theorem cb_82_0 : z_chk 82 bo_82_0 0 0 [280, 468] = true := by decide +kernel
def bo_82_13 : List ZO := [(.aload_n 0, 0, 0, 0), (.getfield 19, 6, 1, 2), (.iconst 0, 0, 0, 0), (.invokevirtual 81, 17, 2, 3), (.iconst 1, 1, 0, 0), (.iload_n 1, 1, 0, 0), (.ishl, 0, 0, 0), (.iconst (-1), 1, 0, 1), (.ixor, 0, 0, 0), (.iand, 0, 0, 0), (.istore_n 3, 3, 0, 0), (.iload_n 3, 3, 0, 0), (.invokestatic 170, 175, 1, 0), (.istore 4, 4, 0, 0), (.lconst 0, 0, 0, 0), (.lstore 5, 5, 0, 0), (.iconst 0, 0, 0, 0), (.istore 7, 7, 0, 0)]
theorem cb_82_13 : z_chk 82 bo_82_13 13 40 [280, 415, 535] = true := by decide +kernel
def bo_82_40 : List ZO := [(.iload 7, 7, 0, 0), (.sipush 256, 256, 0, 0), (.if_icmp .ge 78, 123, 0, 0), (.iload 7, 7, 0, 0), (.invokestatic 170, 175, 1, 0), (.istore 8, 8, 0, 0), (.iload 7, 7, 0, 0), (.iload_n 3, 3, 0, 0), (.iconst (-1), 1, 0, 1), (.ixor, 0, 0, 0), (.iand, 0, 0, 0), (.ifCond .ne 56, 117, 0, 0), (.iload 8, 8, 0, 0), (.iload 4, 4, 0, 0), (.if_icmp .gt 49, 117, 0, 0), (.getstatic 223, 0, 0, 0), (.iload 8, 8, 0, 0), (.iaload, 1, 0, 0), (.i2l, 0, 0, 0), (.getstatic 223, 0, 0, 0), (.iload 4, 4, 0, 0), (.iload 8, 8, 0, 0), (.isub, 0, 0, 0), (.iaload, 1, 0, 0), (.i2l, 0, 0, 0), (.lmul, 0, 0, 0), (.lstore 9, 9, 0, 0), (.lload 5, 5, 0, 0), (.lload 9, 9, 0, 0), (.aload_n 0, 0, 0, 0), (.iload 7, 7, 0, 0), (.iconst 1, 1, 0, 0), (.iload_n 1, 1, 0, 0), (.ishl, 0, 0, 0), (.ior, 0, 0, 0), (.invokevirtual 227, 95, 2, 7), (.aload_n 0, 0, 0, 0), (.iload 7, 7, 0, 0), (.invokevirtual 227, 95, 2, 7), (.isub, 0, 0, 0), (.i2l, 0, 0, 0), (.lmul, 0, 0, 0), (.ladd, 0, 0, 0), (.lstore 5, 5, 0, 0), (.iinc 7 1, 1, 7, 0), (.goto (-80), 40, 0, 0)]
theorem cb_82_40 : z_chk 82 bo_82_40 40 0 [535, 656, 656, 658, 658] = true := by decide +kernel
def bo_82_117 : List ZO := [(.iinc 7 1, 1, 7, 0), (.goto (-80), 40, 0, 0)]
theorem cb_82_117 : z_chk 82 bo_82_117 117 0 [] = true := by decide +kernel
def bo_82_123 : List ZO := [(.lload 5, 5, 0, 0), (.getstatic 223, 0, 0, 0), (.iload 4, 4, 0, 0), (.iconst 1, 1, 0, 0), (.iadd, 0, 0, 0), (.iaload, 1, 0, 0), (.i2l, 0, 0, 0), (.iload_n 2, 2, 0, 0), (.invokestatic 230, 98, 3, 0), (.ireturn, 0, 0, 0)]
theorem cb_82_123 : z_chk 82 bo_82_123 123 0 [656, 663] = true := by decide +kernel
def bk_82 : List (Nat × ZE) := [(0, false, [true, true, true, false, false, false, false, false, false, false, false], bo_82_0, 0), (13, false, [true, true, true, false, false, false, false, false, false, false, false], bo_82_13, 40), (40, true, [true, true, true, true, true, true, false, true, false, false, false], bo_82_40, 0), (117, false, [true, true, true, true, true, true, false, true, false, false, false], bo_82_117, 0), (123, false, [false, false, true, false, true, true, false, false, false, false, false], bo_82_123, 0)]
theorem ck_82 : z_chks 82 bk_82 [[280, 468], [280, 415, 535], [535, 656, 656, 658, 658], [], [656, 663]] = true := z_chks_cons cb_82_0 (z_chks_cons cb_82_13 (z_chks_cons cb_82_40 (z_chks_cons cb_82_117 (z_chks_cons cb_82_123 (z_chks_nil)))))
theorem bf_82_0 : z_fd bk_82 0 = some (false, [true, true, true, false, false, false, false, false, false, false, false], bo_82_0, 0) := rfl
theorem bf_82_13 : z_fd bk_82 13 = some (false, [true, true, true, false, false, false, false, false, false, false, false], bo_82_13, 40) := rfl
theorem bf_82_40 : z_fd bk_82 40 = some (true, [true, true, true, true, true, true, false, true, false, false, false], bo_82_40, 0) := rfl
theorem bf_82_117 : z_fd bk_82 117 = some (false, [true, true, true, true, true, true, false, true, false, false, false], bo_82_117, 0) := rfl
theorem bf_82_123 : z_fd bk_82 123 = some (false, [false, false, true, false, true, true, false, false, false, false, false], bo_82_123, 0) := rfl
theorem cl_82 : z_mL 82 = 11 := by decide +kernel
theorem cz_82 : plainFor (z_my 82) = true ∧ ((z_rm 82).cells = 0 ∧ (z_rm 82).slots = 0) := by decide +kernel
-- 83 MP_chance
def bo_83_0 : List ZO := [(.iload_n 1, 1, 0, 0), (.iconst 0, 0, 0, 0), (.bipush 10, 10, 0, 0), (.invokestatic 52, 88, 3, 0), (.ifCond .ne 6, 13, 0, 0), (.bipush (-2), 2, 0, 1), (.ireturn, 0, 0, 0)]
def bo_83_13 : List ZO := [(.iconst 1, 1, 0, 0), (.aload_n 0, 0, 0, 0), (.getfield 19, 6, 1, 2), (.getfield 78, 2, 3, 0), (.ishl, 0, 0, 0), (.iconst 1, 1, 0, 0), (.isub, 0, 0, 0), (.aload_n 0, 0, 0, 0), (.getfield 19, 6, 1, 2), (.invokevirtual 98, 18, 1, 3), (.iconst (-1), 1, 0, 1), (.ixor, 0, 0, 0), (.iand, 0, 0, 0), (.istore_n 3, 3, 0, 0), (.iload_n 3, 3, 0, 0), (.invokestatic 170, 175, 1, 0), (.istore 4, 4, 0, 0), (.lconst 0, 0, 0, 0), (.lstore 5, 5, 0, 0), (.iconst 0, 0, 0, 0), (.istore 7, 7, 0, 0)]
def bo_83_47 : List ZO := [(.iload 7, 7, 0, 0), (.sipush 512, 512, 0, 0), (.if_icmp .ge 69, 121, 0, 0), (.iload 7, 7, 0, 0), (.iload_n 3, 3, 0, 0), (.iconst (-1), 1, 0, 1), (.ixor, 0, 0, 0), (.iand, 0, 0, 0), (.ifCond .ne 54, 115, 0, 0), (.iload 7, 7, 0, 0), (.invokestatic 170, 175, 1, 0), (.istore 8, 8, 0, 0), (.iload_n 1, 1, 0, 0), (.iload 8, 8, 0, 0), (.invokestatic 234, 97, 2, 0), (.bipush 10, 10, 0, 0), (.iload_n 1, 1, 0, 0), (.isub, 0, 0, 0), (.iload 4, 4, 0, 0), (.iload 8, 8, 0, 0), (.isub, 0, 0, 0), (.invokestatic 234, 97, 2, 0), (.lmul, 0, 0, 0), (.lstore 9, 9, 0, 0), (.lload 9, 9, 0, 0), (.lconst 0, 0, 0, 0), (.lcmp, 0, 0, 0), (.ifCond .le 19, 115, 0, 0), (.aload_n 0, 0, 0, 0), (.iload 7, 7, 0, 0), (.invokevirtual 238, 96, 2, 7), (.ifCond .eq 10, 115, 0, 0), (.lload 5, 5, 0, 0), (.lload 9, 9, 0, 0), (.ladd, 0, 0, 0), (.lstore 5, 5, 0, 0), (.iinc 7 1, 1, 7, 0), (.goto (-71), 47, 0, 0)]
def bo_83_115 : List ZO := [(.iinc 7 1, 1, 7, 0), (.goto (-71), 47, 0, 0)]
def bo_83_121 : List ZO := [(.lload 5, 5, 0, 0), (.bipush 10, 10, 0, 0), (.iload 4, 4, 0, 0), (.invokestatic 234, 97, 2, 0), (.iload_n 2, 2, 0, 0), (.invokestatic 230, 98, 3, 0), (.ireturn, 0, 0, 0)]
def bk_83 : List (Nat × ZE) := [(0, false, [true, true, true, false, false, false, false, false, false, false, false], bo_83_0, 0), (13, false, [true, true, true, false, false, false, false, false, false, false, false], bo_83_13, 47), (47, true, [true, true, true, true, true, true, false, true, false, false, false], bo_83_47, 0), (115, false, [true, true, true, true, true, true, false, true, false, false, false], bo_83_115, 0), (121, false, [false, false, true, false, true, true, false, false, false, false, false], bo_83_121, 0)]
theorem ck_83 : z_chks 83 bk_83 [[308], [280, 215, 280, 435, 535], [535, 676, 676, 679], [], [676, 663]] = true := by decide +kernel
theorem bf_83_0 : z_fd bk_83 0 = some (false, [true, true, true, false, false, false, false, false, false, false, false], bo_83_0, 0) := rfl
theorem bf_83_13 : z_fd bk_83 13 = some (false, [true, true, true, false, false, false, false, false, false, false, false], bo_83_13, 47) := rfl
theorem bf_83_47 : z_fd bk_83 47 = some (true, [true, true, true, true, true, true, false, true, false, false, false], bo_83_47, 0) := rfl
theorem bf_83_115 : z_fd bk_83 115 = some (false, [true, true, true, true, true, true, false, true, false, false, false], bo_83_115, 0) := rfl
theorem bf_83_121 : z_fd bk_83 121 = some (false, [false, false, true, false, true, true, false, false, false, false, false], bo_83_121, 0) := rfl
theorem cl_83 : z_mL 83 = 11 := by decide +kernel
theorem cz_83 : plainFor (z_my 83) = true ∧ ((z_rm 83).cells = 0 ∧ (z_rm 83).slots = 0) := by decide +kernel
-- 84 MP_seed
def bo_84_0 : List ZO := [(.aload_n 0, 0, 0, 0), (.getfield 48, 6, 7, 1), (.lstore_n 3, 3, 0, 0), (.aload_n 0, 0, 0, 0), (.lload_n 1, 1, 0, 0), (.putfield 48, 6, 7, 1), (.lload_n 3, 3, 0, 0), (.lreturn, 0, 0, 0)]
def bk_84 : List (Nat × ZE) := [(0, false, [true, true, false, false, false], bo_84_0, 0)]
theorem ck_84 : z_chks 84 bk_84 [[286, 286]] = true := by decide +kernel
theorem bf_84_0 : z_fd bk_84 0 = some (false, [true, true, false, false, false], bo_84_0, 0) := rfl
theorem cl_84 : z_mL 84 = 5 := by decide +kernel
theorem cz_84 : plainFor (z_my 84) = true ∧ ((z_rm 84).cells = 0 ∧ (z_rm 84).slots = 0) := by decide +kernel
-- 85 MP_drawn
def bo_85_0 : List ZO := [(.iload_n 1, 1, 0, 0), (.iconst 1, 1, 0, 0), (.bipush 20, 20, 0, 0), (.invokestatic 52, 88, 3, 0), (.ifCond .ne 6, 13, 0, 0), (.bipush (-2), 2, 0, 1), (.ireturn, 0, 0, 0)]
theorem cb_85_0 : z_chk 85 bo_85_0 0 0 [308] = true := by decide +kernel
def bo_85_13 : List ZO := [(.aload_n 0, 0, 0, 0), (.getfield 23, 6, 2, 2), (.aload_n 0, 0, 0, 0), (.getfield 19, 6, 1, 2), (.invokevirtual 68, 13, 2, 3), (.iconst 0, 0, 0, 0), (.istore_n 2, 2, 0, 0), (.iconst 0, 0, 0, 0), (.istore_n 3, 3, 0, 0)]
theorem cb_85_13 : z_chk 85 bo_85_13 13 28 [281, 280, 395] = true := by decide +kernel
def bo_85_28 : List ZO := [(.iload_n 3, 3, 0, 0), (.iload_n 1, 1, 0, 0), (.if_icmp .ge 105, 135, 0, 0), (.aload_n 0, 0, 0, 0), (.aload_n 0, 0, 0, 0), (.getfield 48, 6, 7, 1), (.ldc2_w 241, 6364136223846793005, 0, 0), (.lmul, 0, 0, 0), (.ldc2_w 243, 1442695040888963407, 0, 0), (.ladd, 0, 0, 0), (.putfield 48, 6, 7, 1), (.aload_n 0, 0, 0, 0), (.getfield 23, 6, 2, 2), (.getfield 78, 2, 3, 0), (.ifCond .le 73, 129, 0, 0), (.aload_n 0, 0, 0, 0), (.getfield 48, 6, 7, 1), (.bipush 33, 33, 0, 0), (.lushr, 0, 0, 0), (.l2i, 0, 0, 0), (.istore 4, 4, 0, 0), (.iload 4, 4, 0, 0), (.bipush 16, 16, 0, 0), (.idiv, 0, 0, 0), (.iconst 2, 2, 0, 0), (.irem, 0, 0, 0), (.ifCond .ne 24, 100, 0, 0), (.aload_n 0, 0, 0, 0), (.getfield 23, 6, 2, 2), (.getfield 116, 2, 1, 2), (.iload 4, 4, 0, 0), (.aload_n 0, 0, 0, 0), (.getfield 23, 6, 2, 2), (.getfield 78, 2, 3, 0), (.irem, 0, 0, 0), (.aaload, 0, 0, 0), (.invokevirtual 175, 7, 1, 2), (.aload_n 0, 0, 0, 0), (.getfield 23, 6, 2, 2), (.iconst 0, 0, 0, 0), (.invokevirtual 195, 23, 2, 3), (.iload_n 2, 2, 0, 0), (.aload_n 0, 0, 0, 0), (.getfield 23, 6, 2, 2), (.getfield 75, 2, 2, 0), (.aload_n 0, 0, 0, 0), (.getfield 23, 6, 2, 2), (.invokevirtual 94, 27, 1, 3), (.invokestatic 170, 175, 1, 0), (.isub, 0, 0, 0), (.iadd, 0, 0, 0), (.istore_n 2, 2, 0, 0), (.iinc 3 1, 1, 3, 0), (.goto (-104), 28, 0, 0)]
theorem cb_85_28 : z_chk 85 bo_85_28 28 0 [286, 691, 692, 286, 281, 215, 286, 281, 209, 281, 215, 545, 281, 586, 281, 213, 281, 419, 535] = true := by decide +kernel
def bo_85_100 : List ZO := [(.aload_n 0, 0, 0, 0), (.getfield 23, 6, 2, 2), (.iconst 0, 0, 0, 0), (.invokevirtual 195, 23, 2, 3), (.iload_n 2, 2, 0, 0), (.aload_n 0, 0, 0, 0), (.getfield 23, 6, 2, 2), (.getfield 75, 2, 2, 0), (.aload_n 0, 0, 0, 0), (.getfield 23, 6, 2, 2), (.invokevirtual 94, 27, 1, 3), (.invokestatic 170, 175, 1, 0), (.isub, 0, 0, 0), (.iadd, 0, 0, 0), (.istore_n 2, 2, 0, 0), (.iinc 3 1, 1, 3, 0), (.goto (-104), 28, 0, 0)]
theorem cb_85_100 : z_chk 85 bo_85_100 100 0 [281, 586, 281, 213, 281, 419, 535] = true := by decide +kernel
def bo_85_129 : List ZO := [(.iinc 3 1, 1, 3, 0), (.goto (-104), 28, 0, 0)]
theorem cb_85_129 : z_chk 85 bo_85_129 129 0 [] = true := by decide +kernel
def bo_85_135 : List ZO := [(.iload_n 2, 2, 0, 0), (.ireturn, 0, 0, 0)]
theorem cb_85_135 : z_chk 85 bo_85_135 135 0 [] = true := by decide +kernel
def bk_85 : List (Nat × ZE) := [(0, false, [true, true, false, false, false], bo_85_0, 0), (13, false, [true, true, false, false, false], bo_85_13, 28), (28, true, [true, true, true, true, false], bo_85_28, 0), (100, false, [true, true, true, true, false], bo_85_100, 0), (129, false, [true, true, true, true, false], bo_85_129, 0), (135, false, [false, false, true, false, false], bo_85_135, 0)]
theorem ck_85 : z_chks 85 bk_85 [[308], [281, 280, 395], [286, 691, 692, 286, 281, 215, 286, 281, 209, 281, 215, 545, 281, 586, 281, 213, 281, 419, 535], [281, 586, 281, 213, 281, 419, 535], [], []] = true := z_chks_cons cb_85_0 (z_chks_cons cb_85_13 (z_chks_cons cb_85_28 (z_chks_cons cb_85_100 (z_chks_cons cb_85_129 (z_chks_cons cb_85_135 (z_chks_nil))))))
theorem bf_85_0 : z_fd bk_85 0 = some (false, [true, true, false, false, false], bo_85_0, 0) := rfl
theorem bf_85_13 : z_fd bk_85 13 = some (false, [true, true, false, false, false], bo_85_13, 28) := rfl
theorem bf_85_28 : z_fd bk_85 28 = some (true, [true, true, true, true, false], bo_85_28, 0) := rfl
theorem bf_85_100 : z_fd bk_85 100 = some (false, [true, true, true, true, false], bo_85_100, 0) := rfl
theorem bf_85_129 : z_fd bk_85 129 = some (false, [true, true, true, true, false], bo_85_129, 0) := rfl
theorem bf_85_135 : z_fd bk_85 135 = some (false, [false, false, true, false, false], bo_85_135, 0) := rfl
theorem cl_85 : z_mL 85 = 5 := by decide +kernel
theorem cz_85 : plainFor (z_my 85) = true ∧ ((z_rm 85).cells = 0 ∧ (z_rm 85).slots = 0) := by decide +kernel
-- 86 MP_keep
def bo_86_0 : List ZO := [(.iload_n 1, 1, 0, 0), (.iconst 0, 0, 0, 0), (.iconst 1, 1, 0, 0), (.invokestatic 52, 88, 3, 0), (.ifCond .ne 5, 11, 0, 0), (.iconst (-1), 1, 0, 1), (.ireturn, 0, 0, 0)]
def bo_86_11 : List ZO := [(.aload_n 0, 0, 0, 0), (.getfield 33, 6, 4, 2), (.iload_n 1, 1, 0, 0), (.aaload, 0, 0, 0), (.aload_n 0, 0, 0, 0), (.getfield 19, 6, 1, 2), (.invokevirtual 68, 13, 2, 3), (.aload_n 0, 0, 0, 0), (.getfield 37, 6, 5, 2), (.iload_n 1, 1, 0, 0), (.iconst 1, 1, 0, 0), (.bastore, 0, 0, 0), (.aload_n 0, 0, 0, 0), (.getfield 19, 6, 1, 2), (.getfield 91, 2, 6, 0), (.ireturn, 0, 0, 0)]
def bk_86 : List (Nat × ZE) := [(0, false, [true, true], bo_86_0, 0), (11, false, [true, true], bo_86_11, 0)]
theorem ck_86 : z_chks 86 bk_86 [[308], [283, 280, 395, 284, 280, 222]] = true := by decide +kernel
theorem bf_86_0 : z_fd bk_86 0 = some (false, [true, true], bo_86_0, 0) := rfl
theorem bf_86_11 : z_fd bk_86 11 = some (false, [true, true], bo_86_11, 0) := rfl
theorem cl_86 : z_mL 86 = 2 := by decide +kernel
theorem cz_86 : plainFor (z_my 86) = true ∧ ((z_rm 86).cells = 0 ∧ (z_rm 86).slots = 0) := by decide +kernel
-- 87 MP_again
def bo_87_0 : List ZO := [(.iload_n 1, 1, 0, 0), (.iconst 0, 0, 0, 0), (.iconst 1, 1, 0, 0), (.invokestatic 52, 88, 3, 0), (.ifCond .ne 5, 11, 0, 0), (.iconst (-1), 1, 0, 1), (.ireturn, 0, 0, 0)]
def bo_87_11 : List ZO := [(.aload_n 0, 0, 0, 0), (.getfield 37, 6, 5, 2), (.iload_n 1, 1, 0, 0), (.baload, 0, 0, 0), (.ifCond .ne 6, 23, 0, 0), (.bipush (-3), 3, 0, 1), (.ireturn, 0, 0, 0)]
def bo_87_23 : List ZO := [(.aload_n 0, 0, 0, 0), (.getfield 19, 6, 1, 2), (.aload_n 0, 0, 0, 0), (.getfield 33, 6, 4, 2), (.iload_n 1, 1, 0, 0), (.aaload, 0, 0, 0), (.invokevirtual 68, 13, 2, 3), (.aload_n 0, 0, 0, 0), (.getfield 29, 6, 3, 2), (.invokevirtual 72, 1, 1, 1), (.aload_n 0, 0, 0, 0), (.getfield 19, 6, 1, 2), (.getfield 91, 2, 6, 0), (.ireturn, 0, 0, 0)]
def bk_87 : List (Nat × ZE) := [(0, false, [true, true], bo_87_0, 0), (11, false, [true, true], bo_87_11, 0), (23, false, [true, true], bo_87_23, 0)]
theorem ck_87 : z_chks 87 bk_87 [[308], [284], [280, 283, 395, 282, 407, 280, 222]] = true := by decide +kernel
theorem bf_87_0 : z_fd bk_87 0 = some (false, [true, true], bo_87_0, 0) := rfl
theorem bf_87_11 : z_fd bk_87 11 = some (false, [true, true], bo_87_11, 0) := rfl
theorem bf_87_23 : z_fd bk_87 23 = some (false, [true, true], bo_87_23, 0) := rfl
theorem cl_87 : z_mL 87 = 2 := by decide +kernel
theorem cz_87 : plainFor (z_my 87) = true ∧ ((z_rm 87).cells = 0 ∧ (z_rm 87).slots = 0) := by decide +kernel
-- 88 MP_isWithin
def bo_88_0 : List ZO := [(.iload_n 0, 0, 0, 0), (.iload_n 1, 1, 0, 0), (.if_icmp .lt 12, 14, 0, 0), (.iload_n 0, 0, 0, 0), (.iload_n 2, 2, 0, 0), (.if_icmp .gt 7, 14, 0, 0), (.iconst 1, 1, 0, 0), (.goto 4, 15, 0, 0)]
def bo_88_14 : List ZO := [(.iconst 0, 0, 0, 0), (.ireturn, 1, 0, 0)]
def bo_88_15 : List ZO := [(.ireturn, 1, 0, 0)]
def bk_88 : List (Nat × ZE) := [(0, false, [true, true, true], bo_88_0, 0), (14, false, [false, false, false], bo_88_14, 0), (15, false, [false, false, false], bo_88_15, 0)]
theorem ck_88 : z_chks 88 bk_88 [[], [], []] = true := by decide +kernel
theorem bf_88_0 : z_fd bk_88 0 = some (false, [true, true, true], bo_88_0, 0) := rfl
theorem bf_88_14 : z_fd bk_88 14 = some (false, [false, false, false], bo_88_14, 0) := rfl
theorem bf_88_15 : z_fd bk_88 15 = some (false, [false, false, false], bo_88_15, 0) := rfl
theorem cl_88 : z_mL 88 = 3 := by decide +kernel
theorem cz_88 : plainFor (z_my 88) = true ∧ ((z_rm 88).cells = 0 ∧ (z_rm 88).slots = 0) := by decide +kernel
-- 89 MP_offerError
def bo_89_0 : List ZO := [(.aload_n 0, 0, 0, 0), (.getfield 19, 6, 1, 2), (.iload_n 1, 1, 0, 0), (.invokevirtual 105, 14, 2, 3), (.ifCond .eq 14, 22, 0, 0), (.aload_n 0, 0, 0, 0), (.getfield 19, 6, 1, 2), (.iload_n 2, 2, 0, 0), (.invokevirtual 105, 14, 2, 3), (.ifCond .ne 5, 24, 0, 0), (.iconst (-1), 1, 0, 1), (.ireturn, 0, 0, 0)]
def bo_89_22 : List ZO := [(.iconst (-1), 1, 0, 1), (.ireturn, 0, 0, 0)]
def bo_89_24 : List ZO := [(.iload_n 1, 1, 0, 0), (.iload_n 2, 2, 0, 0), (.if_icmp .eq 14, 40, 0, 0), (.aload_n 0, 0, 0, 0), (.getfield 19, 6, 1, 2), (.iload_n 2, 2, 0, 0), (.invokevirtual 182, 16, 2, 3), (.ifCond .eq 8, 45, 0, 0), (.bipush (-2), 2, 0, 1), (.goto 4, 46, 0, 0)]
def bo_89_40 : List ZO := [(.bipush (-2), 2, 0, 1), (.goto 4, 46, 0, 0)]
def bo_89_45 : List ZO := [(.iconst 0, 0, 0, 0), (.ireturn, 0, 0, 0)]
def bo_89_46 : List ZO := [(.ireturn, 0, 0, 0)]
def bk_89 : List (Nat × ZE) := [(0, false, [true, true, true], bo_89_0, 0), (22, false, [false, false, false], bo_89_22, 0), (24, false, [true, true, true], bo_89_24, 0), (40, false, [false, false, false], bo_89_40, 0), (45, false, [false, false, false], bo_89_45, 0), (46, false, [false, false, false], bo_89_46, 0)]
theorem ck_89 : z_chks 89 bk_89 [[280, 443, 280, 443], [], [280, 468], [], [], []] = true := by decide +kernel
theorem bf_89_0 : z_fd bk_89 0 = some (false, [true, true, true], bo_89_0, 0) := rfl
theorem bf_89_22 : z_fd bk_89 22 = some (false, [false, false, false], bo_89_22, 0) := rfl
theorem bf_89_24 : z_fd bk_89 24 = some (false, [true, true, true], bo_89_24, 0) := rfl
theorem bf_89_40 : z_fd bk_89 40 = some (false, [false, false, false], bo_89_40, 0) := rfl
theorem bf_89_45 : z_fd bk_89 45 = some (false, [false, false, false], bo_89_45, 0) := rfl
theorem bf_89_46 : z_fd bk_89 46 = some (false, [false, false, false], bo_89_46, 0) := rfl
theorem cl_89 : z_mL 89 = 3 := by decide +kernel
theorem cz_89 : plainFor (z_my 89) = true ∧ ((z_rm 89).cells = 0 ∧ (z_rm 89).slots = 0) := by decide +kernel
-- 90 MP_withoutEvents
def bo_90_0 : List ZO := [(.lload_n 0, 0, 0, 0), (.lstore_n 3, 3, 0, 0), (.iconst 0, 0, 0, 0), (.istore 5, 5, 0, 0)]
def bo_90_5 : List ZO := [(.iload 5, 5, 0, 0), (.iload_n 2, 2, 0, 0), (.if_icmp .ge 15, 23, 0, 0), (.lload_n 3, 3, 0, 0), (.ldc2_w 211, 100000, 0, 0), (.ldiv, 0, 0, 0), (.lstore_n 3, 3, 0, 0), (.iinc 5 1, 1, 5, 0), (.goto (-15), 5, 0, 0)]
def bo_90_23 : List ZO := [(.lload_n 3, 3, 0, 0), (.lreturn, 0, 0, 0)]
def bk_90 : List (Nat × ZE) := [(0, false, [true, false, true, false, false, false], bo_90_0, 5), (5, true, [false, false, true, true, false, true], bo_90_5, 0), (23, false, [false, false, false, true, false, false], bo_90_23, 0)]
theorem ck_90 : z_chks 90 bk_90 [[], [613], []] = true := by decide +kernel
theorem bf_90_0 : z_fd bk_90 0 = some (false, [true, false, true, false, false, false], bo_90_0, 5) := rfl
theorem bf_90_5 : z_fd bk_90 5 = some (true, [false, false, true, true, false, true], bo_90_5, 0) := rfl
theorem bf_90_23 : z_fd bk_90 23 = some (false, [false, false, false, true, false, false], bo_90_23, 0) := rfl
theorem cl_90 : z_mL 90 = 6 := by decide +kernel
theorem cz_90 : plainFor (z_my 90) = true ∧ ((z_rm 90).cells = 0 ∧ (z_rm 90).slots = 0) := by decide +kernel
-- 91 MP_happens
def bo_91_0 : List ZO := [(.iload_n 1, 1, 0, 0), (.sipush 10000, 10000, 0, 0), (.idiv, 0, 0, 0), (.istore_n 2, 2, 0, 0), (.iload_n 1, 1, 0, 0), (.sipush 1000, 1000, 0, 0), (.idiv, 0, 0, 0), (.bipush 10, 10, 0, 0), (.irem, 0, 0, 0), (.istore_n 3, 3, 0, 0), (.iload_n 1, 1, 0, 0), (.bipush 100, 100, 0, 0), (.idiv, 0, 0, 0), (.bipush 10, 10, 0, 0), (.irem, 0, 0, 0), (.istore 4, 4, 0, 0), (.iload_n 1, 1, 0, 0), (.bipush 100, 100, 0, 0), (.irem, 0, 0, 0), (.ifCond .eq 5, 33, 0, 0), (.iconst 0, 0, 0, 0), (.ireturn, 1, 0, 0)]
theorem cb_91_0 : z_chk 91 bo_91_0 0 0 [] = true := by decide +kernel
def bo_91_33 : List ZO := [(.iload_n 2, 2, 0, 0), (.tableswitch 244 1 7 #[42, 73, 92, 100, 145, 191, 221], 34, 1, 7)]
theorem cb_91_33 : z_chk 91 bo_91_33 33 0 [] = true := by decide +kernel
def bo_91_76 : List ZO := [(.aload_n 0, 0, 0, 0), (.getfield 23, 6, 2, 2), (.bipush 10, 10, 0, 0), (.iload_n 3, 3, 0, 0), (.imul, 0, 0, 0), (.iload 4, 4, 0, 0), (.iadd, 0, 0, 0), (.iconst 0, 0, 0, 0), (.invokevirtual 166, 22, 3, 3), (.bipush 10, 10, 0, 0), (.iload_n 3, 3, 0, 0), (.imul, 0, 0, 0), (.iload 4, 4, 0, 0), (.iadd, 0, 0, 0), (.ifCond .le 7, 105, 0, 0), (.iconst 1, 1, 0, 0), (.goto 4, 106, 0, 0)]
theorem cb_91_76 : z_chk 91 bo_91_76 76 0 [281, 498] = true := by decide +kernel
def bo_91_105 : List ZO := [(.iconst 0, 0, 0, 0), (.ireturn, 1, 0, 0)]
theorem cb_91_105 : z_chk 91 bo_91_105 105 0 [] = true := by decide +kernel
def bo_91_106 : List ZO := [(.ireturn, 1, 0, 0)]
theorem cb_91_106 : z_chk 91 bo_91_106 106 0 [] = true := by decide +kernel
def bo_91_107 : List ZO := [(.iload 4, 4, 0, 0), (.ifCond .ne 15, 124, 0, 0), (.aload_n 0, 0, 0, 0), (.iload_n 3, 3, 0, 0), (.invokevirtual 245, 92, 2, 7), (.ifCond .eq 7, 124, 0, 0), (.iconst 1, 1, 0, 0), (.goto 4, 125, 0, 0)]
theorem cb_91_107 : z_chk 91 bo_91_107 107 0 [618] = true := by decide +kernel
def bo_91_124 : List ZO := [(.iconst 0, 0, 0, 0), (.ireturn, 1, 0, 0)]
theorem cb_91_124 : z_chk 91 bo_91_124 124 0 [] = true := by decide +kernel
def bo_91_125 : List ZO := [(.ireturn, 1, 0, 0)]
theorem cb_91_125 : z_chk 91 bo_91_125 125 0 [] = true := by decide +kernel
def bo_91_126 : List ZO := [(.aload_n 0, 0, 0, 0), (.iload_n 3, 3, 0, 0), (.iload 4, 4, 0, 0), (.invokevirtual 248, 93, 3, 7), (.ireturn, 1, 0, 0)]
theorem cb_91_126 : z_chk 91 bo_91_126 126 0 [622] = true := by decide +kernel
def bo_91_134 : List ZO := [(.aload_n 0, 0, 0, 0), (.getfield 23, 6, 2, 2), (.iload_n 3, 3, 0, 0), (.invokevirtual 105, 14, 2, 3), (.ifCond .eq 35, 177, 0, 0), (.iload 4, 4, 0, 0), (.iconst 1, 1, 0, 0), (.if_icmp .gt 29, 177, 0, 0), (.aload_n 0, 0, 0, 0), (.getfield 23, 6, 2, 2), (.iload_n 3, 3, 0, 0), (.invokevirtual 252, 26, 2, 3), (.iload 4, 4, 0, 0), (.iconst 1, 1, 0, 0), (.if_icmp .ne 7, 169, 0, 0), (.iconst 1, 1, 0, 0), (.goto 4, 170, 0, 0)]
theorem cb_91_134 : z_chk 91 bo_91_134 134 0 [281, 443, 281, 626] = true := by decide +kernel
def bo_91_169 : List ZO := [(.iconst 0, 0, 0, 0), (.if_icmp .ne 7, 177, 0, 0), (.iconst 1, 1, 0, 0), (.goto 4, 178, 0, 0)]
theorem cb_91_169 : z_chk 91 bo_91_169 169 0 [] = true := by decide +kernel
def bo_91_170 : List ZO := [(.if_icmp .ne 7, 177, 0, 0), (.iconst 1, 1, 0, 0), (.goto 4, 178, 0, 0)]
theorem cb_91_170 : z_chk 91 bo_91_170 170 0 [] = true := by decide +kernel
def bo_91_177 : List ZO := [(.iconst 0, 0, 0, 0), (.ireturn, 1, 0, 0)]
theorem cb_91_177 : z_chk 91 bo_91_177 177 0 [] = true := by decide +kernel
def bo_91_178 : List ZO := [(.ireturn, 1, 0, 0)]
theorem cb_91_178 : z_chk 91 bo_91_178 178 0 [] = true := by decide +kernel
def bo_91_179 : List ZO := [(.aload_n 0, 0, 0, 0), (.getfield 23, 6, 2, 2), (.iload_n 3, 3, 0, 0), (.invokevirtual 105, 14, 2, 3), (.ifCond .eq 36, 223, 0, 0), (.aload_n 0, 0, 0, 0), (.getfield 23, 6, 2, 2), (.iload 4, 4, 0, 0), (.invokevirtual 105, 14, 2, 3), (.ifCond .eq 24, 223, 0, 0), (.aload_n 0, 0, 0, 0), (.getfield 23, 6, 2, 2), (.getfield 150, 2, 0, 2), (.iload_n 3, 3, 0, 0), (.aaload, 0, 0, 0), (.getfield 201, 3, 4, 0), (.iload 4, 4, 0, 0), (.if_icmp .ne 7, 223, 0, 0), (.iconst 1, 1, 0, 0), (.goto 4, 224, 0, 0)]
theorem cb_91_179 : z_chk 91 bo_91_179 179 0 [281, 443, 281, 443, 281, 207, 108] = true := by decide +kernel
def bo_91_223 : List ZO := [(.iconst 0, 0, 0, 0), (.ireturn, 1, 0, 0)]
theorem cb_91_223 : z_chk 91 bo_91_223 223 0 [] = true := by decide +kernel
def bo_91_224 : List ZO := [(.ireturn, 1, 0, 0)]
theorem cb_91_224 : z_chk 91 bo_91_224 224 0 [] = true := by decide +kernel
def bo_91_225 : List ZO := [(.aload_n 0, 0, 0, 0), (.getfield 23, 6, 2, 2), (.iload_n 3, 3, 0, 0), (.invokevirtual 182, 16, 2, 3), (.ifCond .eq 20, 253, 0, 0), (.aload_n 0, 0, 0, 0), (.getfield 23, 6, 2, 2), (.iload_n 3, 3, 0, 0), (.invokevirtual 255, 28, 2, 3), (.iload 4, 4, 0, 0), (.if_icmp .ne 7, 253, 0, 0), (.iconst 1, 1, 0, 0), (.goto 4, 254, 0, 0)]
theorem cb_91_225 : z_chk 91 bo_91_225 225 0 [281, 468, 281, 627] = true := by decide +kernel
def bo_91_253 : List ZO := [(.iconst 0, 0, 0, 0), (.ireturn, 1, 0, 0)]
theorem cb_91_253 : z_chk 91 bo_91_253 253 0 [] = true := by decide +kernel
def bo_91_254 : List ZO := [(.ireturn, 1, 0, 0)]
theorem cb_91_254 : z_chk 91 bo_91_254 254 0 [] = true := by decide +kernel
def bo_91_255 : List ZO := [(.aload_n 0, 0, 0, 0), (.getfield 23, 6, 2, 2), (.getfield 88, 2, 5, 0), (.bipush 10, 10, 0, 0), (.iload_n 3, 3, 0, 0), (.imul, 0, 0, 0), (.iload 4, 4, 0, 0), (.iadd, 0, 0, 0), (.if_icmp .ne 7, 276, 0, 0), (.iconst 1, 1, 0, 0), (.goto 4, 277, 0, 0)]
theorem cb_91_255 : z_chk 91 bo_91_255 255 0 [281, 220] = true := by decide +kernel
def bo_91_276 : List ZO := [(.iconst 0, 0, 0, 0), (.ireturn, 1, 0, 0)]
theorem cb_91_276 : z_chk 91 bo_91_276 276 0 [] = true := by decide +kernel
def bo_91_277 : List ZO := [(.ireturn, 1, 0, 0)]
theorem cb_91_277 : z_chk 91 bo_91_277 277 0 [] = true := by decide +kernel
def bo_91_278 : List ZO := [(.iconst 0, 0, 0, 0), (.ireturn, 1, 0, 0)]
theorem cb_91_278 : z_chk 91 bo_91_278 278 0 [] = true := by decide +kernel
def bk_91 : List (Nat × ZE) := [(0, false, [true, true, false, false, false], bo_91_0, 0), (33, false, [true, false, true, true, true], bo_91_33, 0), (76, false, [true, false, false, true, true], bo_91_76, 0), (105, false, [false, false, false, false, false], bo_91_105, 0), (106, false, [false, false, false, false, false], bo_91_106, 0), (107, false, [true, false, false, true, true], bo_91_107, 0), (124, false, [false, false, false, false, false], bo_91_124, 0), (125, false, [false, false, false, false, false], bo_91_125, 0), (126, false, [true, false, false, true, true], bo_91_126, 0), (134, false, [true, false, false, true, true], bo_91_134, 0), (169, false, [false, false, false, false, false], bo_91_169, 0), (170, false, [false, false, false, false, false], bo_91_170, 0), (177, false, [false, false, false, false, false], bo_91_177, 0), (178, false, [false, false, false, false, false], bo_91_178, 0), (179, false, [true, false, false, true, true], bo_91_179, 0), (223, false, [false, false, false, false, false], bo_91_223, 0), (224, false, [false, false, false, false, false], bo_91_224, 0), (225, false, [true, false, false, true, true], bo_91_225, 0), (253, false, [false, false, false, false, false], bo_91_253, 0), (254, false, [false, false, false, false, false], bo_91_254, 0), (255, false, [true, false, false, true, true], bo_91_255, 0), (276, false, [false, false, false, false, false], bo_91_276, 0), (277, false, [false, false, false, false, false], bo_91_277, 0), (278, false, [false, false, false, false, false], bo_91_278, 0)]
theorem ck_91 : z_chks 91 bk_91 [[], [], [281, 498], [], [], [618], [], [], [622], [281, 443, 281, 626], [], [], [], [], [281, 443, 281, 443, 281, 207, 108], [], [], [281, 468, 281, 627], [], [], [281, 220], [], [], []] = true := z_chks_cons cb_91_0 (z_chks_cons cb_91_33 (z_chks_cons cb_91_76 (z_chks_cons cb_91_105 (z_chks_cons cb_91_106 (z_chks_cons cb_91_107 (z_chks_cons cb_91_124 (z_chks_cons cb_91_125 (z_chks_cons cb_91_126 (z_chks_cons cb_91_134 (z_chks_cons cb_91_169 (z_chks_cons cb_91_170 (z_chks_cons cb_91_177 (z_chks_cons cb_91_178 (z_chks_cons cb_91_179 (z_chks_cons cb_91_223 (z_chks_cons cb_91_224 (z_chks_cons cb_91_225 (z_chks_cons cb_91_253 (z_chks_cons cb_91_254 (z_chks_cons cb_91_255 (z_chks_cons cb_91_276 (z_chks_cons cb_91_277 (z_chks_cons cb_91_278 (z_chks_nil))))))))))))))))))))))))
theorem bf_91_0 : z_fd bk_91 0 = some (false, [true, true, false, false, false], bo_91_0, 0) := rfl
theorem bf_91_33 : z_fd bk_91 33 = some (false, [true, false, true, true, true], bo_91_33, 0) := rfl
theorem bf_91_76 : z_fd bk_91 76 = some (false, [true, false, false, true, true], bo_91_76, 0) := rfl
theorem bf_91_105 : z_fd bk_91 105 = some (false, [false, false, false, false, false], bo_91_105, 0) := rfl
theorem bf_91_106 : z_fd bk_91 106 = some (false, [false, false, false, false, false], bo_91_106, 0) := rfl
theorem bf_91_107 : z_fd bk_91 107 = some (false, [true, false, false, true, true], bo_91_107, 0) := rfl
theorem bf_91_124 : z_fd bk_91 124 = some (false, [false, false, false, false, false], bo_91_124, 0) := rfl
theorem bf_91_125 : z_fd bk_91 125 = some (false, [false, false, false, false, false], bo_91_125, 0) := rfl
theorem bf_91_126 : z_fd bk_91 126 = some (false, [true, false, false, true, true], bo_91_126, 0) := rfl
theorem bf_91_134 : z_fd bk_91 134 = some (false, [true, false, false, true, true], bo_91_134, 0) := rfl
theorem bf_91_169 : z_fd bk_91 169 = some (false, [false, false, false, false, false], bo_91_169, 0) := rfl
theorem bf_91_170 : z_fd bk_91 170 = some (false, [false, false, false, false, false], bo_91_170, 0) := rfl
theorem bf_91_177 : z_fd bk_91 177 = some (false, [false, false, false, false, false], bo_91_177, 0) := rfl
theorem bf_91_178 : z_fd bk_91 178 = some (false, [false, false, false, false, false], bo_91_178, 0) := rfl
theorem bf_91_179 : z_fd bk_91 179 = some (false, [true, false, false, true, true], bo_91_179, 0) := rfl
theorem bf_91_223 : z_fd bk_91 223 = some (false, [false, false, false, false, false], bo_91_223, 0) := rfl
theorem bf_91_224 : z_fd bk_91 224 = some (false, [false, false, false, false, false], bo_91_224, 0) := rfl
theorem bf_91_225 : z_fd bk_91 225 = some (false, [true, false, false, true, true], bo_91_225, 0) := rfl
theorem bf_91_253 : z_fd bk_91 253 = some (false, [false, false, false, false, false], bo_91_253, 0) := rfl
theorem bf_91_254 : z_fd bk_91 254 = some (false, [false, false, false, false, false], bo_91_254, 0) := rfl
theorem bf_91_255 : z_fd bk_91 255 = some (false, [true, false, false, true, true], bo_91_255, 0) := rfl
theorem bf_91_276 : z_fd bk_91 276 = some (false, [false, false, false, false, false], bo_91_276, 0) := rfl
theorem bf_91_277 : z_fd bk_91 277 = some (false, [false, false, false, false, false], bo_91_277, 0) := rfl
theorem bf_91_278 : z_fd bk_91 278 = some (false, [false, false, false, false, false], bo_91_278, 0) := rfl
theorem cl_91 : z_mL 91 = 5 := by decide +kernel
theorem cz_91 : plainFor (z_my 91) = true ∧ ((z_rm 91).cells = 0 ∧ (z_rm 91).slots = 0) := by decide +kernel
-- 92 MP_flipInTrial
def bo_92_0 : List ZO := [(.aload_n 0, 0, 0, 0), (.getfield 23, 6, 2, 2), (.iload_n 1, 1, 0, 0), (.invokevirtual 113, 15, 2, 3), (.ifCond .ne 5, 13, 0, 0), (.iconst 0, 0, 0, 0), (.ireturn, 1, 0, 0)]
def bo_92_13 : List ZO := [(.aload_n 0, 0, 0, 0), (.getfield 23, 6, 2, 2), (.getfield 116, 2, 1, 2), (.iload_n 1, 1, 0, 0), (.aaload, 0, 0, 0), (.invokevirtual 175, 7, 1, 2), (.iconst 1, 1, 0, 0), (.ireturn, 1, 0, 0)]
def bk_92 : List (Nat × ZE) := [(0, false, [true, true], bo_92_0, 0), (13, false, [true, true], bo_92_13, 0)]
theorem ck_92 : z_chks 92 bk_92 [[281, 456], [281, 209, 545]] = true := by decide +kernel
theorem bf_92_0 : z_fd bk_92 0 = some (false, [true, true], bo_92_0, 0) := rfl
theorem bf_92_13 : z_fd bk_92 13 = some (false, [true, true], bo_92_13, 0) := rfl
theorem cl_92 : z_mL 92 = 2 := by decide +kernel
theorem cz_92 : plainFor (z_my 92) = true ∧ ((z_rm 92).cells = 0 ∧ (z_rm 92).slots = 0) := by decide +kernel
-- 93 MP_setOffsetInTrial
def bo_93_0 : List ZO := [(.aload_n 0, 0, 0, 0), (.getfield 23, 6, 2, 2), (.iload_n 1, 1, 0, 0), (.invokevirtual 182, 16, 2, 3), (.ifCond .ne 5, 13, 0, 0), (.iconst 0, 0, 0, 0), (.ireturn, 1, 0, 0)]
def bo_93_13 : List ZO := [(.aload_n 0, 0, 0, 0), (.getfield 23, 6, 2, 2), (.getfield 150, 2, 0, 2), (.iload_n 1, 1, 0, 0), (.aaload, 0, 0, 0), (.iload_n 2, 2, 0, 0), (.putfield 185, 3, 1, 0), (.iconst 1, 1, 0, 0), (.ireturn, 1, 0, 0)]
def bk_93 : List (Nat × ZE) := [(0, false, [true, true, true], bo_93_0, 0), (13, false, [true, true, true], bo_93_13, 0)]
theorem ck_93 : z_chks 93 bk_93 [[281, 468], [281, 207, 98]] = true := by decide +kernel
theorem bf_93_0 : z_fd bk_93 0 = some (false, [true, true, true], bo_93_0, 0) := rfl
theorem bf_93_13 : z_fd bk_93 13 = some (false, [true, true, true], bo_93_13, 0) := rfl
theorem cl_93 : z_mL 93 = 3 := by decide +kernel
theorem cz_93 : plainFor (z_my 93) = true ∧ ((z_rm 93).cells = 0 ∧ (z_rm 93).slots = 0) := by decide +kernel
-- 94 MP_explainsAll
def bo_94_0 : List ZO := [(.aload_n 0, 0, 0, 0), (.getfield 23, 6, 2, 2), (.aload_n 0, 0, 0, 0), (.getfield 19, 6, 1, 2), (.invokevirtual 68, 13, 2, 3), (.aload_n 0, 0, 0, 0), (.getfield 23, 6, 2, 2), (.getfield 116, 2, 1, 2), (.iload_n 1, 1, 0, 0), (.aaload, 0, 0, 0), (.iconst 1, 1, 0, 0), (.putfield 140, 1, 6, 3), (.iconst 0, 0, 0, 0), (.istore_n 2, 2, 0, 0)]
def bo_94_26 : List ZO := [(.iload_n 2, 2, 0, 0), (.bipush 20, 20, 0, 0), (.if_icmp .gt 37, 66, 0, 0), (.aload_n 0, 0, 0, 0), (.getfield 44, 6, 6, 2), (.iload_n 2, 2, 0, 0), (.aload_n 0, 0, 0, 0), (.getfield 23, 6, 2, 2), (.invokevirtual 94, 27, 1, 3), (.invokevirtual 258, 46, 3, 5), (.ifCond .ne 5, 52, 0, 0), (.iconst 0, 0, 0, 0), (.ireturn, 1, 0, 0)]
def bo_94_52 : List ZO := [(.aload_n 0, 0, 0, 0), (.getfield 23, 6, 2, 2), (.iconst 0, 0, 0, 0), (.invokevirtual 195, 23, 2, 3), (.iinc 2 1, 1, 2, 0), (.goto (-37), 26, 0, 0)]
def bo_94_66 : List ZO := [(.iconst 1, 1, 0, 0), (.ireturn, 1, 0, 0)]
def bk_94 : List (Nat × ZE) := [(0, false, [true, true, false], bo_94_0, 26), (26, true, [true, false, true], bo_94_26, 0), (52, false, [true, false, true], bo_94_52, 0), (66, false, [false, false, false], bo_94_66, 0)]
theorem ck_94 : z_chks 94 bk_94 [[281, 280, 395, 281, 209, 189], [285, 281, 419, 648], [281, 586], []] = true := by decide +kernel
theorem bf_94_0 : z_fd bk_94 0 = some (false, [true, true, false], bo_94_0, 26) := rfl
theorem bf_94_26 : z_fd bk_94 26 = some (true, [true, false, true], bo_94_26, 0) := rfl
theorem bf_94_52 : z_fd bk_94 52 = some (false, [true, false, true], bo_94_52, 0) := rfl
theorem bf_94_66 : z_fd bk_94 66 = some (false, [false, false, false], bo_94_66, 0) := rfl
theorem cl_94 : z_mL 94 = 3 := by decide +kernel
theorem cz_94 : plainFor (z_my 94) = true ∧ ((z_rm 94).cells = 0 ∧ (z_rm 94).slots = 0) := by decide +kernel
-- 95 MP_worth
def bo_95_0 : List ZO := [(.aload_n 0, 0, 0, 0), (.getfield 23, 6, 2, 2), (.aload_n 0, 0, 0, 0), (.getfield 19, 6, 1, 2), (.invokevirtual 68, 13, 2, 3), (.aload_n 0, 0, 0, 0), (.getfield 23, 6, 2, 2), (.bipush 20, 20, 0, 0), (.aload_n 0, 0, 0, 0), (.getfield 23, 6, 2, 2), (.iconst 0, 0, 0, 0), (.invokevirtual 81, 17, 2, 3), (.iload_n 1, 1, 0, 0), (.iconst (-1), 1, 0, 1), (.ixor, 0, 0, 0), (.iand, 0, 0, 0), (.invokevirtual 166, 22, 3, 3), (.iconst 0, 0, 0, 0), (.istore_n 2, 2, 0, 0), (.iconst 0, 0, 0, 0), (.istore_n 3, 3, 0, 0)]
def bo_95_36 : List ZO := [(.iload_n 3, 3, 0, 0), (.aload_n 0, 0, 0, 0), (.getfield 23, 6, 2, 2), (.getfield 75, 2, 2, 0), (.if_icmp .ge 36, 80, 0, 0), (.aload_n 0, 0, 0, 0), (.getfield 23, 6, 2, 2), (.iload_n 3, 3, 0, 0), (.invokevirtual 261, 25, 2, 3), (.istore 4, 4, 0, 0), (.iload 4, 4, 0, 0), (.ifCond .lt 15, 74, 0, 0), (.iload_n 1, 1, 0, 0), (.iconst 1, 1, 0, 0), (.iload 4, 4, 0, 0), (.ishl, 0, 0, 0), (.iand, 0, 0, 0), (.ifCond .eq 6, 74, 0, 0), (.iinc 2 1, 1, 2, 0), (.iinc 3 1, 1, 3, 0), (.goto (-41), 36, 0, 0)]
def bo_95_74 : List ZO := [(.iinc 3 1, 1, 3, 0), (.goto (-41), 36, 0, 0)]
def bo_95_80 : List ZO := [(.iload_n 2, 2, 0, 0), (.ireturn, 0, 0, 0)]
def bk_95 : List (Nat × ZE) := [(0, false, [true, true, false, false, false], bo_95_0, 36), (36, true, [true, true, true, true, false], bo_95_36, 0), (74, false, [true, true, true, true, false], bo_95_74, 0), (80, false, [false, false, true, false, false], bo_95_80, 0)]
theorem ck_95 : z_chks 95 bk_95 [[281, 280, 395, 281, 281, 415, 498], [281, 213, 281, 662], [], []] = true := by decide +kernel
theorem bf_95_0 : z_fd bk_95 0 = some (false, [true, true, false, false, false], bo_95_0, 36) := rfl
theorem bf_95_36 : z_fd bk_95 36 = some (true, [true, true, true, true, false], bo_95_36, 0) := rfl
theorem bf_95_74 : z_fd bk_95 74 = some (false, [true, true, true, true, false], bo_95_74, 0) := rfl
theorem bf_95_80 : z_fd bk_95 80 = some (false, [false, false, true, false, false], bo_95_80, 0) := rfl
theorem cl_95 : z_mL 95 = 5 := by decide +kernel
theorem cz_95 : plainFor (z_my 95) = true ∧ ((z_rm 95).cells = 0 ∧ (z_rm 95).slots = 0) := by decide +kernel
-- 96 MP_reachesAllWithout
def bo_96_0 : List ZO := [(.aload_n 0, 0, 0, 0), (.getfield 23, 6, 2, 2), (.aload_n 0, 0, 0, 0), (.getfield 19, 6, 1, 2), (.invokevirtual 68, 13, 2, 3), (.iconst 0, 0, 0, 0), (.istore_n 2, 2, 0, 0)]
def bo_96_13 : List ZO := [(.iload_n 2, 2, 0, 0), (.aload_n 0, 0, 0, 0), (.getfield 23, 6, 2, 2), (.getfield 78, 2, 3, 0), (.if_icmp .ge 30, 51, 0, 0), (.iload_n 1, 1, 0, 0), (.iconst 1, 1, 0, 0), (.iload_n 2, 2, 0, 0), (.ishl, 0, 0, 0), (.iand, 0, 0, 0), (.ifCond .eq 16, 45, 0, 0), (.aload_n 0, 0, 0, 0), (.getfield 23, 6, 2, 2), (.getfield 116, 2, 1, 2), (.iload_n 2, 2, 0, 0), (.aaload, 0, 0, 0), (.iconst 1, 1, 0, 0), (.putfield 140, 1, 6, 3), (.iinc 2 1, 1, 2, 0), (.goto (-35), 13, 0, 0)]
def bo_96_45 : List ZO := [(.iinc 2 1, 1, 2, 0), (.goto (-35), 13, 0, 0)]
def bo_96_51 : List ZO := [(.aload_n 0, 0, 0, 0), (.getfield 23, 6, 2, 2), (.bipush 20, 20, 0, 0), (.iconst 0, 0, 0, 0), (.invokevirtual 166, 22, 3, 3), (.aload_n 0, 0, 0, 0), (.getfield 23, 6, 2, 2), (.invokevirtual 94, 27, 1, 3), (.invokestatic 170, 175, 1, 0), (.aload_n 0, 0, 0, 0), (.getfield 23, 6, 2, 2), (.getfield 75, 2, 2, 0), (.if_icmp .ne 7, 85, 0, 0), (.iconst 1, 1, 0, 0), (.goto 4, 86, 0, 0)]
def bo_96_85 : List ZO := [(.iconst 0, 0, 0, 0), (.ireturn, 1, 0, 0)]
def bo_96_86 : List ZO := [(.ireturn, 1, 0, 0)]
def bk_96 : List (Nat × ZE) := [(0, false, [true, true, false], bo_96_0, 13), (13, true, [true, true, true], bo_96_13, 0), (45, false, [true, true, true], bo_96_45, 0), (51, false, [true, false, false], bo_96_51, 0), (85, false, [false, false, false], bo_96_85, 0), (86, false, [false, false, false], bo_96_86, 0)]
theorem ck_96 : z_chks 96 bk_96 [[281, 280, 395], [281, 215, 281, 209, 189], [], [281, 498, 281, 419, 535, 281, 213], [], []] = true := by decide +kernel
theorem bf_96_0 : z_fd bk_96 0 = some (false, [true, true, false], bo_96_0, 13) := rfl
theorem bf_96_13 : z_fd bk_96 13 = some (true, [true, true, true], bo_96_13, 0) := rfl
theorem bf_96_45 : z_fd bk_96 45 = some (false, [true, true, true], bo_96_45, 0) := rfl
theorem bf_96_51 : z_fd bk_96 51 = some (false, [true, false, false], bo_96_51, 0) := rfl
theorem bf_96_85 : z_fd bk_96 85 = some (false, [false, false, false], bo_96_85, 0) := rfl
theorem bf_96_86 : z_fd bk_96 86 = some (false, [false, false, false], bo_96_86, 0) := rfl
theorem cl_96 : z_mL 96 = 3 := by decide +kernel
theorem cz_96 : plainFor (z_my 96) = true ∧ ((z_rm 96).cells = 0 ∧ (z_rm 96).slots = 0) := by decide +kernel
-- 97 MP_power
def bo_97_0 : List ZO := [(.lconst 1, 1, 0, 0), (.lstore_n 2, 2, 0, 0), (.iconst 0, 0, 0, 0), (.istore 4, 4, 0, 0)]
def bo_97_5 : List ZO := [(.iload 4, 4, 0, 0), (.iload_n 1, 1, 0, 0), (.if_icmp .ge 14, 22, 0, 0), (.lload_n 2, 2, 0, 0), (.iload_n 0, 0, 0, 0), (.i2l, 0, 0, 0), (.lmul, 0, 0, 0), (.lstore_n 2, 2, 0, 0), (.iinc 4 1, 1, 4, 0), (.goto (-14), 5, 0, 0)]
def bo_97_22 : List ZO := [(.lload_n 2, 2, 0, 0), (.lreturn, 0, 0, 0)]
def bk_97 : List (Nat × ZE) := [(0, false, [true, true, false, false, false], bo_97_0, 5), (5, true, [true, true, true, false, true], bo_97_5, 0), (22, false, [false, false, true, false, false], bo_97_22, 0)]
theorem ck_97 : z_chks 97 bk_97 [[], [], []] = true := by decide +kernel
theorem bf_97_0 : z_fd bk_97 0 = some (false, [true, true, false, false, false], bo_97_0, 5) := rfl
theorem bf_97_5 : z_fd bk_97 5 = some (true, [true, true, true, false, true], bo_97_5, 0) := rfl
theorem bf_97_22 : z_fd bk_97 22 = some (false, [false, false, true, false, false], bo_97_22, 0) := rfl
theorem cl_97 : z_mL 97 = 5 := by decide +kernel
theorem cz_97 : plainFor (z_my 97) = true ∧ ((z_rm 97).cells = 0 ∧ (z_rm 97).slots = 0) := by decide +kernel
-- 98 MP_inLowestTerms
def bo_98_0 : List ZO := [(.lload_n 0, 0, 0, 0), (.invokestatic 264, 176, 1, 0), (.lload_n 2, 2, 0, 0), (.invokestatic 270, 99, 2, 0), (.lstore 5, 5, 0, 0), (.lload 5, 5, 0, 0), (.lconst 1, 1, 0, 0), (.lcmp, 0, 0, 0), (.ifCond .ge 5, 19, 0, 0), (.iconst 0, 0, 0, 0), (.ireturn, 0, 0, 0)]
def bo_98_19 : List ZO := [(.iload 4, 4, 0, 0), (.ifCond .eq 7, 28, 0, 0), (.lload_n 0, 0, 0, 0), (.goto 4, 29, 0, 0)]
def bo_98_28 : List ZO := [(.lload_n 2, 2, 0, 0), (.lload 5, 5, 0, 0), (.ldiv, 0, 0, 0), (.l2i, 0, 0, 0), (.ireturn, 0, 0, 0)]
def bo_98_29 : List ZO := [(.lload 5, 5, 0, 0), (.ldiv, 0, 0, 0), (.l2i, 0, 0, 0), (.ireturn, 0, 0, 0)]
def bk_98 : List (Nat × ZE) := [(0, false, [true, false, true, false, true, false, false], bo_98_0, 0), (19, false, [true, false, true, false, true, true, false], bo_98_19, 0), (28, false, [false, false, true, false, false, true, false], bo_98_28, 0), (29, false, [false, false, false, false, false, true, false], bo_98_29, 0)]
theorem ck_98 : z_chks 98 bk_98 [[666, 669], [], [], []] = true := by decide +kernel
theorem bf_98_0 : z_fd bk_98 0 = some (false, [true, false, true, false, true, false, false], bo_98_0, 0) := rfl
theorem bf_98_19 : z_fd bk_98 19 = some (false, [true, false, true, false, true, true, false], bo_98_19, 0) := rfl
theorem bf_98_28 : z_fd bk_98 28 = some (false, [false, false, true, false, false, true, false], bo_98_28, 0) := rfl
theorem bf_98_29 : z_fd bk_98 29 = some (false, [false, false, false, false, false, true, false], bo_98_29, 0) := rfl
theorem cl_98 : z_mL 98 = 7 := by decide +kernel
theorem cz_98 : plainFor (z_my 98) = true ∧ ((z_rm 98).cells = 0 ∧ (z_rm 98).slots = 0) := by decide +kernel
-- 99 MP_greatestCommonDivisor
def bo_99_0 : List ZO := [(.lload_n 0, 0, 0, 0), (.lstore 4, 4, 0, 0), (.lload_n 2, 2, 0, 0), (.lstore 6, 6, 0, 0), (.iconst 0, 0, 0, 0), (.istore 8, 8, 0, 0)]
def bo_99_9 : List ZO := [(.iload 8, 8, 0, 0), (.sipush 200, 200, 0, 0), (.if_icmp .ge 31, 45, 0, 0), (.lload 6, 6, 0, 0), (.lconst 0, 0, 0, 0), (.lcmp, 0, 0, 0), (.ifCond .eq 24, 45, 0, 0), (.lload 4, 4, 0, 0), (.lload 6, 6, 0, 0), (.lrem, 0, 0, 0), (.lstore 9, 9, 0, 0), (.lload 6, 6, 0, 0), (.lstore 4, 4, 0, 0), (.lload 9, 9, 0, 0), (.lstore 6, 6, 0, 0), (.iinc 8 1, 1, 8, 0), (.goto (-33), 9, 0, 0)]
def bo_99_45 : List ZO := [(.lload 4, 4, 0, 0), (.lreturn, 0, 0, 0)]
def bk_99 : List (Nat × ZE) := [(0, false, [true, false, true, false, false, false, false, false, false, false, false], bo_99_0, 9), (9, true, [false, false, false, false, true, false, true, false, true, false, false], bo_99_9, 0), (45, false, [false, false, false, false, true, false, false, false, false, false, false], bo_99_45, 0)]
theorem ck_99 : z_chks 99 bk_99 [[], [], []] = true := by decide +kernel
theorem bf_99_0 : z_fd bk_99 0 = some (false, [true, false, true, false, false, false, false, false, false, false, false], bo_99_0, 9) := rfl
theorem bf_99_9 : z_fd bk_99 9 = some (true, [false, false, false, false, true, false, true, false, true, false, false], bo_99_9, 0) := rfl
theorem bf_99_45 : z_fd bk_99 45 = some (false, [false, false, false, false, true, false, false, false, false, false, false], bo_99_45, 0) := rfl
theorem cl_99 : z_mL 99 = 11 := by decide +kernel
theorem cz_99 : plainFor (z_my 99) = true ∧ ((z_rm 99).cells = 0 ∧ (z_rm 99).slots = 0) := by decide +kernel
