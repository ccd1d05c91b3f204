/-! the code of the methods in blocks (written by wip/whole/gen08.py): (instruction, what it means) *, checked against the bytes -/
-- 175 Integer_bitCount
def bo_175_0 : List ZO := [(.iload_n 0, 0, 0, 0), (.iload_n 0, 0, 0, 0), (.iconst 1, 1, 0, 0), (.iushr, 0, 0, 0), (.ldc_w 265, 1431655765, 0, 0), (.iand, 0, 0, 0), (.isub, 0, 0, 0), (.istore_n 0, 0, 0, 0), (.iload_n 0, 0, 0, 0), (.ldc_w 266, 858993459, 0, 0), (.iand, 0, 0, 0), (.iload_n 0, 0, 0, 0), (.iconst 2, 2, 0, 0), (.iushr, 0, 0, 0), (.ldc_w 266, 858993459, 0, 0), (.iand, 0, 0, 0), (.iadd, 0, 0, 0), (.istore_n 0, 0, 0, 0), (.iload_n 0, 0, 0, 0), (.iload_n 0, 0, 0, 0), (.iconst 4, 4, 0, 0), (.iushr, 0, 0, 0), (.iadd, 0, 0, 0), (.ldc_w 267, 252645135, 0, 0), (.iand, 0, 0, 0), (.istore_n 0, 0, 0, 0), (.iload_n 0, 0, 0, 0), (.iload_n 0, 0, 0, 0), (.bipush 8, 8, 0, 0), (.iushr, 0, 0, 0), (.iadd, 0, 0, 0), (.istore_n 0, 0, 0, 0), (.iload_n 0, 0, 0, 0), (.iload_n 0, 0, 0, 0), (.bipush 16, 16, 0, 0), (.iushr, 0, 0, 0), (.iadd, 0, 0, 0), (.istore_n 0, 0, 0, 0), (.iload_n 0, 0, 0, 0), (.bipush 63, 63, 0, 0), (.iand, 0, 0, 0), (.ireturn, 0, 0, 0)]
def bk_175 : List (Nat × ZE) := [(0, false, [true], bo_175_0, 0)]
theorem ck_175 : z_chks 175 bk_175 [[538, 539, 539, 540]] = true := by decide +kernel
theorem bf_175_0 : z_fd bk_175 0 = some (false, [true], bo_175_0, 0) := rfl
theorem cl_175 : z_mL 175 = 1 := by decide +kernel
theorem cz_175 : plainFor (z_my 175) = true ∧ ((z_rm 175).cells = 0 ∧ (z_rm 175).slots = 0) := by decide +kernel
-- 176 Math_abs
def bo_176_0 : List ZO := [(.lload_n 0, 0, 0, 0), (.lconst 0, 0, 0, 0), (.lcmp, 0, 0, 0), (.ifCond .ge 8, 11, 0, 0), (.lload_n 0, 0, 0, 0), (.lneg, 0, 0, 0), (.goto 4, 12, 0, 0)]
def bo_176_11 : List ZO := [(.lload_n 0, 0, 0, 0), (.lreturn, 0, 0, 0)]
def bo_176_12 : List ZO := [(.lreturn, 0, 0, 0)]
def bk_176 : List (Nat × ZE) := [(0, false, [true, false], bo_176_0, 0), (11, false, [true, false], bo_176_11, 0), (12, false, [false, false], bo_176_12, 0)]
theorem ck_176 : z_chks 176 bk_176 [[], [], []] = true := by decide +kernel
theorem bf_176_0 : z_fd bk_176 0 = some (false, [true, false], bo_176_0, 0) := rfl
theorem bf_176_11 : z_fd bk_176 11 = some (false, [true, false], bo_176_11, 0) := rfl
theorem bf_176_12 : z_fd bk_176 12 = some (false, [false, false], bo_176_12, 0) := rfl
theorem cl_176 : z_mL 176 = 2 := by decide +kernel
theorem cz_176 : plainFor (z_my 176) = true ∧ ((z_rm 176).cells = 0 ∧ (z_rm 176).slots = 0) := by decide +kernel
-- 177 Math_max
def bo_177_0 : List ZO := [(.iload_n 0, 0, 0, 0), (.iload_n 1, 1, 0, 0), (.if_icmp .lt 7, 9, 0, 0), (.iload_n 0, 0, 0, 0), (.goto 4, 10, 0, 0)]
def bo_177_9 : List ZO := [(.iload_n 1, 1, 0, 0), (.ireturn, 0, 0, 0)]
def bo_177_10 : List ZO := [(.ireturn, 0, 0, 0)]
def bk_177 : List (Nat × ZE) := [(0, false, [true, true], bo_177_0, 0), (9, false, [false, true], bo_177_9, 0), (10, false, [false, false], bo_177_10, 0)]
theorem ck_177 : z_chks 177 bk_177 [[], [], []] = true := by decide +kernel
theorem bf_177_0 : z_fd bk_177 0 = some (false, [true, true], bo_177_0, 0) := rfl
theorem bf_177_9 : z_fd bk_177 9 = some (false, [false, true], bo_177_9, 0) := rfl
theorem bf_177_10 : z_fd bk_177 10 = some (false, [false, false], bo_177_10, 0) := rfl
theorem cl_177 : z_mL 177 = 2 := by decide +kernel
theorem cz_177 : plainFor (z_my 177) = true ∧ ((z_rm 177).cells = 0 ∧ (z_rm 177).slots = 0) := by decide +kernel
-- 178 Math_min
def bo_178_0 : List ZO := [(.iload_n 0, 0, 0, 0), (.iload_n 1, 1, 0, 0), (.if_icmp .gt 7, 9, 0, 0), (.iload_n 0, 0, 0, 0), (.goto 4, 10, 0, 0)]
def bo_178_9 : List ZO := [(.iload_n 1, 1, 0, 0), (.ireturn, 0, 0, 0)]
def bo_178_10 : List ZO := [(.ireturn, 0, 0, 0)]
def bk_178 : List (Nat × ZE) := [(0, false, [true, true], bo_178_0, 0), (9, false, [false, true], bo_178_9, 0), (10, false, [false, false], bo_178_10, 0)]
theorem ck_178 : z_chks 178 bk_178 [[], [], []] = true := by decide +kernel
theorem bf_178_0 : z_fd bk_178 0 = some (false, [true, true], bo_178_0, 0) := rfl
theorem bf_178_9 : z_fd bk_178 9 = some (false, [false, true], bo_178_9, 0) := rfl
theorem bf_178_10 : z_fd bk_178 10 = some (false, [false, false], bo_178_10, 0) := rfl
theorem cl_178 : z_mL 178 = 2 := by decide +kernel
theorem cz_178 : plainFor (z_my 178) = true ∧ ((z_rm 178).cells = 0 ∧ (z_rm 178).slots = 0) := by decide +kernel
-- 179 Law_law
def bo_179_0 : List ZO := [(.new 7, 6, 8, 0), (.dup, 0, 0, 0), (.invokespecial 9, 58, 1, 7), (.astore_n 1, 1, 0, 0), (.new 10, 7, 40, 0), (.dup, 0, 0, 0), (.invokespecial 12, 100, 1, 8), (.astore_n 2, 2, 0, 0), (.iconst 0, 0, 0, 0), (.istore_n 3, 3, 0, 0)]
theorem cb_179_0 : z_chk 179 bo_179_0 0 18 [55, 57, 701, 703] = true := by decide +kernel
def bo_179_18 : List ZO := [(.iload_n 3, 3, 0, 0), (.aload_n 0, 0, 0, 0), (.arraylength, 0, 0, 0), (.iconst 4, 4, 0, 0), (.isub, 0, 0, 0), (.if_icmp .gt 993, 1016, 0, 0), (.aload_n 0, 0, 0, 0), (.iload_n 3, 3, 0, 0), (.iaload, 2, 0, 0), (.bipush 31, 31, 0, 0), (.iand, 0, 0, 0), (.tableswitch 978 0 28 #[132, 155, 168, 181, 194, 217, 250, 283, 316, 349, 372, 395, 454, 487, 510, 523, 566, 579, 602, 625, 688, 731, 744, 757, 806, 855, 909, 932, 955], 32, 0, 28)]
theorem cb_179_18 : z_chk 179 bo_179_18 18 0 [] = true := by decide +kernel
def bo_179_164 : List ZO := [(.aload_n 1, 1, 0, 0), (.aload_n 0, 0, 0, 0), (.iload_n 3, 3, 0, 0), (.iconst 1, 1, 0, 0), (.iadd, 0, 0, 0), (.iaload, 2, 0, 0), (.invokevirtual 13, 59, 2, 7), (.aload_n 2, 2, 0, 0), (.aload_n 0, 0, 0, 0), (.iload_n 3, 3, 0, 0), (.iconst 1, 1, 0, 0), (.iadd, 0, 0, 0), (.iaload, 2, 0, 0), (.invokevirtual 17, 112, 2, 8), (.if_icmp .eq 828, 1010, 0, 0), (.iconst 0, 0, 0, 0), (.ireturn, 1, 0, 0)]
theorem cb_179_164 : z_chk 179 bo_179_164 164 0 [304, 832] = true := by decide +kernel
def bo_179_187 : List ZO := [(.aload_n 1, 1, 0, 0), (.invokevirtual 18, 60, 1, 7), (.aload_n 2, 2, 0, 0), (.invokevirtual 22, 113, 1, 8), (.if_icmp .eq 815, 1010, 0, 0), (.iconst 0, 0, 0, 0), (.ireturn, 1, 0, 0)]
theorem cb_179_187 : z_chk 179 bo_179_187 187 0 [315, 840] = true := by decide +kernel
def bo_179_200 : List ZO := [(.aload_n 1, 1, 0, 0), (.invokevirtual 23, 61, 1, 7), (.aload_n 2, 2, 0, 0), (.invokevirtual 26, 123, 1, 8), (.if_icmp .eq 802, 1010, 0, 0), (.iconst 0, 0, 0, 0), (.ireturn, 1, 0, 0)]
theorem cb_179_200 : z_chk 179 bo_179_200 200 0 [319, 844] = true := by decide +kernel
def bo_179_213 : List ZO := [(.aload_n 1, 1, 0, 0), (.invokevirtual 27, 62, 1, 7), (.aload_n 2, 2, 0, 0), (.invokevirtual 30, 124, 1, 8), (.if_icmp .eq 789, 1010, 0, 0), (.iconst 0, 0, 0, 0), (.ireturn, 1, 0, 0)]
theorem cb_179_213 : z_chk 179 bo_179_213 213 0 [391, 885] = true := by decide +kernel
def bo_179_226 : List ZO := [(.aload_n 1, 1, 0, 0), (.aload_n 0, 0, 0, 0), (.iload_n 3, 3, 0, 0), (.iconst 1, 1, 0, 0), (.iadd, 0, 0, 0), (.iaload, 2, 0, 0), (.invokevirtual 31, 63, 2, 7), (.aload_n 2, 2, 0, 0), (.aload_n 0, 0, 0, 0), (.iload_n 3, 3, 0, 0), (.iconst 1, 1, 0, 0), (.iadd, 0, 0, 0), (.iaload, 2, 0, 0), (.invokevirtual 34, 142, 2, 8), (.if_icmp .eq 766, 1010, 0, 0), (.iconst 0, 0, 0, 0), (.ireturn, 1, 0, 0)]
theorem cb_179_226 : z_chk 179 bo_179_226 226 0 [411, 889] = true := by decide +kernel
def bo_179_249 : List ZO := [(.aload_n 1, 1, 0, 0), (.aload_n 0, 0, 0, 0), (.iload_n 3, 3, 0, 0), (.iconst 1, 1, 0, 0), (.iadd, 0, 0, 0), (.iaload, 2, 0, 0), (.aload_n 0, 0, 0, 0), (.iload_n 3, 3, 0, 0), (.iconst 2, 2, 0, 0), (.iadd, 0, 0, 0), (.iaload, 2, 0, 0), (.invokevirtual 35, 64, 3, 7), (.aload_n 2, 2, 0, 0), (.aload_n 0, 0, 0, 0), (.iload_n 3, 3, 0, 0), (.iconst 1, 1, 0, 0), (.iadd, 0, 0, 0), (.iaload, 2, 0, 0), (.aload_n 0, 0, 0, 0), (.iload_n 3, 3, 0, 0), (.iconst 2, 2, 0, 0), (.iadd, 0, 0, 0), (.iaload, 2, 0, 0), (.invokevirtual 39, 144, 3, 8), (.if_icmp .eq 733, 1010, 0, 0), (.iconst 0, 0, 0, 0), (.ireturn, 1, 0, 0)]
theorem cb_179_249 : z_chk 179 bo_179_249 249 0 [439, 912] = true := by decide +kernel
def bo_179_282 : List ZO := [(.aload_n 1, 1, 0, 0), (.aload_n 0, 0, 0, 0), (.iload_n 3, 3, 0, 0), (.iconst 1, 1, 0, 0), (.iadd, 0, 0, 0), (.iaload, 2, 0, 0), (.aload_n 0, 0, 0, 0), (.iload_n 3, 3, 0, 0), (.iconst 2, 2, 0, 0), (.iadd, 0, 0, 0), (.iaload, 2, 0, 0), (.invokevirtual 40, 65, 3, 7), (.aload_n 2, 2, 0, 0), (.aload_n 0, 0, 0, 0), (.iload_n 3, 3, 0, 0), (.iconst 1, 1, 0, 0), (.iadd, 0, 0, 0), (.iaload, 2, 0, 0), (.aload_n 0, 0, 0, 0), (.iload_n 3, 3, 0, 0), (.iconst 2, 2, 0, 0), (.iadd, 0, 0, 0), (.iaload, 2, 0, 0), (.invokevirtual 43, 145, 3, 8), (.if_icmp .eq 700, 1010, 0, 0), (.iconst 0, 0, 0, 0), (.ireturn, 1, 0, 0)]
theorem cb_179_282 : z_chk 179 bo_179_282 282 0 [452, 928] = true := by decide +kernel
def bo_179_315 : List ZO := [(.aload_n 1, 1, 0, 0), (.aload_n 0, 0, 0, 0), (.iload_n 3, 3, 0, 0), (.iconst 1, 1, 0, 0), (.iadd, 0, 0, 0), (.iaload, 2, 0, 0), (.aload_n 0, 0, 0, 0), (.iload_n 3, 3, 0, 0), (.iconst 2, 2, 0, 0), (.iadd, 0, 0, 0), (.iaload, 2, 0, 0), (.invokevirtual 44, 66, 3, 7), (.aload_n 2, 2, 0, 0), (.aload_n 0, 0, 0, 0), (.iload_n 3, 3, 0, 0), (.iconst 1, 1, 0, 0), (.iadd, 0, 0, 0), (.iaload, 2, 0, 0), (.aload_n 0, 0, 0, 0), (.iload_n 3, 3, 0, 0), (.iconst 2, 2, 0, 0), (.iadd, 0, 0, 0), (.iaload, 2, 0, 0), (.invokevirtual 47, 147, 3, 8), (.if_icmp .eq 667, 1010, 0, 0), (.iconst 0, 0, 0, 0), (.ireturn, 1, 0, 0)]
theorem cb_179_315 : z_chk 179 bo_179_315 315 0 [460, 940] = true := by decide +kernel
def bo_179_348 : List ZO := [(.aload_n 1, 1, 0, 0), (.aload_n 0, 0, 0, 0), (.iload_n 3, 3, 0, 0), (.iconst 1, 1, 0, 0), (.iadd, 0, 0, 0), (.iaload, 2, 0, 0), (.aload_n 0, 0, 0, 0), (.iload_n 3, 3, 0, 0), (.iconst 2, 2, 0, 0), (.iadd, 0, 0, 0), (.iaload, 2, 0, 0), (.invokevirtual 48, 67, 3, 7), (.aload_n 2, 2, 0, 0), (.aload_n 0, 0, 0, 0), (.iload_n 3, 3, 0, 0), (.iconst 1, 1, 0, 0), (.iadd, 0, 0, 0), (.iaload, 2, 0, 0), (.aload_n 0, 0, 0, 0), (.iload_n 3, 3, 0, 0), (.iconst 2, 2, 0, 0), (.iadd, 0, 0, 0), (.iaload, 2, 0, 0), (.invokevirtual 51, 148, 3, 8), (.if_icmp .eq 634, 1010, 0, 0), (.iconst 0, 0, 0, 0), (.ireturn, 1, 0, 0)]
theorem cb_179_348 : z_chk 179 bo_179_348 348 0 [481, 964] = true := by decide +kernel
def bo_179_381 : List ZO := [(.aload_n 1, 1, 0, 0), (.aload_n 0, 0, 0, 0), (.iload_n 3, 3, 0, 0), (.iconst 1, 1, 0, 0), (.iadd, 0, 0, 0), (.iaload, 2, 0, 0), (.invokevirtual 52, 68, 2, 7), (.aload_n 2, 2, 0, 0), (.aload_n 0, 0, 0, 0), (.iload_n 3, 3, 0, 0), (.iconst 1, 1, 0, 0), (.iadd, 0, 0, 0), (.iaload, 2, 0, 0), (.invokevirtual 55, 150, 2, 8), (.if_icmp .eq 611, 1010, 0, 0), (.iconst 0, 0, 0, 0), (.ireturn, 1, 0, 0)]
theorem cb_179_381 : z_chk 179 bo_179_381 381 0 [489, 976] = true := by decide +kernel
def bo_179_404 : List ZO := [(.aload_n 1, 1, 0, 0), (.aload_n 0, 0, 0, 0), (.iload_n 3, 3, 0, 0), (.iconst 1, 1, 0, 0), (.iadd, 0, 0, 0), (.iaload, 2, 0, 0), (.invokevirtual 56, 69, 2, 7), (.aload_n 2, 2, 0, 0), (.aload_n 0, 0, 0, 0), (.iload_n 3, 3, 0, 0), (.iconst 1, 1, 0, 0), (.iadd, 0, 0, 0), (.iaload, 2, 0, 0), (.invokevirtual 59, 151, 2, 8), (.if_icmp .eq 588, 1010, 0, 0), (.iconst 0, 0, 0, 0), (.ireturn, 1, 0, 0)]
theorem cb_179_404 : z_chk 179 bo_179_404 404 0 [541, 1007] = true := by decide +kernel
def bo_179_427 : List ZO := [(.aload_n 1, 1, 0, 0), (.aload_n 0, 0, 0, 0), (.iload_n 3, 3, 0, 0), (.iconst 1, 1, 0, 0), (.iadd, 0, 0, 0), (.iaload, 2, 0, 0), (.aload_n 0, 0, 0, 0), (.iload_n 3, 3, 0, 0), (.iconst 2, 2, 0, 0), (.iadd, 0, 0, 0), (.iaload, 2, 0, 0), (.ifCond .eq 7, 445, 0, 0), (.iconst 1, 1, 0, 0), (.goto 4, 446, 0, 0)]
theorem cb_179_427 : z_chk 179 bo_179_427 427 0 [] = true := by decide +kernel
def bo_179_445 : List ZO := [(.iconst 0, 0, 0, 0), (.aload_n 0, 0, 0, 0), (.iload_n 3, 3, 0, 0), (.iconst 3, 3, 0, 0), (.iadd, 0, 0, 0), (.iaload, 2, 0, 0), (.invokevirtual 60, 70, 4, 7), (.aload_n 2, 2, 0, 0), (.aload_n 0, 0, 0, 0), (.iload_n 3, 3, 0, 0), (.iconst 1, 1, 0, 0), (.iadd, 0, 0, 0), (.iaload, 2, 0, 0), (.aload_n 0, 0, 0, 0), (.iload_n 3, 3, 0, 0), (.iconst 2, 2, 0, 0), (.iadd, 0, 0, 0), (.iaload, 2, 0, 0), (.ifCond .eq 7, 472, 0, 0), (.iconst 1, 1, 0, 0), (.goto 4, 473, 0, 0)]
theorem cb_179_445 : z_chk 179 bo_179_445 445 0 [549] = true := by decide +kernel
def bo_179_446 : List ZO := [(.aload_n 0, 0, 0, 0), (.iload_n 3, 3, 0, 0), (.iconst 3, 3, 0, 0), (.iadd, 0, 0, 0), (.iaload, 2, 0, 0), (.invokevirtual 60, 70, 4, 7), (.aload_n 2, 2, 0, 0), (.aload_n 0, 0, 0, 0), (.iload_n 3, 3, 0, 0), (.iconst 1, 1, 0, 0), (.iadd, 0, 0, 0), (.iaload, 2, 0, 0), (.aload_n 0, 0, 0, 0), (.iload_n 3, 3, 0, 0), (.iconst 2, 2, 0, 0), (.iadd, 0, 0, 0), (.iaload, 2, 0, 0), (.ifCond .eq 7, 472, 0, 0), (.iconst 1, 1, 0, 0), (.goto 4, 473, 0, 0)]
theorem cb_179_446 : z_chk 179 bo_179_446 446 0 [549] = true := by decide +kernel
def bo_179_472 : List ZO := [(.iconst 0, 0, 0, 0), (.aload_n 0, 0, 0, 0), (.iload_n 3, 3, 0, 0), (.iconst 3, 3, 0, 0), (.iadd, 0, 0, 0), (.iaload, 2, 0, 0), (.invokevirtual 64, 152, 4, 8), (.if_icmp .eq 529, 1010, 0, 0), (.iconst 0, 0, 0, 0), (.ireturn, 1, 0, 0)]
theorem cb_179_472 : z_chk 179 bo_179_472 472 0 [1011] = true := by decide +kernel
def bo_179_473 : List ZO := [(.aload_n 0, 0, 0, 0), (.iload_n 3, 3, 0, 0), (.iconst 3, 3, 0, 0), (.iadd, 0, 0, 0), (.iaload, 2, 0, 0), (.invokevirtual 64, 152, 4, 8), (.if_icmp .eq 529, 1010, 0, 0), (.iconst 0, 0, 0, 0), (.ireturn, 1, 0, 0)]
theorem cb_179_473 : z_chk 179 bo_179_473 473 0 [1011] = true := by decide +kernel
def bo_179_486 : List ZO := [(.aload_n 1, 1, 0, 0), (.aload_n 0, 0, 0, 0), (.iload_n 3, 3, 0, 0), (.iconst 1, 1, 0, 0), (.iadd, 0, 0, 0), (.iaload, 2, 0, 0), (.aload_n 0, 0, 0, 0), (.iload_n 3, 3, 0, 0), (.iconst 2, 2, 0, 0), (.iadd, 0, 0, 0), (.iaload, 2, 0, 0), (.invokevirtual 65, 71, 3, 7), (.aload_n 2, 2, 0, 0), (.aload_n 0, 0, 0, 0), (.iload_n 3, 3, 0, 0), (.iconst 1, 1, 0, 0), (.iadd, 0, 0, 0), (.iaload, 2, 0, 0), (.aload_n 0, 0, 0, 0), (.iload_n 3, 3, 0, 0), (.iconst 2, 2, 0, 0), (.iadd, 0, 0, 0), (.iaload, 2, 0, 0), (.invokevirtual 68, 153, 3, 8), (.if_icmp .eq 496, 1010, 0, 0), (.iconst 0, 0, 0, 0), (.ireturn, 1, 0, 0)]
theorem cb_179_486 : z_chk 179 bo_179_486 486 0 [557, 1015] = true := by decide +kernel
def bo_179_519 : List ZO := [(.aload_n 1, 1, 0, 0), (.aload_n 0, 0, 0, 0), (.iload_n 3, 3, 0, 0), (.iconst 1, 1, 0, 0), (.iadd, 0, 0, 0), (.iaload, 2, 0, 0), (.invokevirtual 69, 72, 2, 7), (.aload_n 2, 2, 0, 0), (.aload_n 0, 0, 0, 0), (.iload_n 3, 3, 0, 0), (.iconst 1, 1, 0, 0), (.iadd, 0, 0, 0), (.iaload, 2, 0, 0), (.invokevirtual 72, 154, 2, 8), (.if_icmp .eq 473, 1010, 0, 0), (.iconst 0, 0, 0, 0), (.ireturn, 1, 0, 0)]
theorem cb_179_519 : z_chk 179 bo_179_519 519 0 [561, 1023] = true := by decide +kernel
def bo_179_542 : List ZO := [(.aload_n 1, 1, 0, 0), (.invokevirtual 73, 73, 1, 7), (.aload_n 2, 2, 0, 0), (.invokevirtual 76, 155, 1, 8), (.if_icmp .eq 460, 1010, 0, 0), (.iconst 0, 0, 0, 0), (.ireturn, 1, 0, 0)]
theorem cb_179_542 : z_chk 179 bo_179_542 542 0 [565, 1027] = true := by decide +kernel
def bo_179_555 : List ZO := [(.aload_n 1, 1, 0, 0), (.aload_n 0, 0, 0, 0), (.iload_n 3, 3, 0, 0), (.iconst 1, 1, 0, 0), (.iadd, 0, 0, 0), (.iaload, 2, 0, 0), (.aload_n 0, 0, 0, 0), (.iload_n 3, 3, 0, 0), (.iconst 2, 2, 0, 0), (.iadd, 0, 0, 0), (.iaload, 2, 0, 0), (.aload_n 0, 0, 0, 0), (.iload_n 3, 3, 0, 0), (.iconst 3, 3, 0, 0), (.iadd, 0, 0, 0), (.iaload, 2, 0, 0), (.invokevirtual 77, 74, 4, 7), (.aload_n 2, 2, 0, 0), (.aload_n 0, 0, 0, 0), (.iload_n 3, 3, 0, 0), (.iconst 1, 1, 0, 0), (.iadd, 0, 0, 0), (.iaload, 2, 0, 0), (.aload_n 0, 0, 0, 0), (.iload_n 3, 3, 0, 0), (.iconst 2, 2, 0, 0), (.iadd, 0, 0, 0), (.iaload, 2, 0, 0), (.aload_n 0, 0, 0, 0), (.iload_n 3, 3, 0, 0), (.iconst 3, 3, 0, 0), (.iadd, 0, 0, 0), (.iaload, 2, 0, 0), (.invokevirtual 81, 156, 4, 8), (.if_icmp .eq 417, 1010, 0, 0), (.iconst 0, 0, 0, 0), (.ireturn, 1, 0, 0)]
theorem cb_179_555 : z_chk 179 bo_179_555 555 0 [573, 1031] = true := by decide +kernel
def bo_179_598 : List ZO := [(.aload_n 1, 1, 0, 0), (.invokevirtual 82, 75, 1, 7), (.aload_n 2, 2, 0, 0), (.invokevirtual 85, 157, 1, 8), (.if_icmp .eq 404, 1010, 0, 0), (.iconst 0, 0, 0, 0), (.ireturn, 1, 0, 0)]
theorem cb_179_598 : z_chk 179 bo_179_598 598 0 [577, 1040] = true := by decide +kernel
def bo_179_611 : List ZO := [(.aload_n 1, 1, 0, 0), (.aload_n 0, 0, 0, 0), (.iload_n 3, 3, 0, 0), (.iconst 1, 1, 0, 0), (.iadd, 0, 0, 0), (.iaload, 2, 0, 0), (.invokevirtual 86, 76, 2, 7), (.aload_n 2, 2, 0, 0), (.aload_n 0, 0, 0, 0), (.iload_n 3, 3, 0, 0), (.iconst 1, 1, 0, 0), (.iadd, 0, 0, 0), (.iaload, 2, 0, 0), (.invokevirtual 89, 158, 2, 8), (.if_icmp .eq 381, 1010, 0, 0), (.iconst 0, 0, 0, 0), (.ireturn, 1, 0, 0)]
theorem cb_179_611 : z_chk 179 bo_179_611 611 0 [587, 1044] = true := by decide +kernel
def bo_179_634 : List ZO := [(.aload_n 1, 1, 0, 0), (.aload_n 0, 0, 0, 0), (.iload_n 3, 3, 0, 0), (.iconst 1, 1, 0, 0), (.iadd, 0, 0, 0), (.iaload, 2, 0, 0), (.invokevirtual 90, 77, 2, 7), (.aload_n 2, 2, 0, 0), (.aload_n 0, 0, 0, 0), (.iload_n 3, 3, 0, 0), (.iconst 1, 1, 0, 0), (.iadd, 0, 0, 0), (.iaload, 2, 0, 0), (.invokevirtual 93, 160, 2, 8), (.if_icmp .eq 358, 1010, 0, 0), (.iconst 0, 0, 0, 0), (.ireturn, 1, 0, 0)]
theorem cb_179_634 : z_chk 179 bo_179_634 634 0 [592, 1048] = true := by decide +kernel
def bo_179_657 : List ZO := [(.aload_n 1, 1, 0, 0), (.aload_n 0, 0, 0, 0), (.iload_n 3, 3, 0, 0), (.iconst 1, 1, 0, 0), (.iadd, 0, 0, 0), (.iaload, 2, 0, 0), (.aload_n 0, 0, 0, 0), (.iload_n 3, 3, 0, 0), (.iconst 2, 2, 0, 0), (.iadd, 0, 0, 0), (.iaload, 2, 0, 0), (.i2l, 0, 0, 0), (.bipush 32, 32, 0, 0), (.lshl, 0, 0, 0), (.aload_n 0, 0, 0, 0), (.iload_n 3, 3, 0, 0), (.iconst 3, 3, 0, 0), (.iadd, 0, 0, 0), (.iaload, 2, 0, 0), (.i2l, 0, 0, 0), (.ldc2_w 94, 4294967295, 0, 0), (.land, 0, 0, 0), (.lor, 0, 0, 0), (.invokevirtual 96, 78, 3, 7), (.aload_n 2, 2, 0, 0), (.aload_n 0, 0, 0, 0), (.iload_n 3, 3, 0, 0), (.iconst 1, 1, 0, 0), (.iadd, 0, 0, 0), (.iaload, 2, 0, 0), (.aload_n 0, 0, 0, 0), (.iload_n 3, 3, 0, 0), (.iconst 2, 2, 0, 0), (.iadd, 0, 0, 0), (.iaload, 2, 0, 0), (.i2l, 0, 0, 0), (.bipush 32, 32, 0, 0), (.lshl, 0, 0, 0), (.aload_n 0, 0, 0, 0), (.iload_n 3, 3, 0, 0), (.iconst 3, 3, 0, 0), (.iadd, 0, 0, 0), (.iaload, 2, 0, 0), (.i2l, 0, 0, 0), (.ldc2_w 94, 4294967295, 0, 0), (.land, 0, 0, 0), (.lor, 0, 0, 0), (.invokevirtual 100, 163, 3, 8), (.if_icmp .eq 295, 1010, 0, 0), (.iconst 0, 0, 0, 0), (.ireturn, 1, 0, 0)]
theorem cb_179_657 : z_chk 179 bo_179_657 657 0 [1125, 606, 1125, 1056] = true := by decide +kernel
def bo_179_720 : List ZO := [(.aload_n 1, 1, 0, 0), (.aload_n 0, 0, 0, 0), (.iload_n 3, 3, 0, 0), (.iconst 1, 1, 0, 0), (.iadd, 0, 0, 0), (.iaload, 2, 0, 0), (.aload_n 0, 0, 0, 0), (.iload_n 3, 3, 0, 0), (.iconst 2, 2, 0, 0), (.iadd, 0, 0, 0), (.iaload, 2, 0, 0), (.aload_n 0, 0, 0, 0), (.iload_n 3, 3, 0, 0), (.iconst 3, 3, 0, 0), (.iadd, 0, 0, 0), (.iaload, 2, 0, 0), (.invokevirtual 101, 79, 4, 7), (.aload_n 2, 2, 0, 0), (.aload_n 0, 0, 0, 0), (.iload_n 3, 3, 0, 0), (.iconst 1, 1, 0, 0), (.iadd, 0, 0, 0), (.iaload, 2, 0, 0), (.aload_n 0, 0, 0, 0), (.iload_n 3, 3, 0, 0), (.iconst 2, 2, 0, 0), (.iadd, 0, 0, 0), (.iaload, 2, 0, 0), (.aload_n 0, 0, 0, 0), (.iload_n 3, 3, 0, 0), (.iconst 3, 3, 0, 0), (.iadd, 0, 0, 0), (.iaload, 2, 0, 0), (.invokevirtual 104, 164, 4, 8), (.if_icmp .eq 252, 1010, 0, 0), (.iconst 0, 0, 0, 0), (.ireturn, 1, 0, 0)]
theorem cb_179_720 : z_chk 179 bo_179_720 720 0 [628, 1068] = true := by decide +kernel
def bo_179_763 : List ZO := [(.aload_n 1, 1, 0, 0), (.invokevirtual 105, 80, 1, 7), (.aload_n 2, 2, 0, 0), (.invokevirtual 108, 165, 1, 8), (.if_icmp .eq 239, 1010, 0, 0), (.iconst 0, 0, 0, 0), (.ireturn, 1, 0, 0)]
theorem cb_179_763 : z_chk 179 bo_179_763 763 0 [636, 1073] = true := by decide +kernel
def bo_179_776 : List ZO := [(.aload_n 1, 1, 0, 0), (.invokevirtual 109, 81, 1, 7), (.aload_n 2, 2, 0, 0), (.invokevirtual 112, 167, 1, 8), (.if_icmp .eq 226, 1010, 0, 0), (.iconst 0, 0, 0, 0), (.ireturn, 1, 0, 0)]
theorem cb_179_776 : z_chk 179 bo_179_776 776 0 [640, 1077] = true := by decide +kernel
def bo_179_789 : List ZO := [(.aload_n 1, 1, 0, 0), (.aload_n 0, 0, 0, 0), (.iload_n 3, 3, 0, 0), (.iconst 1, 1, 0, 0), (.iadd, 0, 0, 0), (.iaload, 2, 0, 0), (.aload_n 0, 0, 0, 0), (.iload_n 3, 3, 0, 0), (.iconst 2, 2, 0, 0), (.iadd, 0, 0, 0), (.iaload, 2, 0, 0), (.ifCond .eq 7, 807, 0, 0), (.iconst 1, 1, 0, 0), (.goto 4, 808, 0, 0)]
theorem cb_179_789 : z_chk 179 bo_179_789 789 0 [] = true := by decide +kernel
def bo_179_807 : List ZO := [(.iconst 0, 0, 0, 0), (.invokevirtual 113, 82, 3, 7), (.aload_n 2, 2, 0, 0), (.aload_n 0, 0, 0, 0), (.iload_n 3, 3, 0, 0), (.iconst 1, 1, 0, 0), (.iadd, 0, 0, 0), (.iaload, 2, 0, 0), (.aload_n 0, 0, 0, 0), (.iload_n 3, 3, 0, 0), (.iconst 2, 2, 0, 0), (.iadd, 0, 0, 0), (.iaload, 2, 0, 0), (.ifCond .eq 7, 829, 0, 0), (.iconst 1, 1, 0, 0), (.goto 4, 830, 0, 0)]
theorem cb_179_807 : z_chk 179 bo_179_807 807 0 [652] = true := by decide +kernel
def bo_179_808 : List ZO := [(.invokevirtual 113, 82, 3, 7), (.aload_n 2, 2, 0, 0), (.aload_n 0, 0, 0, 0), (.iload_n 3, 3, 0, 0), (.iconst 1, 1, 0, 0), (.iadd, 0, 0, 0), (.iaload, 2, 0, 0), (.aload_n 0, 0, 0, 0), (.iload_n 3, 3, 0, 0), (.iconst 2, 2, 0, 0), (.iadd, 0, 0, 0), (.iaload, 2, 0, 0), (.ifCond .eq 7, 829, 0, 0), (.iconst 1, 1, 0, 0), (.goto 4, 830, 0, 0)]
theorem cb_179_808 : z_chk 179 bo_179_808 808 0 [652] = true := by decide +kernel
def bo_179_829 : List ZO := [(.iconst 0, 0, 0, 0), (.invokevirtual 117, 169, 3, 8), (.if_icmp .eq 177, 1010, 0, 0), (.iconst 0, 0, 0, 0), (.ireturn, 1, 0, 0)]
theorem cb_179_829 : z_chk 179 bo_179_829 829 0 [1085] = true := by decide +kernel
def bo_179_830 : List ZO := [(.invokevirtual 117, 169, 3, 8), (.if_icmp .eq 177, 1010, 0, 0), (.iconst 0, 0, 0, 0), (.ireturn, 1, 0, 0)]
theorem cb_179_830 : z_chk 179 bo_179_830 830 0 [1085] = true := by decide +kernel
def bo_179_838 : List ZO := [(.aload_n 1, 1, 0, 0), (.aload_n 0, 0, 0, 0), (.iload_n 3, 3, 0, 0), (.iconst 1, 1, 0, 0), (.iadd, 0, 0, 0), (.iaload, 2, 0, 0), (.aload_n 0, 0, 0, 0), (.iload_n 3, 3, 0, 0), (.iconst 2, 2, 0, 0), (.iadd, 0, 0, 0), (.iaload, 2, 0, 0), (.ifCond .eq 7, 856, 0, 0), (.iconst 1, 1, 0, 0), (.goto 4, 857, 0, 0)]
theorem cb_179_838 : z_chk 179 bo_179_838 838 0 [] = true := by decide +kernel
def bo_179_856 : List ZO := [(.iconst 0, 0, 0, 0), (.invokevirtual 118, 83, 3, 7), (.aload_n 2, 2, 0, 0), (.aload_n 0, 0, 0, 0), (.iload_n 3, 3, 0, 0), (.iconst 1, 1, 0, 0), (.iadd, 0, 0, 0), (.iaload, 2, 0, 0), (.aload_n 0, 0, 0, 0), (.iload_n 3, 3, 0, 0), (.iconst 2, 2, 0, 0), (.iadd, 0, 0, 0), (.iaload, 2, 0, 0), (.ifCond .eq 7, 878, 0, 0), (.iconst 1, 1, 0, 0), (.goto 4, 879, 0, 0)]
theorem cb_179_856 : z_chk 179 bo_179_856 856 0 [672] = true := by decide +kernel
def bo_179_857 : List ZO := [(.invokevirtual 118, 83, 3, 7), (.aload_n 2, 2, 0, 0), (.aload_n 0, 0, 0, 0), (.iload_n 3, 3, 0, 0), (.iconst 1, 1, 0, 0), (.iadd, 0, 0, 0), (.iaload, 2, 0, 0), (.aload_n 0, 0, 0, 0), (.iload_n 3, 3, 0, 0), (.iconst 2, 2, 0, 0), (.iadd, 0, 0, 0), (.iaload, 2, 0, 0), (.ifCond .eq 7, 878, 0, 0), (.iconst 1, 1, 0, 0), (.goto 4, 879, 0, 0)]
theorem cb_179_857 : z_chk 179 bo_179_857 857 0 [672] = true := by decide +kernel
def bo_179_878 : List ZO := [(.iconst 0, 0, 0, 0), (.invokevirtual 121, 170, 3, 8), (.if_icmp .eq 128, 1010, 0, 0), (.iconst 0, 0, 0, 0), (.ireturn, 1, 0, 0)]
theorem cb_179_878 : z_chk 179 bo_179_878 878 0 [1099] = true := by decide +kernel
def bo_179_879 : List ZO := [(.invokevirtual 121, 170, 3, 8), (.if_icmp .eq 128, 1010, 0, 0), (.iconst 0, 0, 0, 0), (.ireturn, 1, 0, 0)]
theorem cb_179_879 : z_chk 179 bo_179_879 879 0 [1099] = true := by decide +kernel
def bo_179_887 : List ZO := [(.aload_n 1, 1, 0, 0), (.aload_n 0, 0, 0, 0), (.iload_n 3, 3, 0, 0), (.iconst 1, 1, 0, 0), (.iadd, 0, 0, 0), (.iaload, 2, 0, 0), (.i2l, 0, 0, 0), (.bipush 32, 32, 0, 0), (.lshl, 0, 0, 0), (.aload_n 0, 0, 0, 0), (.iload_n 3, 3, 0, 0), (.iconst 2, 2, 0, 0), (.iadd, 0, 0, 0), (.iaload, 2, 0, 0), (.i2l, 0, 0, 0), (.ldc2_w 94, 4294967295, 0, 0), (.land, 0, 0, 0), (.lor, 0, 0, 0), (.invokevirtual 122, 84, 2, 7), (.aload_n 2, 2, 0, 0), (.aload_n 0, 0, 0, 0), (.iload_n 3, 3, 0, 0), (.iconst 1, 1, 0, 0), (.iadd, 0, 0, 0), (.iaload, 2, 0, 0), (.i2l, 0, 0, 0), (.bipush 32, 32, 0, 0), (.lshl, 0, 0, 0), (.aload_n 0, 0, 0, 0), (.iload_n 3, 3, 0, 0), (.iconst 2, 2, 0, 0), (.iadd, 0, 0, 0), (.iaload, 2, 0, 0), (.i2l, 0, 0, 0), (.ldc2_w 94, 4294967295, 0, 0), (.land, 0, 0, 0), (.lor, 0, 0, 0), (.invokevirtual 126, 171, 2, 8), (.lcmp, 0, 0, 0), (.ifCond .eq 74, 1010, 0, 0), (.iconst 0, 0, 0, 0), (.ireturn, 1, 0, 0)]
theorem cb_179_887 : z_chk 179 bo_179_887 887 0 [1125, 683, 1125, 1107] = true := by decide +kernel
def bo_179_941 : List ZO := [(.aload_n 1, 1, 0, 0), (.aload_n 0, 0, 0, 0), (.iload_n 3, 3, 0, 0), (.iconst 1, 1, 0, 0), (.iadd, 0, 0, 0), (.iaload, 2, 0, 0), (.invokevirtual 127, 85, 2, 7), (.aload_n 2, 2, 0, 0), (.aload_n 0, 0, 0, 0), (.iload_n 3, 3, 0, 0), (.iconst 1, 1, 0, 0), (.iadd, 0, 0, 0), (.iaload, 2, 0, 0), (.invokevirtual 130, 172, 2, 8), (.if_icmp .eq 51, 1010, 0, 0), (.iconst 0, 0, 0, 0), (.ireturn, 1, 0, 0)]
theorem cb_179_941 : z_chk 179 bo_179_941 941 0 [687, 1111] = true := by decide +kernel
def bo_179_964 : List ZO := [(.aload_n 1, 1, 0, 0), (.aload_n 0, 0, 0, 0), (.iload_n 3, 3, 0, 0), (.iconst 1, 1, 0, 0), (.iadd, 0, 0, 0), (.iaload, 2, 0, 0), (.invokevirtual 131, 86, 2, 7), (.aload_n 2, 2, 0, 0), (.aload_n 0, 0, 0, 0), (.iload_n 3, 3, 0, 0), (.iconst 1, 1, 0, 0), (.iadd, 0, 0, 0), (.iaload, 2, 0, 0), (.invokevirtual 134, 173, 2, 8), (.if_icmp .eq 28, 1010, 0, 0), (.iconst 0, 0, 0, 0), (.ireturn, 1, 0, 0)]
theorem cb_179_964 : z_chk 179 bo_179_964 964 0 [693, 1117] = true := by decide +kernel
def bo_179_987 : List ZO := [(.aload_n 1, 1, 0, 0), (.aload_n 0, 0, 0, 0), (.iload_n 3, 3, 0, 0), (.iconst 1, 1, 0, 0), (.iadd, 0, 0, 0), (.iaload, 2, 0, 0), (.invokevirtual 135, 87, 2, 7), (.aload_n 2, 2, 0, 0), (.aload_n 0, 0, 0, 0), (.iload_n 3, 3, 0, 0), (.iconst 1, 1, 0, 0), (.iadd, 0, 0, 0), (.iaload, 2, 0, 0), (.invokevirtual 138, 174, 2, 8), (.if_icmp .eq 5, 1010, 0, 0), (.iconst 0, 0, 0, 0), (.ireturn, 1, 0, 0)]
theorem cb_179_987 : z_chk 179 bo_179_987 987 0 [697, 1121] = true := by decide +kernel
def bo_179_1010 : List ZO := [(.iinc 3 4, 4, 3, 0), (.goto (-995), 18, 0, 0)]
theorem cb_179_1010 : z_chk 179 bo_179_1010 1010 0 [] = true := by decide +kernel
def bo_179_1016 : List ZO := [(.iconst 1, 1, 0, 0), (.ireturn, 1, 0, 0)]
theorem cb_179_1016 : z_chk 179 bo_179_1016 1016 0 [] = true := by decide +kernel
def bk_179 : List (Nat × ZE) := [(0, false, [true, false, false, false], bo_179_0, 18), (18, true, [true, true, true, true], bo_179_18, 0), (164, false, [true, true, true, true], bo_179_164, 0), (187, false, [true, true, true, true], bo_179_187, 0), (200, false, [true, true, true, true], bo_179_200, 0), (213, false, [true, true, true, true], bo_179_213, 0), (226, false, [true, true, true, true], bo_179_226, 0), (249, false, [true, true, true, true], bo_179_249, 0), (282, false, [true, true, true, true], bo_179_282, 0), (315, false, [true, true, true, true], bo_179_315, 0), (348, false, [true, true, true, true], bo_179_348, 0), (381, false, [true, true, true, true], bo_179_381, 0), (404, false, [true, true, true, true], bo_179_404, 0), (427, false, [true, true, true, true], bo_179_427, 0), (445, false, [true, true, true, true], bo_179_445, 0), (446, false, [true, true, true, true], bo_179_446, 0), (472, false, [true, true, true, true], bo_179_472, 0), (473, false, [true, true, true, true], bo_179_473, 0), (486, false, [true, true, true, true], bo_179_486, 0), (519, false, [true, true, true, true], bo_179_519, 0), (542, false, [true, true, true, true], bo_179_542, 0), (555, false, [true, true, true, true], bo_179_555, 0), (598, false, [true, true, true, true], bo_179_598, 0), (611, false, [true, true, true, true], bo_179_611, 0), (634, false, [true, true, true, true], bo_179_634, 0), (657, false, [true, true, true, true], bo_179_657, 0), (720, false, [true, true, true, true], bo_179_720, 0), (763, false, [true, true, true, true], bo_179_763, 0), (776, false, [true, true, true, true], bo_179_776, 0), (789, false, [true, true, true, true], bo_179_789, 0), (807, false, [true, true, true, true], bo_179_807, 0), (808, false, [true, true, true, true], bo_179_808, 0), (829, false, [true, true, true, true], bo_179_829, 0), (830, false, [true, true, true, true], bo_179_830, 0), (838, false, [true, true, true, true], bo_179_838, 0), (856, false, [true, true, true, true], bo_179_856, 0), (857, false, [true, true, true, true], bo_179_857, 0), (878, false, [true, true, true, true], bo_179_878, 0), (879, false, [true, true, true, true], bo_179_879, 0), (887, false, [true, true, true, true], bo_179_887, 0), (941, false, [true, true, true, true], bo_179_941, 0), (964, false, [true, true, true, true], bo_179_964, 0), (987, false, [true, true, true, true], bo_179_987, 0), (1010, false, [true, true, true, true], bo_179_1010, 0), (1016, false, [false, false, false, false], bo_179_1016, 0)]
theorem ck_179 : z_chks 179 bk_179 [[55, 57, 701, 703], [], [304, 832], [315, 840], [319, 844], [391, 885], [411, 889], [439, 912], [452, 928], [460, 940], [481, 964], [489, 976], [541, 1007], [], [549], [549], [1011], [1011], [557, 1015], [561, 1023], [565, 1027], [573, 1031], [577, 1040], [587, 1044], [592, 1048], [1125, 606, 1125, 1056], [628, 1068], [636, 1073], [640, 1077], [], [652], [652], [1085], [1085], [], [672], [672], [1099], [1099], [1125, 683, 1125, 1107], [687, 1111], [693, 1117], [697, 1121], [], []] = true := z_chks_cons cb_179_0 (z_chks_cons cb_179_18 (z_chks_cons cb_179_164 (z_chks_cons cb_179_187 (z_chks_cons cb_179_200 (z_chks_cons cb_179_213 (z_chks_cons cb_179_226 (z_chks_cons cb_179_249 (z_chks_cons cb_179_282 (z_chks_cons cb_179_315 (z_chks_cons cb_179_348 (z_chks_cons cb_179_381 (z_chks_cons cb_179_404 (z_chks_cons cb_179_427 (z_chks_cons cb_179_445 (z_chks_cons cb_179_446 (z_chks_cons cb_179_472 (z_chks_cons cb_179_473 (z_chks_cons cb_179_486 (z_chks_cons cb_179_519 (z_chks_cons cb_179_542 (z_chks_cons cb_179_555 (z_chks_cons cb_179_598 (z_chks_cons cb_179_611 (z_chks_cons cb_179_634 (z_chks_cons cb_179_657 (z_chks_cons cb_179_720 (z_chks_cons cb_179_763 (z_chks_cons cb_179_776 (z_chks_cons cb_179_789 (z_chks_cons cb_179_807 (z_chks_cons cb_179_808 (z_chks_cons cb_179_829 (z_chks_cons cb_179_830 (z_chks_cons cb_179_838 (z_chks_cons cb_179_856 (z_chks_cons cb_179_857 (z_chks_cons cb_179_878 (z_chks_cons cb_179_879 (z_chks_cons cb_179_887 (z_chks_cons cb_179_941 (z_chks_cons cb_179_964 (z_chks_cons cb_179_987 (z_chks_cons cb_179_1010 (z_chks_cons cb_179_1016 (z_chks_nil)))))))))))))))))))))))))))))))))))))))))))))
theorem bf_179_0 : z_fd bk_179 0 = some (false, [true, false, false, false], bo_179_0, 18) := rfl
theorem bf_179_18 : z_fd bk_179 18 = some (true, [true, true, true, true], bo_179_18, 0) := rfl
theorem bf_179_164 : z_fd bk_179 164 = some (false, [true, true, true, true], bo_179_164, 0) := rfl
theorem bf_179_187 : z_fd bk_179 187 = some (false, [true, true, true, true], bo_179_187, 0) := rfl
theorem bf_179_200 : z_fd bk_179 200 = some (false, [true, true, true, true], bo_179_200, 0) := rfl
theorem bf_179_213 : z_fd bk_179 213 = some (false, [true, true, true, true], bo_179_213, 0) := rfl
theorem bf_179_226 : z_fd bk_179 226 = some (false, [true, true, true, true], bo_179_226, 0) := rfl
theorem bf_179_249 : z_fd bk_179 249 = some (false, [true, true, true, true], bo_179_249, 0) := rfl
theorem bf_179_282 : z_fd bk_179 282 = some (false, [true, true, true, true], bo_179_282, 0) := rfl
theorem bf_179_315 : z_fd bk_179 315 = some (false, [true, true, true, true], bo_179_315, 0) := rfl
theorem bf_179_348 : z_fd bk_179 348 = some (false, [true, true, true, true], bo_179_348, 0) := rfl
theorem bf_179_381 : z_fd bk_179 381 = some (false, [true, true, true, true], bo_179_381, 0) := rfl
theorem bf_179_404 : z_fd bk_179 404 = some (false, [true, true, true, true], bo_179_404, 0) := rfl
theorem bf_179_427 : z_fd bk_179 427 = some (false, [true, true, true, true], bo_179_427, 0) := rfl
theorem bf_179_445 : z_fd bk_179 445 = some (false, [true, true, true, true], bo_179_445, 0) := rfl
theorem bf_179_446 : z_fd bk_179 446 = some (false, [true, true, true, true], bo_179_446, 0) := rfl
theorem bf_179_472 : z_fd bk_179 472 = some (false, [true, true, true, true], bo_179_472, 0) := rfl
theorem bf_179_473 : z_fd bk_179 473 = some (false, [true, true, true, true], bo_179_473, 0) := rfl
theorem bf_179_486 : z_fd bk_179 486 = some (false, [true, true, true, true], bo_179_486, 0) := rfl
theorem bf_179_519 : z_fd bk_179 519 = some (false, [true, true, true, true], bo_179_519, 0) := rfl
theorem bf_179_542 : z_fd bk_179 542 = some (false, [true, true, true, true], bo_179_542, 0) := rfl
theorem bf_179_555 : z_fd bk_179 555 = some (false, [true, true, true, true], bo_179_555, 0) := rfl
theorem bf_179_598 : z_fd bk_179 598 = some (false, [true, true, true, true], bo_179_598, 0) := rfl
theorem bf_179_611 : z_fd bk_179 611 = some (false, [true, true, true, true], bo_179_611, 0) := rfl
theorem bf_179_634 : z_fd bk_179 634 = some (false, [true, true, true, true], bo_179_634, 0) := rfl
theorem bf_179_657 : z_fd bk_179 657 = some (false, [true, true, true, true], bo_179_657, 0) := rfl
theorem bf_179_720 : z_fd bk_179 720 = some (false, [true, true, true, true], bo_179_720, 0) := rfl
theorem bf_179_763 : z_fd bk_179 763 = some (false, [true, true, true, true], bo_179_763, 0) := rfl
theorem bf_179_776 : z_fd bk_179 776 = some (false, [true, true, true, true], bo_179_776, 0) := rfl
theorem bf_179_789 : z_fd bk_179 789 = some (false, [true, true, true, true], bo_179_789, 0) := rfl
theorem bf_179_807 : z_fd bk_179 807 = some (false, [true, true, true, true], bo_179_807, 0) := rfl
theorem bf_179_808 : z_fd bk_179 808 = some (false, [true, true, true, true], bo_179_808, 0) := rfl
theorem bf_179_829 : z_fd bk_179 829 = some (false, [true, true, true, true], bo_179_829, 0) := rfl
theorem bf_179_830 : z_fd bk_179 830 = some (false, [true, true, true, true], bo_179_830, 0) := rfl
theorem bf_179_838 : z_fd bk_179 838 = some (false, [true, true, true, true], bo_179_838, 0) := rfl
theorem bf_179_856 : z_fd bk_179 856 = some (false, [true, true, true, true], bo_179_856, 0) := rfl
theorem bf_179_857 : z_fd bk_179 857 = some (false, [true, true, true, true], bo_179_857, 0) := rfl
theorem bf_179_878 : z_fd bk_179 878 = some (false, [true, true, true, true], bo_179_878, 0) := rfl
theorem bf_179_879 : z_fd bk_179 879 = some (false, [true, true, true, true], bo_179_879, 0) := rfl
theorem bf_179_887 : z_fd bk_179 887 = some (false, [true, true, true, true], bo_179_887, 0) := rfl
theorem bf_179_941 : z_fd bk_179 941 = some (false, [true, true, true, true], bo_179_941, 0) := rfl
theorem bf_179_964 : z_fd bk_179 964 = some (false, [true, true, true, true], bo_179_964, 0) := rfl
theorem bf_179_987 : z_fd bk_179 987 = some (false, [true, true, true, true], bo_179_987, 0) := rfl
theorem bf_179_1010 : z_fd bk_179 1010 = some (false, [true, true, true, true], bo_179_1010, 0) := rfl
theorem bf_179_1016 : z_fd bk_179 1016 = some (false, [false, false, false, false], bo_179_1016, 0) := rfl
theorem cl_179 : z_mL 179 = 4 := by decide +kernel
theorem cz_179 : plainFor (z_my 179) = true ∧ ((z_rm 179).cells = 600000 ∧ (z_rm 179).slots = 7302250) := by decide +kernel
