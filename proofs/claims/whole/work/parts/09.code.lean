/-! the code of the methods in blocks (written by wip/whole/gen08.py): (instruction, what it means) *, checked against the bytes -/
-- 100 Model_init
def bo_100_0 : List ZO := [(.aload_n 0, 0, 0, 0), (.invokespecial 1, 0, 1, 99), (.aload_n 0, 0, 0, 0), (.bipush 100, 100, 0, 0), (.newarray .int, 0, 0, 0), (.putfield 7, 7, 0, 2), (.aload_n 0, 0, 0, 0), (.bipush 8, 8, 0, 0), (.newarray .int, 0, 0, 0), (.putfield 13, 7, 3, 2), (.aload_n 0, 0, 0, 0), (.bipush 8, 8, 0, 0), (.newarray .int, 0, 0, 0), (.putfield 16, 7, 4, 2), (.aload_n 0, 0, 0, 0), (.bipush 8, 8, 0, 0), (.newarray .int, 0, 0, 0), (.putfield 19, 7, 5, 2), (.aload_n 0, 0, 0, 0), (.bipush 9, 9, 0, 0), (.newarray .int, 0, 0, 0), (.putfield 22, 7, 7, 2), (.aload_n 0, 0, 0, 0), (.bipush 9, 9, 0, 0), (.newarray .int, 0, 0, 0), (.putfield 25, 7, 8, 2), (.aload_n 0, 0, 0, 0), (.bipush 9, 9, 0, 0), (.newarray .int, 0, 0, 0), (.putfield 28, 7, 9, 2), (.aload_n 0, 0, 0, 0), (.bipush 78, 78, 0, 0), (.newarray .int, 0, 0, 0), (.putfield 31, 7, 10, 2), (.aload_n 0, 0, 0, 0), (.bipush 78, 78, 0, 0), (.newarray .int, 0, 0, 0), (.putfield 34, 7, 11, 2), (.aload_n 0, 0, 0, 0), (.bipush 78, 78, 0, 0), (.newarray .int, 0, 0, 0), (.putfield 37, 7, 12, 2), (.aload_n 0, 0, 0, 0), (.sipush 1092, 1092, 0, 0), (.newarray .int, 0, 0, 0), (.putfield 40, 7, 13, 2), (.aload_n 0, 0, 0, 0), (.sipush 156, 156, 0, 0), (.newarray .int, 0, 0, 0), (.putfield 43, 7, 16, 2), (.aload_n 0, 0, 0, 0), (.iconst 2, 2, 0, 0), (.newarray .boolean, 0, 0, 0), (.putfield 46, 7, 17, 2), (.aload_n 0, 0, 0, 0), (.bipush 6, 6, 0, 0), (.newarray .int, 0, 0, 0), (.putfield 50, 7, 18, 2), (.aload_n 0, 0, 0, 0), (.bipush 6, 6, 0, 0), (.newarray .int, 0, 0, 0), (.putfield 53, 7, 19, 2), (.aload_n 0, 0, 0, 0), (.bipush 6, 6, 0, 0), (.newarray .int, 0, 0, 0), (.putfield 56, 7, 20, 2), (.aload_n 0, 0, 0, 0), (.sipush 400, 400, 0, 0), (.newarray .int, 0, 0, 0), (.putfield 59, 7, 24, 2), (.aload_n 0, 0, 0, 0), (.sipush 256, 256, 0, 0), (.newarray .int, 0, 0, 0), (.putfield 62, 7, 25, 2), (.aload_n 0, 0, 0, 0), (.bipush 8, 8, 0, 0), (.newarray .int, 0, 0, 0), (.putfield 65, 7, 27, 2), (.aload_n 0, 0, 0, 0), (.bipush 8, 8, 0, 0), (.newarray .int, 0, 0, 0), (.putfield 68, 7, 28, 2), (.aload_n 0, 0, 0, 0), (.bipush 8, 8, 0, 0), (.newarray .int, 0, 0, 0), (.putfield 71, 7, 29, 2), (.aload_n 0, 0, 0, 0), (.bipush 8, 8, 0, 0), (.newarray .int, 0, 0, 0), (.putfield 74, 7, 30, 2), (.aload_n 0, 0, 0, 0), (.bipush 9, 9, 0, 0), (.newarray .int, 0, 0, 0), (.putfield 77, 7, 32, 2), (.aload_n 0, 0, 0, 0), (.bipush 9, 9, 0, 0), (.newarray .int, 0, 0, 0), (.putfield 80, 7, 33, 2), (.aload_n 0, 0, 0, 0), (.bipush 9, 9, 0, 0), (.newarray .int, 0, 0, 0), (.putfield 83, 7, 34, 2), (.aload_n 0, 0, 0, 0), (.bipush 9, 9, 0, 0), (.newarray .int, 0, 0, 0), (.putfield 86, 7, 35, 2), (.aload_n 0, 0, 0, 0), (.bipush 9, 9, 0, 0), (.newarray .int, 0, 0, 0), (.putfield 89, 7, 36, 2), (.aload_n 0, 0, 0, 0), (.sipush 255, 255, 0, 0), (.putfield 92, 7, 23, 0), (.aload_n 0, 0, 0, 0), (.invokevirtual 96, 101, 1, 8), (.return_, 0, 0, 0)]
theorem cb_100_0 : z_chk 100 bo_100_0 0 0 [706, 711, 714, 715, 716, 718, 719, 720, 721, 722, 723, 724, 727, 728, 729, 730, 731, 735, 736, 738, 739, 740, 741, 743, 744, 745, 746, 747, 734, 707] = true := by decide +kernel
def bk_100 : List (Nat × ZE) := [(0, false, [true], bo_100_0, 0)]
theorem ck_100 : z_chks 100 bk_100 [[706, 711, 714, 715, 716, 718, 719, 720, 721, 722, 723, 724, 727, 728, 729, 730, 731, 735, 736, 738, 739, 740, 741, 743, 744, 745, 746, 747, 734, 707]] = true := z_chks_cons cb_100_0 (z_chks_nil)
theorem bf_100_0 : z_fd bk_100 0 = some (false, [true], bo_100_0, 0) := rfl
theorem cl_100 : z_mL 100 = 1 := by decide +kernel
theorem cz_100 : plainFor (z_my 100) = true ∧ ((z_rm 100).cells = 27 ∧ (z_rm 100).slots = 2386) := by decide +kernel
-- 101 Model_fresh
def bo_101_0 : List ZO := [(.iconst 0, 0, 0, 0), (.istore_n 1, 1, 0, 0)]
def bo_101_2 : List ZO := [(.iload_n 1, 1, 0, 0), (.bipush 78, 78, 0, 0), (.if_icmp .ge 45, 50, 0, 0), (.aload_n 0, 0, 0, 0), (.getfield 31, 7, 10, 2), (.iload_n 1, 1, 0, 0), (.iload_n 1, 1, 0, 0), (.bipush 8, 8, 0, 0), (.if_icmp .ge 8, 24, 0, 0), (.bipush (-9), 9, 0, 1), (.goto 22, 43, 0, 0)]
def bo_101_24 : List ZO := [(.iload_n 1, 1, 0, 0), (.bipush 32, 32, 0, 0), (.if_icmp .lt 15, 42, 0, 0), (.iload_n 1, 1, 0, 0), (.bipush 40, 40, 0, 0), (.if_icmp .ge 9, 42, 0, 0), (.sipush 9999, 9999, 0, 0), (.goto 4, 43, 0, 0)]
def bo_101_42 : List ZO := [(.iconst 0, 0, 0, 0), (.iastore, 0, 0, 0), (.iinc 1 1, 1, 1, 0), (.goto (-45), 2, 0, 0)]
def bo_101_43 : List ZO := [(.iastore, 0, 0, 0), (.iinc 1 1, 1, 1, 0), (.goto (-45), 2, 0, 0)]
def bo_101_50 : List ZO := [(.return_, 0, 0, 0)]
def bk_101 : List (Nat × ZE) := [(0, false, [true, false], bo_101_0, 2), (2, true, [true, true], bo_101_2, 0), (24, false, [true, true], bo_101_24, 0), (42, false, [true, true], bo_101_42, 0), (43, false, [true, true], bo_101_43, 0), (50, false, [false, false], bo_101_50, 0)]
theorem ck_101 : z_chks 101 bk_101 [[], [721], [], [], [], []] = true := by decide +kernel
theorem bf_101_0 : z_fd bk_101 0 = some (false, [true, false], bo_101_0, 2) := rfl
theorem bf_101_2 : z_fd bk_101 2 = some (true, [true, true], bo_101_2, 0) := rfl
theorem bf_101_24 : z_fd bk_101 24 = some (false, [true, true], bo_101_24, 0) := rfl
theorem bf_101_42 : z_fd bk_101 42 = some (false, [true, true], bo_101_42, 0) := rfl
theorem bf_101_43 : z_fd bk_101 43 = some (false, [true, true], bo_101_43, 0) := rfl
theorem bf_101_50 : z_fd bk_101 50 = some (false, [false, false], bo_101_50, 0) := rfl
theorem cl_101 : z_mL 101 = 2 := by decide +kernel
theorem cz_101 : plainFor (z_my 101) = true ∧ ((z_rm 101).cells = 0 ∧ (z_rm 101).slots = 0) := by decide +kernel
-- 102 Model_copy
def bo_102_0 : List ZO := [(.iconst 0, 0, 0, 0), (.istore_n 2, 2, 0, 0)]
def bo_102_2 : List ZO := [(.iload_n 2, 2, 0, 0), (.bipush 78, 78, 0, 0), (.if_icmp .ge 15, 20, 0, 0), (.aload_n 1, 1, 0, 0), (.iload_n 2, 2, 0, 0), (.aload_n 0, 0, 0, 0), (.iload_n 2, 2, 0, 0), (.iaload, 0, 0, 0), (.iastore, 0, 0, 0), (.iinc 2 1, 1, 2, 0), (.goto (-15), 2, 0, 0)]
def bo_102_20 : List ZO := [(.return_, 0, 0, 0)]
def bk_102 : List (Nat × ZE) := [(0, false, [true, true, false], bo_102_0, 2), (2, true, [true, true, true], bo_102_2, 0), (20, false, [false, false, false], bo_102_20, 0)]
theorem ck_102 : z_chks 102 bk_102 [[], [], []] = true := by decide +kernel
theorem bf_102_0 : z_fd bk_102 0 = some (false, [true, true, false], bo_102_0, 2) := rfl
theorem bf_102_2 : z_fd bk_102 2 = some (true, [true, true, true], bo_102_2, 0) := rfl
theorem bf_102_20 : z_fd bk_102 20 = some (false, [false, false, false], bo_102_20, 0) := rfl
theorem cl_102 : z_mL 102 = 3 := by decide +kernel
theorem cz_102 : plainFor (z_my 102) = true ∧ ((z_rm 102).cells = 0 ∧ (z_rm 102).slots = 0) := by decide +kernel
-- 103 Model_in
def bo_103_0 : List ZO := [(.lload_n 0, 0, 0, 0), (.lload_n 2, 2, 0, 0), (.lcmp, 0, 0, 0), (.ifCond .lt 14, 17, 0, 0), (.lload_n 0, 0, 0, 0), (.lload 4, 4, 0, 0), (.lcmp, 0, 0, 0), (.ifCond .gt 7, 17, 0, 0), (.iconst 1, 1, 0, 0), (.goto 4, 18, 0, 0)]
def bo_103_17 : List ZO := [(.iconst 0, 0, 0, 0), (.ireturn, 1, 0, 0)]
def bo_103_18 : List ZO := [(.ireturn, 1, 0, 0)]
def bk_103 : List (Nat × ZE) := [(0, false, [true, false, true, false, true, false], bo_103_0, 0), (17, false, [false, false, false, false, false, false], bo_103_17, 0), (18, false, [false, false, false, false, false, false], bo_103_18, 0)]
theorem ck_103 : z_chks 103 bk_103 [[], [], []] = true := by decide +kernel
theorem bf_103_0 : z_fd bk_103 0 = some (false, [true, false, true, false, true, false], bo_103_0, 0) := rfl
theorem bf_103_17 : z_fd bk_103 17 = some (false, [false, false, false, false, false, false], bo_103_17, 0) := rfl
theorem bf_103_18 : z_fd bk_103 18 = some (false, [false, false, false, false, false, false], bo_103_18, 0) := rfl
theorem cl_103 : z_mL 103 = 6 := by decide +kernel
theorem cz_103 : plainFor (z_my 103) = true ∧ ((z_rm 103).cells = 0 ∧ (z_rm 103).slots = 0) := by decide +kernel
-- 104 Model_has
def bo_104_0 : List ZO := [(.iload_n 0, 0, 0, 0), (.iload_n 1, 1, 0, 0), (.ishr, 0, 0, 0), (.iconst 1, 1, 0, 0), (.iand, 0, 0, 0), (.iconst 1, 1, 0, 0), (.if_icmp .ne 7, 13, 0, 0), (.iconst 1, 1, 0, 0), (.goto 4, 14, 0, 0)]
def bo_104_13 : List ZO := [(.iconst 0, 0, 0, 0), (.ireturn, 1, 0, 0)]
def bo_104_14 : List ZO := [(.ireturn, 1, 0, 0)]
def bk_104 : List (Nat × ZE) := [(0, false, [true, true], bo_104_0, 0), (13, false, [false, false], bo_104_13, 0), (14, false, [false, false], bo_104_14, 0)]
theorem ck_104 : z_chks 104 bk_104 [[], [], []] = true := by decide +kernel
theorem bf_104_0 : z_fd bk_104 0 = some (false, [true, true], bo_104_0, 0) := rfl
theorem bf_104_13 : z_fd bk_104 13 = some (false, [false, false], bo_104_13, 0) := rfl
theorem bf_104_14 : z_fd bk_104 14 = some (false, [false, false], bo_104_14, 0) := rfl
theorem cl_104 : z_mL 104 = 2 := by decide +kernel
theorem cz_104 : plainFor (z_my 104) = true ∧ ((z_rm 104).cells = 0 ∧ (z_rm 104).slots = 0) := by decide +kernel
-- 105 Model_ones
def bo_105_0 : List ZO := [(.iconst 0, 0, 0, 0), (.istore_n 1, 1, 0, 0), (.iconst 0, 0, 0, 0), (.istore_n 2, 2, 0, 0)]
def bo_105_4 : List ZO := [(.iload_n 2, 2, 0, 0), (.bipush 9, 9, 0, 0), (.if_icmp .ge 17, 24, 0, 0), (.iload_n 1, 1, 0, 0), (.iload_n 0, 0, 0, 0), (.iload_n 2, 2, 0, 0), (.ishr, 0, 0, 0), (.iconst 1, 1, 0, 0), (.iand, 0, 0, 0), (.iadd, 0, 0, 0), (.istore_n 1, 1, 0, 0), (.iinc 2 1, 1, 2, 0), (.goto (-17), 4, 0, 0)]
def bo_105_24 : List ZO := [(.iload_n 1, 1, 0, 0), (.ireturn, 0, 0, 0)]
def bk_105 : List (Nat × ZE) := [(0, false, [true, false, false], bo_105_0, 4), (4, true, [true, true, true], bo_105_4, 0), (24, false, [false, true, false], bo_105_24, 0)]
theorem ck_105 : z_chks 105 bk_105 [[], [], []] = true := by decide +kernel
theorem bf_105_0 : z_fd bk_105 0 = some (false, [true, false, false], bo_105_0, 4) := rfl
theorem bf_105_4 : z_fd bk_105 4 = some (true, [true, true, true], bo_105_4, 0) := rfl
theorem bf_105_24 : z_fd bk_105 24 = some (false, [false, true, false], bo_105_24, 0) := rfl
theorem cl_105 : z_mL 105 = 3 := by decide +kernel
theorem cz_105 : plainFor (z_my 105) = true ∧ ((z_rm 105).cells = 0 ∧ (z_rm 105).slots = 0) := by decide +kernel
-- 106 Model_power
def bo_106_0 : List ZO := [(.iconst 1, 1, 0, 0), (.istore_n 2, 2, 0, 0), (.iconst 0, 0, 0, 0), (.istore_n 3, 3, 0, 0)]
def bo_106_4 : List ZO := [(.iload_n 3, 3, 0, 0), (.iload_n 1, 1, 0, 0), (.if_icmp .ge 13, 19, 0, 0), (.iload_n 2, 2, 0, 0), (.iload_n 0, 0, 0, 0), (.imul, 0, 0, 0), (.istore_n 2, 2, 0, 0), (.iinc 3 1, 1, 3, 0), (.goto (-12), 4, 0, 0)]
def bo_106_19 : List ZO := [(.iload_n 2, 2, 0, 0), (.ireturn, 0, 0, 0)]
def bk_106 : List (Nat × ZE) := [(0, false, [true, true, false, false], bo_106_0, 4), (4, true, [true, true, true, true], bo_106_4, 0), (19, false, [false, false, true, false], bo_106_19, 0)]
theorem ck_106 : z_chks 106 bk_106 [[], [], []] = true := by decide +kernel
theorem bf_106_0 : z_fd bk_106 0 = some (false, [true, true, false, false], bo_106_0, 4) := rfl
theorem bf_106_4 : z_fd bk_106 4 = some (true, [true, true, true, true], bo_106_4, 0) := rfl
theorem bf_106_19 : z_fd bk_106 19 = some (false, [false, false, true, false], bo_106_19, 0) := rfl
theorem cl_106 : z_mL 106 = 4 := by decide +kernel
theorem cz_106 : plainFor (z_my 106) = true ∧ ((z_rm 106).cells = 0 ∧ (z_rm 106).slots = 0) := by decide +kernel
-- 107 Model_factorial
def bo_107_0 : List ZO := [(.iconst 1, 1, 0, 0), (.istore_n 1, 1, 0, 0), (.iconst 2, 2, 0, 0), (.istore_n 2, 2, 0, 0)]
def bo_107_4 : List ZO := [(.iload_n 2, 2, 0, 0), (.iload_n 0, 0, 0, 0), (.if_icmp .gt 13, 19, 0, 0), (.iload_n 1, 1, 0, 0), (.iload_n 2, 2, 0, 0), (.imul, 0, 0, 0), (.istore_n 1, 1, 0, 0), (.iinc 2 1, 1, 2, 0), (.goto (-12), 4, 0, 0)]
def bo_107_19 : List ZO := [(.iload_n 1, 1, 0, 0), (.ireturn, 0, 0, 0)]
def bk_107 : List (Nat × ZE) := [(0, false, [true, false, false], bo_107_0, 4), (4, true, [true, true, true], bo_107_4, 0), (19, false, [false, true, false], bo_107_19, 0)]
theorem ck_107 : z_chks 107 bk_107 [[], [], []] = true := by decide +kernel
theorem bf_107_0 : z_fd bk_107 0 = some (false, [true, false, false], bo_107_0, 4) := rfl
theorem bf_107_4 : z_fd bk_107 4 = some (true, [true, true, true], bo_107_4, 0) := rfl
theorem bf_107_19 : z_fd bk_107 19 = some (false, [false, true, false], bo_107_19, 0) := rfl
theorem cl_107 : z_mL 107 = 3 := by decide +kernel
theorem cz_107 : plainFor (z_my 107) = true ∧ ((z_rm 107).cells = 0 ∧ (z_rm 107).slots = 0) := by decide +kernel
-- 108 Model_fraction
def bo_108_0 : List ZO := [(.lload_n 0, 0, 0, 0), (.lconst 0, 0, 0, 0), (.lcmp, 0, 0, 0), (.ifCond .ge 8, 11, 0, 0), (.lload_n 0, 0, 0, 0), (.lneg, 0, 0, 0), (.goto 4, 12, 0, 0)]
theorem cb_108_0 : z_chk 108 bo_108_0 0 0 [] = true := by decide +kernel
def bo_108_11 : List ZO := [(.lload_n 0, 0, 0, 0), (.lstore 5, 5, 0, 0), (.lload_n 2, 2, 0, 0), (.lstore 7, 7, 0, 0)]
theorem cb_108_11 : z_chk 108 bo_108_11 11 17 [] = true := by decide +kernel
def bo_108_12 : List ZO := [(.lstore 5, 5, 0, 0), (.lload_n 2, 2, 0, 0), (.lstore 7, 7, 0, 0)]
theorem cb_108_12 : z_chk 108 bo_108_12 12 17 [] = true := by decide +kernel
def bo_108_17 : List ZO := [(.lload 7, 7, 0, 0), (.lconst 0, 0, 0, 0), (.lcmp, 0, 0, 0), (.ifCond .eq 21, 42, 0, 0), (.lload 5, 5, 0, 0), (.lload 7, 7, 0, 0), (.lrem, 0, 0, 0), (.lstore 9, 9, 0, 0), (.lload 7, 7, 0, 0), (.lstore 5, 5, 0, 0), (.lload 9, 9, 0, 0), (.lstore 7, 7, 0, 0), (.goto (-22), 17, 0, 0)]
theorem cb_108_17 : z_chk 108 bo_108_17 17 0 [] = true := by decide +kernel
def bo_108_42 : List ZO := [(.iload 4, 4, 0, 0), (.ifCond .eq 10, 54, 0, 0), (.lload_n 0, 0, 0, 0), (.lload 5, 5, 0, 0), (.ldiv, 0, 0, 0), (.goto 7, 58, 0, 0)]
theorem cb_108_42 : z_chk 108 bo_108_42 42 0 [] = true := by decide +kernel
def bo_108_54 : List ZO := [(.lload_n 2, 2, 0, 0), (.lload 5, 5, 0, 0), (.ldiv, 0, 0, 0), (.l2i, 0, 0, 0), (.ireturn, 0, 0, 0)]
theorem cb_108_54 : z_chk 108 bo_108_54 54 0 [] = true := by decide +kernel
def bo_108_58 : List ZO := [(.l2i, 0, 0, 0), (.ireturn, 0, 0, 0)]
theorem cb_108_58 : z_chk 108 bo_108_58 58 0 [] = true := by decide +kernel
def bk_108 : List (Nat × ZE) := [(0, false, [true, false, true, false, true, false, false, false, false, false, false], bo_108_0, 0), (11, false, [true, false, true, false, true, false, false, false, false, false, false], bo_108_11, 17), (12, false, [true, false, true, false, true, false, false, false, false, false, false], bo_108_12, 17), (17, true, [true, false, true, false, true, true, false, true, false, false, false], bo_108_17, 0), (42, false, [true, false, true, false, true, true, false, false, false, false, false], bo_108_42, 0), (54, false, [false, false, true, false, false, true, false, false, false, false, false], bo_108_54, 0), (58, false, [false, false, false, false, false, false, false, false, false, false, false], bo_108_58, 0)]
theorem ck_108 : z_chks 108 bk_108 [[], [], [], [], [], [], []] = true := z_chks_cons cb_108_0 (z_chks_cons cb_108_11 (z_chks_cons cb_108_12 (z_chks_cons cb_108_17 (z_chks_cons cb_108_42 (z_chks_cons cb_108_54 (z_chks_cons cb_108_58 (z_chks_nil)))))))
theorem bf_108_0 : z_fd bk_108 0 = some (false, [true, false, true, false, true, false, false, false, false, false, false], bo_108_0, 0) := rfl
theorem bf_108_11 : z_fd bk_108 11 = some (false, [true, false, true, false, true, false, false, false, false, false, false], bo_108_11, 17) := rfl
theorem bf_108_12 : z_fd bk_108 12 = some (false, [true, false, true, false, true, false, false, false, false, false, false], bo_108_12, 17) := rfl
theorem bf_108_17 : z_fd bk_108 17 = some (true, [true, false, true, false, true, true, false, true, false, false, false], bo_108_17, 0) := rfl
theorem bf_108_42 : z_fd bk_108 42 = some (false, [true, false, true, false, true, true, false, false, false, false, false], bo_108_42, 0) := rfl
theorem bf_108_54 : z_fd bk_108 54 = some (false, [false, false, true, false, false, true, false, false, false, false, false], bo_108_54, 0) := rfl
theorem bf_108_58 : z_fd bk_108 58 = some (false, [false, false, false, false, false, false, false, false, false, false, false], bo_108_58, 0) := rfl
theorem cl_108 : z_mL 108 = 11 := by decide +kernel
theorem cz_108 : plainFor (z_my 108) = true ∧ ((z_rm 108).cells = 0 ∧ (z_rm 108).slots = 0) := by decide +kernel
-- 109 Model_isNode
def bo_109_0 : List ZO := [(.iload_n 1, 1, 0, 0), (.i2l, 0, 0, 0), (.lconst 0, 0, 0, 0), (.aload_n 0, 0, 0, 0), (.getfield 99, 7, 2, 0), (.iconst 1, 1, 0, 0), (.isub, 0, 0, 0), (.i2l, 0, 0, 0), (.invokestatic 102, 103, 3, 0), (.ireturn, 1, 0, 0)]
def bk_109 : List (Nat × ZE) := [(0, false, [true, true], bo_109_0, 0)]
theorem ck_109 : z_chks 109 bk_109 [[713, 837]] = true := by decide +kernel
theorem bf_109_0 : z_fd bk_109 0 = some (false, [true, true], bo_109_0, 0) := rfl
theorem cl_109 : z_mL 109 = 2 := by decide +kernel
theorem cz_109 : plainFor (z_my 109) = true ∧ ((z_rm 109).cells = 0 ∧ (z_rm 109).slots = 0) := by decide +kernel
-- 110 Model_isGateway
def bo_110_0 : List ZO := [(.aload_n 0, 0, 0, 0), (.iload_n 1, 1, 0, 0), (.invokevirtual 106, 109, 2, 8), (.ifCond .eq 16, 21, 0, 0), (.aload_n 0, 0, 0, 0), (.getfield 13, 7, 3, 2), (.iload_n 1, 1, 0, 0), (.iaload, 0, 0, 0), (.ifCond .ne 7, 21, 0, 0), (.iconst 1, 1, 0, 0), (.goto 4, 22, 0, 0)]
def bo_110_21 : List ZO := [(.iconst 0, 0, 0, 0), (.ireturn, 1, 0, 0)]
def bo_110_22 : List ZO := [(.ireturn, 1, 0, 0)]
def bk_110 : List (Nat × ZE) := [(0, false, [true, true], bo_110_0, 0), (21, false, [false, false], bo_110_21, 0), (22, false, [false, false], bo_110_22, 0)]
theorem ck_110 : z_chks 110 bk_110 [[916, 714], [], []] = true := by decide +kernel
theorem bf_110_0 : z_fd bk_110 0 = some (false, [true, true], bo_110_0, 0) := rfl
theorem bf_110_21 : z_fd bk_110 21 = some (false, [false, false], bo_110_21, 0) := rfl
theorem bf_110_22 : z_fd bk_110 22 = some (false, [false, false], bo_110_22, 0) := rfl
theorem cl_110 : z_mL 110 = 2 := by decide +kernel
theorem cz_110 : plainFor (z_my 110) = true ∧ ((z_rm 110).cells = 0 ∧ (z_rm 110).slots = 0) := by decide +kernel
-- 111 Model_isLink
def bo_111_0 : List ZO := [(.iload_n 1, 1, 0, 0), (.i2l, 0, 0, 0), (.lconst 0, 0, 0, 0), (.aload_n 0, 0, 0, 0), (.getfield 110, 7, 6, 0), (.iconst 1, 1, 0, 0), (.isub, 0, 0, 0), (.i2l, 0, 0, 0), (.invokestatic 102, 103, 3, 0), (.ireturn, 1, 0, 0)]
def bk_111 : List (Nat × ZE) := [(0, false, [true, true], bo_111_0, 0)]
theorem ck_111 : z_chks 111 bk_111 [[717, 837]] = true := by decide +kernel
theorem bf_111_0 : z_fd bk_111 0 = some (false, [true, true], bo_111_0, 0) := rfl
theorem cl_111 : z_mL 111 = 2 := by decide +kernel
theorem cz_111 : plainFor (z_my 111) = true ∧ ((z_rm 111).cells = 0 ∧ (z_rm 111).slots = 0) := by decide +kernel
-- 112 Model_write
def bo_112_0 : List ZO := [(.iload_n 1, 1, 0, 0), (.i2l, 0, 0, 0), (.lconst 0, 0, 0, 0), (.ldc2_w 113, 255, 0, 0), (.invokestatic 102, 103, 3, 0), (.ifCond .ne 6, 15, 0, 0), (.bipush (-2), 2, 0, 1), (.ireturn, 0, 0, 0)]
def bo_112_15 : List ZO := [(.aload_n 0, 0, 0, 0), (.getfield 115, 7, 1, 0), (.bipush 100, 100, 0, 0), (.if_icmp .ne 6, 27, 0, 0), (.bipush (-4), 4, 0, 1), (.ireturn, 0, 0, 0)]
def bo_112_27 : List ZO := [(.aload_n 0, 0, 0, 0), (.getfield 7, 7, 0, 2), (.aload_n 0, 0, 0, 0), (.getfield 115, 7, 1, 0), (.iload_n 1, 1, 0, 0), (.iastore, 0, 0, 0), (.aload_n 0, 0, 0, 0), (.dup, 0, 0, 0), (.getfield 115, 7, 1, 0), (.iconst 1, 1, 0, 0), (.iadd, 0, 0, 0), (.putfield 115, 7, 1, 0), (.aload_n 0, 0, 0, 0), (.getfield 115, 7, 1, 0), (.ireturn, 0, 0, 0)]
def bk_112 : List (Nat × ZE) := [(0, false, [true, true], bo_112_0, 0), (15, false, [true, true], bo_112_15, 0), (27, false, [true, true], bo_112_27, 0)]
theorem ck_112 : z_chks 112 bk_112 [[836, 837], [712], [711, 712, 712, 712, 712]] = true := by decide +kernel
theorem bf_112_0 : z_fd bk_112 0 = some (false, [true, true], bo_112_0, 0) := rfl
theorem bf_112_15 : z_fd bk_112 15 = some (false, [true, true], bo_112_15, 0) := rfl
theorem bf_112_27 : z_fd bk_112 27 = some (false, [true, true], bo_112_27, 0) := rfl
theorem cl_112 : z_mL 112 = 2 := by decide +kernel
theorem cz_112 : plainFor (z_my 112) = true ∧ ((z_rm 112).cells = 0 ∧ (z_rm 112).slots = 0) := by decide +kernel
-- 113 Model_wipe
def bo_113_0 : List ZO := [(.aload_n 0, 0, 0, 0), (.getfield 115, 7, 1, 0), (.istore_n 1, 1, 0, 0), (.aload_n 0, 0, 0, 0), (.iconst 0, 0, 0, 0), (.putfield 115, 7, 1, 0), (.iload_n 1, 1, 0, 0), (.ireturn, 0, 0, 0)]
def bk_113 : List (Nat × ZE) := [(0, false, [true, false], bo_113_0, 0)]
theorem ck_113 : z_chks 113 bk_113 [[712, 712]] = true := by decide +kernel
theorem bf_113_0 : z_fd bk_113 0 = some (false, [true, false], bo_113_0, 0) := rfl
theorem cl_113 : z_mL 113 = 2 := by decide +kernel
theorem cz_113 : plainFor (z_my 113) = true ∧ ((z_rm 113).cells = 0 ∧ (z_rm 113).slots = 0) := by decide +kernel
-- 114 Model_areLinkedAsRead
def bo_114_0 : List ZO := [(.iconst 0, 0, 0, 0), (.istore_n 3, 3, 0, 0), (.iconst 0, 0, 0, 0), (.istore 4, 4, 0, 0)]
theorem cb_114_0 : z_chk 114 bo_114_0 0 5 [] = true := by decide +kernel
def bo_114_5 : List ZO := [(.iload 4, 4, 0, 0), (.aload_n 0, 0, 0, 0), (.getfield 118, 7, 31, 0), (.if_icmp .ge 63, 74, 0, 0), (.iload_n 3, 3, 0, 0), (.ifCond .ne 47, 62, 0, 0), (.aload_n 0, 0, 0, 0), (.getfield 77, 7, 32, 2), (.iload 4, 4, 0, 0), (.iaload, 0, 0, 0), (.iload_n 1, 1, 0, 0), (.if_icmp .ne 14, 40, 0, 0), (.aload_n 0, 0, 0, 0), (.getfield 80, 7, 33, 2), (.iload 4, 4, 0, 0), (.iaload, 0, 0, 0), (.iload_n 2, 2, 0, 0), (.if_icmp .eq 25, 62, 0, 0), (.aload_n 0, 0, 0, 0), (.getfield 77, 7, 32, 2), (.iload 4, 4, 0, 0), (.iaload, 0, 0, 0), (.iload_n 2, 2, 0, 0), (.if_icmp .ne 18, 66, 0, 0), (.aload_n 0, 0, 0, 0), (.getfield 80, 7, 33, 2), (.iload 4, 4, 0, 0), (.iaload, 0, 0, 0), (.iload_n 1, 1, 0, 0), (.if_icmp .ne 7, 66, 0, 0), (.iconst 1, 1, 0, 0), (.goto 4, 67, 0, 0)]
theorem cb_114_5 : z_chk 114 bo_114_5 5 0 [742, 743, 744, 743, 744] = true := by decide +kernel
def bo_114_40 : List ZO := [(.aload_n 0, 0, 0, 0), (.getfield 77, 7, 32, 2), (.iload 4, 4, 0, 0), (.iaload, 0, 0, 0), (.iload_n 2, 2, 0, 0), (.if_icmp .ne 18, 66, 0, 0), (.aload_n 0, 0, 0, 0), (.getfield 80, 7, 33, 2), (.iload 4, 4, 0, 0), (.iaload, 0, 0, 0), (.iload_n 1, 1, 0, 0), (.if_icmp .ne 7, 66, 0, 0), (.iconst 1, 1, 0, 0), (.goto 4, 67, 0, 0)]
theorem cb_114_40 : z_chk 114 bo_114_40 40 0 [743, 744] = true := by decide +kernel
def bo_114_62 : List ZO := [(.iconst 1, 1, 0, 0), (.goto 4, 67, 0, 0)]
theorem cb_114_62 : z_chk 114 bo_114_62 62 0 [] = true := by decide +kernel
def bo_114_66 : List ZO := [(.iconst 0, 0, 0, 0), (.istore_n 3, 3, 0, 0), (.iinc 4 1, 1, 4, 0), (.goto (-66), 5, 0, 0)]
theorem cb_114_66 : z_chk 114 bo_114_66 66 0 [] = true := by decide +kernel
def bo_114_67 : List ZO := [(.istore_n 3, 3, 0, 0), (.iinc 4 1, 1, 4, 0), (.goto (-66), 5, 0, 0)]
theorem cb_114_67 : z_chk 114 bo_114_67 67 0 [] = true := by decide +kernel
def bo_114_74 : List ZO := [(.iload_n 3, 3, 0, 0), (.ireturn, 1, 0, 0)]
theorem cb_114_74 : z_chk 114 bo_114_74 74 0 [] = true := by decide +kernel
def bk_114 : List (Nat × ZE) := [(0, false, [true, true, true, false, false], bo_114_0, 5), (5, true, [true, true, true, true, true], bo_114_5, 0), (40, false, [true, true, true, false, true], bo_114_40, 0), (62, false, [true, true, true, false, true], bo_114_62, 0), (66, false, [true, true, true, false, true], bo_114_66, 0), (67, false, [true, true, true, false, true], bo_114_67, 0), (74, false, [false, false, false, true, false], bo_114_74, 0)]
theorem ck_114 : z_chks 114 bk_114 [[], [742, 743, 744, 743, 744], [743, 744], [], [], [], []] = true := z_chks_cons cb_114_0 (z_chks_cons cb_114_5 (z_chks_cons cb_114_40 (z_chks_cons cb_114_62 (z_chks_cons cb_114_66 (z_chks_cons cb_114_67 (z_chks_cons cb_114_74 (z_chks_nil)))))))
theorem bf_114_0 : z_fd bk_114 0 = some (false, [true, true, true, false, false], bo_114_0, 5) := rfl
theorem bf_114_5 : z_fd bk_114 5 = some (true, [true, true, true, true, true], bo_114_5, 0) := rfl
theorem bf_114_40 : z_fd bk_114 40 = some (false, [true, true, true, false, true], bo_114_40, 0) := rfl
theorem bf_114_62 : z_fd bk_114 62 = some (false, [true, true, true, false, true], bo_114_62, 0) := rfl
theorem bf_114_66 : z_fd bk_114 66 = some (false, [true, true, true, false, true], bo_114_66, 0) := rfl
theorem bf_114_67 : z_fd bk_114 67 = some (false, [true, true, true, false, true], bo_114_67, 0) := rfl
theorem bf_114_74 : z_fd bk_114 74 = some (false, [false, false, false, true, false], bo_114_74, 0) := rfl
theorem cl_114 : z_mL 114 = 5 := by decide +kernel
theorem cz_114 : plainFor (z_my 114) = true ∧ ((z_rm 114).cells = 0 ∧ (z_rm 114).slots = 0) := by decide +kernel
-- 115 Model_isFullAsRead
def bo_115_0 : List ZO := [(.iconst 1, 1, 0, 0), (.istore_n 2, 2, 0, 0), (.iconst 0, 0, 0, 0), (.istore_n 3, 3, 0, 0)]
def bo_115_4 : List ZO := [(.iload_n 3, 3, 0, 0), (.aload_n 0, 0, 0, 0), (.getfield 121, 7, 26, 0), (.if_icmp .ge 33, 42, 0, 0), (.iload_n 2, 2, 0, 0), (.ifCond .eq 21, 34, 0, 0), (.iload_n 3, 3, 0, 0), (.iload_n 1, 1, 0, 0), (.if_icmp .eq 12, 30, 0, 0), (.aload_n 0, 0, 0, 0), (.iload_n 1, 1, 0, 0), (.iload_n 3, 3, 0, 0), (.invokevirtual 124, 114, 3, 8), (.ifCond .eq 7, 34, 0, 0), (.iconst 1, 1, 0, 0), (.goto 4, 35, 0, 0)]
def bo_115_30 : List ZO := [(.iconst 1, 1, 0, 0), (.goto 4, 35, 0, 0)]
def bo_115_34 : List ZO := [(.iconst 0, 0, 0, 0), (.istore_n 2, 2, 0, 0), (.iinc 3 1, 1, 3, 0), (.goto (-35), 4, 0, 0)]
def bo_115_35 : List ZO := [(.istore_n 2, 2, 0, 0), (.iinc 3 1, 1, 3, 0), (.goto (-35), 4, 0, 0)]
def bo_115_42 : List ZO := [(.iload_n 2, 2, 0, 0), (.ireturn, 1, 0, 0)]
def bk_115 : List (Nat × ZE) := [(0, false, [true, true, false, false], bo_115_0, 4), (4, true, [true, true, true, true], bo_115_4, 0), (30, false, [true, true, false, true], bo_115_30, 0), (34, false, [true, true, false, true], bo_115_34, 0), (35, false, [true, true, false, true], bo_115_35, 0), (42, false, [false, false, true, false], bo_115_42, 0)]
theorem ck_115 : z_chks 115 bk_115 [[], [737, 868], [], [], [], []] = true := by decide +kernel
theorem bf_115_0 : z_fd bk_115 0 = some (false, [true, true, false, false], bo_115_0, 4) := rfl
theorem bf_115_4 : z_fd bk_115 4 = some (true, [true, true, true, true], bo_115_4, 0) := rfl
theorem bf_115_30 : z_fd bk_115 30 = some (false, [true, true, false, true], bo_115_30, 0) := rfl
theorem bf_115_34 : z_fd bk_115 34 = some (false, [true, true, false, true], bo_115_34, 0) := rfl
theorem bf_115_35 : z_fd bk_115 35 = some (false, [true, true, false, true], bo_115_35, 0) := rfl
theorem bf_115_42 : z_fd bk_115 42 = some (false, [false, false, true, false], bo_115_42, 0) := rfl
theorem cl_115 : z_mL 115 = 4 := by decide +kernel
theorem cz_115 : plainFor (z_my 115) = true ∧ ((z_rm 115).cells = 0 ∧ (z_rm 115).slots = 0) := by decide +kernel
-- 116 Model_mayLink
def bo_116_0 : List ZO := [(.iconst 0, 0, 0, 0), (.istore_n 1, 1, 0, 0), (.iconst 0, 0, 0, 0), (.istore_n 2, 2, 0, 0)]
theorem cb_116_0 : z_chk 116 bo_116_0 0 4 [] = true := by decide +kernel
def bo_116_4 : List ZO := [(.iload_n 2, 2, 0, 0), (.aload_n 0, 0, 0, 0), (.getfield 121, 7, 26, 0), (.if_icmp .ge 27, 36, 0, 0), (.iload_n 1, 1, 0, 0), (.ifCond .ne 11, 24, 0, 0), (.aload_n 0, 0, 0, 0), (.iload_n 2, 2, 0, 0), (.invokevirtual 128, 115, 2, 8), (.ifCond .ne 7, 28, 0, 0), (.iconst 1, 1, 0, 0), (.goto 4, 29, 0, 0)]
theorem cb_116_4 : z_chk 116 bo_116_4 4 0 [737, 864] = true := by decide +kernel
def bo_116_24 : List ZO := [(.iconst 1, 1, 0, 0), (.goto 4, 29, 0, 0)]
theorem cb_116_24 : z_chk 116 bo_116_24 24 0 [] = true := by decide +kernel
def bo_116_28 : List ZO := [(.iconst 0, 0, 0, 0), (.istore_n 1, 1, 0, 0), (.iinc 2 1, 1, 2, 0), (.goto (-29), 4, 0, 0)]
theorem cb_116_28 : z_chk 116 bo_116_28 28 0 [] = true := by decide +kernel
def bo_116_29 : List ZO := [(.istore_n 1, 1, 0, 0), (.iinc 2 1, 1, 2, 0), (.goto (-29), 4, 0, 0)]
theorem cb_116_29 : z_chk 116 bo_116_29 29 0 [] = true := by decide +kernel
def bo_116_36 : List ZO := [(.iload_n 1, 1, 0, 0), (.ifCond .eq 16, 53, 0, 0), (.aload_n 0, 0, 0, 0), (.getfield 118, 7, 31, 0), (.bipush 9, 9, 0, 0), (.if_icmp .ge 7, 53, 0, 0), (.iconst 1, 1, 0, 0), (.goto 4, 54, 0, 0)]
theorem cb_116_36 : z_chk 116 bo_116_36 36 0 [742] = true := by decide +kernel
def bo_116_53 : List ZO := [(.iconst 0, 0, 0, 0), (.ireturn, 1, 0, 0)]
theorem cb_116_53 : z_chk 116 bo_116_53 53 0 [] = true := by decide +kernel
def bo_116_54 : List ZO := [(.ireturn, 1, 0, 0)]
theorem cb_116_54 : z_chk 116 bo_116_54 54 0 [] = true := by decide +kernel
def bk_116 : List (Nat × ZE) := [(0, false, [true, false, false], bo_116_0, 4), (4, true, [true, true, true], bo_116_4, 0), (24, false, [true, false, true], bo_116_24, 0), (28, false, [true, false, true], bo_116_28, 0), (29, false, [true, false, true], bo_116_29, 0), (36, false, [true, true, false], bo_116_36, 0), (53, false, [false, false, false], bo_116_53, 0), (54, false, [false, false, false], bo_116_54, 0)]
theorem ck_116 : z_chks 116 bk_116 [[], [737, 864], [], [], [], [742], [], []] = true := z_chks_cons cb_116_0 (z_chks_cons cb_116_4 (z_chks_cons cb_116_24 (z_chks_cons cb_116_28 (z_chks_cons cb_116_29 (z_chks_cons cb_116_36 (z_chks_cons cb_116_53 (z_chks_cons cb_116_54 (z_chks_nil))))))))
theorem bf_116_0 : z_fd bk_116 0 = some (false, [true, false, false], bo_116_0, 4) := rfl
theorem bf_116_4 : z_fd bk_116 4 = some (true, [true, true, true], bo_116_4, 0) := rfl
theorem bf_116_24 : z_fd bk_116 24 = some (false, [true, false, true], bo_116_24, 0) := rfl
theorem bf_116_28 : z_fd bk_116 28 = some (false, [true, false, true], bo_116_28, 0) := rfl
theorem bf_116_29 : z_fd bk_116 29 = some (false, [true, false, true], bo_116_29, 0) := rfl
theorem bf_116_36 : z_fd bk_116 36 = some (false, [true, true, false], bo_116_36, 0) := rfl
theorem bf_116_53 : z_fd bk_116 53 = some (false, [false, false, false], bo_116_53, 0) := rfl
theorem bf_116_54 : z_fd bk_116 54 = some (false, [false, false, false], bo_116_54, 0) := rfl
theorem cl_116 : z_mL 116 = 3 := by decide +kernel
theorem cz_116 : plainFor (z_my 116) = true ∧ ((z_rm 116).cells = 0 ∧ (z_rm 116).slots = 0) := by decide +kernel
-- 117 Model_takeSign
def bo_117_0 : List ZO := [(.aload_n 0, 0, 0, 0), (.iload_n 1, 1, 0, 0), (.putfield 131, 7, 38, 0), (.aload_n 0, 0, 0, 0), (.iconst 1, 1, 0, 0), (.putfield 134, 7, 39, 0), (.iload_n 1, 1, 0, 0), (.lookupswitch 129 #[(103, 41), (107, 124), (108, 41), (114, 56)], 11, 0, 0)]
theorem cb_117_0 : z_chk 117 bo_117_0 0 0 [749, 750] = true := by decide +kernel
def bo_117_52 : List ZO := [(.aload_n 0, 0, 0, 0), (.getfield 121, 7, 26, 0), (.bipush 8, 8, 0, 0), (.if_icmp .ge 7, 65, 0, 0), (.iconst 1, 1, 0, 0), (.goto 4, 66, 0, 0)]
theorem cb_117_52 : z_chk 117 bo_117_52 52 0 [737] = true := by decide +kernel
def bo_117_65 : List ZO := [(.iconst 0, 0, 0, 0), (.ireturn, 1, 0, 0)]
theorem cb_117_65 : z_chk 117 bo_117_65 65 0 [] = true := by decide +kernel
def bo_117_66 : List ZO := [(.ireturn, 1, 0, 0)]
theorem cb_117_66 : z_chk 117 bo_117_66 66 0 [] = true := by decide +kernel
def bo_117_67 : List ZO := [(.aload_n 0, 0, 0, 0), (.iconst 0, 0, 0, 0), (.putfield 134, 7, 39, 0), (.aload_n 0, 0, 0, 0), (.getfield 121, 7, 26, 0), (.bipush 8, 8, 0, 0), (.if_icmp .ne 5, 83, 0, 0), (.iconst 0, 0, 0, 0), (.ireturn, 1, 0, 0)]
theorem cb_117_67 : z_chk 117 bo_117_67 67 0 [750, 737] = true := by decide +kernel
def bo_117_83 : List ZO := [(.aload_n 0, 0, 0, 0), (.getfield 65, 7, 27, 2), (.aload_n 0, 0, 0, 0), (.getfield 121, 7, 26, 0), (.iconst 1, 1, 0, 0), (.iastore, 0, 0, 0), (.aload_n 0, 0, 0, 0), (.getfield 68, 7, 28, 2), (.aload_n 0, 0, 0, 0), (.getfield 121, 7, 26, 0), (.iconst 0, 0, 0, 0), (.iastore, 0, 0, 0), (.aload_n 0, 0, 0, 0), (.getfield 71, 7, 29, 2), (.aload_n 0, 0, 0, 0), (.getfield 121, 7, 26, 0), (.iconst 0, 0, 0, 0), (.iastore, 0, 0, 0), (.aload_n 0, 0, 0, 0), (.getfield 74, 7, 30, 2), (.aload_n 0, 0, 0, 0), (.getfield 121, 7, 26, 0), (.iconst 0, 0, 0, 0), (.iastore, 0, 0, 0), (.aload_n 0, 0, 0, 0), (.dup, 0, 0, 0), (.getfield 121, 7, 26, 0), (.iconst 1, 1, 0, 0), (.iadd, 0, 0, 0), (.putfield 121, 7, 26, 0), (.iconst 1, 1, 0, 0), (.ireturn, 1, 0, 0)]
theorem cb_117_83 : z_chk 117 bo_117_83 83 0 [738, 737, 739, 737, 740, 737, 741, 737, 737, 737] = true := by decide +kernel
def bo_117_135 : List ZO := [(.aload_n 0, 0, 0, 0), (.invokevirtual 137, 116, 1, 8), (.ireturn, 1, 0, 0)]
theorem cb_117_135 : z_chk 117 bo_117_135 135 0 [860] = true := by decide +kernel
def bo_117_140 : List ZO := [(.iconst 0, 0, 0, 0), (.ireturn, 1, 0, 0)]
theorem cb_117_140 : z_chk 117 bo_117_140 140 0 [] = true := by decide +kernel
def bk_117 : List (Nat × ZE) := [(0, false, [true, true], bo_117_0, 0), (52, false, [true, false], bo_117_52, 0), (65, false, [false, false], bo_117_65, 0), (66, false, [false, false], bo_117_66, 0), (67, false, [true, false], bo_117_67, 0), (83, false, [true, false], bo_117_83, 0), (135, false, [true, false], bo_117_135, 0), (140, false, [false, false], bo_117_140, 0)]
theorem ck_117 : z_chks 117 bk_117 [[749, 750], [737], [], [], [750, 737], [738, 737, 739, 737, 740, 737, 741, 737, 737, 737], [860], []] = true := z_chks_cons cb_117_0 (z_chks_cons cb_117_52 (z_chks_cons cb_117_65 (z_chks_cons cb_117_66 (z_chks_cons cb_117_67 (z_chks_cons cb_117_83 (z_chks_cons cb_117_135 (z_chks_cons cb_117_140 (z_chks_nil))))))))
theorem bf_117_0 : z_fd bk_117 0 = some (false, [true, true], bo_117_0, 0) := rfl
theorem bf_117_52 : z_fd bk_117 52 = some (false, [true, false], bo_117_52, 0) := rfl
theorem bf_117_65 : z_fd bk_117 65 = some (false, [false, false], bo_117_65, 0) := rfl
theorem bf_117_66 : z_fd bk_117 66 = some (false, [false, false], bo_117_66, 0) := rfl
theorem bf_117_67 : z_fd bk_117 67 = some (false, [true, false], bo_117_67, 0) := rfl
theorem bf_117_83 : z_fd bk_117 83 = some (false, [true, false], bo_117_83, 0) := rfl
theorem bf_117_135 : z_fd bk_117 135 = some (false, [true, false], bo_117_135, 0) := rfl
theorem bf_117_140 : z_fd bk_117 140 = some (false, [false, false], bo_117_140, 0) := rfl
theorem cl_117 : z_mL 117 = 2 := by decide +kernel
theorem cz_117 : plainFor (z_my 117) = true ∧ ((z_rm 117).cells = 0 ∧ (z_rm 117).slots = 0) := by decide +kernel
-- 118 Model_takeOfGateway
def bo_118_0 : List ZO := [(.aload_n 0, 0, 0, 0), (.iconst 0, 0, 0, 0), (.putfield 134, 7, 39, 0), (.iload_n 1, 1, 0, 0), (.i2l, 0, 0, 0), (.lconst 0, 0, 0, 0), (.ldc2_w 141, 9, 0, 0), (.invokestatic 102, 103, 3, 0), (.ifCond .ne 5, 19, 0, 0), (.iconst 0, 0, 0, 0), (.ireturn, 1, 0, 0)]
def bo_118_19 : List ZO := [(.aload_n 0, 0, 0, 0), (.getfield 65, 7, 27, 2), (.aload_n 0, 0, 0, 0), (.getfield 121, 7, 26, 0), (.iconst 0, 0, 0, 0), (.iastore, 0, 0, 0), (.aload_n 0, 0, 0, 0), (.getfield 68, 7, 28, 2), (.aload_n 0, 0, 0, 0), (.getfield 121, 7, 26, 0), (.iconst 0, 0, 0, 0), (.iastore, 0, 0, 0), (.aload_n 0, 0, 0, 0), (.getfield 71, 7, 29, 2), (.aload_n 0, 0, 0, 0), (.getfield 121, 7, 26, 0), (.iconst 0, 0, 0, 0), (.iastore, 0, 0, 0), (.aload_n 0, 0, 0, 0), (.getfield 74, 7, 30, 2), (.aload_n 0, 0, 0, 0), (.getfield 121, 7, 26, 0), (.iload_n 1, 1, 0, 0), (.iastore, 0, 0, 0), (.aload_n 0, 0, 0, 0), (.dup, 0, 0, 0), (.getfield 121, 7, 26, 0), (.iconst 1, 1, 0, 0), (.iadd, 0, 0, 0), (.putfield 121, 7, 26, 0), (.iconst 1, 1, 0, 0), (.ireturn, 1, 0, 0)]
def bk_118 : List (Nat × ZE) := [(0, false, [true, true], bo_118_0, 0), (19, false, [true, true], bo_118_19, 0)]
theorem ck_118 : z_chks 118 bk_118 [[750, 872, 837], [738, 737, 739, 737, 740, 737, 741, 737, 737, 737]] = true := by decide +kernel
theorem bf_118_0 : z_fd bk_118 0 = some (false, [true, true], bo_118_0, 0) := rfl
theorem bf_118_19 : z_fd bk_118 19 = some (false, [true, true], bo_118_19, 0) := rfl
theorem cl_118 : z_mL 118 = 2 := by decide +kernel
theorem cz_118 : plainFor (z_my 118) = true ∧ ((z_rm 118).cells = 0 ∧ (z_rm 118).slots = 0) := by decide +kernel
-- 119 Model_takeOfLeaf
def bo_119_0 : List ZO := [(.aload_n 0, 0, 0, 0), (.getfield 134, 7, 39, 0), (.iconst 1, 1, 0, 0), (.if_icmp .ne 28, 33, 0, 0), (.aload_n 0, 0, 0, 0), (.getfield 68, 7, 28, 2), (.aload_n 0, 0, 0, 0), (.getfield 121, 7, 26, 0), (.iload_n 1, 1, 0, 0), (.iastore, 0, 0, 0), (.aload_n 0, 0, 0, 0), (.iconst 2, 2, 0, 0), (.putfield 134, 7, 39, 0), (.iload_n 1, 1, 0, 0), (.i2l, 0, 0, 0), (.lconst 1, 1, 0, 0), (.ldc2_w 141, 9, 0, 0), (.invokestatic 102, 103, 3, 0), (.ireturn, 1, 0, 0)]
def bo_119_33 : List ZO := [(.aload_n 0, 0, 0, 0), (.iconst 0, 0, 0, 0), (.putfield 134, 7, 39, 0), (.iload_n 1, 1, 0, 0), (.i2l, 0, 0, 0), (.lconst 0, 0, 0, 0), (.aload_n 0, 0, 0, 0), (.getfield 68, 7, 28, 2), (.aload_n 0, 0, 0, 0), (.getfield 121, 7, 26, 0), (.iaload, 0, 0, 0), (.iconst 1, 1, 0, 0), (.isub, 0, 0, 0), (.i2l, 0, 0, 0), (.invokestatic 102, 103, 3, 0), (.ifCond .ne 5, 61, 0, 0), (.iconst 0, 0, 0, 0), (.ireturn, 1, 0, 0)]
def bo_119_61 : List ZO := [(.aload_n 0, 0, 0, 0), (.getfield 65, 7, 27, 2), (.aload_n 0, 0, 0, 0), (.getfield 121, 7, 26, 0), (.iconst 2, 2, 0, 0), (.iastore, 0, 0, 0), (.aload_n 0, 0, 0, 0), (.getfield 71, 7, 29, 2), (.aload_n 0, 0, 0, 0), (.getfield 121, 7, 26, 0), (.iload_n 1, 1, 0, 0), (.iastore, 0, 0, 0), (.aload_n 0, 0, 0, 0), (.getfield 74, 7, 30, 2), (.aload_n 0, 0, 0, 0), (.getfield 121, 7, 26, 0), (.iconst 0, 0, 0, 0), (.iastore, 0, 0, 0), (.aload_n 0, 0, 0, 0), (.dup, 0, 0, 0), (.getfield 121, 7, 26, 0), (.iconst 1, 1, 0, 0), (.iadd, 0, 0, 0), (.putfield 121, 7, 26, 0), (.iconst 1, 1, 0, 0), (.ireturn, 1, 0, 0)]
def bk_119 : List (Nat × ZE) := [(0, false, [true, true], bo_119_0, 0), (33, false, [true, true], bo_119_33, 0), (61, false, [true, true], bo_119_61, 0)]
theorem ck_119 : z_chks 119 bk_119 [[750, 739, 737, 750, 872, 837], [750, 739, 737, 837], [738, 737, 740, 737, 741, 737, 737, 737]] = true := by decide +kernel
theorem bf_119_0 : z_fd bk_119 0 = some (false, [true, true], bo_119_0, 0) := rfl
theorem bf_119_33 : z_fd bk_119 33 = some (false, [true, true], bo_119_33, 0) := rfl
theorem bf_119_61 : z_fd bk_119 61 = some (false, [true, true], bo_119_61, 0) := rfl
theorem cl_119 : z_mL 119 = 2 := by decide +kernel
theorem cz_119 : plainFor (z_my 119) = true ∧ ((z_rm 119).cells = 0 ∧ (z_rm 119).slots = 0) := by decide +kernel
-- 120 Model_takeOfLink
def bo_120_0 : List ZO := [(.aload_n 0, 0, 0, 0), (.getfield 118, 7, 31, 0), (.istore_n 2, 2, 0, 0), (.aload_n 0, 0, 0, 0), (.getfield 134, 7, 39, 0), (.tableswitch 175 1 4 #[31, 73, 131, 153], 9, 1, 4)]
theorem cb_120_0 : z_chk 120 bo_120_0 0 0 [742, 750] = true := by decide +kernel
def bo_120_40 : List ZO := [(.aload_n 0, 0, 0, 0), (.getfield 77, 7, 32, 2), (.iload_n 2, 2, 0, 0), (.iload_n 1, 1, 0, 0), (.iastore, 0, 0, 0), (.aload_n 0, 0, 0, 0), (.iconst 2, 2, 0, 0), (.putfield 134, 7, 39, 0), (.iload_n 1, 1, 0, 0), (.i2l, 0, 0, 0), (.lconst 0, 0, 0, 0), (.aload_n 0, 0, 0, 0), (.getfield 121, 7, 26, 0), (.iconst 1, 1, 0, 0), (.isub, 0, 0, 0), (.i2l, 0, 0, 0), (.invokestatic 102, 103, 3, 0), (.ifCond .eq 15, 80, 0, 0), (.aload_n 0, 0, 0, 0), (.iload_n 1, 1, 0, 0), (.invokevirtual 128, 115, 2, 8), (.ifCond .ne 7, 80, 0, 0), (.iconst 1, 1, 0, 0), (.goto 4, 81, 0, 0)]
theorem cb_120_40 : z_chk 120 bo_120_40 40 0 [743, 750, 737, 837, 864] = true := by decide +kernel
def bo_120_80 : List ZO := [(.iconst 0, 0, 0, 0), (.ireturn, 1, 0, 0)]
theorem cb_120_80 : z_chk 120 bo_120_80 80 0 [] = true := by decide +kernel
def bo_120_81 : List ZO := [(.ireturn, 1, 0, 0)]
theorem cb_120_81 : z_chk 120 bo_120_81 81 0 [] = true := by decide +kernel
def bo_120_82 : List ZO := [(.aload_n 0, 0, 0, 0), (.getfield 80, 7, 33, 2), (.iload_n 2, 2, 0, 0), (.iload_n 1, 1, 0, 0), (.iastore, 0, 0, 0), (.aload_n 0, 0, 0, 0), (.iconst 3, 3, 0, 0), (.putfield 134, 7, 39, 0), (.iload_n 1, 1, 0, 0), (.i2l, 0, 0, 0), (.lconst 0, 0, 0, 0), (.aload_n 0, 0, 0, 0), (.getfield 121, 7, 26, 0), (.iconst 1, 1, 0, 0), (.isub, 0, 0, 0), (.i2l, 0, 0, 0), (.invokestatic 102, 103, 3, 0), (.ifCond .eq 31, 138, 0, 0), (.iload_n 1, 1, 0, 0), (.aload_n 0, 0, 0, 0), (.getfield 77, 7, 32, 2), (.iload_n 2, 2, 0, 0), (.iaload, 0, 0, 0), (.if_icmp .eq 21, 138, 0, 0), (.aload_n 0, 0, 0, 0), (.aload_n 0, 0, 0, 0), (.getfield 77, 7, 32, 2), (.iload_n 2, 2, 0, 0), (.iaload, 0, 0, 0), (.iload_n 1, 1, 0, 0), (.invokevirtual 124, 114, 3, 8), (.ifCond .ne 7, 138, 0, 0), (.iconst 1, 1, 0, 0), (.goto 4, 139, 0, 0)]
theorem cb_120_82 : z_chk 120 bo_120_82 82 0 [744, 750, 737, 837, 743, 743, 868] = true := by decide +kernel
def bo_120_138 : List ZO := [(.iconst 0, 0, 0, 0), (.ireturn, 1, 0, 0)]
theorem cb_120_138 : z_chk 120 bo_120_138 138 0 [] = true := by decide +kernel
def bo_120_139 : List ZO := [(.ireturn, 1, 0, 0)]
theorem cb_120_139 : z_chk 120 bo_120_139 139 0 [] = true := by decide +kernel
def bo_120_140 : List ZO := [(.aload_n 0, 0, 0, 0), (.getfield 83, 7, 34, 2), (.iload_n 2, 2, 0, 0), (.iload_n 1, 1, 0, 0), (.iastore, 0, 0, 0), (.aload_n 0, 0, 0, 0), (.iconst 4, 4, 0, 0), (.putfield 134, 7, 39, 0), (.iload_n 1, 1, 0, 0), (.i2l, 0, 0, 0), (.lconst 0, 0, 0, 0), (.ldc2_w 141, 9, 0, 0), (.invokestatic 102, 103, 3, 0), (.ireturn, 1, 0, 0)]
theorem cb_120_140 : z_chk 120 bo_120_140 140 0 [745, 750, 872, 837] = true := by decide +kernel
def bo_120_162 : List ZO := [(.aload_n 0, 0, 0, 0), (.getfield 86, 7, 35, 2), (.iload_n 2, 2, 0, 0), (.iload_n 1, 1, 0, 0), (.iastore, 0, 0, 0), (.aload_n 0, 0, 0, 0), (.iconst 5, 5, 0, 0), (.putfield 134, 7, 39, 0), (.iload_n 1, 1, 0, 0), (.i2l, 0, 0, 0), (.lconst 0, 0, 0, 0), (.ldc2_w 141, 9, 0, 0), (.invokestatic 102, 103, 3, 0), (.ireturn, 1, 0, 0)]
theorem cb_120_162 : z_chk 120 bo_120_162 162 0 [746, 750, 872, 837] = true := by decide +kernel
def bo_120_184 : List ZO := [(.aload_n 0, 0, 0, 0), (.iconst 0, 0, 0, 0), (.putfield 134, 7, 39, 0), (.iload_n 1, 1, 0, 0), (.i2l, 0, 0, 0), (.lconst 1, 1, 0, 0), (.ldc2_w 141, 9, 0, 0), (.invokestatic 102, 103, 3, 0), (.ifCond .ne 5, 203, 0, 0), (.iconst 0, 0, 0, 0), (.ireturn, 1, 0, 0)]
theorem cb_120_184 : z_chk 120 bo_120_184 184 0 [750, 872, 837] = true := by decide +kernel
def bo_120_203 : List ZO := [(.aload_n 0, 0, 0, 0), (.getfield 89, 7, 36, 2), (.iload_n 2, 2, 0, 0), (.iload_n 1, 1, 0, 0), (.iastore, 0, 0, 0), (.aload_n 0, 0, 0, 0), (.dup, 0, 0, 0), (.getfield 118, 7, 31, 0), (.iconst 1, 1, 0, 0), (.iadd, 0, 0, 0), (.putfield 118, 7, 31, 0), (.iconst 1, 1, 0, 0), (.ireturn, 1, 0, 0)]
theorem cb_120_203 : z_chk 120 bo_120_203 203 0 [747, 742, 742] = true := by decide +kernel
def bk_120 : List (Nat × ZE) := [(0, false, [true, true, false], bo_120_0, 0), (40, false, [true, true, true], bo_120_40, 0), (80, false, [false, false, false], bo_120_80, 0), (81, false, [false, false, false], bo_120_81, 0), (82, false, [true, true, true], bo_120_82, 0), (138, false, [false, false, false], bo_120_138, 0), (139, false, [false, false, false], bo_120_139, 0), (140, false, [true, true, true], bo_120_140, 0), (162, false, [true, true, true], bo_120_162, 0), (184, false, [true, true, true], bo_120_184, 0), (203, false, [true, true, true], bo_120_203, 0)]
theorem ck_120 : z_chks 120 bk_120 [[742, 750], [743, 750, 737, 837, 864], [], [], [744, 750, 737, 837, 743, 743, 868], [], [], [745, 750, 872, 837], [746, 750, 872, 837], [750, 872, 837], [747, 742, 742]] = true := z_chks_cons cb_120_0 (z_chks_cons cb_120_40 (z_chks_cons cb_120_80 (z_chks_cons cb_120_81 (z_chks_cons cb_120_82 (z_chks_cons cb_120_138 (z_chks_cons cb_120_139 (z_chks_cons cb_120_140 (z_chks_cons cb_120_162 (z_chks_cons cb_120_184 (z_chks_cons cb_120_203 (z_chks_nil)))))))))))
theorem bf_120_0 : z_fd bk_120 0 = some (false, [true, true, false], bo_120_0, 0) := rfl
theorem bf_120_40 : z_fd bk_120 40 = some (false, [true, true, true], bo_120_40, 0) := rfl
theorem bf_120_80 : z_fd bk_120 80 = some (false, [false, false, false], bo_120_80, 0) := rfl
theorem bf_120_81 : z_fd bk_120 81 = some (false, [false, false, false], bo_120_81, 0) := rfl
theorem bf_120_82 : z_fd bk_120 82 = some (false, [true, true, true], bo_120_82, 0) := rfl
theorem bf_120_138 : z_fd bk_120 138 = some (false, [false, false, false], bo_120_138, 0) := rfl
theorem bf_120_139 : z_fd bk_120 139 = some (false, [false, false, false], bo_120_139, 0) := rfl
theorem bf_120_140 : z_fd bk_120 140 = some (false, [true, true, true], bo_120_140, 0) := rfl
theorem bf_120_162 : z_fd bk_120 162 = some (false, [true, true, true], bo_120_162, 0) := rfl
theorem bf_120_184 : z_fd bk_120 184 = some (false, [true, true, true], bo_120_184, 0) := rfl
theorem bf_120_203 : z_fd bk_120 203 = some (false, [true, true, true], bo_120_203, 0) := rfl
theorem cl_120 : z_mL 120 = 3 := by decide +kernel
theorem cz_120 : plainFor (z_my 120) = true ∧ ((z_rm 120).cells = 0 ∧ (z_rm 120).slots = 0) := by decide +kernel
-- 121 Model_take
def bo_121_0 : List ZO := [(.aload_n 0, 0, 0, 0), (.getfield 134, 7, 39, 0), (.ifCond .ne 9, 13, 0, 0), (.aload_n 0, 0, 0, 0), (.iload_n 1, 1, 0, 0), (.invokevirtual 143, 117, 2, 8), (.ireturn, 1, 0, 0)]
def bo_121_13 : List ZO := [(.iload_n 1, 1, 0, 0), (.bipush 48, 48, 0, 0), (.isub, 0, 0, 0), (.istore_n 2, 2, 0, 0), (.aload_n 0, 0, 0, 0), (.getfield 131, 7, 38, 0), (.bipush 77, 77, 0, 0), (.if_icmp .ne 23, 47, 0, 0), (.aload_n 0, 0, 0, 0), (.iload_n 2, 2, 0, 0), (.putfield 146, 7, 37, 0), (.aload_n 0, 0, 0, 0), (.iconst 0, 0, 0, 0), (.putfield 134, 7, 39, 0), (.iload_n 2, 2, 0, 0), (.i2l, 0, 0, 0), (.lconst 0, 0, 0, 0), (.ldc2_w 141, 9, 0, 0), (.invokestatic 102, 103, 3, 0), (.ireturn, 1, 0, 0)]
def bo_121_47 : List ZO := [(.aload_n 0, 0, 0, 0), (.getfield 131, 7, 38, 0), (.bipush 103, 103, 0, 0), (.if_icmp .ne 11, 64, 0, 0), (.aload_n 0, 0, 0, 0), (.iload_n 2, 2, 0, 0), (.invokevirtual 149, 118, 2, 8), (.goto 25, 86, 0, 0)]
def bo_121_64 : List ZO := [(.aload_n 0, 0, 0, 0), (.getfield 131, 7, 38, 0), (.bipush 108, 108, 0, 0), (.if_icmp .ne 11, 81, 0, 0), (.aload_n 0, 0, 0, 0), (.iload_n 2, 2, 0, 0), (.invokevirtual 152, 119, 2, 8), (.goto 8, 86, 0, 0)]
def bo_121_81 : List ZO := [(.aload_n 0, 0, 0, 0), (.iload_n 2, 2, 0, 0), (.invokevirtual 155, 120, 2, 8), (.ireturn, 1, 0, 0)]
def bo_121_86 : List ZO := [(.ireturn, 1, 0, 0)]
def bk_121 : List (Nat × ZE) := [(0, false, [true, true, false], bo_121_0, 0), (13, false, [true, true, false], bo_121_13, 0), (47, false, [true, false, true], bo_121_47, 0), (64, false, [true, false, true], bo_121_64, 0), (81, false, [true, false, true], bo_121_81, 0), (86, false, [false, false, false], bo_121_86, 0)]
theorem ck_121 : z_chks 121 bk_121 [[750, 856], [749, 748, 750, 872, 837], [749, 873], [749, 877], [881], []] = true := by decide +kernel
theorem bf_121_0 : z_fd bk_121 0 = some (false, [true, true, false], bo_121_0, 0) := rfl
theorem bf_121_13 : z_fd bk_121 13 = some (false, [true, true, false], bo_121_13, 0) := rfl
theorem bf_121_47 : z_fd bk_121 47 = some (false, [true, false, true], bo_121_47, 0) := rfl
theorem bf_121_64 : z_fd bk_121 64 = some (false, [true, false, true], bo_121_64, 0) := rfl
theorem bf_121_81 : z_fd bk_121 81 = some (false, [true, false, true], bo_121_81, 0) := rfl
theorem bf_121_86 : z_fd bk_121 86 = some (false, [false, false, false], bo_121_86, 0) := rfl
theorem cl_121 : z_mL 121 = 3 := by decide +kernel
theorem cz_121 : plainFor (z_my 121) = true ∧ ((z_rm 121).cells = 0 ∧ (z_rm 121).slots = 0) := by decide +kernel
-- 122 Model_readText
def bo_122_0 : List ZO := [(.aload_n 0, 0, 0, 0), (.iconst 0, 0, 0, 0), (.putfield 121, 7, 26, 0), (.aload_n 0, 0, 0, 0), (.iconst 0, 0, 0, 0), (.putfield 118, 7, 31, 0), (.aload_n 0, 0, 0, 0), (.bipush 77, 77, 0, 0), (.putfield 131, 7, 38, 0), (.aload_n 0, 0, 0, 0), (.iconst 1, 1, 0, 0), (.putfield 134, 7, 39, 0), (.aload_n 0, 0, 0, 0), (.getfield 115, 7, 1, 0), (.ifCond .eq 14, 39, 0, 0), (.aload_n 0, 0, 0, 0), (.getfield 7, 7, 0, 2), (.iconst 0, 0, 0, 0), (.iaload, 0, 0, 0), (.bipush 77, 77, 0, 0), (.if_icmp .eq 5, 41, 0, 0), (.iconst 0, 0, 0, 0), (.ireturn, 0, 0, 0)]
theorem cb_122_0 : z_chk 122 bo_122_0 0 0 [737, 742, 749, 750, 712, 711] = true := by decide +kernel
def bo_122_39 : List ZO := [(.iconst 0, 0, 0, 0), (.ireturn, 0, 0, 0)]
theorem cb_122_39 : z_chk 122 bo_122_39 39 0 [] = true := by decide +kernel
def bo_122_41 : List ZO := [(.iconst 1, 1, 0, 0), (.istore_n 1, 1, 0, 0)]
theorem cb_122_41 : z_chk 122 bo_122_41 41 43 [] = true := by decide +kernel
def bo_122_43 : List ZO := [(.iload_n 1, 1, 0, 0), (.aload_n 0, 0, 0, 0), (.getfield 115, 7, 1, 0), (.if_icmp .ge 24, 72, 0, 0), (.aload_n 0, 0, 0, 0), (.aload_n 0, 0, 0, 0), (.getfield 7, 7, 0, 2), (.iload_n 1, 1, 0, 0), (.iaload, 0, 0, 0), (.invokevirtual 158, 121, 2, 8), (.ifCond .ne 5, 66, 0, 0), (.iload_n 1, 1, 0, 0), (.ireturn, 0, 0, 0)]
theorem cb_122_43 : z_chk 122 bo_122_43 43 0 [712, 711, 852] = true := by decide +kernel
def bo_122_66 : List ZO := [(.iinc 1 1, 1, 1, 0), (.goto (-26), 43, 0, 0)]
theorem cb_122_66 : z_chk 122 bo_122_66 66 0 [] = true := by decide +kernel
def bo_122_72 : List ZO := [(.aload_n 0, 0, 0, 0), (.getfield 134, 7, 39, 0), (.ifCond .ne 8, 84, 0, 0), (.bipush (-9), 9, 0, 1), (.goto 7, 88, 0, 0)]
theorem cb_122_72 : z_chk 122 bo_122_72 72 0 [750] = true := by decide +kernel
def bo_122_84 : List ZO := [(.aload_n 0, 0, 0, 0), (.getfield 115, 7, 1, 0), (.ireturn, 0, 0, 0)]
theorem cb_122_84 : z_chk 122 bo_122_84 84 0 [712] = true := by decide +kernel
def bo_122_88 : List ZO := [(.ireturn, 0, 0, 0)]
theorem cb_122_88 : z_chk 122 bo_122_88 88 0 [] = true := by decide +kernel
def bk_122 : List (Nat × ZE) := [(0, false, [true, false], bo_122_0, 0), (39, false, [false, false], bo_122_39, 0), (41, false, [true, false], bo_122_41, 43), (43, true, [true, true], bo_122_43, 0), (66, false, [true, true], bo_122_66, 0), (72, false, [true, false], bo_122_72, 0), (84, false, [true, false], bo_122_84, 0), (88, false, [false, false], bo_122_88, 0)]
theorem ck_122 : z_chks 122 bk_122 [[737, 742, 749, 750, 712, 711], [], [], [712, 711, 852], [], [750], [712], []] = true := z_chks_cons cb_122_0 (z_chks_cons cb_122_39 (z_chks_cons cb_122_41 (z_chks_cons cb_122_43 (z_chks_cons cb_122_66 (z_chks_cons cb_122_72 (z_chks_cons cb_122_84 (z_chks_cons cb_122_88 (z_chks_nil))))))))
theorem bf_122_0 : z_fd bk_122 0 = some (false, [true, false], bo_122_0, 0) := rfl
theorem bf_122_39 : z_fd bk_122 39 = some (false, [false, false], bo_122_39, 0) := rfl
theorem bf_122_41 : z_fd bk_122 41 = some (false, [true, false], bo_122_41, 43) := rfl
theorem bf_122_43 : z_fd bk_122 43 = some (true, [true, true], bo_122_43, 0) := rfl
theorem bf_122_66 : z_fd bk_122 66 = some (false, [true, true], bo_122_66, 0) := rfl
theorem bf_122_72 : z_fd bk_122 72 = some (false, [true, false], bo_122_72, 0) := rfl
theorem bf_122_84 : z_fd bk_122 84 = some (false, [true, false], bo_122_84, 0) := rfl
theorem bf_122_88 : z_fd bk_122 88 = some (false, [false, false], bo_122_88, 0) := rfl
theorem cl_122 : z_mL 122 = 2 := by decide +kernel
theorem cz_122 : plainFor (z_my 122) = true ∧ ((z_rm 122).cells = 0 ∧ (z_rm 122).slots = 0) := by decide +kernel
-- 123 Model_fault
def bo_123_0 : List ZO := [(.aload_n 0, 0, 0, 0), (.invokevirtual 161, 122, 1, 8), (.ireturn, 0, 0, 0)]
def bk_123 : List (Nat × ZE) := [(0, false, [true], bo_123_0, 0)]
theorem ck_123 : z_chks 123 bk_123 [[848]] = true := by decide +kernel
theorem bf_123_0 : z_fd bk_123 0 = some (false, [true], bo_123_0, 0) := rfl
theorem cl_123 : z_mL 123 = 1 := by decide +kernel
theorem cz_123 : plainFor (z_my 123) = true ∧ ((z_rm 123).cells = 0 ∧ (z_rm 123).slots = 0) := by decide +kernel
-- 124 Model_mesh
def bo_124_0 : List ZO := [(.aload_n 0, 0, 0, 0), (.invokevirtual 161, 122, 1, 8), (.bipush (-9), 9, 0, 1), (.if_icmp .eq 6, 12, 0, 0), (.bipush (-3), 3, 0, 1), (.ireturn, 0, 0, 0)]
theorem cb_124_0 : z_chk 124 bo_124_0 0 0 [848] = true := by decide +kernel
def bo_124_12 : List ZO := [(.aload_n 0, 0, 0, 0), (.aload_n 0, 0, 0, 0), (.getfield 121, 7, 26, 0), (.putfield 99, 7, 2, 0), (.aload_n 0, 0, 0, 0), (.aload_n 0, 0, 0, 0), (.getfield 118, 7, 31, 0), (.putfield 110, 7, 6, 0), (.aload_n 0, 0, 0, 0), (.invokevirtual 96, 101, 1, 8), (.iconst 0, 0, 0, 0), (.istore_n 1, 1, 0, 0)]
theorem cb_124_12 : z_chk 124 bo_124_12 12 34 [737, 713, 742, 717, 707] = true := by decide +kernel
def bo_124_34 : List ZO := [(.iload_n 1, 1, 0, 0), (.aload_n 0, 0, 0, 0), (.getfield 99, 7, 2, 0), (.if_icmp .ge 60, 99, 0, 0), (.aload_n 0, 0, 0, 0), (.getfield 13, 7, 3, 2), (.iload_n 1, 1, 0, 0), (.aload_n 0, 0, 0, 0), (.getfield 65, 7, 27, 2), (.iload_n 1, 1, 0, 0), (.iaload, 0, 0, 0), (.iastore, 0, 0, 0), (.aload_n 0, 0, 0, 0), (.getfield 16, 7, 4, 2), (.iload_n 1, 1, 0, 0), (.aload_n 0, 0, 0, 0), (.getfield 68, 7, 28, 2), (.iload_n 1, 1, 0, 0), (.iaload, 0, 0, 0), (.iastore, 0, 0, 0), (.aload_n 0, 0, 0, 0), (.getfield 19, 7, 5, 2), (.iload_n 1, 1, 0, 0), (.aload_n 0, 0, 0, 0), (.getfield 71, 7, 29, 2), (.iload_n 1, 1, 0, 0), (.iaload, 0, 0, 0), (.iastore, 0, 0, 0), (.aload_n 0, 0, 0, 0), (.getfield 31, 7, 10, 2), (.bipush 67, 67, 0, 0), (.iload_n 1, 1, 0, 0), (.iadd, 0, 0, 0), (.aload_n 0, 0, 0, 0), (.getfield 74, 7, 30, 2), (.iload_n 1, 1, 0, 0), (.iaload, 0, 0, 0), (.iastore, 0, 0, 0), (.iinc 1 1, 1, 1, 0), (.goto (-62), 34, 0, 0)]
theorem cb_124_34 : z_chk 124 bo_124_34 34 0 [713, 714, 738, 715, 739, 716, 740, 721, 741] = true := by decide +kernel
def bo_124_99 : List ZO := [(.iconst 0, 0, 0, 0), (.istore_n 1, 1, 0, 0)]
theorem cb_124_99 : z_chk 124 bo_124_99 99 101 [] = true := by decide +kernel
def bo_124_101 : List ZO := [(.iload_n 1, 1, 0, 0), (.aload_n 0, 0, 0, 0), (.getfield 110, 7, 6, 0), (.if_icmp .ge 75, 181, 0, 0), (.aload_n 0, 0, 0, 0), (.getfield 22, 7, 7, 2), (.iload_n 1, 1, 0, 0), (.aload_n 0, 0, 0, 0), (.getfield 77, 7, 32, 2), (.iload_n 1, 1, 0, 0), (.iaload, 0, 0, 0), (.iastore, 0, 0, 0), (.aload_n 0, 0, 0, 0), (.getfield 25, 7, 8, 2), (.iload_n 1, 1, 0, 0), (.aload_n 0, 0, 0, 0), (.getfield 80, 7, 33, 2), (.iload_n 1, 1, 0, 0), (.iaload, 0, 0, 0), (.iastore, 0, 0, 0), (.aload_n 0, 0, 0, 0), (.getfield 28, 7, 9, 2), (.iload_n 1, 1, 0, 0), (.aload_n 0, 0, 0, 0), (.getfield 89, 7, 36, 2), (.iload_n 1, 1, 0, 0), (.iaload, 0, 0, 0), (.iastore, 0, 0, 0), (.aload_n 0, 0, 0, 0), (.getfield 31, 7, 10, 2), (.bipush 40, 40, 0, 0), (.iload_n 1, 1, 0, 0), (.iadd, 0, 0, 0), (.aload_n 0, 0, 0, 0), (.getfield 83, 7, 34, 2), (.iload_n 1, 1, 0, 0), (.iaload, 0, 0, 0), (.iastore, 0, 0, 0), (.aload_n 0, 0, 0, 0), (.getfield 31, 7, 10, 2), (.bipush 49, 49, 0, 0), (.iload_n 1, 1, 0, 0), (.iadd, 0, 0, 0), (.aload_n 0, 0, 0, 0), (.getfield 86, 7, 35, 2), (.iload_n 1, 1, 0, 0), (.iaload, 0, 0, 0), (.iastore, 0, 0, 0), (.iinc 1 1, 1, 1, 0), (.goto (-77), 101, 0, 0)]
theorem cb_124_101 : z_chk 124 bo_124_101 101 0 [717, 718, 743, 719, 744, 720, 747, 721, 745, 721, 746] = true := by decide +kernel
def bo_124_181 : List ZO := [(.aload_n 0, 0, 0, 0), (.getfield 31, 7, 10, 2), (.bipush 75, 75, 0, 0), (.aload_n 0, 0, 0, 0), (.getfield 146, 7, 37, 0), (.iastore, 0, 0, 0), (.aload_n 0, 0, 0, 0), (.iconst 0, 0, 0, 0), (.putfield 165, 7, 14, 0), (.aload_n 0, 0, 0, 0), (.getfield 46, 7, 17, 2), (.iconst 0, 0, 0, 0), (.iconst 0, 0, 0, 0), (.bastore, 0, 0, 0), (.aload_n 0, 0, 0, 0), (.getfield 46, 7, 17, 2), (.iconst 1, 1, 0, 0), (.iconst 0, 0, 0, 0), (.bastore, 0, 0, 0), (.aload_n 0, 0, 0, 0), (.getfield 99, 7, 2, 0), (.ireturn, 0, 0, 0)]
theorem cb_124_181 : z_chk 124 bo_124_181 181 0 [721, 748, 725, 728, 728, 713] = true := by decide +kernel
def bk_124 : List (Nat × ZE) := [(0, false, [true, false], bo_124_0, 0), (12, false, [true, false], bo_124_12, 34), (34, true, [true, true], bo_124_34, 0), (99, false, [true, false], bo_124_99, 101), (101, true, [true, true], bo_124_101, 0), (181, false, [true, false], bo_124_181, 0)]
theorem ck_124 : z_chks 124 bk_124 [[848], [737, 713, 742, 717, 707], [713, 714, 738, 715, 739, 716, 740, 721, 741], [], [717, 718, 743, 719, 744, 720, 747, 721, 745, 721, 746], [721, 748, 725, 728, 728, 713]] = true := z_chks_cons cb_124_0 (z_chks_cons cb_124_12 (z_chks_cons cb_124_34 (z_chks_cons cb_124_99 (z_chks_cons cb_124_101 (z_chks_cons cb_124_181 (z_chks_nil))))))
theorem bf_124_0 : z_fd bk_124 0 = some (false, [true, false], bo_124_0, 0) := rfl
theorem bf_124_12 : z_fd bk_124 12 = some (false, [true, false], bo_124_12, 34) := rfl
theorem bf_124_34 : z_fd bk_124 34 = some (true, [true, true], bo_124_34, 0) := rfl
theorem bf_124_99 : z_fd bk_124 99 = some (false, [true, false], bo_124_99, 101) := rfl
theorem bf_124_101 : z_fd bk_124 101 = some (true, [true, true], bo_124_101, 0) := rfl
theorem bf_124_181 : z_fd bk_124 181 = some (false, [true, false], bo_124_181, 0) := rfl
theorem cl_124 : z_mL 124 = 2 := by decide +kernel
theorem cz_124 : plainFor (z_my 124) = true ∧ ((z_rm 124).cells = 0 ∧ (z_rm 124).slots = 0) := by decide +kernel
-- 125 Model_airtime
def bo_125_0 : List ZO := [(.bipush 10, 10, 0, 0), (.aload_n 1, 1, 0, 0), (.bipush 40, 40, 0, 0), (.iload_n 2, 2, 0, 0), (.iadd, 0, 0, 0), (.iaload, 0, 0, 0), (.isub, 0, 0, 0), (.bipush 10, 10, 0, 0), (.aload_n 1, 1, 0, 0), (.bipush 49, 49, 0, 0), (.iload_n 2, 2, 0, 0), (.iadd, 0, 0, 0), (.iaload, 0, 0, 0), (.isub, 0, 0, 0), (.imul, 0, 0, 0), (.istore_n 3, 3, 0, 0), (.bipush 100, 100, 0, 0), (.aload_n 0, 0, 0, 0), (.getfield 28, 7, 9, 2), (.iload_n 2, 2, 0, 0), (.iaload, 0, 0, 0), (.imul, 0, 0, 0), (.iload_n 3, 3, 0, 0), (.iadd, 0, 0, 0), (.iconst 1, 1, 0, 0), (.isub, 0, 0, 0), (.iload_n 3, 3, 0, 0), (.idiv, 0, 0, 0), (.ireturn, 0, 0, 0)]
def bk_125 : List (Nat × ZE) := [(0, false, [true, true, true, false], bo_125_0, 0)]
theorem ck_125 : z_chks 125 bk_125 [[720]] = true := by decide +kernel
theorem bf_125_0 : z_fd bk_125 0 = some (false, [true, true, true, false], bo_125_0, 0) := rfl
theorem cl_125 : z_mL 125 = 4 := by decide +kernel
theorem cz_125 : plainFor (z_my 125) = true ∧ ((z_rm 125).cells = 0 ∧ (z_rm 125).slots = 0) := by decide +kernel
-- 126 Model_linkOf
def bo_126_0 : List ZO := [(.bipush (-9), 9, 0, 1), (.istore 4, 4, 0, 0), (.iconst 0, 0, 0, 0), (.istore 5, 5, 0, 0)]
theorem cb_126_0 : z_chk 126 bo_126_0 0 7 [] = true := by decide +kernel
def bo_126_7 : List ZO := [(.iload 5, 5, 0, 0), (.aload_n 0, 0, 0, 0), (.getfield 110, 7, 6, 0), (.if_icmp .ge 84, 97, 0, 0), (.aload_n 0, 0, 0, 0), (.getfield 22, 7, 7, 2), (.iload 5, 5, 0, 0), (.iaload, 0, 0, 0), (.iload_n 2, 2, 0, 0), (.if_icmp .ne 14, 38, 0, 0), (.aload_n 0, 0, 0, 0), (.getfield 25, 7, 8, 2), (.iload 5, 5, 0, 0), (.iaload, 0, 0, 0), (.iload_n 3, 3, 0, 0), (.if_icmp .eq 25, 60, 0, 0), (.aload_n 0, 0, 0, 0), (.getfield 22, 7, 7, 2), (.iload 5, 5, 0, 0), (.iaload, 0, 0, 0), (.iload_n 3, 3, 0, 0), (.if_icmp .ne 18, 64, 0, 0), (.aload_n 0, 0, 0, 0), (.getfield 25, 7, 8, 2), (.iload 5, 5, 0, 0), (.iaload, 0, 0, 0), (.iload_n 2, 2, 0, 0), (.if_icmp .ne 7, 64, 0, 0), (.iconst 1, 1, 0, 0), (.goto 4, 65, 0, 0)]
theorem cb_126_7 : z_chk 126 bo_126_7 7 0 [717, 718, 719, 718, 719] = true := by decide +kernel
def bo_126_38 : List ZO := [(.aload_n 0, 0, 0, 0), (.getfield 22, 7, 7, 2), (.iload 5, 5, 0, 0), (.iaload, 0, 0, 0), (.iload_n 3, 3, 0, 0), (.if_icmp .ne 18, 64, 0, 0), (.aload_n 0, 0, 0, 0), (.getfield 25, 7, 8, 2), (.iload 5, 5, 0, 0), (.iaload, 0, 0, 0), (.iload_n 2, 2, 0, 0), (.if_icmp .ne 7, 64, 0, 0), (.iconst 1, 1, 0, 0), (.goto 4, 65, 0, 0)]
theorem cb_126_38 : z_chk 126 bo_126_38 38 0 [718, 719] = true := by decide +kernel
def bo_126_60 : List ZO := [(.iconst 1, 1, 0, 0), (.goto 4, 65, 0, 0)]
theorem cb_126_60 : z_chk 126 bo_126_60 60 0 [] = true := by decide +kernel
def bo_126_64 : List ZO := [(.iconst 0, 0, 0, 0), (.istore 6, 6, 0, 0), (.iload 6, 6, 0, 0), (.ifCond .eq 18, 87, 0, 0), (.aload_n 1, 1, 0, 0), (.bipush 58, 58, 0, 0), (.iload 5, 5, 0, 0), (.iadd, 0, 0, 0), (.iaload, 0, 0, 0), (.ifCond .ne 8, 87, 0, 0), (.iload 5, 5, 0, 0), (.goto 5, 89, 0, 0)]
theorem cb_126_64 : z_chk 126 bo_126_64 64 0 [] = true := by decide +kernel
def bo_126_65 : List ZO := [(.istore 6, 6, 0, 0), (.iload 6, 6, 0, 0), (.ifCond .eq 18, 87, 0, 0), (.aload_n 1, 1, 0, 0), (.bipush 58, 58, 0, 0), (.iload 5, 5, 0, 0), (.iadd, 0, 0, 0), (.iaload, 0, 0, 0), (.ifCond .ne 8, 87, 0, 0), (.iload 5, 5, 0, 0), (.goto 5, 89, 0, 0)]
theorem cb_126_65 : z_chk 126 bo_126_65 65 0 [] = true := by decide +kernel
def bo_126_87 : List ZO := [(.iload 4, 4, 0, 0), (.istore 4, 4, 0, 0), (.iinc 5 1, 1, 5, 0), (.goto (-87), 7, 0, 0)]
theorem cb_126_87 : z_chk 126 bo_126_87 87 0 [] = true := by decide +kernel
def bo_126_89 : List ZO := [(.istore 4, 4, 0, 0), (.iinc 5 1, 1, 5, 0), (.goto (-87), 7, 0, 0)]
theorem cb_126_89 : z_chk 126 bo_126_89 89 0 [] = true := by decide +kernel
def bo_126_97 : List ZO := [(.iload 4, 4, 0, 0), (.ireturn, 0, 0, 0)]
theorem cb_126_97 : z_chk 126 bo_126_97 97 0 [] = true := by decide +kernel
def bk_126 : List (Nat × ZE) := [(0, false, [true, true, true, true, false, false, false], bo_126_0, 7), (7, true, [true, true, true, true, true, true, false], bo_126_7, 0), (38, false, [true, true, true, true, true, true, false], bo_126_38, 0), (60, false, [true, true, true, true, true, true, false], bo_126_60, 0), (64, false, [true, true, true, true, true, true, false], bo_126_64, 0), (65, false, [true, true, true, true, true, true, false], bo_126_65, 0), (87, false, [true, true, true, true, true, true, false], bo_126_87, 0), (89, false, [true, true, true, true, false, true, false], bo_126_89, 0), (97, false, [false, false, false, false, true, false, false], bo_126_97, 0)]
theorem ck_126 : z_chks 126 bk_126 [[], [717, 718, 719, 718, 719], [718, 719], [], [], [], [], [], []] = true := z_chks_cons cb_126_0 (z_chks_cons cb_126_7 (z_chks_cons cb_126_38 (z_chks_cons cb_126_60 (z_chks_cons cb_126_64 (z_chks_cons cb_126_65 (z_chks_cons cb_126_87 (z_chks_cons cb_126_89 (z_chks_cons cb_126_97 (z_chks_nil)))))))))
theorem bf_126_0 : z_fd bk_126 0 = some (false, [true, true, true, true, false, false, false], bo_126_0, 7) := rfl
theorem bf_126_7 : z_fd bk_126 7 = some (true, [true, true, true, true, true, true, false], bo_126_7, 0) := rfl
theorem bf_126_38 : z_fd bk_126 38 = some (false, [true, true, true, true, true, true, false], bo_126_38, 0) := rfl
theorem bf_126_60 : z_fd bk_126 60 = some (false, [true, true, true, true, true, true, false], bo_126_60, 0) := rfl
theorem bf_126_64 : z_fd bk_126 64 = some (false, [true, true, true, true, true, true, false], bo_126_64, 0) := rfl
theorem bf_126_65 : z_fd bk_126 65 = some (false, [true, true, true, true, true, true, false], bo_126_65, 0) := rfl
theorem bf_126_87 : z_fd bk_126 87 = some (false, [true, true, true, true, true, true, false], bo_126_87, 0) := rfl
theorem bf_126_89 : z_fd bk_126 89 = some (false, [true, true, true, true, false, true, false], bo_126_89, 0) := rfl
theorem bf_126_97 : z_fd bk_126 97 = some (false, [false, false, false, false, true, false, false], bo_126_97, 0) := rfl
theorem cl_126 : z_mL 126 = 7 := by decide +kernel
theorem cz_126 : plainFor (z_my 126) = true ∧ ((z_rm 126).cells = 0 ∧ (z_rm 126).slots = 0) := by decide +kernel
-- 127 Model_offers
def bo_127_0 : List ZO := [(.aload_n 0, 0, 0, 0), (.getfield 13, 7, 3, 2), (.iload_n 2, 2, 0, 0), (.iaload, 0, 0, 0), (.ifCond .ne 14, 20, 0, 0), (.aload_n 0, 0, 0, 0), (.getfield 92, 7, 23, 0), (.iload_n 2, 2, 0, 0), (.invokestatic 168, 104, 2, 0), (.goto 28, 45, 0, 0)]
def bo_127_20 : List ZO := [(.aload_n 0, 0, 0, 0), (.getfield 13, 7, 3, 2), (.iload_n 2, 2, 0, 0), (.iaload, 0, 0, 0), (.iconst 1, 1, 0, 0), (.if_icmp .ne 17, 44, 0, 0), (.aload_n 1, 1, 0, 0), (.iconst 0, 0, 0, 0), (.iload_n 2, 2, 0, 0), (.iadd, 0, 0, 0), (.iaload, 0, 0, 0), (.bipush (-9), 9, 0, 1), (.if_icmp .eq 7, 44, 0, 0), (.iconst 1, 1, 0, 0), (.goto 4, 45, 0, 0)]
def bo_127_44 : List ZO := [(.iconst 0, 0, 0, 0), (.ireturn, 1, 0, 0)]
def bo_127_45 : List ZO := [(.ireturn, 1, 0, 0)]
def bk_127 : List (Nat × ZE) := [(0, false, [true, true, true], bo_127_0, 0), (20, false, [true, true, true], bo_127_20, 0), (44, false, [false, false, false], bo_127_44, 0), (45, false, [false, false, false], bo_127_45, 0)]
theorem ck_127 : z_chks 127 bk_127 [[714, 734, 905], [714], [], []] = true := by decide +kernel
theorem bf_127_0 : z_fd bk_127 0 = some (false, [true, true, true], bo_127_0, 0) := rfl
theorem bf_127_20 : z_fd bk_127 20 = some (false, [true, true, true], bo_127_20, 0) := rfl
theorem bf_127_44 : z_fd bk_127 44 = some (false, [false, false, false], bo_127_44, 0) := rfl
theorem bf_127_45 : z_fd bk_127 45 = some (false, [false, false, false], bo_127_45, 0) := rfl
theorem cl_127 : z_mL 127 = 3 := by decide +kernel
theorem cz_127 : plainFor (z_my 127) = true ∧ ((z_rm 127).cells = 0 ∧ (z_rm 127).slots = 0) := by decide +kernel
-- 128 Model_offered
def bo_128_0 : List ZO := [(.aload_n 0, 0, 0, 0), (.getfield 13, 7, 3, 2), (.iload_n 2, 2, 0, 0), (.iaload, 0, 0, 0), (.ifCond .ne 12, 18, 0, 0), (.aload_n 1, 1, 0, 0), (.bipush 67, 67, 0, 0), (.iload_n 2, 2, 0, 0), (.iadd, 0, 0, 0), (.iaload, 0, 0, 0), (.goto 9, 24, 0, 0)]
def bo_128_18 : List ZO := [(.aload_n 1, 1, 0, 0), (.bipush 8, 8, 0, 0), (.iload_n 2, 2, 0, 0), (.iadd, 0, 0, 0), (.iaload, 0, 0, 0), (.ireturn, 0, 0, 0)]
def bo_128_24 : List ZO := [(.ireturn, 0, 0, 0)]
def bk_128 : List (Nat × ZE) := [(0, false, [true, true, true], bo_128_0, 0), (18, false, [false, true, true], bo_128_18, 0), (24, false, [false, false, false], bo_128_24, 0)]
theorem ck_128 : z_chks 128 bk_128 [[714], [], []] = true := by decide +kernel
theorem bf_128_0 : z_fd bk_128 0 = some (false, [true, true, true], bo_128_0, 0) := rfl
theorem bf_128_18 : z_fd bk_128 18 = some (false, [false, true, true], bo_128_18, 0) := rfl
theorem bf_128_24 : z_fd bk_128 24 = some (false, [false, false, false], bo_128_24, 0) := rfl
theorem cl_128 : z_mL 128 = 3 := by decide +kernel
theorem cz_128 : plainFor (z_my 128) = true ∧ ((z_rm 128).cells = 0 ∧ (z_rm 128).slots = 0) := by decide +kernel
-- 129 Model_sequenceOf
def bo_129_0 : List ZO := [(.aload_n 0, 0, 0, 0), (.getfield 13, 7, 3, 2), (.iload_n 2, 2, 0, 0), (.iaload, 0, 0, 0), (.ifCond .ne 10, 16, 0, 0), (.aload_n 1, 1, 0, 0), (.bipush 76, 76, 0, 0), (.iaload, 0, 0, 0), (.goto 9, 22, 0, 0)]
def bo_129_16 : List ZO := [(.aload_n 1, 1, 0, 0), (.bipush 16, 16, 0, 0), (.iload_n 2, 2, 0, 0), (.iadd, 0, 0, 0), (.iaload, 0, 0, 0), (.ireturn, 0, 0, 0)]
def bo_129_22 : List ZO := [(.ireturn, 0, 0, 0)]
def bk_129 : List (Nat × ZE) := [(0, false, [true, true, true], bo_129_0, 0), (16, false, [false, true, true], bo_129_16, 0), (22, false, [false, false, false], bo_129_22, 0)]
theorem ck_129 : z_chks 129 bk_129 [[714], [], []] = true := by decide +kernel
theorem bf_129_0 : z_fd bk_129 0 = some (false, [true, true, true], bo_129_0, 0) := rfl
theorem bf_129_16 : z_fd bk_129 16 = some (false, [false, true, true], bo_129_16, 0) := rfl
theorem bf_129_22 : z_fd bk_129 22 = some (false, [false, false, false], bo_129_22, 0) := rfl
theorem cl_129 : z_mL 129 = 3 := by decide +kernel
theorem cz_129 : plainFor (z_my 129) = true ∧ ((z_rm 129).cells = 0 ∧ (z_rm 129).slots = 0) := by decide +kernel
-- 130 Model_priceOf
def bo_130_0 : List ZO := [(.aload_n 0, 0, 0, 0), (.aload_n 1, 1, 0, 0), (.iload_n 2, 2, 0, 0), (.iload_n 3, 3, 0, 0), (.invokevirtual 171, 126, 4, 8), (.istore 4, 4, 0, 0), (.iload 4, 4, 0, 0), (.bipush (-9), 9, 0, 1), (.if_icmp .eq 12, 25, 0, 0), (.aload_n 0, 0, 0, 0), (.aload_n 1, 1, 0, 0), (.iload_n 2, 2, 0, 0), (.invokevirtual 175, 127, 3, 8), (.ifCond .ne 8, 30, 0, 0), (.bipush (-9), 9, 0, 1), (.goto 17, 44, 0, 0)]
def bo_130_25 : List ZO := [(.bipush (-9), 9, 0, 1), (.goto 17, 44, 0, 0)]
def bo_130_30 : List ZO := [(.aload_n 0, 0, 0, 0), (.aload_n 1, 1, 0, 0), (.iload_n 2, 2, 0, 0), (.invokevirtual 179, 128, 3, 8), (.aload_n 0, 0, 0, 0), (.aload_n 1, 1, 0, 0), (.iload 4, 4, 0, 0), (.invokevirtual 183, 125, 3, 8), (.iadd, 0, 0, 0), (.ireturn, 0, 0, 0)]
def bo_130_44 : List ZO := [(.ireturn, 0, 0, 0)]
def bk_130 : List (Nat × ZE) := [(0, false, [true, true, true, true, false], bo_130_0, 0), (25, false, [false, false, false, false, false], bo_130_25, 0), (30, false, [true, true, true, false, true], bo_130_30, 0), (44, false, [false, false, false, false, false], bo_130_44, 0)]
theorem ck_130 : z_chks 130 bk_130 [[952, 956], [], [960, 936], []] = true := by decide +kernel
theorem bf_130_0 : z_fd bk_130 0 = some (false, [true, true, true, true, false], bo_130_0, 0) := rfl
theorem bf_130_25 : z_fd bk_130 25 = some (false, [false, false, false, false, false], bo_130_25, 0) := rfl
theorem bf_130_30 : z_fd bk_130 30 = some (false, [true, true, true, false, true], bo_130_30, 0) := rfl
theorem bf_130_44 : z_fd bk_130 44 = some (false, [false, false, false, false, false], bo_130_44, 0) := rfl
theorem cl_130 : z_mL 130 = 5 := by decide +kernel
theorem cz_130 : plainFor (z_my 130) = true ∧ ((z_rm 130).cells = 0 ∧ (z_rm 130).slots = 0) := by decide +kernel
-- 131 Model_isSafe
def bo_131_0 : List ZO := [(.aload_n 0, 0, 0, 0), (.aload_n 1, 1, 0, 0), (.iload_n 2, 2, 0, 0), (.invokevirtual 186, 129, 3, 8), (.istore 4, 4, 0, 0), (.iload 4, 4, 0, 0), (.aload_n 1, 1, 0, 0), (.bipush 24, 24, 0, 0), (.iload_n 3, 3, 0, 0), (.iadd, 0, 0, 0), (.iaload, 0, 0, 0), (.if_icmp .gt 29, 45, 0, 0), (.iload 4, 4, 0, 0), (.aload_n 1, 1, 0, 0), (.bipush 24, 24, 0, 0), (.iload_n 3, 3, 0, 0), (.iadd, 0, 0, 0), (.iaload, 0, 0, 0), (.if_icmp .ne 22, 49, 0, 0), (.aload_n 0, 0, 0, 0), (.aload_n 1, 1, 0, 0), (.iload_n 2, 2, 0, 0), (.invokevirtual 179, 128, 3, 8), (.aload_n 1, 1, 0, 0), (.bipush 32, 32, 0, 0), (.iload_n 3, 3, 0, 0), (.iadd, 0, 0, 0), (.iaload, 0, 0, 0), (.if_icmp .ge 7, 49, 0, 0), (.iconst 1, 1, 0, 0), (.goto 4, 50, 0, 0)]
def bo_131_45 : List ZO := [(.iconst 1, 1, 0, 0), (.goto 4, 50, 0, 0)]
def bo_131_49 : List ZO := [(.iconst 0, 0, 0, 0), (.ireturn, 1, 0, 0)]
def bo_131_50 : List ZO := [(.ireturn, 1, 0, 0)]
def bk_131 : List (Nat × ZE) := [(0, false, [true, true, true, true, false], bo_131_0, 0), (45, false, [false, false, false, false, false], bo_131_45, 0), (49, false, [false, false, false, false, false], bo_131_49, 0), (50, false, [false, false, false, false, false], bo_131_50, 0)]
theorem ck_131 : z_chks 131 bk_131 [[972, 960], [], [], []] = true := by decide +kernel
theorem bf_131_0 : z_fd bk_131 0 = some (false, [true, true, true, true, false], bo_131_0, 0) := rfl
theorem bf_131_45 : z_fd bk_131 45 = some (false, [false, false, false, false, false], bo_131_45, 0) := rfl
theorem bf_131_49 : z_fd bk_131 49 = some (false, [false, false, false, false, false], bo_131_49, 0) := rfl
theorem bf_131_50 : z_fd bk_131 50 = some (false, [false, false, false, false, false], bo_131_50, 0) := rfl
theorem cl_131 : z_mL 131 = 5 := by decide +kernel
theorem cz_131 : plainFor (z_my 131) = true ∧ ((z_rm 131).cells = 0 ∧ (z_rm 131).slots = 0) := by decide +kernel
-- 132 Model_isGood
def bo_132_0 : List ZO := [(.iload_n 2, 2, 0, 0), (.iload_n 3, 3, 0, 0), (.if_icmp .eq 29, 31, 0, 0), (.aload_n 0, 0, 0, 0), (.aload_n 1, 1, 0, 0), (.iload_n 2, 2, 0, 0), (.iload_n 3, 3, 0, 0), (.invokevirtual 189, 130, 4, 8), (.bipush (-9), 9, 0, 1), (.if_icmp .eq 17, 31, 0, 0), (.aload_n 0, 0, 0, 0), (.aload_n 1, 1, 0, 0), (.iload_n 2, 2, 0, 0), (.iload_n 3, 3, 0, 0), (.invokevirtual 192, 131, 4, 8), (.ifCond .eq 7, 31, 0, 0), (.iconst 1, 1, 0, 0), (.goto 4, 32, 0, 0)]
def bo_132_31 : List ZO := [(.iconst 0, 0, 0, 0), (.ireturn, 1, 0, 0)]
def bo_132_32 : List ZO := [(.ireturn, 1, 0, 0)]
def bk_132 : List (Nat × ZE) := [(0, false, [true, true, true, true], bo_132_0, 0), (31, false, [false, false, false, false], bo_132_31, 0), (32, false, [false, false, false, false], bo_132_32, 0)]
theorem ck_132 : z_chks 132 bk_132 [[948, 968], [], []] = true := by decide +kernel
theorem bf_132_0 : z_fd bk_132 0 = some (false, [true, true, true, true], bo_132_0, 0) := rfl
theorem bf_132_31 : z_fd bk_132 31 = some (false, [false, false, false, false], bo_132_31, 0) := rfl
theorem bf_132_32 : z_fd bk_132 32 = some (false, [false, false, false, false], bo_132_32, 0) := rfl
theorem cl_132 : z_mL 132 = 4 := by decide +kernel
theorem cz_132 : plainFor (z_my 132) = true ∧ ((z_rm 132).cells = 0 ∧ (z_rm 132).slots = 0) := by decide +kernel
-- 133 Model_isAwake
def bo_133_0 : List ZO := [(.aload_n 0, 0, 0, 0), (.getfield 13, 7, 3, 2), (.iload_n 1, 1, 0, 0), (.iaload, 0, 0, 0), (.iconst 2, 2, 0, 0), (.if_icmp .ne 20, 27, 0, 0), (.iload_n 2, 2, 0, 0), (.aload_n 0, 0, 0, 0), (.getfield 16, 7, 4, 2), (.iload_n 1, 1, 0, 0), (.iaload, 0, 0, 0), (.irem, 0, 0, 0), (.aload_n 0, 0, 0, 0), (.getfield 19, 7, 5, 2), (.iload_n 1, 1, 0, 0), (.iaload, 0, 0, 0), (.if_icmp .ne 7, 31, 0, 0), (.iconst 1, 1, 0, 0), (.goto 4, 32, 0, 0)]
def bo_133_27 : List ZO := [(.iconst 1, 1, 0, 0), (.goto 4, 32, 0, 0)]
def bo_133_31 : List ZO := [(.iconst 0, 0, 0, 0), (.ireturn, 1, 0, 0)]
def bo_133_32 : List ZO := [(.ireturn, 1, 0, 0)]
def bk_133 : List (Nat × ZE) := [(0, false, [true, true, true], bo_133_0, 0), (27, false, [false, false, false], bo_133_27, 0), (31, false, [false, false, false], bo_133_31, 0), (32, false, [false, false, false], bo_133_32, 0)]
theorem ck_133 : z_chks 133 bk_133 [[714, 715, 716], [], [], []] = true := by decide +kernel
theorem bf_133_0 : z_fd bk_133 0 = some (false, [true, true, true], bo_133_0, 0) := rfl
theorem bf_133_27 : z_fd bk_133 27 = some (false, [false, false, false], bo_133_27, 0) := rfl
theorem bf_133_31 : z_fd bk_133 31 = some (false, [false, false, false], bo_133_31, 0) := rfl
theorem bf_133_32 : z_fd bk_133 32 = some (false, [false, false, false], bo_133_32, 0) := rfl
theorem cl_133 : z_mL 133 = 3 := by decide +kernel
theorem cz_133 : plainFor (z_my 133) = true ∧ ((z_rm 133).cells = 0 ∧ (z_rm 133).slots = 0) := by decide +kernel
-- 134 Model_hears
def bo_134_0 : List ZO := [(.aload_n 0, 0, 0, 0), (.getfield 37, 7, 12, 2), (.iconst 0, 0, 0, 0), (.iload_n 2, 2, 0, 0), (.iadd, 0, 0, 0), (.iaload, 0, 0, 0), (.istore_n 3, 3, 0, 0), (.iload_n 3, 3, 0, 0), (.bipush (-9), 9, 0, 1), (.if_icmp .eq 50, 62, 0, 0), (.aload_n 0, 0, 0, 0), (.aload_n 0, 0, 0, 0), (.getfield 37, 7, 12, 2), (.iload_n 3, 3, 0, 0), (.iload_n 2, 2, 0, 0), (.invokevirtual 196, 132, 4, 8), (.ifCond .eq 37, 62, 0, 0), (.aload_n 1, 1, 0, 0), (.bipush 8, 8, 0, 0), (.iload_n 2, 2, 0, 0), (.iadd, 0, 0, 0), (.aload_n 0, 0, 0, 0), (.aload_n 0, 0, 0, 0), (.getfield 37, 7, 12, 2), (.iload_n 3, 3, 0, 0), (.iload_n 2, 2, 0, 0), (.invokevirtual 189, 130, 4, 8), (.iastore, 0, 0, 0), (.aload_n 1, 1, 0, 0), (.bipush 16, 16, 0, 0), (.iload_n 2, 2, 0, 0), (.iadd, 0, 0, 0), (.aload_n 0, 0, 0, 0), (.aload_n 0, 0, 0, 0), (.getfield 37, 7, 12, 2), (.iload_n 3, 3, 0, 0), (.invokevirtual 186, 129, 3, 8), (.iastore, 0, 0, 0), (.goto 10, 69, 0, 0)]
theorem cb_134_0 : z_chk 134 bo_134_0 0 0 [723, 723, 1000, 723, 948, 723, 972] = true := by decide +kernel
def bo_134_62 : List ZO := [(.aload_n 1, 1, 0, 0), (.iconst 0, 0, 0, 0), (.iload_n 2, 2, 0, 0), (.iadd, 0, 0, 0), (.bipush (-9), 9, 0, 1), (.iastore, 0, 0, 0), (.bipush (-9), 9, 0, 1), (.istore 4, 4, 0, 0), (.iconst 0, 0, 0, 0), (.istore 5, 5, 0, 0), (.iconst 0, 0, 0, 0), (.istore 6, 6, 0, 0)]
theorem cb_134_62 : z_chk 134 bo_134_62 62 79 [] = true := by decide +kernel
def bo_134_69 : List ZO := [(.bipush (-9), 9, 0, 1), (.istore 4, 4, 0, 0), (.iconst 0, 0, 0, 0), (.istore 5, 5, 0, 0), (.iconst 0, 0, 0, 0), (.istore 6, 6, 0, 0)]
theorem cb_134_69 : z_chk 134 bo_134_69 69 79 [] = true := by decide +kernel
def bo_134_79 : List ZO := [(.iload 6, 6, 0, 0), (.aload_n 0, 0, 0, 0), (.getfield 99, 7, 2, 0), (.if_icmp .ge 93, 178, 0, 0), (.iload 5, 5, 0, 0), (.ifCond .ne 25, 115, 0, 0), (.iload 6, 6, 0, 0), (.iload_n 2, 2, 0, 0), (.if_icmp .eq 23, 119, 0, 0), (.aload_n 0, 0, 0, 0), (.aload_n 0, 0, 0, 0), (.getfield 37, 7, 12, 2), (.iload 6, 6, 0, 0), (.iload_n 2, 2, 0, 0), (.invokevirtual 189, 130, 4, 8), (.bipush (-9), 9, 0, 1), (.if_icmp .eq 7, 119, 0, 0), (.iconst 1, 1, 0, 0), (.goto 4, 120, 0, 0)]
theorem cb_134_79 : z_chk 134 bo_134_79 79 0 [713, 723, 948] = true := by decide +kernel
def bo_134_115 : List ZO := [(.iconst 1, 1, 0, 0), (.goto 4, 120, 0, 0)]
theorem cb_134_115 : z_chk 134 bo_134_115 115 0 [] = true := by decide +kernel
def bo_134_119 : List ZO := [(.iconst 0, 0, 0, 0)]
theorem cb_134_119 : z_chk 134 bo_134_119 119 120 [] = true := by decide +kernel
def bo_134_120 : List ZO := [(.istore 5, 5, 0, 0), (.aload_n 0, 0, 0, 0), (.aload_n 0, 0, 0, 0), (.getfield 37, 7, 12, 2), (.iload 6, 6, 0, 0), (.iload_n 2, 2, 0, 0), (.invokevirtual 196, 132, 4, 8), (.ifCond .eq 39, 172, 0, 0), (.iload 4, 4, 0, 0), (.bipush (-9), 9, 0, 1), (.if_icmp .eq 28, 168, 0, 0), (.aload_n 0, 0, 0, 0), (.aload_n 0, 0, 0, 0), (.getfield 37, 7, 12, 2), (.iload 6, 6, 0, 0), (.iload_n 2, 2, 0, 0), (.invokevirtual 189, 130, 4, 8), (.aload_n 0, 0, 0, 0), (.aload_n 0, 0, 0, 0), (.getfield 37, 7, 12, 2), (.iload 4, 4, 0, 0), (.iload_n 2, 2, 0, 0), (.invokevirtual 189, 130, 4, 8), (.if_icmp .ge 7, 172, 0, 0), (.iload 6, 6, 0, 0), (.istore 4, 4, 0, 0), (.iinc 6 1, 1, 6, 0), (.goto (-96), 79, 0, 0)]
theorem cb_134_120 : z_chk 134 bo_134_120 120 0 [723, 1000, 723, 948, 723, 948] = true := by decide +kernel
def bo_134_168 : List ZO := [(.iload 6, 6, 0, 0), (.istore 4, 4, 0, 0), (.iinc 6 1, 1, 6, 0), (.goto (-96), 79, 0, 0)]
theorem cb_134_168 : z_chk 134 bo_134_168 168 0 [] = true := by decide +kernel
def bo_134_172 : List ZO := [(.iinc 6 1, 1, 6, 0), (.goto (-96), 79, 0, 0)]
theorem cb_134_172 : z_chk 134 bo_134_172 172 0 [] = true := by decide +kernel
def bo_134_178 : List ZO := [(.iload 4, 4, 0, 0), (.bipush (-9), 9, 0, 1), (.if_icmp .eq 81, 263, 0, 0), (.aload_n 1, 1, 0, 0), (.iconst 0, 0, 0, 0), (.iload_n 2, 2, 0, 0), (.iadd, 0, 0, 0), (.iaload, 0, 0, 0), (.bipush (-9), 9, 0, 1), (.if_icmp .eq 31, 223, 0, 0), (.aload_n 1, 1, 0, 0), (.bipush 8, 8, 0, 0), (.iload_n 2, 2, 0, 0), (.iadd, 0, 0, 0), (.iaload, 0, 0, 0), (.aload_n 0, 0, 0, 0), (.aload_n 0, 0, 0, 0), (.getfield 37, 7, 12, 2), (.iload 4, 4, 0, 0), (.iload_n 2, 2, 0, 0), (.invokevirtual 189, 130, 4, 8), (.aload_n 0, 0, 0, 0), (.getfield 37, 7, 12, 2), (.bipush 75, 75, 0, 0), (.iaload, 0, 0, 0), (.iadd, 0, 0, 0), (.if_icmp .le 43, 263, 0, 0), (.aload_n 1, 1, 0, 0), (.iconst 0, 0, 0, 0), (.iload_n 2, 2, 0, 0), (.iadd, 0, 0, 0), (.iload 4, 4, 0, 0), (.iastore, 0, 0, 0), (.aload_n 1, 1, 0, 0), (.bipush 8, 8, 0, 0), (.iload_n 2, 2, 0, 0), (.iadd, 0, 0, 0), (.aload_n 0, 0, 0, 0), (.aload_n 0, 0, 0, 0), (.getfield 37, 7, 12, 2), (.iload 4, 4, 0, 0), (.iload_n 2, 2, 0, 0), (.invokevirtual 189, 130, 4, 8), (.iastore, 0, 0, 0), (.aload_n 1, 1, 0, 0), (.bipush 16, 16, 0, 0), (.iload_n 2, 2, 0, 0), (.iadd, 0, 0, 0), (.aload_n 0, 0, 0, 0), (.aload_n 0, 0, 0, 0), (.getfield 37, 7, 12, 2), (.iload 4, 4, 0, 0), (.invokevirtual 186, 129, 3, 8), (.iastore, 0, 0, 0)]
theorem cb_134_178 : z_chk 134 bo_134_178 178 263 [723, 948, 723, 723, 948, 723, 972] = true := by decide +kernel
def bo_134_223 : List ZO := [(.aload_n 1, 1, 0, 0), (.iconst 0, 0, 0, 0), (.iload_n 2, 2, 0, 0), (.iadd, 0, 0, 0), (.iload 4, 4, 0, 0), (.iastore, 0, 0, 0), (.aload_n 1, 1, 0, 0), (.bipush 8, 8, 0, 0), (.iload_n 2, 2, 0, 0), (.iadd, 0, 0, 0), (.aload_n 0, 0, 0, 0), (.aload_n 0, 0, 0, 0), (.getfield 37, 7, 12, 2), (.iload 4, 4, 0, 0), (.iload_n 2, 2, 0, 0), (.invokevirtual 189, 130, 4, 8), (.iastore, 0, 0, 0), (.aload_n 1, 1, 0, 0), (.bipush 16, 16, 0, 0), (.iload_n 2, 2, 0, 0), (.iadd, 0, 0, 0), (.aload_n 0, 0, 0, 0), (.aload_n 0, 0, 0, 0), (.getfield 37, 7, 12, 2), (.iload 4, 4, 0, 0), (.invokevirtual 186, 129, 3, 8), (.iastore, 0, 0, 0)]
theorem cb_134_223 : z_chk 134 bo_134_223 223 263 [723, 948, 723, 972] = true := by decide +kernel
def bo_134_263 : List ZO := [(.aload_n 1, 1, 0, 0), (.iconst 0, 0, 0, 0), (.iload_n 2, 2, 0, 0), (.iadd, 0, 0, 0), (.iaload, 0, 0, 0), (.bipush (-9), 9, 0, 1), (.if_icmp .ne 20, 290, 0, 0), (.aload_n 1, 1, 0, 0), (.bipush 8, 8, 0, 0), (.iload_n 2, 2, 0, 0), (.iadd, 0, 0, 0), (.iconst 0, 0, 0, 0), (.iastore, 0, 0, 0), (.aload_n 1, 1, 0, 0), (.bipush 16, 16, 0, 0), (.iload_n 2, 2, 0, 0), (.iadd, 0, 0, 0), (.iconst 0, 0, 0, 0), (.iastore, 0, 0, 0), (.iload 5, 5, 0, 0), (.ireturn, 1, 0, 0)]
theorem cb_134_263 : z_chk 134 bo_134_263 263 0 [] = true := by decide +kernel
def bo_134_290 : List ZO := [(.aload_n 1, 1, 0, 0), (.bipush 16, 16, 0, 0), (.iload_n 2, 2, 0, 0), (.iadd, 0, 0, 0), (.iaload, 0, 0, 0), (.aload_n 1, 1, 0, 0), (.bipush 24, 24, 0, 0), (.iload_n 2, 2, 0, 0), (.iadd, 0, 0, 0), (.iaload, 0, 0, 0), (.if_icmp .le 30, 332, 0, 0), (.aload_n 1, 1, 0, 0), (.bipush 24, 24, 0, 0), (.iload_n 2, 2, 0, 0), (.iadd, 0, 0, 0), (.aload_n 1, 1, 0, 0), (.bipush 16, 16, 0, 0), (.iload_n 2, 2, 0, 0), (.iadd, 0, 0, 0), (.iaload, 0, 0, 0), (.iastore, 0, 0, 0), (.aload_n 1, 1, 0, 0), (.bipush 32, 32, 0, 0), (.iload_n 2, 2, 0, 0), (.iadd, 0, 0, 0), (.aload_n 1, 1, 0, 0), (.bipush 8, 8, 0, 0), (.iload_n 2, 2, 0, 0), (.iadd, 0, 0, 0), (.iaload, 0, 0, 0), (.iastore, 0, 0, 0), (.goto 30, 359, 0, 0)]
theorem cb_134_290 : z_chk 134 bo_134_290 290 0 [] = true := by decide +kernel
def bo_134_332 : List ZO := [(.aload_n 1, 1, 0, 0), (.bipush 8, 8, 0, 0), (.iload_n 2, 2, 0, 0), (.iadd, 0, 0, 0), (.iaload, 0, 0, 0), (.aload_n 1, 1, 0, 0), (.bipush 32, 32, 0, 0), (.iload_n 2, 2, 0, 0), (.iadd, 0, 0, 0), (.iaload, 0, 0, 0), (.if_icmp .ge 15, 359, 0, 0), (.aload_n 1, 1, 0, 0), (.bipush 32, 32, 0, 0), (.iload_n 2, 2, 0, 0), (.iadd, 0, 0, 0), (.aload_n 1, 1, 0, 0), (.bipush 8, 8, 0, 0), (.iload_n 2, 2, 0, 0), (.iadd, 0, 0, 0), (.iaload, 0, 0, 0), (.iastore, 0, 0, 0), (.iconst 0, 0, 0, 0), (.ireturn, 1, 0, 0)]
theorem cb_134_332 : z_chk 134 bo_134_332 332 0 [] = true := by decide +kernel
def bo_134_359 : List ZO := [(.iconst 0, 0, 0, 0), (.ireturn, 1, 0, 0)]
theorem cb_134_359 : z_chk 134 bo_134_359 359 0 [] = true := by decide +kernel
def bk_134 : List (Nat × ZE) := [(0, false, [true, true, true, false, false, false, false], bo_134_0, 0), (62, false, [true, true, true, false, false, false, false], bo_134_62, 79), (69, false, [true, true, true, false, false, false, false], bo_134_69, 79), (79, true, [true, true, true, false, true, true, true], bo_134_79, 0), (115, false, [true, true, true, false, true, false, true], bo_134_115, 0), (119, false, [true, true, true, false, true, false, true], bo_134_119, 120), (120, true, [true, true, true, false, true, false, true], bo_134_120, 0), (168, false, [true, true, true, false, false, true, true], bo_134_168, 0), (172, false, [true, true, true, false, true, true, true], bo_134_172, 0), (178, false, [true, true, true, false, true, true, false], bo_134_178, 263), (223, false, [true, true, true, false, true, true, false], bo_134_223, 263), (263, true, [false, true, true, false, false, true, false], bo_134_263, 0), (290, false, [false, true, true, false, false, false, false], bo_134_290, 0), (332, false, [false, true, true, false, false, false, false], bo_134_332, 0), (359, false, [false, false, false, false, false, false, false], bo_134_359, 0)]
theorem ck_134 : z_chks 134 bk_134 [[723, 723, 1000, 723, 948, 723, 972], [], [], [713, 723, 948], [], [], [723, 1000, 723, 948, 723, 948], [], [], [723, 948, 723, 723, 948, 723, 972], [723, 948, 723, 972], [], [], [], []] = true := z_chks_cons cb_134_0 (z_chks_cons cb_134_62 (z_chks_cons cb_134_69 (z_chks_cons cb_134_79 (z_chks_cons cb_134_115 (z_chks_cons cb_134_119 (z_chks_cons cb_134_120 (z_chks_cons cb_134_168 (z_chks_cons cb_134_172 (z_chks_cons cb_134_178 (z_chks_cons cb_134_223 (z_chks_cons cb_134_263 (z_chks_cons cb_134_290 (z_chks_cons cb_134_332 (z_chks_cons cb_134_359 (z_chks_nil)))))))))))))))
theorem bf_134_0 : z_fd bk_134 0 = some (false, [true, true, true, false, false, false, false], bo_134_0, 0) := rfl
theorem bf_134_62 : z_fd bk_134 62 = some (false, [true, true, true, false, false, false, false], bo_134_62, 79) := rfl
theorem bf_134_69 : z_fd bk_134 69 = some (false, [true, true, true, false, false, false, false], bo_134_69, 79) := rfl
theorem bf_134_79 : z_fd bk_134 79 = some (true, [true, true, true, false, true, true, true], bo_134_79, 0) := rfl
theorem bf_134_115 : z_fd bk_134 115 = some (false, [true, true, true, false, true, false, true], bo_134_115, 0) := rfl
theorem bf_134_119 : z_fd bk_134 119 = some (false, [true, true, true, false, true, false, true], bo_134_119, 120) := rfl
theorem bf_134_120 : z_fd bk_134 120 = some (true, [true, true, true, false, true, false, true], bo_134_120, 0) := rfl
theorem bf_134_168 : z_fd bk_134 168 = some (false, [true, true, true, false, false, true, true], bo_134_168, 0) := rfl
theorem bf_134_172 : z_fd bk_134 172 = some (false, [true, true, true, false, true, true, true], bo_134_172, 0) := rfl
theorem bf_134_178 : z_fd bk_134 178 = some (false, [true, true, true, false, true, true, false], bo_134_178, 263) := rfl
theorem bf_134_223 : z_fd bk_134 223 = some (false, [true, true, true, false, true, true, false], bo_134_223, 263) := rfl
theorem bf_134_263 : z_fd bk_134 263 = some (true, [false, true, true, false, false, true, false], bo_134_263, 0) := rfl
theorem bf_134_290 : z_fd bk_134 290 = some (false, [false, true, true, false, false, false, false], bo_134_290, 0) := rfl
theorem bf_134_332 : z_fd bk_134 332 = some (false, [false, true, true, false, false, false, false], bo_134_332, 0) := rfl
theorem bf_134_359 : z_fd bk_134 359 = some (false, [false, false, false, false, false, false, false], bo_134_359, 0) := rfl
theorem cl_134 : z_mL 134 = 7 := by decide +kernel
theorem cz_134 : plainFor (z_my 134) = true ∧ ((z_rm 134).cells = 0 ∧ (z_rm 134).slots = 0) := by decide +kernel
-- 135 Model_goOn
def bo_135_0 : List ZO := [(.aload_n 1, 1, 0, 0), (.aload_n 0, 0, 0, 0), (.getfield 37, 7, 12, 2), (.invokestatic 199, 102, 2, 0), (.iconst 0, 0, 0, 0), (.istore_n 2, 2, 0, 0), (.iconst 0, 0, 0, 0), (.istore_n 3, 3, 0, 0)]
theorem cb_135_0 : z_chk 135 bo_135_0 0 12 [723, 989] = true := by decide +kernel
def bo_135_12 : List ZO := [(.iload_n 3, 3, 0, 0), (.aload_n 0, 0, 0, 0), (.getfield 99, 7, 2, 0), (.if_icmp .ge 52, 69, 0, 0), (.aload_n 0, 0, 0, 0), (.getfield 13, 7, 3, 2), (.iload_n 3, 3, 0, 0), (.iaload, 0, 0, 0), (.ifCond .eq 37, 63, 0, 0), (.aload_n 0, 0, 0, 0), (.iload_n 3, 3, 0, 0), (.aload_n 0, 0, 0, 0), (.getfield 37, 7, 12, 2), (.bipush 77, 77, 0, 0), (.iaload, 0, 0, 0), (.invokevirtual 203, 133, 3, 8), (.ifCond .eq 22, 63, 0, 0), (.aload_n 0, 0, 0, 0), (.aload_n 1, 1, 0, 0), (.iload_n 3, 3, 0, 0), (.invokevirtual 206, 134, 3, 8), (.ifCond .ne 7, 57, 0, 0), (.iload_n 2, 2, 0, 0), (.ifCond .eq 7, 61, 0, 0), (.iconst 1, 1, 0, 0), (.goto 4, 62, 0, 0)]
theorem cb_135_12 : z_chk 135 bo_135_12 12 0 [713, 714, 723, 992, 996] = true := by decide +kernel
def bo_135_57 : List ZO := [(.iconst 1, 1, 0, 0), (.goto 4, 62, 0, 0)]
theorem cb_135_57 : z_chk 135 bo_135_57 57 0 [] = true := by decide +kernel
def bo_135_61 : List ZO := [(.iconst 0, 0, 0, 0), (.istore_n 2, 2, 0, 0), (.iinc 3 1, 1, 3, 0), (.goto (-54), 12, 0, 0)]
theorem cb_135_61 : z_chk 135 bo_135_61 61 0 [] = true := by decide +kernel
def bo_135_62 : List ZO := [(.istore_n 2, 2, 0, 0), (.iinc 3 1, 1, 3, 0), (.goto (-54), 12, 0, 0)]
theorem cb_135_62 : z_chk 135 bo_135_62 62 0 [] = true := by decide +kernel
def bo_135_63 : List ZO := [(.iinc 3 1, 1, 3, 0), (.goto (-54), 12, 0, 0)]
theorem cb_135_63 : z_chk 135 bo_135_63 63 0 [] = true := by decide +kernel
def bo_135_69 : List ZO := [(.aload_n 1, 1, 0, 0), (.bipush 76, 76, 0, 0), (.dup2, 0, 0, 0), (.iaload, 0, 0, 0), (.iload_n 2, 2, 0, 0), (.ifCond .eq 7, 82, 0, 0), (.iconst 1, 1, 0, 0), (.goto 4, 83, 0, 0)]
theorem cb_135_69 : z_chk 135 bo_135_69 69 0 [] = true := by decide +kernel
def bo_135_82 : List ZO := [(.iconst 0, 0, 0, 0), (.iadd, 0, 0, 0), (.iastore, 0, 0, 0), (.aload_n 1, 1, 0, 0), (.bipush 77, 77, 0, 0), (.dup2, 0, 0, 0), (.iaload, 0, 0, 0), (.iconst 1, 1, 0, 0), (.iadd, 0, 0, 0), (.iastore, 0, 0, 0), (.return_, 0, 0, 0)]
theorem cb_135_82 : z_chk 135 bo_135_82 82 0 [] = true := by decide +kernel
def bo_135_83 : List ZO := [(.iadd, 0, 0, 0), (.iastore, 0, 0, 0), (.aload_n 1, 1, 0, 0), (.bipush 77, 77, 0, 0), (.dup2, 0, 0, 0), (.iaload, 0, 0, 0), (.iconst 1, 1, 0, 0), (.iadd, 0, 0, 0), (.iastore, 0, 0, 0), (.return_, 0, 0, 0)]
theorem cb_135_83 : z_chk 135 bo_135_83 83 0 [] = true := by decide +kernel
def bk_135 : List (Nat × ZE) := [(0, false, [true, true, false, false], bo_135_0, 12), (12, true, [true, true, true, true], bo_135_12, 0), (57, false, [true, true, false, true], bo_135_57, 0), (61, false, [true, true, false, true], bo_135_61, 0), (62, false, [true, true, false, true], bo_135_62, 0), (63, false, [true, true, true, true], bo_135_63, 0), (69, false, [false, true, true, false], bo_135_69, 0), (82, false, [false, true, false, false], bo_135_82, 0), (83, false, [false, true, false, false], bo_135_83, 0)]
theorem ck_135 : z_chks 135 bk_135 [[723, 989], [713, 714, 723, 992, 996], [], [], [], [], [], [], []] = true := z_chks_cons cb_135_0 (z_chks_cons cb_135_12 (z_chks_cons cb_135_57 (z_chks_cons cb_135_61 (z_chks_cons cb_135_62 (z_chks_cons cb_135_63 (z_chks_cons cb_135_69 (z_chks_cons cb_135_82 (z_chks_cons cb_135_83 (z_chks_nil)))))))))
theorem bf_135_0 : z_fd bk_135 0 = some (false, [true, true, false, false], bo_135_0, 12) := rfl
theorem bf_135_12 : z_fd bk_135 12 = some (true, [true, true, true, true], bo_135_12, 0) := rfl
theorem bf_135_57 : z_fd bk_135 57 = some (false, [true, true, false, true], bo_135_57, 0) := rfl
theorem bf_135_61 : z_fd bk_135 61 = some (false, [true, true, false, true], bo_135_61, 0) := rfl
theorem bf_135_62 : z_fd bk_135 62 = some (false, [true, true, false, true], bo_135_62, 0) := rfl
theorem bf_135_63 : z_fd bk_135 63 = some (false, [true, true, true, true], bo_135_63, 0) := rfl
theorem bf_135_69 : z_fd bk_135 69 = some (false, [false, true, true, false], bo_135_69, 0) := rfl
theorem bf_135_82 : z_fd bk_135 82 = some (false, [false, true, false, false], bo_135_82, 0) := rfl
theorem bf_135_83 : z_fd bk_135 83 = some (false, [false, true, false, false], bo_135_83, 0) := rfl
theorem cl_135 : z_mL 135 = 4 := by decide +kernel
theorem cz_135 : plainFor (z_my 135) = true ∧ ((z_rm 135).cells = 0 ∧ (z_rm 135).slots = 0) := by decide +kernel
-- 136 Model_tryRounds
def bo_136_0 : List ZO := [(.iconst 0, 0, 0, 0), (.istore_n 2, 2, 0, 0)]
def bo_136_2 : List ZO := [(.iload_n 2, 2, 0, 0), (.iload_n 1, 1, 0, 0), (.if_icmp .ge 17, 21, 0, 0), (.aload_n 0, 0, 0, 0), (.aload_n 0, 0, 0, 0), (.getfield 34, 7, 11, 2), (.invokevirtual 209, 135, 2, 8), (.iinc 2 1, 1, 2, 0), (.goto (-16), 2, 0, 0)]
def bo_136_21 : List ZO := [(.return_, 0, 0, 0)]
def bk_136 : List (Nat × ZE) := [(0, false, [true, true, false], bo_136_0, 2), (2, true, [true, true, true], bo_136_2, 0), (21, false, [false, false, false], bo_136_21, 0)]
theorem ck_136 : z_chks 136 bk_136 [[], [722, 985], []] = true := by decide +kernel
theorem bf_136_0 : z_fd bk_136 0 = some (false, [true, true, false], bo_136_0, 2) := rfl
theorem bf_136_2 : z_fd bk_136 2 = some (true, [true, true, true], bo_136_2, 0) := rfl
theorem bf_136_21 : z_fd bk_136 21 = some (false, [false, false, false], bo_136_21, 0) := rfl
theorem cl_136 : z_mL 136 = 3 := by decide +kernel
theorem cz_136 : plainFor (z_my 136) = true ∧ ((z_rm 136).cells = 0 ∧ (z_rm 136).slots = 0) := by decide +kernel
-- 137 Model_endOf
def bo_137_0 : List ZO := [(.iload_n 2, 2, 0, 0), (.istore_n 3, 3, 0, 0), (.iconst 0, 0, 0, 0), (.istore 4, 4, 0, 0)]
def bo_137_5 : List ZO := [(.iload 4, 4, 0, 0), (.aload_n 0, 0, 0, 0), (.getfield 99, 7, 2, 0), (.if_icmp .ge 34, 45, 0, 0), (.aload_n 0, 0, 0, 0), (.getfield 13, 7, 3, 2), (.iload_n 3, 3, 0, 0), (.iaload, 0, 0, 0), (.ifCond .eq 25, 45, 0, 0), (.aload_n 1, 1, 0, 0), (.iconst 0, 0, 0, 0), (.iload_n 3, 3, 0, 0), (.iadd, 0, 0, 0), (.iaload, 0, 0, 0), (.bipush (-9), 9, 0, 1), (.if_icmp .eq 15, 45, 0, 0), (.aload_n 1, 1, 0, 0), (.iconst 0, 0, 0, 0), (.iload_n 3, 3, 0, 0), (.iadd, 0, 0, 0), (.iaload, 0, 0, 0), (.istore_n 3, 3, 0, 0), (.iinc 4 1, 1, 4, 0), (.goto (-37), 5, 0, 0)]
def bo_137_45 : List ZO := [(.aload_n 0, 0, 0, 0), (.getfield 13, 7, 3, 2), (.iload_n 3, 3, 0, 0), (.iaload, 0, 0, 0), (.ifCond .ne 18, 69, 0, 0), (.aload_n 0, 0, 0, 0), (.getfield 92, 7, 23, 0), (.iload_n 3, 3, 0, 0), (.invokestatic 168, 104, 2, 0), (.ifCond .eq 7, 69, 0, 0), (.iload_n 3, 3, 0, 0), (.goto 5, 71, 0, 0)]
def bo_137_69 : List ZO := [(.bipush (-9), 9, 0, 1), (.ireturn, 0, 0, 0)]
def bo_137_71 : List ZO := [(.ireturn, 0, 0, 0)]
def bk_137 : List (Nat × ZE) := [(0, false, [true, true, true, false, false], bo_137_0, 5), (5, true, [true, true, false, true, true], bo_137_5, 0), (45, false, [true, false, false, true, false], bo_137_45, 0), (69, false, [false, false, false, false, false], bo_137_69, 0), (71, false, [false, false, false, false, false], bo_137_71, 0)]
theorem ck_137 : z_chks 137 bk_137 [[], [713, 714], [714, 734, 905], [], []] = true := by decide +kernel
theorem bf_137_0 : z_fd bk_137 0 = some (false, [true, true, true, false, false], bo_137_0, 5) := rfl
theorem bf_137_5 : z_fd bk_137 5 = some (true, [true, true, false, true, true], bo_137_5, 0) := rfl
theorem bf_137_45 : z_fd bk_137 45 = some (false, [true, false, false, true, false], bo_137_45, 0) := rfl
theorem bf_137_69 : z_fd bk_137 69 = some (false, [false, false, false, false, false], bo_137_69, 0) := rfl
theorem bf_137_71 : z_fd bk_137 71 = some (false, [false, false, false, false, false], bo_137_71, 0) := rfl
theorem cl_137 : z_mL 137 = 5 := by decide +kernel
theorem cz_137 : plainFor (z_my 137) = true ∧ ((z_rm 137).cells = 0 ∧ (z_rm 137).slots = 0) := by decide +kernel
-- 138 Model_reached
def bo_138_0 : List ZO := [(.iconst 0, 0, 0, 0), (.istore_n 2, 2, 0, 0), (.iconst 0, 0, 0, 0), (.istore_n 3, 3, 0, 0)]
def bo_138_4 : List ZO := [(.iload_n 3, 3, 0, 0), (.aload_n 0, 0, 0, 0), (.getfield 99, 7, 2, 0), (.if_icmp .ge 30, 39, 0, 0), (.iload_n 2, 2, 0, 0), (.aload_n 0, 0, 0, 0), (.aload_n 1, 1, 0, 0), (.iload_n 3, 3, 0, 0), (.invokevirtual 213, 137, 3, 8), (.bipush (-9), 9, 0, 1), (.if_icmp .eq 9, 30, 0, 0), (.iconst 1, 1, 0, 0), (.iload_n 3, 3, 0, 0), (.ishl, 0, 0, 0), (.goto 4, 31, 0, 0)]
def bo_138_30 : List ZO := [(.iconst 0, 0, 0, 0), (.ior, 0, 0, 0), (.istore_n 2, 2, 0, 0), (.iinc 3 1, 1, 3, 0), (.goto (-32), 4, 0, 0)]
def bo_138_31 : List ZO := [(.ior, 0, 0, 0), (.istore_n 2, 2, 0, 0), (.iinc 3 1, 1, 3, 0), (.goto (-32), 4, 0, 0)]
def bo_138_39 : List ZO := [(.iload_n 2, 2, 0, 0), (.ireturn, 0, 0, 0)]
def bk_138 : List (Nat × ZE) := [(0, false, [true, true, false, false], bo_138_0, 4), (4, true, [true, true, true, true], bo_138_4, 0), (30, false, [true, true, false, true], bo_138_30, 0), (31, false, [true, true, false, true], bo_138_31, 0), (39, false, [false, false, true, false], bo_138_39, 0)]
theorem ck_138 : z_chks 138 bk_138 [[], [713, 901], [], [], []] = true := by decide +kernel
theorem bf_138_0 : z_fd bk_138 0 = some (false, [true, true, false, false], bo_138_0, 4) := rfl
theorem bf_138_4 : z_fd bk_138 4 = some (true, [true, true, true, true], bo_138_4, 0) := rfl
theorem bf_138_30 : z_fd bk_138 30 = some (false, [true, true, false, true], bo_138_30, 0) := rfl
theorem bf_138_31 : z_fd bk_138 31 = some (false, [true, true, false, true], bo_138_31, 0) := rfl
theorem bf_138_39 : z_fd bk_138 39 = some (false, [false, false, true, false], bo_138_39, 0) := rfl
theorem cl_138 : z_mL 138 = 4 := by decide +kernel
theorem cz_138 : plainFor (z_my 138) = true ∧ ((z_rm 138).cells = 0 ∧ (z_rm 138).slots = 0) := by decide +kernel
-- 139 Model_loadOf
def bo_139_0 : List ZO := [(.iconst 0, 0, 0, 0), (.istore_n 3, 3, 0, 0), (.iconst 0, 0, 0, 0), (.istore 4, 4, 0, 0)]
def bo_139_5 : List ZO := [(.iload 4, 4, 0, 0), (.aload_n 0, 0, 0, 0), (.getfield 99, 7, 2, 0), (.if_icmp .ge 34, 45, 0, 0), (.iload_n 3, 3, 0, 0), (.iload 4, 4, 0, 0), (.iload_n 2, 2, 0, 0), (.if_icmp .eq 18, 36, 0, 0), (.aload_n 0, 0, 0, 0), (.aload_n 1, 1, 0, 0), (.iload 4, 4, 0, 0), (.invokevirtual 213, 137, 3, 8), (.iload_n 2, 2, 0, 0), (.if_icmp .ne 7, 36, 0, 0), (.iconst 1, 1, 0, 0), (.goto 4, 37, 0, 0)]
def bo_139_36 : List ZO := [(.iconst 0, 0, 0, 0), (.iadd, 0, 0, 0), (.istore_n 3, 3, 0, 0), (.iinc 4 1, 1, 4, 0), (.goto (-37), 5, 0, 0)]
def bo_139_37 : List ZO := [(.iadd, 0, 0, 0), (.istore_n 3, 3, 0, 0), (.iinc 4 1, 1, 4, 0), (.goto (-37), 5, 0, 0)]
def bo_139_45 : List ZO := [(.iload_n 3, 3, 0, 0), (.ireturn, 0, 0, 0)]
def bk_139 : List (Nat × ZE) := [(0, false, [true, true, true, false, false], bo_139_0, 5), (5, true, [true, true, true, true, true], bo_139_5, 0), (36, false, [true, true, true, false, true], bo_139_36, 0), (37, false, [true, true, true, false, true], bo_139_37, 0), (45, false, [false, false, false, true, false], bo_139_45, 0)]
theorem ck_139 : z_chks 139 bk_139 [[], [713, 901], [], [], []] = true := by decide +kernel
theorem bf_139_0 : z_fd bk_139 0 = some (false, [true, true, true, false, false], bo_139_0, 5) := rfl
theorem bf_139_5 : z_fd bk_139 5 = some (true, [true, true, true, true, true], bo_139_5, 0) := rfl
theorem bf_139_36 : z_fd bk_139 36 = some (false, [true, true, true, false, true], bo_139_36, 0) := rfl
theorem bf_139_37 : z_fd bk_139 37 = some (false, [true, true, true, false, true], bo_139_37, 0) := rfl
theorem bf_139_45 : z_fd bk_139 45 = some (false, [false, false, false, true, false], bo_139_45, 0) := rfl
theorem cl_139 : z_mL 139 = 5 := by decide +kernel
theorem cz_139 : plainFor (z_my 139) = true ∧ ((z_rm 139).cells = 0 ∧ (z_rm 139).slots = 0) := by decide +kernel
-- 140 Model_those
def bo_140_0 : List ZO := [(.iconst 0, 0, 0, 0), (.istore_n 2, 2, 0, 0), (.iconst 0, 0, 0, 0), (.istore_n 3, 3, 0, 0)]
def bo_140_4 : List ZO := [(.iload_n 3, 3, 0, 0), (.aload_n 0, 0, 0, 0), (.getfield 99, 7, 2, 0), (.if_icmp .ge 29, 38, 0, 0), (.iload_n 2, 2, 0, 0), (.aload_n 0, 0, 0, 0), (.getfield 13, 7, 3, 2), (.iload_n 3, 3, 0, 0), (.iaload, 0, 0, 0), (.iload_n 1, 1, 0, 0), (.if_icmp .ne 9, 29, 0, 0), (.iconst 1, 1, 0, 0), (.iload_n 3, 3, 0, 0), (.ishl, 0, 0, 0), (.goto 4, 30, 0, 0)]
def bo_140_29 : List ZO := [(.iconst 0, 0, 0, 0), (.ior, 0, 0, 0), (.istore_n 2, 2, 0, 0), (.iinc 3 1, 1, 3, 0), (.goto (-31), 4, 0, 0)]
def bo_140_30 : List ZO := [(.ior, 0, 0, 0), (.istore_n 2, 2, 0, 0), (.iinc 3 1, 1, 3, 0), (.goto (-31), 4, 0, 0)]
def bo_140_38 : List ZO := [(.iload_n 2, 2, 0, 0), (.ireturn, 0, 0, 0)]
def bk_140 : List (Nat × ZE) := [(0, false, [true, true, false, false], bo_140_0, 4), (4, true, [true, true, true, true], bo_140_4, 0), (29, false, [true, true, false, true], bo_140_29, 0), (30, false, [true, true, false, true], bo_140_30, 0), (38, false, [false, false, true, false], bo_140_38, 0)]
theorem ck_140 : z_chks 140 bk_140 [[], [713, 714], [], [], []] = true := by decide +kernel
theorem bf_140_0 : z_fd bk_140 0 = some (false, [true, true, false, false], bo_140_0, 4) := rfl
theorem bf_140_4 : z_fd bk_140 4 = some (true, [true, true, true, true], bo_140_4, 0) := rfl
theorem bf_140_29 : z_fd bk_140 29 = some (false, [true, true, false, true], bo_140_29, 0) := rfl
theorem bf_140_30 : z_fd bk_140 30 = some (false, [true, true, false, true], bo_140_30, 0) := rfl
theorem bf_140_38 : z_fd bk_140 38 = some (false, [false, false, true, false], bo_140_38, 0) := rfl
theorem cl_140 : z_mL 140 = 4 := by decide +kernel
theorem cz_140 : plainFor (z_my 140) = true ∧ ((z_rm 140).cells = 0 ∧ (z_rm 140).slots = 0) := by decide +kernel
-- 141 Model_downs
def bo_141_0 : List ZO := [(.iconst 0, 0, 0, 0), (.istore_n 1, 1, 0, 0), (.iconst 0, 0, 0, 0), (.istore_n 2, 2, 0, 0)]
def bo_141_4 : List ZO := [(.iload_n 2, 2, 0, 0), (.aload_n 0, 0, 0, 0), (.getfield 110, 7, 6, 0), (.if_icmp .ge 23, 32, 0, 0), (.iload_n 1, 1, 0, 0), (.aload_n 0, 0, 0, 0), (.getfield 31, 7, 10, 2), (.bipush 58, 58, 0, 0), (.iload_n 2, 2, 0, 0), (.iadd, 0, 0, 0), (.iaload, 0, 0, 0), (.iload_n 2, 2, 0, 0), (.ishl, 0, 0, 0), (.ior, 0, 0, 0), (.istore_n 1, 1, 0, 0), (.iinc 2 1, 1, 2, 0), (.goto (-25), 4, 0, 0)]
def bo_141_32 : List ZO := [(.iload_n 1, 1, 0, 0), (.ireturn, 0, 0, 0)]
def bk_141 : List (Nat × ZE) := [(0, false, [true, false, false], bo_141_0, 4), (4, true, [true, true, true], bo_141_4, 0), (32, false, [false, true, false], bo_141_32, 0)]
theorem ck_141 : z_chks 141 bk_141 [[], [717, 721], []] = true := by decide +kernel
theorem bf_141_0 : z_fd bk_141 0 = some (false, [true, false, false], bo_141_0, 4) := rfl
theorem bf_141_4 : z_fd bk_141 4 = some (true, [true, true, true], bo_141_4, 0) := rfl
theorem bf_141_32 : z_fd bk_141 32 = some (false, [false, true, false], bo_141_32, 0) := rfl
theorem cl_141 : z_mL 141 = 3 := by decide +kernel
theorem cz_141 : plainFor (z_my 141) = true ∧ ((z_rm 141).cells = 0 ∧ (z_rm 141).slots = 0) := by decide +kernel
-- 142 Model_about
def bo_142_0 : List ZO := [(.iload_n 1, 1, 0, 0), (.tableswitch 138 0 11 #[63, 68, 73, 79, 85, 93, 101, 109, 118, 123, 128, 133], 1, 0, 11)]
theorem cb_142_0 : z_chk 142 bo_142_0 0 0 [] = true := by decide +kernel
def bo_142_64 : List ZO := [(.aload_n 0, 0, 0, 0), (.getfield 99, 7, 2, 0), (.ireturn, 0, 0, 0)]
theorem cb_142_64 : z_chk 142 bo_142_64 64 0 [713] = true := by decide +kernel
def bo_142_69 : List ZO := [(.aload_n 0, 0, 0, 0), (.getfield 110, 7, 6, 0), (.ireturn, 0, 0, 0)]
theorem cb_142_69 : z_chk 142 bo_142_69 69 0 [717] = true := by decide +kernel
def bo_142_74 : List ZO := [(.aload_n 0, 0, 0, 0), (.iconst 0, 0, 0, 0), (.invokevirtual 216, 140, 2, 8), (.ireturn, 0, 0, 0)]
theorem cb_142_74 : z_chk 142 bo_142_74 74 0 [893] = true := by decide +kernel
def bo_142_80 : List ZO := [(.aload_n 0, 0, 0, 0), (.iconst 2, 2, 0, 0), (.invokevirtual 216, 140, 2, 8), (.ireturn, 0, 0, 0)]
theorem cb_142_80 : z_chk 142 bo_142_80 80 0 [893] = true := by decide +kernel
def bo_142_86 : List ZO := [(.aload_n 0, 0, 0, 0), (.getfield 31, 7, 10, 2), (.bipush 75, 75, 0, 0), (.iaload, 0, 0, 0), (.ireturn, 0, 0, 0)]
theorem cb_142_86 : z_chk 142 bo_142_86 86 0 [721] = true := by decide +kernel
def bo_142_94 : List ZO := [(.aload_n 0, 0, 0, 0), (.getfield 31, 7, 10, 2), (.bipush 76, 76, 0, 0), (.iaload, 0, 0, 0), (.ireturn, 0, 0, 0)]
theorem cb_142_94 : z_chk 142 bo_142_94 94 0 [721] = true := by decide +kernel
def bo_142_102 : List ZO := [(.aload_n 0, 0, 0, 0), (.getfield 31, 7, 10, 2), (.bipush 77, 77, 0, 0), (.iaload, 0, 0, 0), (.ireturn, 0, 0, 0)]
theorem cb_142_102 : z_chk 142 bo_142_102 102 0 [721] = true := by decide +kernel
def bo_142_110 : List ZO := [(.aload_n 0, 0, 0, 0), (.aload_n 0, 0, 0, 0), (.getfield 31, 7, 10, 2), (.invokevirtual 220, 138, 2, 8), (.ireturn, 0, 0, 0)]
theorem cb_142_110 : z_chk 142 bo_142_110 110 0 [721, 897] = true := by decide +kernel
def bo_142_119 : List ZO := [(.aload_n 0, 0, 0, 0), (.invokevirtual 224, 141, 1, 8), (.ireturn, 0, 0, 0)]
theorem cb_142_119 : z_chk 142 bo_142_119 119 0 [908] = true := by decide +kernel
def bo_142_124 : List ZO := [(.aload_n 0, 0, 0, 0), (.getfield 165, 7, 14, 0), (.ireturn, 0, 0, 0)]
theorem cb_142_124 : z_chk 142 bo_142_124 124 0 [725] = true := by decide +kernel
def bo_142_129 : List ZO := [(.aload_n 0, 0, 0, 0), (.getfield 227, 7, 21, 0), (.ireturn, 0, 0, 0)]
theorem cb_142_129 : z_chk 142 bo_142_129 129 0 [732] = true := by decide +kernel
def bo_142_134 : List ZO := [(.aload_n 0, 0, 0, 0), (.getfield 115, 7, 1, 0), (.ireturn, 0, 0, 0)]
theorem cb_142_134 : z_chk 142 bo_142_134 134 0 [712] = true := by decide +kernel
def bo_142_139 : List ZO := [(.bipush (-2), 2, 0, 1), (.ireturn, 0, 0, 0)]
theorem cb_142_139 : z_chk 142 bo_142_139 139 0 [] = true := by decide +kernel
def bk_142 : List (Nat × ZE) := [(0, false, [true, true], bo_142_0, 0), (64, false, [true, false], bo_142_64, 0), (69, false, [true, false], bo_142_69, 0), (74, false, [true, false], bo_142_74, 0), (80, false, [true, false], bo_142_80, 0), (86, false, [true, false], bo_142_86, 0), (94, false, [true, false], bo_142_94, 0), (102, false, [true, false], bo_142_102, 0), (110, false, [true, false], bo_142_110, 0), (119, false, [true, false], bo_142_119, 0), (124, false, [true, false], bo_142_124, 0), (129, false, [true, false], bo_142_129, 0), (134, false, [true, false], bo_142_134, 0), (139, false, [false, false], bo_142_139, 0)]
theorem ck_142 : z_chks 142 bk_142 [[], [713], [717], [893], [893], [721], [721], [721], [721, 897], [908], [725], [732], [712], []] = true := z_chks_cons cb_142_0 (z_chks_cons cb_142_64 (z_chks_cons cb_142_69 (z_chks_cons cb_142_74 (z_chks_cons cb_142_80 (z_chks_cons cb_142_86 (z_chks_cons cb_142_94 (z_chks_cons cb_142_102 (z_chks_cons cb_142_110 (z_chks_cons cb_142_119 (z_chks_cons cb_142_124 (z_chks_cons cb_142_129 (z_chks_cons cb_142_134 (z_chks_cons cb_142_139 (z_chks_nil))))))))))))))
theorem bf_142_0 : z_fd bk_142 0 = some (false, [true, true], bo_142_0, 0) := rfl
theorem bf_142_64 : z_fd bk_142 64 = some (false, [true, false], bo_142_64, 0) := rfl
theorem bf_142_69 : z_fd bk_142 69 = some (false, [true, false], bo_142_69, 0) := rfl
theorem bf_142_74 : z_fd bk_142 74 = some (false, [true, false], bo_142_74, 0) := rfl
theorem bf_142_80 : z_fd bk_142 80 = some (false, [true, false], bo_142_80, 0) := rfl
theorem bf_142_86 : z_fd bk_142 86 = some (false, [true, false], bo_142_86, 0) := rfl
theorem bf_142_94 : z_fd bk_142 94 = some (false, [true, false], bo_142_94, 0) := rfl
theorem bf_142_102 : z_fd bk_142 102 = some (false, [true, false], bo_142_102, 0) := rfl
theorem bf_142_110 : z_fd bk_142 110 = some (false, [true, false], bo_142_110, 0) := rfl
theorem bf_142_119 : z_fd bk_142 119 = some (false, [true, false], bo_142_119, 0) := rfl
theorem bf_142_124 : z_fd bk_142 124 = some (false, [true, false], bo_142_124, 0) := rfl
theorem bf_142_129 : z_fd bk_142 129 = some (false, [true, false], bo_142_129, 0) := rfl
theorem bf_142_134 : z_fd bk_142 134 = some (false, [true, false], bo_142_134, 0) := rfl
theorem bf_142_139 : z_fd bk_142 139 = some (false, [false, false], bo_142_139, 0) := rfl
theorem cl_142 : z_mL 142 = 2 := by decide +kernel
theorem cz_142 : plainFor (z_my 142) = true ∧ ((z_rm 142).cells = 0 ∧ (z_rm 142).slots = 0) := by decide +kernel
-- 143 Model_tell
def bo_143_0 : List ZO := [(.aload_n 0, 0, 0, 0), (.getfield 13, 7, 3, 2), (.iload_n 2, 2, 0, 0), (.iaload, 0, 0, 0), (.ifCond .ne 7, 13, 0, 0), (.iconst 1, 1, 0, 0), (.goto 4, 14, 0, 0)]
theorem cb_143_0 : z_chk 143 bo_143_0 0 0 [714] = true := by decide +kernel
def bo_143_13 : List ZO := [(.iconst 0, 0, 0, 0), (.istore 4, 4, 0, 0), (.iload 4, 4, 0, 0), (.ifCond .ne 17, 35, 0, 0), (.aload_n 1, 1, 0, 0), (.iconst 0, 0, 0, 0), (.iload_n 2, 2, 0, 0), (.iadd, 0, 0, 0), (.iaload, 0, 0, 0), (.bipush (-9), 9, 0, 1), (.if_icmp .eq 7, 35, 0, 0), (.iconst 1, 1, 0, 0), (.goto 4, 36, 0, 0)]
theorem cb_143_13 : z_chk 143 bo_143_13 13 0 [] = true := by decide +kernel
def bo_143_14 : List ZO := [(.istore 4, 4, 0, 0), (.iload 4, 4, 0, 0), (.ifCond .ne 17, 35, 0, 0), (.aload_n 1, 1, 0, 0), (.iconst 0, 0, 0, 0), (.iload_n 2, 2, 0, 0), (.iadd, 0, 0, 0), (.iaload, 0, 0, 0), (.bipush (-9), 9, 0, 1), (.if_icmp .eq 7, 35, 0, 0), (.iconst 1, 1, 0, 0), (.goto 4, 36, 0, 0)]
theorem cb_143_14 : z_chk 143 bo_143_14 14 0 [] = true := by decide +kernel
def bo_143_35 : List ZO := [(.iconst 0, 0, 0, 0), (.istore 5, 5, 0, 0)]
theorem cb_143_35 : z_chk 143 bo_143_35 35 38 [] = true := by decide +kernel
def bo_143_36 : List ZO := [(.istore 5, 5, 0, 0)]
theorem cb_143_36 : z_chk 143 bo_143_36 36 38 [] = true := by decide +kernel
def bo_143_38 : List ZO := [(.iload_n 3, 3, 0, 0), (.tableswitch 210 0 9 #[53, 60, 81, 102, 118, 135, 152, 169, 186, 193], 39, 0, 9)]
theorem cb_143_38 : z_chk 143 bo_143_38 38 0 [] = true := by decide +kernel
def bo_143_92 : List ZO := [(.aload_n 0, 0, 0, 0), (.getfield 13, 7, 3, 2), (.iload_n 2, 2, 0, 0), (.iaload, 0, 0, 0), (.ireturn, 0, 0, 0)]
theorem cb_143_92 : z_chk 143 bo_143_92 92 0 [714] = true := by decide +kernel
def bo_143_99 : List ZO := [(.iload 4, 4, 0, 0), (.ifCond .eq 12, 113, 0, 0), (.aload_n 1, 1, 0, 0), (.bipush 67, 67, 0, 0), (.iload_n 2, 2, 0, 0), (.iadd, 0, 0, 0), (.iaload, 0, 0, 0), (.goto 9, 119, 0, 0)]
theorem cb_143_99 : z_chk 143 bo_143_99 99 0 [] = true := by decide +kernel
def bo_143_113 : List ZO := [(.aload_n 0, 0, 0, 0), (.getfield 16, 7, 4, 2), (.iload_n 2, 2, 0, 0), (.iaload, 0, 0, 0), (.ireturn, 0, 0, 0)]
theorem cb_143_113 : z_chk 143 bo_143_113 113 0 [715] = true := by decide +kernel
def bo_143_119 : List ZO := [(.ireturn, 0, 0, 0)]
theorem cb_143_119 : z_chk 143 bo_143_119 119 0 [] = true := by decide +kernel
def bo_143_120 : List ZO := [(.aload_n 0, 0, 0, 0), (.getfield 13, 7, 3, 2), (.iload_n 2, 2, 0, 0), (.iaload, 0, 0, 0), (.iconst 2, 2, 0, 0), (.if_icmp .ne 12, 139, 0, 0), (.aload_n 0, 0, 0, 0), (.getfield 19, 7, 5, 2), (.iload_n 2, 2, 0, 0), (.iaload, 0, 0, 0), (.goto 4, 140, 0, 0)]
theorem cb_143_120 : z_chk 143 bo_143_120 120 0 [714, 716] = true := by decide +kernel
def bo_143_139 : List ZO := [(.iconst 0, 0, 0, 0), (.ireturn, 0, 0, 0)]
theorem cb_143_139 : z_chk 143 bo_143_139 139 0 [] = true := by decide +kernel
def bo_143_140 : List ZO := [(.ireturn, 0, 0, 0)]
theorem cb_143_140 : z_chk 143 bo_143_140 140 0 [] = true := by decide +kernel
def bo_143_141 : List ZO := [(.iload 5, 5, 0, 0), (.ifCond .eq 11, 154, 0, 0), (.aload_n 1, 1, 0, 0), (.iconst 0, 0, 0, 0), (.iload_n 2, 2, 0, 0), (.iadd, 0, 0, 0), (.iaload, 0, 0, 0), (.goto 5, 156, 0, 0)]
theorem cb_143_141 : z_chk 143 bo_143_141 141 0 [] = true := by decide +kernel
def bo_143_154 : List ZO := [(.bipush (-9), 9, 0, 1), (.ireturn, 0, 0, 0)]
theorem cb_143_154 : z_chk 143 bo_143_154 154 0 [] = true := by decide +kernel
def bo_143_156 : List ZO := [(.ireturn, 0, 0, 0)]
theorem cb_143_156 : z_chk 143 bo_143_156 156 0 [] = true := by decide +kernel
def bo_143_157 : List ZO := [(.iload 5, 5, 0, 0), (.ifCond .eq 12, 171, 0, 0), (.aload_n 1, 1, 0, 0), (.bipush 8, 8, 0, 0), (.iload_n 2, 2, 0, 0), (.iadd, 0, 0, 0), (.iaload, 0, 0, 0), (.goto 5, 173, 0, 0)]
theorem cb_143_157 : z_chk 143 bo_143_157 157 0 [] = true := by decide +kernel
def bo_143_171 : List ZO := [(.bipush (-9), 9, 0, 1), (.ireturn, 0, 0, 0)]
theorem cb_143_171 : z_chk 143 bo_143_171 171 0 [] = true := by decide +kernel
def bo_143_173 : List ZO := [(.ireturn, 0, 0, 0)]
theorem cb_143_173 : z_chk 143 bo_143_173 173 0 [] = true := by decide +kernel
def bo_143_174 : List ZO := [(.iload 5, 5, 0, 0), (.ifCond .eq 12, 188, 0, 0), (.aload_n 1, 1, 0, 0), (.bipush 16, 16, 0, 0), (.iload_n 2, 2, 0, 0), (.iadd, 0, 0, 0), (.iaload, 0, 0, 0), (.goto 5, 190, 0, 0)]
theorem cb_143_174 : z_chk 143 bo_143_174 174 0 [] = true := by decide +kernel
def bo_143_188 : List ZO := [(.bipush (-9), 9, 0, 1), (.ireturn, 0, 0, 0)]
theorem cb_143_188 : z_chk 143 bo_143_188 188 0 [] = true := by decide +kernel
def bo_143_190 : List ZO := [(.ireturn, 0, 0, 0)]
theorem cb_143_190 : z_chk 143 bo_143_190 190 0 [] = true := by decide +kernel
def bo_143_191 : List ZO := [(.iload 4, 4, 0, 0), (.ifCond .eq 8, 201, 0, 0), (.bipush (-9), 9, 0, 1), (.goto 9, 207, 0, 0)]
theorem cb_143_191 : z_chk 143 bo_143_191 191 0 [] = true := by decide +kernel
def bo_143_201 : List ZO := [(.aload_n 1, 1, 0, 0), (.bipush 24, 24, 0, 0), (.iload_n 2, 2, 0, 0), (.iadd, 0, 0, 0), (.iaload, 0, 0, 0), (.ireturn, 0, 0, 0)]
theorem cb_143_201 : z_chk 143 bo_143_201 201 0 [] = true := by decide +kernel
def bo_143_207 : List ZO := [(.ireturn, 0, 0, 0)]
theorem cb_143_207 : z_chk 143 bo_143_207 207 0 [] = true := by decide +kernel
def bo_143_208 : List ZO := [(.iload 4, 4, 0, 0), (.ifCond .eq 8, 218, 0, 0), (.bipush (-9), 9, 0, 1), (.goto 9, 224, 0, 0)]
theorem cb_143_208 : z_chk 143 bo_143_208 208 0 [] = true := by decide +kernel
def bo_143_218 : List ZO := [(.aload_n 1, 1, 0, 0), (.bipush 32, 32, 0, 0), (.iload_n 2, 2, 0, 0), (.iadd, 0, 0, 0), (.iaload, 0, 0, 0), (.ireturn, 0, 0, 0)]
theorem cb_143_218 : z_chk 143 bo_143_218 218 0 [] = true := by decide +kernel
def bo_143_224 : List ZO := [(.ireturn, 0, 0, 0)]
theorem cb_143_224 : z_chk 143 bo_143_224 224 0 [] = true := by decide +kernel
def bo_143_225 : List ZO := [(.aload_n 0, 0, 0, 0), (.aload_n 1, 1, 0, 0), (.iload_n 2, 2, 0, 0), (.invokevirtual 213, 137, 3, 8), (.ireturn, 0, 0, 0)]
theorem cb_143_225 : z_chk 143 bo_143_225 225 0 [901] = true := by decide +kernel
def bo_143_232 : List ZO := [(.iload 4, 4, 0, 0), (.ifCond .eq 12, 246, 0, 0), (.aload_n 0, 0, 0, 0), (.aload_n 1, 1, 0, 0), (.iload_n 2, 2, 0, 0), (.invokevirtual 230, 139, 3, 8), (.goto 5, 248, 0, 0)]
theorem cb_143_232 : z_chk 143 bo_143_232 232 0 [924] = true := by decide +kernel
def bo_143_246 : List ZO := [(.bipush (-9), 9, 0, 1), (.ireturn, 0, 0, 0)]
theorem cb_143_246 : z_chk 143 bo_143_246 246 0 [] = true := by decide +kernel
def bo_143_248 : List ZO := [(.ireturn, 0, 0, 0)]
theorem cb_143_248 : z_chk 143 bo_143_248 248 0 [] = true := by decide +kernel
def bo_143_249 : List ZO := [(.bipush (-2), 2, 0, 1), (.ireturn, 0, 0, 0)]
theorem cb_143_249 : z_chk 143 bo_143_249 249 0 [] = true := by decide +kernel
def bk_143 : List (Nat × ZE) := [(0, false, [true, true, true, true, false, false], bo_143_0, 0), (13, false, [true, true, true, true, false, false], bo_143_13, 0), (14, false, [true, true, true, true, false, false], bo_143_14, 0), (35, false, [true, true, true, true, true, false], bo_143_35, 38), (36, false, [true, true, true, true, true, false], bo_143_36, 38), (38, true, [true, true, true, true, true, true], bo_143_38, 0), (92, false, [true, false, true, false, false, false], bo_143_92, 0), (99, false, [true, true, true, false, true, false], bo_143_99, 0), (113, false, [true, false, true, false, false, false], bo_143_113, 0), (119, false, [false, false, false, false, false, false], bo_143_119, 0), (120, false, [true, false, true, false, false, false], bo_143_120, 0), (139, false, [false, false, false, false, false, false], bo_143_139, 0), (140, false, [false, false, false, false, false, false], bo_143_140, 0), (141, false, [false, true, true, false, false, true], bo_143_141, 0), (154, false, [false, false, false, false, false, false], bo_143_154, 0), (156, false, [false, false, false, false, false, false], bo_143_156, 0), (157, false, [false, true, true, false, false, true], bo_143_157, 0), (171, false, [false, false, false, false, false, false], bo_143_171, 0), (173, false, [false, false, false, false, false, false], bo_143_173, 0), (174, false, [false, true, true, false, false, true], bo_143_174, 0), (188, false, [false, false, false, false, false, false], bo_143_188, 0), (190, false, [false, false, false, false, false, false], bo_143_190, 0), (191, false, [false, true, true, false, true, false], bo_143_191, 0), (201, false, [false, true, true, false, false, false], bo_143_201, 0), (207, false, [false, false, false, false, false, false], bo_143_207, 0), (208, false, [false, true, true, false, true, false], bo_143_208, 0), (218, false, [false, true, true, false, false, false], bo_143_218, 0), (224, false, [false, false, false, false, false, false], bo_143_224, 0), (225, false, [true, true, true, false, false, false], bo_143_225, 0), (232, false, [true, true, true, false, true, false], bo_143_232, 0), (246, false, [false, false, false, false, false, false], bo_143_246, 0), (248, false, [false, false, false, false, false, false], bo_143_248, 0), (249, false, [false, false, false, false, false, false], bo_143_249, 0)]
theorem ck_143 : z_chks 143 bk_143 [[714], [], [], [], [], [], [714], [], [715], [], [714, 716], [], [], [], [], [], [], [], [], [], [], [], [], [], [], [], [], [], [901], [924], [], [], []] = true := z_chks_cons cb_143_0 (z_chks_cons cb_143_13 (z_chks_cons cb_143_14 (z_chks_cons cb_143_35 (z_chks_cons cb_143_36 (z_chks_cons cb_143_38 (z_chks_cons cb_143_92 (z_chks_cons cb_143_99 (z_chks_cons cb_143_113 (z_chks_cons cb_143_119 (z_chks_cons cb_143_120 (z_chks_cons cb_143_139 (z_chks_cons cb_143_140 (z_chks_cons cb_143_141 (z_chks_cons cb_143_154 (z_chks_cons cb_143_156 (z_chks_cons cb_143_157 (z_chks_cons cb_143_171 (z_chks_cons cb_143_173 (z_chks_cons cb_143_174 (z_chks_cons cb_143_188 (z_chks_cons cb_143_190 (z_chks_cons cb_143_191 (z_chks_cons cb_143_201 (z_chks_cons cb_143_207 (z_chks_cons cb_143_208 (z_chks_cons cb_143_218 (z_chks_cons cb_143_224 (z_chks_cons cb_143_225 (z_chks_cons cb_143_232 (z_chks_cons cb_143_246 (z_chks_cons cb_143_248 (z_chks_cons cb_143_249 (z_chks_nil)))))))))))))))))))))))))))))))))
theorem bf_143_0 : z_fd bk_143 0 = some (false, [true, true, true, true, false, false], bo_143_0, 0) := rfl
theorem bf_143_13 : z_fd bk_143 13 = some (false, [true, true, true, true, false, false], bo_143_13, 0) := rfl
theorem bf_143_14 : z_fd bk_143 14 = some (false, [true, true, true, true, false, false], bo_143_14, 0) := rfl
theorem bf_143_35 : z_fd bk_143 35 = some (false, [true, true, true, true, true, false], bo_143_35, 38) := rfl
theorem bf_143_36 : z_fd bk_143 36 = some (false, [true, true, true, true, true, false], bo_143_36, 38) := rfl
theorem bf_143_38 : z_fd bk_143 38 = some (true, [true, true, true, true, true, true], bo_143_38, 0) := rfl
theorem bf_143_92 : z_fd bk_143 92 = some (false, [true, false, true, false, false, false], bo_143_92, 0) := rfl
theorem bf_143_99 : z_fd bk_143 99 = some (false, [true, true, true, false, true, false], bo_143_99, 0) := rfl
theorem bf_143_113 : z_fd bk_143 113 = some (false, [true, false, true, false, false, false], bo_143_113, 0) := rfl
theorem bf_143_119 : z_fd bk_143 119 = some (false, [false, false, false, false, false, false], bo_143_119, 0) := rfl
theorem bf_143_120 : z_fd bk_143 120 = some (false, [true, false, true, false, false, false], bo_143_120, 0) := rfl
theorem bf_143_139 : z_fd bk_143 139 = some (false, [false, false, false, false, false, false], bo_143_139, 0) := rfl
theorem bf_143_140 : z_fd bk_143 140 = some (false, [false, false, false, false, false, false], bo_143_140, 0) := rfl
theorem bf_143_141 : z_fd bk_143 141 = some (false, [false, true, true, false, false, true], bo_143_141, 0) := rfl
theorem bf_143_154 : z_fd bk_143 154 = some (false, [false, false, false, false, false, false], bo_143_154, 0) := rfl
theorem bf_143_156 : z_fd bk_143 156 = some (false, [false, false, false, false, false, false], bo_143_156, 0) := rfl
theorem bf_143_157 : z_fd bk_143 157 = some (false, [false, true, true, false, false, true], bo_143_157, 0) := rfl
theorem bf_143_171 : z_fd bk_143 171 = some (false, [false, false, false, false, false, false], bo_143_171, 0) := rfl
theorem bf_143_173 : z_fd bk_143 173 = some (false, [false, false, false, false, false, false], bo_143_173, 0) := rfl
theorem bf_143_174 : z_fd bk_143 174 = some (false, [false, true, true, false, false, true], bo_143_174, 0) := rfl
theorem bf_143_188 : z_fd bk_143 188 = some (false, [false, false, false, false, false, false], bo_143_188, 0) := rfl
theorem bf_143_190 : z_fd bk_143 190 = some (false, [false, false, false, false, false, false], bo_143_190, 0) := rfl
theorem bf_143_191 : z_fd bk_143 191 = some (false, [false, true, true, false, true, false], bo_143_191, 0) := rfl
theorem bf_143_201 : z_fd bk_143 201 = some (false, [false, true, true, false, false, false], bo_143_201, 0) := rfl
theorem bf_143_207 : z_fd bk_143 207 = some (false, [false, false, false, false, false, false], bo_143_207, 0) := rfl
theorem bf_143_208 : z_fd bk_143 208 = some (false, [false, true, true, false, true, false], bo_143_208, 0) := rfl
theorem bf_143_218 : z_fd bk_143 218 = some (false, [false, true, true, false, false, false], bo_143_218, 0) := rfl
theorem bf_143_224 : z_fd bk_143 224 = some (false, [false, false, false, false, false, false], bo_143_224, 0) := rfl
theorem bf_143_225 : z_fd bk_143 225 = some (false, [true, true, true, false, false, false], bo_143_225, 0) := rfl
theorem bf_143_232 : z_fd bk_143 232 = some (false, [true, true, true, false, true, false], bo_143_232, 0) := rfl
theorem bf_143_246 : z_fd bk_143 246 = some (false, [false, false, false, false, false, false], bo_143_246, 0) := rfl
theorem bf_143_248 : z_fd bk_143 248 = some (false, [false, false, false, false, false, false], bo_143_248, 0) := rfl
theorem bf_143_249 : z_fd bk_143 249 = some (false, [false, false, false, false, false, false], bo_143_249, 0) := rfl
theorem cl_143 : z_mL 143 = 6 := by decide +kernel
theorem cz_143 : plainFor (z_my 143) = true ∧ ((z_rm 143).cells = 0 ∧ (z_rm 143).slots = 0) := by decide +kernel
-- 144 Model_node
def bo_144_0 : List ZO := [(.aload_n 0, 0, 0, 0), (.iload_n 1, 1, 0, 0), (.invokevirtual 106, 109, 2, 8), (.ifCond .eq 16, 21, 0, 0), (.aload_n 0, 0, 0, 0), (.aload_n 0, 0, 0, 0), (.getfield 31, 7, 10, 2), (.iload_n 1, 1, 0, 0), (.iload_n 2, 2, 0, 0), (.invokevirtual 233, 143, 4, 8), (.goto 4, 22, 0, 0)]
def bo_144_21 : List ZO := [(.iconst (-1), 1, 0, 1), (.ireturn, 0, 0, 0)]
def bo_144_22 : List ZO := [(.ireturn, 0, 0, 0)]
def bk_144 : List (Nat × ZE) := [(0, false, [true, true, true], bo_144_0, 0), (21, false, [false, false, false], bo_144_21, 0), (22, false, [false, false, false], bo_144_22, 0)]
theorem ck_144 : z_chks 144 bk_144 [[916, 721, 920], [], []] = true := by decide +kernel
theorem bf_144_0 : z_fd bk_144 0 = some (false, [true, true, true], bo_144_0, 0) := rfl
theorem bf_144_21 : z_fd bk_144 21 = some (false, [false, false, false], bo_144_21, 0) := rfl
theorem bf_144_22 : z_fd bk_144 22 = some (false, [false, false, false], bo_144_22, 0) := rfl
theorem cl_144 : z_mL 144 = 3 := by decide +kernel
theorem cz_144 : plainFor (z_my 144) = true ∧ ((z_rm 144).cells = 0 ∧ (z_rm 144).slots = 0) := by decide +kernel
-- 145 Model_link
def bo_145_0 : List ZO := [(.aload_n 0, 0, 0, 0), (.iload_n 1, 1, 0, 0), (.invokevirtual 236, 111, 2, 8), (.ifCond .ne 5, 10, 0, 0), (.iconst (-1), 1, 0, 1), (.ireturn, 0, 0, 0)]
theorem cb_145_0 : z_chk 145 bo_145_0 0 0 [932] = true := by decide +kernel
def bo_145_10 : List ZO := [(.iload_n 2, 2, 0, 0), (.tableswitch 102 0 6 #[41, 48, 55, 65, 75, 82, 92], 11, 0, 6)]
theorem cb_145_10 : z_chk 145 bo_145_10 10 0 [] = true := by decide +kernel
def bo_145_52 : List ZO := [(.aload_n 0, 0, 0, 0), (.getfield 22, 7, 7, 2), (.iload_n 1, 1, 0, 0), (.iaload, 0, 0, 0), (.ireturn, 0, 0, 0)]
theorem cb_145_52 : z_chk 145 bo_145_52 52 0 [718] = true := by decide +kernel
def bo_145_59 : List ZO := [(.aload_n 0, 0, 0, 0), (.getfield 25, 7, 8, 2), (.iload_n 1, 1, 0, 0), (.iaload, 0, 0, 0), (.ireturn, 0, 0, 0)]
theorem cb_145_59 : z_chk 145 bo_145_59 59 0 [719] = true := by decide +kernel
def bo_145_66 : List ZO := [(.aload_n 0, 0, 0, 0), (.getfield 31, 7, 10, 2), (.bipush 40, 40, 0, 0), (.iload_n 1, 1, 0, 0), (.iadd, 0, 0, 0), (.iaload, 0, 0, 0), (.ireturn, 0, 0, 0)]
theorem cb_145_66 : z_chk 145 bo_145_66 66 0 [721] = true := by decide +kernel
def bo_145_76 : List ZO := [(.aload_n 0, 0, 0, 0), (.getfield 31, 7, 10, 2), (.bipush 49, 49, 0, 0), (.iload_n 1, 1, 0, 0), (.iadd, 0, 0, 0), (.iaload, 0, 0, 0), (.ireturn, 0, 0, 0)]
theorem cb_145_76 : z_chk 145 bo_145_76 76 0 [721] = true := by decide +kernel
def bo_145_86 : List ZO := [(.aload_n 0, 0, 0, 0), (.getfield 28, 7, 9, 2), (.iload_n 1, 1, 0, 0), (.iaload, 0, 0, 0), (.ireturn, 0, 0, 0)]
theorem cb_145_86 : z_chk 145 bo_145_86 86 0 [720] = true := by decide +kernel
def bo_145_93 : List ZO := [(.aload_n 0, 0, 0, 0), (.aload_n 0, 0, 0, 0), (.getfield 31, 7, 10, 2), (.iload_n 1, 1, 0, 0), (.invokevirtual 183, 125, 3, 8), (.ireturn, 0, 0, 0)]
theorem cb_145_93 : z_chk 145 bo_145_93 93 0 [721, 936] = true := by decide +kernel
def bo_145_103 : List ZO := [(.aload_n 0, 0, 0, 0), (.getfield 31, 7, 10, 2), (.bipush 58, 58, 0, 0), (.iload_n 1, 1, 0, 0), (.iadd, 0, 0, 0), (.iaload, 0, 0, 0), (.ireturn, 0, 0, 0)]
theorem cb_145_103 : z_chk 145 bo_145_103 103 0 [721] = true := by decide +kernel
def bo_145_113 : List ZO := [(.bipush (-2), 2, 0, 1), (.ireturn, 0, 0, 0)]
theorem cb_145_113 : z_chk 145 bo_145_113 113 0 [] = true := by decide +kernel
def bk_145 : List (Nat × ZE) := [(0, false, [true, true, true], bo_145_0, 0), (10, false, [true, true, true], bo_145_10, 0), (52, false, [true, true, false], bo_145_52, 0), (59, false, [true, true, false], bo_145_59, 0), (66, false, [true, true, false], bo_145_66, 0), (76, false, [true, true, false], bo_145_76, 0), (86, false, [true, true, false], bo_145_86, 0), (93, false, [true, true, false], bo_145_93, 0), (103, false, [true, true, false], bo_145_103, 0), (113, false, [false, false, false], bo_145_113, 0)]
theorem ck_145 : z_chks 145 bk_145 [[932], [], [718], [719], [721], [721], [720], [721, 936], [721], []] = true := z_chks_cons cb_145_0 (z_chks_cons cb_145_10 (z_chks_cons cb_145_52 (z_chks_cons cb_145_59 (z_chks_cons cb_145_66 (z_chks_cons cb_145_76 (z_chks_cons cb_145_86 (z_chks_cons cb_145_93 (z_chks_cons cb_145_103 (z_chks_cons cb_145_113 (z_chks_nil))))))))))
theorem bf_145_0 : z_fd bk_145 0 = some (false, [true, true, true], bo_145_0, 0) := rfl
theorem bf_145_10 : z_fd bk_145 10 = some (false, [true, true, true], bo_145_10, 0) := rfl
theorem bf_145_52 : z_fd bk_145 52 = some (false, [true, true, false], bo_145_52, 0) := rfl
theorem bf_145_59 : z_fd bk_145 59 = some (false, [true, true, false], bo_145_59, 0) := rfl
theorem bf_145_66 : z_fd bk_145 66 = some (false, [true, true, false], bo_145_66, 0) := rfl
theorem bf_145_76 : z_fd bk_145 76 = some (false, [true, true, false], bo_145_76, 0) := rfl
theorem bf_145_86 : z_fd bk_145 86 = some (false, [true, true, false], bo_145_86, 0) := rfl
theorem bf_145_93 : z_fd bk_145 93 = some (false, [true, true, false], bo_145_93, 0) := rfl
theorem bf_145_103 : z_fd bk_145 103 = some (false, [true, true, false], bo_145_103, 0) := rfl
theorem bf_145_113 : z_fd bk_145 113 = some (false, [false, false, false], bo_145_113, 0) := rfl
theorem cl_145 : z_mL 145 = 3 := by decide +kernel
theorem cz_145 : plainFor (z_my 145) = true ∧ ((z_rm 145).cells = 0 ∧ (z_rm 145).slots = 0) := by decide +kernel
-- 146 Model_noTwo
def bo_146_0 : List ZO := [(.aload_n 0, 0, 0, 0), (.iload_n 1, 1, 0, 0), (.invokevirtual 106, 109, 2, 8), (.ifCond .eq 11, 16, 0, 0), (.aload_n 0, 0, 0, 0), (.iload_n 2, 2, 0, 0), (.invokevirtual 106, 109, 2, 8), (.ifCond .ne 5, 18, 0, 0), (.iconst (-1), 1, 0, 1), (.ireturn, 0, 0, 0)]
def bo_146_16 : List ZO := [(.iconst (-1), 1, 0, 1), (.ireturn, 0, 0, 0)]
def bo_146_18 : List ZO := [(.iload_n 1, 1, 0, 0), (.iload_n 2, 2, 0, 0), (.if_icmp .eq 12, 32, 0, 0), (.aload_n 0, 0, 0, 0), (.getfield 13, 7, 3, 2), (.iload_n 2, 2, 0, 0), (.iaload, 0, 0, 0), (.ifCond .ne 8, 37, 0, 0), (.bipush (-2), 2, 0, 1), (.goto 4, 38, 0, 0)]
def bo_146_32 : List ZO := [(.bipush (-2), 2, 0, 1), (.goto 4, 38, 0, 0)]
def bo_146_37 : List ZO := [(.iconst 0, 0, 0, 0), (.ireturn, 0, 0, 0)]
def bo_146_38 : List ZO := [(.ireturn, 0, 0, 0)]
def bk_146 : List (Nat × ZE) := [(0, false, [true, true, true], bo_146_0, 0), (16, false, [false, false, false], bo_146_16, 0), (18, false, [true, true, true], bo_146_18, 0), (32, false, [false, false, false], bo_146_32, 0), (37, false, [false, false, false], bo_146_37, 0), (38, false, [false, false, false], bo_146_38, 0)]
theorem ck_146 : z_chks 146 bk_146 [[916, 916], [], [714], [], [], []] = true := by decide +kernel
theorem bf_146_0 : z_fd bk_146 0 = some (false, [true, true, true], bo_146_0, 0) := rfl
theorem bf_146_16 : z_fd bk_146 16 = some (false, [false, false, false], bo_146_16, 0) := rfl
theorem bf_146_18 : z_fd bk_146 18 = some (false, [true, true, true], bo_146_18, 0) := rfl
theorem bf_146_32 : z_fd bk_146 32 = some (false, [false, false, false], bo_146_32, 0) := rfl
theorem bf_146_37 : z_fd bk_146 37 = some (false, [false, false, false], bo_146_37, 0) := rfl
theorem bf_146_38 : z_fd bk_146 38 = some (false, [false, false, false], bo_146_38, 0) := rfl
theorem cl_146 : z_mL 146 = 3 := by decide +kernel
theorem cz_146 : plainFor (z_my 146) = true ∧ ((z_rm 146).cells = 0 ∧ (z_rm 146).slots = 0) := by decide +kernel
-- 147 Model_price
def bo_147_0 : List ZO := [(.aload_n 0, 0, 0, 0), (.iload_n 1, 1, 0, 0), (.iload_n 2, 2, 0, 0), (.invokevirtual 239, 146, 3, 8), (.istore_n 3, 3, 0, 0), (.iload_n 3, 3, 0, 0), (.ifCond .eq 7, 15, 0, 0), (.iload_n 3, 3, 0, 0), (.goto 13, 25, 0, 0)]
def bo_147_15 : List ZO := [(.aload_n 0, 0, 0, 0), (.aload_n 0, 0, 0, 0), (.getfield 31, 7, 10, 2), (.iload_n 1, 1, 0, 0), (.iload_n 2, 2, 0, 0), (.invokevirtual 189, 130, 4, 8), (.ireturn, 0, 0, 0)]
def bo_147_25 : List ZO := [(.ireturn, 0, 0, 0)]
def bk_147 : List (Nat × ZE) := [(0, false, [true, true, true, false], bo_147_0, 0), (15, false, [true, true, true, false], bo_147_15, 0), (25, false, [false, false, false, false], bo_147_25, 0)]
theorem ck_147 : z_chks 147 bk_147 [[944], [721, 948], []] = true := by decide +kernel
theorem bf_147_0 : z_fd bk_147 0 = some (false, [true, true, true, false], bo_147_0, 0) := rfl
theorem bf_147_15 : z_fd bk_147 15 = some (false, [true, true, true, false], bo_147_15, 0) := rfl
theorem bf_147_25 : z_fd bk_147 25 = some (false, [false, false, false, false], bo_147_25, 0) := rfl
theorem cl_147 : z_mL 147 = 4 := by decide +kernel
theorem cz_147 : plainFor (z_my 147) = true ∧ ((z_rm 147).cells = 0 ∧ (z_rm 147).slots = 0) := by decide +kernel
-- 148 Model_safe
def bo_148_0 : List ZO := [(.aload_n 0, 0, 0, 0), (.iload_n 1, 1, 0, 0), (.iload_n 2, 2, 0, 0), (.invokevirtual 239, 146, 3, 8), (.istore_n 3, 3, 0, 0), (.iload_n 3, 3, 0, 0), (.ifCond .eq 5, 13, 0, 0), (.iload_n 3, 3, 0, 0), (.ireturn, 0, 0, 0)]
def bo_148_13 : List ZO := [(.aload_n 0, 0, 0, 0), (.aload_n 0, 0, 0, 0), (.getfield 31, 7, 10, 2), (.iload_n 1, 1, 0, 0), (.iload_n 2, 2, 0, 0), (.invokevirtual 189, 130, 4, 8), (.bipush (-9), 9, 0, 1), (.if_icmp .ne 8, 33, 0, 0), (.bipush (-9), 9, 0, 1), (.goto 21, 51, 0, 0)]
def bo_148_33 : List ZO := [(.aload_n 0, 0, 0, 0), (.aload_n 0, 0, 0, 0), (.getfield 31, 7, 10, 2), (.iload_n 1, 1, 0, 0), (.iload_n 2, 2, 0, 0), (.invokevirtual 192, 131, 4, 8), (.ifCond .eq 7, 50, 0, 0), (.iconst 1, 1, 0, 0), (.goto 4, 51, 0, 0)]
def bo_148_50 : List ZO := [(.iconst 0, 0, 0, 0), (.ireturn, 0, 0, 0)]
def bo_148_51 : List ZO := [(.ireturn, 0, 0, 0)]
def bk_148 : List (Nat × ZE) := [(0, false, [true, true, true, false], bo_148_0, 0), (13, false, [true, true, true, false], bo_148_13, 0), (33, false, [true, true, true, false], bo_148_33, 0), (50, false, [false, false, false, false], bo_148_50, 0), (51, false, [false, false, false, false], bo_148_51, 0)]
theorem ck_148 : z_chks 148 bk_148 [[944], [721, 948], [721, 968], [], []] = true := by decide +kernel
theorem bf_148_0 : z_fd bk_148 0 = some (false, [true, true, true, false], bo_148_0, 0) := rfl
theorem bf_148_13 : z_fd bk_148 13 = some (false, [true, true, true, false], bo_148_13, 0) := rfl
theorem bf_148_33 : z_fd bk_148 33 = some (false, [true, true, true, false], bo_148_33, 0) := rfl
theorem bf_148_50 : z_fd bk_148 50 = some (false, [false, false, false, false], bo_148_50, 0) := rfl
theorem bf_148_51 : z_fd bk_148 51 = some (false, [false, false, false, false], bo_148_51, 0) := rfl
theorem cl_148 : z_mL 148 = 4 := by decide +kernel
theorem cz_148 : plainFor (z_my 148) = true ∧ ((z_rm 148).cells = 0 ∧ (z_rm 148).slots = 0) := by decide +kernel
-- 149 Model_note
def bo_149_0 : List ZO := [(.iconst 0, 0, 0, 0), (.istore_n 1, 1, 0, 0)]
def bo_149_2 : List ZO := [(.iload_n 1, 1, 0, 0), (.bipush 78, 78, 0, 0), (.if_icmp .ge 29, 34, 0, 0), (.aload_n 0, 0, 0, 0), (.getfield 40, 7, 13, 2), (.bipush 78, 78, 0, 0), (.aload_n 0, 0, 0, 0), (.getfield 243, 7, 15, 0), (.imul, 0, 0, 0), (.iload_n 1, 1, 0, 0), (.iadd, 0, 0, 0), (.aload_n 0, 0, 0, 0), (.getfield 31, 7, 10, 2), (.iload_n 1, 1, 0, 0), (.iaload, 0, 0, 0), (.iastore, 0, 0, 0), (.iinc 1 1, 1, 1, 0), (.goto (-29), 2, 0, 0)]
def bo_149_34 : List ZO := [(.aload_n 0, 0, 0, 0), (.aload_n 0, 0, 0, 0), (.getfield 243, 7, 15, 0), (.iconst 1, 1, 0, 0), (.iadd, 0, 0, 0), (.bipush 14, 14, 0, 0), (.irem, 0, 0, 0), (.putfield 243, 7, 15, 0), (.aload_n 0, 0, 0, 0), (.aload_n 0, 0, 0, 0), (.getfield 165, 7, 14, 0), (.bipush 14, 14, 0, 0), (.if_icmp .ge 12, 66, 0, 0), (.aload_n 0, 0, 0, 0), (.getfield 165, 7, 14, 0), (.iconst 1, 1, 0, 0), (.iadd, 0, 0, 0), (.goto 5, 68, 0, 0)]
def bo_149_66 : List ZO := [(.bipush 14, 14, 0, 0), (.putfield 165, 7, 14, 0), (.return_, 0, 0, 0)]
def bo_149_68 : List ZO := [(.putfield 165, 7, 14, 0), (.return_, 0, 0, 0)]
def bk_149 : List (Nat × ZE) := [(0, false, [true, false], bo_149_0, 2), (2, true, [true, true], bo_149_2, 0), (34, false, [true, false], bo_149_34, 0), (66, false, [false, false], bo_149_66, 0), (68, false, [false, false], bo_149_68, 0)]
theorem ck_149 : z_chks 149 bk_149 [[], [724, 726, 721], [726, 726, 725, 725], [725], [725]] = true := by decide +kernel
theorem bf_149_0 : z_fd bk_149 0 = some (false, [true, false], bo_149_0, 2) := rfl
theorem bf_149_2 : z_fd bk_149 2 = some (true, [true, true], bo_149_2, 0) := rfl
theorem bf_149_34 : z_fd bk_149 34 = some (false, [true, false], bo_149_34, 0) := rfl
theorem bf_149_66 : z_fd bk_149 66 = some (false, [false, false], bo_149_66, 0) := rfl
theorem bf_149_68 : z_fd bk_149 68 = some (false, [false, false], bo_149_68, 0) := rfl
theorem cl_149 : z_mL 149 = 2 := by decide +kernel
theorem cz_149 : plainFor (z_my 149) = true ∧ ((z_rm 149).cells = 0 ∧ (z_rm 149).slots = 0) := by decide +kernel
-- 150 Model_round
def bo_150_0 : List ZO := [(.iload_n 1, 1, 0, 0), (.i2l, 0, 0, 0), (.lconst 1, 1, 0, 0), (.ldc2_w 246, 99, 0, 0), (.invokestatic 102, 103, 3, 0), (.ifCond .ne 6, 15, 0, 0), (.bipush (-2), 2, 0, 1), (.ireturn, 0, 0, 0)]
def bo_150_15 : List ZO := [(.aload_n 0, 0, 0, 0), (.invokevirtual 248, 149, 1, 8), (.iconst 0, 0, 0, 0), (.istore_n 2, 2, 0, 0)]
def bo_150_21 : List ZO := [(.iload_n 2, 2, 0, 0), (.iload_n 1, 1, 0, 0), (.if_icmp .ge 17, 40, 0, 0), (.aload_n 0, 0, 0, 0), (.aload_n 0, 0, 0, 0), (.getfield 31, 7, 10, 2), (.invokevirtual 209, 135, 2, 8), (.iinc 2 1, 1, 2, 0), (.goto (-16), 21, 0, 0)]
def bo_150_40 : List ZO := [(.aload_n 0, 0, 0, 0), (.aload_n 0, 0, 0, 0), (.getfield 31, 7, 10, 2), (.invokevirtual 220, 138, 2, 8), (.invokestatic 251, 105, 1, 0), (.ireturn, 0, 0, 0)]
def bk_150 : List (Nat × ZE) := [(0, false, [true, true, false], bo_150_0, 0), (15, false, [true, true, false], bo_150_15, 21), (21, true, [true, true, true], bo_150_21, 0), (40, false, [true, false, false], bo_150_40, 0)]
theorem ck_150 : z_chks 150 bk_150 [[980, 837], [981], [721, 985], [721, 897, 1004]] = true := by decide +kernel
theorem bf_150_0 : z_fd bk_150 0 = some (false, [true, true, false], bo_150_0, 0) := rfl
theorem bf_150_15 : z_fd bk_150 15 = some (false, [true, true, false], bo_150_15, 21) := rfl
theorem bf_150_21 : z_fd bk_150 21 = some (true, [true, true, true], bo_150_21, 0) := rfl
theorem bf_150_40 : z_fd bk_150 40 = some (false, [true, false, false], bo_150_40, 0) := rfl
theorem cl_150 : z_mL 150 = 3 := by decide +kernel
theorem cz_150 : plainFor (z_my 150) = true ∧ ((z_rm 150).cells = 0 ∧ (z_rm 150).slots = 0) := by decide +kernel
-- 151 Model_turn
def bo_151_0 : List ZO := [(.aload_n 0, 0, 0, 0), (.iload_n 1, 1, 0, 0), (.invokevirtual 236, 111, 2, 8), (.ifCond .ne 5, 10, 0, 0), (.iconst (-1), 1, 0, 1), (.ireturn, 0, 0, 0)]
def bo_151_10 : List ZO := [(.aload_n 0, 0, 0, 0), (.invokevirtual 248, 149, 1, 8), (.aload_n 0, 0, 0, 0), (.getfield 31, 7, 10, 2), (.bipush 58, 58, 0, 0), (.iload_n 1, 1, 0, 0), (.iadd, 0, 0, 0), (.iconst 1, 1, 0, 0), (.aload_n 0, 0, 0, 0), (.getfield 31, 7, 10, 2), (.bipush 58, 58, 0, 0), (.iload_n 1, 1, 0, 0), (.iadd, 0, 0, 0), (.iaload, 0, 0, 0), (.isub, 0, 0, 0), (.iastore, 0, 0, 0), (.aload_n 0, 0, 0, 0), (.getfield 31, 7, 10, 2), (.bipush 58, 58, 0, 0), (.iload_n 1, 1, 0, 0), (.iadd, 0, 0, 0), (.iaload, 0, 0, 0), (.ireturn, 0, 0, 0)]
def bk_151 : List (Nat × ZE) := [(0, false, [true, true], bo_151_0, 0), (10, false, [true, true], bo_151_10, 0)]
theorem ck_151 : z_chks 151 bk_151 [[932], [981, 721, 721, 721]] = true := by decide +kernel
theorem bf_151_0 : z_fd bk_151 0 = some (false, [true, true], bo_151_0, 0) := rfl
theorem bf_151_10 : z_fd bk_151 10 = some (false, [true, true], bo_151_10, 0) := rfl
theorem cl_151 : z_mL 151 = 2 := by decide +kernel
theorem cz_151 : plainFor (z_my 151) = true ∧ ((z_rm 151).cells = 0 ∧ (z_rm 151).slots = 0) := by decide +kernel
-- 152 Model_lose
def bo_152_0 : List ZO := [(.aload_n 0, 0, 0, 0), (.iload_n 1, 1, 0, 0), (.invokevirtual 236, 111, 2, 8), (.ifCond .ne 5, 10, 0, 0), (.iconst (-1), 1, 0, 1), (.ireturn, 0, 0, 0)]
def bo_152_10 : List ZO := [(.iload_n 3, 3, 0, 0), (.i2l, 0, 0, 0), (.lconst 0, 0, 0, 0), (.ldc2_w 141, 9, 0, 0), (.invokestatic 102, 103, 3, 0), (.ifCond .ne 6, 25, 0, 0), (.bipush (-2), 2, 0, 1), (.ireturn, 0, 0, 0)]
def bo_152_25 : List ZO := [(.aload_n 0, 0, 0, 0), (.invokevirtual 248, 149, 1, 8), (.aload_n 0, 0, 0, 0), (.getfield 31, 7, 10, 2), (.iload_n 2, 2, 0, 0), (.ifCond .eq 8, 42, 0, 0), (.bipush 49, 49, 0, 0), (.goto 5, 44, 0, 0)]
def bo_152_42 : List ZO := [(.bipush 40, 40, 0, 0), (.iload_n 1, 1, 0, 0), (.iadd, 0, 0, 0), (.iload_n 3, 3, 0, 0), (.iastore, 0, 0, 0), (.aload_n 0, 0, 0, 0), (.aload_n 0, 0, 0, 0), (.getfield 31, 7, 10, 2), (.iload_n 1, 1, 0, 0), (.invokevirtual 183, 125, 3, 8), (.ireturn, 0, 0, 0)]
def bo_152_44 : List ZO := [(.iload_n 1, 1, 0, 0), (.iadd, 0, 0, 0), (.iload_n 3, 3, 0, 0), (.iastore, 0, 0, 0), (.aload_n 0, 0, 0, 0), (.aload_n 0, 0, 0, 0), (.getfield 31, 7, 10, 2), (.iload_n 1, 1, 0, 0), (.invokevirtual 183, 125, 3, 8), (.ireturn, 0, 0, 0)]
def bk_152 : List (Nat × ZE) := [(0, false, [true, true, true, true], bo_152_0, 0), (10, false, [true, true, true, true], bo_152_10, 0), (25, false, [true, true, true, true], bo_152_25, 0), (42, false, [true, true, false, true], bo_152_42, 0), (44, false, [true, true, false, true], bo_152_44, 0)]
theorem ck_152 : z_chks 152 bk_152 [[932], [872, 837], [981, 721], [721, 936], [721, 936]] = true := by decide +kernel
theorem bf_152_0 : z_fd bk_152 0 = some (false, [true, true, true, true], bo_152_0, 0) := rfl
theorem bf_152_10 : z_fd bk_152 10 = some (false, [true, true, true, true], bo_152_10, 0) := rfl
theorem bf_152_25 : z_fd bk_152 25 = some (false, [true, true, true, true], bo_152_25, 0) := rfl
theorem bf_152_42 : z_fd bk_152 42 = some (false, [true, true, false, true], bo_152_42, 0) := rfl
theorem bf_152_44 : z_fd bk_152 44 = some (false, [true, true, false, true], bo_152_44, 0) := rfl
theorem cl_152 : z_mL 152 = 4 := by decide +kernel
theorem cz_152 : plainFor (z_my 152) = true ∧ ((z_rm 152).cells = 0 ∧ (z_rm 152).slots = 0) := by decide +kernel
-- 153 Model_offset
def bo_153_0 : List ZO := [(.aload_n 0, 0, 0, 0), (.iload_n 1, 1, 0, 0), (.invokevirtual 254, 110, 2, 8), (.ifCond .ne 5, 10, 0, 0), (.iconst (-1), 1, 0, 1), (.ireturn, 0, 0, 0)]
def bo_153_10 : List ZO := [(.iload_n 2, 2, 0, 0), (.i2l, 0, 0, 0), (.lconst 0, 0, 0, 0), (.ldc2_w 141, 9, 0, 0), (.invokestatic 102, 103, 3, 0), (.ifCond .ne 6, 25, 0, 0), (.bipush (-2), 2, 0, 1), (.ireturn, 0, 0, 0)]
def bo_153_25 : List ZO := [(.aload_n 0, 0, 0, 0), (.invokevirtual 248, 149, 1, 8), (.aload_n 0, 0, 0, 0), (.getfield 31, 7, 10, 2), (.bipush 67, 67, 0, 0), (.iload_n 1, 1, 0, 0), (.iadd, 0, 0, 0), (.iaload, 0, 0, 0), (.istore_n 3, 3, 0, 0), (.aload_n 0, 0, 0, 0), (.getfield 31, 7, 10, 2), (.bipush 67, 67, 0, 0), (.iload_n 1, 1, 0, 0), (.iadd, 0, 0, 0), (.iload_n 2, 2, 0, 0), (.iastore, 0, 0, 0), (.iload_n 3, 3, 0, 0), (.ireturn, 0, 0, 0)]
def bk_153 : List (Nat × ZE) := [(0, false, [true, true, true, false], bo_153_0, 0), (10, false, [true, true, true, false], bo_153_10, 0), (25, false, [true, true, true, false], bo_153_25, 0)]
theorem ck_153 : z_chks 153 bk_153 [[1019], [872, 837], [981, 721, 721]] = true := by decide +kernel
theorem bf_153_0 : z_fd bk_153 0 = some (false, [true, true, true, false], bo_153_0, 0) := rfl
theorem bf_153_10 : z_fd bk_153 10 = some (false, [true, true, true, false], bo_153_10, 0) := rfl
theorem bf_153_25 : z_fd bk_153 25 = some (false, [true, true, true, false], bo_153_25, 0) := rfl
theorem cl_153 : z_mL 153 = 4 := by decide +kernel
theorem cz_153 : plainFor (z_my 153) = true ∧ ((z_rm 153).cells = 0 ∧ (z_rm 153).slots = 0) := by decide +kernel
-- 154 Model_margin
def bo_154_0 : List ZO := [(.iload_n 1, 1, 0, 0), (.i2l, 0, 0, 0), (.lconst 0, 0, 0, 0), (.ldc2_w 141, 9, 0, 0), (.invokestatic 102, 103, 3, 0), (.ifCond .ne 6, 15, 0, 0), (.bipush (-2), 2, 0, 1), (.ireturn, 0, 0, 0)]
def bo_154_15 : List ZO := [(.aload_n 0, 0, 0, 0), (.invokevirtual 248, 149, 1, 8), (.aload_n 0, 0, 0, 0), (.getfield 31, 7, 10, 2), (.bipush 75, 75, 0, 0), (.iaload, 0, 0, 0), (.istore_n 2, 2, 0, 0), (.aload_n 0, 0, 0, 0), (.getfield 31, 7, 10, 2), (.bipush 75, 75, 0, 0), (.iload_n 1, 1, 0, 0), (.iastore, 0, 0, 0), (.iload_n 2, 2, 0, 0), (.ireturn, 0, 0, 0)]
def bk_154 : List (Nat × ZE) := [(0, false, [true, true, false], bo_154_0, 0), (15, false, [true, true, false], bo_154_15, 0)]
theorem ck_154 : z_chks 154 bk_154 [[872, 837], [981, 721, 721]] = true := by decide +kernel
theorem bf_154_0 : z_fd bk_154 0 = some (false, [true, true, false], bo_154_0, 0) := rfl
theorem bf_154_15 : z_fd bk_154 15 = some (false, [true, true, false], bo_154_15, 0) := rfl
theorem cl_154 : z_mL 154 = 3 := by decide +kernel
theorem cz_154 : plainFor (z_my 154) = true ∧ ((z_rm 154).cells = 0 ∧ (z_rm 154).slots = 0) := by decide +kernel
-- 155 Model_undo
def bo_155_0 : List ZO := [(.aload_n 0, 0, 0, 0), (.getfield 165, 7, 14, 0), (.ifCond .ne 6, 10, 0, 0), (.bipush (-3), 3, 0, 1), (.ireturn, 0, 0, 0)]
def bo_155_10 : List ZO := [(.aload_n 0, 0, 0, 0), (.dup, 0, 0, 0), (.getfield 165, 7, 14, 0), (.iconst 1, 1, 0, 0), (.isub, 0, 0, 0), (.putfield 165, 7, 14, 0), (.aload_n 0, 0, 0, 0), (.aload_n 0, 0, 0, 0), (.getfield 243, 7, 15, 0), (.bipush 14, 14, 0, 0), (.iadd, 0, 0, 0), (.iconst 1, 1, 0, 0), (.isub, 0, 0, 0), (.bipush 14, 14, 0, 0), (.irem, 0, 0, 0), (.putfield 243, 7, 15, 0), (.iconst 0, 0, 0, 0), (.istore_n 1, 1, 0, 0)]
def bo_155_38 : List ZO := [(.iload_n 1, 1, 0, 0), (.bipush 78, 78, 0, 0), (.if_icmp .ge 29, 70, 0, 0), (.aload_n 0, 0, 0, 0), (.getfield 31, 7, 10, 2), (.iload_n 1, 1, 0, 0), (.aload_n 0, 0, 0, 0), (.getfield 40, 7, 13, 2), (.bipush 78, 78, 0, 0), (.aload_n 0, 0, 0, 0), (.getfield 243, 7, 15, 0), (.imul, 0, 0, 0), (.iload_n 1, 1, 0, 0), (.iadd, 0, 0, 0), (.iaload, 0, 0, 0), (.iastore, 0, 0, 0), (.iinc 1 1, 1, 1, 0), (.goto (-29), 38, 0, 0)]
def bo_155_70 : List ZO := [(.aload_n 0, 0, 0, 0), (.getfield 165, 7, 14, 0), (.ireturn, 0, 0, 0)]
def bk_155 : List (Nat × ZE) := [(0, false, [true, false], bo_155_0, 0), (10, false, [true, false], bo_155_10, 38), (38, true, [true, true], bo_155_38, 0), (70, false, [true, false], bo_155_70, 0)]
theorem ck_155 : z_chks 155 bk_155 [[725], [725, 725, 726, 726], [721, 724, 726], [725]] = true := by decide +kernel
theorem bf_155_0 : z_fd bk_155 0 = some (false, [true, false], bo_155_0, 0) := rfl
theorem bf_155_10 : z_fd bk_155 10 = some (false, [true, false], bo_155_10, 38) := rfl
theorem bf_155_38 : z_fd bk_155 38 = some (true, [true, true], bo_155_38, 0) := rfl
theorem bf_155_70 : z_fd bk_155 70 = some (false, [true, false], bo_155_70, 0) := rfl
theorem cl_155 : z_mL 155 = 2 := by decide +kernel
theorem cz_155 : plainFor (z_my 155) = true ∧ ((z_rm 155).cells = 0 ∧ (z_rm 155).slots = 0) := by decide +kernel
-- 156 Model_ahead
def bo_156_0 : List ZO := [(.aload_n 0, 0, 0, 0), (.iload_n 2, 2, 0, 0), (.invokevirtual 106, 109, 2, 8), (.ifCond .ne 5, 10, 0, 0), (.iconst (-1), 1, 0, 1), (.ireturn, 0, 0, 0)]
def bo_156_10 : List ZO := [(.iload_n 1, 1, 0, 0), (.i2l, 0, 0, 0), (.lconst 0, 0, 0, 0), (.ldc2_w 246, 99, 0, 0), (.invokestatic 102, 103, 3, 0), (.ifCond .eq 17, 36, 0, 0), (.iload_n 3, 3, 0, 0), (.i2l, 0, 0, 0), (.ldc2_w 257, 3, 0, 0), (.ldc2_w 141, 9, 0, 0), (.invokestatic 102, 103, 3, 0), (.ifCond .ne 6, 39, 0, 0), (.bipush (-2), 2, 0, 1), (.ireturn, 0, 0, 0)]
def bo_156_36 : List ZO := [(.bipush (-2), 2, 0, 1), (.ireturn, 0, 0, 0)]
def bo_156_39 : List ZO := [(.aload_n 0, 0, 0, 0), (.getfield 31, 7, 10, 2), (.aload_n 0, 0, 0, 0), (.getfield 34, 7, 11, 2), (.invokestatic 199, 102, 2, 0), (.aload_n 0, 0, 0, 0), (.iload_n 1, 1, 0, 0), (.invokevirtual 259, 136, 2, 8), (.aload_n 0, 0, 0, 0), (.aload_n 0, 0, 0, 0), (.getfield 34, 7, 11, 2), (.iload_n 2, 2, 0, 0), (.iload_n 3, 3, 0, 0), (.invokevirtual 233, 143, 4, 8), (.ireturn, 0, 0, 0)]
def bk_156 : List (Nat × ZE) := [(0, false, [true, true, true, true], bo_156_0, 0), (10, false, [true, true, true, true], bo_156_10, 0), (36, false, [false, false, false, false], bo_156_36, 0), (39, false, [true, true, true, true], bo_156_39, 0)]
theorem ck_156 : z_chks 156 bk_156 [[916], [980, 837, 1035, 872, 837], [], [721, 722, 989, 1036, 722, 920]] = true := by decide +kernel
theorem bf_156_0 : z_fd bk_156 0 = some (false, [true, true, true, true], bo_156_0, 0) := rfl
theorem bf_156_10 : z_fd bk_156 10 = some (false, [true, true, true, true], bo_156_10, 0) := rfl
theorem bf_156_36 : z_fd bk_156 36 = some (false, [false, false, false, false], bo_156_36, 0) := rfl
theorem bf_156_39 : z_fd bk_156 39 = some (false, [true, true, true, true], bo_156_39, 0) := rfl
theorem cl_156 : z_mL 156 = 4 := by decide +kernel
theorem cz_156 : plainFor (z_my 156) = true ∧ ((z_rm 156).cells = 0 ∧ (z_rm 156).slots = 0) := by decide +kernel
-- 157 Model_still
def bo_157_0 : List ZO := [(.aload_n 0, 0, 0, 0), (.getfield 31, 7, 10, 2), (.aload_n 0, 0, 0, 0), (.getfield 34, 7, 11, 2), (.invokestatic 199, 102, 2, 0), (.iconst 0, 0, 0, 0), (.istore_n 1, 1, 0, 0)]
theorem cb_157_0 : z_chk 157 bo_157_0 0 13 [721, 722, 989] = true := by decide +kernel
def bo_157_13 : List ZO := [(.iload_n 1, 1, 0, 0), (.bipush 50, 50, 0, 0), (.if_icmp .ge 52, 68, 0, 0), (.iconst 0, 0, 0, 0), (.istore_n 2, 2, 0, 0)]
theorem cb_157_13 : z_chk 157 bo_157_13 13 21 [] = true := by decide +kernel
def bo_157_21 : List ZO := [(.iload_n 2, 2, 0, 0), (.aload_n 0, 0, 0, 0), (.getfield 99, 7, 2, 0), (.if_icmp .ge 28, 54, 0, 0), (.aload_n 0, 0, 0, 0), (.getfield 59, 7, 24, 2), (.bipush 8, 8, 0, 0), (.iload_n 1, 1, 0, 0), (.imul, 0, 0, 0), (.iload_n 2, 2, 0, 0), (.iadd, 0, 0, 0), (.aload_n 0, 0, 0, 0), (.getfield 34, 7, 11, 2), (.iconst 0, 0, 0, 0), (.iload_n 2, 2, 0, 0), (.iadd, 0, 0, 0), (.iaload, 0, 0, 0), (.iastore, 0, 0, 0), (.iinc 2 1, 1, 2, 0), (.goto (-30), 21, 0, 0)]
theorem cb_157_21 : z_chk 157 bo_157_21 21 0 [713, 735, 722] = true := by decide +kernel
def bo_157_54 : List ZO := [(.aload_n 0, 0, 0, 0), (.aload_n 0, 0, 0, 0), (.getfield 34, 7, 11, 2), (.invokevirtual 209, 135, 2, 8), (.iinc 1 1, 1, 1, 0), (.goto (-52), 13, 0, 0)]
theorem cb_157_54 : z_chk 157 bo_157_54 54 0 [722, 985] = true := by decide +kernel
def bo_157_68 : List ZO := [(.iconst 0, 0, 0, 0), (.istore_n 1, 1, 0, 0), (.iconst 1, 1, 0, 0), (.istore_n 2, 2, 0, 0)]
theorem cb_157_68 : z_chk 157 bo_157_68 68 72 [] = true := by decide +kernel
def bo_157_72 : List ZO := [(.iload_n 2, 2, 0, 0), (.bipush 50, 50, 0, 0), (.if_icmp .ge 91, 166, 0, 0), (.iconst 1, 1, 0, 0), (.istore_n 3, 3, 0, 0), (.iconst 0, 0, 0, 0), (.istore 4, 4, 0, 0)]
theorem cb_157_72 : z_chk 157 bo_157_72 72 83 [] = true := by decide +kernel
def bo_157_83 : List ZO := [(.iload 4, 4, 0, 0), (.aload_n 0, 0, 0, 0), (.getfield 99, 7, 2, 0), (.if_icmp .ge 48, 137, 0, 0), (.iload_n 3, 3, 0, 0), (.ifCond .eq 36, 129, 0, 0), (.aload_n 0, 0, 0, 0), (.getfield 59, 7, 24, 2), (.bipush 8, 8, 0, 0), (.iload_n 2, 2, 0, 0), (.imul, 0, 0, 0), (.iload 4, 4, 0, 0), (.iadd, 0, 0, 0), (.iaload, 0, 0, 0), (.aload_n 0, 0, 0, 0), (.getfield 59, 7, 24, 2), (.bipush 8, 8, 0, 0), (.iload_n 2, 2, 0, 0), (.iconst 1, 1, 0, 0), (.isub, 0, 0, 0), (.imul, 0, 0, 0), (.iload 4, 4, 0, 0), (.iadd, 0, 0, 0), (.iaload, 0, 0, 0), (.if_icmp .ne 7, 129, 0, 0), (.iconst 1, 1, 0, 0), (.goto 4, 130, 0, 0)]
theorem cb_157_83 : z_chk 157 bo_157_83 83 0 [713, 735, 735] = true := by decide +kernel
def bo_157_129 : List ZO := [(.iconst 0, 0, 0, 0), (.istore_n 3, 3, 0, 0), (.iinc 4 1, 1, 4, 0), (.goto (-51), 83, 0, 0)]
theorem cb_157_129 : z_chk 157 bo_157_129 129 0 [] = true := by decide +kernel
def bo_157_130 : List ZO := [(.istore_n 3, 3, 0, 0), (.iinc 4 1, 1, 4, 0), (.goto (-51), 83, 0, 0)]
theorem cb_157_130 : z_chk 157 bo_157_130 130 0 [] = true := by decide +kernel
def bo_157_137 : List ZO := [(.iload_n 3, 3, 0, 0), (.ifCond .eq 9, 147, 0, 0), (.iload_n 1, 1, 0, 0), (.iconst 1, 1, 0, 0), (.iadd, 0, 0, 0), (.goto 4, 148, 0, 0)]
theorem cb_157_137 : z_chk 157 bo_157_137 137 0 [] = true := by decide +kernel
def bo_157_147 : List ZO := [(.iconst 0, 0, 0, 0), (.istore_n 1, 1, 0, 0), (.iload_n 1, 1, 0, 0), (.bipush 9, 9, 0, 0), (.if_icmp .ne 8, 160, 0, 0), (.iload_n 2, 2, 0, 0), (.bipush 9, 9, 0, 0), (.isub, 0, 0, 0), (.ireturn, 0, 0, 0)]
theorem cb_157_147 : z_chk 157 bo_157_147 147 0 [] = true := by decide +kernel
def bo_157_148 : List ZO := [(.istore_n 1, 1, 0, 0), (.iload_n 1, 1, 0, 0), (.bipush 9, 9, 0, 0), (.if_icmp .ne 8, 160, 0, 0), (.iload_n 2, 2, 0, 0), (.bipush 9, 9, 0, 0), (.isub, 0, 0, 0), (.ireturn, 0, 0, 0)]
theorem cb_157_148 : z_chk 157 bo_157_148 148 0 [] = true := by decide +kernel
def bo_157_160 : List ZO := [(.iinc 2 1, 1, 2, 0), (.goto (-91), 72, 0, 0)]
theorem cb_157_160 : z_chk 157 bo_157_160 160 0 [] = true := by decide +kernel
def bo_157_166 : List ZO := [(.bipush (-9), 9, 0, 1), (.ireturn, 0, 0, 0)]
theorem cb_157_166 : z_chk 157 bo_157_166 166 0 [] = true := by decide +kernel
def bk_157 : List (Nat × ZE) := [(0, false, [true, false, false, false, false], bo_157_0, 13), (13, true, [true, true, false, false, false], bo_157_13, 21), (21, true, [true, true, true, false, false], bo_157_21, 0), (54, false, [true, true, false, false, false], bo_157_54, 0), (68, false, [true, false, false, false, false], bo_157_68, 72), (72, true, [true, true, true, false, false], bo_157_72, 83), (83, true, [true, true, true, true, true], bo_157_83, 0), (129, false, [true, true, true, false, true], bo_157_129, 0), (130, false, [true, true, true, false, true], bo_157_130, 0), (137, false, [true, true, true, true, false], bo_157_137, 0), (147, false, [true, false, true, false, false], bo_157_147, 0), (148, false, [true, false, true, false, false], bo_157_148, 0), (160, false, [true, true, true, false, false], bo_157_160, 0), (166, false, [false, false, false, false, false], bo_157_166, 0)]
theorem ck_157 : z_chks 157 bk_157 [[721, 722, 989], [], [713, 735, 722], [722, 985], [], [], [713, 735, 735], [], [], [], [], [], [], []] = true := z_chks_cons cb_157_0 (z_chks_cons cb_157_13 (z_chks_cons cb_157_21 (z_chks_cons cb_157_54 (z_chks_cons cb_157_68 (z_chks_cons cb_157_72 (z_chks_cons cb_157_83 (z_chks_cons cb_157_129 (z_chks_cons cb_157_130 (z_chks_cons cb_157_137 (z_chks_cons cb_157_147 (z_chks_cons cb_157_148 (z_chks_cons cb_157_160 (z_chks_cons cb_157_166 (z_chks_nil))))))))))))))
theorem bf_157_0 : z_fd bk_157 0 = some (false, [true, false, false, false, false], bo_157_0, 13) := rfl
theorem bf_157_13 : z_fd bk_157 13 = some (true, [true, true, false, false, false], bo_157_13, 21) := rfl
theorem bf_157_21 : z_fd bk_157 21 = some (true, [true, true, true, false, false], bo_157_21, 0) := rfl
theorem bf_157_54 : z_fd bk_157 54 = some (false, [true, true, false, false, false], bo_157_54, 0) := rfl
theorem bf_157_68 : z_fd bk_157 68 = some (false, [true, false, false, false, false], bo_157_68, 72) := rfl
theorem bf_157_72 : z_fd bk_157 72 = some (true, [true, true, true, false, false], bo_157_72, 83) := rfl
theorem bf_157_83 : z_fd bk_157 83 = some (true, [true, true, true, true, true], bo_157_83, 0) := rfl
theorem bf_157_129 : z_fd bk_157 129 = some (false, [true, true, true, false, true], bo_157_129, 0) := rfl
theorem bf_157_130 : z_fd bk_157 130 = some (false, [true, true, true, false, true], bo_157_130, 0) := rfl
theorem bf_157_137 : z_fd bk_157 137 = some (false, [true, true, true, true, false], bo_157_137, 0) := rfl
theorem bf_157_147 : z_fd bk_157 147 = some (false, [true, false, true, false, false], bo_157_147, 0) := rfl
theorem bf_157_148 : z_fd bk_157 148 = some (false, [true, false, true, false, false], bo_157_148, 0) := rfl
theorem bf_157_160 : z_fd bk_157 160 = some (false, [true, true, true, false, false], bo_157_160, 0) := rfl
theorem bf_157_166 : z_fd bk_157 166 = some (false, [false, false, false, false, false], bo_157_166, 0) := rfl
theorem cl_157 : z_mL 157 = 5 := by decide +kernel
theorem cz_157 : plainFor (z_my 157) = true ∧ ((z_rm 157).cells = 0 ∧ (z_rm 157).slots = 0) := by decide +kernel
-- 158 Model_word
def bo_158_0 : List ZO := [(.aload_n 0, 0, 0, 0), (.iload_n 1, 1, 0, 0), (.invokevirtual 106, 109, 2, 8), (.ifCond .ne 5, 10, 0, 0), (.iconst (-1), 1, 0, 1), (.ireturn, 0, 0, 0)]
theorem cb_158_0 : z_chk 158 bo_158_0 0 0 [916] = true := by decide +kernel
def bo_158_10 : List ZO := [(.aload_n 0, 0, 0, 0), (.getfield 31, 7, 10, 2), (.aload_n 0, 0, 0, 0), (.getfield 34, 7, 11, 2), (.invokestatic 199, 102, 2, 0), (.iload_n 1, 1, 0, 0), (.istore_n 2, 2, 0, 0), (.iconst 0, 0, 0, 0), (.istore_n 3, 3, 0, 0)]
theorem cb_158_10 : z_chk 158 bo_158_10 10 25 [721, 722, 989] = true := by decide +kernel
def bo_158_25 : List ZO := [(.iload_n 3, 3, 0, 0), (.bipush 60, 60, 0, 0), (.if_icmp .ge 71, 99, 0, 0), (.aload_n 0, 0, 0, 0), (.getfield 13, 7, 3, 2), (.iload_n 2, 2, 0, 0), (.iaload, 0, 0, 0), (.ifCond .eq 62, 99, 0, 0), (.aload_n 0, 0, 0, 0), (.iload_n 2, 2, 0, 0), (.aload_n 0, 0, 0, 0), (.getfield 34, 7, 11, 2), (.bipush 77, 77, 0, 0), (.iaload, 0, 0, 0), (.invokevirtual 203, 133, 3, 8), (.istore 4, 4, 0, 0), (.aload_n 0, 0, 0, 0), (.aload_n 0, 0, 0, 0), (.getfield 34, 7, 11, 2), (.invokevirtual 209, 135, 2, 8), (.iinc 3 1, 1, 3, 0), (.iload 4, 4, 0, 0), (.ifCond .eq 27, 94, 0, 0), (.aload_n 0, 0, 0, 0), (.getfield 34, 7, 11, 2), (.iconst 0, 0, 0, 0), (.iload_n 2, 2, 0, 0), (.iadd, 0, 0, 0), (.iaload, 0, 0, 0), (.bipush (-9), 9, 0, 1), (.if_icmp .eq 14, 94, 0, 0), (.aload_n 0, 0, 0, 0), (.getfield 34, 7, 11, 2), (.iconst 0, 0, 0, 0), (.iload_n 2, 2, 0, 0), (.iadd, 0, 0, 0), (.iaload, 0, 0, 0), (.goto 4, 95, 0, 0)]
theorem cb_158_25 : z_chk 158 bo_158_25 25 0 [714, 722, 992, 722, 985, 722, 722] = true := by decide +kernel
def bo_158_94 : List ZO := [(.iload_n 2, 2, 0, 0), (.istore_n 2, 2, 0, 0), (.goto (-71), 25, 0, 0)]
theorem cb_158_94 : z_chk 158 bo_158_94 94 0 [] = true := by decide +kernel
def bo_158_95 : List ZO := [(.istore_n 2, 2, 0, 0), (.goto (-71), 25, 0, 0)]
theorem cb_158_95 : z_chk 158 bo_158_95 95 0 [] = true := by decide +kernel
def bo_158_99 : List ZO := [(.aload_n 0, 0, 0, 0), (.getfield 13, 7, 3, 2), (.iload_n 2, 2, 0, 0), (.iaload, 0, 0, 0), (.ifCond .ne 7, 112, 0, 0), (.iload_n 3, 3, 0, 0), (.goto 5, 114, 0, 0)]
theorem cb_158_99 : z_chk 158 bo_158_99 99 0 [714] = true := by decide +kernel
def bo_158_112 : List ZO := [(.bipush (-9), 9, 0, 1), (.ireturn, 0, 0, 0)]
theorem cb_158_112 : z_chk 158 bo_158_112 112 0 [] = true := by decide +kernel
def bo_158_114 : List ZO := [(.ireturn, 0, 0, 0)]
theorem cb_158_114 : z_chk 158 bo_158_114 114 0 [] = true := by decide +kernel
def bk_158 : List (Nat × ZE) := [(0, false, [true, true, false, false, false], bo_158_0, 0), (10, false, [true, true, false, false, false], bo_158_10, 25), (25, true, [true, false, true, true, false], bo_158_25, 0), (94, false, [true, false, true, true, false], bo_158_94, 0), (95, false, [true, false, false, true, false], bo_158_95, 0), (99, false, [true, false, true, true, false], bo_158_99, 0), (112, false, [false, false, false, false, false], bo_158_112, 0), (114, false, [false, false, false, false, false], bo_158_114, 0)]
theorem ck_158 : z_chks 158 bk_158 [[916], [721, 722, 989], [714, 722, 992, 722, 985, 722, 722], [], [], [714], [], []] = true := z_chks_cons cb_158_0 (z_chks_cons cb_158_10 (z_chks_cons cb_158_25 (z_chks_cons cb_158_94 (z_chks_cons cb_158_95 (z_chks_cons cb_158_99 (z_chks_cons cb_158_112 (z_chks_cons cb_158_114 (z_chks_nil))))))))
theorem bf_158_0 : z_fd bk_158 0 = some (false, [true, true, false, false, false], bo_158_0, 0) := rfl
theorem bf_158_10 : z_fd bk_158 10 = some (false, [true, true, false, false, false], bo_158_10, 25) := rfl
theorem bf_158_25 : z_fd bk_158 25 = some (true, [true, false, true, true, false], bo_158_25, 0) := rfl
theorem bf_158_94 : z_fd bk_158 94 = some (false, [true, false, true, true, false], bo_158_94, 0) := rfl
theorem bf_158_95 : z_fd bk_158 95 = some (false, [true, false, false, true, false], bo_158_95, 0) := rfl
theorem bf_158_99 : z_fd bk_158 99 = some (false, [true, false, true, true, false], bo_158_99, 0) := rfl
theorem bf_158_112 : z_fd bk_158 112 = some (false, [false, false, false, false, false], bo_158_112, 0) := rfl
theorem bf_158_114 : z_fd bk_158 114 = some (false, [false, false, false, false, false], bo_158_114, 0) := rfl
theorem cl_158 : z_mL 158 = 5 := by decide +kernel
theorem cz_158 : plainFor (z_my 158) = true ∧ ((z_rm 158).cells = 0 ∧ (z_rm 158).slots = 0) := by decide +kernel
-- 159 Model_spread
def bo_159_0 : List ZO := [(.iconst 0, 0, 0, 0), (.istore_n 1, 1, 0, 0), (.bipush (-9), 9, 0, 1), (.istore_n 2, 2, 0, 0), (.iconst 0, 0, 0, 0), (.istore_n 3, 3, 0, 0)]
theorem cb_159_0 : z_chk 159 bo_159_0 0 7 [] = true := by decide +kernel
def bo_159_7 : List ZO := [(.iload_n 3, 3, 0, 0), (.aload_n 0, 0, 0, 0), (.getfield 99, 7, 2, 0), (.if_icmp .ge 61, 73, 0, 0), (.aload_n 0, 0, 0, 0), (.getfield 13, 7, 3, 2), (.iload_n 3, 3, 0, 0), (.iaload, 0, 0, 0), (.ifCond .ne 46, 67, 0, 0), (.aload_n 0, 0, 0, 0), (.aload_n 0, 0, 0, 0), (.getfield 34, 7, 11, 2), (.iload_n 3, 3, 0, 0), (.invokevirtual 230, 139, 3, 8), (.istore 4, 4, 0, 0), (.iload 4, 4, 0, 0), (.iload_n 1, 1, 0, 0), (.if_icmp .le 8, 46, 0, 0), (.iload 4, 4, 0, 0), (.goto 4, 47, 0, 0)]
theorem cb_159_7 : z_chk 159 bo_159_7 7 0 [713, 714, 722, 924] = true := by decide +kernel
def bo_159_46 : List ZO := [(.iload_n 1, 1, 0, 0), (.istore_n 1, 1, 0, 0), (.iload_n 2, 2, 0, 0), (.bipush (-9), 9, 0, 1), (.if_icmp .eq 9, 60, 0, 0), (.iload 4, 4, 0, 0), (.iload_n 2, 2, 0, 0), (.if_icmp .ge 8, 65, 0, 0), (.iload 4, 4, 0, 0), (.goto 4, 66, 0, 0)]
theorem cb_159_46 : z_chk 159 bo_159_46 46 0 [] = true := by decide +kernel
def bo_159_47 : List ZO := [(.istore_n 1, 1, 0, 0), (.iload_n 2, 2, 0, 0), (.bipush (-9), 9, 0, 1), (.if_icmp .eq 9, 60, 0, 0), (.iload 4, 4, 0, 0), (.iload_n 2, 2, 0, 0), (.if_icmp .ge 8, 65, 0, 0), (.iload 4, 4, 0, 0), (.goto 4, 66, 0, 0)]
theorem cb_159_47 : z_chk 159 bo_159_47 47 0 [] = true := by decide +kernel
def bo_159_60 : List ZO := [(.iload 4, 4, 0, 0), (.goto 4, 66, 0, 0)]
theorem cb_159_60 : z_chk 159 bo_159_60 60 0 [] = true := by decide +kernel
def bo_159_65 : List ZO := [(.iload_n 2, 2, 0, 0), (.istore_n 2, 2, 0, 0), (.iinc 3 1, 1, 3, 0), (.goto (-63), 7, 0, 0)]
theorem cb_159_65 : z_chk 159 bo_159_65 65 0 [] = true := by decide +kernel
def bo_159_66 : List ZO := [(.istore_n 2, 2, 0, 0), (.iinc 3 1, 1, 3, 0), (.goto (-63), 7, 0, 0)]
theorem cb_159_66 : z_chk 159 bo_159_66 66 0 [] = true := by decide +kernel
def bo_159_67 : List ZO := [(.iinc 3 1, 1, 3, 0), (.goto (-63), 7, 0, 0)]
theorem cb_159_67 : z_chk 159 bo_159_67 67 0 [] = true := by decide +kernel
def bo_159_73 : List ZO := [(.iload_n 1, 1, 0, 0), (.iload_n 2, 2, 0, 0), (.isub, 0, 0, 0), (.ireturn, 0, 0, 0)]
theorem cb_159_73 : z_chk 159 bo_159_73 73 0 [] = true := by decide +kernel
def bk_159 : List (Nat × ZE) := [(0, false, [true, false, false, false, false], bo_159_0, 7), (7, true, [true, true, true, true, false], bo_159_7, 0), (46, false, [true, true, true, true, true], bo_159_46, 0), (47, false, [true, false, true, true, true], bo_159_47, 0), (60, false, [true, true, false, true, true], bo_159_60, 0), (65, false, [true, true, true, true, false], bo_159_65, 0), (66, false, [true, true, false, true, false], bo_159_66, 0), (67, false, [true, true, true, true, false], bo_159_67, 0), (73, false, [false, true, true, false, false], bo_159_73, 0)]
theorem ck_159 : z_chks 159 bk_159 [[], [713, 714, 722, 924], [], [], [], [], [], [], []] = true := z_chks_cons cb_159_0 (z_chks_cons cb_159_7 (z_chks_cons cb_159_46 (z_chks_cons cb_159_47 (z_chks_cons cb_159_60 (z_chks_cons cb_159_65 (z_chks_cons cb_159_66 (z_chks_cons cb_159_67 (z_chks_cons cb_159_73 (z_chks_nil)))))))))
theorem bf_159_0 : z_fd bk_159 0 = some (false, [true, false, false, false, false], bo_159_0, 7) := rfl
theorem bf_159_7 : z_fd bk_159 7 = some (true, [true, true, true, true, false], bo_159_7, 0) := rfl
theorem bf_159_46 : z_fd bk_159 46 = some (false, [true, true, true, true, true], bo_159_46, 0) := rfl
theorem bf_159_47 : z_fd bk_159 47 = some (false, [true, false, true, true, true], bo_159_47, 0) := rfl
theorem bf_159_60 : z_fd bk_159 60 = some (false, [true, true, false, true, true], bo_159_60, 0) := rfl
theorem bf_159_65 : z_fd bk_159 65 = some (false, [true, true, true, true, false], bo_159_65, 0) := rfl
theorem bf_159_66 : z_fd bk_159 66 = some (false, [true, true, false, true, false], bo_159_66, 0) := rfl
theorem bf_159_67 : z_fd bk_159 67 = some (false, [true, true, true, true, false], bo_159_67, 0) := rfl
theorem bf_159_73 : z_fd bk_159 73 = some (false, [false, true, true, false, false], bo_159_73, 0) := rfl
theorem cl_159 : z_mL 159 = 5 := by decide +kernel
theorem cz_159 : plainFor (z_my 159) = true ∧ ((z_rm 159).cells = 0 ∧ (z_rm 159).slots = 0) := by decide +kernel
-- 160 Model_even
def bo_160_0 : List ZO := [(.aload_n 0, 0, 0, 0), (.iload_n 1, 1, 0, 0), (.invokevirtual 254, 110, 2, 8), (.ifCond .ne 5, 10, 0, 0), (.iconst (-1), 1, 0, 1), (.ireturn, 0, 0, 0)]
def bo_160_10 : List ZO := [(.bipush (-9), 9, 0, 1), (.istore_n 2, 2, 0, 0), (.iconst 0, 0, 0, 0), (.istore_n 3, 3, 0, 0), (.iconst 0, 0, 0, 0), (.istore 4, 4, 0, 0)]
def bo_160_18 : List ZO := [(.iload 4, 4, 0, 0), (.bipush 10, 10, 0, 0), (.if_icmp .ge 61, 83, 0, 0), (.aload_n 0, 0, 0, 0), (.getfield 31, 7, 10, 2), (.aload_n 0, 0, 0, 0), (.getfield 34, 7, 11, 2), (.invokestatic 199, 102, 2, 0), (.aload_n 0, 0, 0, 0), (.getfield 34, 7, 11, 2), (.bipush 67, 67, 0, 0), (.iload_n 1, 1, 0, 0), (.iadd, 0, 0, 0), (.iload 4, 4, 0, 0), (.iastore, 0, 0, 0), (.aload_n 0, 0, 0, 0), (.bipush 20, 20, 0, 0), (.invokevirtual 259, 136, 2, 8), (.aload_n 0, 0, 0, 0), (.invokevirtual 263, 159, 1, 8), (.istore 5, 5, 0, 0), (.iload_n 2, 2, 0, 0), (.bipush (-9), 9, 0, 1), (.if_icmp .eq 9, 71, 0, 0), (.iload 5, 5, 0, 0), (.iload_n 3, 3, 0, 0), (.if_icmp .ge 9, 77, 0, 0), (.iload 4, 4, 0, 0), (.istore_n 2, 2, 0, 0), (.iload 5, 5, 0, 0), (.istore_n 3, 3, 0, 0), (.iinc 4 1, 1, 4, 0), (.goto (-62), 18, 0, 0)]
def bo_160_71 : List ZO := [(.iload 4, 4, 0, 0), (.istore_n 2, 2, 0, 0), (.iload 5, 5, 0, 0), (.istore_n 3, 3, 0, 0), (.iinc 4 1, 1, 4, 0), (.goto (-62), 18, 0, 0)]
def bo_160_77 : List ZO := [(.iinc 4 1, 1, 4, 0), (.goto (-62), 18, 0, 0)]
def bo_160_83 : List ZO := [(.iload_n 2, 2, 0, 0), (.ireturn, 0, 0, 0)]
def bk_160 : List (Nat × ZE) := [(0, false, [true, true, false, false, false, false], bo_160_0, 0), (10, false, [true, true, false, false, false, false], bo_160_10, 18), (18, true, [true, true, true, true, true, false], bo_160_18, 0), (71, false, [true, true, false, false, true, true], bo_160_71, 0), (77, false, [true, true, true, true, true, false], bo_160_77, 0), (83, false, [false, false, true, false, false, false], bo_160_83, 0)]
theorem ck_160 : z_chks 160 bk_160 [[1019], [], [721, 722, 989, 722, 1036, 1052], [], [], []] = true := by decide +kernel
theorem bf_160_0 : z_fd bk_160 0 = some (false, [true, true, false, false, false, false], bo_160_0, 0) := rfl
theorem bf_160_10 : z_fd bk_160 10 = some (false, [true, true, false, false, false, false], bo_160_10, 18) := rfl
theorem bf_160_18 : z_fd bk_160 18 = some (true, [true, true, true, true, true, false], bo_160_18, 0) := rfl
theorem bf_160_71 : z_fd bk_160 71 = some (false, [true, true, false, false, true, true], bo_160_71, 0) := rfl
theorem bf_160_77 : z_fd bk_160 77 = some (false, [true, true, true, true, true, false], bo_160_77, 0) := rfl
theorem bf_160_83 : z_fd bk_160 83 = some (false, [false, false, true, false, false, false], bo_160_83, 0) := rfl
theorem cl_160 : z_mL 160 = 6 := by decide +kernel
theorem cz_160 : plainFor (z_my 160) = true ∧ ((z_rm 160).cells = 0 ∧ (z_rm 160).slots = 0) := by decide +kernel
-- 161 Model_judged
def bo_161_0 : List ZO := [(.iload 4, 4, 0, 0), (.ifCond .ne 12, 14, 0, 0), (.iload 5, 5, 0, 0), (.ifCond .ne 7, 14, 0, 0), (.iconst 1, 1, 0, 0), (.goto 4, 15, 0, 0)]
theorem cb_161_0 : z_chk 161 bo_161_0 0 0 [] = true := by decide +kernel
def bo_161_14 : List ZO := [(.iconst 0, 0, 0, 0), (.istore 6, 6, 0, 0)]
theorem cb_161_14 : z_chk 161 bo_161_14 14 17 [] = true := by decide +kernel
def bo_161_15 : List ZO := [(.istore 6, 6, 0, 0)]
theorem cb_161_15 : z_chk 161 bo_161_15 15 17 [] = true := by decide +kernel
def bo_161_17 : List ZO := [(.iload_n 1, 1, 0, 0), (.tableswitch 301 1 7 #[42, 70, 111, 138, 194, 242, 274], 18, 1, 7)]
theorem cb_161_17 : z_chk 161 bo_161_17 17 0 [] = true := by decide +kernel
def bo_161_60 : List ZO := [(.bipush 10, 10, 0, 0), (.iload_n 2, 2, 0, 0), (.imul, 0, 0, 0), (.iload_n 3, 3, 0, 0), (.iadd, 0, 0, 0), (.ifCond .eq 8, 74, 0, 0), (.iload 6, 6, 0, 0), (.ifCond .ne 5, 76, 0, 0), (.iconst 0, 0, 0, 0), (.ireturn, 1, 0, 0)]
theorem cb_161_60 : z_chk 161 bo_161_60 60 0 [] = true := by decide +kernel
def bo_161_74 : List ZO := [(.iconst 0, 0, 0, 0), (.ireturn, 1, 0, 0)]
theorem cb_161_74 : z_chk 161 bo_161_74 74 0 [] = true := by decide +kernel
def bo_161_76 : List ZO := [(.aload_n 0, 0, 0, 0), (.bipush 10, 10, 0, 0), (.iload_n 2, 2, 0, 0), (.imul, 0, 0, 0), (.iload_n 3, 3, 0, 0), (.iadd, 0, 0, 0), (.invokevirtual 259, 136, 2, 8), (.iconst 1, 1, 0, 0), (.ireturn, 1, 0, 0)]
theorem cb_161_76 : z_chk 161 bo_161_76 76 0 [1036] = true := by decide +kernel
def bo_161_88 : List ZO := [(.aload_n 0, 0, 0, 0), (.iload_n 2, 2, 0, 0), (.invokevirtual 236, 111, 2, 8), (.ifCond .eq 12, 105, 0, 0), (.iload_n 3, 3, 0, 0), (.ifCond .ne 8, 105, 0, 0), (.iload 6, 6, 0, 0), (.ifCond .ne 5, 107, 0, 0), (.iconst 0, 0, 0, 0), (.ireturn, 1, 0, 0)]
theorem cb_161_88 : z_chk 161 bo_161_88 88 0 [932] = true := by decide +kernel
def bo_161_105 : List ZO := [(.iconst 0, 0, 0, 0), (.ireturn, 1, 0, 0)]
theorem cb_161_105 : z_chk 161 bo_161_105 105 0 [] = true := by decide +kernel
def bo_161_107 : List ZO := [(.aload_n 0, 0, 0, 0), (.getfield 34, 7, 11, 2), (.bipush 58, 58, 0, 0), (.iload_n 2, 2, 0, 0), (.iadd, 0, 0, 0), (.iconst 1, 1, 0, 0), (.aload_n 0, 0, 0, 0), (.getfield 34, 7, 11, 2), (.bipush 58, 58, 0, 0), (.iload_n 2, 2, 0, 0), (.iadd, 0, 0, 0), (.iaload, 0, 0, 0), (.isub, 0, 0, 0), (.iastore, 0, 0, 0), (.iconst 1, 1, 0, 0), (.ireturn, 1, 0, 0)]
theorem cb_161_107 : z_chk 161 bo_161_107 107 0 [722, 722] = true := by decide +kernel
def bo_161_129 : List ZO := [(.aload_n 0, 0, 0, 0), (.iload_n 2, 2, 0, 0), (.invokevirtual 254, 110, 2, 8), (.ifCond .eq 8, 142, 0, 0), (.iload 6, 6, 0, 0), (.ifCond .ne 5, 144, 0, 0), (.iconst 0, 0, 0, 0), (.ireturn, 1, 0, 0)]
theorem cb_161_129 : z_chk 161 bo_161_129 129 0 [1019] = true := by decide +kernel
def bo_161_142 : List ZO := [(.iconst 0, 0, 0, 0), (.ireturn, 1, 0, 0)]
theorem cb_161_142 : z_chk 161 bo_161_142 142 0 [] = true := by decide +kernel
def bo_161_144 : List ZO := [(.aload_n 0, 0, 0, 0), (.getfield 34, 7, 11, 2), (.bipush 67, 67, 0, 0), (.iload_n 2, 2, 0, 0), (.iadd, 0, 0, 0), (.iload_n 3, 3, 0, 0), (.iastore, 0, 0, 0), (.iconst 1, 1, 0, 0), (.ireturn, 1, 0, 0)]
theorem cb_161_144 : z_chk 161 bo_161_144 144 0 [722] = true := by decide +kernel
def bo_161_156 : List ZO := [(.aload_n 0, 0, 0, 0), (.iload_n 2, 2, 0, 0), (.invokevirtual 106, 109, 2, 8), (.ifCond .eq 49, 210, 0, 0), (.iload_n 3, 3, 0, 0), (.iconst 2, 2, 0, 0), (.if_icmp .ge 44, 210, 0, 0), (.iload 6, 6, 0, 0), (.ifCond .eq 39, 210, 0, 0), (.aload_n 0, 0, 0, 0), (.aload_n 0, 0, 0, 0), (.getfield 34, 7, 11, 2), (.iload_n 2, 2, 0, 0), (.invokevirtual 213, 137, 3, 8), (.bipush (-9), 9, 0, 1), (.if_icmp .eq 7, 192, 0, 0), (.iconst 1, 1, 0, 0), (.goto 4, 193, 0, 0)]
theorem cb_161_156 : z_chk 161 bo_161_156 156 0 [916, 722, 901] = true := by decide +kernel
def bo_161_192 : List ZO := [(.iconst 0, 0, 0, 0), (.iload_n 3, 3, 0, 0), (.iconst 1, 1, 0, 0), (.if_icmp .ne 7, 202, 0, 0), (.iconst 1, 1, 0, 0), (.goto 4, 203, 0, 0)]
theorem cb_161_192 : z_chk 161 bo_161_192 192 0 [] = true := by decide +kernel
def bo_161_193 : List ZO := [(.iload_n 3, 3, 0, 0), (.iconst 1, 1, 0, 0), (.if_icmp .ne 7, 202, 0, 0), (.iconst 1, 1, 0, 0), (.goto 4, 203, 0, 0)]
theorem cb_161_193 : z_chk 161 bo_161_193 193 0 [] = true := by decide +kernel
def bo_161_202 : List ZO := [(.iconst 0, 0, 0, 0), (.if_icmp .ne 7, 210, 0, 0), (.iconst 1, 1, 0, 0), (.goto 4, 211, 0, 0)]
theorem cb_161_202 : z_chk 161 bo_161_202 202 0 [] = true := by decide +kernel
def bo_161_203 : List ZO := [(.if_icmp .ne 7, 210, 0, 0), (.iconst 1, 1, 0, 0), (.goto 4, 211, 0, 0)]
theorem cb_161_203 : z_chk 161 bo_161_203 203 0 [] = true := by decide +kernel
def bo_161_210 : List ZO := [(.iconst 0, 0, 0, 0), (.ireturn, 1, 0, 0)]
theorem cb_161_210 : z_chk 161 bo_161_210 210 0 [] = true := by decide +kernel
def bo_161_211 : List ZO := [(.ireturn, 1, 0, 0)]
theorem cb_161_211 : z_chk 161 bo_161_211 211 0 [] = true := by decide +kernel
def bo_161_212 : List ZO := [(.aload_n 0, 0, 0, 0), (.iload_n 2, 2, 0, 0), (.invokevirtual 106, 109, 2, 8), (.ifCond .eq 41, 258, 0, 0), (.aload_n 0, 0, 0, 0), (.iload_n 3, 3, 0, 0), (.invokevirtual 106, 109, 2, 8), (.ifCond .eq 33, 258, 0, 0), (.iload 6, 6, 0, 0), (.ifCond .eq 28, 258, 0, 0), (.aload_n 0, 0, 0, 0), (.getfield 13, 7, 3, 2), (.iload_n 2, 2, 0, 0), (.iaload, 0, 0, 0), (.ifCond .eq 19, 258, 0, 0), (.aload_n 0, 0, 0, 0), (.getfield 34, 7, 11, 2), (.iconst 0, 0, 0, 0), (.iload_n 2, 2, 0, 0), (.iadd, 0, 0, 0), (.iaload, 0, 0, 0), (.iload_n 3, 3, 0, 0), (.if_icmp .ne 7, 258, 0, 0), (.iconst 1, 1, 0, 0), (.goto 4, 259, 0, 0)]
theorem cb_161_212 : z_chk 161 bo_161_212 212 0 [916, 916, 714, 722] = true := by decide +kernel
def bo_161_258 : List ZO := [(.iconst 0, 0, 0, 0), (.ireturn, 1, 0, 0)]
theorem cb_161_258 : z_chk 161 bo_161_258 258 0 [] = true := by decide +kernel
def bo_161_259 : List ZO := [(.ireturn, 1, 0, 0)]
theorem cb_161_259 : z_chk 161 bo_161_259 259 0 [] = true := by decide +kernel
def bo_161_260 : List ZO := [(.aload_n 0, 0, 0, 0), (.iload_n 2, 2, 0, 0), (.invokevirtual 254, 110, 2, 8), (.ifCond .eq 25, 290, 0, 0), (.iload 6, 6, 0, 0), (.ifCond .eq 20, 290, 0, 0), (.aload_n 0, 0, 0, 0), (.aload_n 0, 0, 0, 0), (.getfield 34, 7, 11, 2), (.iload_n 2, 2, 0, 0), (.invokevirtual 230, 139, 3, 8), (.iload_n 3, 3, 0, 0), (.if_icmp .ne 7, 290, 0, 0), (.iconst 1, 1, 0, 0), (.goto 4, 291, 0, 0)]
theorem cb_161_260 : z_chk 161 bo_161_260 260 0 [1019, 722, 924] = true := by decide +kernel
def bo_161_290 : List ZO := [(.iconst 0, 0, 0, 0), (.ireturn, 1, 0, 0)]
theorem cb_161_290 : z_chk 161 bo_161_290 290 0 [] = true := by decide +kernel
def bo_161_291 : List ZO := [(.ireturn, 1, 0, 0)]
theorem cb_161_291 : z_chk 161 bo_161_291 291 0 [] = true := by decide +kernel
def bo_161_292 : List ZO := [(.iload 6, 6, 0, 0), (.ifCond .eq 23, 317, 0, 0), (.aload_n 0, 0, 0, 0), (.getfield 34, 7, 11, 2), (.bipush 76, 76, 0, 0), (.iaload, 0, 0, 0), (.bipush 10, 10, 0, 0), (.iload_n 2, 2, 0, 0), (.imul, 0, 0, 0), (.iload_n 3, 3, 0, 0), (.iadd, 0, 0, 0), (.if_icmp .ne 7, 317, 0, 0), (.iconst 1, 1, 0, 0), (.goto 4, 318, 0, 0)]
theorem cb_161_292 : z_chk 161 bo_161_292 292 0 [722] = true := by decide +kernel
def bo_161_317 : List ZO := [(.iconst 0, 0, 0, 0), (.ireturn, 1, 0, 0)]
theorem cb_161_317 : z_chk 161 bo_161_317 317 0 [] = true := by decide +kernel
def bo_161_318 : List ZO := [(.ireturn, 1, 0, 0)]
theorem cb_161_318 : z_chk 161 bo_161_318 318 0 [] = true := by decide +kernel
def bo_161_319 : List ZO := [(.iconst 0, 0, 0, 0), (.ireturn, 1, 0, 0)]
theorem cb_161_319 : z_chk 161 bo_161_319 319 0 [] = true := by decide +kernel
def bk_161 : List (Nat × ZE) := [(0, false, [true, true, true, true, true, true, false], bo_161_0, 0), (14, false, [true, true, true, true, false, false, false], bo_161_14, 17), (15, false, [true, true, true, true, false, false, false], bo_161_15, 17), (17, true, [true, true, true, true, false, false, true], bo_161_17, 0), (60, false, [true, false, true, true, false, false, true], bo_161_60, 0), (74, false, [false, false, false, false, false, false, false], bo_161_74, 0), (76, false, [true, false, true, true, false, false, false], bo_161_76, 0), (88, false, [true, false, true, true, false, false, true], bo_161_88, 0), (105, false, [false, false, false, false, false, false, false], bo_161_105, 0), (107, false, [true, false, true, false, false, false, false], bo_161_107, 0), (129, false, [true, false, true, true, false, false, true], bo_161_129, 0), (142, false, [false, false, false, false, false, false, false], bo_161_142, 0), (144, false, [true, false, true, true, false, false, false], bo_161_144, 0), (156, false, [true, false, true, true, false, false, true], bo_161_156, 0), (192, false, [false, false, false, true, false, false, false], bo_161_192, 0), (193, false, [false, false, false, true, false, false, false], bo_161_193, 0), (202, false, [false, false, false, false, false, false, false], bo_161_202, 0), (203, false, [false, false, false, false, false, false, false], bo_161_203, 0), (210, false, [false, false, false, false, false, false, false], bo_161_210, 0), (211, false, [false, false, false, false, false, false, false], bo_161_211, 0), (212, false, [true, false, true, true, false, false, true], bo_161_212, 0), (258, false, [false, false, false, false, false, false, false], bo_161_258, 0), (259, false, [false, false, false, false, false, false, false], bo_161_259, 0), (260, false, [true, false, true, true, false, false, true], bo_161_260, 0), (290, false, [false, false, false, false, false, false, false], bo_161_290, 0), (291, false, [false, false, false, false, false, false, false], bo_161_291, 0), (292, false, [true, false, true, true, false, false, true], bo_161_292, 0), (317, false, [false, false, false, false, false, false, false], bo_161_317, 0), (318, false, [false, false, false, false, false, false, false], bo_161_318, 0), (319, false, [false, false, false, false, false, false, false], bo_161_319, 0)]
theorem ck_161 : z_chks 161 bk_161 [[], [], [], [], [], [], [1036], [932], [], [722, 722], [1019], [], [722], [916, 722, 901], [], [], [], [], [], [], [916, 916, 714, 722], [], [], [1019, 722, 924], [], [], [722], [], [], []] = true := z_chks_cons cb_161_0 (z_chks_cons cb_161_14 (z_chks_cons cb_161_15 (z_chks_cons cb_161_17 (z_chks_cons cb_161_60 (z_chks_cons cb_161_74 (z_chks_cons cb_161_76 (z_chks_cons cb_161_88 (z_chks_cons cb_161_105 (z_chks_cons cb_161_107 (z_chks_cons cb_161_129 (z_chks_cons cb_161_142 (z_chks_cons cb_161_144 (z_chks_cons cb_161_156 (z_chks_cons cb_161_192 (z_chks_cons cb_161_193 (z_chks_cons cb_161_202 (z_chks_cons cb_161_203 (z_chks_cons cb_161_210 (z_chks_cons cb_161_211 (z_chks_cons cb_161_212 (z_chks_cons cb_161_258 (z_chks_cons cb_161_259 (z_chks_cons cb_161_260 (z_chks_cons cb_161_290 (z_chks_cons cb_161_291 (z_chks_cons cb_161_292 (z_chks_cons cb_161_317 (z_chks_cons cb_161_318 (z_chks_cons cb_161_319 (z_chks_nil))))))))))))))))))))))))))))))
theorem bf_161_0 : z_fd bk_161 0 = some (false, [true, true, true, true, true, true, false], bo_161_0, 0) := rfl
theorem bf_161_14 : z_fd bk_161 14 = some (false, [true, true, true, true, false, false, false], bo_161_14, 17) := rfl
theorem bf_161_15 : z_fd bk_161 15 = some (false, [true, true, true, true, false, false, false], bo_161_15, 17) := rfl
theorem bf_161_17 : z_fd bk_161 17 = some (true, [true, true, true, true, false, false, true], bo_161_17, 0) := rfl
theorem bf_161_60 : z_fd bk_161 60 = some (false, [true, false, true, true, false, false, true], bo_161_60, 0) := rfl
theorem bf_161_74 : z_fd bk_161 74 = some (false, [false, false, false, false, false, false, false], bo_161_74, 0) := rfl
theorem bf_161_76 : z_fd bk_161 76 = some (false, [true, false, true, true, false, false, false], bo_161_76, 0) := rfl
theorem bf_161_88 : z_fd bk_161 88 = some (false, [true, false, true, true, false, false, true], bo_161_88, 0) := rfl
theorem bf_161_105 : z_fd bk_161 105 = some (false, [false, false, false, false, false, false, false], bo_161_105, 0) := rfl
theorem bf_161_107 : z_fd bk_161 107 = some (false, [true, false, true, false, false, false, false], bo_161_107, 0) := rfl
theorem bf_161_129 : z_fd bk_161 129 = some (false, [true, false, true, true, false, false, true], bo_161_129, 0) := rfl
theorem bf_161_142 : z_fd bk_161 142 = some (false, [false, false, false, false, false, false, false], bo_161_142, 0) := rfl
theorem bf_161_144 : z_fd bk_161 144 = some (false, [true, false, true, true, false, false, false], bo_161_144, 0) := rfl
theorem bf_161_156 : z_fd bk_161 156 = some (false, [true, false, true, true, false, false, true], bo_161_156, 0) := rfl
theorem bf_161_192 : z_fd bk_161 192 = some (false, [false, false, false, true, false, false, false], bo_161_192, 0) := rfl
theorem bf_161_193 : z_fd bk_161 193 = some (false, [false, false, false, true, false, false, false], bo_161_193, 0) := rfl
theorem bf_161_202 : z_fd bk_161 202 = some (false, [false, false, false, false, false, false, false], bo_161_202, 0) := rfl
theorem bf_161_203 : z_fd bk_161 203 = some (false, [false, false, false, false, false, false, false], bo_161_203, 0) := rfl
theorem bf_161_210 : z_fd bk_161 210 = some (false, [false, false, false, false, false, false, false], bo_161_210, 0) := rfl
theorem bf_161_211 : z_fd bk_161 211 = some (false, [false, false, false, false, false, false, false], bo_161_211, 0) := rfl
theorem bf_161_212 : z_fd bk_161 212 = some (false, [true, false, true, true, false, false, true], bo_161_212, 0) := rfl
theorem bf_161_258 : z_fd bk_161 258 = some (false, [false, false, false, false, false, false, false], bo_161_258, 0) := rfl
theorem bf_161_259 : z_fd bk_161 259 = some (false, [false, false, false, false, false, false, false], bo_161_259, 0) := rfl
theorem bf_161_260 : z_fd bk_161 260 = some (false, [true, false, true, true, false, false, true], bo_161_260, 0) := rfl
theorem bf_161_290 : z_fd bk_161 290 = some (false, [false, false, false, false, false, false, false], bo_161_290, 0) := rfl
theorem bf_161_291 : z_fd bk_161 291 = some (false, [false, false, false, false, false, false, false], bo_161_291, 0) := rfl
theorem bf_161_292 : z_fd bk_161 292 = some (false, [true, false, true, true, false, false, true], bo_161_292, 0) := rfl
theorem bf_161_317 : z_fd bk_161 317 = some (false, [false, false, false, false, false, false, false], bo_161_317, 0) := rfl
theorem bf_161_318 : z_fd bk_161 318 = some (false, [false, false, false, false, false, false, false], bo_161_318, 0) := rfl
theorem bf_161_319 : z_fd bk_161 319 = some (false, [false, false, false, false, false, false, false], bo_161_319, 0) := rfl
theorem cl_161 : z_mL 161 = 7 := by decide +kernel
theorem cz_161 : plainFor (z_my 161) = true ∧ ((z_rm 161).cells = 0 ∧ (z_rm 161).slots = 0) := by decide +kernel
-- 162 Model_hundredThousands
def bo_162_0 : List ZO := [(.lconst 1, 1, 0, 0), (.lstore_n 1, 1, 0, 0), (.iconst 0, 0, 0, 0), (.istore_n 3, 3, 0, 0)]
def bo_162_4 : List ZO := [(.iload_n 3, 3, 0, 0), (.iload_n 0, 0, 0, 0), (.if_icmp .ge 15, 21, 0, 0), (.lload_n 1, 1, 0, 0), (.ldc2_w 266, 100000, 0, 0), (.lmul, 0, 0, 0), (.lstore_n 1, 1, 0, 0), (.iinc 3 1, 1, 3, 0), (.goto (-14), 4, 0, 0)]
def bo_162_21 : List ZO := [(.lload_n 1, 1, 0, 0), (.lreturn, 0, 0, 0)]
def bk_162 : List (Nat × ZE) := [(0, false, [true, false, false, false], bo_162_0, 4), (4, true, [true, true, false, true], bo_162_4, 0), (21, false, [false, true, false, false], bo_162_21, 0)]
theorem ck_162 : z_chks 162 bk_162 [[], [1063], []] = true := by decide +kernel
theorem bf_162_0 : z_fd bk_162 0 = some (false, [true, false, false, false], bo_162_0, 4) := rfl
theorem bf_162_4 : z_fd bk_162 4 = some (true, [true, true, false, true], bo_162_4, 0) := rfl
theorem bf_162_21 : z_fd bk_162 21 = some (false, [false, true, false, false], bo_162_21, 0) := rfl
theorem cl_162 : z_mL 162 = 4 := by decide +kernel
theorem cz_162 : plainFor (z_my 162) = true ∧ ((z_rm 162).cells = 0 ∧ (z_rm 162).slots = 0) := by decide +kernel
-- 163 Model_judge
def bo_163_0 : List ZO := [(.iload_n 1, 1, 0, 0), (.i2l, 0, 0, 0), (.lconst 1, 1, 0, 0), (.ldc2_w 257, 3, 0, 0), (.invokestatic 102, 103, 3, 0), (.ifCond .eq 17, 26, 0, 0), (.lload_n 2, 2, 0, 0), (.lconst 0, 0, 0, 0), (.iload_n 1, 1, 0, 0), (.invokestatic 268, 162, 1, 0), (.lconst 1, 1, 0, 0), (.lsub, 0, 0, 0), (.invokestatic 102, 103, 3, 0), (.ifCond .ne 6, 29, 0, 0), (.bipush (-2), 2, 0, 1), (.ireturn, 0, 0, 0)]
def bo_163_26 : List ZO := [(.bipush (-2), 2, 0, 1), (.ireturn, 0, 0, 0)]
def bo_163_29 : List ZO := [(.aload_n 0, 0, 0, 0), (.getfield 31, 7, 10, 2), (.aload_n 0, 0, 0, 0), (.getfield 34, 7, 11, 2), (.invokestatic 199, 102, 2, 0), (.iconst 0, 0, 0, 0), (.istore 4, 4, 0, 0)]
def bo_163_43 : List ZO := [(.iload 4, 4, 0, 0), (.iload_n 1, 1, 0, 0), (.if_icmp .ge 73, 119, 0, 0), (.lload_n 2, 2, 0, 0), (.iload_n 1, 1, 0, 0), (.iconst 1, 1, 0, 0), (.isub, 0, 0, 0), (.iload 4, 4, 0, 0), (.isub, 0, 0, 0), (.invokestatic 268, 162, 1, 0), (.ldiv, 0, 0, 0), (.ldc2_w 266, 100000, 0, 0), (.lrem, 0, 0, 0), (.l2i, 0, 0, 0), (.istore 5, 5, 0, 0), (.aload_n 0, 0, 0, 0), (.iload 5, 5, 0, 0), (.sipush 10000, 10000, 0, 0), (.idiv, 0, 0, 0), (.iload 5, 5, 0, 0), (.sipush 1000, 1000, 0, 0), (.idiv, 0, 0, 0), (.bipush 10, 10, 0, 0), (.irem, 0, 0, 0), (.iload 5, 5, 0, 0), (.bipush 100, 100, 0, 0), (.idiv, 0, 0, 0), (.bipush 10, 10, 0, 0), (.irem, 0, 0, 0), (.iload 5, 5, 0, 0), (.bipush 10, 10, 0, 0), (.idiv, 0, 0, 0), (.bipush 10, 10, 0, 0), (.irem, 0, 0, 0), (.iload 5, 5, 0, 0), (.bipush 10, 10, 0, 0), (.irem, 0, 0, 0), (.invokevirtual 272, 161, 6, 8), (.ifCond .ne 6, 113, 0, 0), (.iload 4, 4, 0, 0), (.ireturn, 0, 0, 0)]
def bo_163_113 : List ZO := [(.iinc 4 1, 1, 4, 0), (.goto (-73), 43, 0, 0)]
def bo_163_119 : List ZO := [(.bipush (-9), 9, 0, 1), (.ireturn, 0, 0, 0)]
def bk_163 : List (Nat × ZE) := [(0, false, [true, true, true, false, false, false], bo_163_0, 0), (26, false, [false, false, false, false, false, false], bo_163_26, 0), (29, false, [true, true, true, false, false, false], bo_163_29, 43), (43, true, [true, true, true, false, true, false], bo_163_43, 0), (113, false, [true, true, true, false, true, false], bo_163_113, 0), (119, false, [false, false, false, false, false, false], bo_163_119, 0)]
theorem ck_163 : z_chks 163 bk_163 [[1035, 837, 1060, 837], [], [721, 722, 989], [1060, 1063, 1064], [], []] = true := by decide +kernel
theorem bf_163_0 : z_fd bk_163 0 = some (false, [true, true, true, false, false, false], bo_163_0, 0) := rfl
theorem bf_163_26 : z_fd bk_163 26 = some (false, [false, false, false, false, false, false], bo_163_26, 0) := rfl
theorem bf_163_29 : z_fd bk_163 29 = some (false, [true, true, true, false, false, false], bo_163_29, 43) := rfl
theorem bf_163_43 : z_fd bk_163 43 = some (true, [true, true, true, false, true, false], bo_163_43, 0) := rfl
theorem bf_163_113 : z_fd bk_163 113 = some (false, [true, true, true, false, true, false], bo_163_113, 0) := rfl
theorem bf_163_119 : z_fd bk_163 119 = some (false, [false, false, false, false, false, false], bo_163_119, 0) := rfl
theorem cl_163 : z_mL 163 = 6 := by decide +kernel
theorem cz_163 : plainFor (z_my 163) = true ∧ ((z_rm 163).cells = 0 ∧ (z_rm 163).slots = 0) := by decide +kernel
-- 164 Model_see
def bo_164_0 : List ZO := [(.aload_n 0, 0, 0, 0), (.iload_n 1, 1, 0, 0), (.invokevirtual 106, 109, 2, 8), (.ifCond .ne 5, 10, 0, 0), (.iconst (-1), 1, 0, 1), (.ireturn, 0, 0, 0)]
def bo_164_10 : List ZO := [(.iload_n 2, 2, 0, 0), (.i2l, 0, 0, 0), (.lconst 0, 0, 0, 0), (.ldc2_w 276, 20, 0, 0), (.invokestatic 102, 103, 3, 0), (.ifCond .eq 13, 32, 0, 0), (.iload_n 3, 3, 0, 0), (.i2l, 0, 0, 0), (.lconst 0, 0, 0, 0), (.lconst 1, 1, 0, 0), (.invokestatic 102, 103, 3, 0), (.ifCond .ne 6, 35, 0, 0), (.bipush (-2), 2, 0, 1), (.ireturn, 0, 0, 0)]
def bo_164_32 : List ZO := [(.bipush (-2), 2, 0, 1), (.ireturn, 0, 0, 0)]
def bo_164_35 : List ZO := [(.aload_n 0, 0, 0, 0), (.getfield 227, 7, 21, 0), (.bipush 6, 6, 0, 0), (.if_icmp .ne 6, 47, 0, 0), (.bipush (-4), 4, 0, 1), (.ireturn, 0, 0, 0)]
def bo_164_47 : List ZO := [(.aload_n 0, 0, 0, 0), (.getfield 50, 7, 18, 2), (.aload_n 0, 0, 0, 0), (.getfield 227, 7, 21, 0), (.iload_n 1, 1, 0, 0), (.iastore, 0, 0, 0), (.aload_n 0, 0, 0, 0), (.getfield 53, 7, 19, 2), (.aload_n 0, 0, 0, 0), (.getfield 227, 7, 21, 0), (.iload_n 2, 2, 0, 0), (.iastore, 0, 0, 0), (.aload_n 0, 0, 0, 0), (.getfield 56, 7, 20, 2), (.aload_n 0, 0, 0, 0), (.getfield 227, 7, 21, 0), (.iload_n 3, 3, 0, 0), (.iastore, 0, 0, 0), (.aload_n 0, 0, 0, 0), (.dup, 0, 0, 0), (.getfield 227, 7, 21, 0), (.iconst 1, 1, 0, 0), (.iadd, 0, 0, 0), (.putfield 227, 7, 21, 0), (.aload_n 0, 0, 0, 0), (.getfield 227, 7, 21, 0), (.ireturn, 0, 0, 0)]
def bk_164 : List (Nat × ZE) := [(0, false, [true, true, true, true], bo_164_0, 0), (10, false, [true, true, true, true], bo_164_10, 0), (32, false, [false, false, false, false], bo_164_32, 0), (35, false, [true, true, true, true], bo_164_35, 0), (47, false, [true, true, true, true], bo_164_47, 0)]
theorem ck_164 : z_chks 164 bk_164 [[916], [1072, 837, 837], [], [732], [729, 732, 730, 732, 731, 732, 732, 732, 732]] = true := by decide +kernel
theorem bf_164_0 : z_fd bk_164 0 = some (false, [true, true, true, true], bo_164_0, 0) := rfl
theorem bf_164_10 : z_fd bk_164 10 = some (false, [true, true, true, true], bo_164_10, 0) := rfl
theorem bf_164_32 : z_fd bk_164 32 = some (false, [false, false, false, false], bo_164_32, 0) := rfl
theorem bf_164_35 : z_fd bk_164 35 = some (false, [true, true, true, true], bo_164_35, 0) := rfl
theorem bf_164_47 : z_fd bk_164 47 = some (false, [true, true, true, true], bo_164_47, 0) := rfl
theorem cl_164 : z_mL 164 = 4 := by decide +kernel
theorem cz_164 : plainFor (z_my 164) = true ∧ ((z_rm 164).cells = 0 ∧ (z_rm 164).slots = 0) := by decide +kernel
-- 165 Model_unsee
def bo_165_0 : List ZO := [(.aload_n 0, 0, 0, 0), (.getfield 227, 7, 21, 0), (.istore_n 1, 1, 0, 0), (.aload_n 0, 0, 0, 0), (.iconst 0, 0, 0, 0), (.putfield 227, 7, 21, 0), (.iload_n 1, 1, 0, 0), (.ireturn, 0, 0, 0)]
def bk_165 : List (Nat × ZE) := [(0, false, [true, false], bo_165_0, 0)]
theorem ck_165 : z_chks 165 bk_165 [[732, 732]] = true := by decide +kernel
theorem bf_165_0 : z_fd bk_165 0 = some (false, [true, false], bo_165_0, 0) := rfl
theorem cl_165 : z_mL 165 = 2 := by decide +kernel
theorem cz_165 : plainFor (z_my 165) = true ∧ ((z_rm 165).cells = 0 ∧ (z_rm 165).slots = 0) := by decide +kernel
-- 166 Model_isSoBy
def bo_166_0 : List ZO := [(.aload_n 0, 0, 0, 0), (.getfield 31, 7, 10, 2), (.aload_n 0, 0, 0, 0), (.getfield 34, 7, 11, 2), (.invokestatic 199, 102, 2, 0), (.aload_n 0, 0, 0, 0), (.getfield 34, 7, 11, 2), (.bipush 58, 58, 0, 0), (.iload_n 1, 1, 0, 0), (.iadd, 0, 0, 0), (.iconst 1, 1, 0, 0), (.iastore, 0, 0, 0), (.aload_n 0, 0, 0, 0), (.aload_n 0, 0, 0, 0), (.getfield 53, 7, 19, 2), (.iload_n 2, 2, 0, 0), (.iaload, 0, 0, 0), (.invokevirtual 259, 136, 2, 8), (.aload_n 0, 0, 0, 0), (.aload_n 0, 0, 0, 0), (.getfield 50, 7, 18, 2), (.iload_n 2, 2, 0, 0), (.iaload, 0, 0, 0), (.invokevirtual 106, 109, 2, 8), (.ifCond .eq 26, 67, 0, 0), (.aload_n 0, 0, 0, 0), (.aload_n 0, 0, 0, 0), (.getfield 34, 7, 11, 2), (.aload_n 0, 0, 0, 0), (.getfield 50, 7, 18, 2), (.iload_n 2, 2, 0, 0), (.iaload, 0, 0, 0), (.invokevirtual 213, 137, 3, 8), (.bipush (-9), 9, 0, 1), (.if_icmp .eq 7, 67, 0, 0), (.iconst 1, 1, 0, 0), (.goto 4, 68, 0, 0)]
theorem cb_166_0 : z_chk 166 bo_166_0 0 0 [721, 722, 989, 722, 730, 1036, 729, 916, 722, 729, 901] = true := by decide +kernel
def bo_166_67 : List ZO := [(.iconst 0, 0, 0, 0), (.istore_n 3, 3, 0, 0), (.iload_n 3, 3, 0, 0), (.aload_n 0, 0, 0, 0), (.getfield 56, 7, 20, 2), (.iload_n 2, 2, 0, 0), (.iaload, 0, 0, 0), (.iconst 1, 1, 0, 0), (.if_icmp .ne 7, 84, 0, 0), (.iconst 1, 1, 0, 0), (.goto 4, 85, 0, 0)]
theorem cb_166_67 : z_chk 166 bo_166_67 67 0 [731] = true := by decide +kernel
def bo_166_68 : List ZO := [(.istore_n 3, 3, 0, 0), (.iload_n 3, 3, 0, 0), (.aload_n 0, 0, 0, 0), (.getfield 56, 7, 20, 2), (.iload_n 2, 2, 0, 0), (.iaload, 0, 0, 0), (.iconst 1, 1, 0, 0), (.if_icmp .ne 7, 84, 0, 0), (.iconst 1, 1, 0, 0), (.goto 4, 85, 0, 0)]
theorem cb_166_68 : z_chk 166 bo_166_68 68 0 [731] = true := by decide +kernel
def bo_166_84 : List ZO := [(.iconst 0, 0, 0, 0), (.if_icmp .ne 7, 92, 0, 0), (.iconst 1, 1, 0, 0), (.goto 4, 93, 0, 0)]
theorem cb_166_84 : z_chk 166 bo_166_84 84 0 [] = true := by decide +kernel
def bo_166_85 : List ZO := [(.if_icmp .ne 7, 92, 0, 0), (.iconst 1, 1, 0, 0), (.goto 4, 93, 0, 0)]
theorem cb_166_85 : z_chk 166 bo_166_85 85 0 [] = true := by decide +kernel
def bo_166_92 : List ZO := [(.iconst 0, 0, 0, 0), (.ireturn, 1, 0, 0)]
theorem cb_166_92 : z_chk 166 bo_166_92 92 0 [] = true := by decide +kernel
def bo_166_93 : List ZO := [(.ireturn, 1, 0, 0)]
theorem cb_166_93 : z_chk 166 bo_166_93 93 0 [] = true := by decide +kernel
def bk_166 : List (Nat × ZE) := [(0, false, [true, true, true, false], bo_166_0, 0), (67, false, [true, false, true, false], bo_166_67, 0), (68, false, [true, false, true, false], bo_166_68, 0), (84, false, [false, false, false, false], bo_166_84, 0), (85, false, [false, false, false, false], bo_166_85, 0), (92, false, [false, false, false, false], bo_166_92, 0), (93, false, [false, false, false, false], bo_166_93, 0)]
theorem ck_166 : z_chks 166 bk_166 [[721, 722, 989, 722, 730, 1036, 729, 916, 722, 729, 901], [731], [731], [], [], [], []] = true := z_chks_cons cb_166_0 (z_chks_cons cb_166_67 (z_chks_cons cb_166_68 (z_chks_cons cb_166_84 (z_chks_cons cb_166_85 (z_chks_cons cb_166_92 (z_chks_cons cb_166_93 (z_chks_nil)))))))
theorem bf_166_0 : z_fd bk_166 0 = some (false, [true, true, true, false], bo_166_0, 0) := rfl
theorem bf_166_67 : z_fd bk_166 67 = some (false, [true, false, true, false], bo_166_67, 0) := rfl
theorem bf_166_68 : z_fd bk_166 68 = some (false, [true, false, true, false], bo_166_68, 0) := rfl
theorem bf_166_84 : z_fd bk_166 84 = some (false, [false, false, false, false], bo_166_84, 0) := rfl
theorem bf_166_85 : z_fd bk_166 85 = some (false, [false, false, false, false], bo_166_85, 0) := rfl
theorem bf_166_92 : z_fd bk_166 92 = some (false, [false, false, false, false], bo_166_92, 0) := rfl
theorem bf_166_93 : z_fd bk_166 93 = some (false, [false, false, false, false], bo_166_93, 0) := rfl
theorem cl_166 : z_mL 166 = 4 := by decide +kernel
theorem cz_166 : plainFor (z_my 166) = true ∧ ((z_rm 166).cells = 0 ∧ (z_rm 166).slots = 0) := by decide +kernel
-- 167 Model_which
def bo_167_0 : List ZO := [(.iconst 0, 0, 0, 0), (.istore_n 1, 1, 0, 0), (.iconst 0, 0, 0, 0), (.istore_n 2, 2, 0, 0)]
theorem cb_167_0 : z_chk 167 bo_167_0 0 4 [] = true := by decide +kernel
def bo_167_4 : List ZO := [(.iload_n 2, 2, 0, 0), (.aload_n 0, 0, 0, 0), (.getfield 110, 7, 6, 0), (.if_icmp .ge 79, 88, 0, 0), (.aload_n 0, 0, 0, 0), (.getfield 31, 7, 10, 2), (.bipush 58, 58, 0, 0), (.iload_n 2, 2, 0, 0), (.iadd, 0, 0, 0), (.iaload, 0, 0, 0), (.ifCond .ne 7, 28, 0, 0), (.iconst 1, 1, 0, 0), (.goto 4, 29, 0, 0)]
theorem cb_167_4 : z_chk 167 bo_167_4 4 0 [717, 721] = true := by decide +kernel
def bo_167_28 : List ZO := [(.iconst 0, 0, 0, 0), (.istore_n 3, 3, 0, 0), (.iconst 0, 0, 0, 0), (.istore 4, 4, 0, 0)]
theorem cb_167_28 : z_chk 167 bo_167_28 28 33 [] = true := by decide +kernel
def bo_167_29 : List ZO := [(.istore_n 3, 3, 0, 0), (.iconst 0, 0, 0, 0), (.istore 4, 4, 0, 0)]
theorem cb_167_29 : z_chk 167 bo_167_29 29 33 [] = true := by decide +kernel
def bo_167_33 : List ZO := [(.iload 4, 4, 0, 0), (.aload_n 0, 0, 0, 0), (.getfield 227, 7, 21, 0), (.if_icmp .ge 29, 68, 0, 0), (.iload_n 3, 3, 0, 0), (.ifCond .eq 17, 60, 0, 0), (.aload_n 0, 0, 0, 0), (.iload_n 2, 2, 0, 0), (.iload 4, 4, 0, 0), (.invokevirtual 278, 166, 3, 8), (.ifCond .eq 7, 60, 0, 0), (.iconst 1, 1, 0, 0), (.goto 4, 61, 0, 0)]
theorem cb_167_33 : z_chk 167 bo_167_33 33 0 [732, 1081] = true := by decide +kernel
def bo_167_60 : List ZO := [(.iconst 0, 0, 0, 0), (.istore_n 3, 3, 0, 0), (.iinc 4 1, 1, 4, 0), (.goto (-32), 33, 0, 0)]
theorem cb_167_60 : z_chk 167 bo_167_60 60 0 [] = true := by decide +kernel
def bo_167_61 : List ZO := [(.istore_n 3, 3, 0, 0), (.iinc 4 1, 1, 4, 0), (.goto (-32), 33, 0, 0)]
theorem cb_167_61 : z_chk 167 bo_167_61 61 0 [] = true := by decide +kernel
def bo_167_68 : List ZO := [(.iload_n 1, 1, 0, 0), (.iload_n 3, 3, 0, 0), (.ifCond .eq 9, 79, 0, 0), (.iconst 1, 1, 0, 0), (.iload_n 2, 2, 0, 0), (.ishl, 0, 0, 0), (.goto 4, 80, 0, 0)]
theorem cb_167_68 : z_chk 167 bo_167_68 68 0 [] = true := by decide +kernel
def bo_167_79 : List ZO := [(.iconst 0, 0, 0, 0), (.ior, 0, 0, 0), (.istore_n 1, 1, 0, 0), (.iinc 2 1, 1, 2, 0), (.goto (-81), 4, 0, 0)]
theorem cb_167_79 : z_chk 167 bo_167_79 79 0 [] = true := by decide +kernel
def bo_167_80 : List ZO := [(.ior, 0, 0, 0), (.istore_n 1, 1, 0, 0), (.iinc 2 1, 1, 2, 0), (.goto (-81), 4, 0, 0)]
theorem cb_167_80 : z_chk 167 bo_167_80 80 0 [] = true := by decide +kernel
def bo_167_88 : List ZO := [(.iload_n 1, 1, 0, 0), (.ireturn, 0, 0, 0)]
theorem cb_167_88 : z_chk 167 bo_167_88 88 0 [] = true := by decide +kernel
def bk_167 : List (Nat × ZE) := [(0, false, [true, false, false, false, false], bo_167_0, 4), (4, true, [true, true, true, false, false], bo_167_4, 0), (28, false, [true, true, true, false, false], bo_167_28, 33), (29, false, [true, true, true, false, false], bo_167_29, 33), (33, true, [true, true, true, true, true], bo_167_33, 0), (60, false, [true, true, true, false, true], bo_167_60, 0), (61, false, [true, true, true, false, true], bo_167_61, 0), (68, false, [true, true, true, true, false], bo_167_68, 0), (79, false, [true, false, true, false, false], bo_167_79, 0), (80, false, [true, false, true, false, false], bo_167_80, 0), (88, false, [false, true, false, false, false], bo_167_88, 0)]
theorem ck_167 : z_chks 167 bk_167 [[], [717, 721], [], [], [732, 1081], [], [], [], [], [], []] = true := z_chks_cons cb_167_0 (z_chks_cons cb_167_4 (z_chks_cons cb_167_28 (z_chks_cons cb_167_29 (z_chks_cons cb_167_33 (z_chks_cons cb_167_60 (z_chks_cons cb_167_61 (z_chks_cons cb_167_68 (z_chks_cons cb_167_79 (z_chks_cons cb_167_80 (z_chks_cons cb_167_88 (z_chks_nil)))))))))))
theorem bf_167_0 : z_fd bk_167 0 = some (false, [true, false, false, false, false], bo_167_0, 4) := rfl
theorem bf_167_4 : z_fd bk_167 4 = some (true, [true, true, true, false, false], bo_167_4, 0) := rfl
theorem bf_167_28 : z_fd bk_167 28 = some (false, [true, true, true, false, false], bo_167_28, 33) := rfl
theorem bf_167_29 : z_fd bk_167 29 = some (false, [true, true, true, false, false], bo_167_29, 33) := rfl
theorem bf_167_33 : z_fd bk_167 33 = some (true, [true, true, true, true, true], bo_167_33, 0) := rfl
theorem bf_167_60 : z_fd bk_167 60 = some (false, [true, true, true, false, true], bo_167_60, 0) := rfl
theorem bf_167_61 : z_fd bk_167 61 = some (false, [true, true, true, false, true], bo_167_61, 0) := rfl
theorem bf_167_68 : z_fd bk_167 68 = some (false, [true, true, true, true, false], bo_167_68, 0) := rfl
theorem bf_167_79 : z_fd bk_167 79 = some (false, [true, false, true, false, false], bo_167_79, 0) := rfl
theorem bf_167_80 : z_fd bk_167 80 = some (false, [true, false, true, false, false], bo_167_80, 0) := rfl
theorem bf_167_88 : z_fd bk_167 88 = some (false, [false, true, false, false, false], bo_167_88, 0) := rfl
theorem cl_167 : z_mL 167 = 5 := by decide +kernel
theorem cz_167 : plainFor (z_my 167) = true ∧ ((z_rm 167).cells = 0 ∧ (z_rm 167).slots = 0) := by decide +kernel
-- 168 Model_reachedBy
def bo_168_0 : List ZO := [(.aload_n 0, 0, 0, 0), (.iload_n 1, 1, 0, 0), (.putfield 92, 7, 23, 0), (.aload_n 0, 0, 0, 0), (.getfield 31, 7, 10, 2), (.aload_n 0, 0, 0, 0), (.getfield 34, 7, 11, 2), (.invokestatic 199, 102, 2, 0), (.aload_n 0, 0, 0, 0), (.bipush 20, 20, 0, 0), (.invokevirtual 259, 136, 2, 8), (.aload_n 0, 0, 0, 0), (.aload_n 0, 0, 0, 0), (.getfield 34, 7, 11, 2), (.invokevirtual 220, 138, 2, 8), (.invokestatic 251, 105, 1, 0), (.istore_n 2, 2, 0, 0), (.aload_n 0, 0, 0, 0), (.sipush 255, 255, 0, 0), (.putfield 92, 7, 23, 0), (.iload_n 2, 2, 0, 0), (.ireturn, 0, 0, 0)]
def bk_168 : List (Nat × ZE) := [(0, false, [true, true, false], bo_168_0, 0)]
theorem ck_168 : z_chks 168 bk_168 [[734, 721, 722, 989, 1036, 722, 897, 1004, 734]] = true := by decide +kernel
theorem bf_168_0 : z_fd bk_168 0 = some (false, [true, true, false], bo_168_0, 0) := rfl
theorem cl_168 : z_mL 168 = 3 := by decide +kernel
theorem cz_168 : plainFor (z_my 168) = true ∧ ((z_rm 168).cells = 0 ∧ (z_rm 168).slots = 0) := by decide +kernel
-- 169 Model_share
def bo_169_0 : List ZO := [(.aload_n 0, 0, 0, 0), (.iload_n 1, 1, 0, 0), (.invokevirtual 254, 110, 2, 8), (.ifCond .ne 5, 10, 0, 0), (.iconst (-1), 1, 0, 1), (.ireturn, 0, 0, 0)]
theorem cb_169_0 : z_chk 169 bo_169_0 0 0 [1019] = true := by decide +kernel
def bo_169_10 : List ZO := [(.aload_n 0, 0, 0, 0), (.iconst 0, 0, 0, 0), (.invokevirtual 216, 140, 2, 8), (.istore_n 3, 3, 0, 0), (.iload_n 3, 3, 0, 0), (.invokestatic 251, 105, 1, 0), (.istore 4, 4, 0, 0), (.iconst 0, 0, 0, 0), (.istore 5, 5, 0, 0)]
theorem cb_169_10 : z_chk 169 bo_169_10 10 25 [893, 1004] = true := by decide +kernel
def bo_169_25 : List ZO := [(.iload 5, 5, 0, 0), (.sipush 256, 256, 0, 0), (.if_icmp .ge 35, 65, 0, 0), (.aload_n 0, 0, 0, 0), (.getfield 62, 7, 25, 2), (.iload 5, 5, 0, 0), (.iload 5, 5, 0, 0), (.iload_n 3, 3, 0, 0), (.iconst (-1), 1, 0, 1), (.ixor, 0, 0, 0), (.iand, 0, 0, 0), (.ifCond .ne 12, 57, 0, 0), (.aload_n 0, 0, 0, 0), (.iload 5, 5, 0, 0), (.invokevirtual 281, 168, 2, 8), (.goto 4, 58, 0, 0)]
theorem cb_169_25 : z_chk 169 bo_169_25 25 0 [736, 1089] = true := by decide +kernel
def bo_169_57 : List ZO := [(.iconst 0, 0, 0, 0), (.iastore, 0, 0, 0), (.iinc 5 1, 1, 5, 0), (.goto (-37), 25, 0, 0)]
theorem cb_169_57 : z_chk 169 bo_169_57 57 0 [] = true := by decide +kernel
def bo_169_58 : List ZO := [(.iastore, 0, 0, 0), (.iinc 5 1, 1, 5, 0), (.goto (-37), 25, 0, 0)]
theorem cb_169_58 : z_chk 169 bo_169_58 58 0 [] = true := by decide +kernel
def bo_169_65 : List ZO := [(.iconst 0, 0, 0, 0), (.istore 5, 5, 0, 0), (.iconst 0, 0, 0, 0), (.istore 6, 6, 0, 0)]
theorem cb_169_65 : z_chk 169 bo_169_65 65 71 [] = true := by decide +kernel
def bo_169_71 : List ZO := [(.iload 6, 6, 0, 0), (.sipush 256, 256, 0, 0), (.if_icmp .ge 75, 151, 0, 0), (.iload 6, 6, 0, 0), (.iload_n 3, 3, 0, 0), (.iconst (-1), 1, 0, 1), (.ixor, 0, 0, 0), (.iand, 0, 0, 0), (.ifCond .ne 60, 145, 0, 0), (.iload 6, 6, 0, 0), (.iload_n 1, 1, 0, 0), (.invokestatic 168, 104, 2, 0), (.ifCond .ne 51, 145, 0, 0), (.iload 6, 6, 0, 0), (.invokestatic 251, 105, 1, 0), (.istore 7, 7, 0, 0), (.iload 5, 5, 0, 0), (.iload 7, 7, 0, 0), (.invokestatic 284, 107, 1, 0), (.iload 4, 4, 0, 0), (.iconst 1, 1, 0, 0), (.isub, 0, 0, 0), (.iload 7, 7, 0, 0), (.isub, 0, 0, 0), (.invokestatic 284, 107, 1, 0), (.imul, 0, 0, 0), (.aload_n 0, 0, 0, 0), (.getfield 62, 7, 25, 2), (.iload 6, 6, 0, 0), (.iconst 1, 1, 0, 0), (.iload_n 1, 1, 0, 0), (.ishl, 0, 0, 0), (.ior, 0, 0, 0), (.iaload, 0, 0, 0), (.aload_n 0, 0, 0, 0), (.getfield 62, 7, 25, 2), (.iload 6, 6, 0, 0), (.iaload, 0, 0, 0), (.isub, 0, 0, 0), (.imul, 0, 0, 0), (.iadd, 0, 0, 0), (.istore 5, 5, 0, 0), (.iinc 6 1, 1, 6, 0), (.goto (-77), 71, 0, 0)]
theorem cb_169_71 : z_chk 169 bo_169_71 71 0 [905, 1004, 1093, 1093, 736, 736] = true := by decide +kernel
def bo_169_145 : List ZO := [(.iinc 6 1, 1, 6, 0), (.goto (-77), 71, 0, 0)]
theorem cb_169_145 : z_chk 169 bo_169_145 145 0 [] = true := by decide +kernel
def bo_169_151 : List ZO := [(.iload 5, 5, 0, 0), (.i2l, 0, 0, 0), (.iload 4, 4, 0, 0), (.invokestatic 284, 107, 1, 0), (.i2l, 0, 0, 0), (.iload_n 2, 2, 0, 0), (.invokestatic 287, 108, 3, 0), (.ireturn, 0, 0, 0)]
theorem cb_169_151 : z_chk 169 bo_169_151 151 0 [1093, 1096] = true := by decide +kernel
def bk_169 : List (Nat × ZE) := [(0, false, [true, true, true, false, false, false, false, false], bo_169_0, 0), (10, false, [true, true, true, false, false, false, false, false], bo_169_10, 25), (25, true, [true, true, true, true, true, true, false, false], bo_169_25, 0), (57, false, [true, true, true, true, true, true, false, false], bo_169_57, 0), (58, false, [true, true, true, true, true, true, false, false], bo_169_58, 0), (65, false, [true, true, true, true, true, false, false, false], bo_169_65, 71), (71, true, [true, true, true, true, true, true, true, false], bo_169_71, 0), (145, false, [true, true, true, true, true, true, true, false], bo_169_145, 0), (151, false, [false, false, true, false, true, true, false, false], bo_169_151, 0)]
theorem ck_169 : z_chks 169 bk_169 [[1019], [893, 1004], [736, 1089], [], [], [], [905, 1004, 1093, 1093, 736, 736], [], [1093, 1096]] = true := z_chks_cons cb_169_0 (z_chks_cons cb_169_10 (z_chks_cons cb_169_25 (z_chks_cons cb_169_57 (z_chks_cons cb_169_58 (z_chks_cons cb_169_65 (z_chks_cons cb_169_71 (z_chks_cons cb_169_145 (z_chks_cons cb_169_151 (z_chks_nil)))))))))
theorem bf_169_0 : z_fd bk_169 0 = some (false, [true, true, true, false, false, false, false, false], bo_169_0, 0) := rfl
theorem bf_169_10 : z_fd bk_169 10 = some (false, [true, true, true, false, false, false, false, false], bo_169_10, 25) := rfl
theorem bf_169_25 : z_fd bk_169 25 = some (true, [true, true, true, true, true, true, false, false], bo_169_25, 0) := rfl
theorem bf_169_57 : z_fd bk_169 57 = some (false, [true, true, true, true, true, true, false, false], bo_169_57, 0) := rfl
theorem bf_169_58 : z_fd bk_169 58 = some (false, [true, true, true, true, true, true, false, false], bo_169_58, 0) := rfl
theorem bf_169_65 : z_fd bk_169 65 = some (false, [true, true, true, true, true, false, false, false], bo_169_65, 71) := rfl
theorem bf_169_71 : z_fd bk_169 71 = some (true, [true, true, true, true, true, true, true, false], bo_169_71, 0) := rfl
theorem bf_169_145 : z_fd bk_169 145 = some (false, [true, true, true, true, true, true, true, false], bo_169_145, 0) := rfl
theorem bf_169_151 : z_fd bk_169 151 = some (false, [false, false, true, false, true, true, false, false], bo_169_151, 0) := rfl
theorem cl_169 : z_mL 169 = 8 := by decide +kernel
theorem cz_169 : plainFor (z_my 169) = true ∧ ((z_rm 169).cells = 0 ∧ (z_rm 169).slots = 0) := by decide +kernel
-- 170 Model_chance
def bo_170_0 : List ZO := [(.iload_n 1, 1, 0, 0), (.i2l, 0, 0, 0), (.lconst 0, 0, 0, 0), (.ldc2_w 291, 10, 0, 0), (.invokestatic 102, 103, 3, 0), (.ifCond .ne 6, 15, 0, 0), (.bipush (-2), 2, 0, 1), (.ireturn, 0, 0, 0)]
theorem cb_170_0 : z_chk 170 bo_170_0 0 0 [1103, 837] = true := by decide +kernel
def bo_170_15 : List ZO := [(.iconst 1, 1, 0, 0), (.aload_n 0, 0, 0, 0), (.getfield 110, 7, 6, 0), (.ishl, 0, 0, 0), (.iconst 1, 1, 0, 0), (.isub, 0, 0, 0), (.aload_n 0, 0, 0, 0), (.invokevirtual 224, 141, 1, 8), (.iconst (-1), 1, 0, 1), (.ixor, 0, 0, 0), (.iand, 0, 0, 0), (.istore_n 3, 3, 0, 0), (.iload_n 3, 3, 0, 0), (.invokestatic 251, 105, 1, 0), (.istore 4, 4, 0, 0), (.lconst 0, 0, 0, 0), (.lstore 5, 5, 0, 0), (.iconst 0, 0, 0, 0), (.istore 7, 7, 0, 0)]
theorem cb_170_15 : z_chk 170 bo_170_15 15 43 [717, 908, 1004] = true := by decide +kernel
def bo_170_43 : List ZO := [(.iload 7, 7, 0, 0), (.iconst 1, 1, 0, 0), (.aload_n 0, 0, 0, 0), (.getfield 110, 7, 6, 0), (.ishl, 0, 0, 0), (.if_icmp .ge 153, 204, 0, 0), (.iload 7, 7, 0, 0), (.iload_n 3, 3, 0, 0), (.iconst (-1), 1, 0, 1), (.ixor, 0, 0, 0), (.iand, 0, 0, 0), (.ifCond .ne 138, 198, 0, 0), (.aload_n 0, 0, 0, 0), (.getfield 31, 7, 10, 2), (.aload_n 0, 0, 0, 0), (.getfield 34, 7, 11, 2), (.invokestatic 199, 102, 2, 0), (.iconst 0, 0, 0, 0), (.istore 8, 8, 0, 0)]
theorem cb_170_43 : z_chk 170 bo_170_43 43 77 [717, 721, 722, 989] = true := by decide +kernel
def bo_170_77 : List ZO := [(.iload 8, 8, 0, 0), (.aload_n 0, 0, 0, 0), (.getfield 110, 7, 6, 0), (.if_icmp .ge 43, 126, 0, 0), (.aload_n 0, 0, 0, 0), (.getfield 34, 7, 11, 2), (.bipush 58, 58, 0, 0), (.iload 8, 8, 0, 0), (.iadd, 0, 0, 0), (.iload 7, 7, 0, 0), (.iload 8, 8, 0, 0), (.invokestatic 168, 104, 2, 0), (.ifCond .eq 7, 109, 0, 0), (.iconst 1, 1, 0, 0), (.goto 13, 119, 0, 0)]
theorem cb_170_77 : z_chk 170 bo_170_77 77 0 [717, 722, 905] = true := by decide +kernel
def bo_170_109 : List ZO := [(.aload_n 0, 0, 0, 0), (.getfield 34, 7, 11, 2), (.bipush 58, 58, 0, 0), (.iload 8, 8, 0, 0), (.iadd, 0, 0, 0), (.iaload, 0, 0, 0), (.iastore, 0, 0, 0), (.iinc 8 1, 1, 8, 0), (.goto (-46), 77, 0, 0)]
theorem cb_170_109 : z_chk 170 bo_170_109 109 0 [722] = true := by decide +kernel
def bo_170_119 : List ZO := [(.iastore, 0, 0, 0), (.iinc 8 1, 1, 8, 0), (.goto (-46), 77, 0, 0)]
theorem cb_170_119 : z_chk 170 bo_170_119 119 0 [] = true := by decide +kernel
def bo_170_126 : List ZO := [(.aload_n 0, 0, 0, 0), (.bipush 20, 20, 0, 0), (.invokevirtual 259, 136, 2, 8), (.aload_n 0, 0, 0, 0), (.aload_n 0, 0, 0, 0), (.getfield 34, 7, 11, 2), (.invokevirtual 220, 138, 2, 8), (.invokestatic 251, 105, 1, 0), (.aload_n 0, 0, 0, 0), (.getfield 99, 7, 2, 0), (.if_icmp .ne 7, 154, 0, 0), (.iconst 1, 1, 0, 0), (.goto 4, 155, 0, 0)]
theorem cb_170_126 : z_chk 170 bo_170_126 126 0 [1036, 722, 897, 1004, 713] = true := by decide +kernel
def bo_170_154 : List ZO := [(.iconst 0, 0, 0, 0), (.istore 8, 8, 0, 0), (.lload 5, 5, 0, 0), (.iload 8, 8, 0, 0), (.ifCond .eq 33, 194, 0, 0), (.iload_n 1, 1, 0, 0), (.iload 7, 7, 0, 0), (.invokestatic 251, 105, 1, 0), (.invokestatic 293, 106, 2, 0), (.i2l, 0, 0, 0), (.bipush 10, 10, 0, 0), (.iload_n 1, 1, 0, 0), (.isub, 0, 0, 0), (.iload 4, 4, 0, 0), (.iload 7, 7, 0, 0), (.invokestatic 251, 105, 1, 0), (.isub, 0, 0, 0), (.invokestatic 293, 106, 2, 0), (.i2l, 0, 0, 0), (.lmul, 0, 0, 0), (.goto 4, 195, 0, 0)]
theorem cb_170_154 : z_chk 170 bo_170_154 154 0 [1004, 1104, 1004, 1104] = true := by decide +kernel
def bo_170_155 : List ZO := [(.istore 8, 8, 0, 0), (.lload 5, 5, 0, 0), (.iload 8, 8, 0, 0), (.ifCond .eq 33, 194, 0, 0), (.iload_n 1, 1, 0, 0), (.iload 7, 7, 0, 0), (.invokestatic 251, 105, 1, 0), (.invokestatic 293, 106, 2, 0), (.i2l, 0, 0, 0), (.bipush 10, 10, 0, 0), (.iload_n 1, 1, 0, 0), (.isub, 0, 0, 0), (.iload 4, 4, 0, 0), (.iload 7, 7, 0, 0), (.invokestatic 251, 105, 1, 0), (.isub, 0, 0, 0), (.invokestatic 293, 106, 2, 0), (.i2l, 0, 0, 0), (.lmul, 0, 0, 0), (.goto 4, 195, 0, 0)]
theorem cb_170_155 : z_chk 170 bo_170_155 155 0 [1004, 1104, 1004, 1104] = true := by decide +kernel
def bo_170_194 : List ZO := [(.lconst 0, 0, 0, 0), (.ladd, 0, 0, 0), (.lstore 5, 5, 0, 0), (.iinc 7 1, 1, 7, 0), (.goto (-158), 43, 0, 0)]
theorem cb_170_194 : z_chk 170 bo_170_194 194 0 [] = true := by decide +kernel
def bo_170_195 : List ZO := [(.ladd, 0, 0, 0), (.lstore 5, 5, 0, 0), (.iinc 7 1, 1, 7, 0), (.goto (-158), 43, 0, 0)]
theorem cb_170_195 : z_chk 170 bo_170_195 195 0 [] = true := by decide +kernel
def bo_170_198 : List ZO := [(.iinc 7 1, 1, 7, 0), (.goto (-158), 43, 0, 0)]
theorem cb_170_198 : z_chk 170 bo_170_198 198 0 [] = true := by decide +kernel
def bo_170_204 : List ZO := [(.lload 5, 5, 0, 0), (.bipush 10, 10, 0, 0), (.iload 4, 4, 0, 0), (.invokestatic 293, 106, 2, 0), (.i2l, 0, 0, 0), (.iload_n 2, 2, 0, 0), (.invokestatic 287, 108, 3, 0), (.ireturn, 0, 0, 0)]
theorem cb_170_204 : z_chk 170 bo_170_204 204 0 [1104, 1096] = true := by decide +kernel
def bk_170 : List (Nat × ZE) := [(0, false, [true, true, true, false, false, false, false, false, false], bo_170_0, 0), (15, false, [true, true, true, false, false, false, false, false, false], bo_170_15, 43), (43, true, [true, true, true, true, true, true, false, true, false], bo_170_43, 77), (77, true, [true, true, true, true, true, true, false, true, true], bo_170_77, 0), (109, false, [true, true, true, true, true, true, false, true, true], bo_170_109, 0), (119, false, [true, true, true, true, true, true, false, true, true], bo_170_119, 0), (126, false, [true, true, true, true, true, true, false, true, false], bo_170_126, 0), (154, false, [true, true, true, true, true, true, false, true, false], bo_170_154, 0), (155, false, [true, true, true, true, true, true, false, true, false], bo_170_155, 0), (194, false, [true, true, true, true, true, false, false, true, false], bo_170_194, 0), (195, false, [true, true, true, true, true, false, false, true, false], bo_170_195, 0), (198, false, [true, true, true, true, true, true, false, true, false], bo_170_198, 0), (204, false, [false, false, true, false, true, true, false, false, false], bo_170_204, 0)]
theorem ck_170 : z_chks 170 bk_170 [[1103, 837], [717, 908, 1004], [717, 721, 722, 989], [717, 722, 905], [722], [], [1036, 722, 897, 1004, 713], [1004, 1104, 1004, 1104], [1004, 1104, 1004, 1104], [], [], [], [1104, 1096]] = true := z_chks_cons cb_170_0 (z_chks_cons cb_170_15 (z_chks_cons cb_170_43 (z_chks_cons cb_170_77 (z_chks_cons cb_170_109 (z_chks_cons cb_170_119 (z_chks_cons cb_170_126 (z_chks_cons cb_170_154 (z_chks_cons cb_170_155 (z_chks_cons cb_170_194 (z_chks_cons cb_170_195 (z_chks_cons cb_170_198 (z_chks_cons cb_170_204 (z_chks_nil)))))))))))))
theorem bf_170_0 : z_fd bk_170 0 = some (false, [true, true, true, false, false, false, false, false, false], bo_170_0, 0) := rfl
theorem bf_170_15 : z_fd bk_170 15 = some (false, [true, true, true, false, false, false, false, false, false], bo_170_15, 43) := rfl
theorem bf_170_43 : z_fd bk_170 43 = some (true, [true, true, true, true, true, true, false, true, false], bo_170_43, 77) := rfl
theorem bf_170_77 : z_fd bk_170 77 = some (true, [true, true, true, true, true, true, false, true, true], bo_170_77, 0) := rfl
theorem bf_170_109 : z_fd bk_170 109 = some (false, [true, true, true, true, true, true, false, true, true], bo_170_109, 0) := rfl
theorem bf_170_119 : z_fd bk_170 119 = some (false, [true, true, true, true, true, true, false, true, true], bo_170_119, 0) := rfl
theorem bf_170_126 : z_fd bk_170 126 = some (false, [true, true, true, true, true, true, false, true, false], bo_170_126, 0) := rfl
theorem bf_170_154 : z_fd bk_170 154 = some (false, [true, true, true, true, true, true, false, true, false], bo_170_154, 0) := rfl
theorem bf_170_155 : z_fd bk_170 155 = some (false, [true, true, true, true, true, true, false, true, false], bo_170_155, 0) := rfl
theorem bf_170_194 : z_fd bk_170 194 = some (false, [true, true, true, true, true, false, false, true, false], bo_170_194, 0) := rfl
theorem bf_170_195 : z_fd bk_170 195 = some (false, [true, true, true, true, true, false, false, true, false], bo_170_195, 0) := rfl
theorem bf_170_198 : z_fd bk_170 198 = some (false, [true, true, true, true, true, true, false, true, false], bo_170_198, 0) := rfl
theorem bf_170_204 : z_fd bk_170 204 = some (false, [false, false, true, false, true, true, false, false, false], bo_170_204, 0) := rfl
theorem cl_170 : z_mL 170 = 9 := by decide +kernel
theorem cz_170 : plainFor (z_my 170) = true ∧ ((z_rm 170).cells = 0 ∧ (z_rm 170).slots = 0) := by decide +kernel
-- 171 Model_seed
def bo_171_0 : List ZO := [(.aload_n 0, 0, 0, 0), (.getfield 296, 7, 22, 1), (.lstore_n 3, 3, 0, 0), (.aload_n 0, 0, 0, 0), (.lload_n 1, 1, 0, 0), (.putfield 296, 7, 22, 1), (.lload_n 3, 3, 0, 0), (.lreturn, 0, 0, 0)]
def bk_171 : List (Nat × ZE) := [(0, false, [true, true, false, false, false], bo_171_0, 0)]
theorem ck_171 : z_chks 171 bk_171 [[733, 733]] = true := by decide +kernel
theorem bf_171_0 : z_fd bk_171 0 = some (false, [true, true, false, false, false], bo_171_0, 0) := rfl
theorem cl_171 : z_mL 171 = 5 := by decide +kernel
theorem cz_171 : plainFor (z_my 171) = true ∧ ((z_rm 171).cells = 0 ∧ (z_rm 171).slots = 0) := by decide +kernel
-- 172 Model_drawn
def bo_172_0 : List ZO := [(.iload_n 1, 1, 0, 0), (.i2l, 0, 0, 0), (.lconst 1, 1, 0, 0), (.ldc2_w 276, 20, 0, 0), (.invokestatic 102, 103, 3, 0), (.ifCond .ne 6, 15, 0, 0), (.bipush (-2), 2, 0, 1), (.ireturn, 0, 0, 0)]
theorem cb_172_0 : z_chk 172 bo_172_0 0 0 [1072, 837] = true := by decide +kernel
def bo_172_15 : List ZO := [(.aload_n 0, 0, 0, 0), (.getfield 31, 7, 10, 2), (.aload_n 0, 0, 0, 0), (.getfield 34, 7, 11, 2), (.invokestatic 199, 102, 2, 0), (.iconst 0, 0, 0, 0), (.istore_n 2, 2, 0, 0), (.iconst 0, 0, 0, 0), (.istore_n 3, 3, 0, 0)]
theorem cb_172_15 : z_chk 172 bo_172_15 15 30 [721, 722, 989] = true := by decide +kernel
def bo_172_30 : List ZO := [(.iload_n 3, 3, 0, 0), (.iload_n 1, 1, 0, 0), (.if_icmp .ge 123, 155, 0, 0), (.aload_n 0, 0, 0, 0), (.aload_n 0, 0, 0, 0), (.getfield 296, 7, 22, 1), (.ldc2_w 300, 6364136223846793005, 0, 0), (.lmul, 0, 0, 0), (.ldc2_w 302, 1442695040888963407, 0, 0), (.ladd, 0, 0, 0), (.putfield 296, 7, 22, 1), (.aload_n 0, 0, 0, 0), (.getfield 296, 7, 22, 1), (.bipush 33, 33, 0, 0), (.lushr, 0, 0, 0), (.l2i, 0, 0, 0), (.istore 4, 4, 0, 0), (.aload_n 0, 0, 0, 0), (.getfield 110, 7, 6, 0), (.ifCond .le 84, 149, 0, 0), (.iload 4, 4, 0, 0), (.aload_n 0, 0, 0, 0), (.getfield 110, 7, 6, 0), (.irem, 0, 0, 0), (.istore 5, 5, 0, 0), (.aload_n 0, 0, 0, 0), (.getfield 34, 7, 11, 2), (.bipush 58, 58, 0, 0), (.iload 5, 5, 0, 0), (.iadd, 0, 0, 0), (.iload 4, 4, 0, 0), (.bipush 16, 16, 0, 0), (.idiv, 0, 0, 0), (.iconst 2, 2, 0, 0), (.irem, 0, 0, 0), (.ifCond .ne 18, 111, 0, 0), (.iconst 1, 1, 0, 0), (.aload_n 0, 0, 0, 0), (.getfield 34, 7, 11, 2), (.bipush 58, 58, 0, 0), (.iload 5, 5, 0, 0), (.iadd, 0, 0, 0), (.iaload, 0, 0, 0), (.isub, 0, 0, 0), (.goto 13, 121, 0, 0)]
theorem cb_172_30 : z_chk 172 bo_172_30 30 0 [733, 1115, 1116, 733, 733, 717, 717, 722, 722] = true := by decide +kernel
def bo_172_111 : List ZO := [(.aload_n 0, 0, 0, 0), (.getfield 34, 7, 11, 2), (.bipush 58, 58, 0, 0), (.iload 5, 5, 0, 0), (.iadd, 0, 0, 0), (.iaload, 0, 0, 0), (.iastore, 0, 0, 0), (.aload_n 0, 0, 0, 0), (.aload_n 0, 0, 0, 0), (.getfield 34, 7, 11, 2), (.invokevirtual 209, 135, 2, 8), (.iload_n 2, 2, 0, 0), (.aload_n 0, 0, 0, 0), (.getfield 99, 7, 2, 0), (.aload_n 0, 0, 0, 0), (.aload_n 0, 0, 0, 0), (.getfield 34, 7, 11, 2), (.invokevirtual 220, 138, 2, 8), (.invokestatic 251, 105, 1, 0), (.isub, 0, 0, 0), (.iadd, 0, 0, 0), (.istore_n 2, 2, 0, 0), (.iinc 3 1, 1, 3, 0), (.goto (-122), 30, 0, 0)]
theorem cb_172_111 : z_chk 172 bo_172_111 111 0 [722, 722, 985, 713, 722, 897, 1004] = true := by decide +kernel
def bo_172_121 : List ZO := [(.iastore, 0, 0, 0), (.aload_n 0, 0, 0, 0), (.aload_n 0, 0, 0, 0), (.getfield 34, 7, 11, 2), (.invokevirtual 209, 135, 2, 8), (.iload_n 2, 2, 0, 0), (.aload_n 0, 0, 0, 0), (.getfield 99, 7, 2, 0), (.aload_n 0, 0, 0, 0), (.aload_n 0, 0, 0, 0), (.getfield 34, 7, 11, 2), (.invokevirtual 220, 138, 2, 8), (.invokestatic 251, 105, 1, 0), (.isub, 0, 0, 0), (.iadd, 0, 0, 0), (.istore_n 2, 2, 0, 0), (.iinc 3 1, 1, 3, 0), (.goto (-122), 30, 0, 0)]
theorem cb_172_121 : z_chk 172 bo_172_121 121 0 [722, 985, 713, 722, 897, 1004] = true := by decide +kernel
def bo_172_149 : List ZO := [(.iinc 3 1, 1, 3, 0), (.goto (-122), 30, 0, 0)]
theorem cb_172_149 : z_chk 172 bo_172_149 149 0 [] = true := by decide +kernel
def bo_172_155 : List ZO := [(.iload_n 2, 2, 0, 0), (.ireturn, 0, 0, 0)]
theorem cb_172_155 : z_chk 172 bo_172_155 155 0 [] = true := by decide +kernel
def bk_172 : List (Nat × ZE) := [(0, false, [true, true, false, false, false, false], bo_172_0, 0), (15, false, [true, true, false, false, false, false], bo_172_15, 30), (30, true, [true, true, true, true, false, false], bo_172_30, 0), (111, false, [true, true, true, true, false, true], bo_172_111, 0), (121, false, [true, true, true, true, false, false], bo_172_121, 0), (149, false, [true, true, true, true, false, false], bo_172_149, 0), (155, false, [false, false, true, false, false, false], bo_172_155, 0)]
theorem ck_172 : z_chks 172 bk_172 [[1072, 837], [721, 722, 989], [733, 1115, 1116, 733, 733, 717, 717, 722, 722], [722, 722, 985, 713, 722, 897, 1004], [722, 985, 713, 722, 897, 1004], [], []] = true := z_chks_cons cb_172_0 (z_chks_cons cb_172_15 (z_chks_cons cb_172_30 (z_chks_cons cb_172_111 (z_chks_cons cb_172_121 (z_chks_cons cb_172_149 (z_chks_cons cb_172_155 (z_chks_nil)))))))
theorem bf_172_0 : z_fd bk_172 0 = some (false, [true, true, false, false, false, false], bo_172_0, 0) := rfl
theorem bf_172_15 : z_fd bk_172 15 = some (false, [true, true, false, false, false, false], bo_172_15, 30) := rfl
theorem bf_172_30 : z_fd bk_172 30 = some (true, [true, true, true, true, false, false], bo_172_30, 0) := rfl
theorem bf_172_111 : z_fd bk_172 111 = some (false, [true, true, true, true, false, true], bo_172_111, 0) := rfl
theorem bf_172_121 : z_fd bk_172 121 = some (false, [true, true, true, true, false, false], bo_172_121, 0) := rfl
theorem bf_172_149 : z_fd bk_172 149 = some (false, [true, true, true, true, false, false], bo_172_149, 0) := rfl
theorem bf_172_155 : z_fd bk_172 155 = some (false, [false, false, true, false, false, false], bo_172_155, 0) := rfl
theorem cl_172 : z_mL 172 = 6 := by decide +kernel
theorem cz_172 : plainFor (z_my 172) = true ∧ ((z_rm 172).cells = 0 ∧ (z_rm 172).slots = 0) := by decide +kernel
-- 173 Model_keep
def bo_173_0 : List ZO := [(.iload_n 1, 1, 0, 0), (.i2l, 0, 0, 0), (.lconst 0, 0, 0, 0), (.lconst 1, 1, 0, 0), (.invokestatic 102, 103, 3, 0), (.ifCond .ne 5, 12, 0, 0), (.iconst (-1), 1, 0, 1), (.ireturn, 0, 0, 0)]
def bo_173_12 : List ZO := [(.aload_n 0, 0, 0, 0), (.getfield 46, 7, 17, 2), (.iload_n 1, 1, 0, 0), (.iconst 1, 1, 0, 0), (.bastore, 0, 0, 0), (.iconst 0, 0, 0, 0), (.istore_n 2, 2, 0, 0)]
def bo_173_21 : List ZO := [(.iload_n 2, 2, 0, 0), (.bipush 78, 78, 0, 0), (.if_icmp .ge 26, 50, 0, 0), (.aload_n 0, 0, 0, 0), (.getfield 43, 7, 16, 2), (.bipush 78, 78, 0, 0), (.iload_n 1, 1, 0, 0), (.imul, 0, 0, 0), (.iload_n 2, 2, 0, 0), (.iadd, 0, 0, 0), (.aload_n 0, 0, 0, 0), (.getfield 31, 7, 10, 2), (.iload_n 2, 2, 0, 0), (.iaload, 0, 0, 0), (.iastore, 0, 0, 0), (.iinc 2 1, 1, 2, 0), (.goto (-26), 21, 0, 0)]
def bo_173_50 : List ZO := [(.aload_n 0, 0, 0, 0), (.getfield 31, 7, 10, 2), (.bipush 77, 77, 0, 0), (.iaload, 0, 0, 0), (.ireturn, 0, 0, 0)]
def bk_173 : List (Nat × ZE) := [(0, false, [true, true, false], bo_173_0, 0), (12, false, [true, true, false], bo_173_12, 21), (21, true, [true, true, true], bo_173_21, 0), (50, false, [true, false, false], bo_173_50, 0)]
theorem ck_173 : z_chks 173 bk_173 [[837], [728], [727, 721], [721]] = true := by decide +kernel
theorem bf_173_0 : z_fd bk_173 0 = some (false, [true, true, false], bo_173_0, 0) := rfl
theorem bf_173_12 : z_fd bk_173 12 = some (false, [true, true, false], bo_173_12, 21) := rfl
theorem bf_173_21 : z_fd bk_173 21 = some (true, [true, true, true], bo_173_21, 0) := rfl
theorem bf_173_50 : z_fd bk_173 50 = some (false, [true, false, false], bo_173_50, 0) := rfl
theorem cl_173 : z_mL 173 = 3 := by decide +kernel
theorem cz_173 : plainFor (z_my 173) = true ∧ ((z_rm 173).cells = 0 ∧ (z_rm 173).slots = 0) := by decide +kernel
-- 174 Model_again
def bo_174_0 : List ZO := [(.iload_n 1, 1, 0, 0), (.i2l, 0, 0, 0), (.lconst 0, 0, 0, 0), (.lconst 1, 1, 0, 0), (.invokestatic 102, 103, 3, 0), (.ifCond .ne 5, 12, 0, 0), (.iconst (-1), 1, 0, 1), (.ireturn, 0, 0, 0)]
def bo_174_12 : List ZO := [(.aload_n 0, 0, 0, 0), (.getfield 46, 7, 17, 2), (.iload_n 1, 1, 0, 0), (.baload, 0, 0, 0), (.ifCond .ne 6, 24, 0, 0), (.bipush (-3), 3, 0, 1), (.ireturn, 0, 0, 0)]
def bo_174_24 : List ZO := [(.iconst 0, 0, 0, 0), (.istore_n 2, 2, 0, 0)]
def bo_174_26 : List ZO := [(.iload_n 2, 2, 0, 0), (.bipush 78, 78, 0, 0), (.if_icmp .ge 26, 55, 0, 0), (.aload_n 0, 0, 0, 0), (.getfield 31, 7, 10, 2), (.iload_n 2, 2, 0, 0), (.aload_n 0, 0, 0, 0), (.getfield 43, 7, 16, 2), (.bipush 78, 78, 0, 0), (.iload_n 1, 1, 0, 0), (.imul, 0, 0, 0), (.iload_n 2, 2, 0, 0), (.iadd, 0, 0, 0), (.iaload, 0, 0, 0), (.iastore, 0, 0, 0), (.iinc 2 1, 1, 2, 0), (.goto (-26), 26, 0, 0)]
def bo_174_55 : List ZO := [(.aload_n 0, 0, 0, 0), (.iconst 0, 0, 0, 0), (.putfield 165, 7, 14, 0), (.aload_n 0, 0, 0, 0), (.getfield 31, 7, 10, 2), (.bipush 77, 77, 0, 0), (.iaload, 0, 0, 0), (.ireturn, 0, 0, 0)]
def bk_174 : List (Nat × ZE) := [(0, false, [true, true, false], bo_174_0, 0), (12, false, [true, true, false], bo_174_12, 0), (24, false, [true, true, false], bo_174_24, 26), (26, true, [true, true, true], bo_174_26, 0), (55, false, [true, false, false], bo_174_55, 0)]
theorem ck_174 : z_chks 174 bk_174 [[837], [728], [], [721, 727], [725, 721]] = true := by decide +kernel
theorem bf_174_0 : z_fd bk_174 0 = some (false, [true, true, false], bo_174_0, 0) := rfl
theorem bf_174_12 : z_fd bk_174 12 = some (false, [true, true, false], bo_174_12, 0) := rfl
theorem bf_174_24 : z_fd bk_174 24 = some (false, [true, true, false], bo_174_24, 26) := rfl
theorem bf_174_26 : z_fd bk_174 26 = some (true, [true, true, true], bo_174_26, 0) := rfl
theorem bf_174_55 : z_fd bk_174 55 = some (false, [true, false, false], bo_174_55, 0) := rfl
theorem cl_174 : z_mL 174 = 3 := by decide +kernel
theorem cz_174 : plainFor (z_my 174) = true ∧ ((z_rm 174).cells = 0 ∧ (z_rm 174).slots = 0) := by decide +kernel
