abbrev q_X7_init : MI := (yX7_init, cX7_init, 1, none)
def t_X7_init : Tab := [(0, [], (.aload_n 0, 1, 0, [], .returned)),
  (1, [142, 120, 119], (.invokespecial 3, 4, 1, [], .returned)),
  (4, [], (.aload_n 0, 5, 0, [], .returned)),
  (5, [], (.iconst 3, 6, 0, [], .constant "" 0 (3))),
  (6, [], (.bipush 6, 8, 0, [], .constant "" 0 (6))),
  (8, [143, 144, 177], (.multianewarray 11 2, 12, 8, [3], .arrayClass .long)),
  (12, [154], (.putfield 13, 15, 7, [8, 2], .returned)),
  (15, [], (.aload_n 0, 16, 0, [], .returned)),
  (16, [], (.iconst 3, 17, 0, [], .constant "" 0 (3))),
  (17, [178], (.newarray .int, 19, 0, [], .returned)),
  (19, [155], (.putfield 16, 22, 7, [9, 2], .returned)),
  (22, [], (.return_, 23, 0, [], .returned))]
theorem ck_X7_init : okT q_X7_init t_X7_init = true := by decide +kernel
theorem e_X7_init_0 : lk t_X7_init 0 = some (.aload_n 0, 1, 0, [], .returned) := rfl
theorem e_X7_init_1 : lk t_X7_init 1 = some (.invokespecial 3, 4, 1, [], .returned) := rfl
theorem e_X7_init_4 : lk t_X7_init 4 = some (.aload_n 0, 5, 0, [], .returned) := rfl
theorem e_X7_init_5 : lk t_X7_init 5 = some (.iconst 3, 6, 0, [], .constant "" 0 (3)) := rfl
theorem e_X7_init_6 : lk t_X7_init 6 = some (.bipush 6, 8, 0, [], .constant "" 0 (6)) := rfl
theorem e_X7_init_8 : lk t_X7_init 8 = some (.multianewarray 11 2, 12, 8, [3], .arrayClass .long) := rfl
theorem e_X7_init_12 : lk t_X7_init 12 = some (.putfield 13, 15, 7, [8, 2], .returned) := rfl
theorem e_X7_init_15 : lk t_X7_init 15 = some (.aload_n 0, 16, 0, [], .returned) := rfl
theorem e_X7_init_16 : lk t_X7_init 16 = some (.iconst 3, 17, 0, [], .constant "" 0 (3)) := rfl
theorem e_X7_init_17 : lk t_X7_init 17 = some (.newarray .int, 19, 0, [], .returned) := rfl
theorem e_X7_init_19 : lk t_X7_init 19 = some (.putfield 16, 22, 7, [9, 2], .returned) := rfl
theorem e_X7_init_22 : lk t_X7_init 22 = some (.return_, 23, 0, [], .returned) := rfl
abbrev q_X7_read : MI := (yX7_read, cX7_read, 6, (some .int))
def t_X7_read : Tab := [(0, [], (.aload_n 0, 1, 0, [], .returned)),
  (1, [], (.iload_n 2, 2, 2, [], .returned)),
  (2, [], (.aload_n 1, 3, 1, [], .returned)),
  (3, [], (.arraylength, 4, 0, [], .returned)),
  (4, [494, 496, 495, 103], (.invokestatic 20, 7, 1, [], .returned)),
  (7, [148], (.putfield 26, 10, 7, [2, 0], .returned)),
  (10, [], (.aload_n 0, 11, 0, [], .returned)),
  (11, [], (.iconst 0, 12, 0, [], .constant "" 0 (0))),
  (12, [147], (.putfield 30, 15, 7, [1, 0], .returned)),
  (15, [], (.aload_n 0, 16, 0, [], .returned)),
  (16, [], (.iconst 0, 17, 0, [], .constant "" 0 (0))),
  (17, [152], (.putfield 33, 20, 7, [6, 0], .returned)),
  (20, [], (.aload_n 0, 21, 0, [], .returned)),
  (21, [], (.iconst 0, 22, 0, [], .constant "" 0 (0))),
  (22, [153], (.putfield 36, 25, 7, [7, 3], .returned)),
  (25, [], (.aload_n 0, 26, 0, [], .returned)),
  (26, [155], (.getfield 16, 29, 7, [9, 2], .returned)),
  (29, [], (.iconst 0, 30, 0, [], .constant "" 0 (0))),
  (30, [497, 499, 498, 104], (.invokestatic 40, 33, 0, [2, 0, 0], .code yJ7_fill_53178 cJ7_fill_53178 4 none)),
  (33, [], (.aload_n 3, 34, 3, [], .returned)),
  (34, [500, 503, 501, 502, 99], (.invokevirtual 46, 37, 0, [0, 0, 0, 0], .code yX0_clear cX0_clear 1 none)),
  (37, [], (.iconst 1, 38, 0, [], .constant "" 0 (1))),
  (38, [], (.istore 4, 40, 4, [], .returned)),
  (40, [], (.iconst 0, 41, 0, [], .constant "" 0 (0))),
  (41, [], (.istore 5, 43, 5, [], .returned)),
  (43, [], (.iload 5, 45, 5, [], .returned)),
  (45, [], (.sipush 500, 48, 0, [], .constant "" 0 (500))),
  (48, [], (.if_icmp .gt 43, 51, 91, [], .returned)),
  (51, [], (.iload 4, 53, 4, [], .returned)),
  (53, [], (.ifCond .eq 38, 56, 91, [], .returned)),
  (56, [], (.aload_n 0, 57, 0, [], .returned)),
  (57, [], (.aload_n 1, 58, 1, [], .returned)),
  (58, [504, 507, 506, 1, 94], (.invokevirtual 51, 61, 0, [1, 7, 0, 0], .code yX7_advance cX7_advance 3 none)),
  (61, [], (.aload_n 0, 62, 0, [], .returned)),
  (62, [], (.aload_n 1, 63, 1, [], .returned)),
  (63, [], (.aload_n 3, 64, 3, [], .returned)),
  (64, [518, 521, 520, 4, 94], (.invokevirtual 55, 67, 0, [2, 7, 0, 0], .code yX7_readLine cX7_readLine 3 (some .boolean))),
  (67, [], (.ifCond .eq 15, 70, 82, [], .returned)),
  (70, [], (.aload_n 0, 71, 0, [], .returned)),
  (71, [149], (.getfield 59, 74, 7, [3, 0], .returned)),
  (74, [], (.iconst 3, 75, 0, [], .constant "" 0 (3))),
  (75, [], (.if_icmp .ne 7, 78, 82, [], .returned)),
  (78, [], (.iconst 1, 79, 0, [], .constant "" 0 (1))),
  (79, [], (.goto 4, 82, 83, [], .returned)),
  (82, [], (.iconst 0, 83, 0, [], .constant "" 0 (0))),
  (83, [], (.istore 4, 85, 4, [], .returned)),
  (85, [], (.iinc 5 1, 88, 5, [], .constant "" 0 (1))),
  (88, [], (.goto (-45), 91, 43, [], .returned)),
  (91, [], (.aload_n 0, 92, 0, [], .returned)),
  (92, [152], (.getfield 33, 95, 7, [6, 0], .returned)),
  (95, [], (.ifCond .ne 19, 98, 114, [], .returned)),
  (98, [], (.aload_n 0, 99, 0, [], .returned)),
  (99, [149], (.getfield 59, 102, 7, [3, 0], .returned)),
  (102, [], (.ifCond .eq 12, 105, 114, [], .returned)),
  (105, [], (.aload_n 0, 106, 0, [], .returned)),
  (106, [], (.iconst 1, 107, 0, [], .constant "" 0 (1))),
  (107, [527, 530, 529, 6, 94], (.invokevirtual 62, 110, 0, [1, 7, 0, 0], .code yX7_fail cX7_fail 2 (some .boolean))),
  (110, [], (.pop, 111, 0, [], .returned)),
  (111, [], (.goto 24, 114, 135, [], .returned)),
  (114, [], (.aload_n 0, 115, 0, [], .returned)),
  (115, [152], (.getfield 33, 118, 7, [6, 0], .returned)),
  (118, [], (.ifCond .ne 17, 121, 135, [], .returned)),
  (121, [], (.aload_n 3, 122, 3, [], .returned)),
  (122, [400], (.getfield 66, 125, 0, [4, 0], .returned)),
  (125, [], (.ifCond .ne 10, 128, 135, [], .returned)),
  (128, [], (.aload_n 0, 129, 0, [], .returned)),
  (129, [], (.bipush 6, 131, 0, [], .constant "" 0 (6))),
  (131, [527, 530, 529, 6, 94], (.invokevirtual 62, 134, 0, [1, 7, 0, 0], .code yX7_fail cX7_fail 2 (some .boolean))),
  (134, [], (.pop, 135, 0, [], .returned)),
  (135, [], (.aload_n 0, 136, 0, [], .returned)),
  (136, [152], (.getfield 33, 139, 7, [6, 0], .returned)),
  (139, [], (.ireturn, 140, 0, [], .returned))]
theorem ck_X7_read : okT q_X7_read t_X7_read = true := by decide +kernel
theorem e_X7_read_0 : lk t_X7_read 0 = some (.aload_n 0, 1, 0, [], .returned) := rfl
theorem e_X7_read_1 : lk t_X7_read 1 = some (.iload_n 2, 2, 2, [], .returned) := rfl
theorem e_X7_read_2 : lk t_X7_read 2 = some (.aload_n 1, 3, 1, [], .returned) := rfl
theorem e_X7_read_3 : lk t_X7_read 3 = some (.arraylength, 4, 0, [], .returned) := rfl
theorem e_X7_read_4 : lk t_X7_read 4 = some (.invokestatic 20, 7, 1, [], .returned) := rfl
theorem e_X7_read_7 : lk t_X7_read 7 = some (.putfield 26, 10, 7, [2, 0], .returned) := rfl
theorem e_X7_read_10 : lk t_X7_read 10 = some (.aload_n 0, 11, 0, [], .returned) := rfl
theorem e_X7_read_11 : lk t_X7_read 11 = some (.iconst 0, 12, 0, [], .constant "" 0 (0)) := rfl
theorem e_X7_read_12 : lk t_X7_read 12 = some (.putfield 30, 15, 7, [1, 0], .returned) := rfl
theorem e_X7_read_15 : lk t_X7_read 15 = some (.aload_n 0, 16, 0, [], .returned) := rfl
theorem e_X7_read_16 : lk t_X7_read 16 = some (.iconst 0, 17, 0, [], .constant "" 0 (0)) := rfl
theorem e_X7_read_17 : lk t_X7_read 17 = some (.putfield 33, 20, 7, [6, 0], .returned) := rfl
theorem e_X7_read_20 : lk t_X7_read 20 = some (.aload_n 0, 21, 0, [], .returned) := rfl
theorem e_X7_read_21 : lk t_X7_read 21 = some (.iconst 0, 22, 0, [], .constant "" 0 (0)) := rfl
theorem e_X7_read_22 : lk t_X7_read 22 = some (.putfield 36, 25, 7, [7, 3], .returned) := rfl
theorem e_X7_read_25 : lk t_X7_read 25 = some (.aload_n 0, 26, 0, [], .returned) := rfl
theorem e_X7_read_26 : lk t_X7_read 26 = some (.getfield 16, 29, 7, [9, 2], .returned) := rfl
theorem e_X7_read_29 : lk t_X7_read 29 = some (.iconst 0, 30, 0, [], .constant "" 0 (0)) := rfl
theorem e_X7_read_30 : lk t_X7_read 30 = some (.invokestatic 40, 33, 0, [2, 0, 0], .code yJ7_fill_53178 cJ7_fill_53178 4 none) := rfl
theorem e_X7_read_33 : lk t_X7_read 33 = some (.aload_n 3, 34, 3, [], .returned) := rfl
theorem e_X7_read_34 : lk t_X7_read 34 = some (.invokevirtual 46, 37, 0, [0, 0, 0, 0], .code yX0_clear cX0_clear 1 none) := rfl
theorem e_X7_read_37 : lk t_X7_read 37 = some (.iconst 1, 38, 0, [], .constant "" 0 (1)) := rfl
theorem e_X7_read_38 : lk t_X7_read 38 = some (.istore 4, 40, 4, [], .returned) := rfl
theorem e_X7_read_40 : lk t_X7_read 40 = some (.iconst 0, 41, 0, [], .constant "" 0 (0)) := rfl
theorem e_X7_read_41 : lk t_X7_read 41 = some (.istore 5, 43, 5, [], .returned) := rfl
theorem e_X7_read_43 : lk t_X7_read 43 = some (.iload 5, 45, 5, [], .returned) := rfl
theorem e_X7_read_45 : lk t_X7_read 45 = some (.sipush 500, 48, 0, [], .constant "" 0 (500)) := rfl
theorem e_X7_read_48 : lk t_X7_read 48 = some (.if_icmp .gt 43, 51, 91, [], .returned) := rfl
theorem e_X7_read_51 : lk t_X7_read 51 = some (.iload 4, 53, 4, [], .returned) := rfl
theorem e_X7_read_53 : lk t_X7_read 53 = some (.ifCond .eq 38, 56, 91, [], .returned) := rfl
theorem e_X7_read_56 : lk t_X7_read 56 = some (.aload_n 0, 57, 0, [], .returned) := rfl
theorem e_X7_read_57 : lk t_X7_read 57 = some (.aload_n 1, 58, 1, [], .returned) := rfl
theorem e_X7_read_58 : lk t_X7_read 58 = some (.invokevirtual 51, 61, 0, [1, 7, 0, 0], .code yX7_advance cX7_advance 3 none) := rfl
theorem e_X7_read_61 : lk t_X7_read 61 = some (.aload_n 0, 62, 0, [], .returned) := rfl
theorem e_X7_read_62 : lk t_X7_read 62 = some (.aload_n 1, 63, 1, [], .returned) := rfl
theorem e_X7_read_63 : lk t_X7_read 63 = some (.aload_n 3, 64, 3, [], .returned) := rfl
theorem e_X7_read_64 : lk t_X7_read 64 = some (.invokevirtual 55, 67, 0, [2, 7, 0, 0], .code yX7_readLine cX7_readLine 3 (some .boolean)) := rfl
theorem e_X7_read_67 : lk t_X7_read 67 = some (.ifCond .eq 15, 70, 82, [], .returned) := rfl
theorem e_X7_read_70 : lk t_X7_read 70 = some (.aload_n 0, 71, 0, [], .returned) := rfl
theorem e_X7_read_71 : lk t_X7_read 71 = some (.getfield 59, 74, 7, [3, 0], .returned) := rfl
theorem e_X7_read_74 : lk t_X7_read 74 = some (.iconst 3, 75, 0, [], .constant "" 0 (3)) := rfl
theorem e_X7_read_75 : lk t_X7_read 75 = some (.if_icmp .ne 7, 78, 82, [], .returned) := rfl
theorem e_X7_read_78 : lk t_X7_read 78 = some (.iconst 1, 79, 0, [], .constant "" 0 (1)) := rfl
theorem e_X7_read_79 : lk t_X7_read 79 = some (.goto 4, 82, 83, [], .returned) := rfl
theorem e_X7_read_82 : lk t_X7_read 82 = some (.iconst 0, 83, 0, [], .constant "" 0 (0)) := rfl
theorem e_X7_read_83 : lk t_X7_read 83 = some (.istore 4, 85, 4, [], .returned) := rfl
theorem e_X7_read_85 : lk t_X7_read 85 = some (.iinc 5 1, 88, 5, [], .constant "" 0 (1)) := rfl
theorem e_X7_read_88 : lk t_X7_read 88 = some (.goto (-45), 91, 43, [], .returned) := rfl
theorem e_X7_read_91 : lk t_X7_read 91 = some (.aload_n 0, 92, 0, [], .returned) := rfl
theorem e_X7_read_92 : lk t_X7_read 92 = some (.getfield 33, 95, 7, [6, 0], .returned) := rfl
theorem e_X7_read_95 : lk t_X7_read 95 = some (.ifCond .ne 19, 98, 114, [], .returned) := rfl
theorem e_X7_read_98 : lk t_X7_read 98 = some (.aload_n 0, 99, 0, [], .returned) := rfl
theorem e_X7_read_99 : lk t_X7_read 99 = some (.getfield 59, 102, 7, [3, 0], .returned) := rfl
theorem e_X7_read_102 : lk t_X7_read 102 = some (.ifCond .eq 12, 105, 114, [], .returned) := rfl
theorem e_X7_read_105 : lk t_X7_read 105 = some (.aload_n 0, 106, 0, [], .returned) := rfl
theorem e_X7_read_106 : lk t_X7_read 106 = some (.iconst 1, 107, 0, [], .constant "" 0 (1)) := rfl
theorem e_X7_read_107 : lk t_X7_read 107 = some (.invokevirtual 62, 110, 0, [1, 7, 0, 0], .code yX7_fail cX7_fail 2 (some .boolean)) := rfl
theorem e_X7_read_110 : lk t_X7_read 110 = some (.pop, 111, 0, [], .returned) := rfl
theorem e_X7_read_111 : lk t_X7_read 111 = some (.goto 24, 114, 135, [], .returned) := rfl
theorem e_X7_read_114 : lk t_X7_read 114 = some (.aload_n 0, 115, 0, [], .returned) := rfl
theorem e_X7_read_115 : lk t_X7_read 115 = some (.getfield 33, 118, 7, [6, 0], .returned) := rfl
theorem e_X7_read_118 : lk t_X7_read 118 = some (.ifCond .ne 17, 121, 135, [], .returned) := rfl
theorem e_X7_read_121 : lk t_X7_read 121 = some (.aload_n 3, 122, 3, [], .returned) := rfl
theorem e_X7_read_122 : lk t_X7_read 122 = some (.getfield 66, 125, 0, [4, 0], .returned) := rfl
theorem e_X7_read_125 : lk t_X7_read 125 = some (.ifCond .ne 10, 128, 135, [], .returned) := rfl
theorem e_X7_read_128 : lk t_X7_read 128 = some (.aload_n 0, 129, 0, [], .returned) := rfl
theorem e_X7_read_129 : lk t_X7_read 129 = some (.bipush 6, 131, 0, [], .constant "" 0 (6)) := rfl
theorem e_X7_read_131 : lk t_X7_read 131 = some (.invokevirtual 62, 134, 0, [1, 7, 0, 0], .code yX7_fail cX7_fail 2 (some .boolean)) := rfl
theorem e_X7_read_134 : lk t_X7_read 134 = some (.pop, 135, 0, [], .returned) := rfl
theorem e_X7_read_135 : lk t_X7_read 135 = some (.aload_n 0, 136, 0, [], .returned) := rfl
theorem e_X7_read_136 : lk t_X7_read 136 = some (.getfield 33, 139, 7, [6, 0], .returned) := rfl
theorem e_X7_read_139 : lk t_X7_read 139 = some (.ireturn, 140, 0, [], .returned) := rfl
abbrev q_X7_readLine : MI := (yX7_readLine, cX7_readLine, 3, (some .boolean))
def t_X7_readLine : Tab := [(0, [], (.aload_n 0, 1, 0, [], .returned)),
  (1, [522], (.ldc2_w 69, 4, 0, [], .constantLong "" 0 (1684370283))),
  (4, [523, 526, 525, 5, 94], (.invokevirtual 71, 7, 0, [1, 7, 0, 0], .code yX7_isWord cX7_isWord 3 (some .boolean))),
  (7, [], (.ifCond .eq 25, 10, 32, [], .returned)),
  (10, [], (.aload_n 0, 11, 0, [], .returned)),
  (11, [153], (.getfield 36, 14, 7, [7, 0], .returned)),
  (14, [], (.ifCond .eq 11, 17, 25, [], .returned)),
  (17, [], (.aload_n 0, 18, 0, [], .returned)),
  (18, [], (.iconst 4, 19, 0, [], .constant "" 0 (4))),
  (19, [527, 530, 529, 6, 94], (.invokevirtual 62, 22, 0, [1, 7, 0, 0], .code yX7_fail cX7_fail 2 (some .boolean))),
  (22, [], (.goto 9, 25, 31, [], .returned)),
  (25, [], (.aload_n 0, 26, 0, [], .returned)),
  (26, [], (.aload_n 1, 27, 1, [], .returned)),
  (27, [], (.aload_n 2, 28, 2, [], .returned)),
  (28, [531, 534, 533, 7, 94], (.invokevirtual 75, 31, 0, [2, 7, 0, 0], .code yX7_readDeskLine cX7_readDeskLine 3 (some .boolean))),
  (31, [], (.ireturn, 32, 1, [], .returned)),
  (32, [], (.aload_n 0, 33, 0, [], .returned)),
  (33, [548], (.ldc2_w 78, 36, 0, [], .constantLong "" 0 (499850046565))),
  (36, [523, 526, 525, 5, 94], (.invokevirtual 71, 39, 0, [1, 7, 0, 0], .code yX7_isWord cX7_isWord 3 (some .boolean))),
  (39, [], (.ifCond .ne 29, 42, 68, [], .returned)),
  (42, [], (.aload_n 0, 43, 0, [], .returned)),
  (43, [549], (.ldc2_w 80, 46, 0, [], .constantLong "" 0 (482671682930))),
  (46, [523, 526, 525, 5, 94], (.invokevirtual 71, 49, 0, [1, 7, 0, 0], .code yX7_isWord cX7_isWord 3 (some .boolean))),
  (49, [], (.ifCond .ne 19, 52, 68, [], .returned)),
  (52, [], (.aload_n 0, 53, 0, [], .returned)),
  (53, [550], (.ldc2_w 82, 56, 0, [], .constantLong "" 0 (478660552050))),
  (56, [523, 526, 525, 5, 94], (.invokevirtual 71, 59, 0, [1, 7, 0, 0], .code yX7_isWord cX7_isWord 3 (some .boolean))),
  (59, [], (.ifCond .ne 9, 62, 68, [], .returned)),
  (62, [], (.aload_n 0, 63, 0, [], .returned)),
  (63, [], (.iconst 1, 64, 0, [], .constant "" 0 (1))),
  (64, [527, 530, 529, 6, 94], (.invokevirtual 62, 67, 0, [1, 7, 0, 0], .code yX7_fail cX7_fail 2 (some .boolean))),
  (67, [], (.ireturn, 68, 1, [], .returned)),
  (68, [], (.aload_n 0, 69, 0, [], .returned)),
  (69, [153], (.getfield 36, 72, 7, [7, 0], .returned)),
  (72, [], (.ifCond .ne 10, 75, 82, [], .returned)),
  (75, [], (.aload_n 0, 76, 0, [], .returned)),
  (76, [], (.bipush 6, 78, 0, [], .constant "" 0 (6))),
  (78, [527, 530, 529, 6, 94], (.invokevirtual 62, 81, 0, [1, 7, 0, 0], .code yX7_fail cX7_fail 2 (some .boolean))),
  (81, [], (.ireturn, 82, 1, [], .returned)),
  (82, [], (.aload_n 0, 83, 0, [], .returned)),
  (83, [548], (.ldc2_w 78, 86, 0, [], .constantLong "" 0 (499850046565))),
  (86, [523, 526, 525, 5, 94], (.invokevirtual 71, 89, 0, [1, 7, 0, 0], .code yX7_isWord cX7_isWord 3 (some .boolean))),
  (89, [], (.ifCond .eq 10, 92, 99, [], .returned)),
  (92, [], (.aload_n 0, 93, 0, [], .returned)),
  (93, [], (.aload_n 1, 94, 1, [], .returned)),
  (94, [], (.aload_n 2, 95, 2, [], .returned)),
  (95, [551, 554, 553, 10, 94], (.invokevirtual 84, 98, 0, [2, 7, 0, 0], .code yX7_readTable cX7_readTable 5 (some .boolean))),
  (98, [], (.ireturn, 99, 1, [], .returned)),
  (99, [], (.aload_n 0, 100, 0, [], .returned)),
  (100, [549], (.ldc2_w 80, 103, 0, [], .constantLong "" 0 (482671682930))),
  (103, [523, 526, 525, 5, 94], (.invokevirtual 71, 106, 0, [1, 7, 0, 0], .code yX7_isWord cX7_isWord 3 (some .boolean))),
  (106, [], (.ifCond .eq 12, 109, 118, [], .returned)),
  (109, [], (.aload_n 0, 110, 0, [], .returned)),
  (110, [], (.aload_n 1, 111, 1, [], .returned)),
  (111, [], (.aload_n 2, 112, 2, [], .returned)),
  (112, [579, 582, 581, 15, 94], (.invokevirtual 87, 115, 0, [2, 7, 0, 0], .code yX7_readPayer cX7_readPayer 3 (some .boolean))),
  (115, [], (.goto 9, 118, 124, [], .returned)),
  (118, [], (.aload_n 0, 119, 0, [], .returned)),
  (119, [], (.aload_n 1, 120, 1, [], .returned)),
  (120, [], (.aload_n 2, 121, 2, [], .returned)),
  (121, [588, 591, 590, 16, 94], (.invokevirtual 90, 124, 0, [2, 7, 0, 0], .code yX7_readOrder cX7_readOrder 4 (some .boolean))),
  (124, [], (.ireturn, 125, 1, [], .returned))]
theorem ck_X7_readLine : okT q_X7_readLine t_X7_readLine = true := by decide +kernel
theorem e_X7_readLine_0 : lk t_X7_readLine 0 = some (.aload_n 0, 1, 0, [], .returned) := rfl
theorem e_X7_readLine_1 : lk t_X7_readLine 1 = some (.ldc2_w 69, 4, 0, [], .constantLong "" 0 (1684370283)) := rfl
theorem e_X7_readLine_4 : lk t_X7_readLine 4 = some (.invokevirtual 71, 7, 0, [1, 7, 0, 0], .code yX7_isWord cX7_isWord 3 (some .boolean)) := rfl
theorem e_X7_readLine_7 : lk t_X7_readLine 7 = some (.ifCond .eq 25, 10, 32, [], .returned) := rfl
theorem e_X7_readLine_10 : lk t_X7_readLine 10 = some (.aload_n 0, 11, 0, [], .returned) := rfl
theorem e_X7_readLine_11 : lk t_X7_readLine 11 = some (.getfield 36, 14, 7, [7, 0], .returned) := rfl
theorem e_X7_readLine_14 : lk t_X7_readLine 14 = some (.ifCond .eq 11, 17, 25, [], .returned) := rfl
theorem e_X7_readLine_17 : lk t_X7_readLine 17 = some (.aload_n 0, 18, 0, [], .returned) := rfl
theorem e_X7_readLine_18 : lk t_X7_readLine 18 = some (.iconst 4, 19, 0, [], .constant "" 0 (4)) := rfl
theorem e_X7_readLine_19 : lk t_X7_readLine 19 = some (.invokevirtual 62, 22, 0, [1, 7, 0, 0], .code yX7_fail cX7_fail 2 (some .boolean)) := rfl
theorem e_X7_readLine_22 : lk t_X7_readLine 22 = some (.goto 9, 25, 31, [], .returned) := rfl
theorem e_X7_readLine_25 : lk t_X7_readLine 25 = some (.aload_n 0, 26, 0, [], .returned) := rfl
theorem e_X7_readLine_26 : lk t_X7_readLine 26 = some (.aload_n 1, 27, 1, [], .returned) := rfl
theorem e_X7_readLine_27 : lk t_X7_readLine 27 = some (.aload_n 2, 28, 2, [], .returned) := rfl
theorem e_X7_readLine_28 : lk t_X7_readLine 28 = some (.invokevirtual 75, 31, 0, [2, 7, 0, 0], .code yX7_readDeskLine cX7_readDeskLine 3 (some .boolean)) := rfl
theorem e_X7_readLine_31 : lk t_X7_readLine 31 = some (.ireturn, 32, 1, [], .returned) := rfl
theorem e_X7_readLine_32 : lk t_X7_readLine 32 = some (.aload_n 0, 33, 0, [], .returned) := rfl
theorem e_X7_readLine_33 : lk t_X7_readLine 33 = some (.ldc2_w 78, 36, 0, [], .constantLong "" 0 (499850046565)) := rfl
theorem e_X7_readLine_36 : lk t_X7_readLine 36 = some (.invokevirtual 71, 39, 0, [1, 7, 0, 0], .code yX7_isWord cX7_isWord 3 (some .boolean)) := rfl
theorem e_X7_readLine_39 : lk t_X7_readLine 39 = some (.ifCond .ne 29, 42, 68, [], .returned) := rfl
theorem e_X7_readLine_42 : lk t_X7_readLine 42 = some (.aload_n 0, 43, 0, [], .returned) := rfl
theorem e_X7_readLine_43 : lk t_X7_readLine 43 = some (.ldc2_w 80, 46, 0, [], .constantLong "" 0 (482671682930)) := rfl
theorem e_X7_readLine_46 : lk t_X7_readLine 46 = some (.invokevirtual 71, 49, 0, [1, 7, 0, 0], .code yX7_isWord cX7_isWord 3 (some .boolean)) := rfl
theorem e_X7_readLine_49 : lk t_X7_readLine 49 = some (.ifCond .ne 19, 52, 68, [], .returned) := rfl
theorem e_X7_readLine_52 : lk t_X7_readLine 52 = some (.aload_n 0, 53, 0, [], .returned) := rfl
theorem e_X7_readLine_53 : lk t_X7_readLine 53 = some (.ldc2_w 82, 56, 0, [], .constantLong "" 0 (478660552050)) := rfl
theorem e_X7_readLine_56 : lk t_X7_readLine 56 = some (.invokevirtual 71, 59, 0, [1, 7, 0, 0], .code yX7_isWord cX7_isWord 3 (some .boolean)) := rfl
theorem e_X7_readLine_59 : lk t_X7_readLine 59 = some (.ifCond .ne 9, 62, 68, [], .returned) := rfl
theorem e_X7_readLine_62 : lk t_X7_readLine 62 = some (.aload_n 0, 63, 0, [], .returned) := rfl
theorem e_X7_readLine_63 : lk t_X7_readLine 63 = some (.iconst 1, 64, 0, [], .constant "" 0 (1)) := rfl
theorem e_X7_readLine_64 : lk t_X7_readLine 64 = some (.invokevirtual 62, 67, 0, [1, 7, 0, 0], .code yX7_fail cX7_fail 2 (some .boolean)) := rfl
theorem e_X7_readLine_67 : lk t_X7_readLine 67 = some (.ireturn, 68, 1, [], .returned) := rfl
theorem e_X7_readLine_68 : lk t_X7_readLine 68 = some (.aload_n 0, 69, 0, [], .returned) := rfl
theorem e_X7_readLine_69 : lk t_X7_readLine 69 = some (.getfield 36, 72, 7, [7, 0], .returned) := rfl
theorem e_X7_readLine_72 : lk t_X7_readLine 72 = some (.ifCond .ne 10, 75, 82, [], .returned) := rfl
theorem e_X7_readLine_75 : lk t_X7_readLine 75 = some (.aload_n 0, 76, 0, [], .returned) := rfl
theorem e_X7_readLine_76 : lk t_X7_readLine 76 = some (.bipush 6, 78, 0, [], .constant "" 0 (6)) := rfl
theorem e_X7_readLine_78 : lk t_X7_readLine 78 = some (.invokevirtual 62, 81, 0, [1, 7, 0, 0], .code yX7_fail cX7_fail 2 (some .boolean)) := rfl
theorem e_X7_readLine_81 : lk t_X7_readLine 81 = some (.ireturn, 82, 1, [], .returned) := rfl
theorem e_X7_readLine_82 : lk t_X7_readLine 82 = some (.aload_n 0, 83, 0, [], .returned) := rfl
theorem e_X7_readLine_83 : lk t_X7_readLine 83 = some (.ldc2_w 78, 86, 0, [], .constantLong "" 0 (499850046565)) := rfl
theorem e_X7_readLine_86 : lk t_X7_readLine 86 = some (.invokevirtual 71, 89, 0, [1, 7, 0, 0], .code yX7_isWord cX7_isWord 3 (some .boolean)) := rfl
theorem e_X7_readLine_89 : lk t_X7_readLine 89 = some (.ifCond .eq 10, 92, 99, [], .returned) := rfl
theorem e_X7_readLine_92 : lk t_X7_readLine 92 = some (.aload_n 0, 93, 0, [], .returned) := rfl
theorem e_X7_readLine_93 : lk t_X7_readLine 93 = some (.aload_n 1, 94, 1, [], .returned) := rfl
theorem e_X7_readLine_94 : lk t_X7_readLine 94 = some (.aload_n 2, 95, 2, [], .returned) := rfl
theorem e_X7_readLine_95 : lk t_X7_readLine 95 = some (.invokevirtual 84, 98, 0, [2, 7, 0, 0], .code yX7_readTable cX7_readTable 5 (some .boolean)) := rfl
theorem e_X7_readLine_98 : lk t_X7_readLine 98 = some (.ireturn, 99, 1, [], .returned) := rfl
theorem e_X7_readLine_99 : lk t_X7_readLine 99 = some (.aload_n 0, 100, 0, [], .returned) := rfl
theorem e_X7_readLine_100 : lk t_X7_readLine 100 = some (.ldc2_w 80, 103, 0, [], .constantLong "" 0 (482671682930)) := rfl
theorem e_X7_readLine_103 : lk t_X7_readLine 103 = some (.invokevirtual 71, 106, 0, [1, 7, 0, 0], .code yX7_isWord cX7_isWord 3 (some .boolean)) := rfl
theorem e_X7_readLine_106 : lk t_X7_readLine 106 = some (.ifCond .eq 12, 109, 118, [], .returned) := rfl
theorem e_X7_readLine_109 : lk t_X7_readLine 109 = some (.aload_n 0, 110, 0, [], .returned) := rfl
theorem e_X7_readLine_110 : lk t_X7_readLine 110 = some (.aload_n 1, 111, 1, [], .returned) := rfl
theorem e_X7_readLine_111 : lk t_X7_readLine 111 = some (.aload_n 2, 112, 2, [], .returned) := rfl
theorem e_X7_readLine_112 : lk t_X7_readLine 112 = some (.invokevirtual 87, 115, 0, [2, 7, 0, 0], .code yX7_readPayer cX7_readPayer 3 (some .boolean)) := rfl
theorem e_X7_readLine_115 : lk t_X7_readLine 115 = some (.goto 9, 118, 124, [], .returned) := rfl
theorem e_X7_readLine_118 : lk t_X7_readLine 118 = some (.aload_n 0, 119, 0, [], .returned) := rfl
theorem e_X7_readLine_119 : lk t_X7_readLine 119 = some (.aload_n 1, 120, 1, [], .returned) := rfl
theorem e_X7_readLine_120 : lk t_X7_readLine 120 = some (.aload_n 2, 121, 2, [], .returned) := rfl
theorem e_X7_readLine_121 : lk t_X7_readLine 121 = some (.invokevirtual 90, 124, 0, [2, 7, 0, 0], .code yX7_readOrder cX7_readOrder 4 (some .boolean)) := rfl
theorem e_X7_readLine_124 : lk t_X7_readLine 124 = some (.ireturn, 125, 1, [], .returned) := rfl
abbrev q_X7_readDeskLine : MI := (yX7_readDeskLine, cX7_readDeskLine, 3, (some .boolean))
def t_X7_readDeskLine : Tab := [(0, [], (.aload_n 0, 1, 0, [], .returned)),
  (1, [], (.iconst 1, 2, 0, [], .constant "" 0 (1))),
  (2, [153], (.putfield 36, 5, 7, [7, 3], .returned)),
  (5, [], (.aload_n 0, 6, 0, [], .returned)),
  (6, [], (.aload_n 1, 7, 1, [], .returned)),
  (7, [504, 507, 506, 1, 94], (.invokevirtual 51, 10, 0, [1, 7, 0, 0], .code yX7_advance cX7_advance 3 none)),
  (10, [], (.aload_n 0, 11, 0, [], .returned)),
  (11, [], (.aload_n 1, 12, 1, [], .returned)),
  (12, [535], (.ldc2_w 93, 15, 0, [], .constantLong "" 0 (1801807216))),
  (15, [536, 539, 538, 8, 94], (.invokevirtual 95, 18, 0, [2, 7, 0, 0], .code yX7_passWord cX7_passWord 4 (some .boolean))),
  (18, [], (.ifCond .eq 15, 21, 33, [], .returned)),
  (21, [], (.aload_n 0, 22, 0, [], .returned)),
  (22, [], (.aload_n 1, 23, 1, [], .returned)),
  (23, [], (.iconst 0, 24, 0, [], .constant "" 0 (0))),
  (24, [], (.sipush 999, 27, 0, [], .constant "" 0 (999))),
  (27, [540, 543, 542, 9, 94], (.invokevirtual 99, 30, 0, [3, 7, 0, 0], .code yX7_passWhole cX7_passWhole 4 (some .boolean))),
  (30, [], (.ifCond .ne 5, 33, 35, [], .returned)),
  (33, [], (.iconst 0, 34, 0, [], .constant "" 0 (0))),
  (34, [], (.ireturn, 35, 1, [], .returned)),
  (35, [], (.aload_n 2, 36, 2, [], .returned)),
  (36, [], (.aload_n 0, 37, 0, [], .returned)),
  (37, [151], (.getfield 103, 40, 7, [5, 0], .returned)),
  (40, [408], (.putfield 106, 43, 0, [6, 0], .returned)),
  (43, [], (.aload_n 0, 44, 0, [], .returned)),
  (44, [], (.aload_n 1, 45, 1, [], .returned)),
  (45, [544], (.ldc2_w 109, 48, 0, [], .constantLong "" 0 (1885434484))),
  (48, [536, 539, 538, 8, 94], (.invokevirtual 95, 51, 0, [2, 7, 0, 0], .code yX7_passWord cX7_passWord 4 (some .boolean))),
  (51, [], (.ifCond .eq 14, 54, 65, [], .returned)),
  (54, [], (.aload_n 0, 55, 0, [], .returned)),
  (55, [], (.aload_n 1, 56, 1, [], .returned)),
  (56, [], (.iconst 0, 57, 0, [], .constant "" 0 (0))),
  (57, [], (.bipush 99, 59, 0, [], .constant "" 0 (99))),
  (59, [540, 543, 542, 9, 94], (.invokevirtual 99, 62, 0, [3, 7, 0, 0], .code yX7_passWhole cX7_passWhole 4 (some .boolean))),
  (62, [], (.ifCond .ne 5, 65, 67, [], .returned)),
  (65, [], (.iconst 0, 66, 0, [], .constant "" 0 (0))),
  (66, [], (.ireturn, 67, 1, [], .returned)),
  (67, [], (.aload_n 2, 68, 2, [], .returned)),
  (68, [], (.aload_n 0, 69, 0, [], .returned)),
  (69, [151], (.getfield 103, 72, 7, [5, 0], .returned)),
  (72, [411], (.putfield 111, 75, 0, [7, 0], .returned)),
  (75, [], (.aload_n 0, 76, 0, [], .returned)),
  (76, [], (.aload_n 1, 77, 1, [], .returned)),
  (77, [545], (.ldc2_w 114, 80, 0, [], .constantLong "" 0 (495672455781))),
  (80, [536, 539, 538, 8, 94], (.invokevirtual 95, 83, 0, [2, 7, 0, 0], .code yX7_passWord cX7_passWord 4 (some .boolean))),
  (83, [], (.ifCond .ne 5, 86, 88, [], .returned)),
  (86, [], (.iconst 0, 87, 0, [], .constant "" 0 (0))),
  (87, [], (.ireturn, 88, 1, [], .returned)),
  (88, [], (.aload_n 2, 89, 2, [], .returned)),
  (89, [], (.aload_n 0, 90, 0, [], .returned)),
  (90, [546], (.ldc2_w 116, 93, 0, [], .constantLong "" 0 (1702258030))),
  (93, [523, 526, 525, 5, 94], (.invokevirtual 71, 96, 0, [1, 7, 0, 0], .code yX7_isWord cX7_isWord 3 (some .boolean))),
  (96, [415], (.putfield 118, 99, 0, [8, 3], .returned)),
  (99, [], (.aload_n 0, 100, 0, [], .returned)),
  (100, [], (.aload_n 1, 101, 1, [], .returned)),
  (101, [], (.aload_n 2, 102, 2, [], .returned)),
  (102, [415], (.getfield 118, 105, 0, [8, 0], .returned)),
  (105, [], (.ifCond .eq 9, 108, 114, [], .returned)),
  (108, [546], (.ldc2_w 116, 111, 0, [], .constantLong "" 0 (1702258030))),
  (111, [], (.goto 6, 114, 117, [], .returned)),
  (114, [547], (.ldc2_w 121, 117, 0, [], .constantLong "" 0 (482671228019))),
  (117, [536, 539, 538, 8, 94], (.invokevirtual 95, 120, 0, [2, 7, 0, 0], .code yX7_passWord cX7_passWord 4 (some .boolean))),
  (120, [], (.ireturn, 121, 1, [], .returned))]
theorem ck_X7_readDeskLine : okT q_X7_readDeskLine t_X7_readDeskLine = true := by decide +kernel
theorem e_X7_readDeskLine_0 : lk t_X7_readDeskLine 0 = some (.aload_n 0, 1, 0, [], .returned) := rfl
theorem e_X7_readDeskLine_1 : lk t_X7_readDeskLine 1 = some (.iconst 1, 2, 0, [], .constant "" 0 (1)) := rfl
theorem e_X7_readDeskLine_2 : lk t_X7_readDeskLine 2 = some (.putfield 36, 5, 7, [7, 3], .returned) := rfl
theorem e_X7_readDeskLine_5 : lk t_X7_readDeskLine 5 = some (.aload_n 0, 6, 0, [], .returned) := rfl
theorem e_X7_readDeskLine_6 : lk t_X7_readDeskLine 6 = some (.aload_n 1, 7, 1, [], .returned) := rfl
theorem e_X7_readDeskLine_7 : lk t_X7_readDeskLine 7 = some (.invokevirtual 51, 10, 0, [1, 7, 0, 0], .code yX7_advance cX7_advance 3 none) := rfl
theorem e_X7_readDeskLine_10 : lk t_X7_readDeskLine 10 = some (.aload_n 0, 11, 0, [], .returned) := rfl
theorem e_X7_readDeskLine_11 : lk t_X7_readDeskLine 11 = some (.aload_n 1, 12, 1, [], .returned) := rfl
theorem e_X7_readDeskLine_12 : lk t_X7_readDeskLine 12 = some (.ldc2_w 93, 15, 0, [], .constantLong "" 0 (1801807216)) := rfl
theorem e_X7_readDeskLine_15 : lk t_X7_readDeskLine 15 = some (.invokevirtual 95, 18, 0, [2, 7, 0, 0], .code yX7_passWord cX7_passWord 4 (some .boolean)) := rfl
theorem e_X7_readDeskLine_18 : lk t_X7_readDeskLine 18 = some (.ifCond .eq 15, 21, 33, [], .returned) := rfl
theorem e_X7_readDeskLine_21 : lk t_X7_readDeskLine 21 = some (.aload_n 0, 22, 0, [], .returned) := rfl
theorem e_X7_readDeskLine_22 : lk t_X7_readDeskLine 22 = some (.aload_n 1, 23, 1, [], .returned) := rfl
theorem e_X7_readDeskLine_23 : lk t_X7_readDeskLine 23 = some (.iconst 0, 24, 0, [], .constant "" 0 (0)) := rfl
theorem e_X7_readDeskLine_24 : lk t_X7_readDeskLine 24 = some (.sipush 999, 27, 0, [], .constant "" 0 (999)) := rfl
theorem e_X7_readDeskLine_27 : lk t_X7_readDeskLine 27 = some (.invokevirtual 99, 30, 0, [3, 7, 0, 0], .code yX7_passWhole cX7_passWhole 4 (some .boolean)) := rfl
theorem e_X7_readDeskLine_30 : lk t_X7_readDeskLine 30 = some (.ifCond .ne 5, 33, 35, [], .returned) := rfl
theorem e_X7_readDeskLine_33 : lk t_X7_readDeskLine 33 = some (.iconst 0, 34, 0, [], .constant "" 0 (0)) := rfl
theorem e_X7_readDeskLine_34 : lk t_X7_readDeskLine 34 = some (.ireturn, 35, 1, [], .returned) := rfl
theorem e_X7_readDeskLine_35 : lk t_X7_readDeskLine 35 = some (.aload_n 2, 36, 2, [], .returned) := rfl
theorem e_X7_readDeskLine_36 : lk t_X7_readDeskLine 36 = some (.aload_n 0, 37, 0, [], .returned) := rfl
theorem e_X7_readDeskLine_37 : lk t_X7_readDeskLine 37 = some (.getfield 103, 40, 7, [5, 0], .returned) := rfl
theorem e_X7_readDeskLine_40 : lk t_X7_readDeskLine 40 = some (.putfield 106, 43, 0, [6, 0], .returned) := rfl
theorem e_X7_readDeskLine_43 : lk t_X7_readDeskLine 43 = some (.aload_n 0, 44, 0, [], .returned) := rfl
theorem e_X7_readDeskLine_44 : lk t_X7_readDeskLine 44 = some (.aload_n 1, 45, 1, [], .returned) := rfl
theorem e_X7_readDeskLine_45 : lk t_X7_readDeskLine 45 = some (.ldc2_w 109, 48, 0, [], .constantLong "" 0 (1885434484)) := rfl
theorem e_X7_readDeskLine_48 : lk t_X7_readDeskLine 48 = some (.invokevirtual 95, 51, 0, [2, 7, 0, 0], .code yX7_passWord cX7_passWord 4 (some .boolean)) := rfl
theorem e_X7_readDeskLine_51 : lk t_X7_readDeskLine 51 = some (.ifCond .eq 14, 54, 65, [], .returned) := rfl
theorem e_X7_readDeskLine_54 : lk t_X7_readDeskLine 54 = some (.aload_n 0, 55, 0, [], .returned) := rfl
theorem e_X7_readDeskLine_55 : lk t_X7_readDeskLine 55 = some (.aload_n 1, 56, 1, [], .returned) := rfl
theorem e_X7_readDeskLine_56 : lk t_X7_readDeskLine 56 = some (.iconst 0, 57, 0, [], .constant "" 0 (0)) := rfl
theorem e_X7_readDeskLine_57 : lk t_X7_readDeskLine 57 = some (.bipush 99, 59, 0, [], .constant "" 0 (99)) := rfl
theorem e_X7_readDeskLine_59 : lk t_X7_readDeskLine 59 = some (.invokevirtual 99, 62, 0, [3, 7, 0, 0], .code yX7_passWhole cX7_passWhole 4 (some .boolean)) := rfl
theorem e_X7_readDeskLine_62 : lk t_X7_readDeskLine 62 = some (.ifCond .ne 5, 65, 67, [], .returned) := rfl
theorem e_X7_readDeskLine_65 : lk t_X7_readDeskLine 65 = some (.iconst 0, 66, 0, [], .constant "" 0 (0)) := rfl
theorem e_X7_readDeskLine_66 : lk t_X7_readDeskLine 66 = some (.ireturn, 67, 1, [], .returned) := rfl
theorem e_X7_readDeskLine_67 : lk t_X7_readDeskLine 67 = some (.aload_n 2, 68, 2, [], .returned) := rfl
theorem e_X7_readDeskLine_68 : lk t_X7_readDeskLine 68 = some (.aload_n 0, 69, 0, [], .returned) := rfl
theorem e_X7_readDeskLine_69 : lk t_X7_readDeskLine 69 = some (.getfield 103, 72, 7, [5, 0], .returned) := rfl
theorem e_X7_readDeskLine_72 : lk t_X7_readDeskLine 72 = some (.putfield 111, 75, 0, [7, 0], .returned) := rfl
theorem e_X7_readDeskLine_75 : lk t_X7_readDeskLine 75 = some (.aload_n 0, 76, 0, [], .returned) := rfl
theorem e_X7_readDeskLine_76 : lk t_X7_readDeskLine 76 = some (.aload_n 1, 77, 1, [], .returned) := rfl
theorem e_X7_readDeskLine_77 : lk t_X7_readDeskLine 77 = some (.ldc2_w 114, 80, 0, [], .constantLong "" 0 (495672455781)) := rfl
theorem e_X7_readDeskLine_80 : lk t_X7_readDeskLine 80 = some (.invokevirtual 95, 83, 0, [2, 7, 0, 0], .code yX7_passWord cX7_passWord 4 (some .boolean)) := rfl
theorem e_X7_readDeskLine_83 : lk t_X7_readDeskLine 83 = some (.ifCond .ne 5, 86, 88, [], .returned) := rfl
theorem e_X7_readDeskLine_86 : lk t_X7_readDeskLine 86 = some (.iconst 0, 87, 0, [], .constant "" 0 (0)) := rfl
theorem e_X7_readDeskLine_87 : lk t_X7_readDeskLine 87 = some (.ireturn, 88, 1, [], .returned) := rfl
theorem e_X7_readDeskLine_88 : lk t_X7_readDeskLine 88 = some (.aload_n 2, 89, 2, [], .returned) := rfl
theorem e_X7_readDeskLine_89 : lk t_X7_readDeskLine 89 = some (.aload_n 0, 90, 0, [], .returned) := rfl
theorem e_X7_readDeskLine_90 : lk t_X7_readDeskLine 90 = some (.ldc2_w 116, 93, 0, [], .constantLong "" 0 (1702258030)) := rfl
theorem e_X7_readDeskLine_93 : lk t_X7_readDeskLine 93 = some (.invokevirtual 71, 96, 0, [1, 7, 0, 0], .code yX7_isWord cX7_isWord 3 (some .boolean)) := rfl
theorem e_X7_readDeskLine_96 : lk t_X7_readDeskLine 96 = some (.putfield 118, 99, 0, [8, 3], .returned) := rfl
theorem e_X7_readDeskLine_99 : lk t_X7_readDeskLine 99 = some (.aload_n 0, 100, 0, [], .returned) := rfl
theorem e_X7_readDeskLine_100 : lk t_X7_readDeskLine 100 = some (.aload_n 1, 101, 1, [], .returned) := rfl
theorem e_X7_readDeskLine_101 : lk t_X7_readDeskLine 101 = some (.aload_n 2, 102, 2, [], .returned) := rfl
theorem e_X7_readDeskLine_102 : lk t_X7_readDeskLine 102 = some (.getfield 118, 105, 0, [8, 0], .returned) := rfl
theorem e_X7_readDeskLine_105 : lk t_X7_readDeskLine 105 = some (.ifCond .eq 9, 108, 114, [], .returned) := rfl
theorem e_X7_readDeskLine_108 : lk t_X7_readDeskLine 108 = some (.ldc2_w 116, 111, 0, [], .constantLong "" 0 (1702258030)) := rfl
theorem e_X7_readDeskLine_111 : lk t_X7_readDeskLine 111 = some (.goto 6, 114, 117, [], .returned) := rfl
theorem e_X7_readDeskLine_114 : lk t_X7_readDeskLine 114 = some (.ldc2_w 121, 117, 0, [], .constantLong "" 0 (482671228019)) := rfl
theorem e_X7_readDeskLine_117 : lk t_X7_readDeskLine 117 = some (.invokevirtual 95, 120, 0, [2, 7, 0, 0], .code yX7_passWord cX7_passWord 4 (some .boolean)) := rfl
theorem e_X7_readDeskLine_120 : lk t_X7_readDeskLine 120 = some (.ireturn, 121, 1, [], .returned) := rfl
abbrev q_X7_readTable : MI := (yX7_readTable, cX7_readTable, 5, (some .boolean))
def t_X7_readTable : Tab := [(0, [], (.aload_n 2, 1, 2, [], .returned)),
  (1, [397], (.getfield 123, 4, 0, [3, 0], .returned)),
  (4, [], (.iconst 3, 5, 0, [], .constant "" 0 (3))),
  (5, [], (.if_icmp .lt 9, 8, 14, [], .returned)),
  (8, [], (.aload_n 0, 9, 0, [], .returned)),
  (9, [], (.iconst 5, 10, 0, [], .constant "" 0 (5))),
  (10, [527, 530, 529, 6, 94], (.invokevirtual 62, 13, 0, [1, 7, 0, 0], .code yX7_fail cX7_fail 2 (some .boolean))),
  (13, [], (.ireturn, 14, 1, [], .returned)),
  (14, [], (.aload_n 0, 15, 0, [], .returned)),
  (15, [], (.aload_n 1, 16, 1, [], .returned)),
  (16, [504, 507, 506, 1, 94], (.invokevirtual 51, 19, 0, [1, 7, 0, 0], .code yX7_advance cX7_advance 3 none)),
  (19, [], (.aload_n 0, 20, 0, [], .returned)),
  (20, [], (.aload_n 1, 21, 1, [], .returned)),
  (21, [], (.iconst 0, 22, 0, [], .constant "" 0 (0))),
  (22, [555, 558, 557, 11, 94], (.invokevirtual 126, 25, 0, [2, 7, 0, 0], .code yX7_passNewName cX7_passNewName 3 (some .boolean))),
  (25, [], (.ifCond .ne 5, 28, 30, [], .returned)),
  (28, [], (.iconst 0, 29, 0, [], .constant "" 0 (0))),
  (29, [], (.ireturn, 30, 1, [], .returned)),
  (30, [], (.aload_n 2, 31, 2, [], .returned)),
  (31, [384], (.getfield 130, 34, 0, [0, 2], .returned)),
  (34, [], (.aload_n 2, 35, 2, [], .returned)),
  (35, [397], (.getfield 123, 38, 0, [3, 0], .returned)),
  (38, [], (.aaload, 39, 0, [], .returned)),
  (39, [], (.astore_n 3, 40, 3, [], .returned)),
  (40, [], (.aload_n 2, 41, 2, [], .returned)),
  (41, [], (.dup, 42, 0, [], .returned)),
  (42, [397], (.getfield 123, 45, 0, [3, 0], .returned)),
  (45, [], (.iconst 1, 46, 0, [], .constant "" 0 (1))),
  (46, [], (.iadd, 47, 0, [], .returned)),
  (47, [397], (.putfield 123, 50, 0, [3, 0], .returned)),
  (50, [], (.aload_n 3, 51, 3, [], .returned)),
  (51, [], (.aload_n 0, 52, 0, [], .returned)),
  (52, [568], (.ldc2_w 134, 55, 0, [], .constantLong "" 0 (495874044019))),
  (55, [523, 526, 525, 5, 94], (.invokevirtual 71, 58, 0, [1, 7, 0, 0], .code yX7_isWord cX7_isWord 3 (some .boolean))),
  (58, [569, 572, 570, 571, 100], (.invokevirtual 136, 61, 0, [1, 5, 0, 0], .code yX5_begin cX5_begin 2 none)),
  (61, [], (.aload_n 0, 62, 0, [], .returned)),
  (62, [], (.aload_n 1, 63, 1, [], .returned)),
  (63, [], (.aload_n 3, 64, 3, [], .returned)),
  (64, [345], (.getfield 142, 67, 5, [3, 0], .returned)),
  (67, [], (.ifCond .eq 9, 70, 76, [], .returned)),
  (70, [568], (.ldc2_w 134, 73, 0, [], .constantLong "" 0 (495874044019))),
  (73, [], (.goto 6, 76, 79, [], .returned)),
  (76, [563], (.ldc2_w 145, 79, 0, [], .constantLong "" 0 (6384748))),
  (79, [536, 539, 538, 8, 94], (.invokevirtual 95, 82, 0, [2, 7, 0, 0], .code yX7_passWord cX7_passWord 4 (some .boolean))),
  (82, [], (.ifCond .ne 5, 85, 87, [], .returned)),
  (85, [], (.iconst 0, 86, 0, [], .constant "" 0 (0))),
  (86, [], (.ireturn, 87, 1, [], .returned)),
  (87, [], (.iconst 0, 88, 0, [], .constant "" 0 (0))),
  (88, [], (.istore 4, 90, 4, [], .returned)),
  (90, [], (.iload 4, 92, 4, [], .returned)),
  (92, [], (.bipush 6, 94, 0, [], .constant "" 0 (6))),
  (94, [], (.if_icmp .ge 34, 97, 128, [], .returned)),
  (97, [], (.aload_n 0, 98, 0, [], .returned)),
  (98, [], (.aload_n 1, 99, 1, [], .returned)),
  (99, [], (.aload_n 3, 100, 3, [], .returned)),
  (100, [], (.iload 4, 102, 4, [], .returned)),
  (102, [573, 576, 575, 14, 94], (.invokevirtual 147, 105, 0, [3, 7, 0, 0], .code yX7_readRow cX7_readRow 5 (some .boolean))),
  (105, [], (.ifCond .ne 5, 108, 110, [], .returned)),
  (108, [], (.iconst 0, 109, 0, [], .constant "" 0 (0))),
  (109, [], (.ireturn, 110, 1, [], .returned)),
  (110, [], (.aload_n 0, 111, 0, [], .returned)),
  (111, [577], (.ldc2_w 151, 114, 0, [], .constantLong "" 0 (1718775661))),
  (114, [523, 526, 525, 5, 94], (.invokevirtual 71, 117, 0, [1, 7, 0, 0], .code yX7_isWord cX7_isWord 3 (some .boolean))),
  (117, [], (.ifCond .ne 5, 120, 122, [], .returned)),
  (120, [], (.iconst 1, 121, 0, [], .constant "" 0 (1))),
  (121, [], (.ireturn, 122, 1, [], .returned)),
  (122, [], (.iinc 4 1, 125, 4, [], .constant "" 0 (1))),
  (125, [], (.goto (-35), 128, 90, [], .returned)),
  (128, [], (.aload_n 0, 129, 0, [], .returned)),
  (129, [], (.iconst 5, 130, 0, [], .constant "" 0 (5))),
  (130, [527, 530, 529, 6, 94], (.invokevirtual 62, 133, 0, [1, 7, 0, 0], .code yX7_fail cX7_fail 2 (some .boolean))),
  (133, [], (.ireturn, 134, 1, [], .returned))]
theorem ck_X7_readTable : okT q_X7_readTable t_X7_readTable = true := by decide +kernel
theorem e_X7_readTable_0 : lk t_X7_readTable 0 = some (.aload_n 2, 1, 2, [], .returned) := rfl
theorem e_X7_readTable_1 : lk t_X7_readTable 1 = some (.getfield 123, 4, 0, [3, 0], .returned) := rfl
theorem e_X7_readTable_4 : lk t_X7_readTable 4 = some (.iconst 3, 5, 0, [], .constant "" 0 (3)) := rfl
theorem e_X7_readTable_5 : lk t_X7_readTable 5 = some (.if_icmp .lt 9, 8, 14, [], .returned) := rfl
theorem e_X7_readTable_8 : lk t_X7_readTable 8 = some (.aload_n 0, 9, 0, [], .returned) := rfl
theorem e_X7_readTable_9 : lk t_X7_readTable 9 = some (.iconst 5, 10, 0, [], .constant "" 0 (5)) := rfl
theorem e_X7_readTable_10 : lk t_X7_readTable 10 = some (.invokevirtual 62, 13, 0, [1, 7, 0, 0], .code yX7_fail cX7_fail 2 (some .boolean)) := rfl
theorem e_X7_readTable_13 : lk t_X7_readTable 13 = some (.ireturn, 14, 1, [], .returned) := rfl
theorem e_X7_readTable_14 : lk t_X7_readTable 14 = some (.aload_n 0, 15, 0, [], .returned) := rfl
theorem e_X7_readTable_15 : lk t_X7_readTable 15 = some (.aload_n 1, 16, 1, [], .returned) := rfl
theorem e_X7_readTable_16 : lk t_X7_readTable 16 = some (.invokevirtual 51, 19, 0, [1, 7, 0, 0], .code yX7_advance cX7_advance 3 none) := rfl
theorem e_X7_readTable_19 : lk t_X7_readTable 19 = some (.aload_n 0, 20, 0, [], .returned) := rfl
theorem e_X7_readTable_20 : lk t_X7_readTable 20 = some (.aload_n 1, 21, 1, [], .returned) := rfl
theorem e_X7_readTable_21 : lk t_X7_readTable 21 = some (.iconst 0, 22, 0, [], .constant "" 0 (0)) := rfl
theorem e_X7_readTable_22 : lk t_X7_readTable 22 = some (.invokevirtual 126, 25, 0, [2, 7, 0, 0], .code yX7_passNewName cX7_passNewName 3 (some .boolean)) := rfl
theorem e_X7_readTable_25 : lk t_X7_readTable 25 = some (.ifCond .ne 5, 28, 30, [], .returned) := rfl
theorem e_X7_readTable_28 : lk t_X7_readTable 28 = some (.iconst 0, 29, 0, [], .constant "" 0 (0)) := rfl
theorem e_X7_readTable_29 : lk t_X7_readTable 29 = some (.ireturn, 30, 1, [], .returned) := rfl
theorem e_X7_readTable_30 : lk t_X7_readTable 30 = some (.aload_n 2, 31, 2, [], .returned) := rfl
theorem e_X7_readTable_31 : lk t_X7_readTable 31 = some (.getfield 130, 34, 0, [0, 2], .returned) := rfl
theorem e_X7_readTable_34 : lk t_X7_readTable 34 = some (.aload_n 2, 35, 2, [], .returned) := rfl
theorem e_X7_readTable_35 : lk t_X7_readTable 35 = some (.getfield 123, 38, 0, [3, 0], .returned) := rfl
theorem e_X7_readTable_38 : lk t_X7_readTable 38 = some (.aaload, 39, 0, [], .returned) := rfl
theorem e_X7_readTable_39 : lk t_X7_readTable 39 = some (.astore_n 3, 40, 3, [], .returned) := rfl
theorem e_X7_readTable_40 : lk t_X7_readTable 40 = some (.aload_n 2, 41, 2, [], .returned) := rfl
theorem e_X7_readTable_41 : lk t_X7_readTable 41 = some (.dup, 42, 0, [], .returned) := rfl
theorem e_X7_readTable_42 : lk t_X7_readTable 42 = some (.getfield 123, 45, 0, [3, 0], .returned) := rfl
theorem e_X7_readTable_45 : lk t_X7_readTable 45 = some (.iconst 1, 46, 0, [], .constant "" 0 (1)) := rfl
theorem e_X7_readTable_46 : lk t_X7_readTable 46 = some (.iadd, 47, 0, [], .returned) := rfl
theorem e_X7_readTable_47 : lk t_X7_readTable 47 = some (.putfield 123, 50, 0, [3, 0], .returned) := rfl
theorem e_X7_readTable_50 : lk t_X7_readTable 50 = some (.aload_n 3, 51, 3, [], .returned) := rfl
theorem e_X7_readTable_51 : lk t_X7_readTable 51 = some (.aload_n 0, 52, 0, [], .returned) := rfl
theorem e_X7_readTable_52 : lk t_X7_readTable 52 = some (.ldc2_w 134, 55, 0, [], .constantLong "" 0 (495874044019)) := rfl
theorem e_X7_readTable_55 : lk t_X7_readTable 55 = some (.invokevirtual 71, 58, 0, [1, 7, 0, 0], .code yX7_isWord cX7_isWord 3 (some .boolean)) := rfl
theorem e_X7_readTable_58 : lk t_X7_readTable 58 = some (.invokevirtual 136, 61, 0, [1, 5, 0, 0], .code yX5_begin cX5_begin 2 none) := rfl
theorem e_X7_readTable_61 : lk t_X7_readTable 61 = some (.aload_n 0, 62, 0, [], .returned) := rfl
theorem e_X7_readTable_62 : lk t_X7_readTable 62 = some (.aload_n 1, 63, 1, [], .returned) := rfl
theorem e_X7_readTable_63 : lk t_X7_readTable 63 = some (.aload_n 3, 64, 3, [], .returned) := rfl
theorem e_X7_readTable_64 : lk t_X7_readTable 64 = some (.getfield 142, 67, 5, [3, 0], .returned) := rfl
theorem e_X7_readTable_67 : lk t_X7_readTable 67 = some (.ifCond .eq 9, 70, 76, [], .returned) := rfl
theorem e_X7_readTable_70 : lk t_X7_readTable 70 = some (.ldc2_w 134, 73, 0, [], .constantLong "" 0 (495874044019)) := rfl
theorem e_X7_readTable_73 : lk t_X7_readTable 73 = some (.goto 6, 76, 79, [], .returned) := rfl
theorem e_X7_readTable_76 : lk t_X7_readTable 76 = some (.ldc2_w 145, 79, 0, [], .constantLong "" 0 (6384748)) := rfl
theorem e_X7_readTable_79 : lk t_X7_readTable 79 = some (.invokevirtual 95, 82, 0, [2, 7, 0, 0], .code yX7_passWord cX7_passWord 4 (some .boolean)) := rfl
theorem e_X7_readTable_82 : lk t_X7_readTable 82 = some (.ifCond .ne 5, 85, 87, [], .returned) := rfl
theorem e_X7_readTable_85 : lk t_X7_readTable 85 = some (.iconst 0, 86, 0, [], .constant "" 0 (0)) := rfl
theorem e_X7_readTable_86 : lk t_X7_readTable 86 = some (.ireturn, 87, 1, [], .returned) := rfl
theorem e_X7_readTable_87 : lk t_X7_readTable 87 = some (.iconst 0, 88, 0, [], .constant "" 0 (0)) := rfl
theorem e_X7_readTable_88 : lk t_X7_readTable 88 = some (.istore 4, 90, 4, [], .returned) := rfl
theorem e_X7_readTable_90 : lk t_X7_readTable 90 = some (.iload 4, 92, 4, [], .returned) := rfl
theorem e_X7_readTable_92 : lk t_X7_readTable 92 = some (.bipush 6, 94, 0, [], .constant "" 0 (6)) := rfl
theorem e_X7_readTable_94 : lk t_X7_readTable 94 = some (.if_icmp .ge 34, 97, 128, [], .returned) := rfl
theorem e_X7_readTable_97 : lk t_X7_readTable 97 = some (.aload_n 0, 98, 0, [], .returned) := rfl
theorem e_X7_readTable_98 : lk t_X7_readTable 98 = some (.aload_n 1, 99, 1, [], .returned) := rfl
theorem e_X7_readTable_99 : lk t_X7_readTable 99 = some (.aload_n 3, 100, 3, [], .returned) := rfl
theorem e_X7_readTable_100 : lk t_X7_readTable 100 = some (.iload 4, 102, 4, [], .returned) := rfl
theorem e_X7_readTable_102 : lk t_X7_readTable 102 = some (.invokevirtual 147, 105, 0, [3, 7, 0, 0], .code yX7_readRow cX7_readRow 5 (some .boolean)) := rfl
theorem e_X7_readTable_105 : lk t_X7_readTable 105 = some (.ifCond .ne 5, 108, 110, [], .returned) := rfl
theorem e_X7_readTable_108 : lk t_X7_readTable 108 = some (.iconst 0, 109, 0, [], .constant "" 0 (0)) := rfl
theorem e_X7_readTable_109 : lk t_X7_readTable 109 = some (.ireturn, 110, 1, [], .returned) := rfl
theorem e_X7_readTable_110 : lk t_X7_readTable 110 = some (.aload_n 0, 111, 0, [], .returned) := rfl
theorem e_X7_readTable_111 : lk t_X7_readTable 111 = some (.ldc2_w 151, 114, 0, [], .constantLong "" 0 (1718775661)) := rfl
theorem e_X7_readTable_114 : lk t_X7_readTable 114 = some (.invokevirtual 71, 117, 0, [1, 7, 0, 0], .code yX7_isWord cX7_isWord 3 (some .boolean)) := rfl
theorem e_X7_readTable_117 : lk t_X7_readTable 117 = some (.ifCond .ne 5, 120, 122, [], .returned) := rfl
theorem e_X7_readTable_120 : lk t_X7_readTable 120 = some (.iconst 1, 121, 0, [], .constant "" 0 (1)) := rfl
theorem e_X7_readTable_121 : lk t_X7_readTable 121 = some (.ireturn, 122, 1, [], .returned) := rfl
theorem e_X7_readTable_122 : lk t_X7_readTable 122 = some (.iinc 4 1, 125, 4, [], .constant "" 0 (1)) := rfl
theorem e_X7_readTable_125 : lk t_X7_readTable 125 = some (.goto (-35), 128, 90, [], .returned) := rfl
theorem e_X7_readTable_128 : lk t_X7_readTable 128 = some (.aload_n 0, 129, 0, [], .returned) := rfl
theorem e_X7_readTable_129 : lk t_X7_readTable 129 = some (.iconst 5, 130, 0, [], .constant "" 0 (5)) := rfl
theorem e_X7_readTable_130 : lk t_X7_readTable 130 = some (.invokevirtual 62, 133, 0, [1, 7, 0, 0], .code yX7_fail cX7_fail 2 (some .boolean)) := rfl
theorem e_X7_readTable_133 : lk t_X7_readTable 133 = some (.ireturn, 134, 1, [], .returned) := rfl
abbrev q_X7_readRow : MI := (yX7_readRow, cX7_readRow, 5, (some .boolean))
def t_X7_readRow : Tab := [(0, [], (.iload_n 3, 1, 3, [], .returned)),
  (1, [], (.ifCond .le 16, 4, 17, [], .returned)),
  (4, [], (.aload_n 2, 5, 2, [], .returned)),
  (5, [337], (.getfield 153, 8, 5, [0, 2], .returned)),
  (8, [], (.iload_n 3, 9, 3, [], .returned)),
  (9, [], (.iconst 1, 10, 0, [], .constant "" 0 (1))),
  (10, [], (.isub, 11, 0, [], .returned)),
  (11, [], (.iaload, 12, 0, [], .returned)),
  (12, [], (.iconst 1, 13, 0, [], .constant "" 0 (1))),
  (13, [], (.iadd, 14, 0, [], .returned)),
  (14, [], (.goto 4, 17, 18, [], .returned)),
  (17, [], (.iconst 0, 18, 0, [], .constant "" 0 (0))),
  (18, [], (.istore 4, 20, 4, [], .returned)),
  (20, [], (.aload_n 0, 21, 0, [], .returned)),
  (21, [], (.aload_n 1, 22, 1, [], .returned)),
  (22, [577], (.ldc2_w 151, 25, 0, [], .constantLong "" 0 (1718775661))),
  (25, [536, 539, 538, 8, 94], (.invokevirtual 95, 28, 0, [2, 7, 0, 0], .code yX7_passWord cX7_passWord 4 (some .boolean))),
  (28, [], (.ifCond .eq 16, 31, 44, [], .returned)),
  (31, [], (.aload_n 0, 32, 0, [], .returned)),
  (32, [], (.aload_n 1, 33, 1, [], .returned)),
  (33, [], (.iload 4, 35, 4, [], .returned)),
  (35, [], (.sipush 9999, 38, 0, [], .constant "" 0 (9999))),
  (38, [540, 543, 542, 9, 94], (.invokevirtual 99, 41, 0, [3, 7, 0, 0], .code yX7_passWhole cX7_passWhole 4 (some .boolean))),
  (41, [], (.ifCond .ne 5, 44, 46, [], .returned)),
  (44, [], (.iconst 0, 45, 0, [], .constant "" 0 (0))),
  (45, [], (.ireturn, 46, 1, [], .returned)),
  (46, [], (.aload_n 2, 47, 2, [], .returned)),
  (47, [337], (.getfield 153, 50, 5, [0, 2], .returned)),
  (50, [], (.iload_n 3, 51, 3, [], .returned)),
  (51, [], (.aload_n 0, 52, 0, [], .returned)),
  (52, [151], (.getfield 103, 55, 7, [5, 0], .returned)),
  (55, [], (.iastore, 56, 0, [], .returned)),
  (56, [], (.aload_n 0, 57, 0, [], .returned)),
  (57, [], (.aload_n 1, 58, 1, [], .returned)),
  (58, [578], (.ldc2_w 156, 61, 0, [], .constantLong "" 0 (1952541541))),
  (61, [536, 539, 538, 8, 94], (.invokevirtual 95, 64, 0, [2, 7, 0, 0], .code yX7_passWord cX7_passWord 4 (some .boolean))),
  (64, [], (.ifCond .eq 14, 67, 78, [], .returned)),
  (67, [], (.aload_n 0, 68, 0, [], .returned)),
  (68, [], (.aload_n 1, 69, 1, [], .returned)),
  (69, [], (.iconst 0, 70, 0, [], .constant "" 0 (0))),
  (70, [], (.bipush 99, 72, 0, [], .constant "" 0 (99))),
  (72, [540, 543, 542, 9, 94], (.invokevirtual 99, 75, 0, [3, 7, 0, 0], .code yX7_passWhole cX7_passWhole 4 (some .boolean))),
  (75, [], (.ifCond .ne 5, 78, 80, [], .returned)),
  (78, [], (.iconst 0, 79, 0, [], .constant "" 0 (0))),
  (79, [], (.ireturn, 80, 1, [], .returned)),
  (80, [], (.aload_n 2, 81, 2, [], .returned)),
  (81, [340], (.getfield 158, 84, 5, [1, 2], .returned)),
  (84, [], (.iload_n 3, 85, 3, [], .returned)),
  (85, [], (.aload_n 0, 86, 0, [], .returned)),
  (86, [151], (.getfield 103, 89, 7, [5, 0], .returned)),
  (89, [], (.iastore, 90, 0, [], .returned)),
  (90, [], (.aload_n 2, 91, 2, [], .returned)),
  (91, [], (.iload_n 3, 92, 3, [], .returned)),
  (92, [], (.iconst 1, 93, 0, [], .constant "" 0 (1))),
  (93, [], (.iadd, 94, 0, [], .returned)),
  (94, [343], (.putfield 161, 97, 5, [2, 0], .returned)),
  (97, [], (.iconst 1, 98, 0, [], .constant "" 0 (1))),
  (98, [], (.ireturn, 99, 1, [], .returned))]
theorem ck_X7_readRow : okT q_X7_readRow t_X7_readRow = true := by decide +kernel
theorem e_X7_readRow_0 : lk t_X7_readRow 0 = some (.iload_n 3, 1, 3, [], .returned) := rfl
theorem e_X7_readRow_1 : lk t_X7_readRow 1 = some (.ifCond .le 16, 4, 17, [], .returned) := rfl
theorem e_X7_readRow_4 : lk t_X7_readRow 4 = some (.aload_n 2, 5, 2, [], .returned) := rfl
theorem e_X7_readRow_5 : lk t_X7_readRow 5 = some (.getfield 153, 8, 5, [0, 2], .returned) := rfl
theorem e_X7_readRow_8 : lk t_X7_readRow 8 = some (.iload_n 3, 9, 3, [], .returned) := rfl
theorem e_X7_readRow_9 : lk t_X7_readRow 9 = some (.iconst 1, 10, 0, [], .constant "" 0 (1)) := rfl
theorem e_X7_readRow_10 : lk t_X7_readRow 10 = some (.isub, 11, 0, [], .returned) := rfl
theorem e_X7_readRow_11 : lk t_X7_readRow 11 = some (.iaload, 12, 0, [], .returned) := rfl
theorem e_X7_readRow_12 : lk t_X7_readRow 12 = some (.iconst 1, 13, 0, [], .constant "" 0 (1)) := rfl
theorem e_X7_readRow_13 : lk t_X7_readRow 13 = some (.iadd, 14, 0, [], .returned) := rfl
theorem e_X7_readRow_14 : lk t_X7_readRow 14 = some (.goto 4, 17, 18, [], .returned) := rfl
theorem e_X7_readRow_17 : lk t_X7_readRow 17 = some (.iconst 0, 18, 0, [], .constant "" 0 (0)) := rfl
theorem e_X7_readRow_18 : lk t_X7_readRow 18 = some (.istore 4, 20, 4, [], .returned) := rfl
theorem e_X7_readRow_20 : lk t_X7_readRow 20 = some (.aload_n 0, 21, 0, [], .returned) := rfl
theorem e_X7_readRow_21 : lk t_X7_readRow 21 = some (.aload_n 1, 22, 1, [], .returned) := rfl
theorem e_X7_readRow_22 : lk t_X7_readRow 22 = some (.ldc2_w 151, 25, 0, [], .constantLong "" 0 (1718775661)) := rfl
theorem e_X7_readRow_25 : lk t_X7_readRow 25 = some (.invokevirtual 95, 28, 0, [2, 7, 0, 0], .code yX7_passWord cX7_passWord 4 (some .boolean)) := rfl
theorem e_X7_readRow_28 : lk t_X7_readRow 28 = some (.ifCond .eq 16, 31, 44, [], .returned) := rfl
theorem e_X7_readRow_31 : lk t_X7_readRow 31 = some (.aload_n 0, 32, 0, [], .returned) := rfl
theorem e_X7_readRow_32 : lk t_X7_readRow 32 = some (.aload_n 1, 33, 1, [], .returned) := rfl
theorem e_X7_readRow_33 : lk t_X7_readRow 33 = some (.iload 4, 35, 4, [], .returned) := rfl
theorem e_X7_readRow_35 : lk t_X7_readRow 35 = some (.sipush 9999, 38, 0, [], .constant "" 0 (9999)) := rfl
theorem e_X7_readRow_38 : lk t_X7_readRow 38 = some (.invokevirtual 99, 41, 0, [3, 7, 0, 0], .code yX7_passWhole cX7_passWhole 4 (some .boolean)) := rfl
theorem e_X7_readRow_41 : lk t_X7_readRow 41 = some (.ifCond .ne 5, 44, 46, [], .returned) := rfl
theorem e_X7_readRow_44 : lk t_X7_readRow 44 = some (.iconst 0, 45, 0, [], .constant "" 0 (0)) := rfl
theorem e_X7_readRow_45 : lk t_X7_readRow 45 = some (.ireturn, 46, 1, [], .returned) := rfl
theorem e_X7_readRow_46 : lk t_X7_readRow 46 = some (.aload_n 2, 47, 2, [], .returned) := rfl
theorem e_X7_readRow_47 : lk t_X7_readRow 47 = some (.getfield 153, 50, 5, [0, 2], .returned) := rfl
theorem e_X7_readRow_50 : lk t_X7_readRow 50 = some (.iload_n 3, 51, 3, [], .returned) := rfl
theorem e_X7_readRow_51 : lk t_X7_readRow 51 = some (.aload_n 0, 52, 0, [], .returned) := rfl
theorem e_X7_readRow_52 : lk t_X7_readRow 52 = some (.getfield 103, 55, 7, [5, 0], .returned) := rfl
theorem e_X7_readRow_55 : lk t_X7_readRow 55 = some (.iastore, 56, 0, [], .returned) := rfl
theorem e_X7_readRow_56 : lk t_X7_readRow 56 = some (.aload_n 0, 57, 0, [], .returned) := rfl
theorem e_X7_readRow_57 : lk t_X7_readRow 57 = some (.aload_n 1, 58, 1, [], .returned) := rfl
theorem e_X7_readRow_58 : lk t_X7_readRow 58 = some (.ldc2_w 156, 61, 0, [], .constantLong "" 0 (1952541541)) := rfl
theorem e_X7_readRow_61 : lk t_X7_readRow 61 = some (.invokevirtual 95, 64, 0, [2, 7, 0, 0], .code yX7_passWord cX7_passWord 4 (some .boolean)) := rfl
theorem e_X7_readRow_64 : lk t_X7_readRow 64 = some (.ifCond .eq 14, 67, 78, [], .returned) := rfl
theorem e_X7_readRow_67 : lk t_X7_readRow 67 = some (.aload_n 0, 68, 0, [], .returned) := rfl
theorem e_X7_readRow_68 : lk t_X7_readRow 68 = some (.aload_n 1, 69, 1, [], .returned) := rfl
theorem e_X7_readRow_69 : lk t_X7_readRow 69 = some (.iconst 0, 70, 0, [], .constant "" 0 (0)) := rfl
theorem e_X7_readRow_70 : lk t_X7_readRow 70 = some (.bipush 99, 72, 0, [], .constant "" 0 (99)) := rfl
theorem e_X7_readRow_72 : lk t_X7_readRow 72 = some (.invokevirtual 99, 75, 0, [3, 7, 0, 0], .code yX7_passWhole cX7_passWhole 4 (some .boolean)) := rfl
theorem e_X7_readRow_75 : lk t_X7_readRow 75 = some (.ifCond .ne 5, 78, 80, [], .returned) := rfl
theorem e_X7_readRow_78 : lk t_X7_readRow 78 = some (.iconst 0, 79, 0, [], .constant "" 0 (0)) := rfl
theorem e_X7_readRow_79 : lk t_X7_readRow 79 = some (.ireturn, 80, 1, [], .returned) := rfl
theorem e_X7_readRow_80 : lk t_X7_readRow 80 = some (.aload_n 2, 81, 2, [], .returned) := rfl
theorem e_X7_readRow_81 : lk t_X7_readRow 81 = some (.getfield 158, 84, 5, [1, 2], .returned) := rfl
theorem e_X7_readRow_84 : lk t_X7_readRow 84 = some (.iload_n 3, 85, 3, [], .returned) := rfl
theorem e_X7_readRow_85 : lk t_X7_readRow 85 = some (.aload_n 0, 86, 0, [], .returned) := rfl
theorem e_X7_readRow_86 : lk t_X7_readRow 86 = some (.getfield 103, 89, 7, [5, 0], .returned) := rfl
theorem e_X7_readRow_89 : lk t_X7_readRow 89 = some (.iastore, 90, 0, [], .returned) := rfl
theorem e_X7_readRow_90 : lk t_X7_readRow 90 = some (.aload_n 2, 91, 2, [], .returned) := rfl
theorem e_X7_readRow_91 : lk t_X7_readRow 91 = some (.iload_n 3, 92, 3, [], .returned) := rfl
theorem e_X7_readRow_92 : lk t_X7_readRow 92 = some (.iconst 1, 93, 0, [], .constant "" 0 (1)) := rfl
theorem e_X7_readRow_93 : lk t_X7_readRow 93 = some (.iadd, 94, 0, [], .returned) := rfl
theorem e_X7_readRow_94 : lk t_X7_readRow 94 = some (.putfield 161, 97, 5, [2, 0], .returned) := rfl
theorem e_X7_readRow_97 : lk t_X7_readRow 97 = some (.iconst 1, 98, 0, [], .constant "" 0 (1)) := rfl
theorem e_X7_readRow_98 : lk t_X7_readRow 98 = some (.ireturn, 99, 1, [], .returned) := rfl
abbrev q_X7_readPayer : MI := (yX7_readPayer, cX7_readPayer, 3, (some .boolean))
def t_X7_readPayer : Tab := [(0, [], (.aload_n 2, 1, 2, [], .returned)),
  (1, [400], (.getfield 66, 4, 0, [4, 0], .returned)),
  (4, [], (.iconst 3, 5, 0, [], .constant "" 0 (3))),
  (5, [], (.if_icmp .lt 9, 8, 14, [], .returned)),
  (8, [], (.aload_n 0, 9, 0, [], .returned)),
  (9, [], (.iconst 5, 10, 0, [], .constant "" 0 (5))),
  (10, [527, 530, 529, 6, 94], (.invokevirtual 62, 13, 0, [1, 7, 0, 0], .code yX7_fail cX7_fail 2 (some .boolean))),
  (13, [], (.ireturn, 14, 1, [], .returned)),
  (14, [], (.aload_n 0, 15, 0, [], .returned)),
  (15, [], (.aload_n 1, 16, 1, [], .returned)),
  (16, [504, 507, 506, 1, 94], (.invokevirtual 51, 19, 0, [1, 7, 0, 0], .code yX7_advance cX7_advance 3 none)),
  (19, [], (.aload_n 0, 20, 0, [], .returned)),
  (20, [], (.aload_n 1, 21, 1, [], .returned)),
  (21, [], (.iconst 1, 22, 0, [], .constant "" 0 (1))),
  (22, [555, 558, 557, 11, 94], (.invokevirtual 126, 25, 0, [2, 7, 0, 0], .code yX7_passNewName cX7_passNewName 3 (some .boolean))),
  (25, [], (.ifCond .eq 24, 28, 49, [], .returned)),
  (28, [], (.aload_n 0, 29, 0, [], .returned)),
  (29, [], (.aload_n 1, 30, 1, [], .returned)),
  (30, [583], (.ldc2_w 164, 33, 0, [], .constantLong "" 0 (512802253683))),
  (33, [536, 539, 538, 8, 94], (.invokevirtual 95, 36, 0, [2, 7, 0, 0], .code yX7_passWord cX7_passWord 4 (some .boolean))),
  (36, [], (.ifCond .eq 13, 39, 49, [], .returned)),
  (39, [], (.aload_n 0, 40, 0, [], .returned)),
  (40, [], (.aload_n 1, 41, 1, [], .returned)),
  (41, [], (.iconst 1, 42, 0, [], .constant "" 0 (1))),
  (42, [], (.iconst 4, 43, 0, [], .constant "" 0 (4))),
  (43, [540, 543, 542, 9, 94], (.invokevirtual 99, 46, 0, [3, 7, 0, 0], .code yX7_passWhole cX7_passWhole 4 (some .boolean))),
  (46, [], (.ifCond .ne 5, 49, 51, [], .returned)),
  (49, [], (.iconst 0, 50, 0, [], .constant "" 0 (0))),
  (50, [], (.ireturn, 51, 1, [], .returned)),
  (51, [], (.aload_n 2, 52, 2, [], .returned)),
  (52, [390], (.getfield 166, 55, 0, [1, 2], .returned)),
  (55, [], (.aload_n 2, 56, 2, [], .returned)),
  (56, [400], (.getfield 66, 59, 0, [4, 0], .returned)),
  (59, [], (.aaload, 60, 0, [], .returned)),
  (60, [], (.aload_n 0, 61, 0, [], .returned)),
  (61, [151], (.getfield 103, 64, 7, [5, 0], .returned)),
  (64, [584, 587, 585, 586, 101], (.invokevirtual 170, 67, 0, [1, 4, 0, 0], .code yX4_begin cX4_begin 2 none)),
  (67, [], (.aload_n 2, 68, 2, [], .returned)),
  (68, [], (.dup, 69, 0, [], .returned)),
  (69, [400], (.getfield 66, 72, 0, [4, 0], .returned)),
  (72, [], (.iconst 1, 73, 0, [], .constant "" 0 (1))),
  (73, [], (.iadd, 74, 0, [], .returned)),
  (74, [400], (.putfield 66, 77, 0, [4, 0], .returned)),
  (77, [], (.iconst 1, 78, 0, [], .constant "" 0 (1))),
  (78, [], (.ireturn, 79, 1, [], .returned))]
theorem ck_X7_readPayer : okT q_X7_readPayer t_X7_readPayer = true := by decide +kernel
theorem e_X7_readPayer_0 : lk t_X7_readPayer 0 = some (.aload_n 2, 1, 2, [], .returned) := rfl
theorem e_X7_readPayer_1 : lk t_X7_readPayer 1 = some (.getfield 66, 4, 0, [4, 0], .returned) := rfl
theorem e_X7_readPayer_4 : lk t_X7_readPayer 4 = some (.iconst 3, 5, 0, [], .constant "" 0 (3)) := rfl
theorem e_X7_readPayer_5 : lk t_X7_readPayer 5 = some (.if_icmp .lt 9, 8, 14, [], .returned) := rfl
theorem e_X7_readPayer_8 : lk t_X7_readPayer 8 = some (.aload_n 0, 9, 0, [], .returned) := rfl
theorem e_X7_readPayer_9 : lk t_X7_readPayer 9 = some (.iconst 5, 10, 0, [], .constant "" 0 (5)) := rfl
theorem e_X7_readPayer_10 : lk t_X7_readPayer 10 = some (.invokevirtual 62, 13, 0, [1, 7, 0, 0], .code yX7_fail cX7_fail 2 (some .boolean)) := rfl
theorem e_X7_readPayer_13 : lk t_X7_readPayer 13 = some (.ireturn, 14, 1, [], .returned) := rfl
theorem e_X7_readPayer_14 : lk t_X7_readPayer 14 = some (.aload_n 0, 15, 0, [], .returned) := rfl
theorem e_X7_readPayer_15 : lk t_X7_readPayer 15 = some (.aload_n 1, 16, 1, [], .returned) := rfl
theorem e_X7_readPayer_16 : lk t_X7_readPayer 16 = some (.invokevirtual 51, 19, 0, [1, 7, 0, 0], .code yX7_advance cX7_advance 3 none) := rfl
theorem e_X7_readPayer_19 : lk t_X7_readPayer 19 = some (.aload_n 0, 20, 0, [], .returned) := rfl
theorem e_X7_readPayer_20 : lk t_X7_readPayer 20 = some (.aload_n 1, 21, 1, [], .returned) := rfl
theorem e_X7_readPayer_21 : lk t_X7_readPayer 21 = some (.iconst 1, 22, 0, [], .constant "" 0 (1)) := rfl
theorem e_X7_readPayer_22 : lk t_X7_readPayer 22 = some (.invokevirtual 126, 25, 0, [2, 7, 0, 0], .code yX7_passNewName cX7_passNewName 3 (some .boolean)) := rfl
theorem e_X7_readPayer_25 : lk t_X7_readPayer 25 = some (.ifCond .eq 24, 28, 49, [], .returned) := rfl
theorem e_X7_readPayer_28 : lk t_X7_readPayer 28 = some (.aload_n 0, 29, 0, [], .returned) := rfl
theorem e_X7_readPayer_29 : lk t_X7_readPayer 29 = some (.aload_n 1, 30, 1, [], .returned) := rfl
theorem e_X7_readPayer_30 : lk t_X7_readPayer 30 = some (.ldc2_w 164, 33, 0, [], .constantLong "" 0 (512802253683)) := rfl
theorem e_X7_readPayer_33 : lk t_X7_readPayer 33 = some (.invokevirtual 95, 36, 0, [2, 7, 0, 0], .code yX7_passWord cX7_passWord 4 (some .boolean)) := rfl
theorem e_X7_readPayer_36 : lk t_X7_readPayer 36 = some (.ifCond .eq 13, 39, 49, [], .returned) := rfl
theorem e_X7_readPayer_39 : lk t_X7_readPayer 39 = some (.aload_n 0, 40, 0, [], .returned) := rfl
theorem e_X7_readPayer_40 : lk t_X7_readPayer 40 = some (.aload_n 1, 41, 1, [], .returned) := rfl
theorem e_X7_readPayer_41 : lk t_X7_readPayer 41 = some (.iconst 1, 42, 0, [], .constant "" 0 (1)) := rfl
theorem e_X7_readPayer_42 : lk t_X7_readPayer 42 = some (.iconst 4, 43, 0, [], .constant "" 0 (4)) := rfl
theorem e_X7_readPayer_43 : lk t_X7_readPayer 43 = some (.invokevirtual 99, 46, 0, [3, 7, 0, 0], .code yX7_passWhole cX7_passWhole 4 (some .boolean)) := rfl
theorem e_X7_readPayer_46 : lk t_X7_readPayer 46 = some (.ifCond .ne 5, 49, 51, [], .returned) := rfl
theorem e_X7_readPayer_49 : lk t_X7_readPayer 49 = some (.iconst 0, 50, 0, [], .constant "" 0 (0)) := rfl
theorem e_X7_readPayer_50 : lk t_X7_readPayer 50 = some (.ireturn, 51, 1, [], .returned) := rfl
theorem e_X7_readPayer_51 : lk t_X7_readPayer 51 = some (.aload_n 2, 52, 2, [], .returned) := rfl
theorem e_X7_readPayer_52 : lk t_X7_readPayer 52 = some (.getfield 166, 55, 0, [1, 2], .returned) := rfl
theorem e_X7_readPayer_55 : lk t_X7_readPayer 55 = some (.aload_n 2, 56, 2, [], .returned) := rfl
theorem e_X7_readPayer_56 : lk t_X7_readPayer 56 = some (.getfield 66, 59, 0, [4, 0], .returned) := rfl
theorem e_X7_readPayer_59 : lk t_X7_readPayer 59 = some (.aaload, 60, 0, [], .returned) := rfl
theorem e_X7_readPayer_60 : lk t_X7_readPayer 60 = some (.aload_n 0, 61, 0, [], .returned) := rfl
theorem e_X7_readPayer_61 : lk t_X7_readPayer 61 = some (.getfield 103, 64, 7, [5, 0], .returned) := rfl
theorem e_X7_readPayer_64 : lk t_X7_readPayer 64 = some (.invokevirtual 170, 67, 0, [1, 4, 0, 0], .code yX4_begin cX4_begin 2 none) := rfl
theorem e_X7_readPayer_67 : lk t_X7_readPayer 67 = some (.aload_n 2, 68, 2, [], .returned) := rfl
theorem e_X7_readPayer_68 : lk t_X7_readPayer 68 = some (.dup, 69, 0, [], .returned) := rfl
theorem e_X7_readPayer_69 : lk t_X7_readPayer 69 = some (.getfield 66, 72, 0, [4, 0], .returned) := rfl
theorem e_X7_readPayer_72 : lk t_X7_readPayer 72 = some (.iconst 1, 73, 0, [], .constant "" 0 (1)) := rfl
theorem e_X7_readPayer_73 : lk t_X7_readPayer 73 = some (.iadd, 74, 0, [], .returned) := rfl
theorem e_X7_readPayer_74 : lk t_X7_readPayer 74 = some (.putfield 66, 77, 0, [4, 0], .returned) := rfl
theorem e_X7_readPayer_77 : lk t_X7_readPayer 77 = some (.iconst 1, 78, 0, [], .constant "" 0 (1)) := rfl
theorem e_X7_readPayer_78 : lk t_X7_readPayer 78 = some (.ireturn, 79, 1, [], .returned) := rfl
abbrev q_X7_readOrder : MI := (yX7_readOrder, cX7_readOrder, 4, (some .boolean))
def t_X7_readOrder : Tab := [(0, [], (.aload_n 2, 1, 2, [], .returned)),
  (1, [407], (.getfield 175, 4, 0, [5, 0], .returned)),
  (4, [], (.bipush 6, 6, 0, [], .constant "" 0 (6))),
  (6, [], (.if_icmp .lt 9, 9, 15, [], .returned)),
  (9, [], (.aload_n 0, 10, 0, [], .returned)),
  (10, [], (.iconst 5, 11, 0, [], .constant "" 0 (5))),
  (11, [527, 530, 529, 6, 94], (.invokevirtual 62, 14, 0, [1, 7, 0, 0], .code yX7_fail cX7_fail 2 (some .boolean))),
  (14, [], (.ireturn, 15, 1, [], .returned)),
  (15, [], (.aload_n 0, 16, 0, [], .returned)),
  (16, [], (.aload_n 1, 17, 1, [], .returned)),
  (17, [504, 507, 506, 1, 94], (.invokevirtual 51, 20, 0, [1, 7, 0, 0], .code yX7_advance cX7_advance 3 none)),
  (20, [], (.aload_n 2, 21, 2, [], .returned)),
  (21, [395], (.getfield 178, 24, 0, [2, 2], .returned)),
  (24, [], (.aload_n 2, 25, 2, [], .returned)),
  (25, [407], (.getfield 175, 28, 0, [5, 0], .returned)),
  (28, [], (.aaload, 29, 0, [], .returned)),
  (29, [], (.astore_n 3, 30, 3, [], .returned)),
  (30, [], (.aload_n 2, 31, 2, [], .returned)),
  (31, [], (.dup, 32, 0, [], .returned)),
  (32, [407], (.getfield 175, 35, 0, [5, 0], .returned)),
  (35, [], (.iconst 1, 36, 0, [], .constant "" 0 (1))),
  (36, [], (.iadd, 37, 0, [], .returned)),
  (37, [407], (.putfield 175, 40, 0, [5, 0], .returned)),
  (40, [], (.aload_n 3, 41, 3, [], .returned)),
  (41, [592, 595, 593, 594, 97], (.invokevirtual 182, 44, 0, [0, 3, 0, 0], .code yX3_begin cX3_begin 1 none)),
  (44, [], (.aload_n 0, 45, 0, [], .returned)),
  (45, [], (.aload_n 1, 46, 1, [], .returned)),
  (46, [], (.iconst 2, 47, 0, [], .constant "" 0 (2))),
  (47, [555, 558, 557, 11, 94], (.invokevirtual 126, 50, 0, [2, 7, 0, 0], .code yX7_passNewName cX7_passNewName 3 (some .boolean))),
  (50, [], (.ifCond .eq 25, 53, 75, [], .returned)),
  (53, [], (.aload_n 0, 54, 0, [], .returned)),
  (54, [], (.aload_n 1, 55, 1, [], .returned)),
  (55, [596], (.ldc2_w 186, 58, 0, [], .constantLong "" 0 (1918987883))),
  (58, [536, 539, 538, 8, 94], (.invokevirtual 95, 61, 0, [2, 7, 0, 0], .code yX7_passWord cX7_passWord 4 (some .boolean))),
  (61, [], (.ifCond .eq 14, 64, 75, [], .returned)),
  (64, [], (.aload_n 0, 65, 0, [], .returned)),
  (65, [], (.aload_n 1, 66, 1, [], .returned)),
  (66, [], (.iconst 1, 67, 0, [], .constant "" 0 (1))),
  (67, [], (.bipush 9, 69, 0, [], .constant "" 0 (9))),
  (69, [540, 543, 542, 9, 94], (.invokevirtual 99, 72, 0, [3, 7, 0, 0], .code yX7_passWhole cX7_passWhole 4 (some .boolean))),
  (72, [], (.ifCond .ne 5, 75, 77, [], .returned)),
  (75, [], (.iconst 0, 76, 0, [], .constant "" 0 (0))),
  (76, [], (.ireturn, 77, 1, [], .returned)),
  (77, [], (.aload_n 3, 78, 3, [], .returned)),
  (78, [], (.aload_n 0, 79, 0, [], .returned)),
  (79, [151], (.getfield 103, 82, 7, [5, 0], .returned)),
  (82, [242], (.putfield 188, 85, 3, [0, 0], .returned)),
  (85, [], (.aload_n 0, 86, 0, [], .returned)),
  (86, [], (.aload_n 1, 87, 1, [], .returned)),
  (87, [535], (.ldc2_w 93, 90, 0, [], .constantLong "" 0 (1801807216))),
  (90, [536, 539, 538, 8, 94], (.invokevirtual 95, 93, 0, [2, 7, 0, 0], .code yX7_passWord cX7_passWord 4 (some .boolean))),
  (93, [], (.ifCond .eq 15, 96, 108, [], .returned)),
  (96, [], (.aload_n 0, 97, 0, [], .returned)),
  (97, [], (.aload_n 1, 98, 1, [], .returned)),
  (98, [], (.iconst 0, 99, 0, [], .constant "" 0 (0))),
  (99, [], (.sipush 999, 102, 0, [], .constant "" 0 (999))),
  (102, [540, 543, 542, 9, 94], (.invokevirtual 99, 105, 0, [3, 7, 0, 0], .code yX7_passWhole cX7_passWhole 4 (some .boolean))),
  (105, [], (.ifCond .ne 5, 108, 110, [], .returned)),
  (108, [], (.iconst 0, 109, 0, [], .constant "" 0 (0))),
  (109, [], (.ireturn, 110, 1, [], .returned)),
  (110, [], (.aload_n 3, 111, 3, [], .returned)),
  (111, [], (.aload_n 0, 112, 0, [], .returned)),
  (112, [151], (.getfield 103, 115, 7, [5, 0], .returned)),
  (115, [246], (.putfield 191, 118, 3, [1, 0], .returned)),
  (118, [], (.aload_n 0, 119, 0, [], .returned)),
  (119, [], (.aload_n 1, 120, 1, [], .returned)),
  (120, [597], (.ldc2_w 192, 123, 0, [], .constantLong "" 0 (500086104428))),
  (123, [536, 539, 538, 8, 94], (.invokevirtual 95, 126, 0, [2, 7, 0, 0], .code yX7_passWord cX7_passWord 4 (some .boolean))),
  (126, [], (.ifCond .eq 14, 129, 140, [], .returned)),
  (129, [], (.aload_n 0, 130, 0, [], .returned)),
  (130, [], (.aload_n 1, 131, 1, [], .returned)),
  (131, [], (.iconst 0, 132, 0, [], .constant "" 0 (0))),
  (132, [598], (.ldc 194, 134, 0, [], .constant "" 0 (99999))),
  (134, [540, 543, 542, 9, 94], (.invokevirtual 99, 137, 0, [3, 7, 0, 0], .code yX7_passWhole cX7_passWhole 4 (some .boolean))),
  (137, [], (.ifCond .ne 5, 140, 142, [], .returned)),
  (140, [], (.iconst 0, 141, 0, [], .constant "" 0 (0))),
  (141, [], (.ireturn, 142, 1, [], .returned)),
  (142, [], (.aload_n 3, 143, 3, [], .returned)),
  (143, [], (.aload_n 0, 144, 0, [], .returned)),
  (144, [151], (.getfield 103, 147, 7, [5, 0], .returned)),
  (147, [249], (.putfield 195, 150, 3, [2, 0], .returned)),
  (150, [], (.aload_n 0, 151, 0, [], .returned)),
  (151, [], (.aload_n 1, 152, 1, [], .returned)),
  (152, [], (.aload_n 3, 153, 3, [], .returned)),
  (153, [599, 602, 601, 17, 94], (.invokevirtual 198, 156, 0, [2, 7, 0, 0], .code yX7_readKind cX7_readKind 4 (some .boolean))),
  (156, [], (.ifCond .eq 27, 159, 183, [], .returned)),
  (159, [], (.aload_n 0, 160, 0, [], .returned)),
  (160, [], (.aload_n 1, 161, 1, [], .returned)),
  (161, [608], (.ldc2_w 202, 164, 0, [], .constantLong "" 0 (24948))),
  (164, [536, 539, 538, 8, 94], (.invokevirtual 95, 167, 0, [2, 7, 0, 0], .code yX7_passWord cX7_passWord 4 (some .boolean))),
  (167, [], (.ifCond .eq 16, 170, 183, [], .returned)),
  (170, [], (.aload_n 0, 171, 0, [], .returned)),
  (171, [], (.aload_n 1, 172, 1, [], .returned)),
  (172, [], (.aload_n 3, 173, 3, [], .returned)),
  (173, [609, 612, 611, 19, 94], (.invokevirtual 204, 176, 0, [2, 7, 0, 0], .code yX7_readPlace cX7_readPlace 3 (some .boolean))),
  (176, [], (.ifCond .eq 7, 179, 183, [], .returned)),
  (179, [], (.iconst 1, 180, 0, [], .constant "" 0 (1))),
  (180, [], (.goto 4, 183, 184, [], .returned)),
  (183, [], (.iconst 0, 184, 0, [], .constant "" 0 (0))),
  (184, [], (.ireturn, 185, 1, [], .returned))]
theorem ck_X7_readOrder : okT q_X7_readOrder t_X7_readOrder = true := by decide +kernel
theorem e_X7_readOrder_0 : lk t_X7_readOrder 0 = some (.aload_n 2, 1, 2, [], .returned) := rfl
theorem e_X7_readOrder_1 : lk t_X7_readOrder 1 = some (.getfield 175, 4, 0, [5, 0], .returned) := rfl
theorem e_X7_readOrder_4 : lk t_X7_readOrder 4 = some (.bipush 6, 6, 0, [], .constant "" 0 (6)) := rfl
theorem e_X7_readOrder_6 : lk t_X7_readOrder 6 = some (.if_icmp .lt 9, 9, 15, [], .returned) := rfl
theorem e_X7_readOrder_9 : lk t_X7_readOrder 9 = some (.aload_n 0, 10, 0, [], .returned) := rfl
theorem e_X7_readOrder_10 : lk t_X7_readOrder 10 = some (.iconst 5, 11, 0, [], .constant "" 0 (5)) := rfl
theorem e_X7_readOrder_11 : lk t_X7_readOrder 11 = some (.invokevirtual 62, 14, 0, [1, 7, 0, 0], .code yX7_fail cX7_fail 2 (some .boolean)) := rfl
theorem e_X7_readOrder_14 : lk t_X7_readOrder 14 = some (.ireturn, 15, 1, [], .returned) := rfl
theorem e_X7_readOrder_15 : lk t_X7_readOrder 15 = some (.aload_n 0, 16, 0, [], .returned) := rfl
theorem e_X7_readOrder_16 : lk t_X7_readOrder 16 = some (.aload_n 1, 17, 1, [], .returned) := rfl
theorem e_X7_readOrder_17 : lk t_X7_readOrder 17 = some (.invokevirtual 51, 20, 0, [1, 7, 0, 0], .code yX7_advance cX7_advance 3 none) := rfl
theorem e_X7_readOrder_20 : lk t_X7_readOrder 20 = some (.aload_n 2, 21, 2, [], .returned) := rfl
theorem e_X7_readOrder_21 : lk t_X7_readOrder 21 = some (.getfield 178, 24, 0, [2, 2], .returned) := rfl
theorem e_X7_readOrder_24 : lk t_X7_readOrder 24 = some (.aload_n 2, 25, 2, [], .returned) := rfl
theorem e_X7_readOrder_25 : lk t_X7_readOrder 25 = some (.getfield 175, 28, 0, [5, 0], .returned) := rfl
theorem e_X7_readOrder_28 : lk t_X7_readOrder 28 = some (.aaload, 29, 0, [], .returned) := rfl
theorem e_X7_readOrder_29 : lk t_X7_readOrder 29 = some (.astore_n 3, 30, 3, [], .returned) := rfl
theorem e_X7_readOrder_30 : lk t_X7_readOrder 30 = some (.aload_n 2, 31, 2, [], .returned) := rfl
theorem e_X7_readOrder_31 : lk t_X7_readOrder 31 = some (.dup, 32, 0, [], .returned) := rfl
theorem e_X7_readOrder_32 : lk t_X7_readOrder 32 = some (.getfield 175, 35, 0, [5, 0], .returned) := rfl
theorem e_X7_readOrder_35 : lk t_X7_readOrder 35 = some (.iconst 1, 36, 0, [], .constant "" 0 (1)) := rfl
theorem e_X7_readOrder_36 : lk t_X7_readOrder 36 = some (.iadd, 37, 0, [], .returned) := rfl
theorem e_X7_readOrder_37 : lk t_X7_readOrder 37 = some (.putfield 175, 40, 0, [5, 0], .returned) := rfl
theorem e_X7_readOrder_40 : lk t_X7_readOrder 40 = some (.aload_n 3, 41, 3, [], .returned) := rfl
theorem e_X7_readOrder_41 : lk t_X7_readOrder 41 = some (.invokevirtual 182, 44, 0, [0, 3, 0, 0], .code yX3_begin cX3_begin 1 none) := rfl
theorem e_X7_readOrder_44 : lk t_X7_readOrder 44 = some (.aload_n 0, 45, 0, [], .returned) := rfl
theorem e_X7_readOrder_45 : lk t_X7_readOrder 45 = some (.aload_n 1, 46, 1, [], .returned) := rfl
theorem e_X7_readOrder_46 : lk t_X7_readOrder 46 = some (.iconst 2, 47, 0, [], .constant "" 0 (2)) := rfl
theorem e_X7_readOrder_47 : lk t_X7_readOrder 47 = some (.invokevirtual 126, 50, 0, [2, 7, 0, 0], .code yX7_passNewName cX7_passNewName 3 (some .boolean)) := rfl
theorem e_X7_readOrder_50 : lk t_X7_readOrder 50 = some (.ifCond .eq 25, 53, 75, [], .returned) := rfl
theorem e_X7_readOrder_53 : lk t_X7_readOrder 53 = some (.aload_n 0, 54, 0, [], .returned) := rfl
theorem e_X7_readOrder_54 : lk t_X7_readOrder 54 = some (.aload_n 1, 55, 1, [], .returned) := rfl
theorem e_X7_readOrder_55 : lk t_X7_readOrder 55 = some (.ldc2_w 186, 58, 0, [], .constantLong "" 0 (1918987883)) := rfl
theorem e_X7_readOrder_58 : lk t_X7_readOrder 58 = some (.invokevirtual 95, 61, 0, [2, 7, 0, 0], .code yX7_passWord cX7_passWord 4 (some .boolean)) := rfl
theorem e_X7_readOrder_61 : lk t_X7_readOrder 61 = some (.ifCond .eq 14, 64, 75, [], .returned) := rfl
theorem e_X7_readOrder_64 : lk t_X7_readOrder 64 = some (.aload_n 0, 65, 0, [], .returned) := rfl
theorem e_X7_readOrder_65 : lk t_X7_readOrder 65 = some (.aload_n 1, 66, 1, [], .returned) := rfl
theorem e_X7_readOrder_66 : lk t_X7_readOrder 66 = some (.iconst 1, 67, 0, [], .constant "" 0 (1)) := rfl
theorem e_X7_readOrder_67 : lk t_X7_readOrder 67 = some (.bipush 9, 69, 0, [], .constant "" 0 (9)) := rfl
theorem e_X7_readOrder_69 : lk t_X7_readOrder 69 = some (.invokevirtual 99, 72, 0, [3, 7, 0, 0], .code yX7_passWhole cX7_passWhole 4 (some .boolean)) := rfl
theorem e_X7_readOrder_72 : lk t_X7_readOrder 72 = some (.ifCond .ne 5, 75, 77, [], .returned) := rfl
theorem e_X7_readOrder_75 : lk t_X7_readOrder 75 = some (.iconst 0, 76, 0, [], .constant "" 0 (0)) := rfl
theorem e_X7_readOrder_76 : lk t_X7_readOrder 76 = some (.ireturn, 77, 1, [], .returned) := rfl
theorem e_X7_readOrder_77 : lk t_X7_readOrder 77 = some (.aload_n 3, 78, 3, [], .returned) := rfl
theorem e_X7_readOrder_78 : lk t_X7_readOrder 78 = some (.aload_n 0, 79, 0, [], .returned) := rfl
theorem e_X7_readOrder_79 : lk t_X7_readOrder 79 = some (.getfield 103, 82, 7, [5, 0], .returned) := rfl
theorem e_X7_readOrder_82 : lk t_X7_readOrder 82 = some (.putfield 188, 85, 3, [0, 0], .returned) := rfl
theorem e_X7_readOrder_85 : lk t_X7_readOrder 85 = some (.aload_n 0, 86, 0, [], .returned) := rfl
theorem e_X7_readOrder_86 : lk t_X7_readOrder 86 = some (.aload_n 1, 87, 1, [], .returned) := rfl
theorem e_X7_readOrder_87 : lk t_X7_readOrder 87 = some (.ldc2_w 93, 90, 0, [], .constantLong "" 0 (1801807216)) := rfl
theorem e_X7_readOrder_90 : lk t_X7_readOrder 90 = some (.invokevirtual 95, 93, 0, [2, 7, 0, 0], .code yX7_passWord cX7_passWord 4 (some .boolean)) := rfl
theorem e_X7_readOrder_93 : lk t_X7_readOrder 93 = some (.ifCond .eq 15, 96, 108, [], .returned) := rfl
theorem e_X7_readOrder_96 : lk t_X7_readOrder 96 = some (.aload_n 0, 97, 0, [], .returned) := rfl
theorem e_X7_readOrder_97 : lk t_X7_readOrder 97 = some (.aload_n 1, 98, 1, [], .returned) := rfl
theorem e_X7_readOrder_98 : lk t_X7_readOrder 98 = some (.iconst 0, 99, 0, [], .constant "" 0 (0)) := rfl
theorem e_X7_readOrder_99 : lk t_X7_readOrder 99 = some (.sipush 999, 102, 0, [], .constant "" 0 (999)) := rfl
theorem e_X7_readOrder_102 : lk t_X7_readOrder 102 = some (.invokevirtual 99, 105, 0, [3, 7, 0, 0], .code yX7_passWhole cX7_passWhole 4 (some .boolean)) := rfl
theorem e_X7_readOrder_105 : lk t_X7_readOrder 105 = some (.ifCond .ne 5, 108, 110, [], .returned) := rfl
theorem e_X7_readOrder_108 : lk t_X7_readOrder 108 = some (.iconst 0, 109, 0, [], .constant "" 0 (0)) := rfl
theorem e_X7_readOrder_109 : lk t_X7_readOrder 109 = some (.ireturn, 110, 1, [], .returned) := rfl
theorem e_X7_readOrder_110 : lk t_X7_readOrder 110 = some (.aload_n 3, 111, 3, [], .returned) := rfl
theorem e_X7_readOrder_111 : lk t_X7_readOrder 111 = some (.aload_n 0, 112, 0, [], .returned) := rfl
theorem e_X7_readOrder_112 : lk t_X7_readOrder 112 = some (.getfield 103, 115, 7, [5, 0], .returned) := rfl
theorem e_X7_readOrder_115 : lk t_X7_readOrder 115 = some (.putfield 191, 118, 3, [1, 0], .returned) := rfl
theorem e_X7_readOrder_118 : lk t_X7_readOrder 118 = some (.aload_n 0, 119, 0, [], .returned) := rfl
theorem e_X7_readOrder_119 : lk t_X7_readOrder 119 = some (.aload_n 1, 120, 1, [], .returned) := rfl
theorem e_X7_readOrder_120 : lk t_X7_readOrder 120 = some (.ldc2_w 192, 123, 0, [], .constantLong "" 0 (500086104428)) := rfl
theorem e_X7_readOrder_123 : lk t_X7_readOrder 123 = some (.invokevirtual 95, 126, 0, [2, 7, 0, 0], .code yX7_passWord cX7_passWord 4 (some .boolean)) := rfl
theorem e_X7_readOrder_126 : lk t_X7_readOrder 126 = some (.ifCond .eq 14, 129, 140, [], .returned) := rfl
theorem e_X7_readOrder_129 : lk t_X7_readOrder 129 = some (.aload_n 0, 130, 0, [], .returned) := rfl
theorem e_X7_readOrder_130 : lk t_X7_readOrder 130 = some (.aload_n 1, 131, 1, [], .returned) := rfl
theorem e_X7_readOrder_131 : lk t_X7_readOrder 131 = some (.iconst 0, 132, 0, [], .constant "" 0 (0)) := rfl
theorem e_X7_readOrder_132 : lk t_X7_readOrder 132 = some (.ldc 194, 134, 0, [], .constant "" 0 (99999)) := rfl
theorem e_X7_readOrder_134 : lk t_X7_readOrder 134 = some (.invokevirtual 99, 137, 0, [3, 7, 0, 0], .code yX7_passWhole cX7_passWhole 4 (some .boolean)) := rfl
theorem e_X7_readOrder_137 : lk t_X7_readOrder 137 = some (.ifCond .ne 5, 140, 142, [], .returned) := rfl
theorem e_X7_readOrder_140 : lk t_X7_readOrder 140 = some (.iconst 0, 141, 0, [], .constant "" 0 (0)) := rfl
theorem e_X7_readOrder_141 : lk t_X7_readOrder 141 = some (.ireturn, 142, 1, [], .returned) := rfl
theorem e_X7_readOrder_142 : lk t_X7_readOrder 142 = some (.aload_n 3, 143, 3, [], .returned) := rfl
theorem e_X7_readOrder_143 : lk t_X7_readOrder 143 = some (.aload_n 0, 144, 0, [], .returned) := rfl
theorem e_X7_readOrder_144 : lk t_X7_readOrder 144 = some (.getfield 103, 147, 7, [5, 0], .returned) := rfl
theorem e_X7_readOrder_147 : lk t_X7_readOrder 147 = some (.putfield 195, 150, 3, [2, 0], .returned) := rfl
theorem e_X7_readOrder_150 : lk t_X7_readOrder 150 = some (.aload_n 0, 151, 0, [], .returned) := rfl
theorem e_X7_readOrder_151 : lk t_X7_readOrder 151 = some (.aload_n 1, 152, 1, [], .returned) := rfl
theorem e_X7_readOrder_152 : lk t_X7_readOrder 152 = some (.aload_n 3, 153, 3, [], .returned) := rfl
theorem e_X7_readOrder_153 : lk t_X7_readOrder 153 = some (.invokevirtual 198, 156, 0, [2, 7, 0, 0], .code yX7_readKind cX7_readKind 4 (some .boolean)) := rfl
theorem e_X7_readOrder_156 : lk t_X7_readOrder 156 = some (.ifCond .eq 27, 159, 183, [], .returned) := rfl
theorem e_X7_readOrder_159 : lk t_X7_readOrder 159 = some (.aload_n 0, 160, 0, [], .returned) := rfl
theorem e_X7_readOrder_160 : lk t_X7_readOrder 160 = some (.aload_n 1, 161, 1, [], .returned) := rfl
theorem e_X7_readOrder_161 : lk t_X7_readOrder 161 = some (.ldc2_w 202, 164, 0, [], .constantLong "" 0 (24948)) := rfl
theorem e_X7_readOrder_164 : lk t_X7_readOrder 164 = some (.invokevirtual 95, 167, 0, [2, 7, 0, 0], .code yX7_passWord cX7_passWord 4 (some .boolean)) := rfl
theorem e_X7_readOrder_167 : lk t_X7_readOrder 167 = some (.ifCond .eq 16, 170, 183, [], .returned) := rfl
theorem e_X7_readOrder_170 : lk t_X7_readOrder 170 = some (.aload_n 0, 171, 0, [], .returned) := rfl
theorem e_X7_readOrder_171 : lk t_X7_readOrder 171 = some (.aload_n 1, 172, 1, [], .returned) := rfl
theorem e_X7_readOrder_172 : lk t_X7_readOrder 172 = some (.aload_n 3, 173, 3, [], .returned) := rfl
theorem e_X7_readOrder_173 : lk t_X7_readOrder 173 = some (.invokevirtual 204, 176, 0, [2, 7, 0, 0], .code yX7_readPlace cX7_readPlace 3 (some .boolean)) := rfl
theorem e_X7_readOrder_176 : lk t_X7_readOrder 176 = some (.ifCond .eq 7, 179, 183, [], .returned) := rfl
theorem e_X7_readOrder_179 : lk t_X7_readOrder 179 = some (.iconst 1, 180, 0, [], .constant "" 0 (1)) := rfl
theorem e_X7_readOrder_180 : lk t_X7_readOrder 180 = some (.goto 4, 183, 184, [], .returned) := rfl
theorem e_X7_readOrder_183 : lk t_X7_readOrder 183 = some (.iconst 0, 184, 0, [], .constant "" 0 (0)) := rfl
theorem e_X7_readOrder_184 : lk t_X7_readOrder 184 = some (.ireturn, 185, 1, [], .returned) := rfl
abbrev q_X7_readKind : MI := (yX7_readKind, cX7_readKind, 4, (some .boolean))
def t_X7_readKind : Tab := [(0, [], (.aload_n 0, 1, 0, [], .returned)),
  (1, [603], (.ldc2_w 207, 4, 0, [], .constantLong "" 0 (7566701))),
  (4, [523, 526, 525, 5, 94], (.invokevirtual 71, 7, 0, [1, 7, 0, 0], .code yX7_isWord cX7_isWord 3 (some .boolean))),
  (7, [], (.ifCond .eq 26, 10, 33, [], .returned)),
  (10, [], (.aload_n 2, 11, 2, [], .returned)),
  (11, [], (.iconst 0, 12, 0, [], .constant "" 0 (0))),
  (12, [253], (.putfield 209, 15, 3, [3, 0], .returned)),
  (15, [], (.aload_n 0, 16, 0, [], .returned)),
  (16, [], (.aload_n 1, 17, 1, [], .returned)),
  (17, [504, 507, 506, 1, 94], (.invokevirtual 51, 20, 0, [1, 7, 0, 0], .code yX7_advance cX7_advance 3 none)),
  (20, [], (.aload_n 0, 21, 0, [], .returned)),
  (21, [], (.aload_n 1, 22, 1, [], .returned)),
  (22, [], (.iconst 1, 23, 0, [], .constant "" 0 (1))),
  (23, [], (.sipush 999, 26, 0, [], .constant "" 0 (999))),
  (26, [540, 543, 542, 9, 94], (.invokevirtual 99, 29, 0, [3, 7, 0, 0], .code yX7_passWhole cX7_passWhole 4 (some .boolean))),
  (29, [], (.istore_n 3, 30, 3, [], .returned)),
  (30, [], (.goto 66, 33, 96, [], .returned)),
  (33, [], (.aload_n 0, 34, 0, [], .returned)),
  (34, [548], (.ldc2_w 78, 37, 0, [], .constantLong "" 0 (499850046565))),
  (37, [523, 526, 525, 5, 94], (.invokevirtual 71, 40, 0, [1, 7, 0, 0], .code yX7_isWord cX7_isWord 3 (some .boolean))),
  (40, [], (.ifCond .eq 23, 43, 63, [], .returned)),
  (43, [], (.aload_n 2, 44, 2, [], .returned)),
  (44, [], (.iconst 1, 45, 0, [], .constant "" 0 (1))),
  (45, [253], (.putfield 209, 48, 3, [3, 0], .returned)),
  (48, [], (.aload_n 0, 49, 0, [], .returned)),
  (49, [], (.aload_n 1, 50, 1, [], .returned)),
  (50, [504, 507, 506, 1, 94], (.invokevirtual 51, 53, 0, [1, 7, 0, 0], .code yX7_advance cX7_advance 3 none)),
  (53, [], (.aload_n 0, 54, 0, [], .returned)),
  (54, [], (.aload_n 1, 55, 1, [], .returned)),
  (55, [], (.iconst 0, 56, 0, [], .constant "" 0 (0))),
  (56, [604, 607, 606, 18, 94], (.invokevirtual 212, 59, 0, [2, 7, 0, 0], .code yX7_passKnownName cX7_passKnownName 4 (some .boolean))),
  (59, [], (.istore_n 3, 60, 3, [], .returned)),
  (60, [], (.goto 36, 63, 96, [], .returned)),
  (63, [], (.aload_n 2, 64, 2, [], .returned)),
  (64, [], (.iconst 2, 65, 0, [], .constant "" 0 (2))),
  (65, [253], (.putfield 209, 68, 3, [3, 0], .returned)),
  (68, [], (.aload_n 0, 69, 0, [], .returned)),
  (69, [], (.aload_n 1, 70, 1, [], .returned)),
  (70, [544], (.ldc2_w 109, 73, 0, [], .constantLong "" 0 (1885434484))),
  (73, [536, 539, 538, 8, 94], (.invokevirtual 95, 76, 0, [2, 7, 0, 0], .code yX7_passWord cX7_passWord 4 (some .boolean))),
  (76, [], (.ifCond .eq 18, 79, 94, [], .returned)),
  (79, [], (.aload_n 0, 80, 0, [], .returned)),
  (80, [], (.aload_n 1, 81, 1, [], .returned)),
  (81, [], (.iconst 1, 82, 0, [], .constant "" 0 (1))),
  (82, [], (.bipush 99, 84, 0, [], .constant "" 0 (99))),
  (84, [540, 543, 542, 9, 94], (.invokevirtual 99, 87, 0, [3, 7, 0, 0], .code yX7_passWhole cX7_passWhole 4 (some .boolean))),
  (87, [], (.ifCond .eq 7, 90, 94, [], .returned)),
  (90, [], (.iconst 1, 91, 0, [], .constant "" 0 (1))),
  (91, [], (.goto 4, 94, 95, [], .returned)),
  (94, [], (.iconst 0, 95, 0, [], .constant "" 0 (0))),
  (95, [], (.istore_n 3, 96, 3, [], .returned)),
  (96, [], (.aload_n 2, 97, 2, [], .returned)),
  (97, [], (.aload_n 0, 98, 0, [], .returned)),
  (98, [151], (.getfield 103, 101, 7, [5, 0], .returned)),
  (101, [257], (.putfield 215, 104, 3, [4, 0], .returned)),
  (104, [], (.iload_n 3, 105, 3, [], .returned)),
  (105, [], (.ireturn, 106, 1, [], .returned))]
theorem ck_X7_readKind : okT q_X7_readKind t_X7_readKind = true := by decide +kernel
theorem e_X7_readKind_0 : lk t_X7_readKind 0 = some (.aload_n 0, 1, 0, [], .returned) := rfl
theorem e_X7_readKind_1 : lk t_X7_readKind 1 = some (.ldc2_w 207, 4, 0, [], .constantLong "" 0 (7566701)) := rfl
theorem e_X7_readKind_4 : lk t_X7_readKind 4 = some (.invokevirtual 71, 7, 0, [1, 7, 0, 0], .code yX7_isWord cX7_isWord 3 (some .boolean)) := rfl
theorem e_X7_readKind_7 : lk t_X7_readKind 7 = some (.ifCond .eq 26, 10, 33, [], .returned) := rfl
theorem e_X7_readKind_10 : lk t_X7_readKind 10 = some (.aload_n 2, 11, 2, [], .returned) := rfl
theorem e_X7_readKind_11 : lk t_X7_readKind 11 = some (.iconst 0, 12, 0, [], .constant "" 0 (0)) := rfl
theorem e_X7_readKind_12 : lk t_X7_readKind 12 = some (.putfield 209, 15, 3, [3, 0], .returned) := rfl
theorem e_X7_readKind_15 : lk t_X7_readKind 15 = some (.aload_n 0, 16, 0, [], .returned) := rfl
theorem e_X7_readKind_16 : lk t_X7_readKind 16 = some (.aload_n 1, 17, 1, [], .returned) := rfl
theorem e_X7_readKind_17 : lk t_X7_readKind 17 = some (.invokevirtual 51, 20, 0, [1, 7, 0, 0], .code yX7_advance cX7_advance 3 none) := rfl
theorem e_X7_readKind_20 : lk t_X7_readKind 20 = some (.aload_n 0, 21, 0, [], .returned) := rfl
theorem e_X7_readKind_21 : lk t_X7_readKind 21 = some (.aload_n 1, 22, 1, [], .returned) := rfl
theorem e_X7_readKind_22 : lk t_X7_readKind 22 = some (.iconst 1, 23, 0, [], .constant "" 0 (1)) := rfl
theorem e_X7_readKind_23 : lk t_X7_readKind 23 = some (.sipush 999, 26, 0, [], .constant "" 0 (999)) := rfl
theorem e_X7_readKind_26 : lk t_X7_readKind 26 = some (.invokevirtual 99, 29, 0, [3, 7, 0, 0], .code yX7_passWhole cX7_passWhole 4 (some .boolean)) := rfl
theorem e_X7_readKind_29 : lk t_X7_readKind 29 = some (.istore_n 3, 30, 3, [], .returned) := rfl
theorem e_X7_readKind_30 : lk t_X7_readKind 30 = some (.goto 66, 33, 96, [], .returned) := rfl
theorem e_X7_readKind_33 : lk t_X7_readKind 33 = some (.aload_n 0, 34, 0, [], .returned) := rfl
theorem e_X7_readKind_34 : lk t_X7_readKind 34 = some (.ldc2_w 78, 37, 0, [], .constantLong "" 0 (499850046565)) := rfl
theorem e_X7_readKind_37 : lk t_X7_readKind 37 = some (.invokevirtual 71, 40, 0, [1, 7, 0, 0], .code yX7_isWord cX7_isWord 3 (some .boolean)) := rfl
theorem e_X7_readKind_40 : lk t_X7_readKind 40 = some (.ifCond .eq 23, 43, 63, [], .returned) := rfl
theorem e_X7_readKind_43 : lk t_X7_readKind 43 = some (.aload_n 2, 44, 2, [], .returned) := rfl
theorem e_X7_readKind_44 : lk t_X7_readKind 44 = some (.iconst 1, 45, 0, [], .constant "" 0 (1)) := rfl
theorem e_X7_readKind_45 : lk t_X7_readKind 45 = some (.putfield 209, 48, 3, [3, 0], .returned) := rfl
theorem e_X7_readKind_48 : lk t_X7_readKind 48 = some (.aload_n 0, 49, 0, [], .returned) := rfl
theorem e_X7_readKind_49 : lk t_X7_readKind 49 = some (.aload_n 1, 50, 1, [], .returned) := rfl
theorem e_X7_readKind_50 : lk t_X7_readKind 50 = some (.invokevirtual 51, 53, 0, [1, 7, 0, 0], .code yX7_advance cX7_advance 3 none) := rfl
theorem e_X7_readKind_53 : lk t_X7_readKind 53 = some (.aload_n 0, 54, 0, [], .returned) := rfl
theorem e_X7_readKind_54 : lk t_X7_readKind 54 = some (.aload_n 1, 55, 1, [], .returned) := rfl
theorem e_X7_readKind_55 : lk t_X7_readKind 55 = some (.iconst 0, 56, 0, [], .constant "" 0 (0)) := rfl
theorem e_X7_readKind_56 : lk t_X7_readKind 56 = some (.invokevirtual 212, 59, 0, [2, 7, 0, 0], .code yX7_passKnownName cX7_passKnownName 4 (some .boolean)) := rfl
theorem e_X7_readKind_59 : lk t_X7_readKind 59 = some (.istore_n 3, 60, 3, [], .returned) := rfl
theorem e_X7_readKind_60 : lk t_X7_readKind 60 = some (.goto 36, 63, 96, [], .returned) := rfl
theorem e_X7_readKind_63 : lk t_X7_readKind 63 = some (.aload_n 2, 64, 2, [], .returned) := rfl
theorem e_X7_readKind_64 : lk t_X7_readKind 64 = some (.iconst 2, 65, 0, [], .constant "" 0 (2)) := rfl
theorem e_X7_readKind_65 : lk t_X7_readKind 65 = some (.putfield 209, 68, 3, [3, 0], .returned) := rfl
theorem e_X7_readKind_68 : lk t_X7_readKind 68 = some (.aload_n 0, 69, 0, [], .returned) := rfl
theorem e_X7_readKind_69 : lk t_X7_readKind 69 = some (.aload_n 1, 70, 1, [], .returned) := rfl
theorem e_X7_readKind_70 : lk t_X7_readKind 70 = some (.ldc2_w 109, 73, 0, [], .constantLong "" 0 (1885434484)) := rfl
theorem e_X7_readKind_73 : lk t_X7_readKind 73 = some (.invokevirtual 95, 76, 0, [2, 7, 0, 0], .code yX7_passWord cX7_passWord 4 (some .boolean)) := rfl
theorem e_X7_readKind_76 : lk t_X7_readKind 76 = some (.ifCond .eq 18, 79, 94, [], .returned) := rfl
theorem e_X7_readKind_79 : lk t_X7_readKind 79 = some (.aload_n 0, 80, 0, [], .returned) := rfl
theorem e_X7_readKind_80 : lk t_X7_readKind 80 = some (.aload_n 1, 81, 1, [], .returned) := rfl
theorem e_X7_readKind_81 : lk t_X7_readKind 81 = some (.iconst 1, 82, 0, [], .constant "" 0 (1)) := rfl
theorem e_X7_readKind_82 : lk t_X7_readKind 82 = some (.bipush 99, 84, 0, [], .constant "" 0 (99)) := rfl
theorem e_X7_readKind_84 : lk t_X7_readKind 84 = some (.invokevirtual 99, 87, 0, [3, 7, 0, 0], .code yX7_passWhole cX7_passWhole 4 (some .boolean)) := rfl
theorem e_X7_readKind_87 : lk t_X7_readKind 87 = some (.ifCond .eq 7, 90, 94, [], .returned) := rfl
theorem e_X7_readKind_90 : lk t_X7_readKind 90 = some (.iconst 1, 91, 0, [], .constant "" 0 (1)) := rfl
theorem e_X7_readKind_91 : lk t_X7_readKind 91 = some (.goto 4, 94, 95, [], .returned) := rfl
theorem e_X7_readKind_94 : lk t_X7_readKind 94 = some (.iconst 0, 95, 0, [], .constant "" 0 (0)) := rfl
theorem e_X7_readKind_95 : lk t_X7_readKind 95 = some (.istore_n 3, 96, 3, [], .returned) := rfl
theorem e_X7_readKind_96 : lk t_X7_readKind 96 = some (.aload_n 2, 97, 2, [], .returned) := rfl
theorem e_X7_readKind_97 : lk t_X7_readKind 97 = some (.aload_n 0, 98, 0, [], .returned) := rfl
theorem e_X7_readKind_98 : lk t_X7_readKind 98 = some (.getfield 103, 101, 7, [5, 0], .returned) := rfl
theorem e_X7_readKind_101 : lk t_X7_readKind 101 = some (.putfield 215, 104, 3, [4, 0], .returned) := rfl
theorem e_X7_readKind_104 : lk t_X7_readKind 104 = some (.iload_n 3, 105, 3, [], .returned) := rfl
theorem e_X7_readKind_105 : lk t_X7_readKind 105 = some (.ireturn, 106, 1, [], .returned) := rfl
abbrev q_X7_readPlace : MI := (yX7_readPlace, cX7_readPlace, 3, (some .boolean))
def t_X7_readPlace : Tab := [(0, [], (.aload_n 0, 1, 0, [], .returned)),
  (1, [563], (.ldc2_w 145, 4, 0, [], .constantLong "" 0 (6384748))),
  (4, [523, 526, 525, 5, 94], (.invokevirtual 71, 7, 0, [1, 7, 0, 0], .code yX7_isWord cX7_isWord 3 (some .boolean))),
  (7, [], (.ifCond .eq 16, 10, 23, [], .returned)),
  (10, [], (.aload_n 2, 11, 2, [], .returned)),
  (11, [], (.bipush 7, 13, 0, [], .constant "" 0 (7))),
  (13, [260], (.putfield 218, 16, 3, [5, 0], .returned)),
  (16, [], (.aload_n 0, 17, 0, [], .returned)),
  (17, [], (.aload_n 1, 18, 1, [], .returned)),
  (18, [504, 507, 506, 1, 94], (.invokevirtual 51, 21, 0, [1, 7, 0, 0], .code yX7_advance cX7_advance 3 none)),
  (21, [], (.iconst 1, 22, 0, [], .constant "" 0 (1))),
  (22, [], (.ireturn, 23, 1, [], .returned)),
  (23, [], (.aload_n 0, 24, 0, [], .returned)),
  (24, [], (.aload_n 1, 25, 1, [], .returned)),
  (25, [], (.iconst 1, 26, 0, [], .constant "" 0 (1))),
  (26, [604, 607, 606, 18, 94], (.invokevirtual 212, 29, 0, [2, 7, 0, 0], .code yX7_passKnownName cX7_passKnownName 4 (some .boolean))),
  (29, [], (.ifCond .ne 5, 32, 34, [], .returned)),
  (32, [], (.iconst 0, 33, 0, [], .constant "" 0 (0))),
  (33, [], (.ireturn, 34, 1, [], .returned)),
  (34, [], (.aload_n 2, 35, 2, [], .returned)),
  (35, [], (.iconst 1, 36, 0, [], .constant "" 0 (1))),
  (36, [], (.aload_n 0, 37, 0, [], .returned)),
  (37, [151], (.getfield 103, 40, 7, [5, 0], .returned)),
  (40, [], (.ishl, 41, 0, [], .returned)),
  (41, [260], (.putfield 218, 44, 3, [5, 0], .returned)),
  (44, [], (.iconst 1, 45, 0, [], .constant "" 0 (1))),
  (45, [], (.ireturn, 46, 1, [], .returned))]
theorem ck_X7_readPlace : okT q_X7_readPlace t_X7_readPlace = true := by decide +kernel
theorem e_X7_readPlace_0 : lk t_X7_readPlace 0 = some (.aload_n 0, 1, 0, [], .returned) := rfl
theorem e_X7_readPlace_1 : lk t_X7_readPlace 1 = some (.ldc2_w 145, 4, 0, [], .constantLong "" 0 (6384748)) := rfl
theorem e_X7_readPlace_4 : lk t_X7_readPlace 4 = some (.invokevirtual 71, 7, 0, [1, 7, 0, 0], .code yX7_isWord cX7_isWord 3 (some .boolean)) := rfl
theorem e_X7_readPlace_7 : lk t_X7_readPlace 7 = some (.ifCond .eq 16, 10, 23, [], .returned) := rfl
theorem e_X7_readPlace_10 : lk t_X7_readPlace 10 = some (.aload_n 2, 11, 2, [], .returned) := rfl
theorem e_X7_readPlace_11 : lk t_X7_readPlace 11 = some (.bipush 7, 13, 0, [], .constant "" 0 (7)) := rfl
theorem e_X7_readPlace_13 : lk t_X7_readPlace 13 = some (.putfield 218, 16, 3, [5, 0], .returned) := rfl
theorem e_X7_readPlace_16 : lk t_X7_readPlace 16 = some (.aload_n 0, 17, 0, [], .returned) := rfl
theorem e_X7_readPlace_17 : lk t_X7_readPlace 17 = some (.aload_n 1, 18, 1, [], .returned) := rfl
theorem e_X7_readPlace_18 : lk t_X7_readPlace 18 = some (.invokevirtual 51, 21, 0, [1, 7, 0, 0], .code yX7_advance cX7_advance 3 none) := rfl
theorem e_X7_readPlace_21 : lk t_X7_readPlace 21 = some (.iconst 1, 22, 0, [], .constant "" 0 (1)) := rfl
theorem e_X7_readPlace_22 : lk t_X7_readPlace 22 = some (.ireturn, 23, 1, [], .returned) := rfl
theorem e_X7_readPlace_23 : lk t_X7_readPlace 23 = some (.aload_n 0, 24, 0, [], .returned) := rfl
theorem e_X7_readPlace_24 : lk t_X7_readPlace 24 = some (.aload_n 1, 25, 1, [], .returned) := rfl
theorem e_X7_readPlace_25 : lk t_X7_readPlace 25 = some (.iconst 1, 26, 0, [], .constant "" 0 (1)) := rfl
theorem e_X7_readPlace_26 : lk t_X7_readPlace 26 = some (.invokevirtual 212, 29, 0, [2, 7, 0, 0], .code yX7_passKnownName cX7_passKnownName 4 (some .boolean)) := rfl
theorem e_X7_readPlace_29 : lk t_X7_readPlace 29 = some (.ifCond .ne 5, 32, 34, [], .returned) := rfl
theorem e_X7_readPlace_32 : lk t_X7_readPlace 32 = some (.iconst 0, 33, 0, [], .constant "" 0 (0)) := rfl
theorem e_X7_readPlace_33 : lk t_X7_readPlace 33 = some (.ireturn, 34, 1, [], .returned) := rfl
theorem e_X7_readPlace_34 : lk t_X7_readPlace 34 = some (.aload_n 2, 35, 2, [], .returned) := rfl
theorem e_X7_readPlace_35 : lk t_X7_readPlace 35 = some (.iconst 1, 36, 0, [], .constant "" 0 (1)) := rfl
theorem e_X7_readPlace_36 : lk t_X7_readPlace 36 = some (.aload_n 0, 37, 0, [], .returned) := rfl
theorem e_X7_readPlace_37 : lk t_X7_readPlace 37 = some (.getfield 103, 40, 7, [5, 0], .returned) := rfl
theorem e_X7_readPlace_40 : lk t_X7_readPlace 40 = some (.ishl, 41, 0, [], .returned) := rfl
theorem e_X7_readPlace_41 : lk t_X7_readPlace 41 = some (.putfield 218, 44, 3, [5, 0], .returned) := rfl
theorem e_X7_readPlace_44 : lk t_X7_readPlace 44 = some (.iconst 1, 45, 0, [], .constant "" 0 (1)) := rfl
theorem e_X7_readPlace_45 : lk t_X7_readPlace 45 = some (.ireturn, 46, 1, [], .returned) := rfl
abbrev q_X7_passWord : MI := (yX7_passWord, cX7_passWord, 4, (some .boolean))
def t_X7_passWord : Tab := [(0, [], (.aload_n 0, 1, 0, [], .returned)),
  (1, [], (.lload_n 2, 2, 2, [], .returned)),
  (2, [523, 526, 525, 5, 94], (.invokevirtual 71, 5, 0, [1, 7, 0, 0], .code yX7_isWord cX7_isWord 3 (some .boolean))),
  (5, [], (.ifCond .ne 9, 8, 14, [], .returned)),
  (8, [], (.aload_n 0, 9, 0, [], .returned)),
  (9, [], (.iconst 1, 10, 0, [], .constant "" 0 (1))),
  (10, [527, 530, 529, 6, 94], (.invokevirtual 62, 13, 0, [1, 7, 0, 0], .code yX7_fail cX7_fail 2 (some .boolean))),
  (13, [], (.ireturn, 14, 1, [], .returned)),
  (14, [], (.aload_n 0, 15, 0, [], .returned)),
  (15, [], (.aload_n 1, 16, 1, [], .returned)),
  (16, [504, 507, 506, 1, 94], (.invokevirtual 51, 19, 0, [1, 7, 0, 0], .code yX7_advance cX7_advance 3 none)),
  (19, [], (.iconst 1, 20, 0, [], .constant "" 0 (1))),
  (20, [], (.ireturn, 21, 1, [], .returned))]
theorem ck_X7_passWord : okT q_X7_passWord t_X7_passWord = true := by decide +kernel
theorem e_X7_passWord_0 : lk t_X7_passWord 0 = some (.aload_n 0, 1, 0, [], .returned) := rfl
theorem e_X7_passWord_1 : lk t_X7_passWord 1 = some (.lload_n 2, 2, 2, [], .returned) := rfl
theorem e_X7_passWord_2 : lk t_X7_passWord 2 = some (.invokevirtual 71, 5, 0, [1, 7, 0, 0], .code yX7_isWord cX7_isWord 3 (some .boolean)) := rfl
theorem e_X7_passWord_5 : lk t_X7_passWord 5 = some (.ifCond .ne 9, 8, 14, [], .returned) := rfl
theorem e_X7_passWord_8 : lk t_X7_passWord 8 = some (.aload_n 0, 9, 0, [], .returned) := rfl
theorem e_X7_passWord_9 : lk t_X7_passWord 9 = some (.iconst 1, 10, 0, [], .constant "" 0 (1)) := rfl
theorem e_X7_passWord_10 : lk t_X7_passWord 10 = some (.invokevirtual 62, 13, 0, [1, 7, 0, 0], .code yX7_fail cX7_fail 2 (some .boolean)) := rfl
theorem e_X7_passWord_13 : lk t_X7_passWord 13 = some (.ireturn, 14, 1, [], .returned) := rfl
theorem e_X7_passWord_14 : lk t_X7_passWord 14 = some (.aload_n 0, 15, 0, [], .returned) := rfl
theorem e_X7_passWord_15 : lk t_X7_passWord 15 = some (.aload_n 1, 16, 1, [], .returned) := rfl
theorem e_X7_passWord_16 : lk t_X7_passWord 16 = some (.invokevirtual 51, 19, 0, [1, 7, 0, 0], .code yX7_advance cX7_advance 3 none) := rfl
theorem e_X7_passWord_19 : lk t_X7_passWord 19 = some (.iconst 1, 20, 0, [], .constant "" 0 (1)) := rfl
theorem e_X7_passWord_20 : lk t_X7_passWord 20 = some (.ireturn, 21, 1, [], .returned) := rfl
abbrev q_X7_passWhole : MI := (yX7_passWhole, cX7_passWhole, 4, (some .boolean))
def t_X7_passWhole : Tab := [(0, [], (.aload_n 0, 1, 0, [], .returned)),
  (1, [149], (.getfield 59, 4, 7, [3, 0], .returned)),
  (4, [], (.iconst 2, 5, 0, [], .constant "" 0 (2))),
  (5, [], (.if_icmp .eq 9, 8, 14, [], .returned)),
  (8, [], (.aload_n 0, 9, 0, [], .returned)),
  (9, [], (.iconst 1, 10, 0, [], .constant "" 0 (1))),
  (10, [527, 530, 529, 6, 94], (.invokevirtual 62, 13, 0, [1, 7, 0, 0], .code yX7_fail cX7_fail 2 (some .boolean))),
  (13, [], (.ireturn, 14, 1, [], .returned)),
  (14, [], (.aload_n 0, 15, 0, [], .returned)),
  (15, [150], (.getfield 220, 18, 7, [4, 1], .returned)),
  (18, [], (.iload_n 2, 19, 2, [], .returned)),
  (19, [], (.i2l, 20, 0, [], .returned)),
  (20, [], (.lcmp, 21, 0, [], .returned)),
  (21, [], (.ifCond .lt 13, 24, 34, [], .returned)),
  (24, [], (.aload_n 0, 25, 0, [], .returned)),
  (25, [150], (.getfield 220, 28, 7, [4, 1], .returned)),
  (28, [], (.iload_n 3, 29, 3, [], .returned)),
  (29, [], (.i2l, 30, 0, [], .returned)),
  (30, [], (.lcmp, 31, 0, [], .returned)),
  (31, [], (.ifCond .le 9, 34, 40, [], .returned)),
  (34, [], (.aload_n 0, 35, 0, [], .returned)),
  (35, [], (.iconst 2, 36, 0, [], .constant "" 0 (2))),
  (36, [527, 530, 529, 6, 94], (.invokevirtual 62, 39, 0, [1, 7, 0, 0], .code yX7_fail cX7_fail 2 (some .boolean))),
  (39, [], (.ireturn, 40, 1, [], .returned)),
  (40, [], (.aload_n 0, 41, 0, [], .returned)),
  (41, [], (.aload_n 0, 42, 0, [], .returned)),
  (42, [150], (.getfield 220, 45, 7, [4, 1], .returned)),
  (45, [], (.l2i, 46, 0, [], .returned)),
  (46, [151], (.putfield 103, 49, 7, [5, 0], .returned)),
  (49, [], (.aload_n 0, 50, 0, [], .returned)),
  (50, [], (.aload_n 1, 51, 1, [], .returned)),
  (51, [504, 507, 506, 1, 94], (.invokevirtual 51, 54, 0, [1, 7, 0, 0], .code yX7_advance cX7_advance 3 none)),
  (54, [], (.iconst 1, 55, 0, [], .constant "" 0 (1))),
  (55, [], (.ireturn, 56, 1, [], .returned))]
theorem ck_X7_passWhole : okT q_X7_passWhole t_X7_passWhole = true := by decide +kernel
theorem e_X7_passWhole_0 : lk t_X7_passWhole 0 = some (.aload_n 0, 1, 0, [], .returned) := rfl
theorem e_X7_passWhole_1 : lk t_X7_passWhole 1 = some (.getfield 59, 4, 7, [3, 0], .returned) := rfl
theorem e_X7_passWhole_4 : lk t_X7_passWhole 4 = some (.iconst 2, 5, 0, [], .constant "" 0 (2)) := rfl
theorem e_X7_passWhole_5 : lk t_X7_passWhole 5 = some (.if_icmp .eq 9, 8, 14, [], .returned) := rfl
theorem e_X7_passWhole_8 : lk t_X7_passWhole 8 = some (.aload_n 0, 9, 0, [], .returned) := rfl
theorem e_X7_passWhole_9 : lk t_X7_passWhole 9 = some (.iconst 1, 10, 0, [], .constant "" 0 (1)) := rfl
theorem e_X7_passWhole_10 : lk t_X7_passWhole 10 = some (.invokevirtual 62, 13, 0, [1, 7, 0, 0], .code yX7_fail cX7_fail 2 (some .boolean)) := rfl
theorem e_X7_passWhole_13 : lk t_X7_passWhole 13 = some (.ireturn, 14, 1, [], .returned) := rfl
theorem e_X7_passWhole_14 : lk t_X7_passWhole 14 = some (.aload_n 0, 15, 0, [], .returned) := rfl
theorem e_X7_passWhole_15 : lk t_X7_passWhole 15 = some (.getfield 220, 18, 7, [4, 1], .returned) := rfl
theorem e_X7_passWhole_18 : lk t_X7_passWhole 18 = some (.iload_n 2, 19, 2, [], .returned) := rfl
theorem e_X7_passWhole_19 : lk t_X7_passWhole 19 = some (.i2l, 20, 0, [], .returned) := rfl
theorem e_X7_passWhole_20 : lk t_X7_passWhole 20 = some (.lcmp, 21, 0, [], .returned) := rfl
theorem e_X7_passWhole_21 : lk t_X7_passWhole 21 = some (.ifCond .lt 13, 24, 34, [], .returned) := rfl
theorem e_X7_passWhole_24 : lk t_X7_passWhole 24 = some (.aload_n 0, 25, 0, [], .returned) := rfl
theorem e_X7_passWhole_25 : lk t_X7_passWhole 25 = some (.getfield 220, 28, 7, [4, 1], .returned) := rfl
theorem e_X7_passWhole_28 : lk t_X7_passWhole 28 = some (.iload_n 3, 29, 3, [], .returned) := rfl
theorem e_X7_passWhole_29 : lk t_X7_passWhole 29 = some (.i2l, 30, 0, [], .returned) := rfl
theorem e_X7_passWhole_30 : lk t_X7_passWhole 30 = some (.lcmp, 31, 0, [], .returned) := rfl
theorem e_X7_passWhole_31 : lk t_X7_passWhole 31 = some (.ifCond .le 9, 34, 40, [], .returned) := rfl
theorem e_X7_passWhole_34 : lk t_X7_passWhole 34 = some (.aload_n 0, 35, 0, [], .returned) := rfl
theorem e_X7_passWhole_35 : lk t_X7_passWhole 35 = some (.iconst 2, 36, 0, [], .constant "" 0 (2)) := rfl
theorem e_X7_passWhole_36 : lk t_X7_passWhole 36 = some (.invokevirtual 62, 39, 0, [1, 7, 0, 0], .code yX7_fail cX7_fail 2 (some .boolean)) := rfl
theorem e_X7_passWhole_39 : lk t_X7_passWhole 39 = some (.ireturn, 40, 1, [], .returned) := rfl
theorem e_X7_passWhole_40 : lk t_X7_passWhole 40 = some (.aload_n 0, 41, 0, [], .returned) := rfl
theorem e_X7_passWhole_41 : lk t_X7_passWhole 41 = some (.aload_n 0, 42, 0, [], .returned) := rfl
theorem e_X7_passWhole_42 : lk t_X7_passWhole 42 = some (.getfield 220, 45, 7, [4, 1], .returned) := rfl
theorem e_X7_passWhole_45 : lk t_X7_passWhole 45 = some (.l2i, 46, 0, [], .returned) := rfl
theorem e_X7_passWhole_46 : lk t_X7_passWhole 46 = some (.putfield 103, 49, 7, [5, 0], .returned) := rfl
theorem e_X7_passWhole_49 : lk t_X7_passWhole 49 = some (.aload_n 0, 50, 0, [], .returned) := rfl
theorem e_X7_passWhole_50 : lk t_X7_passWhole 50 = some (.aload_n 1, 51, 1, [], .returned) := rfl
theorem e_X7_passWhole_51 : lk t_X7_passWhole 51 = some (.invokevirtual 51, 54, 0, [1, 7, 0, 0], .code yX7_advance cX7_advance 3 none) := rfl
theorem e_X7_passWhole_54 : lk t_X7_passWhole 54 = some (.iconst 1, 55, 0, [], .constant "" 0 (1)) := rfl
theorem e_X7_passWhole_55 : lk t_X7_passWhole 55 = some (.ireturn, 56, 1, [], .returned) := rfl
abbrev q_X7_passNewName : MI := (yX7_passNewName, cX7_passNewName, 3, (some .boolean))
def t_X7_passNewName : Tab := [(0, [], (.aload_n 0, 1, 0, [], .returned)),
  (1, [559, 562, 561, 12, 94], (.invokevirtual 224, 4, 0, [0, 7, 0, 0], .code yX7_isName cX7_isName 1 (some .boolean))),
  (4, [], (.ifCond .ne 9, 7, 13, [], .returned)),
  (7, [], (.aload_n 0, 8, 0, [], .returned)),
  (8, [], (.iconst 1, 9, 0, [], .constant "" 0 (1))),
  (9, [527, 530, 529, 6, 94], (.invokevirtual 62, 12, 0, [1, 7, 0, 0], .code yX7_fail cX7_fail 2 (some .boolean))),
  (12, [], (.ireturn, 13, 1, [], .returned)),
  (13, [], (.aload_n 0, 14, 0, [], .returned)),
  (14, [], (.iload_n 2, 15, 2, [], .returned)),
  (15, [564, 567, 566, 13, 94], (.invokevirtual 228, 18, 0, [1, 7, 0, 0], .code yX7_findName cX7_findName 3 (some .int))),
  (18, [], (.iconst (-1), 19, 0, [], .constant "" 0 (-1))),
  (19, [], (.if_icmp .ne 14, 22, 33, [], .returned)),
  (22, [], (.aload_n 0, 23, 0, [], .returned)),
  (23, [155], (.getfield 16, 26, 7, [9, 2], .returned)),
  (26, [], (.iload_n 2, 27, 2, [], .returned)),
  (27, [], (.iaload, 28, 0, [], .returned)),
  (28, [], (.bipush 6, 30, 0, [], .constant "" 0 (6))),
  (30, [], (.if_icmp .lt 9, 33, 39, [], .returned)),
  (33, [], (.aload_n 0, 34, 0, [], .returned)),
  (34, [], (.iconst 3, 35, 0, [], .constant "" 0 (3))),
  (35, [527, 530, 529, 6, 94], (.invokevirtual 62, 38, 0, [1, 7, 0, 0], .code yX7_fail cX7_fail 2 (some .boolean))),
  (38, [], (.ireturn, 39, 1, [], .returned)),
  (39, [], (.aload_n 0, 40, 0, [], .returned)),
  (40, [154], (.getfield 13, 43, 7, [8, 2], .returned)),
  (43, [], (.iload_n 2, 44, 2, [], .returned)),
  (44, [], (.aaload, 45, 0, [], .returned)),
  (45, [], (.aload_n 0, 46, 0, [], .returned)),
  (46, [155], (.getfield 16, 49, 7, [9, 2], .returned)),
  (49, [], (.iload_n 2, 50, 2, [], .returned)),
  (50, [], (.iaload, 51, 0, [], .returned)),
  (51, [], (.aload_n 0, 52, 0, [], .returned)),
  (52, [150], (.getfield 220, 55, 7, [4, 1], .returned)),
  (55, [], (.lastore, 56, 0, [], .returned)),
  (56, [], (.aload_n 0, 57, 0, [], .returned)),
  (57, [155], (.getfield 16, 60, 7, [9, 2], .returned)),
  (60, [], (.iload_n 2, 61, 2, [], .returned)),
  (61, [], (.dup2, 62, 0, [], .returned)),
  (62, [], (.iaload, 63, 0, [], .returned)),
  (63, [], (.iconst 1, 64, 0, [], .constant "" 0 (1))),
  (64, [], (.iadd, 65, 0, [], .returned)),
  (65, [], (.iastore, 66, 0, [], .returned)),
  (66, [], (.aload_n 0, 67, 0, [], .returned)),
  (67, [], (.aload_n 1, 68, 1, [], .returned)),
  (68, [504, 507, 506, 1, 94], (.invokevirtual 51, 71, 0, [1, 7, 0, 0], .code yX7_advance cX7_advance 3 none)),
  (71, [], (.iconst 1, 72, 0, [], .constant "" 0 (1))),
  (72, [], (.ireturn, 73, 1, [], .returned))]
theorem ck_X7_passNewName : okT q_X7_passNewName t_X7_passNewName = true := by decide +kernel
theorem e_X7_passNewName_0 : lk t_X7_passNewName 0 = some (.aload_n 0, 1, 0, [], .returned) := rfl
theorem e_X7_passNewName_1 : lk t_X7_passNewName 1 = some (.invokevirtual 224, 4, 0, [0, 7, 0, 0], .code yX7_isName cX7_isName 1 (some .boolean)) := rfl
theorem e_X7_passNewName_4 : lk t_X7_passNewName 4 = some (.ifCond .ne 9, 7, 13, [], .returned) := rfl
theorem e_X7_passNewName_7 : lk t_X7_passNewName 7 = some (.aload_n 0, 8, 0, [], .returned) := rfl
theorem e_X7_passNewName_8 : lk t_X7_passNewName 8 = some (.iconst 1, 9, 0, [], .constant "" 0 (1)) := rfl
theorem e_X7_passNewName_9 : lk t_X7_passNewName 9 = some (.invokevirtual 62, 12, 0, [1, 7, 0, 0], .code yX7_fail cX7_fail 2 (some .boolean)) := rfl
theorem e_X7_passNewName_12 : lk t_X7_passNewName 12 = some (.ireturn, 13, 1, [], .returned) := rfl
theorem e_X7_passNewName_13 : lk t_X7_passNewName 13 = some (.aload_n 0, 14, 0, [], .returned) := rfl
theorem e_X7_passNewName_14 : lk t_X7_passNewName 14 = some (.iload_n 2, 15, 2, [], .returned) := rfl
theorem e_X7_passNewName_15 : lk t_X7_passNewName 15 = some (.invokevirtual 228, 18, 0, [1, 7, 0, 0], .code yX7_findName cX7_findName 3 (some .int)) := rfl
theorem e_X7_passNewName_18 : lk t_X7_passNewName 18 = some (.iconst (-1), 19, 0, [], .constant "" 0 (-1)) := rfl
theorem e_X7_passNewName_19 : lk t_X7_passNewName 19 = some (.if_icmp .ne 14, 22, 33, [], .returned) := rfl
theorem e_X7_passNewName_22 : lk t_X7_passNewName 22 = some (.aload_n 0, 23, 0, [], .returned) := rfl
theorem e_X7_passNewName_23 : lk t_X7_passNewName 23 = some (.getfield 16, 26, 7, [9, 2], .returned) := rfl
theorem e_X7_passNewName_26 : lk t_X7_passNewName 26 = some (.iload_n 2, 27, 2, [], .returned) := rfl
theorem e_X7_passNewName_27 : lk t_X7_passNewName 27 = some (.iaload, 28, 0, [], .returned) := rfl
theorem e_X7_passNewName_28 : lk t_X7_passNewName 28 = some (.bipush 6, 30, 0, [], .constant "" 0 (6)) := rfl
theorem e_X7_passNewName_30 : lk t_X7_passNewName 30 = some (.if_icmp .lt 9, 33, 39, [], .returned) := rfl
theorem e_X7_passNewName_33 : lk t_X7_passNewName 33 = some (.aload_n 0, 34, 0, [], .returned) := rfl
theorem e_X7_passNewName_34 : lk t_X7_passNewName 34 = some (.iconst 3, 35, 0, [], .constant "" 0 (3)) := rfl
theorem e_X7_passNewName_35 : lk t_X7_passNewName 35 = some (.invokevirtual 62, 38, 0, [1, 7, 0, 0], .code yX7_fail cX7_fail 2 (some .boolean)) := rfl
theorem e_X7_passNewName_38 : lk t_X7_passNewName 38 = some (.ireturn, 39, 1, [], .returned) := rfl
theorem e_X7_passNewName_39 : lk t_X7_passNewName 39 = some (.aload_n 0, 40, 0, [], .returned) := rfl
theorem e_X7_passNewName_40 : lk t_X7_passNewName 40 = some (.getfield 13, 43, 7, [8, 2], .returned) := rfl
theorem e_X7_passNewName_43 : lk t_X7_passNewName 43 = some (.iload_n 2, 44, 2, [], .returned) := rfl
theorem e_X7_passNewName_44 : lk t_X7_passNewName 44 = some (.aaload, 45, 0, [], .returned) := rfl
theorem e_X7_passNewName_45 : lk t_X7_passNewName 45 = some (.aload_n 0, 46, 0, [], .returned) := rfl
theorem e_X7_passNewName_46 : lk t_X7_passNewName 46 = some (.getfield 16, 49, 7, [9, 2], .returned) := rfl
theorem e_X7_passNewName_49 : lk t_X7_passNewName 49 = some (.iload_n 2, 50, 2, [], .returned) := rfl
theorem e_X7_passNewName_50 : lk t_X7_passNewName 50 = some (.iaload, 51, 0, [], .returned) := rfl
theorem e_X7_passNewName_51 : lk t_X7_passNewName 51 = some (.aload_n 0, 52, 0, [], .returned) := rfl
theorem e_X7_passNewName_52 : lk t_X7_passNewName 52 = some (.getfield 220, 55, 7, [4, 1], .returned) := rfl
theorem e_X7_passNewName_55 : lk t_X7_passNewName 55 = some (.lastore, 56, 0, [], .returned) := rfl
theorem e_X7_passNewName_56 : lk t_X7_passNewName 56 = some (.aload_n 0, 57, 0, [], .returned) := rfl
theorem e_X7_passNewName_57 : lk t_X7_passNewName 57 = some (.getfield 16, 60, 7, [9, 2], .returned) := rfl
theorem e_X7_passNewName_60 : lk t_X7_passNewName 60 = some (.iload_n 2, 61, 2, [], .returned) := rfl
theorem e_X7_passNewName_61 : lk t_X7_passNewName 61 = some (.dup2, 62, 0, [], .returned) := rfl
theorem e_X7_passNewName_62 : lk t_X7_passNewName 62 = some (.iaload, 63, 0, [], .returned) := rfl
theorem e_X7_passNewName_63 : lk t_X7_passNewName 63 = some (.iconst 1, 64, 0, [], .constant "" 0 (1)) := rfl
theorem e_X7_passNewName_64 : lk t_X7_passNewName 64 = some (.iadd, 65, 0, [], .returned) := rfl
theorem e_X7_passNewName_65 : lk t_X7_passNewName 65 = some (.iastore, 66, 0, [], .returned) := rfl
theorem e_X7_passNewName_66 : lk t_X7_passNewName 66 = some (.aload_n 0, 67, 0, [], .returned) := rfl
theorem e_X7_passNewName_67 : lk t_X7_passNewName 67 = some (.aload_n 1, 68, 1, [], .returned) := rfl
theorem e_X7_passNewName_68 : lk t_X7_passNewName 68 = some (.invokevirtual 51, 71, 0, [1, 7, 0, 0], .code yX7_advance cX7_advance 3 none) := rfl
theorem e_X7_passNewName_71 : lk t_X7_passNewName 71 = some (.iconst 1, 72, 0, [], .constant "" 0 (1)) := rfl
theorem e_X7_passNewName_72 : lk t_X7_passNewName 72 = some (.ireturn, 73, 1, [], .returned) := rfl
abbrev q_X7_passKnownName : MI := (yX7_passKnownName, cX7_passKnownName, 4, (some .boolean))
def t_X7_passKnownName : Tab := [(0, [], (.aload_n 0, 1, 0, [], .returned)),
  (1, [559, 562, 561, 12, 94], (.invokevirtual 224, 4, 0, [0, 7, 0, 0], .code yX7_isName cX7_isName 1 (some .boolean))),
  (4, [], (.ifCond .ne 9, 7, 13, [], .returned)),
  (7, [], (.aload_n 0, 8, 0, [], .returned)),
  (8, [], (.iconst 1, 9, 0, [], .constant "" 0 (1))),
  (9, [527, 530, 529, 6, 94], (.invokevirtual 62, 12, 0, [1, 7, 0, 0], .code yX7_fail cX7_fail 2 (some .boolean))),
  (12, [], (.ireturn, 13, 1, [], .returned)),
  (13, [], (.aload_n 0, 14, 0, [], .returned)),
  (14, [], (.iload_n 2, 15, 2, [], .returned)),
  (15, [564, 567, 566, 13, 94], (.invokevirtual 228, 18, 0, [1, 7, 0, 0], .code yX7_findName cX7_findName 3 (some .int))),
  (18, [], (.istore_n 3, 19, 3, [], .returned)),
  (19, [], (.iload_n 3, 20, 3, [], .returned)),
  (20, [], (.iconst (-1), 21, 0, [], .constant "" 0 (-1))),
  (21, [], (.if_icmp .ne 9, 24, 30, [], .returned)),
  (24, [], (.aload_n 0, 25, 0, [], .returned)),
  (25, [], (.iconst 3, 26, 0, [], .constant "" 0 (3))),
  (26, [527, 530, 529, 6, 94], (.invokevirtual 62, 29, 0, [1, 7, 0, 0], .code yX7_fail cX7_fail 2 (some .boolean))),
  (29, [], (.ireturn, 30, 1, [], .returned)),
  (30, [], (.aload_n 0, 31, 0, [], .returned)),
  (31, [], (.iload_n 3, 32, 3, [], .returned)),
  (32, [151], (.putfield 103, 35, 7, [5, 0], .returned)),
  (35, [], (.aload_n 0, 36, 0, [], .returned)),
  (36, [], (.aload_n 1, 37, 1, [], .returned)),
  (37, [504, 507, 506, 1, 94], (.invokevirtual 51, 40, 0, [1, 7, 0, 0], .code yX7_advance cX7_advance 3 none)),
  (40, [], (.iconst 1, 41, 0, [], .constant "" 0 (1))),
  (41, [], (.ireturn, 42, 1, [], .returned))]
theorem ck_X7_passKnownName : okT q_X7_passKnownName t_X7_passKnownName = true := by decide +kernel
theorem e_X7_passKnownName_0 : lk t_X7_passKnownName 0 = some (.aload_n 0, 1, 0, [], .returned) := rfl
theorem e_X7_passKnownName_1 : lk t_X7_passKnownName 1 = some (.invokevirtual 224, 4, 0, [0, 7, 0, 0], .code yX7_isName cX7_isName 1 (some .boolean)) := rfl
theorem e_X7_passKnownName_4 : lk t_X7_passKnownName 4 = some (.ifCond .ne 9, 7, 13, [], .returned) := rfl
theorem e_X7_passKnownName_7 : lk t_X7_passKnownName 7 = some (.aload_n 0, 8, 0, [], .returned) := rfl
theorem e_X7_passKnownName_8 : lk t_X7_passKnownName 8 = some (.iconst 1, 9, 0, [], .constant "" 0 (1)) := rfl
theorem e_X7_passKnownName_9 : lk t_X7_passKnownName 9 = some (.invokevirtual 62, 12, 0, [1, 7, 0, 0], .code yX7_fail cX7_fail 2 (some .boolean)) := rfl
theorem e_X7_passKnownName_12 : lk t_X7_passKnownName 12 = some (.ireturn, 13, 1, [], .returned) := rfl
theorem e_X7_passKnownName_13 : lk t_X7_passKnownName 13 = some (.aload_n 0, 14, 0, [], .returned) := rfl
theorem e_X7_passKnownName_14 : lk t_X7_passKnownName 14 = some (.iload_n 2, 15, 2, [], .returned) := rfl
theorem e_X7_passKnownName_15 : lk t_X7_passKnownName 15 = some (.invokevirtual 228, 18, 0, [1, 7, 0, 0], .code yX7_findName cX7_findName 3 (some .int)) := rfl
theorem e_X7_passKnownName_18 : lk t_X7_passKnownName 18 = some (.istore_n 3, 19, 3, [], .returned) := rfl
theorem e_X7_passKnownName_19 : lk t_X7_passKnownName 19 = some (.iload_n 3, 20, 3, [], .returned) := rfl
theorem e_X7_passKnownName_20 : lk t_X7_passKnownName 20 = some (.iconst (-1), 21, 0, [], .constant "" 0 (-1)) := rfl
theorem e_X7_passKnownName_21 : lk t_X7_passKnownName 21 = some (.if_icmp .ne 9, 24, 30, [], .returned) := rfl
theorem e_X7_passKnownName_24 : lk t_X7_passKnownName 24 = some (.aload_n 0, 25, 0, [], .returned) := rfl
theorem e_X7_passKnownName_25 : lk t_X7_passKnownName 25 = some (.iconst 3, 26, 0, [], .constant "" 0 (3)) := rfl
theorem e_X7_passKnownName_26 : lk t_X7_passKnownName 26 = some (.invokevirtual 62, 29, 0, [1, 7, 0, 0], .code yX7_fail cX7_fail 2 (some .boolean)) := rfl
theorem e_X7_passKnownName_29 : lk t_X7_passKnownName 29 = some (.ireturn, 30, 1, [], .returned) := rfl
theorem e_X7_passKnownName_30 : lk t_X7_passKnownName 30 = some (.aload_n 0, 31, 0, [], .returned) := rfl
theorem e_X7_passKnownName_31 : lk t_X7_passKnownName 31 = some (.iload_n 3, 32, 3, [], .returned) := rfl
theorem e_X7_passKnownName_32 : lk t_X7_passKnownName 32 = some (.putfield 103, 35, 7, [5, 0], .returned) := rfl
theorem e_X7_passKnownName_35 : lk t_X7_passKnownName 35 = some (.aload_n 0, 36, 0, [], .returned) := rfl
theorem e_X7_passKnownName_36 : lk t_X7_passKnownName 36 = some (.aload_n 1, 37, 1, [], .returned) := rfl
theorem e_X7_passKnownName_37 : lk t_X7_passKnownName 37 = some (.invokevirtual 51, 40, 0, [1, 7, 0, 0], .code yX7_advance cX7_advance 3 none) := rfl
theorem e_X7_passKnownName_40 : lk t_X7_passKnownName 40 = some (.iconst 1, 41, 0, [], .constant "" 0 (1)) := rfl
theorem e_X7_passKnownName_41 : lk t_X7_passKnownName 41 = some (.ireturn, 42, 1, [], .returned) := rfl
