abbrev q_X9_ranked : MI := (yX9_ranked, cX9_ranked, 6, (some .int))
def t_X9_ranked : Tab := [(0, [], (.aload_n 0, 1, 0, [], .returned)),
  (1, [445], (.getfield 47, 4, 9, [5, 2], .returned)),
  (4, [], (.iload_n 1, 5, 1, [], .returned)),
  (5, [684, 687, 685, 686, 99], (.invokevirtual 183, 8, 0, [1, 0, 0, 0], .code yX0_hasPayer cX0_hasPayer 2 (some .boolean))),
  (8, [], (.ifCond .ne 9, 11, 17, [], .returned)),
  (11, [], (.aload_n 0, 12, 0, [], .returned)),
  (12, [], (.iconst 1, 13, 0, [], .constant "" 0 (1))),
  (13, [486, 489, 488, 0, 92], (.invokevirtual 75, 16, 0, [1, 9, 0, 0], .code yX9_refuse cX9_refuse 2 (some .int))),
  (16, [], (.ireturn, 17, 0, [], .returned)),
  (17, [], (.iload_n 2, 18, 2, [], .returned)),
  (18, [705, 707, 706, 92], (.invokestatic 210, 21, 0, [1, 0, 0], .code yX9_isNet cX9_isNet 1 (some .boolean))),
  (21, [], (.ifCond .eq 13, 24, 34, [], .returned)),
  (24, [], (.iload_n 3, 25, 3, [], .returned)),
  (25, [], (.iconst 1, 26, 0, [], .constant "" 0 (1))),
  (26, [], (.bipush 9, 28, 0, [], .constant "" 0 (9))),
  (28, [483, 485, 484, 92], (.invokestatic 71, 31, 0, [3, 0, 0], .code yX9_within cX9_within 3 (some .boolean))),
  (31, [], (.ifCond .ne 9, 34, 40, [], .returned)),
  (34, [], (.aload_n 0, 35, 0, [], .returned)),
  (35, [], (.iconst 2, 36, 0, [], .constant "" 0 (2))),
  (36, [486, 489, 488, 0, 92], (.invokevirtual 75, 39, 0, [1, 9, 0, 0], .code yX9_refuse cX9_refuse 2 (some .int))),
  (39, [], (.ireturn, 40, 0, [], .returned)),
  (40, [], (.aload_n 0, 41, 0, [], .returned)),
  (41, [442], (.getfield 26, 44, 9, [2, 2], .returned)),
  (44, [], (.aload_n 0, 45, 0, [], .returned)),
  (45, [445], (.getfield 47, 48, 9, [5, 2], .returned)),
  (48, [], (.aload_n 0, 49, 0, [], .returned)),
  (49, [445], (.getfield 47, 52, 9, [5, 2], .returned)),
  (52, [394], (.getfield 142, 55, 0, [2, 2], .returned)),
  (55, [], (.iload_n 1, 56, 1, [], .returned)),
  (56, [], (.iload_n 2, 57, 2, [], .returned)),
  (57, [769, 772, 770, 771, 95], (.invokevirtual 246, 60, 0, [4, 1, 0, 0], .code yX1_reckon cX1_reckon 7 none)),
  (60, [], (.iconst 0, 61, 0, [], .constant "" 0 (0))),
  (61, [], (.istore 4, 63, 4, [], .returned)),
  (63, [], (.iconst 0, 64, 0, [], .constant "" 0 (0))),
  (64, [], (.istore 5, 66, 5, [], .returned)),
  (66, [], (.iload 5, 68, 5, [], .returned)),
  (68, [], (.aload_n 0, 69, 0, [], .returned)),
  (69, [445], (.getfield 47, 72, 9, [5, 2], .returned)),
  (72, [406], (.getfield 93, 75, 0, [5, 0], .returned)),
  (75, [], (.if_icmp .ge 41, 78, 116, [], .returned)),
  (78, [], (.aload_n 0, 79, 0, [], .returned)),
  (79, [445], (.getfield 47, 82, 9, [5, 2], .returned)),
  (82, [394], (.getfield 142, 85, 0, [2, 2], .returned)),
  (85, [], (.iload 5, 87, 5, [], .returned)),
  (87, [], (.aaload, 88, 0, [], .returned)),
  (88, [241], (.getfield 146, 91, 3, [0, 0], .returned)),
  (91, [], (.iload_n 3, 92, 3, [], .returned)),
  (92, [], (.if_icmp .ne 18, 95, 110, [], .returned)),
  (95, [], (.iload 4, 97, 4, [], .returned)),
  (97, [], (.aload_n 0, 98, 0, [], .returned)),
  (98, [442], (.getfield 26, 101, 9, [2, 2], .returned)),
  (101, [191], (.getfield 253, 104, 1, [2, 2], .returned)),
  (104, [], (.iload 5, 106, 5, [], .returned)),
  (106, [], (.iaload, 107, 0, [], .returned)),
  (107, [], (.iadd, 108, 0, [], .returned)),
  (108, [], (.istore 4, 110, 4, [], .returned)),
  (110, [], (.iinc 5 1, 113, 5, [], .constant "" 0 (1))),
  (113, [], (.goto (-47), 116, 66, [], .returned)),
  (116, [], (.aload_n 0, 117, 0, [], .returned)),
  (117, [], (.iload 4, 119, 4, [], .returned)),
  (119, [617, 620, 619, 20, 92], (.invokevirtual 96, 122, 0, [1, 9, 0, 0], .code yX9_granted cX9_granted 2 (some .int))),
  (122, [], (.ireturn, 123, 0, [], .returned))]
theorem ck_X9_ranked : okT q_X9_ranked t_X9_ranked = true := by decide +kernel
theorem e_X9_ranked_0 : lk t_X9_ranked 0 = some (.aload_n 0, 1, 0, [], .returned) := rfl
theorem e_X9_ranked_1 : lk t_X9_ranked 1 = some (.getfield 47, 4, 9, [5, 2], .returned) := rfl
theorem e_X9_ranked_4 : lk t_X9_ranked 4 = some (.iload_n 1, 5, 1, [], .returned) := rfl
theorem e_X9_ranked_5 : lk t_X9_ranked 5 = some (.invokevirtual 183, 8, 0, [1, 0, 0, 0], .code yX0_hasPayer cX0_hasPayer 2 (some .boolean)) := rfl
theorem e_X9_ranked_8 : lk t_X9_ranked 8 = some (.ifCond .ne 9, 11, 17, [], .returned) := rfl
theorem e_X9_ranked_11 : lk t_X9_ranked 11 = some (.aload_n 0, 12, 0, [], .returned) := rfl
theorem e_X9_ranked_12 : lk t_X9_ranked 12 = some (.iconst 1, 13, 0, [], .constant "" 0 (1)) := rfl
theorem e_X9_ranked_13 : lk t_X9_ranked 13 = some (.invokevirtual 75, 16, 0, [1, 9, 0, 0], .code yX9_refuse cX9_refuse 2 (some .int)) := rfl
theorem e_X9_ranked_16 : lk t_X9_ranked 16 = some (.ireturn, 17, 0, [], .returned) := rfl
theorem e_X9_ranked_17 : lk t_X9_ranked 17 = some (.iload_n 2, 18, 2, [], .returned) := rfl
theorem e_X9_ranked_18 : lk t_X9_ranked 18 = some (.invokestatic 210, 21, 0, [1, 0, 0], .code yX9_isNet cX9_isNet 1 (some .boolean)) := rfl
theorem e_X9_ranked_21 : lk t_X9_ranked 21 = some (.ifCond .eq 13, 24, 34, [], .returned) := rfl
theorem e_X9_ranked_24 : lk t_X9_ranked 24 = some (.iload_n 3, 25, 3, [], .returned) := rfl
theorem e_X9_ranked_25 : lk t_X9_ranked 25 = some (.iconst 1, 26, 0, [], .constant "" 0 (1)) := rfl
theorem e_X9_ranked_26 : lk t_X9_ranked 26 = some (.bipush 9, 28, 0, [], .constant "" 0 (9)) := rfl
theorem e_X9_ranked_28 : lk t_X9_ranked 28 = some (.invokestatic 71, 31, 0, [3, 0, 0], .code yX9_within cX9_within 3 (some .boolean)) := rfl
theorem e_X9_ranked_31 : lk t_X9_ranked 31 = some (.ifCond .ne 9, 34, 40, [], .returned) := rfl
theorem e_X9_ranked_34 : lk t_X9_ranked 34 = some (.aload_n 0, 35, 0, [], .returned) := rfl
theorem e_X9_ranked_35 : lk t_X9_ranked 35 = some (.iconst 2, 36, 0, [], .constant "" 0 (2)) := rfl
theorem e_X9_ranked_36 : lk t_X9_ranked 36 = some (.invokevirtual 75, 39, 0, [1, 9, 0, 0], .code yX9_refuse cX9_refuse 2 (some .int)) := rfl
theorem e_X9_ranked_39 : lk t_X9_ranked 39 = some (.ireturn, 40, 0, [], .returned) := rfl
theorem e_X9_ranked_40 : lk t_X9_ranked 40 = some (.aload_n 0, 41, 0, [], .returned) := rfl
theorem e_X9_ranked_41 : lk t_X9_ranked 41 = some (.getfield 26, 44, 9, [2, 2], .returned) := rfl
theorem e_X9_ranked_44 : lk t_X9_ranked 44 = some (.aload_n 0, 45, 0, [], .returned) := rfl
theorem e_X9_ranked_45 : lk t_X9_ranked 45 = some (.getfield 47, 48, 9, [5, 2], .returned) := rfl
theorem e_X9_ranked_48 : lk t_X9_ranked 48 = some (.aload_n 0, 49, 0, [], .returned) := rfl
theorem e_X9_ranked_49 : lk t_X9_ranked 49 = some (.getfield 47, 52, 9, [5, 2], .returned) := rfl
theorem e_X9_ranked_52 : lk t_X9_ranked 52 = some (.getfield 142, 55, 0, [2, 2], .returned) := rfl
theorem e_X9_ranked_55 : lk t_X9_ranked 55 = some (.iload_n 1, 56, 1, [], .returned) := rfl
theorem e_X9_ranked_56 : lk t_X9_ranked 56 = some (.iload_n 2, 57, 2, [], .returned) := rfl
theorem e_X9_ranked_57 : lk t_X9_ranked 57 = some (.invokevirtual 246, 60, 0, [4, 1, 0, 0], .code yX1_reckon cX1_reckon 7 none) := rfl
theorem e_X9_ranked_60 : lk t_X9_ranked 60 = some (.iconst 0, 61, 0, [], .constant "" 0 (0)) := rfl
theorem e_X9_ranked_61 : lk t_X9_ranked 61 = some (.istore 4, 63, 4, [], .returned) := rfl
theorem e_X9_ranked_63 : lk t_X9_ranked 63 = some (.iconst 0, 64, 0, [], .constant "" 0 (0)) := rfl
theorem e_X9_ranked_64 : lk t_X9_ranked 64 = some (.istore 5, 66, 5, [], .returned) := rfl
theorem e_X9_ranked_66 : lk t_X9_ranked 66 = some (.iload 5, 68, 5, [], .returned) := rfl
theorem e_X9_ranked_68 : lk t_X9_ranked 68 = some (.aload_n 0, 69, 0, [], .returned) := rfl
theorem e_X9_ranked_69 : lk t_X9_ranked 69 = some (.getfield 47, 72, 9, [5, 2], .returned) := rfl
theorem e_X9_ranked_72 : lk t_X9_ranked 72 = some (.getfield 93, 75, 0, [5, 0], .returned) := rfl
theorem e_X9_ranked_75 : lk t_X9_ranked 75 = some (.if_icmp .ge 41, 78, 116, [], .returned) := rfl
theorem e_X9_ranked_78 : lk t_X9_ranked 78 = some (.aload_n 0, 79, 0, [], .returned) := rfl
theorem e_X9_ranked_79 : lk t_X9_ranked 79 = some (.getfield 47, 82, 9, [5, 2], .returned) := rfl
theorem e_X9_ranked_82 : lk t_X9_ranked 82 = some (.getfield 142, 85, 0, [2, 2], .returned) := rfl
theorem e_X9_ranked_85 : lk t_X9_ranked 85 = some (.iload 5, 87, 5, [], .returned) := rfl
theorem e_X9_ranked_87 : lk t_X9_ranked 87 = some (.aaload, 88, 0, [], .returned) := rfl
theorem e_X9_ranked_88 : lk t_X9_ranked 88 = some (.getfield 146, 91, 3, [0, 0], .returned) := rfl
theorem e_X9_ranked_91 : lk t_X9_ranked 91 = some (.iload_n 3, 92, 3, [], .returned) := rfl
theorem e_X9_ranked_92 : lk t_X9_ranked 92 = some (.if_icmp .ne 18, 95, 110, [], .returned) := rfl
theorem e_X9_ranked_95 : lk t_X9_ranked 95 = some (.iload 4, 97, 4, [], .returned) := rfl
theorem e_X9_ranked_97 : lk t_X9_ranked 97 = some (.aload_n 0, 98, 0, [], .returned) := rfl
theorem e_X9_ranked_98 : lk t_X9_ranked 98 = some (.getfield 26, 101, 9, [2, 2], .returned) := rfl
theorem e_X9_ranked_101 : lk t_X9_ranked 101 = some (.getfield 253, 104, 1, [2, 2], .returned) := rfl
theorem e_X9_ranked_104 : lk t_X9_ranked 104 = some (.iload 5, 106, 5, [], .returned) := rfl
theorem e_X9_ranked_106 : lk t_X9_ranked 106 = some (.iaload, 107, 0, [], .returned) := rfl
theorem e_X9_ranked_107 : lk t_X9_ranked 107 = some (.iadd, 108, 0, [], .returned) := rfl
theorem e_X9_ranked_108 : lk t_X9_ranked 108 = some (.istore 4, 110, 4, [], .returned) := rfl
theorem e_X9_ranked_110 : lk t_X9_ranked 110 = some (.iinc 5 1, 113, 5, [], .constant "" 0 (1)) := rfl
theorem e_X9_ranked_113 : lk t_X9_ranked 113 = some (.goto (-47), 116, 66, [], .returned) := rfl
theorem e_X9_ranked_116 : lk t_X9_ranked 116 = some (.aload_n 0, 117, 0, [], .returned) := rfl
theorem e_X9_ranked_117 : lk t_X9_ranked 117 = some (.iload 4, 119, 4, [], .returned) := rfl
theorem e_X9_ranked_119 : lk t_X9_ranked 119 = some (.invokevirtual 96, 122, 0, [1, 9, 0, 0], .code yX9_granted cX9_granted 2 (some .int)) := rfl
theorem e_X9_ranked_122 : lk t_X9_ranked 122 = some (.ireturn, 123, 0, [], .returned) := rfl
abbrev q_X9_enough : MI := (yX9_enough, cX9_enough, 4, (some .int))
def t_X9_enough : Tab := [(0, [], (.aload_n 0, 1, 0, [], .returned)),
  (1, [445], (.getfield 47, 4, 9, [5, 2], .returned)),
  (4, [], (.iload_n 1, 5, 1, [], .returned)),
  (5, [670, 673, 671, 672, 99], (.invokevirtual 138, 8, 0, [1, 0, 0, 0], .code yX0_hasOrder cX0_hasOrder 2 (some .boolean))),
  (8, [], (.ifCond .eq 14, 11, 22, [], .returned)),
  (11, [], (.aload_n 0, 12, 0, [], .returned)),
  (12, [445], (.getfield 47, 15, 9, [5, 2], .returned)),
  (15, [], (.iload_n 2, 16, 2, [], .returned)),
  (16, [684, 687, 685, 686, 99], (.invokevirtual 183, 19, 0, [1, 0, 0, 0], .code yX0_hasPayer cX0_hasPayer 2 (some .boolean))),
  (19, [], (.ifCond .ne 9, 22, 28, [], .returned)),
  (22, [], (.aload_n 0, 23, 0, [], .returned)),
  (23, [], (.iconst 1, 24, 0, [], .constant "" 0 (1))),
  (24, [486, 489, 488, 0, 92], (.invokevirtual 75, 27, 0, [1, 9, 0, 0], .code yX9_refuse cX9_refuse 2 (some .int))),
  (27, [], (.ireturn, 28, 0, [], .returned)),
  (28, [], (.aload_n 0, 29, 0, [], .returned)),
  (29, [445], (.getfield 47, 32, 9, [5, 2], .returned)),
  (32, [394], (.getfield 142, 35, 0, [2, 2], .returned)),
  (35, [], (.iload_n 1, 36, 1, [], .returned)),
  (36, [], (.aaload, 37, 0, [], .returned)),
  (37, [], (.iload_n 2, 38, 2, [], .returned)),
  (38, [846, 695, 693, 694, 97], (.invokevirtual 261, 41, 0, [1, 3, 0, 0], .code yX3_isLiveAt cX3_isLiveAt 2 (some .boolean))),
  (41, [], (.ifCond .ne 9, 44, 50, [], .returned)),
  (44, [], (.aload_n 0, 45, 0, [], .returned)),
  (45, [], (.iconst 5, 46, 0, [], .constant "" 0 (5))),
  (46, [486, 489, 488, 0, 92], (.invokevirtual 75, 49, 0, [1, 9, 0, 0], .code yX9_refuse cX9_refuse 2 (some .int))),
  (49, [], (.ireturn, 50, 0, [], .returned)),
  (50, [], (.iconst 0, 51, 0, [], .constant "" 0 (0))),
  (51, [], (.istore_n 3, 52, 3, [], .returned)),
  (52, [], (.iload_n 3, 53, 3, [], .returned)),
  (53, [], (.sipush 9999, 56, 0, [], .constant "" 0 (9999))),
  (56, [], (.if_icmp .gt 68, 59, 124, [], .returned)),
  (59, [], (.aload_n 0, 60, 0, [], .returned)),
  (60, [442], (.getfield 26, 63, 9, [2, 2], .returned)),
  (63, [], (.aload_n 0, 64, 0, [], .returned)),
  (64, [445], (.getfield 47, 67, 9, [5, 2], .returned)),
  (67, [], (.aload_n 0, 68, 0, [], .returned)),
  (68, [445], (.getfield 47, 71, 9, [5, 2], .returned)),
  (71, [394], (.getfield 142, 74, 0, [2, 2], .returned)),
  (74, [], (.iload_n 2, 75, 2, [], .returned)),
  (75, [], (.iload_n 3, 76, 3, [], .returned)),
  (76, [769, 772, 770, 771, 95], (.invokevirtual 246, 79, 0, [4, 1, 0, 0], .code yX1_reckon cX1_reckon 7 none)),
  (79, [], (.aload_n 0, 80, 0, [], .returned)),
  (80, [442], (.getfield 26, 83, 9, [2, 2], .returned)),
  (83, [188], (.getfield 250, 86, 1, [1, 2], .returned)),
  (86, [], (.iload_n 1, 87, 1, [], .returned)),
  (87, [], (.iaload, 88, 0, [], .returned)),
  (88, [], (.ifCond .le 30, 91, 118, [], .returned)),
  (91, [], (.aload_n 0, 92, 0, [], .returned)),
  (92, [442], (.getfield 26, 95, 9, [2, 2], .returned)),
  (95, [191], (.getfield 253, 98, 1, [2, 2], .returned)),
  (98, [], (.iload_n 1, 99, 1, [], .returned)),
  (99, [], (.iaload, 100, 0, [], .returned)),
  (100, [], (.aload_n 0, 101, 0, [], .returned)),
  (101, [442], (.getfield 26, 104, 9, [2, 2], .returned)),
  (104, [188], (.getfield 250, 107, 1, [1, 2], .returned)),
  (107, [], (.iload_n 1, 108, 1, [], .returned)),
  (108, [], (.iaload, 109, 0, [], .returned)),
  (109, [], (.if_icmp .ne 9, 112, 118, [], .returned)),
  (112, [], (.aload_n 0, 113, 0, [], .returned)),
  (113, [], (.iload_n 3, 114, 3, [], .returned)),
  (114, [617, 620, 619, 20, 92], (.invokevirtual 96, 117, 0, [1, 9, 0, 0], .code yX9_granted cX9_granted 2 (some .int))),
  (117, [], (.ireturn, 118, 0, [], .returned)),
  (118, [], (.iinc 3 1, 121, 3, [], .constant "" 0 (1))),
  (121, [], (.goto (-69), 124, 52, [], .returned)),
  (124, [], (.aload_n 0, 125, 0, [], .returned)),
  (125, [], (.bipush (-2), 127, 0, [], .constant "" 0 (-2))),
  (127, [617, 620, 619, 20, 92], (.invokevirtual 96, 130, 0, [1, 9, 0, 0], .code yX9_granted cX9_granted 2 (some .int))),
  (130, [], (.ireturn, 131, 0, [], .returned))]
theorem ck_X9_enough : okT q_X9_enough t_X9_enough = true := by decide +kernel
theorem e_X9_enough_0 : lk t_X9_enough 0 = some (.aload_n 0, 1, 0, [], .returned) := rfl
theorem e_X9_enough_1 : lk t_X9_enough 1 = some (.getfield 47, 4, 9, [5, 2], .returned) := rfl
theorem e_X9_enough_4 : lk t_X9_enough 4 = some (.iload_n 1, 5, 1, [], .returned) := rfl
theorem e_X9_enough_5 : lk t_X9_enough 5 = some (.invokevirtual 138, 8, 0, [1, 0, 0, 0], .code yX0_hasOrder cX0_hasOrder 2 (some .boolean)) := rfl
theorem e_X9_enough_8 : lk t_X9_enough 8 = some (.ifCond .eq 14, 11, 22, [], .returned) := rfl
theorem e_X9_enough_11 : lk t_X9_enough 11 = some (.aload_n 0, 12, 0, [], .returned) := rfl
theorem e_X9_enough_12 : lk t_X9_enough 12 = some (.getfield 47, 15, 9, [5, 2], .returned) := rfl
theorem e_X9_enough_15 : lk t_X9_enough 15 = some (.iload_n 2, 16, 2, [], .returned) := rfl
theorem e_X9_enough_16 : lk t_X9_enough 16 = some (.invokevirtual 183, 19, 0, [1, 0, 0, 0], .code yX0_hasPayer cX0_hasPayer 2 (some .boolean)) := rfl
theorem e_X9_enough_19 : lk t_X9_enough 19 = some (.ifCond .ne 9, 22, 28, [], .returned) := rfl
theorem e_X9_enough_22 : lk t_X9_enough 22 = some (.aload_n 0, 23, 0, [], .returned) := rfl
theorem e_X9_enough_23 : lk t_X9_enough 23 = some (.iconst 1, 24, 0, [], .constant "" 0 (1)) := rfl
theorem e_X9_enough_24 : lk t_X9_enough 24 = some (.invokevirtual 75, 27, 0, [1, 9, 0, 0], .code yX9_refuse cX9_refuse 2 (some .int)) := rfl
theorem e_X9_enough_27 : lk t_X9_enough 27 = some (.ireturn, 28, 0, [], .returned) := rfl
theorem e_X9_enough_28 : lk t_X9_enough 28 = some (.aload_n 0, 29, 0, [], .returned) := rfl
theorem e_X9_enough_29 : lk t_X9_enough 29 = some (.getfield 47, 32, 9, [5, 2], .returned) := rfl
theorem e_X9_enough_32 : lk t_X9_enough 32 = some (.getfield 142, 35, 0, [2, 2], .returned) := rfl
theorem e_X9_enough_35 : lk t_X9_enough 35 = some (.iload_n 1, 36, 1, [], .returned) := rfl
theorem e_X9_enough_36 : lk t_X9_enough 36 = some (.aaload, 37, 0, [], .returned) := rfl
theorem e_X9_enough_37 : lk t_X9_enough 37 = some (.iload_n 2, 38, 2, [], .returned) := rfl
theorem e_X9_enough_38 : lk t_X9_enough 38 = some (.invokevirtual 261, 41, 0, [1, 3, 0, 0], .code yX3_isLiveAt cX3_isLiveAt 2 (some .boolean)) := rfl
theorem e_X9_enough_41 : lk t_X9_enough 41 = some (.ifCond .ne 9, 44, 50, [], .returned) := rfl
theorem e_X9_enough_44 : lk t_X9_enough 44 = some (.aload_n 0, 45, 0, [], .returned) := rfl
theorem e_X9_enough_45 : lk t_X9_enough 45 = some (.iconst 5, 46, 0, [], .constant "" 0 (5)) := rfl
theorem e_X9_enough_46 : lk t_X9_enough 46 = some (.invokevirtual 75, 49, 0, [1, 9, 0, 0], .code yX9_refuse cX9_refuse 2 (some .int)) := rfl
theorem e_X9_enough_49 : lk t_X9_enough 49 = some (.ireturn, 50, 0, [], .returned) := rfl
theorem e_X9_enough_50 : lk t_X9_enough 50 = some (.iconst 0, 51, 0, [], .constant "" 0 (0)) := rfl
theorem e_X9_enough_51 : lk t_X9_enough 51 = some (.istore_n 3, 52, 3, [], .returned) := rfl
theorem e_X9_enough_52 : lk t_X9_enough 52 = some (.iload_n 3, 53, 3, [], .returned) := rfl
theorem e_X9_enough_53 : lk t_X9_enough 53 = some (.sipush 9999, 56, 0, [], .constant "" 0 (9999)) := rfl
theorem e_X9_enough_56 : lk t_X9_enough 56 = some (.if_icmp .gt 68, 59, 124, [], .returned) := rfl
theorem e_X9_enough_59 : lk t_X9_enough 59 = some (.aload_n 0, 60, 0, [], .returned) := rfl
theorem e_X9_enough_60 : lk t_X9_enough 60 = some (.getfield 26, 63, 9, [2, 2], .returned) := rfl
theorem e_X9_enough_63 : lk t_X9_enough 63 = some (.aload_n 0, 64, 0, [], .returned) := rfl
theorem e_X9_enough_64 : lk t_X9_enough 64 = some (.getfield 47, 67, 9, [5, 2], .returned) := rfl
theorem e_X9_enough_67 : lk t_X9_enough 67 = some (.aload_n 0, 68, 0, [], .returned) := rfl
theorem e_X9_enough_68 : lk t_X9_enough 68 = some (.getfield 47, 71, 9, [5, 2], .returned) := rfl
theorem e_X9_enough_71 : lk t_X9_enough 71 = some (.getfield 142, 74, 0, [2, 2], .returned) := rfl
theorem e_X9_enough_74 : lk t_X9_enough 74 = some (.iload_n 2, 75, 2, [], .returned) := rfl
theorem e_X9_enough_75 : lk t_X9_enough 75 = some (.iload_n 3, 76, 3, [], .returned) := rfl
theorem e_X9_enough_76 : lk t_X9_enough 76 = some (.invokevirtual 246, 79, 0, [4, 1, 0, 0], .code yX1_reckon cX1_reckon 7 none) := rfl
theorem e_X9_enough_79 : lk t_X9_enough 79 = some (.aload_n 0, 80, 0, [], .returned) := rfl
theorem e_X9_enough_80 : lk t_X9_enough 80 = some (.getfield 26, 83, 9, [2, 2], .returned) := rfl
theorem e_X9_enough_83 : lk t_X9_enough 83 = some (.getfield 250, 86, 1, [1, 2], .returned) := rfl
theorem e_X9_enough_86 : lk t_X9_enough 86 = some (.iload_n 1, 87, 1, [], .returned) := rfl
theorem e_X9_enough_87 : lk t_X9_enough 87 = some (.iaload, 88, 0, [], .returned) := rfl
theorem e_X9_enough_88 : lk t_X9_enough 88 = some (.ifCond .le 30, 91, 118, [], .returned) := rfl
theorem e_X9_enough_91 : lk t_X9_enough 91 = some (.aload_n 0, 92, 0, [], .returned) := rfl
theorem e_X9_enough_92 : lk t_X9_enough 92 = some (.getfield 26, 95, 9, [2, 2], .returned) := rfl
theorem e_X9_enough_95 : lk t_X9_enough 95 = some (.getfield 253, 98, 1, [2, 2], .returned) := rfl
theorem e_X9_enough_98 : lk t_X9_enough 98 = some (.iload_n 1, 99, 1, [], .returned) := rfl
theorem e_X9_enough_99 : lk t_X9_enough 99 = some (.iaload, 100, 0, [], .returned) := rfl
theorem e_X9_enough_100 : lk t_X9_enough 100 = some (.aload_n 0, 101, 0, [], .returned) := rfl
theorem e_X9_enough_101 : lk t_X9_enough 101 = some (.getfield 26, 104, 9, [2, 2], .returned) := rfl
theorem e_X9_enough_104 : lk t_X9_enough 104 = some (.getfield 250, 107, 1, [1, 2], .returned) := rfl
theorem e_X9_enough_107 : lk t_X9_enough 107 = some (.iload_n 1, 108, 1, [], .returned) := rfl
theorem e_X9_enough_108 : lk t_X9_enough 108 = some (.iaload, 109, 0, [], .returned) := rfl
theorem e_X9_enough_109 : lk t_X9_enough 109 = some (.if_icmp .ne 9, 112, 118, [], .returned) := rfl
theorem e_X9_enough_112 : lk t_X9_enough 112 = some (.aload_n 0, 113, 0, [], .returned) := rfl
theorem e_X9_enough_113 : lk t_X9_enough 113 = some (.iload_n 3, 114, 3, [], .returned) := rfl
theorem e_X9_enough_114 : lk t_X9_enough 114 = some (.invokevirtual 96, 117, 0, [1, 9, 0, 0], .code yX9_granted cX9_granted 2 (some .int)) := rfl
theorem e_X9_enough_117 : lk t_X9_enough 117 = some (.ireturn, 118, 0, [], .returned) := rfl
theorem e_X9_enough_118 : lk t_X9_enough 118 = some (.iinc 3 1, 121, 3, [], .constant "" 0 (1)) := rfl
theorem e_X9_enough_121 : lk t_X9_enough 121 = some (.goto (-69), 124, 52, [], .returned) := rfl
theorem e_X9_enough_124 : lk t_X9_enough 124 = some (.aload_n 0, 125, 0, [], .returned) := rfl
theorem e_X9_enough_125 : lk t_X9_enough 125 = some (.bipush (-2), 127, 0, [], .constant "" 0 (-2)) := rfl
theorem e_X9_enough_127 : lk t_X9_enough 127 = some (.invokevirtual 96, 130, 0, [1, 9, 0, 0], .code yX9_granted cX9_granted 2 (some .int)) := rfl
theorem e_X9_enough_130 : lk t_X9_enough 130 = some (.ireturn, 131, 0, [], .returned) := rfl
abbrev q_X9_first : MI := (yX9_first, cX9_first, 4, (some .int))
def t_X9_first : Tab := [(0, [], (.aload_n 0, 1, 0, [], .returned)),
  (1, [445], (.getfield 47, 4, 9, [5, 2], .returned)),
  (4, [], (.iload_n 1, 5, 1, [], .returned)),
  (5, [670, 673, 671, 672, 99], (.invokevirtual 138, 8, 0, [1, 0, 0, 0], .code yX0_hasOrder cX0_hasOrder 2 (some .boolean))),
  (8, [], (.ifCond .eq 14, 11, 22, [], .returned)),
  (11, [], (.aload_n 0, 12, 0, [], .returned)),
  (12, [445], (.getfield 47, 15, 9, [5, 2], .returned)),
  (15, [], (.iload_n 2, 16, 2, [], .returned)),
  (16, [684, 687, 685, 686, 99], (.invokevirtual 183, 19, 0, [1, 0, 0, 0], .code yX0_hasPayer cX0_hasPayer 2 (some .boolean))),
  (19, [], (.ifCond .ne 9, 22, 28, [], .returned)),
  (22, [], (.aload_n 0, 23, 0, [], .returned)),
  (23, [], (.iconst 1, 24, 0, [], .constant "" 0 (1))),
  (24, [486, 489, 488, 0, 92], (.invokevirtual 75, 27, 0, [1, 9, 0, 0], .code yX9_refuse cX9_refuse 2 (some .int))),
  (27, [], (.ireturn, 28, 0, [], .returned)),
  (28, [], (.aload_n 0, 29, 0, [], .returned)),
  (29, [445], (.getfield 47, 32, 9, [5, 2], .returned)),
  (32, [394], (.getfield 142, 35, 0, [2, 2], .returned)),
  (35, [], (.iload_n 1, 36, 1, [], .returned)),
  (36, [], (.aaload, 37, 0, [], .returned)),
  (37, [], (.iload_n 2, 38, 2, [], .returned)),
  (38, [846, 695, 693, 694, 97], (.invokevirtual 261, 41, 0, [1, 3, 0, 0], .code yX3_isLiveAt cX3_isLiveAt 2 (some .boolean))),
  (41, [], (.ifCond .ne 10, 44, 51, [], .returned)),
  (44, [], (.aload_n 0, 45, 0, [], .returned)),
  (45, [], (.bipush (-2), 47, 0, [], .constant "" 0 (-2))),
  (47, [617, 620, 619, 20, 92], (.invokevirtual 96, 50, 0, [1, 9, 0, 0], .code yX9_granted cX9_granted 2 (some .int))),
  (50, [], (.ireturn, 51, 0, [], .returned)),
  (51, [], (.iconst 0, 52, 0, [], .constant "" 0 (0))),
  (52, [], (.istore_n 3, 53, 3, [], .returned)),
  (53, [], (.iload_n 3, 54, 3, [], .returned)),
  (54, [], (.sipush 9999, 57, 0, [], .constant "" 0 (9999))),
  (57, [], (.if_icmp .gt 47, 60, 104, [], .returned)),
  (60, [], (.aload_n 0, 61, 0, [], .returned)),
  (61, [442], (.getfield 26, 64, 9, [2, 2], .returned)),
  (64, [], (.aload_n 0, 65, 0, [], .returned)),
  (65, [445], (.getfield 47, 68, 9, [5, 2], .returned)),
  (68, [], (.aload_n 0, 69, 0, [], .returned)),
  (69, [445], (.getfield 47, 72, 9, [5, 2], .returned)),
  (72, [394], (.getfield 142, 75, 0, [2, 2], .returned)),
  (75, [], (.iload_n 2, 76, 2, [], .returned)),
  (76, [], (.iload_n 3, 77, 3, [], .returned)),
  (77, [769, 772, 770, 771, 95], (.invokevirtual 246, 80, 0, [4, 1, 0, 0], .code yX1_reckon cX1_reckon 7 none)),
  (80, [], (.aload_n 0, 81, 0, [], .returned)),
  (81, [442], (.getfield 26, 84, 9, [2, 2], .returned)),
  (84, [191], (.getfield 253, 87, 1, [2, 2], .returned)),
  (87, [], (.iload_n 1, 88, 1, [], .returned)),
  (88, [], (.iaload, 89, 0, [], .returned)),
  (89, [], (.ifCond .le 9, 92, 98, [], .returned)),
  (92, [], (.aload_n 0, 93, 0, [], .returned)),
  (93, [], (.iload_n 3, 94, 3, [], .returned)),
  (94, [617, 620, 619, 20, 92], (.invokevirtual 96, 97, 0, [1, 9, 0, 0], .code yX9_granted cX9_granted 2 (some .int))),
  (97, [], (.ireturn, 98, 0, [], .returned)),
  (98, [], (.iinc 3 1, 101, 3, [], .constant "" 0 (1))),
  (101, [], (.goto (-48), 104, 53, [], .returned)),
  (104, [], (.aload_n 0, 105, 0, [], .returned)),
  (105, [], (.bipush (-2), 107, 0, [], .constant "" 0 (-2))),
  (107, [617, 620, 619, 20, 92], (.invokevirtual 96, 110, 0, [1, 9, 0, 0], .code yX9_granted cX9_granted 2 (some .int))),
  (110, [], (.ireturn, 111, 0, [], .returned))]
theorem ck_X9_first : okT q_X9_first t_X9_first = true := by decide +kernel
theorem e_X9_first_0 : lk t_X9_first 0 = some (.aload_n 0, 1, 0, [], .returned) := rfl
theorem e_X9_first_1 : lk t_X9_first 1 = some (.getfield 47, 4, 9, [5, 2], .returned) := rfl
theorem e_X9_first_4 : lk t_X9_first 4 = some (.iload_n 1, 5, 1, [], .returned) := rfl
theorem e_X9_first_5 : lk t_X9_first 5 = some (.invokevirtual 138, 8, 0, [1, 0, 0, 0], .code yX0_hasOrder cX0_hasOrder 2 (some .boolean)) := rfl
theorem e_X9_first_8 : lk t_X9_first 8 = some (.ifCond .eq 14, 11, 22, [], .returned) := rfl
theorem e_X9_first_11 : lk t_X9_first 11 = some (.aload_n 0, 12, 0, [], .returned) := rfl
theorem e_X9_first_12 : lk t_X9_first 12 = some (.getfield 47, 15, 9, [5, 2], .returned) := rfl
theorem e_X9_first_15 : lk t_X9_first 15 = some (.iload_n 2, 16, 2, [], .returned) := rfl
theorem e_X9_first_16 : lk t_X9_first 16 = some (.invokevirtual 183, 19, 0, [1, 0, 0, 0], .code yX0_hasPayer cX0_hasPayer 2 (some .boolean)) := rfl
theorem e_X9_first_19 : lk t_X9_first 19 = some (.ifCond .ne 9, 22, 28, [], .returned) := rfl
theorem e_X9_first_22 : lk t_X9_first 22 = some (.aload_n 0, 23, 0, [], .returned) := rfl
theorem e_X9_first_23 : lk t_X9_first 23 = some (.iconst 1, 24, 0, [], .constant "" 0 (1)) := rfl
theorem e_X9_first_24 : lk t_X9_first 24 = some (.invokevirtual 75, 27, 0, [1, 9, 0, 0], .code yX9_refuse cX9_refuse 2 (some .int)) := rfl
theorem e_X9_first_27 : lk t_X9_first 27 = some (.ireturn, 28, 0, [], .returned) := rfl
theorem e_X9_first_28 : lk t_X9_first 28 = some (.aload_n 0, 29, 0, [], .returned) := rfl
theorem e_X9_first_29 : lk t_X9_first 29 = some (.getfield 47, 32, 9, [5, 2], .returned) := rfl
theorem e_X9_first_32 : lk t_X9_first 32 = some (.getfield 142, 35, 0, [2, 2], .returned) := rfl
theorem e_X9_first_35 : lk t_X9_first 35 = some (.iload_n 1, 36, 1, [], .returned) := rfl
theorem e_X9_first_36 : lk t_X9_first 36 = some (.aaload, 37, 0, [], .returned) := rfl
theorem e_X9_first_37 : lk t_X9_first 37 = some (.iload_n 2, 38, 2, [], .returned) := rfl
theorem e_X9_first_38 : lk t_X9_first 38 = some (.invokevirtual 261, 41, 0, [1, 3, 0, 0], .code yX3_isLiveAt cX3_isLiveAt 2 (some .boolean)) := rfl
theorem e_X9_first_41 : lk t_X9_first 41 = some (.ifCond .ne 10, 44, 51, [], .returned) := rfl
theorem e_X9_first_44 : lk t_X9_first 44 = some (.aload_n 0, 45, 0, [], .returned) := rfl
theorem e_X9_first_45 : lk t_X9_first 45 = some (.bipush (-2), 47, 0, [], .constant "" 0 (-2)) := rfl
theorem e_X9_first_47 : lk t_X9_first 47 = some (.invokevirtual 96, 50, 0, [1, 9, 0, 0], .code yX9_granted cX9_granted 2 (some .int)) := rfl
theorem e_X9_first_50 : lk t_X9_first 50 = some (.ireturn, 51, 0, [], .returned) := rfl
theorem e_X9_first_51 : lk t_X9_first 51 = some (.iconst 0, 52, 0, [], .constant "" 0 (0)) := rfl
theorem e_X9_first_52 : lk t_X9_first 52 = some (.istore_n 3, 53, 3, [], .returned) := rfl
theorem e_X9_first_53 : lk t_X9_first 53 = some (.iload_n 3, 54, 3, [], .returned) := rfl
theorem e_X9_first_54 : lk t_X9_first 54 = some (.sipush 9999, 57, 0, [], .constant "" 0 (9999)) := rfl
theorem e_X9_first_57 : lk t_X9_first 57 = some (.if_icmp .gt 47, 60, 104, [], .returned) := rfl
theorem e_X9_first_60 : lk t_X9_first 60 = some (.aload_n 0, 61, 0, [], .returned) := rfl
theorem e_X9_first_61 : lk t_X9_first 61 = some (.getfield 26, 64, 9, [2, 2], .returned) := rfl
theorem e_X9_first_64 : lk t_X9_first 64 = some (.aload_n 0, 65, 0, [], .returned) := rfl
theorem e_X9_first_65 : lk t_X9_first 65 = some (.getfield 47, 68, 9, [5, 2], .returned) := rfl
theorem e_X9_first_68 : lk t_X9_first 68 = some (.aload_n 0, 69, 0, [], .returned) := rfl
theorem e_X9_first_69 : lk t_X9_first 69 = some (.getfield 47, 72, 9, [5, 2], .returned) := rfl
theorem e_X9_first_72 : lk t_X9_first 72 = some (.getfield 142, 75, 0, [2, 2], .returned) := rfl
theorem e_X9_first_75 : lk t_X9_first 75 = some (.iload_n 2, 76, 2, [], .returned) := rfl
theorem e_X9_first_76 : lk t_X9_first 76 = some (.iload_n 3, 77, 3, [], .returned) := rfl
theorem e_X9_first_77 : lk t_X9_first 77 = some (.invokevirtual 246, 80, 0, [4, 1, 0, 0], .code yX1_reckon cX1_reckon 7 none) := rfl
theorem e_X9_first_80 : lk t_X9_first 80 = some (.aload_n 0, 81, 0, [], .returned) := rfl
theorem e_X9_first_81 : lk t_X9_first 81 = some (.getfield 26, 84, 9, [2, 2], .returned) := rfl
theorem e_X9_first_84 : lk t_X9_first 84 = some (.getfield 253, 87, 1, [2, 2], .returned) := rfl
theorem e_X9_first_87 : lk t_X9_first 87 = some (.iload_n 1, 88, 1, [], .returned) := rfl
theorem e_X9_first_88 : lk t_X9_first 88 = some (.iaload, 89, 0, [], .returned) := rfl
theorem e_X9_first_89 : lk t_X9_first 89 = some (.ifCond .le 9, 92, 98, [], .returned) := rfl
theorem e_X9_first_92 : lk t_X9_first 92 = some (.aload_n 0, 93, 0, [], .returned) := rfl
theorem e_X9_first_93 : lk t_X9_first 93 = some (.iload_n 3, 94, 3, [], .returned) := rfl
theorem e_X9_first_94 : lk t_X9_first 94 = some (.invokevirtual 96, 97, 0, [1, 9, 0, 0], .code yX9_granted cX9_granted 2 (some .int)) := rfl
theorem e_X9_first_97 : lk t_X9_first 97 = some (.ireturn, 98, 0, [], .returned) := rfl
theorem e_X9_first_98 : lk t_X9_first 98 = some (.iinc 3 1, 101, 3, [], .constant "" 0 (1)) := rfl
theorem e_X9_first_101 : lk t_X9_first 101 = some (.goto (-48), 104, 53, [], .returned) := rfl
theorem e_X9_first_104 : lk t_X9_first 104 = some (.aload_n 0, 105, 0, [], .returned) := rfl
theorem e_X9_first_105 : lk t_X9_first 105 = some (.bipush (-2), 107, 0, [], .constant "" 0 (-2)) := rfl
theorem e_X9_first_107 : lk t_X9_first 107 = some (.invokevirtual 96, 110, 0, [1, 9, 0, 0], .code yX9_granted cX9_granted 2 (some .int)) := rfl
theorem e_X9_first_110 : lk t_X9_first 110 = some (.ireturn, 111, 0, [], .returned) := rfl
abbrev q_X9_done : MI := (yX9_done, cX9_done, 4, (some .int))
def t_X9_done : Tab := [(0, [], (.aload_n 0, 1, 0, [], .returned)),
  (1, [445], (.getfield 47, 4, 9, [5, 2], .returned)),
  (4, [], (.iload_n 1, 5, 1, [], .returned)),
  (5, [670, 673, 671, 672, 99], (.invokevirtual 138, 8, 0, [1, 0, 0, 0], .code yX0_hasOrder cX0_hasOrder 2 (some .boolean))),
  (8, [], (.ifCond .ne 9, 11, 17, [], .returned)),
  (11, [], (.aload_n 0, 12, 0, [], .returned)),
  (12, [], (.iconst 1, 13, 0, [], .constant "" 0 (1))),
  (13, [486, 489, 488, 0, 92], (.invokevirtual 75, 16, 0, [1, 9, 0, 0], .code yX9_refuse cX9_refuse 2 (some .int))),
  (16, [], (.ireturn, 17, 0, [], .returned)),
  (17, [], (.iload_n 2, 18, 2, [], .returned)),
  (18, [705, 707, 706, 92], (.invokestatic 210, 21, 0, [1, 0, 0], .code yX9_isNet cX9_isNet 1 (some .boolean))),
  (21, [], (.ifCond .ne 9, 24, 30, [], .returned)),
  (24, [], (.aload_n 0, 25, 0, [], .returned)),
  (25, [], (.iconst 2, 26, 0, [], .constant "" 0 (2))),
  (26, [486, 489, 488, 0, 92], (.invokevirtual 75, 29, 0, [1, 9, 0, 0], .code yX9_refuse cX9_refuse 2 (some .int))),
  (29, [], (.ireturn, 30, 0, [], .returned)),
  (30, [], (.aload_n 0, 31, 0, [], .returned)),
  (31, [445], (.getfield 47, 34, 9, [5, 2], .returned)),
  (34, [394], (.getfield 142, 37, 0, [2, 2], .returned)),
  (37, [], (.iload_n 1, 38, 1, [], .returned)),
  (38, [], (.aaload, 39, 0, [], .returned)),
  (39, [678, 664, 662, 663, 97], (.invokevirtual 171, 42, 0, [0, 3, 0, 0], .code yX3_rest cX3_rest 1 (some .int))),
  (42, [], (.ifCond .ne 9, 45, 51, [], .returned)),
  (45, [], (.aload_n 0, 46, 0, [], .returned)),
  (46, [], (.iconst 0, 47, 0, [], .constant "" 0 (0))),
  (47, [617, 620, 619, 20, 92], (.invokevirtual 96, 50, 0, [1, 9, 0, 0], .code yX9_granted cX9_granted 2 (some .int))),
  (50, [], (.ireturn, 51, 0, [], .returned)),
  (51, [], (.aload_n 0, 52, 0, [], .returned)),
  (52, [443], (.getfield 33, 55, 9, [3, 2], .returned)),
  (55, [], (.aload_n 0, 56, 0, [], .returned)),
  (56, [445], (.getfield 47, 59, 9, [5, 2], .returned)),
  (59, [855, 858, 856, 857, 96], (.invokevirtual 264, 62, 0, [1, 8, 0, 0], .code yX8_begin cX8_begin 3 none)),
  (62, [], (.iconst 1, 63, 0, [], .constant "" 0 (1))),
  (63, [], (.istore_n 3, 64, 3, [], .returned)),
  (64, [], (.iload_n 3, 65, 3, [], .returned)),
  (65, [], (.sipush 200, 68, 0, [], .constant "" 0 (200))),
  (68, [], (.if_icmp .gt 43, 71, 111, [], .returned)),
  (71, [], (.aload_n 0, 72, 0, [], .returned)),
  (72, [443], (.getfield 33, 75, 9, [3, 2], .returned)),
  (75, [], (.aload_n 0, 76, 0, [], .returned)),
  (76, [445], (.getfield 47, 79, 9, [5, 2], .returned)),
  (79, [], (.iload_n 3, 80, 3, [], .returned)),
  (80, [], (.iload_n 2, 81, 2, [], .returned)),
  (81, [863, 866, 864, 865, 96], (.invokevirtual 268, 84, 0, [3, 8, 0, 0], .code yX8_passWeek cX8_passWeek 5 none)),
  (84, [], (.aload_n 0, 85, 0, [], .returned)),
  (85, [443], (.getfield 33, 88, 9, [3, 2], .returned)),
  (88, [295], (.getfield 272, 91, 8, [0, 2], .returned)),
  (91, [], (.iload_n 1, 92, 1, [], .returned)),
  (92, [], (.aaload, 93, 0, [], .returned)),
  (93, [678, 664, 662, 663, 97], (.invokevirtual 171, 96, 0, [0, 3, 0, 0], .code yX3_rest cX3_rest 1 (some .int))),
  (96, [], (.ifCond .ne 9, 99, 105, [], .returned)),
  (99, [], (.aload_n 0, 100, 0, [], .returned)),
  (100, [], (.iload_n 3, 101, 3, [], .returned)),
  (101, [617, 620, 619, 20, 92], (.invokevirtual 96, 104, 0, [1, 9, 0, 0], .code yX9_granted cX9_granted 2 (some .int))),
  (104, [], (.ireturn, 105, 0, [], .returned)),
  (105, [], (.iinc 3 1, 108, 3, [], .constant "" 0 (1))),
  (108, [], (.goto (-44), 111, 64, [], .returned)),
  (111, [], (.aload_n 0, 112, 0, [], .returned)),
  (112, [], (.bipush (-2), 114, 0, [], .constant "" 0 (-2))),
  (114, [617, 620, 619, 20, 92], (.invokevirtual 96, 117, 0, [1, 9, 0, 0], .code yX9_granted cX9_granted 2 (some .int))),
  (117, [], (.ireturn, 118, 0, [], .returned))]
theorem ck_X9_done : okT q_X9_done t_X9_done = true := by decide +kernel
theorem e_X9_done_0 : lk t_X9_done 0 = some (.aload_n 0, 1, 0, [], .returned) := rfl
theorem e_X9_done_1 : lk t_X9_done 1 = some (.getfield 47, 4, 9, [5, 2], .returned) := rfl
theorem e_X9_done_4 : lk t_X9_done 4 = some (.iload_n 1, 5, 1, [], .returned) := rfl
theorem e_X9_done_5 : lk t_X9_done 5 = some (.invokevirtual 138, 8, 0, [1, 0, 0, 0], .code yX0_hasOrder cX0_hasOrder 2 (some .boolean)) := rfl
theorem e_X9_done_8 : lk t_X9_done 8 = some (.ifCond .ne 9, 11, 17, [], .returned) := rfl
theorem e_X9_done_11 : lk t_X9_done 11 = some (.aload_n 0, 12, 0, [], .returned) := rfl
theorem e_X9_done_12 : lk t_X9_done 12 = some (.iconst 1, 13, 0, [], .constant "" 0 (1)) := rfl
theorem e_X9_done_13 : lk t_X9_done 13 = some (.invokevirtual 75, 16, 0, [1, 9, 0, 0], .code yX9_refuse cX9_refuse 2 (some .int)) := rfl
theorem e_X9_done_16 : lk t_X9_done 16 = some (.ireturn, 17, 0, [], .returned) := rfl
theorem e_X9_done_17 : lk t_X9_done 17 = some (.iload_n 2, 18, 2, [], .returned) := rfl
theorem e_X9_done_18 : lk t_X9_done 18 = some (.invokestatic 210, 21, 0, [1, 0, 0], .code yX9_isNet cX9_isNet 1 (some .boolean)) := rfl
theorem e_X9_done_21 : lk t_X9_done 21 = some (.ifCond .ne 9, 24, 30, [], .returned) := rfl
theorem e_X9_done_24 : lk t_X9_done 24 = some (.aload_n 0, 25, 0, [], .returned) := rfl
theorem e_X9_done_25 : lk t_X9_done 25 = some (.iconst 2, 26, 0, [], .constant "" 0 (2)) := rfl
theorem e_X9_done_26 : lk t_X9_done 26 = some (.invokevirtual 75, 29, 0, [1, 9, 0, 0], .code yX9_refuse cX9_refuse 2 (some .int)) := rfl
theorem e_X9_done_29 : lk t_X9_done 29 = some (.ireturn, 30, 0, [], .returned) := rfl
theorem e_X9_done_30 : lk t_X9_done 30 = some (.aload_n 0, 31, 0, [], .returned) := rfl
theorem e_X9_done_31 : lk t_X9_done 31 = some (.getfield 47, 34, 9, [5, 2], .returned) := rfl
theorem e_X9_done_34 : lk t_X9_done 34 = some (.getfield 142, 37, 0, [2, 2], .returned) := rfl
theorem e_X9_done_37 : lk t_X9_done 37 = some (.iload_n 1, 38, 1, [], .returned) := rfl
theorem e_X9_done_38 : lk t_X9_done 38 = some (.aaload, 39, 0, [], .returned) := rfl
theorem e_X9_done_39 : lk t_X9_done 39 = some (.invokevirtual 171, 42, 0, [0, 3, 0, 0], .code yX3_rest cX3_rest 1 (some .int)) := rfl
theorem e_X9_done_42 : lk t_X9_done 42 = some (.ifCond .ne 9, 45, 51, [], .returned) := rfl
theorem e_X9_done_45 : lk t_X9_done 45 = some (.aload_n 0, 46, 0, [], .returned) := rfl
theorem e_X9_done_46 : lk t_X9_done 46 = some (.iconst 0, 47, 0, [], .constant "" 0 (0)) := rfl
theorem e_X9_done_47 : lk t_X9_done 47 = some (.invokevirtual 96, 50, 0, [1, 9, 0, 0], .code yX9_granted cX9_granted 2 (some .int)) := rfl
theorem e_X9_done_50 : lk t_X9_done 50 = some (.ireturn, 51, 0, [], .returned) := rfl
theorem e_X9_done_51 : lk t_X9_done 51 = some (.aload_n 0, 52, 0, [], .returned) := rfl
theorem e_X9_done_52 : lk t_X9_done 52 = some (.getfield 33, 55, 9, [3, 2], .returned) := rfl
theorem e_X9_done_55 : lk t_X9_done 55 = some (.aload_n 0, 56, 0, [], .returned) := rfl
theorem e_X9_done_56 : lk t_X9_done 56 = some (.getfield 47, 59, 9, [5, 2], .returned) := rfl
theorem e_X9_done_59 : lk t_X9_done 59 = some (.invokevirtual 264, 62, 0, [1, 8, 0, 0], .code yX8_begin cX8_begin 3 none) := rfl
theorem e_X9_done_62 : lk t_X9_done 62 = some (.iconst 1, 63, 0, [], .constant "" 0 (1)) := rfl
theorem e_X9_done_63 : lk t_X9_done 63 = some (.istore_n 3, 64, 3, [], .returned) := rfl
theorem e_X9_done_64 : lk t_X9_done 64 = some (.iload_n 3, 65, 3, [], .returned) := rfl
theorem e_X9_done_65 : lk t_X9_done 65 = some (.sipush 200, 68, 0, [], .constant "" 0 (200)) := rfl
theorem e_X9_done_68 : lk t_X9_done 68 = some (.if_icmp .gt 43, 71, 111, [], .returned) := rfl
theorem e_X9_done_71 : lk t_X9_done 71 = some (.aload_n 0, 72, 0, [], .returned) := rfl
theorem e_X9_done_72 : lk t_X9_done 72 = some (.getfield 33, 75, 9, [3, 2], .returned) := rfl
theorem e_X9_done_75 : lk t_X9_done 75 = some (.aload_n 0, 76, 0, [], .returned) := rfl
theorem e_X9_done_76 : lk t_X9_done 76 = some (.getfield 47, 79, 9, [5, 2], .returned) := rfl
theorem e_X9_done_79 : lk t_X9_done 79 = some (.iload_n 3, 80, 3, [], .returned) := rfl
theorem e_X9_done_80 : lk t_X9_done 80 = some (.iload_n 2, 81, 2, [], .returned) := rfl
theorem e_X9_done_81 : lk t_X9_done 81 = some (.invokevirtual 268, 84, 0, [3, 8, 0, 0], .code yX8_passWeek cX8_passWeek 5 none) := rfl
theorem e_X9_done_84 : lk t_X9_done 84 = some (.aload_n 0, 85, 0, [], .returned) := rfl
theorem e_X9_done_85 : lk t_X9_done 85 = some (.getfield 33, 88, 9, [3, 2], .returned) := rfl
theorem e_X9_done_88 : lk t_X9_done 88 = some (.getfield 272, 91, 8, [0, 2], .returned) := rfl
theorem e_X9_done_91 : lk t_X9_done 91 = some (.iload_n 1, 92, 1, [], .returned) := rfl
theorem e_X9_done_92 : lk t_X9_done 92 = some (.aaload, 93, 0, [], .returned) := rfl
theorem e_X9_done_93 : lk t_X9_done 93 = some (.invokevirtual 171, 96, 0, [0, 3, 0, 0], .code yX3_rest cX3_rest 1 (some .int)) := rfl
theorem e_X9_done_96 : lk t_X9_done 96 = some (.ifCond .ne 9, 99, 105, [], .returned) := rfl
theorem e_X9_done_99 : lk t_X9_done 99 = some (.aload_n 0, 100, 0, [], .returned) := rfl
theorem e_X9_done_100 : lk t_X9_done 100 = some (.iload_n 3, 101, 3, [], .returned) := rfl
theorem e_X9_done_101 : lk t_X9_done 101 = some (.invokevirtual 96, 104, 0, [1, 9, 0, 0], .code yX9_granted cX9_granted 2 (some .int)) := rfl
theorem e_X9_done_104 : lk t_X9_done 104 = some (.ireturn, 105, 0, [], .returned) := rfl
theorem e_X9_done_105 : lk t_X9_done 105 = some (.iinc 3 1, 108, 3, [], .constant "" 0 (1)) := rfl
theorem e_X9_done_108 : lk t_X9_done 108 = some (.goto (-44), 111, 64, [], .returned) := rfl
theorem e_X9_done_111 : lk t_X9_done 111 = some (.aload_n 0, 112, 0, [], .returned) := rfl
theorem e_X9_done_112 : lk t_X9_done 112 = some (.bipush (-2), 114, 0, [], .constant "" 0 (-2)) := rfl
theorem e_X9_done_114 : lk t_X9_done 114 = some (.invokevirtual 96, 117, 0, [1, 9, 0, 0], .code yX9_granted cX9_granted 2 (some .int)) := rfl
theorem e_X9_done_117 : lk t_X9_done 117 = some (.ireturn, 118, 0, [], .returned) := rfl
abbrev q_X9_ahead : MI := (yX9_ahead, cX9_ahead, 6, (some .int))
def t_X9_ahead : Tab := [(0, [], (.aload_n 0, 1, 0, [], .returned)),
  (1, [445], (.getfield 47, 4, 9, [5, 2], .returned)),
  (4, [], (.iload_n 1, 5, 1, [], .returned)),
  (5, [670, 673, 671, 672, 99], (.invokevirtual 138, 8, 0, [1, 0, 0, 0], .code yX0_hasOrder cX0_hasOrder 2 (some .boolean))),
  (8, [], (.ifCond .eq 13, 11, 21, [], .returned)),
  (11, [], (.iload 4, 13, 4, [], .returned)),
  (13, [], (.iconst 0, 14, 0, [], .constant "" 0 (0))),
  (14, [], (.iconst 1, 15, 0, [], .constant "" 0 (1))),
  (15, [483, 485, 484, 92], (.invokestatic 71, 18, 0, [3, 0, 0], .code yX9_within cX9_within 3 (some .boolean))),
  (18, [], (.ifCond .ne 9, 21, 27, [], .returned)),
  (21, [], (.aload_n 0, 22, 0, [], .returned)),
  (22, [], (.iconst 1, 23, 0, [], .constant "" 0 (1))),
  (23, [486, 489, 488, 0, 92], (.invokevirtual 75, 26, 0, [1, 9, 0, 0], .code yX9_refuse cX9_refuse 2 (some .int))),
  (26, [], (.ireturn, 27, 0, [], .returned)),
  (27, [], (.iload_n 2, 28, 2, [], .returned)),
  (28, [705, 707, 706, 92], (.invokestatic 210, 31, 0, [1, 0, 0], .code yX9_isNet cX9_isNet 1 (some .boolean))),
  (31, [], (.ifCond .eq 14, 34, 45, [], .returned)),
  (34, [], (.iload_n 3, 35, 3, [], .returned)),
  (35, [], (.iconst 1, 36, 0, [], .constant "" 0 (1))),
  (36, [], (.sipush 200, 39, 0, [], .constant "" 0 (200))),
  (39, [483, 485, 484, 92], (.invokestatic 71, 42, 0, [3, 0, 0], .code yX9_within cX9_within 3 (some .boolean))),
  (42, [], (.ifCond .ne 9, 45, 51, [], .returned)),
  (45, [], (.aload_n 0, 46, 0, [], .returned)),
  (46, [], (.iconst 2, 47, 0, [], .constant "" 0 (2))),
  (47, [486, 489, 488, 0, 92], (.invokevirtual 75, 50, 0, [1, 9, 0, 0], .code yX9_refuse cX9_refuse 2 (some .int))),
  (50, [], (.ireturn, 51, 0, [], .returned)),
  (51, [], (.aload_n 0, 52, 0, [], .returned)),
  (52, [443], (.getfield 33, 55, 9, [3, 2], .returned)),
  (55, [], (.aload_n 0, 56, 0, [], .returned)),
  (56, [445], (.getfield 47, 59, 9, [5, 2], .returned)),
  (59, [], (.iload_n 3, 60, 3, [], .returned)),
  (60, [], (.iload_n 2, 61, 2, [], .returned)),
  (61, [890, 893, 891, 892, 96], (.invokevirtual 273, 64, 0, [3, 8, 0, 0], .code yX8_run cX8_run 5 none)),
  (64, [], (.aload_n 0, 65, 0, [], .returned)),
  (65, [443], (.getfield 33, 68, 9, [3, 2], .returned)),
  (68, [295], (.getfield 272, 71, 8, [0, 2], .returned)),
  (71, [], (.iload_n 1, 72, 1, [], .returned)),
  (72, [], (.aaload, 73, 0, [], .returned)),
  (73, [], (.astore 5, 75, 5, [], .returned)),
  (75, [], (.aload_n 0, 76, 0, [], .returned)),
  (76, [], (.iload 4, 78, 4, [], .returned)),
  (78, [], (.ifCond .ne 24, 81, 102, [], .returned)),
  (81, [], (.aload 5, 83, 5, [], .returned)),
  (83, [265], (.getfield 165, 86, 3, [7, 0], .returned)),
  (86, [], (.aload_n 0, 87, 0, [], .returned)),
  (87, [445], (.getfield 47, 90, 9, [5, 2], .returned)),
  (90, [394], (.getfield 142, 93, 0, [2, 2], .returned)),
  (93, [], (.iload_n 1, 94, 1, [], .returned)),
  (94, [], (.aaload, 95, 0, [], .returned)),
  (95, [265], (.getfield 165, 98, 3, [7, 0], .returned)),
  (98, [], (.isub, 99, 0, [], .returned)),
  (99, [], (.goto 8, 102, 107, [], .returned)),
  (102, [], (.aload 5, 104, 5, [], .returned)),
  (104, [269], (.getfield 168, 107, 3, [8, 0], .returned)),
  (107, [617, 620, 619, 20, 92], (.invokevirtual 96, 110, 0, [1, 9, 0, 0], .code yX9_granted cX9_granted 2 (some .int))),
  (110, [], (.ireturn, 111, 0, [], .returned))]
theorem ck_X9_ahead : okT q_X9_ahead t_X9_ahead = true := by decide +kernel
theorem e_X9_ahead_0 : lk t_X9_ahead 0 = some (.aload_n 0, 1, 0, [], .returned) := rfl
theorem e_X9_ahead_1 : lk t_X9_ahead 1 = some (.getfield 47, 4, 9, [5, 2], .returned) := rfl
theorem e_X9_ahead_4 : lk t_X9_ahead 4 = some (.iload_n 1, 5, 1, [], .returned) := rfl
theorem e_X9_ahead_5 : lk t_X9_ahead 5 = some (.invokevirtual 138, 8, 0, [1, 0, 0, 0], .code yX0_hasOrder cX0_hasOrder 2 (some .boolean)) := rfl
theorem e_X9_ahead_8 : lk t_X9_ahead 8 = some (.ifCond .eq 13, 11, 21, [], .returned) := rfl
theorem e_X9_ahead_11 : lk t_X9_ahead 11 = some (.iload 4, 13, 4, [], .returned) := rfl
theorem e_X9_ahead_13 : lk t_X9_ahead 13 = some (.iconst 0, 14, 0, [], .constant "" 0 (0)) := rfl
theorem e_X9_ahead_14 : lk t_X9_ahead 14 = some (.iconst 1, 15, 0, [], .constant "" 0 (1)) := rfl
theorem e_X9_ahead_15 : lk t_X9_ahead 15 = some (.invokestatic 71, 18, 0, [3, 0, 0], .code yX9_within cX9_within 3 (some .boolean)) := rfl
theorem e_X9_ahead_18 : lk t_X9_ahead 18 = some (.ifCond .ne 9, 21, 27, [], .returned) := rfl
theorem e_X9_ahead_21 : lk t_X9_ahead 21 = some (.aload_n 0, 22, 0, [], .returned) := rfl
theorem e_X9_ahead_22 : lk t_X9_ahead 22 = some (.iconst 1, 23, 0, [], .constant "" 0 (1)) := rfl
theorem e_X9_ahead_23 : lk t_X9_ahead 23 = some (.invokevirtual 75, 26, 0, [1, 9, 0, 0], .code yX9_refuse cX9_refuse 2 (some .int)) := rfl
theorem e_X9_ahead_26 : lk t_X9_ahead 26 = some (.ireturn, 27, 0, [], .returned) := rfl
theorem e_X9_ahead_27 : lk t_X9_ahead 27 = some (.iload_n 2, 28, 2, [], .returned) := rfl
theorem e_X9_ahead_28 : lk t_X9_ahead 28 = some (.invokestatic 210, 31, 0, [1, 0, 0], .code yX9_isNet cX9_isNet 1 (some .boolean)) := rfl
theorem e_X9_ahead_31 : lk t_X9_ahead 31 = some (.ifCond .eq 14, 34, 45, [], .returned) := rfl
theorem e_X9_ahead_34 : lk t_X9_ahead 34 = some (.iload_n 3, 35, 3, [], .returned) := rfl
theorem e_X9_ahead_35 : lk t_X9_ahead 35 = some (.iconst 1, 36, 0, [], .constant "" 0 (1)) := rfl
theorem e_X9_ahead_36 : lk t_X9_ahead 36 = some (.sipush 200, 39, 0, [], .constant "" 0 (200)) := rfl
theorem e_X9_ahead_39 : lk t_X9_ahead 39 = some (.invokestatic 71, 42, 0, [3, 0, 0], .code yX9_within cX9_within 3 (some .boolean)) := rfl
theorem e_X9_ahead_42 : lk t_X9_ahead 42 = some (.ifCond .ne 9, 45, 51, [], .returned) := rfl
theorem e_X9_ahead_45 : lk t_X9_ahead 45 = some (.aload_n 0, 46, 0, [], .returned) := rfl
theorem e_X9_ahead_46 : lk t_X9_ahead 46 = some (.iconst 2, 47, 0, [], .constant "" 0 (2)) := rfl
theorem e_X9_ahead_47 : lk t_X9_ahead 47 = some (.invokevirtual 75, 50, 0, [1, 9, 0, 0], .code yX9_refuse cX9_refuse 2 (some .int)) := rfl
theorem e_X9_ahead_50 : lk t_X9_ahead 50 = some (.ireturn, 51, 0, [], .returned) := rfl
theorem e_X9_ahead_51 : lk t_X9_ahead 51 = some (.aload_n 0, 52, 0, [], .returned) := rfl
theorem e_X9_ahead_52 : lk t_X9_ahead 52 = some (.getfield 33, 55, 9, [3, 2], .returned) := rfl
theorem e_X9_ahead_55 : lk t_X9_ahead 55 = some (.aload_n 0, 56, 0, [], .returned) := rfl
theorem e_X9_ahead_56 : lk t_X9_ahead 56 = some (.getfield 47, 59, 9, [5, 2], .returned) := rfl
theorem e_X9_ahead_59 : lk t_X9_ahead 59 = some (.iload_n 3, 60, 3, [], .returned) := rfl
theorem e_X9_ahead_60 : lk t_X9_ahead 60 = some (.iload_n 2, 61, 2, [], .returned) := rfl
theorem e_X9_ahead_61 : lk t_X9_ahead 61 = some (.invokevirtual 273, 64, 0, [3, 8, 0, 0], .code yX8_run cX8_run 5 none) := rfl
theorem e_X9_ahead_64 : lk t_X9_ahead 64 = some (.aload_n 0, 65, 0, [], .returned) := rfl
theorem e_X9_ahead_65 : lk t_X9_ahead 65 = some (.getfield 33, 68, 9, [3, 2], .returned) := rfl
theorem e_X9_ahead_68 : lk t_X9_ahead 68 = some (.getfield 272, 71, 8, [0, 2], .returned) := rfl
theorem e_X9_ahead_71 : lk t_X9_ahead 71 = some (.iload_n 1, 72, 1, [], .returned) := rfl
theorem e_X9_ahead_72 : lk t_X9_ahead 72 = some (.aaload, 73, 0, [], .returned) := rfl
theorem e_X9_ahead_73 : lk t_X9_ahead 73 = some (.astore 5, 75, 5, [], .returned) := rfl
theorem e_X9_ahead_75 : lk t_X9_ahead 75 = some (.aload_n 0, 76, 0, [], .returned) := rfl
theorem e_X9_ahead_76 : lk t_X9_ahead 76 = some (.iload 4, 78, 4, [], .returned) := rfl
theorem e_X9_ahead_78 : lk t_X9_ahead 78 = some (.ifCond .ne 24, 81, 102, [], .returned) := rfl
theorem e_X9_ahead_81 : lk t_X9_ahead 81 = some (.aload 5, 83, 5, [], .returned) := rfl
theorem e_X9_ahead_83 : lk t_X9_ahead 83 = some (.getfield 165, 86, 3, [7, 0], .returned) := rfl
theorem e_X9_ahead_86 : lk t_X9_ahead 86 = some (.aload_n 0, 87, 0, [], .returned) := rfl
theorem e_X9_ahead_87 : lk t_X9_ahead 87 = some (.getfield 47, 90, 9, [5, 2], .returned) := rfl
theorem e_X9_ahead_90 : lk t_X9_ahead 90 = some (.getfield 142, 93, 0, [2, 2], .returned) := rfl
theorem e_X9_ahead_93 : lk t_X9_ahead 93 = some (.iload_n 1, 94, 1, [], .returned) := rfl
theorem e_X9_ahead_94 : lk t_X9_ahead 94 = some (.aaload, 95, 0, [], .returned) := rfl
theorem e_X9_ahead_95 : lk t_X9_ahead 95 = some (.getfield 165, 98, 3, [7, 0], .returned) := rfl
theorem e_X9_ahead_98 : lk t_X9_ahead 98 = some (.isub, 99, 0, [], .returned) := rfl
theorem e_X9_ahead_99 : lk t_X9_ahead 99 = some (.goto 8, 102, 107, [], .returned) := rfl
theorem e_X9_ahead_102 : lk t_X9_ahead 102 = some (.aload 5, 104, 5, [], .returned) := rfl
theorem e_X9_ahead_104 : lk t_X9_ahead 104 = some (.getfield 168, 107, 3, [8, 0], .returned) := rfl
theorem e_X9_ahead_107 : lk t_X9_ahead 107 = some (.invokevirtual 96, 110, 0, [1, 9, 0, 0], .code yX9_granted cX9_granted 2 (some .int)) := rfl
theorem e_X9_ahead_110 : lk t_X9_ahead 110 = some (.ireturn, 111, 0, [], .returned) := rfl
abbrev q_X9_steady : MI := (yX9_steady, cX9_steady, 3, (some .int))
def t_X9_steady : Tab := [(0, [], (.aload_n 0, 1, 0, [], .returned)),
  (1, [445], (.getfield 47, 4, 9, [5, 2], .returned)),
  (4, [633, 636, 634, 635, 99], (.invokevirtual 99, 7, 0, [0, 0, 0, 0], .code yX0_isOpen cX0_isOpen 1 (some .boolean))),
  (7, [], (.ifCond .ne 9, 10, 16, [], .returned)),
  (10, [], (.aload_n 0, 11, 0, [], .returned)),
  (11, [], (.iconst 1, 12, 0, [], .constant "" 0 (1))),
  (12, [486, 489, 488, 0, 92], (.invokevirtual 75, 15, 0, [1, 9, 0, 0], .code yX9_refuse cX9_refuse 2 (some .int))),
  (15, [], (.ireturn, 16, 0, [], .returned)),
  (16, [], (.iload_n 1, 17, 1, [], .returned)),
  (17, [], (.iconst 1, 18, 0, [], .constant "" 0 (1))),
  (18, [], (.bipush 20, 20, 0, [], .constant "" 0 (20))),
  (20, [483, 485, 484, 92], (.invokestatic 71, 23, 0, [3, 0, 0], .code yX9_within cX9_within 3 (some .boolean))),
  (23, [], (.ifCond .ne 9, 26, 32, [], .returned)),
  (26, [], (.aload_n 0, 27, 0, [], .returned)),
  (27, [], (.iconst 2, 28, 0, [], .constant "" 0 (2))),
  (28, [486, 489, 488, 0, 92], (.invokevirtual 75, 31, 0, [1, 9, 0, 0], .code yX9_refuse cX9_refuse 2 (some .int))),
  (31, [], (.ireturn, 32, 0, [], .returned)),
  (32, [], (.iconst 0, 33, 0, [], .constant "" 0 (0))),
  (33, [], (.istore_n 2, 34, 2, [], .returned)),
  (34, [], (.iload_n 2, 35, 2, [], .returned)),
  (35, [], (.sipush 200, 38, 0, [], .constant "" 0 (200))),
  (38, [], (.if_icmp .ge 51, 41, 89, [], .returned)),
  (41, [], (.aload_n 0, 42, 0, [], .returned)),
  (42, [443], (.getfield 33, 45, 9, [3, 2], .returned)),
  (45, [], (.aload_n 0, 46, 0, [], .returned)),
  (46, [445], (.getfield 47, 49, 9, [5, 2], .returned)),
  (49, [], (.iload_n 1, 50, 1, [], .returned)),
  (50, [], (.iload_n 2, 51, 2, [], .returned)),
  (51, [], (.bipush 50, 53, 0, [], .constant "" 0 (50))),
  (53, [], (.imul, 54, 0, [], .returned)),
  (54, [890, 893, 891, 892, 96], (.invokevirtual 273, 57, 0, [3, 8, 0, 0], .code yX8_run cX8_run 5 none)),
  (57, [], (.aload_n 0, 58, 0, [], .returned)),
  (58, [443], (.getfield 33, 61, 9, [3, 2], .returned)),
  (61, [], (.aload_n 0, 62, 0, [], .returned)),
  (62, [445], (.getfield 47, 65, 9, [5, 2], .returned)),
  (65, [406], (.getfield 93, 68, 0, [5, 0], .returned)),
  (68, [900, 903, 901, 902, 96], (.invokevirtual 276, 71, 0, [1, 8, 0, 0], .code yX8_isLiveOneOwed cX8_isLiveOneOwed 3 (some .boolean))),
  (71, [], (.ifCond .ne 12, 74, 83, [], .returned)),
  (74, [], (.aload_n 0, 75, 0, [], .returned)),
  (75, [], (.iload_n 2, 76, 2, [], .returned)),
  (76, [], (.bipush 50, 78, 0, [], .constant "" 0 (50))),
  (78, [], (.imul, 79, 0, [], .returned)),
  (79, [617, 620, 619, 20, 92], (.invokevirtual 96, 82, 0, [1, 9, 0, 0], .code yX9_granted cX9_granted 2 (some .int))),
  (82, [], (.ireturn, 83, 0, [], .returned)),
  (83, [], (.iinc 2 1, 86, 2, [], .constant "" 0 (1))),
  (86, [], (.goto (-52), 89, 34, [], .returned)),
  (89, [], (.aload_n 0, 90, 0, [], .returned)),
  (90, [], (.bipush (-2), 92, 0, [], .constant "" 0 (-2))),
  (92, [617, 620, 619, 20, 92], (.invokevirtual 96, 95, 0, [1, 9, 0, 0], .code yX9_granted cX9_granted 2 (some .int))),
  (95, [], (.ireturn, 96, 0, [], .returned))]
theorem ck_X9_steady : okT q_X9_steady t_X9_steady = true := by decide +kernel
theorem e_X9_steady_0 : lk t_X9_steady 0 = some (.aload_n 0, 1, 0, [], .returned) := rfl
theorem e_X9_steady_1 : lk t_X9_steady 1 = some (.getfield 47, 4, 9, [5, 2], .returned) := rfl
theorem e_X9_steady_4 : lk t_X9_steady 4 = some (.invokevirtual 99, 7, 0, [0, 0, 0, 0], .code yX0_isOpen cX0_isOpen 1 (some .boolean)) := rfl
theorem e_X9_steady_7 : lk t_X9_steady 7 = some (.ifCond .ne 9, 10, 16, [], .returned) := rfl
theorem e_X9_steady_10 : lk t_X9_steady 10 = some (.aload_n 0, 11, 0, [], .returned) := rfl
theorem e_X9_steady_11 : lk t_X9_steady 11 = some (.iconst 1, 12, 0, [], .constant "" 0 (1)) := rfl
theorem e_X9_steady_12 : lk t_X9_steady 12 = some (.invokevirtual 75, 15, 0, [1, 9, 0, 0], .code yX9_refuse cX9_refuse 2 (some .int)) := rfl
theorem e_X9_steady_15 : lk t_X9_steady 15 = some (.ireturn, 16, 0, [], .returned) := rfl
theorem e_X9_steady_16 : lk t_X9_steady 16 = some (.iload_n 1, 17, 1, [], .returned) := rfl
theorem e_X9_steady_17 : lk t_X9_steady 17 = some (.iconst 1, 18, 0, [], .constant "" 0 (1)) := rfl
theorem e_X9_steady_18 : lk t_X9_steady 18 = some (.bipush 20, 20, 0, [], .constant "" 0 (20)) := rfl
theorem e_X9_steady_20 : lk t_X9_steady 20 = some (.invokestatic 71, 23, 0, [3, 0, 0], .code yX9_within cX9_within 3 (some .boolean)) := rfl
theorem e_X9_steady_23 : lk t_X9_steady 23 = some (.ifCond .ne 9, 26, 32, [], .returned) := rfl
theorem e_X9_steady_26 : lk t_X9_steady 26 = some (.aload_n 0, 27, 0, [], .returned) := rfl
theorem e_X9_steady_27 : lk t_X9_steady 27 = some (.iconst 2, 28, 0, [], .constant "" 0 (2)) := rfl
theorem e_X9_steady_28 : lk t_X9_steady 28 = some (.invokevirtual 75, 31, 0, [1, 9, 0, 0], .code yX9_refuse cX9_refuse 2 (some .int)) := rfl
theorem e_X9_steady_31 : lk t_X9_steady 31 = some (.ireturn, 32, 0, [], .returned) := rfl
theorem e_X9_steady_32 : lk t_X9_steady 32 = some (.iconst 0, 33, 0, [], .constant "" 0 (0)) := rfl
theorem e_X9_steady_33 : lk t_X9_steady 33 = some (.istore_n 2, 34, 2, [], .returned) := rfl
theorem e_X9_steady_34 : lk t_X9_steady 34 = some (.iload_n 2, 35, 2, [], .returned) := rfl
theorem e_X9_steady_35 : lk t_X9_steady 35 = some (.sipush 200, 38, 0, [], .constant "" 0 (200)) := rfl
theorem e_X9_steady_38 : lk t_X9_steady 38 = some (.if_icmp .ge 51, 41, 89, [], .returned) := rfl
theorem e_X9_steady_41 : lk t_X9_steady 41 = some (.aload_n 0, 42, 0, [], .returned) := rfl
theorem e_X9_steady_42 : lk t_X9_steady 42 = some (.getfield 33, 45, 9, [3, 2], .returned) := rfl
theorem e_X9_steady_45 : lk t_X9_steady 45 = some (.aload_n 0, 46, 0, [], .returned) := rfl
theorem e_X9_steady_46 : lk t_X9_steady 46 = some (.getfield 47, 49, 9, [5, 2], .returned) := rfl
theorem e_X9_steady_49 : lk t_X9_steady 49 = some (.iload_n 1, 50, 1, [], .returned) := rfl
theorem e_X9_steady_50 : lk t_X9_steady 50 = some (.iload_n 2, 51, 2, [], .returned) := rfl
theorem e_X9_steady_51 : lk t_X9_steady 51 = some (.bipush 50, 53, 0, [], .constant "" 0 (50)) := rfl
theorem e_X9_steady_53 : lk t_X9_steady 53 = some (.imul, 54, 0, [], .returned) := rfl
theorem e_X9_steady_54 : lk t_X9_steady 54 = some (.invokevirtual 273, 57, 0, [3, 8, 0, 0], .code yX8_run cX8_run 5 none) := rfl
theorem e_X9_steady_57 : lk t_X9_steady 57 = some (.aload_n 0, 58, 0, [], .returned) := rfl
theorem e_X9_steady_58 : lk t_X9_steady 58 = some (.getfield 33, 61, 9, [3, 2], .returned) := rfl
theorem e_X9_steady_61 : lk t_X9_steady 61 = some (.aload_n 0, 62, 0, [], .returned) := rfl
theorem e_X9_steady_62 : lk t_X9_steady 62 = some (.getfield 47, 65, 9, [5, 2], .returned) := rfl
theorem e_X9_steady_65 : lk t_X9_steady 65 = some (.getfield 93, 68, 0, [5, 0], .returned) := rfl
theorem e_X9_steady_68 : lk t_X9_steady 68 = some (.invokevirtual 276, 71, 0, [1, 8, 0, 0], .code yX8_isLiveOneOwed cX8_isLiveOneOwed 3 (some .boolean)) := rfl
theorem e_X9_steady_71 : lk t_X9_steady 71 = some (.ifCond .ne 12, 74, 83, [], .returned) := rfl
theorem e_X9_steady_74 : lk t_X9_steady 74 = some (.aload_n 0, 75, 0, [], .returned) := rfl
theorem e_X9_steady_75 : lk t_X9_steady 75 = some (.iload_n 2, 76, 2, [], .returned) := rfl
theorem e_X9_steady_76 : lk t_X9_steady 76 = some (.bipush 50, 78, 0, [], .constant "" 0 (50)) := rfl
theorem e_X9_steady_78 : lk t_X9_steady 78 = some (.imul, 79, 0, [], .returned) := rfl
theorem e_X9_steady_79 : lk t_X9_steady 79 = some (.invokevirtual 96, 82, 0, [1, 9, 0, 0], .code yX9_granted cX9_granted 2 (some .int)) := rfl
theorem e_X9_steady_82 : lk t_X9_steady 82 = some (.ireturn, 83, 0, [], .returned) := rfl
theorem e_X9_steady_83 : lk t_X9_steady 83 = some (.iinc 2 1, 86, 2, [], .constant "" 0 (1)) := rfl
theorem e_X9_steady_86 : lk t_X9_steady 86 = some (.goto (-52), 89, 34, [], .returned) := rfl
theorem e_X9_steady_89 : lk t_X9_steady 89 = some (.aload_n 0, 90, 0, [], .returned) := rfl
theorem e_X9_steady_90 : lk t_X9_steady 90 = some (.bipush (-2), 92, 0, [], .constant "" 0 (-2)) := rfl
theorem e_X9_steady_92 : lk t_X9_steady 92 = some (.invokevirtual 96, 95, 0, [1, 9, 0, 0], .code yX9_granted cX9_granted 2 (some .int)) := rfl
theorem e_X9_steady_95 : lk t_X9_steady 95 = some (.ireturn, 96, 0, [], .returned) := rfl
abbrev q_X9_weeks : MI := (yX9_weeks, cX9_weeks, 3, (some .int))
def t_X9_weeks : Tab := [(0, [], (.aload_n 0, 1, 0, [], .returned)),
  (1, [445], (.getfield 47, 4, 9, [5, 2], .returned)),
  (4, [633, 636, 634, 635, 99], (.invokevirtual 99, 7, 0, [0, 0, 0, 0], .code yX0_isOpen cX0_isOpen 1 (some .boolean))),
  (7, [], (.ifCond .ne 9, 10, 16, [], .returned)),
  (10, [], (.aload_n 0, 11, 0, [], .returned)),
  (11, [], (.iconst 1, 12, 0, [], .constant "" 0 (1))),
  (12, [486, 489, 488, 0, 92], (.invokevirtual 75, 15, 0, [1, 9, 0, 0], .code yX9_refuse cX9_refuse 2 (some .int))),
  (15, [], (.ireturn, 16, 0, [], .returned)),
  (16, [], (.iload_n 1, 17, 1, [], .returned)),
  (17, [], (.iconst 1, 18, 0, [], .constant "" 0 (1))),
  (18, [], (.bipush 60, 20, 0, [], .constant "" 0 (60))),
  (20, [483, 485, 484, 92], (.invokestatic 71, 23, 0, [3, 0, 0], .code yX9_within cX9_within 3 (some .boolean))),
  (23, [], (.ifCond .ne 9, 26, 32, [], .returned)),
  (26, [], (.aload_n 0, 27, 0, [], .returned)),
  (27, [], (.iconst 2, 28, 0, [], .constant "" 0 (2))),
  (28, [486, 489, 488, 0, 92], (.invokevirtual 75, 31, 0, [1, 9, 0, 0], .code yX9_refuse cX9_refuse 2 (some .int))),
  (31, [], (.ireturn, 32, 0, [], .returned)),
  (32, [], (.iconst 0, 33, 0, [], .constant "" 0 (0))),
  (33, [], (.istore_n 2, 34, 2, [], .returned)),
  (34, [], (.iload_n 2, 35, 2, [], .returned)),
  (35, [], (.iload_n 1, 36, 1, [], .returned)),
  (36, [], (.if_icmp .ge 16, 39, 52, [], .returned)),
  (39, [], (.aload_n 0, 40, 0, [], .returned)),
  (40, [445], (.getfield 47, 43, 9, [5, 2], .returned)),
  (43, [909, 912, 910, 911, 99], (.invokevirtual 279, 46, 0, [0, 0, 0, 0], .code yX0_passWeek cX0_passWeek 2 none)),
  (46, [], (.iinc 2 1, 49, 2, [], .constant "" 0 (1))),
  (49, [], (.goto (-15), 52, 34, [], .returned)),
  (52, [], (.aload_n 0, 53, 0, [], .returned)),
  (53, [], (.aload_n 0, 54, 0, [], .returned)),
  (54, [445], (.getfield 47, 57, 9, [5, 2], .returned)),
  (57, [649, 652, 650, 651, 99], (.invokevirtual 132, 60, 0, [0, 0, 0, 0], .code yX0_owedOfAll cX0_owedOfAll 3 (some .int))),
  (60, [617, 620, 619, 20, 92], (.invokevirtual 96, 63, 0, [1, 9, 0, 0], .code yX9_granted cX9_granted 2 (some .int))),
  (63, [], (.ireturn, 64, 0, [], .returned))]
theorem ck_X9_weeks : okT q_X9_weeks t_X9_weeks = true := by decide +kernel
theorem e_X9_weeks_0 : lk t_X9_weeks 0 = some (.aload_n 0, 1, 0, [], .returned) := rfl
theorem e_X9_weeks_1 : lk t_X9_weeks 1 = some (.getfield 47, 4, 9, [5, 2], .returned) := rfl
theorem e_X9_weeks_4 : lk t_X9_weeks 4 = some (.invokevirtual 99, 7, 0, [0, 0, 0, 0], .code yX0_isOpen cX0_isOpen 1 (some .boolean)) := rfl
theorem e_X9_weeks_7 : lk t_X9_weeks 7 = some (.ifCond .ne 9, 10, 16, [], .returned) := rfl
theorem e_X9_weeks_10 : lk t_X9_weeks 10 = some (.aload_n 0, 11, 0, [], .returned) := rfl
theorem e_X9_weeks_11 : lk t_X9_weeks 11 = some (.iconst 1, 12, 0, [], .constant "" 0 (1)) := rfl
theorem e_X9_weeks_12 : lk t_X9_weeks 12 = some (.invokevirtual 75, 15, 0, [1, 9, 0, 0], .code yX9_refuse cX9_refuse 2 (some .int)) := rfl
theorem e_X9_weeks_15 : lk t_X9_weeks 15 = some (.ireturn, 16, 0, [], .returned) := rfl
theorem e_X9_weeks_16 : lk t_X9_weeks 16 = some (.iload_n 1, 17, 1, [], .returned) := rfl
theorem e_X9_weeks_17 : lk t_X9_weeks 17 = some (.iconst 1, 18, 0, [], .constant "" 0 (1)) := rfl
theorem e_X9_weeks_18 : lk t_X9_weeks 18 = some (.bipush 60, 20, 0, [], .constant "" 0 (60)) := rfl
theorem e_X9_weeks_20 : lk t_X9_weeks 20 = some (.invokestatic 71, 23, 0, [3, 0, 0], .code yX9_within cX9_within 3 (some .boolean)) := rfl
theorem e_X9_weeks_23 : lk t_X9_weeks 23 = some (.ifCond .ne 9, 26, 32, [], .returned) := rfl
theorem e_X9_weeks_26 : lk t_X9_weeks 26 = some (.aload_n 0, 27, 0, [], .returned) := rfl
theorem e_X9_weeks_27 : lk t_X9_weeks 27 = some (.iconst 2, 28, 0, [], .constant "" 0 (2)) := rfl
theorem e_X9_weeks_28 : lk t_X9_weeks 28 = some (.invokevirtual 75, 31, 0, [1, 9, 0, 0], .code yX9_refuse cX9_refuse 2 (some .int)) := rfl
theorem e_X9_weeks_31 : lk t_X9_weeks 31 = some (.ireturn, 32, 0, [], .returned) := rfl
theorem e_X9_weeks_32 : lk t_X9_weeks 32 = some (.iconst 0, 33, 0, [], .constant "" 0 (0)) := rfl
theorem e_X9_weeks_33 : lk t_X9_weeks 33 = some (.istore_n 2, 34, 2, [], .returned) := rfl
theorem e_X9_weeks_34 : lk t_X9_weeks 34 = some (.iload_n 2, 35, 2, [], .returned) := rfl
theorem e_X9_weeks_35 : lk t_X9_weeks 35 = some (.iload_n 1, 36, 1, [], .returned) := rfl
theorem e_X9_weeks_36 : lk t_X9_weeks 36 = some (.if_icmp .ge 16, 39, 52, [], .returned) := rfl
theorem e_X9_weeks_39 : lk t_X9_weeks 39 = some (.aload_n 0, 40, 0, [], .returned) := rfl
theorem e_X9_weeks_40 : lk t_X9_weeks 40 = some (.getfield 47, 43, 9, [5, 2], .returned) := rfl
theorem e_X9_weeks_43 : lk t_X9_weeks 43 = some (.invokevirtual 279, 46, 0, [0, 0, 0, 0], .code yX0_passWeek cX0_passWeek 2 none) := rfl
theorem e_X9_weeks_46 : lk t_X9_weeks 46 = some (.iinc 2 1, 49, 2, [], .constant "" 0 (1)) := rfl
theorem e_X9_weeks_49 : lk t_X9_weeks 49 = some (.goto (-15), 52, 34, [], .returned) := rfl
theorem e_X9_weeks_52 : lk t_X9_weeks 52 = some (.aload_n 0, 53, 0, [], .returned) := rfl
theorem e_X9_weeks_53 : lk t_X9_weeks 53 = some (.aload_n 0, 54, 0, [], .returned) := rfl
theorem e_X9_weeks_54 : lk t_X9_weeks 54 = some (.getfield 47, 57, 9, [5, 2], .returned) := rfl
theorem e_X9_weeks_57 : lk t_X9_weeks 57 = some (.invokevirtual 132, 60, 0, [0, 0, 0, 0], .code yX0_owedOfAll cX0_owedOfAll 3 (some .int)) := rfl
theorem e_X9_weeks_60 : lk t_X9_weeks 60 = some (.invokevirtual 96, 63, 0, [1, 9, 0, 0], .code yX9_granted cX9_granted 2 (some .int)) := rfl
theorem e_X9_weeks_63 : lk t_X9_weeks 63 = some (.ireturn, 64, 0, [], .returned) := rfl
abbrev q_X9_pay : MI := (yX9_pay, cX9_pay, 3, (some .int))
def t_X9_pay : Tab := [(0, [], (.aload_n 0, 1, 0, [], .returned)),
  (1, [445], (.getfield 47, 4, 9, [5, 2], .returned)),
  (4, [], (.iload_n 1, 5, 1, [], .returned)),
  (5, [684, 687, 685, 686, 99], (.invokevirtual 183, 8, 0, [1, 0, 0, 0], .code yX0_hasPayer cX0_hasPayer 2 (some .boolean))),
  (8, [], (.ifCond .ne 9, 11, 17, [], .returned)),
  (11, [], (.aload_n 0, 12, 0, [], .returned)),
  (12, [], (.iconst 1, 13, 0, [], .constant "" 0 (1))),
  (13, [486, 489, 488, 0, 92], (.invokevirtual 75, 16, 0, [1, 9, 0, 0], .code yX9_refuse cX9_refuse 2 (some .int))),
  (16, [], (.ireturn, 17, 0, [], .returned)),
  (17, [], (.iload_n 2, 18, 2, [], .returned)),
  (18, [705, 707, 706, 92], (.invokestatic 210, 21, 0, [1, 0, 0], .code yX9_isNet cX9_isNet 1 (some .boolean))),
  (21, [], (.ifCond .ne 9, 24, 30, [], .returned)),
  (24, [], (.aload_n 0, 25, 0, [], .returned)),
  (25, [], (.iconst 2, 26, 0, [], .constant "" 0 (2))),
  (26, [486, 489, 488, 0, 92], (.invokevirtual 75, 29, 0, [1, 9, 0, 0], .code yX9_refuse cX9_refuse 2 (some .int))),
  (29, [], (.ireturn, 30, 0, [], .returned)),
  (30, [], (.aload_n 0, 31, 0, [], .returned)),
  (31, [442], (.getfield 26, 34, 9, [2, 2], .returned)),
  (34, [], (.aload_n 0, 35, 0, [], .returned)),
  (35, [445], (.getfield 47, 38, 9, [5, 2], .returned)),
  (38, [], (.aload_n 0, 39, 0, [], .returned)),
  (39, [445], (.getfield 47, 42, 9, [5, 2], .returned)),
  (42, [394], (.getfield 142, 45, 0, [2, 2], .returned)),
  (45, [], (.iload_n 1, 46, 1, [], .returned)),
  (46, [], (.iload_n 2, 47, 2, [], .returned)),
  (47, [769, 772, 770, 771, 95], (.invokevirtual 246, 50, 0, [4, 1, 0, 0], .code yX1_reckon cX1_reckon 7 none)),
  (50, [], (.aload_n 0, 51, 0, [], .returned)),
  (51, [442], (.getfield 26, 54, 9, [2, 2], .returned)),
  (54, [], (.aload_n 0, 55, 0, [], .returned)),
  (55, [445], (.getfield 47, 58, 9, [5, 2], .returned)),
  (58, [394], (.getfield 142, 61, 0, [2, 2], .returned)),
  (61, [], (.aload_n 0, 62, 0, [], .returned)),
  (62, [445], (.getfield 47, 65, 9, [5, 2], .returned)),
  (65, [406], (.getfield 93, 68, 0, [5, 0], .returned)),
  (68, [918, 880, 878, 879, 95], (.invokevirtual 281, 71, 0, [2, 1, 0, 0], .code yX1_settle cX1_settle 4 none)),
  (71, [], (.aload_n 0, 72, 0, [], .returned)),
  (72, [445], (.getfield 47, 75, 9, [5, 2], .returned)),
  (75, [391], (.getfield 186, 78, 0, [1, 2], .returned)),
  (78, [], (.iload_n 1, 79, 1, [], .returned)),
  (79, [], (.aaload, 80, 0, [], .returned)),
  (80, [], (.iload_n 2, 81, 2, [], .returned)),
  (81, [], (.iload_n 2, 82, 2, [], .returned)),
  (82, [], (.aload_n 0, 83, 0, [], .returned)),
  (83, [442], (.getfield 26, 86, 9, [2, 2], .returned)),
  (86, [196], (.getfield 258, 89, 1, [4, 0], .returned)),
  (89, [], (.isub, 90, 0, [], .returned)),
  (90, [919, 922, 920, 921, 101], (.invokevirtual 285, 93, 0, [2, 4, 0, 0], .code yX4_count cX4_count 3 none)),
  (93, [], (.aload_n 0, 94, 0, [], .returned)),
  (94, [444], (.getfield 40, 97, 9, [4, 2], .returned)),
  (97, [], (.iload_n 1, 98, 1, [], .returned)),
  (98, [], (.iload_n 2, 99, 2, [], .returned)),
  (99, [], (.aload_n 0, 100, 0, [], .returned)),
  (100, [445], (.getfield 47, 103, 9, [5, 2], .returned)),
  (103, [418], (.getfield 119, 106, 0, [9, 0], .returned)),
  (106, [], (.aload_n 0, 107, 0, [], .returned)),
  (107, [442], (.getfield 26, 110, 9, [2, 2], .returned)),
  (110, [923, 926, 924, 925, 98], (.invokevirtual 288, 113, 0, [4, 2, 0, 0], .code yX2_note cX2_note 7 none)),
  (113, [], (.aload_n 0, 114, 0, [], .returned)),
  (114, [], (.aload_n 0, 115, 0, [], .returned)),
  (115, [442], (.getfield 26, 118, 9, [2, 2], .returned)),
  (118, [196], (.getfield 258, 121, 1, [4, 0], .returned)),
  (121, [617, 620, 619, 20, 92], (.invokevirtual 96, 124, 0, [1, 9, 0, 0], .code yX9_granted cX9_granted 2 (some .int))),
  (124, [], (.ireturn, 125, 0, [], .returned))]
theorem ck_X9_pay : okT q_X9_pay t_X9_pay = true := by decide +kernel
theorem e_X9_pay_0 : lk t_X9_pay 0 = some (.aload_n 0, 1, 0, [], .returned) := rfl
theorem e_X9_pay_1 : lk t_X9_pay 1 = some (.getfield 47, 4, 9, [5, 2], .returned) := rfl
theorem e_X9_pay_4 : lk t_X9_pay 4 = some (.iload_n 1, 5, 1, [], .returned) := rfl
theorem e_X9_pay_5 : lk t_X9_pay 5 = some (.invokevirtual 183, 8, 0, [1, 0, 0, 0], .code yX0_hasPayer cX0_hasPayer 2 (some .boolean)) := rfl
theorem e_X9_pay_8 : lk t_X9_pay 8 = some (.ifCond .ne 9, 11, 17, [], .returned) := rfl
theorem e_X9_pay_11 : lk t_X9_pay 11 = some (.aload_n 0, 12, 0, [], .returned) := rfl
theorem e_X9_pay_12 : lk t_X9_pay 12 = some (.iconst 1, 13, 0, [], .constant "" 0 (1)) := rfl
theorem e_X9_pay_13 : lk t_X9_pay 13 = some (.invokevirtual 75, 16, 0, [1, 9, 0, 0], .code yX9_refuse cX9_refuse 2 (some .int)) := rfl
theorem e_X9_pay_16 : lk t_X9_pay 16 = some (.ireturn, 17, 0, [], .returned) := rfl
theorem e_X9_pay_17 : lk t_X9_pay 17 = some (.iload_n 2, 18, 2, [], .returned) := rfl
theorem e_X9_pay_18 : lk t_X9_pay 18 = some (.invokestatic 210, 21, 0, [1, 0, 0], .code yX9_isNet cX9_isNet 1 (some .boolean)) := rfl
theorem e_X9_pay_21 : lk t_X9_pay 21 = some (.ifCond .ne 9, 24, 30, [], .returned) := rfl
theorem e_X9_pay_24 : lk t_X9_pay 24 = some (.aload_n 0, 25, 0, [], .returned) := rfl
theorem e_X9_pay_25 : lk t_X9_pay 25 = some (.iconst 2, 26, 0, [], .constant "" 0 (2)) := rfl
theorem e_X9_pay_26 : lk t_X9_pay 26 = some (.invokevirtual 75, 29, 0, [1, 9, 0, 0], .code yX9_refuse cX9_refuse 2 (some .int)) := rfl
theorem e_X9_pay_29 : lk t_X9_pay 29 = some (.ireturn, 30, 0, [], .returned) := rfl
theorem e_X9_pay_30 : lk t_X9_pay 30 = some (.aload_n 0, 31, 0, [], .returned) := rfl
theorem e_X9_pay_31 : lk t_X9_pay 31 = some (.getfield 26, 34, 9, [2, 2], .returned) := rfl
theorem e_X9_pay_34 : lk t_X9_pay 34 = some (.aload_n 0, 35, 0, [], .returned) := rfl
theorem e_X9_pay_35 : lk t_X9_pay 35 = some (.getfield 47, 38, 9, [5, 2], .returned) := rfl
theorem e_X9_pay_38 : lk t_X9_pay 38 = some (.aload_n 0, 39, 0, [], .returned) := rfl
theorem e_X9_pay_39 : lk t_X9_pay 39 = some (.getfield 47, 42, 9, [5, 2], .returned) := rfl
theorem e_X9_pay_42 : lk t_X9_pay 42 = some (.getfield 142, 45, 0, [2, 2], .returned) := rfl
theorem e_X9_pay_45 : lk t_X9_pay 45 = some (.iload_n 1, 46, 1, [], .returned) := rfl
theorem e_X9_pay_46 : lk t_X9_pay 46 = some (.iload_n 2, 47, 2, [], .returned) := rfl
theorem e_X9_pay_47 : lk t_X9_pay 47 = some (.invokevirtual 246, 50, 0, [4, 1, 0, 0], .code yX1_reckon cX1_reckon 7 none) := rfl
theorem e_X9_pay_50 : lk t_X9_pay 50 = some (.aload_n 0, 51, 0, [], .returned) := rfl
theorem e_X9_pay_51 : lk t_X9_pay 51 = some (.getfield 26, 54, 9, [2, 2], .returned) := rfl
theorem e_X9_pay_54 : lk t_X9_pay 54 = some (.aload_n 0, 55, 0, [], .returned) := rfl
theorem e_X9_pay_55 : lk t_X9_pay 55 = some (.getfield 47, 58, 9, [5, 2], .returned) := rfl
theorem e_X9_pay_58 : lk t_X9_pay 58 = some (.getfield 142, 61, 0, [2, 2], .returned) := rfl
theorem e_X9_pay_61 : lk t_X9_pay 61 = some (.aload_n 0, 62, 0, [], .returned) := rfl
theorem e_X9_pay_62 : lk t_X9_pay 62 = some (.getfield 47, 65, 9, [5, 2], .returned) := rfl
theorem e_X9_pay_65 : lk t_X9_pay 65 = some (.getfield 93, 68, 0, [5, 0], .returned) := rfl
theorem e_X9_pay_68 : lk t_X9_pay 68 = some (.invokevirtual 281, 71, 0, [2, 1, 0, 0], .code yX1_settle cX1_settle 4 none) := rfl
theorem e_X9_pay_71 : lk t_X9_pay 71 = some (.aload_n 0, 72, 0, [], .returned) := rfl
theorem e_X9_pay_72 : lk t_X9_pay 72 = some (.getfield 47, 75, 9, [5, 2], .returned) := rfl
theorem e_X9_pay_75 : lk t_X9_pay 75 = some (.getfield 186, 78, 0, [1, 2], .returned) := rfl
theorem e_X9_pay_78 : lk t_X9_pay 78 = some (.iload_n 1, 79, 1, [], .returned) := rfl
theorem e_X9_pay_79 : lk t_X9_pay 79 = some (.aaload, 80, 0, [], .returned) := rfl
theorem e_X9_pay_80 : lk t_X9_pay 80 = some (.iload_n 2, 81, 2, [], .returned) := rfl
theorem e_X9_pay_81 : lk t_X9_pay 81 = some (.iload_n 2, 82, 2, [], .returned) := rfl
theorem e_X9_pay_82 : lk t_X9_pay 82 = some (.aload_n 0, 83, 0, [], .returned) := rfl
theorem e_X9_pay_83 : lk t_X9_pay 83 = some (.getfield 26, 86, 9, [2, 2], .returned) := rfl
theorem e_X9_pay_86 : lk t_X9_pay 86 = some (.getfield 258, 89, 1, [4, 0], .returned) := rfl
theorem e_X9_pay_89 : lk t_X9_pay 89 = some (.isub, 90, 0, [], .returned) := rfl
theorem e_X9_pay_90 : lk t_X9_pay 90 = some (.invokevirtual 285, 93, 0, [2, 4, 0, 0], .code yX4_count cX4_count 3 none) := rfl
theorem e_X9_pay_93 : lk t_X9_pay 93 = some (.aload_n 0, 94, 0, [], .returned) := rfl
theorem e_X9_pay_94 : lk t_X9_pay 94 = some (.getfield 40, 97, 9, [4, 2], .returned) := rfl
theorem e_X9_pay_97 : lk t_X9_pay 97 = some (.iload_n 1, 98, 1, [], .returned) := rfl
theorem e_X9_pay_98 : lk t_X9_pay 98 = some (.iload_n 2, 99, 2, [], .returned) := rfl
theorem e_X9_pay_99 : lk t_X9_pay 99 = some (.aload_n 0, 100, 0, [], .returned) := rfl
theorem e_X9_pay_100 : lk t_X9_pay 100 = some (.getfield 47, 103, 9, [5, 2], .returned) := rfl
theorem e_X9_pay_103 : lk t_X9_pay 103 = some (.getfield 119, 106, 0, [9, 0], .returned) := rfl
theorem e_X9_pay_106 : lk t_X9_pay 106 = some (.aload_n 0, 107, 0, [], .returned) := rfl
theorem e_X9_pay_107 : lk t_X9_pay 107 = some (.getfield 26, 110, 9, [2, 2], .returned) := rfl
theorem e_X9_pay_110 : lk t_X9_pay 110 = some (.invokevirtual 288, 113, 0, [4, 2, 0, 0], .code yX2_note cX2_note 7 none) := rfl
theorem e_X9_pay_113 : lk t_X9_pay 113 = some (.aload_n 0, 114, 0, [], .returned) := rfl
theorem e_X9_pay_114 : lk t_X9_pay 114 = some (.aload_n 0, 115, 0, [], .returned) := rfl
theorem e_X9_pay_115 : lk t_X9_pay 115 = some (.getfield 26, 118, 9, [2, 2], .returned) := rfl
theorem e_X9_pay_118 : lk t_X9_pay 118 = some (.getfield 258, 121, 1, [4, 0], .returned) := rfl
theorem e_X9_pay_121 : lk t_X9_pay 121 = some (.invokevirtual 96, 124, 0, [1, 9, 0, 0], .code yX9_granted cX9_granted 2 (some .int)) := rfl
theorem e_X9_pay_124 : lk t_X9_pay 124 = some (.ireturn, 125, 0, [], .returned) := rfl
abbrev q_X9_stop : MI := (yX9_stop, cX9_stop, 4, (some .int))
def t_X9_stop : Tab := [(0, [], (.aload_n 0, 1, 0, [], .returned)),
  (1, [445], (.getfield 47, 4, 9, [5, 2], .returned)),
  (4, [], (.iload_n 1, 5, 1, [], .returned)),
  (5, [670, 673, 671, 672, 99], (.invokevirtual 138, 8, 0, [1, 0, 0, 0], .code yX0_hasOrder cX0_hasOrder 2 (some .boolean))),
  (8, [], (.ifCond .ne 9, 11, 17, [], .returned)),
  (11, [], (.aload_n 0, 12, 0, [], .returned)),
  (12, [], (.iconst 1, 13, 0, [], .constant "" 0 (1))),
  (13, [486, 489, 488, 0, 92], (.invokevirtual 75, 16, 0, [1, 9, 0, 0], .code yX9_refuse cX9_refuse 2 (some .int))),
  (16, [], (.ireturn, 17, 0, [], .returned)),
  (17, [], (.aload_n 0, 18, 0, [], .returned)),
  (18, [445], (.getfield 47, 21, 9, [5, 2], .returned)),
  (21, [394], (.getfield 142, 24, 0, [2, 2], .returned)),
  (24, [], (.iload_n 1, 25, 1, [], .returned)),
  (25, [], (.aaload, 26, 0, [], .returned)),
  (26, [], (.astore_n 3, 27, 3, [], .returned)),
  (27, [], (.aload_n 3, 28, 3, [], .returned)),
  (28, [263], (.getfield 177, 31, 3, [6, 0], .returned)),
  (31, [], (.iload_n 2, 32, 2, [], .returned)),
  (32, [], (.if_icmp .ne 9, 35, 41, [], .returned)),
  (35, [], (.aload_n 0, 36, 0, [], .returned)),
  (36, [], (.iconst 5, 37, 0, [], .constant "" 0 (5))),
  (37, [486, 489, 488, 0, 92], (.invokevirtual 75, 40, 0, [1, 9, 0, 0], .code yX9_refuse cX9_refuse 2 (some .int))),
  (40, [], (.ireturn, 41, 0, [], .returned)),
  (41, [], (.aload_n 3, 42, 3, [], .returned)),
  (42, [], (.iload_n 2, 43, 2, [], .returned)),
  (43, [263], (.putfield 177, 46, 3, [6, 3], .returned)),
  (46, [], (.aload_n 0, 47, 0, [], .returned)),
  (47, [], (.aload_n 3, 48, 3, [], .returned)),
  (48, [269], (.getfield 168, 51, 3, [8, 0], .returned)),
  (51, [617, 620, 619, 20, 92], (.invokevirtual 96, 54, 0, [1, 9, 0, 0], .code yX9_granted cX9_granted 2 (some .int))),
  (54, [], (.ireturn, 55, 0, [], .returned))]
theorem ck_X9_stop : okT q_X9_stop t_X9_stop = true := by decide +kernel
theorem e_X9_stop_0 : lk t_X9_stop 0 = some (.aload_n 0, 1, 0, [], .returned) := rfl
theorem e_X9_stop_1 : lk t_X9_stop 1 = some (.getfield 47, 4, 9, [5, 2], .returned) := rfl
theorem e_X9_stop_4 : lk t_X9_stop 4 = some (.iload_n 1, 5, 1, [], .returned) := rfl
theorem e_X9_stop_5 : lk t_X9_stop 5 = some (.invokevirtual 138, 8, 0, [1, 0, 0, 0], .code yX0_hasOrder cX0_hasOrder 2 (some .boolean)) := rfl
theorem e_X9_stop_8 : lk t_X9_stop 8 = some (.ifCond .ne 9, 11, 17, [], .returned) := rfl
theorem e_X9_stop_11 : lk t_X9_stop 11 = some (.aload_n 0, 12, 0, [], .returned) := rfl
theorem e_X9_stop_12 : lk t_X9_stop 12 = some (.iconst 1, 13, 0, [], .constant "" 0 (1)) := rfl
theorem e_X9_stop_13 : lk t_X9_stop 13 = some (.invokevirtual 75, 16, 0, [1, 9, 0, 0], .code yX9_refuse cX9_refuse 2 (some .int)) := rfl
theorem e_X9_stop_16 : lk t_X9_stop 16 = some (.ireturn, 17, 0, [], .returned) := rfl
theorem e_X9_stop_17 : lk t_X9_stop 17 = some (.aload_n 0, 18, 0, [], .returned) := rfl
theorem e_X9_stop_18 : lk t_X9_stop 18 = some (.getfield 47, 21, 9, [5, 2], .returned) := rfl
theorem e_X9_stop_21 : lk t_X9_stop 21 = some (.getfield 142, 24, 0, [2, 2], .returned) := rfl
theorem e_X9_stop_24 : lk t_X9_stop 24 = some (.iload_n 1, 25, 1, [], .returned) := rfl
theorem e_X9_stop_25 : lk t_X9_stop 25 = some (.aaload, 26, 0, [], .returned) := rfl
theorem e_X9_stop_26 : lk t_X9_stop 26 = some (.astore_n 3, 27, 3, [], .returned) := rfl
theorem e_X9_stop_27 : lk t_X9_stop 27 = some (.aload_n 3, 28, 3, [], .returned) := rfl
theorem e_X9_stop_28 : lk t_X9_stop 28 = some (.getfield 177, 31, 3, [6, 0], .returned) := rfl
theorem e_X9_stop_31 : lk t_X9_stop 31 = some (.iload_n 2, 32, 2, [], .returned) := rfl
theorem e_X9_stop_32 : lk t_X9_stop 32 = some (.if_icmp .ne 9, 35, 41, [], .returned) := rfl
theorem e_X9_stop_35 : lk t_X9_stop 35 = some (.aload_n 0, 36, 0, [], .returned) := rfl
theorem e_X9_stop_36 : lk t_X9_stop 36 = some (.iconst 5, 37, 0, [], .constant "" 0 (5)) := rfl
theorem e_X9_stop_37 : lk t_X9_stop 37 = some (.invokevirtual 75, 40, 0, [1, 9, 0, 0], .code yX9_refuse cX9_refuse 2 (some .int)) := rfl
theorem e_X9_stop_40 : lk t_X9_stop 40 = some (.ireturn, 41, 0, [], .returned) := rfl
theorem e_X9_stop_41 : lk t_X9_stop 41 = some (.aload_n 3, 42, 3, [], .returned) := rfl
theorem e_X9_stop_42 : lk t_X9_stop 42 = some (.iload_n 2, 43, 2, [], .returned) := rfl
theorem e_X9_stop_43 : lk t_X9_stop 43 = some (.putfield 177, 46, 3, [6, 3], .returned) := rfl
theorem e_X9_stop_46 : lk t_X9_stop 46 = some (.aload_n 0, 47, 0, [], .returned) := rfl
theorem e_X9_stop_47 : lk t_X9_stop 47 = some (.aload_n 3, 48, 3, [], .returned) := rfl
theorem e_X9_stop_48 : lk t_X9_stop 48 = some (.getfield 168, 51, 3, [8, 0], .returned) := rfl
theorem e_X9_stop_51 : lk t_X9_stop 51 = some (.invokevirtual 96, 54, 0, [1, 9, 0, 0], .code yX9_granted cX9_granted 2 (some .int)) := rfl
theorem e_X9_stop_54 : lk t_X9_stop 54 = some (.ireturn, 55, 0, [], .returned) := rfl
abbrev q_X9_rank : MI := (yX9_rank, cX9_rank, 5, (some .int))
def t_X9_rank : Tab := [(0, [], (.aload_n 0, 1, 0, [], .returned)),
  (1, [445], (.getfield 47, 4, 9, [5, 2], .returned)),
  (4, [], (.iload_n 1, 5, 1, [], .returned)),
  (5, [670, 673, 671, 672, 99], (.invokevirtual 138, 8, 0, [1, 0, 0, 0], .code yX0_hasOrder cX0_hasOrder 2 (some .boolean))),
  (8, [], (.ifCond .ne 9, 11, 17, [], .returned)),
  (11, [], (.aload_n 0, 12, 0, [], .returned)),
  (12, [], (.iconst 1, 13, 0, [], .constant "" 0 (1))),
  (13, [486, 489, 488, 0, 92], (.invokevirtual 75, 16, 0, [1, 9, 0, 0], .code yX9_refuse cX9_refuse 2 (some .int))),
  (16, [], (.ireturn, 17, 0, [], .returned)),
  (17, [], (.iload_n 2, 18, 2, [], .returned)),
  (18, [], (.iconst 1, 19, 0, [], .constant "" 0 (1))),
  (19, [], (.bipush 9, 21, 0, [], .constant "" 0 (9))),
  (21, [483, 485, 484, 92], (.invokestatic 71, 24, 0, [3, 0, 0], .code yX9_within cX9_within 3 (some .boolean))),
  (24, [], (.ifCond .ne 9, 27, 33, [], .returned)),
  (27, [], (.aload_n 0, 28, 0, [], .returned)),
  (28, [], (.iconst 2, 29, 0, [], .constant "" 0 (2))),
  (29, [486, 489, 488, 0, 92], (.invokevirtual 75, 32, 0, [1, 9, 0, 0], .code yX9_refuse cX9_refuse 2 (some .int))),
  (32, [], (.ireturn, 33, 0, [], .returned)),
  (33, [], (.aload_n 0, 34, 0, [], .returned)),
  (34, [445], (.getfield 47, 37, 9, [5, 2], .returned)),
  (37, [394], (.getfield 142, 40, 0, [2, 2], .returned)),
  (40, [], (.iload_n 1, 41, 1, [], .returned)),
  (41, [], (.aaload, 42, 0, [], .returned)),
  (42, [], (.astore_n 3, 43, 3, [], .returned)),
  (43, [], (.aload_n 3, 44, 3, [], .returned)),
  (44, [241], (.getfield 146, 47, 3, [0, 0], .returned)),
  (47, [], (.istore 4, 49, 4, [], .returned)),
  (49, [], (.aload_n 3, 50, 3, [], .returned)),
  (50, [], (.iload_n 2, 51, 2, [], .returned)),
  (51, [241], (.putfield 146, 54, 3, [0, 0], .returned)),
  (54, [], (.aload_n 0, 55, 0, [], .returned)),
  (55, [], (.iload 4, 57, 4, [], .returned)),
  (57, [617, 620, 619, 20, 92], (.invokevirtual 96, 60, 0, [1, 9, 0, 0], .code yX9_granted cX9_granted 2 (some .int))),
  (60, [], (.ireturn, 61, 0, [], .returned))]
theorem ck_X9_rank : okT q_X9_rank t_X9_rank = true := by decide +kernel
theorem e_X9_rank_0 : lk t_X9_rank 0 = some (.aload_n 0, 1, 0, [], .returned) := rfl
theorem e_X9_rank_1 : lk t_X9_rank 1 = some (.getfield 47, 4, 9, [5, 2], .returned) := rfl
theorem e_X9_rank_4 : lk t_X9_rank 4 = some (.iload_n 1, 5, 1, [], .returned) := rfl
theorem e_X9_rank_5 : lk t_X9_rank 5 = some (.invokevirtual 138, 8, 0, [1, 0, 0, 0], .code yX0_hasOrder cX0_hasOrder 2 (some .boolean)) := rfl
theorem e_X9_rank_8 : lk t_X9_rank 8 = some (.ifCond .ne 9, 11, 17, [], .returned) := rfl
theorem e_X9_rank_11 : lk t_X9_rank 11 = some (.aload_n 0, 12, 0, [], .returned) := rfl
theorem e_X9_rank_12 : lk t_X9_rank 12 = some (.iconst 1, 13, 0, [], .constant "" 0 (1)) := rfl
theorem e_X9_rank_13 : lk t_X9_rank 13 = some (.invokevirtual 75, 16, 0, [1, 9, 0, 0], .code yX9_refuse cX9_refuse 2 (some .int)) := rfl
theorem e_X9_rank_16 : lk t_X9_rank 16 = some (.ireturn, 17, 0, [], .returned) := rfl
theorem e_X9_rank_17 : lk t_X9_rank 17 = some (.iload_n 2, 18, 2, [], .returned) := rfl
theorem e_X9_rank_18 : lk t_X9_rank 18 = some (.iconst 1, 19, 0, [], .constant "" 0 (1)) := rfl
theorem e_X9_rank_19 : lk t_X9_rank 19 = some (.bipush 9, 21, 0, [], .constant "" 0 (9)) := rfl
theorem e_X9_rank_21 : lk t_X9_rank 21 = some (.invokestatic 71, 24, 0, [3, 0, 0], .code yX9_within cX9_within 3 (some .boolean)) := rfl
theorem e_X9_rank_24 : lk t_X9_rank 24 = some (.ifCond .ne 9, 27, 33, [], .returned) := rfl
theorem e_X9_rank_27 : lk t_X9_rank 27 = some (.aload_n 0, 28, 0, [], .returned) := rfl
theorem e_X9_rank_28 : lk t_X9_rank 28 = some (.iconst 2, 29, 0, [], .constant "" 0 (2)) := rfl
theorem e_X9_rank_29 : lk t_X9_rank 29 = some (.invokevirtual 75, 32, 0, [1, 9, 0, 0], .code yX9_refuse cX9_refuse 2 (some .int)) := rfl
theorem e_X9_rank_32 : lk t_X9_rank 32 = some (.ireturn, 33, 0, [], .returned) := rfl
theorem e_X9_rank_33 : lk t_X9_rank 33 = some (.aload_n 0, 34, 0, [], .returned) := rfl
theorem e_X9_rank_34 : lk t_X9_rank 34 = some (.getfield 47, 37, 9, [5, 2], .returned) := rfl
theorem e_X9_rank_37 : lk t_X9_rank 37 = some (.getfield 142, 40, 0, [2, 2], .returned) := rfl
theorem e_X9_rank_40 : lk t_X9_rank 40 = some (.iload_n 1, 41, 1, [], .returned) := rfl
theorem e_X9_rank_41 : lk t_X9_rank 41 = some (.aaload, 42, 0, [], .returned) := rfl
theorem e_X9_rank_42 : lk t_X9_rank 42 = some (.astore_n 3, 43, 3, [], .returned) := rfl
theorem e_X9_rank_43 : lk t_X9_rank 43 = some (.aload_n 3, 44, 3, [], .returned) := rfl
theorem e_X9_rank_44 : lk t_X9_rank 44 = some (.getfield 146, 47, 3, [0, 0], .returned) := rfl
theorem e_X9_rank_47 : lk t_X9_rank 47 = some (.istore 4, 49, 4, [], .returned) := rfl
theorem e_X9_rank_49 : lk t_X9_rank 49 = some (.aload_n 3, 50, 3, [], .returned) := rfl
theorem e_X9_rank_50 : lk t_X9_rank 50 = some (.iload_n 2, 51, 2, [], .returned) := rfl
theorem e_X9_rank_51 : lk t_X9_rank 51 = some (.putfield 146, 54, 3, [0, 0], .returned) := rfl
theorem e_X9_rank_54 : lk t_X9_rank 54 = some (.aload_n 0, 55, 0, [], .returned) := rfl
theorem e_X9_rank_55 : lk t_X9_rank 55 = some (.iload 4, 57, 4, [], .returned) := rfl
theorem e_X9_rank_57 : lk t_X9_rank 57 = some (.invokevirtual 96, 60, 0, [1, 9, 0, 0], .code yX9_granted cX9_granted 2 (some .int)) := rfl
theorem e_X9_rank_60 : lk t_X9_rank 60 = some (.ireturn, 61, 0, [], .returned) := rfl
abbrev q_X9_raise : MI := (yX9_raise, cX9_raise, 5, (some .int))
def t_X9_raise : Tab := [(0, [], (.aload_n 0, 1, 0, [], .returned)),
  (1, [445], (.getfield 47, 4, 9, [5, 2], .returned)),
  (4, [], (.iload_n 1, 5, 1, [], .returned)),
  (5, [670, 673, 671, 672, 99], (.invokevirtual 138, 8, 0, [1, 0, 0, 0], .code yX0_hasOrder cX0_hasOrder 2 (some .boolean))),
  (8, [], (.ifCond .ne 9, 11, 17, [], .returned)),
  (11, [], (.aload_n 0, 12, 0, [], .returned)),
  (12, [], (.iconst 1, 13, 0, [], .constant "" 0 (1))),
  (13, [486, 489, 488, 0, 92], (.invokevirtual 75, 16, 0, [1, 9, 0, 0], .code yX9_refuse cX9_refuse 2 (some .int))),
  (16, [], (.ireturn, 17, 0, [], .returned)),
  (17, [], (.aload_n 0, 18, 0, [], .returned)),
  (18, [445], (.getfield 47, 21, 9, [5, 2], .returned)),
  (21, [394], (.getfield 142, 24, 0, [2, 2], .returned)),
  (24, [], (.iload_n 1, 25, 1, [], .returned)),
  (25, [], (.aaload, 26, 0, [], .returned)),
  (26, [], (.astore_n 3, 27, 3, [], .returned)),
  (27, [], (.aload_n 3, 28, 3, [], .returned)),
  (28, [252], (.getfield 155, 31, 3, [3, 0], .returned)),
  (31, [], (.iconst 1, 32, 0, [], .constant "" 0 (1))),
  (32, [], (.if_icmp .ne 9, 35, 41, [], .returned)),
  (35, [], (.aload_n 0, 36, 0, [], .returned)),
  (36, [], (.iconst 5, 37, 0, [], .constant "" 0 (5))),
  (37, [486, 489, 488, 0, 92], (.invokevirtual 75, 40, 0, [1, 9, 0, 0], .code yX9_refuse cX9_refuse 2 (some .int))),
  (40, [], (.ireturn, 41, 0, [], .returned)),
  (41, [], (.iload_n 2, 42, 2, [], .returned)),
  (42, [], (.iconst 1, 43, 0, [], .constant "" 0 (1))),
  (43, [], (.aload_n 3, 44, 3, [], .returned)),
  (44, [252], (.getfield 155, 47, 3, [3, 0], .returned)),
  (47, [], (.ifCond .ne 9, 50, 56, [], .returned)),
  (50, [], (.sipush 999, 53, 0, [], .constant "" 0 (999))),
  (53, [], (.goto 5, 56, 58, [], .returned)),
  (56, [], (.bipush 99, 58, 0, [], .constant "" 0 (99))),
  (58, [483, 485, 484, 92], (.invokestatic 71, 61, 0, [3, 0, 0], .code yX9_within cX9_within 3 (some .boolean))),
  (61, [], (.ifCond .ne 9, 64, 70, [], .returned)),
  (64, [], (.aload_n 0, 65, 0, [], .returned)),
  (65, [], (.iconst 2, 66, 0, [], .constant "" 0 (2))),
  (66, [486, 489, 488, 0, 92], (.invokevirtual 75, 69, 0, [1, 9, 0, 0], .code yX9_refuse cX9_refuse 2 (some .int))),
  (69, [], (.ireturn, 70, 0, [], .returned)),
  (70, [], (.aload_n 3, 71, 3, [], .returned)),
  (71, [256], (.getfield 158, 74, 3, [4, 0], .returned)),
  (74, [], (.istore 4, 76, 4, [], .returned)),
  (76, [], (.aload_n 3, 77, 3, [], .returned)),
  (77, [], (.iload_n 2, 78, 2, [], .returned)),
  (78, [256], (.putfield 158, 81, 3, [4, 0], .returned)),
  (81, [], (.aload_n 0, 82, 0, [], .returned)),
  (82, [], (.iload 4, 84, 4, [], .returned)),
  (84, [617, 620, 619, 20, 92], (.invokevirtual 96, 87, 0, [1, 9, 0, 0], .code yX9_granted cX9_granted 2 (some .int))),
  (87, [], (.ireturn, 88, 0, [], .returned))]
theorem ck_X9_raise : okT q_X9_raise t_X9_raise = true := by decide +kernel
theorem e_X9_raise_0 : lk t_X9_raise 0 = some (.aload_n 0, 1, 0, [], .returned) := rfl
theorem e_X9_raise_1 : lk t_X9_raise 1 = some (.getfield 47, 4, 9, [5, 2], .returned) := rfl
theorem e_X9_raise_4 : lk t_X9_raise 4 = some (.iload_n 1, 5, 1, [], .returned) := rfl
theorem e_X9_raise_5 : lk t_X9_raise 5 = some (.invokevirtual 138, 8, 0, [1, 0, 0, 0], .code yX0_hasOrder cX0_hasOrder 2 (some .boolean)) := rfl
theorem e_X9_raise_8 : lk t_X9_raise 8 = some (.ifCond .ne 9, 11, 17, [], .returned) := rfl
theorem e_X9_raise_11 : lk t_X9_raise 11 = some (.aload_n 0, 12, 0, [], .returned) := rfl
theorem e_X9_raise_12 : lk t_X9_raise 12 = some (.iconst 1, 13, 0, [], .constant "" 0 (1)) := rfl
theorem e_X9_raise_13 : lk t_X9_raise 13 = some (.invokevirtual 75, 16, 0, [1, 9, 0, 0], .code yX9_refuse cX9_refuse 2 (some .int)) := rfl
theorem e_X9_raise_16 : lk t_X9_raise 16 = some (.ireturn, 17, 0, [], .returned) := rfl
theorem e_X9_raise_17 : lk t_X9_raise 17 = some (.aload_n 0, 18, 0, [], .returned) := rfl
theorem e_X9_raise_18 : lk t_X9_raise 18 = some (.getfield 47, 21, 9, [5, 2], .returned) := rfl
theorem e_X9_raise_21 : lk t_X9_raise 21 = some (.getfield 142, 24, 0, [2, 2], .returned) := rfl
theorem e_X9_raise_24 : lk t_X9_raise 24 = some (.iload_n 1, 25, 1, [], .returned) := rfl
theorem e_X9_raise_25 : lk t_X9_raise 25 = some (.aaload, 26, 0, [], .returned) := rfl
theorem e_X9_raise_26 : lk t_X9_raise 26 = some (.astore_n 3, 27, 3, [], .returned) := rfl
theorem e_X9_raise_27 : lk t_X9_raise 27 = some (.aload_n 3, 28, 3, [], .returned) := rfl
theorem e_X9_raise_28 : lk t_X9_raise 28 = some (.getfield 155, 31, 3, [3, 0], .returned) := rfl
theorem e_X9_raise_31 : lk t_X9_raise 31 = some (.iconst 1, 32, 0, [], .constant "" 0 (1)) := rfl
theorem e_X9_raise_32 : lk t_X9_raise 32 = some (.if_icmp .ne 9, 35, 41, [], .returned) := rfl
theorem e_X9_raise_35 : lk t_X9_raise 35 = some (.aload_n 0, 36, 0, [], .returned) := rfl
theorem e_X9_raise_36 : lk t_X9_raise 36 = some (.iconst 5, 37, 0, [], .constant "" 0 (5)) := rfl
theorem e_X9_raise_37 : lk t_X9_raise 37 = some (.invokevirtual 75, 40, 0, [1, 9, 0, 0], .code yX9_refuse cX9_refuse 2 (some .int)) := rfl
theorem e_X9_raise_40 : lk t_X9_raise 40 = some (.ireturn, 41, 0, [], .returned) := rfl
theorem e_X9_raise_41 : lk t_X9_raise 41 = some (.iload_n 2, 42, 2, [], .returned) := rfl
theorem e_X9_raise_42 : lk t_X9_raise 42 = some (.iconst 1, 43, 0, [], .constant "" 0 (1)) := rfl
theorem e_X9_raise_43 : lk t_X9_raise 43 = some (.aload_n 3, 44, 3, [], .returned) := rfl
theorem e_X9_raise_44 : lk t_X9_raise 44 = some (.getfield 155, 47, 3, [3, 0], .returned) := rfl
theorem e_X9_raise_47 : lk t_X9_raise 47 = some (.ifCond .ne 9, 50, 56, [], .returned) := rfl
theorem e_X9_raise_50 : lk t_X9_raise 50 = some (.sipush 999, 53, 0, [], .constant "" 0 (999)) := rfl
theorem e_X9_raise_53 : lk t_X9_raise 53 = some (.goto 5, 56, 58, [], .returned) := rfl
theorem e_X9_raise_56 : lk t_X9_raise 56 = some (.bipush 99, 58, 0, [], .constant "" 0 (99)) := rfl
theorem e_X9_raise_58 : lk t_X9_raise 58 = some (.invokestatic 71, 61, 0, [3, 0, 0], .code yX9_within cX9_within 3 (some .boolean)) := rfl
theorem e_X9_raise_61 : lk t_X9_raise 61 = some (.ifCond .ne 9, 64, 70, [], .returned) := rfl
theorem e_X9_raise_64 : lk t_X9_raise 64 = some (.aload_n 0, 65, 0, [], .returned) := rfl
theorem e_X9_raise_65 : lk t_X9_raise 65 = some (.iconst 2, 66, 0, [], .constant "" 0 (2)) := rfl
theorem e_X9_raise_66 : lk t_X9_raise 66 = some (.invokevirtual 75, 69, 0, [1, 9, 0, 0], .code yX9_refuse cX9_refuse 2 (some .int)) := rfl
theorem e_X9_raise_69 : lk t_X9_raise 69 = some (.ireturn, 70, 0, [], .returned) := rfl
theorem e_X9_raise_70 : lk t_X9_raise 70 = some (.aload_n 3, 71, 3, [], .returned) := rfl
theorem e_X9_raise_71 : lk t_X9_raise 71 = some (.getfield 158, 74, 3, [4, 0], .returned) := rfl
theorem e_X9_raise_74 : lk t_X9_raise 74 = some (.istore 4, 76, 4, [], .returned) := rfl
theorem e_X9_raise_76 : lk t_X9_raise 76 = some (.aload_n 3, 77, 3, [], .returned) := rfl
theorem e_X9_raise_77 : lk t_X9_raise 77 = some (.iload_n 2, 78, 2, [], .returned) := rfl
theorem e_X9_raise_78 : lk t_X9_raise 78 = some (.putfield 158, 81, 3, [4, 0], .returned) := rfl
theorem e_X9_raise_81 : lk t_X9_raise 81 = some (.aload_n 0, 82, 0, [], .returned) := rfl
theorem e_X9_raise_82 : lk t_X9_raise 82 = some (.iload 4, 84, 4, [], .returned) := rfl
theorem e_X9_raise_84 : lk t_X9_raise 84 = some (.invokevirtual 96, 87, 0, [1, 9, 0, 0], .code yX9_granted cX9_granted 2 (some .int)) := rfl
theorem e_X9_raise_87 : lk t_X9_raise 87 = some (.ireturn, 88, 0, [], .returned) := rfl
abbrev q_X9_total : MI := (yX9_total, cX9_total, 5, (some .int))
def t_X9_total : Tab := [(0, [], (.aload_n 0, 1, 0, [], .returned)),
  (1, [445], (.getfield 47, 4, 9, [5, 2], .returned)),
  (4, [], (.iload_n 1, 5, 1, [], .returned)),
  (5, [670, 673, 671, 672, 99], (.invokevirtual 138, 8, 0, [1, 0, 0, 0], .code yX0_hasOrder cX0_hasOrder 2 (some .boolean))),
  (8, [], (.ifCond .ne 9, 11, 17, [], .returned)),
  (11, [], (.aload_n 0, 12, 0, [], .returned)),
  (12, [], (.iconst 1, 13, 0, [], .constant "" 0 (1))),
  (13, [486, 489, 488, 0, 92], (.invokevirtual 75, 16, 0, [1, 9, 0, 0], .code yX9_refuse cX9_refuse 2 (some .int))),
  (16, [], (.ireturn, 17, 0, [], .returned)),
  (17, [], (.iload_n 2, 18, 2, [], .returned)),
  (18, [], (.iconst 0, 19, 0, [], .constant "" 0 (0))),
  (19, [944], (.ldc_w 292, 22, 0, [], .constant "" 0 (99999))),
  (22, [483, 485, 484, 92], (.invokestatic 71, 25, 0, [3, 0, 0], .code yX9_within cX9_within 3 (some .boolean))),
  (25, [], (.ifCond .ne 9, 28, 34, [], .returned)),
  (28, [], (.aload_n 0, 29, 0, [], .returned)),
  (29, [], (.iconst 2, 30, 0, [], .constant "" 0 (2))),
  (30, [486, 489, 488, 0, 92], (.invokevirtual 75, 33, 0, [1, 9, 0, 0], .code yX9_refuse cX9_refuse 2 (some .int))),
  (33, [], (.ireturn, 34, 0, [], .returned)),
  (34, [], (.aload_n 0, 35, 0, [], .returned)),
  (35, [445], (.getfield 47, 38, 9, [5, 2], .returned)),
  (38, [394], (.getfield 142, 41, 0, [2, 2], .returned)),
  (41, [], (.iload_n 1, 42, 1, [], .returned)),
  (42, [], (.aaload, 43, 0, [], .returned)),
  (43, [], (.astore_n 3, 44, 3, [], .returned)),
  (44, [], (.iload_n 2, 45, 2, [], .returned)),
  (45, [], (.ifCond .le 17, 48, 62, [], .returned)),
  (48, [], (.iload_n 2, 49, 2, [], .returned)),
  (49, [], (.aload_n 3, 50, 3, [], .returned)),
  (50, [265], (.getfield 165, 53, 3, [7, 0], .returned)),
  (53, [], (.if_icmp .ge 9, 56, 62, [], .returned)),
  (56, [], (.aload_n 0, 57, 0, [], .returned)),
  (57, [], (.iconst 5, 58, 0, [], .constant "" 0 (5))),
  (58, [486, 489, 488, 0, 92], (.invokevirtual 75, 61, 0, [1, 9, 0, 0], .code yX9_refuse cX9_refuse 2 (some .int))),
  (61, [], (.ireturn, 62, 0, [], .returned)),
  (62, [], (.aload_n 3, 63, 3, [], .returned)),
  (63, [248], (.getfield 152, 66, 3, [2, 0], .returned)),
  (66, [], (.istore 4, 68, 4, [], .returned)),
  (68, [], (.aload_n 3, 69, 3, [], .returned)),
  (69, [], (.iload_n 2, 70, 2, [], .returned)),
  (70, [248], (.putfield 152, 73, 3, [2, 0], .returned)),
  (73, [], (.aload_n 3, 74, 3, [], .returned)),
  (74, [], (.aload_n 3, 75, 3, [], .returned)),
  (75, [269], (.getfield 168, 78, 3, [8, 0], .returned)),
  (78, [], (.aload_n 3, 79, 3, [], .returned)),
  (79, [678, 664, 662, 663, 97], (.invokevirtual 171, 82, 0, [0, 3, 0, 0], .code yX3_rest cX3_rest 1 (some .int))),
  (82, [945, 496, 495, 103], (.invokestatic 293, 85, 1, [], .returned)),
  (85, [269], (.putfield 168, 88, 3, [8, 0], .returned)),
  (88, [], (.aload_n 0, 89, 0, [], .returned)),
  (89, [], (.iload 4, 91, 4, [], .returned)),
  (91, [617, 620, 619, 20, 92], (.invokevirtual 96, 94, 0, [1, 9, 0, 0], .code yX9_granted cX9_granted 2 (some .int))),
  (94, [], (.ireturn, 95, 0, [], .returned))]
theorem ck_X9_total : okT q_X9_total t_X9_total = true := by decide +kernel
theorem e_X9_total_0 : lk t_X9_total 0 = some (.aload_n 0, 1, 0, [], .returned) := rfl
theorem e_X9_total_1 : lk t_X9_total 1 = some (.getfield 47, 4, 9, [5, 2], .returned) := rfl
theorem e_X9_total_4 : lk t_X9_total 4 = some (.iload_n 1, 5, 1, [], .returned) := rfl
theorem e_X9_total_5 : lk t_X9_total 5 = some (.invokevirtual 138, 8, 0, [1, 0, 0, 0], .code yX0_hasOrder cX0_hasOrder 2 (some .boolean)) := rfl
theorem e_X9_total_8 : lk t_X9_total 8 = some (.ifCond .ne 9, 11, 17, [], .returned) := rfl
theorem e_X9_total_11 : lk t_X9_total 11 = some (.aload_n 0, 12, 0, [], .returned) := rfl
theorem e_X9_total_12 : lk t_X9_total 12 = some (.iconst 1, 13, 0, [], .constant "" 0 (1)) := rfl
theorem e_X9_total_13 : lk t_X9_total 13 = some (.invokevirtual 75, 16, 0, [1, 9, 0, 0], .code yX9_refuse cX9_refuse 2 (some .int)) := rfl
theorem e_X9_total_16 : lk t_X9_total 16 = some (.ireturn, 17, 0, [], .returned) := rfl
theorem e_X9_total_17 : lk t_X9_total 17 = some (.iload_n 2, 18, 2, [], .returned) := rfl
theorem e_X9_total_18 : lk t_X9_total 18 = some (.iconst 0, 19, 0, [], .constant "" 0 (0)) := rfl
theorem e_X9_total_19 : lk t_X9_total 19 = some (.ldc_w 292, 22, 0, [], .constant "" 0 (99999)) := rfl
theorem e_X9_total_22 : lk t_X9_total 22 = some (.invokestatic 71, 25, 0, [3, 0, 0], .code yX9_within cX9_within 3 (some .boolean)) := rfl
theorem e_X9_total_25 : lk t_X9_total 25 = some (.ifCond .ne 9, 28, 34, [], .returned) := rfl
theorem e_X9_total_28 : lk t_X9_total 28 = some (.aload_n 0, 29, 0, [], .returned) := rfl
theorem e_X9_total_29 : lk t_X9_total 29 = some (.iconst 2, 30, 0, [], .constant "" 0 (2)) := rfl
theorem e_X9_total_30 : lk t_X9_total 30 = some (.invokevirtual 75, 33, 0, [1, 9, 0, 0], .code yX9_refuse cX9_refuse 2 (some .int)) := rfl
theorem e_X9_total_33 : lk t_X9_total 33 = some (.ireturn, 34, 0, [], .returned) := rfl
theorem e_X9_total_34 : lk t_X9_total 34 = some (.aload_n 0, 35, 0, [], .returned) := rfl
theorem e_X9_total_35 : lk t_X9_total 35 = some (.getfield 47, 38, 9, [5, 2], .returned) := rfl
theorem e_X9_total_38 : lk t_X9_total 38 = some (.getfield 142, 41, 0, [2, 2], .returned) := rfl
theorem e_X9_total_41 : lk t_X9_total 41 = some (.iload_n 1, 42, 1, [], .returned) := rfl
theorem e_X9_total_42 : lk t_X9_total 42 = some (.aaload, 43, 0, [], .returned) := rfl
theorem e_X9_total_43 : lk t_X9_total 43 = some (.astore_n 3, 44, 3, [], .returned) := rfl
theorem e_X9_total_44 : lk t_X9_total 44 = some (.iload_n 2, 45, 2, [], .returned) := rfl
theorem e_X9_total_45 : lk t_X9_total 45 = some (.ifCond .le 17, 48, 62, [], .returned) := rfl
theorem e_X9_total_48 : lk t_X9_total 48 = some (.iload_n 2, 49, 2, [], .returned) := rfl
theorem e_X9_total_49 : lk t_X9_total 49 = some (.aload_n 3, 50, 3, [], .returned) := rfl
theorem e_X9_total_50 : lk t_X9_total 50 = some (.getfield 165, 53, 3, [7, 0], .returned) := rfl
theorem e_X9_total_53 : lk t_X9_total 53 = some (.if_icmp .ge 9, 56, 62, [], .returned) := rfl
theorem e_X9_total_56 : lk t_X9_total 56 = some (.aload_n 0, 57, 0, [], .returned) := rfl
theorem e_X9_total_57 : lk t_X9_total 57 = some (.iconst 5, 58, 0, [], .constant "" 0 (5)) := rfl
theorem e_X9_total_58 : lk t_X9_total 58 = some (.invokevirtual 75, 61, 0, [1, 9, 0, 0], .code yX9_refuse cX9_refuse 2 (some .int)) := rfl
theorem e_X9_total_61 : lk t_X9_total 61 = some (.ireturn, 62, 0, [], .returned) := rfl
theorem e_X9_total_62 : lk t_X9_total 62 = some (.aload_n 3, 63, 3, [], .returned) := rfl
theorem e_X9_total_63 : lk t_X9_total 63 = some (.getfield 152, 66, 3, [2, 0], .returned) := rfl
theorem e_X9_total_66 : lk t_X9_total 66 = some (.istore 4, 68, 4, [], .returned) := rfl
theorem e_X9_total_68 : lk t_X9_total 68 = some (.aload_n 3, 69, 3, [], .returned) := rfl
theorem e_X9_total_69 : lk t_X9_total 69 = some (.iload_n 2, 70, 2, [], .returned) := rfl
theorem e_X9_total_70 : lk t_X9_total 70 = some (.putfield 152, 73, 3, [2, 0], .returned) := rfl
theorem e_X9_total_73 : lk t_X9_total 73 = some (.aload_n 3, 74, 3, [], .returned) := rfl
theorem e_X9_total_74 : lk t_X9_total 74 = some (.aload_n 3, 75, 3, [], .returned) := rfl
theorem e_X9_total_75 : lk t_X9_total 75 = some (.getfield 168, 78, 3, [8, 0], .returned) := rfl
theorem e_X9_total_78 : lk t_X9_total 78 = some (.aload_n 3, 79, 3, [], .returned) := rfl
theorem e_X9_total_79 : lk t_X9_total 79 = some (.invokevirtual 171, 82, 0, [0, 3, 0, 0], .code yX3_rest cX3_rest 1 (some .int)) := rfl
theorem e_X9_total_82 : lk t_X9_total 82 = some (.invokestatic 293, 85, 1, [], .returned) := rfl
theorem e_X9_total_85 : lk t_X9_total 85 = some (.putfield 168, 88, 3, [8, 0], .returned) := rfl
theorem e_X9_total_88 : lk t_X9_total 88 = some (.aload_n 0, 89, 0, [], .returned) := rfl
theorem e_X9_total_89 : lk t_X9_total 89 = some (.iload 4, 91, 4, [], .returned) := rfl
theorem e_X9_total_91 : lk t_X9_total 91 = some (.invokevirtual 96, 94, 0, [1, 9, 0, 0], .code yX9_granted cX9_granted 2 (some .int)) := rfl
theorem e_X9_total_94 : lk t_X9_total 94 = some (.ireturn, 95, 0, [], .returned) := rfl
abbrev q_X9_at : MI := (yX9_at, cX9_at, 5, (some .int))
def t_X9_at : Tab := [(0, [], (.aload_n 0, 1, 0, [], .returned)),
  (1, [445], (.getfield 47, 4, 9, [5, 2], .returned)),
  (4, [], (.iload_n 1, 5, 1, [], .returned)),
  (5, [670, 673, 671, 672, 99], (.invokevirtual 138, 8, 0, [1, 0, 0, 0], .code yX0_hasOrder cX0_hasOrder 2 (some .boolean))),
  (8, [], (.ifCond .ne 9, 11, 17, [], .returned)),
  (11, [], (.aload_n 0, 12, 0, [], .returned)),
  (12, [], (.iconst 1, 13, 0, [], .constant "" 0 (1))),
  (13, [486, 489, 488, 0, 92], (.invokevirtual 75, 16, 0, [1, 9, 0, 0], .code yX9_refuse cX9_refuse 2 (some .int))),
  (16, [], (.ireturn, 17, 0, [], .returned)),
  (17, [], (.iload_n 2, 18, 2, [], .returned)),
  (18, [], (.iconst 1, 19, 0, [], .constant "" 0 (1))),
  (19, [], (.bipush 7, 21, 0, [], .constant "" 0 (7))),
  (21, [483, 485, 484, 92], (.invokestatic 71, 24, 0, [3, 0, 0], .code yX9_within cX9_within 3 (some .boolean))),
  (24, [], (.ifCond .ne 9, 27, 33, [], .returned)),
  (27, [], (.aload_n 0, 28, 0, [], .returned)),
  (28, [], (.iconst 2, 29, 0, [], .constant "" 0 (2))),
  (29, [486, 489, 488, 0, 92], (.invokevirtual 75, 32, 0, [1, 9, 0, 0], .code yX9_refuse cX9_refuse 2 (some .int))),
  (32, [], (.ireturn, 33, 0, [], .returned)),
  (33, [], (.aload_n 0, 34, 0, [], .returned)),
  (34, [445], (.getfield 47, 37, 9, [5, 2], .returned)),
  (37, [394], (.getfield 142, 40, 0, [2, 2], .returned)),
  (40, [], (.iload_n 1, 41, 1, [], .returned)),
  (41, [], (.aaload, 42, 0, [], .returned)),
  (42, [], (.astore_n 3, 43, 3, [], .returned)),
  (43, [], (.aload_n 0, 44, 0, [], .returned)),
  (44, [445], (.getfield 47, 47, 9, [5, 2], .returned)),
  (47, [], (.aload_n 3, 48, 3, [], .returned)),
  (48, [674, 677, 675, 676, 99], (.invokevirtual 161, 51, 0, [1, 0, 0, 0], .code yX0_payersOf cX0_payersOf 2 (some .int))),
  (51, [], (.istore 4, 53, 4, [], .returned)),
  (53, [], (.aload_n 3, 54, 3, [], .returned)),
  (54, [], (.iload_n 2, 55, 2, [], .returned)),
  (55, [261], (.putfield 298, 58, 3, [5, 0], .returned)),
  (58, [], (.aload_n 0, 59, 0, [], .returned)),
  (59, [], (.iload 4, 61, 4, [], .returned)),
  (61, [617, 620, 619, 20, 92], (.invokevirtual 96, 64, 0, [1, 9, 0, 0], .code yX9_granted cX9_granted 2 (some .int))),
  (64, [], (.ireturn, 65, 0, [], .returned))]
theorem ck_X9_at : okT q_X9_at t_X9_at = true := by decide +kernel
theorem e_X9_at_0 : lk t_X9_at 0 = some (.aload_n 0, 1, 0, [], .returned) := rfl
theorem e_X9_at_1 : lk t_X9_at 1 = some (.getfield 47, 4, 9, [5, 2], .returned) := rfl
theorem e_X9_at_4 : lk t_X9_at 4 = some (.iload_n 1, 5, 1, [], .returned) := rfl
theorem e_X9_at_5 : lk t_X9_at 5 = some (.invokevirtual 138, 8, 0, [1, 0, 0, 0], .code yX0_hasOrder cX0_hasOrder 2 (some .boolean)) := rfl
theorem e_X9_at_8 : lk t_X9_at 8 = some (.ifCond .ne 9, 11, 17, [], .returned) := rfl
theorem e_X9_at_11 : lk t_X9_at 11 = some (.aload_n 0, 12, 0, [], .returned) := rfl
theorem e_X9_at_12 : lk t_X9_at 12 = some (.iconst 1, 13, 0, [], .constant "" 0 (1)) := rfl
theorem e_X9_at_13 : lk t_X9_at 13 = some (.invokevirtual 75, 16, 0, [1, 9, 0, 0], .code yX9_refuse cX9_refuse 2 (some .int)) := rfl
theorem e_X9_at_16 : lk t_X9_at 16 = some (.ireturn, 17, 0, [], .returned) := rfl
theorem e_X9_at_17 : lk t_X9_at 17 = some (.iload_n 2, 18, 2, [], .returned) := rfl
theorem e_X9_at_18 : lk t_X9_at 18 = some (.iconst 1, 19, 0, [], .constant "" 0 (1)) := rfl
theorem e_X9_at_19 : lk t_X9_at 19 = some (.bipush 7, 21, 0, [], .constant "" 0 (7)) := rfl
theorem e_X9_at_21 : lk t_X9_at 21 = some (.invokestatic 71, 24, 0, [3, 0, 0], .code yX9_within cX9_within 3 (some .boolean)) := rfl
theorem e_X9_at_24 : lk t_X9_at 24 = some (.ifCond .ne 9, 27, 33, [], .returned) := rfl
theorem e_X9_at_27 : lk t_X9_at 27 = some (.aload_n 0, 28, 0, [], .returned) := rfl
theorem e_X9_at_28 : lk t_X9_at 28 = some (.iconst 2, 29, 0, [], .constant "" 0 (2)) := rfl
theorem e_X9_at_29 : lk t_X9_at 29 = some (.invokevirtual 75, 32, 0, [1, 9, 0, 0], .code yX9_refuse cX9_refuse 2 (some .int)) := rfl
theorem e_X9_at_32 : lk t_X9_at 32 = some (.ireturn, 33, 0, [], .returned) := rfl
theorem e_X9_at_33 : lk t_X9_at 33 = some (.aload_n 0, 34, 0, [], .returned) := rfl
theorem e_X9_at_34 : lk t_X9_at 34 = some (.getfield 47, 37, 9, [5, 2], .returned) := rfl
theorem e_X9_at_37 : lk t_X9_at 37 = some (.getfield 142, 40, 0, [2, 2], .returned) := rfl
theorem e_X9_at_40 : lk t_X9_at 40 = some (.iload_n 1, 41, 1, [], .returned) := rfl
theorem e_X9_at_41 : lk t_X9_at 41 = some (.aaload, 42, 0, [], .returned) := rfl
theorem e_X9_at_42 : lk t_X9_at 42 = some (.astore_n 3, 43, 3, [], .returned) := rfl
theorem e_X9_at_43 : lk t_X9_at 43 = some (.aload_n 0, 44, 0, [], .returned) := rfl
theorem e_X9_at_44 : lk t_X9_at 44 = some (.getfield 47, 47, 9, [5, 2], .returned) := rfl
theorem e_X9_at_47 : lk t_X9_at 47 = some (.aload_n 3, 48, 3, [], .returned) := rfl
theorem e_X9_at_48 : lk t_X9_at 48 = some (.invokevirtual 161, 51, 0, [1, 0, 0, 0], .code yX0_payersOf cX0_payersOf 2 (some .int)) := rfl
theorem e_X9_at_51 : lk t_X9_at 51 = some (.istore 4, 53, 4, [], .returned) := rfl
theorem e_X9_at_53 : lk t_X9_at 53 = some (.aload_n 3, 54, 3, [], .returned) := rfl
theorem e_X9_at_54 : lk t_X9_at 54 = some (.iload_n 2, 55, 2, [], .returned) := rfl
theorem e_X9_at_55 : lk t_X9_at 55 = some (.putfield 298, 58, 3, [5, 0], .returned) := rfl
theorem e_X9_at_58 : lk t_X9_at 58 = some (.aload_n 0, 59, 0, [], .returned) := rfl
theorem e_X9_at_59 : lk t_X9_at 59 = some (.iload 4, 61, 4, [], .returned) := rfl
theorem e_X9_at_61 : lk t_X9_at 61 = some (.invokevirtual 96, 64, 0, [1, 9, 0, 0], .code yX9_granted cX9_granted 2 (some .int)) := rfl
theorem e_X9_at_64 : lk t_X9_at 64 = some (.ireturn, 65, 0, [], .returned) := rfl
abbrev q_X9_back : MI := (yX9_back, cX9_back, 4, (some .int))
def t_X9_back : Tab := [(0, [], (.aload_n 0, 1, 0, [], .returned)),
  (1, [445], (.getfield 47, 4, 9, [5, 2], .returned)),
  (4, [], (.iload_n 1, 5, 1, [], .returned)),
  (5, [670, 673, 671, 672, 99], (.invokevirtual 138, 8, 0, [1, 0, 0, 0], .code yX0_hasOrder cX0_hasOrder 2 (some .boolean))),
  (8, [], (.ifCond .ne 9, 11, 17, [], .returned)),
  (11, [], (.aload_n 0, 12, 0, [], .returned)),
  (12, [], (.iconst 1, 13, 0, [], .constant "" 0 (1))),
  (13, [486, 489, 488, 0, 92], (.invokevirtual 75, 16, 0, [1, 9, 0, 0], .code yX9_refuse cX9_refuse 2 (some .int))),
  (16, [], (.ireturn, 17, 0, [], .returned)),
  (17, [], (.iload_n 2, 18, 2, [], .returned)),
  (18, [], (.iconst 1, 19, 0, [], .constant "" 0 (1))),
  (19, [944], (.ldc_w 292, 22, 0, [], .constant "" 0 (99999))),
  (22, [483, 485, 484, 92], (.invokestatic 71, 25, 0, [3, 0, 0], .code yX9_within cX9_within 3 (some .boolean))),
  (25, [], (.ifCond .ne 9, 28, 34, [], .returned)),
  (28, [], (.aload_n 0, 29, 0, [], .returned)),
  (29, [], (.iconst 2, 30, 0, [], .constant "" 0 (2))),
  (30, [486, 489, 488, 0, 92], (.invokevirtual 75, 33, 0, [1, 9, 0, 0], .code yX9_refuse cX9_refuse 2 (some .int))),
  (33, [], (.ireturn, 34, 0, [], .returned)),
  (34, [], (.aload_n 0, 35, 0, [], .returned)),
  (35, [445], (.getfield 47, 38, 9, [5, 2], .returned)),
  (38, [394], (.getfield 142, 41, 0, [2, 2], .returned)),
  (41, [], (.iload_n 1, 42, 1, [], .returned)),
  (42, [], (.aaload, 43, 0, [], .returned)),
  (43, [], (.astore_n 3, 44, 3, [], .returned)),
  (44, [], (.iload_n 2, 45, 2, [], .returned)),
  (45, [], (.aload_n 3, 46, 3, [], .returned)),
  (46, [265], (.getfield 165, 49, 3, [7, 0], .returned)),
  (49, [], (.if_icmp .le 9, 52, 58, [], .returned)),
  (52, [], (.aload_n 0, 53, 0, [], .returned)),
  (53, [], (.iconst 5, 54, 0, [], .constant "" 0 (5))),
  (54, [486, 489, 488, 0, 92], (.invokevirtual 75, 57, 0, [1, 9, 0, 0], .code yX9_refuse cX9_refuse 2 (some .int))),
  (57, [], (.ireturn, 58, 0, [], .returned)),
  (58, [], (.aload_n 3, 59, 3, [], .returned)),
  (59, [], (.dup, 60, 0, [], .returned)),
  (60, [265], (.getfield 165, 63, 3, [7, 0], .returned)),
  (63, [], (.iload_n 2, 64, 2, [], .returned)),
  (64, [], (.isub, 65, 0, [], .returned)),
  (65, [265], (.putfield 165, 68, 3, [7, 0], .returned)),
  (68, [], (.aload_n 0, 69, 0, [], .returned)),
  (69, [], (.aload_n 3, 70, 3, [], .returned)),
  (70, [678, 664, 662, 663, 97], (.invokevirtual 171, 73, 0, [0, 3, 0, 0], .code yX3_rest cX3_rest 1 (some .int))),
  (73, [617, 620, 619, 20, 92], (.invokevirtual 96, 76, 0, [1, 9, 0, 0], .code yX9_granted cX9_granted 2 (some .int))),
  (76, [], (.ireturn, 77, 0, [], .returned))]
theorem ck_X9_back : okT q_X9_back t_X9_back = true := by decide +kernel
theorem e_X9_back_0 : lk t_X9_back 0 = some (.aload_n 0, 1, 0, [], .returned) := rfl
theorem e_X9_back_1 : lk t_X9_back 1 = some (.getfield 47, 4, 9, [5, 2], .returned) := rfl
theorem e_X9_back_4 : lk t_X9_back 4 = some (.iload_n 1, 5, 1, [], .returned) := rfl
theorem e_X9_back_5 : lk t_X9_back 5 = some (.invokevirtual 138, 8, 0, [1, 0, 0, 0], .code yX0_hasOrder cX0_hasOrder 2 (some .boolean)) := rfl
theorem e_X9_back_8 : lk t_X9_back 8 = some (.ifCond .ne 9, 11, 17, [], .returned) := rfl
theorem e_X9_back_11 : lk t_X9_back 11 = some (.aload_n 0, 12, 0, [], .returned) := rfl
theorem e_X9_back_12 : lk t_X9_back 12 = some (.iconst 1, 13, 0, [], .constant "" 0 (1)) := rfl
theorem e_X9_back_13 : lk t_X9_back 13 = some (.invokevirtual 75, 16, 0, [1, 9, 0, 0], .code yX9_refuse cX9_refuse 2 (some .int)) := rfl
theorem e_X9_back_16 : lk t_X9_back 16 = some (.ireturn, 17, 0, [], .returned) := rfl
theorem e_X9_back_17 : lk t_X9_back 17 = some (.iload_n 2, 18, 2, [], .returned) := rfl
theorem e_X9_back_18 : lk t_X9_back 18 = some (.iconst 1, 19, 0, [], .constant "" 0 (1)) := rfl
theorem e_X9_back_19 : lk t_X9_back 19 = some (.ldc_w 292, 22, 0, [], .constant "" 0 (99999)) := rfl
theorem e_X9_back_22 : lk t_X9_back 22 = some (.invokestatic 71, 25, 0, [3, 0, 0], .code yX9_within cX9_within 3 (some .boolean)) := rfl
theorem e_X9_back_25 : lk t_X9_back 25 = some (.ifCond .ne 9, 28, 34, [], .returned) := rfl
theorem e_X9_back_28 : lk t_X9_back 28 = some (.aload_n 0, 29, 0, [], .returned) := rfl
theorem e_X9_back_29 : lk t_X9_back 29 = some (.iconst 2, 30, 0, [], .constant "" 0 (2)) := rfl
theorem e_X9_back_30 : lk t_X9_back 30 = some (.invokevirtual 75, 33, 0, [1, 9, 0, 0], .code yX9_refuse cX9_refuse 2 (some .int)) := rfl
theorem e_X9_back_33 : lk t_X9_back 33 = some (.ireturn, 34, 0, [], .returned) := rfl
theorem e_X9_back_34 : lk t_X9_back 34 = some (.aload_n 0, 35, 0, [], .returned) := rfl
theorem e_X9_back_35 : lk t_X9_back 35 = some (.getfield 47, 38, 9, [5, 2], .returned) := rfl
theorem e_X9_back_38 : lk t_X9_back 38 = some (.getfield 142, 41, 0, [2, 2], .returned) := rfl
theorem e_X9_back_41 : lk t_X9_back 41 = some (.iload_n 1, 42, 1, [], .returned) := rfl
theorem e_X9_back_42 : lk t_X9_back 42 = some (.aaload, 43, 0, [], .returned) := rfl
theorem e_X9_back_43 : lk t_X9_back 43 = some (.astore_n 3, 44, 3, [], .returned) := rfl
theorem e_X9_back_44 : lk t_X9_back 44 = some (.iload_n 2, 45, 2, [], .returned) := rfl
theorem e_X9_back_45 : lk t_X9_back 45 = some (.aload_n 3, 46, 3, [], .returned) := rfl
theorem e_X9_back_46 : lk t_X9_back 46 = some (.getfield 165, 49, 3, [7, 0], .returned) := rfl
theorem e_X9_back_49 : lk t_X9_back 49 = some (.if_icmp .le 9, 52, 58, [], .returned) := rfl
theorem e_X9_back_52 : lk t_X9_back 52 = some (.aload_n 0, 53, 0, [], .returned) := rfl
theorem e_X9_back_53 : lk t_X9_back 53 = some (.iconst 5, 54, 0, [], .constant "" 0 (5)) := rfl
theorem e_X9_back_54 : lk t_X9_back 54 = some (.invokevirtual 75, 57, 0, [1, 9, 0, 0], .code yX9_refuse cX9_refuse 2 (some .int)) := rfl
theorem e_X9_back_57 : lk t_X9_back 57 = some (.ireturn, 58, 0, [], .returned) := rfl
theorem e_X9_back_58 : lk t_X9_back 58 = some (.aload_n 3, 59, 3, [], .returned) := rfl
theorem e_X9_back_59 : lk t_X9_back 59 = some (.dup, 60, 0, [], .returned) := rfl
theorem e_X9_back_60 : lk t_X9_back 60 = some (.getfield 165, 63, 3, [7, 0], .returned) := rfl
theorem e_X9_back_63 : lk t_X9_back 63 = some (.iload_n 2, 64, 2, [], .returned) := rfl
theorem e_X9_back_64 : lk t_X9_back 64 = some (.isub, 65, 0, [], .returned) := rfl
theorem e_X9_back_65 : lk t_X9_back 65 = some (.putfield 165, 68, 3, [7, 0], .returned) := rfl
theorem e_X9_back_68 : lk t_X9_back 68 = some (.aload_n 0, 69, 0, [], .returned) := rfl
theorem e_X9_back_69 : lk t_X9_back 69 = some (.aload_n 3, 70, 3, [], .returned) := rfl
theorem e_X9_back_70 : lk t_X9_back 70 = some (.invokevirtual 171, 73, 0, [0, 3, 0, 0], .code yX3_rest cX3_rest 1 (some .int)) := rfl
theorem e_X9_back_73 : lk t_X9_back 73 = some (.invokevirtual 96, 76, 0, [1, 9, 0, 0], .code yX9_granted cX9_granted 2 (some .int)) := rfl
theorem e_X9_back_76 : lk t_X9_back 76 = some (.ireturn, 77, 0, [], .returned) := rfl
