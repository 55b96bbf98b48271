abbrev q_X7_findName : MI := (yX7_findName, cX7_findName, 3, (some .int))
def t_X7_findName : Tab := [(0, [], (.iconst 0, 1, 0, [], .constant "" 0 (0))),
  (1, [], (.istore_n 2, 2, 2, [], .returned)),
  (2, [], (.iload_n 2, 3, 2, [], .returned)),
  (3, [], (.aload_n 0, 4, 0, [], .returned)),
  (4, [155], (.getfield 16, 7, 7, [9, 2], .returned)),
  (7, [], (.iload_n 1, 8, 1, [], .returned)),
  (8, [], (.iaload, 9, 0, [], .returned)),
  (9, [], (.if_icmp .ge 27, 12, 36, [], .returned)),
  (12, [], (.aload_n 0, 13, 0, [], .returned)),
  (13, [154], (.getfield 13, 16, 7, [8, 2], .returned)),
  (16, [], (.iload_n 1, 17, 1, [], .returned)),
  (17, [], (.aaload, 18, 0, [], .returned)),
  (18, [], (.iload_n 2, 19, 2, [], .returned)),
  (19, [], (.laload, 20, 0, [], .returned)),
  (20, [], (.aload_n 0, 21, 0, [], .returned)),
  (21, [150], (.getfield 220, 24, 7, [4, 1], .returned)),
  (24, [], (.lcmp, 25, 0, [], .returned)),
  (25, [], (.ifCond .ne 5, 28, 30, [], .returned)),
  (28, [], (.iload_n 2, 29, 2, [], .returned)),
  (29, [], (.ireturn, 30, 0, [], .returned)),
  (30, [], (.iinc 2 1, 33, 2, [], .constant "" 0 (1))),
  (33, [], (.goto (-31), 36, 2, [], .returned)),
  (36, [], (.iconst (-1), 37, 0, [], .constant "" 0 (-1))),
  (37, [], (.ireturn, 38, 0, [], .returned))]
theorem ck_X7_findName : okT q_X7_findName t_X7_findName = true := by decide +kernel
theorem e_X7_findName_0 : lk t_X7_findName 0 = some (.iconst 0, 1, 0, [], .constant "" 0 (0)) := rfl
theorem e_X7_findName_1 : lk t_X7_findName 1 = some (.istore_n 2, 2, 2, [], .returned) := rfl
theorem e_X7_findName_2 : lk t_X7_findName 2 = some (.iload_n 2, 3, 2, [], .returned) := rfl
theorem e_X7_findName_3 : lk t_X7_findName 3 = some (.aload_n 0, 4, 0, [], .returned) := rfl
theorem e_X7_findName_4 : lk t_X7_findName 4 = some (.getfield 16, 7, 7, [9, 2], .returned) := rfl
theorem e_X7_findName_7 : lk t_X7_findName 7 = some (.iload_n 1, 8, 1, [], .returned) := rfl
theorem e_X7_findName_8 : lk t_X7_findName 8 = some (.iaload, 9, 0, [], .returned) := rfl
theorem e_X7_findName_9 : lk t_X7_findName 9 = some (.if_icmp .ge 27, 12, 36, [], .returned) := rfl
theorem e_X7_findName_12 : lk t_X7_findName 12 = some (.aload_n 0, 13, 0, [], .returned) := rfl
theorem e_X7_findName_13 : lk t_X7_findName 13 = some (.getfield 13, 16, 7, [8, 2], .returned) := rfl
theorem e_X7_findName_16 : lk t_X7_findName 16 = some (.iload_n 1, 17, 1, [], .returned) := rfl
theorem e_X7_findName_17 : lk t_X7_findName 17 = some (.aaload, 18, 0, [], .returned) := rfl
theorem e_X7_findName_18 : lk t_X7_findName 18 = some (.iload_n 2, 19, 2, [], .returned) := rfl
theorem e_X7_findName_19 : lk t_X7_findName 19 = some (.laload, 20, 0, [], .returned) := rfl
theorem e_X7_findName_20 : lk t_X7_findName 20 = some (.aload_n 0, 21, 0, [], .returned) := rfl
theorem e_X7_findName_21 : lk t_X7_findName 21 = some (.getfield 220, 24, 7, [4, 1], .returned) := rfl
theorem e_X7_findName_24 : lk t_X7_findName 24 = some (.lcmp, 25, 0, [], .returned) := rfl
theorem e_X7_findName_25 : lk t_X7_findName 25 = some (.ifCond .ne 5, 28, 30, [], .returned) := rfl
theorem e_X7_findName_28 : lk t_X7_findName 28 = some (.iload_n 2, 29, 2, [], .returned) := rfl
theorem e_X7_findName_29 : lk t_X7_findName 29 = some (.ireturn, 30, 0, [], .returned) := rfl
theorem e_X7_findName_30 : lk t_X7_findName 30 = some (.iinc 2 1, 33, 2, [], .constant "" 0 (1)) := rfl
theorem e_X7_findName_33 : lk t_X7_findName 33 = some (.goto (-31), 36, 2, [], .returned) := rfl
theorem e_X7_findName_36 : lk t_X7_findName 36 = some (.iconst (-1), 37, 0, [], .constant "" 0 (-1)) := rfl
theorem e_X7_findName_37 : lk t_X7_findName 37 = some (.ireturn, 38, 0, [], .returned) := rfl
abbrev q_X7_isName : MI := (yX7_isName, cX7_isName, 1, (some .boolean))
def t_X7_isName : Tab := [(0, [], (.aload_n 0, 1, 0, [], .returned)),
  (1, [149], (.getfield 59, 4, 7, [3, 0], .returned)),
  (4, [], (.iconst 1, 5, 0, [], .constant "" 0 (1))),
  (5, [], (.if_icmp .ne 62, 8, 67, [], .returned)),
  (8, [], (.aload_n 0, 9, 0, [], .returned)),
  (9, [150], (.getfield 220, 12, 7, [4, 1], .returned)),
  (12, [522], (.ldc2_w 69, 15, 0, [], .constantLong "" 0 (1684370283))),
  (15, [], (.lcmp, 16, 0, [], .returned)),
  (16, [], (.ifCond .eq 51, 19, 67, [], .returned)),
  (19, [], (.aload_n 0, 20, 0, [], .returned)),
  (20, [150], (.getfield 220, 23, 7, [4, 1], .returned)),
  (23, [548], (.ldc2_w 78, 26, 0, [], .constantLong "" 0 (499850046565))),
  (26, [], (.lcmp, 27, 0, [], .returned)),
  (27, [], (.ifCond .eq 40, 30, 67, [], .returned)),
  (30, [], (.aload_n 0, 31, 0, [], .returned)),
  (31, [150], (.getfield 220, 34, 7, [4, 1], .returned)),
  (34, [549], (.ldc2_w 80, 37, 0, [], .constantLong "" 0 (482671682930))),
  (37, [], (.lcmp, 38, 0, [], .returned)),
  (38, [], (.ifCond .eq 29, 41, 67, [], .returned)),
  (41, [], (.aload_n 0, 42, 0, [], .returned)),
  (42, [150], (.getfield 220, 45, 7, [4, 1], .returned)),
  (45, [550], (.ldc2_w 82, 48, 0, [], .constantLong "" 0 (478660552050))),
  (48, [], (.lcmp, 49, 0, [], .returned)),
  (49, [], (.ifCond .eq 18, 52, 67, [], .returned)),
  (52, [], (.aload_n 0, 53, 0, [], .returned)),
  (53, [150], (.getfield 220, 56, 7, [4, 1], .returned)),
  (56, [563], (.ldc2_w 145, 59, 0, [], .constantLong "" 0 (6384748))),
  (59, [], (.lcmp, 60, 0, [], .returned)),
  (60, [], (.ifCond .eq 7, 63, 67, [], .returned)),
  (63, [], (.iconst 1, 64, 0, [], .constant "" 0 (1))),
  (64, [], (.goto 4, 67, 68, [], .returned)),
  (67, [], (.iconst 0, 68, 0, [], .constant "" 0 (0))),
  (68, [], (.ireturn, 69, 1, [], .returned))]
theorem ck_X7_isName : okT q_X7_isName t_X7_isName = true := by decide +kernel
theorem e_X7_isName_0 : lk t_X7_isName 0 = some (.aload_n 0, 1, 0, [], .returned) := rfl
theorem e_X7_isName_1 : lk t_X7_isName 1 = some (.getfield 59, 4, 7, [3, 0], .returned) := rfl
theorem e_X7_isName_4 : lk t_X7_isName 4 = some (.iconst 1, 5, 0, [], .constant "" 0 (1)) := rfl
theorem e_X7_isName_5 : lk t_X7_isName 5 = some (.if_icmp .ne 62, 8, 67, [], .returned) := rfl
theorem e_X7_isName_8 : lk t_X7_isName 8 = some (.aload_n 0, 9, 0, [], .returned) := rfl
theorem e_X7_isName_9 : lk t_X7_isName 9 = some (.getfield 220, 12, 7, [4, 1], .returned) := rfl
theorem e_X7_isName_12 : lk t_X7_isName 12 = some (.ldc2_w 69, 15, 0, [], .constantLong "" 0 (1684370283)) := rfl
theorem e_X7_isName_15 : lk t_X7_isName 15 = some (.lcmp, 16, 0, [], .returned) := rfl
theorem e_X7_isName_16 : lk t_X7_isName 16 = some (.ifCond .eq 51, 19, 67, [], .returned) := rfl
theorem e_X7_isName_19 : lk t_X7_isName 19 = some (.aload_n 0, 20, 0, [], .returned) := rfl
theorem e_X7_isName_20 : lk t_X7_isName 20 = some (.getfield 220, 23, 7, [4, 1], .returned) := rfl
theorem e_X7_isName_23 : lk t_X7_isName 23 = some (.ldc2_w 78, 26, 0, [], .constantLong "" 0 (499850046565)) := rfl
theorem e_X7_isName_26 : lk t_X7_isName 26 = some (.lcmp, 27, 0, [], .returned) := rfl
theorem e_X7_isName_27 : lk t_X7_isName 27 = some (.ifCond .eq 40, 30, 67, [], .returned) := rfl
theorem e_X7_isName_30 : lk t_X7_isName 30 = some (.aload_n 0, 31, 0, [], .returned) := rfl
theorem e_X7_isName_31 : lk t_X7_isName 31 = some (.getfield 220, 34, 7, [4, 1], .returned) := rfl
theorem e_X7_isName_34 : lk t_X7_isName 34 = some (.ldc2_w 80, 37, 0, [], .constantLong "" 0 (482671682930)) := rfl
theorem e_X7_isName_37 : lk t_X7_isName 37 = some (.lcmp, 38, 0, [], .returned) := rfl
theorem e_X7_isName_38 : lk t_X7_isName 38 = some (.ifCond .eq 29, 41, 67, [], .returned) := rfl
theorem e_X7_isName_41 : lk t_X7_isName 41 = some (.aload_n 0, 42, 0, [], .returned) := rfl
theorem e_X7_isName_42 : lk t_X7_isName 42 = some (.getfield 220, 45, 7, [4, 1], .returned) := rfl
theorem e_X7_isName_45 : lk t_X7_isName 45 = some (.ldc2_w 82, 48, 0, [], .constantLong "" 0 (478660552050)) := rfl
theorem e_X7_isName_48 : lk t_X7_isName 48 = some (.lcmp, 49, 0, [], .returned) := rfl
theorem e_X7_isName_49 : lk t_X7_isName 49 = some (.ifCond .eq 18, 52, 67, [], .returned) := rfl
theorem e_X7_isName_52 : lk t_X7_isName 52 = some (.aload_n 0, 53, 0, [], .returned) := rfl
theorem e_X7_isName_53 : lk t_X7_isName 53 = some (.getfield 220, 56, 7, [4, 1], .returned) := rfl
theorem e_X7_isName_56 : lk t_X7_isName 56 = some (.ldc2_w 145, 59, 0, [], .constantLong "" 0 (6384748)) := rfl
theorem e_X7_isName_59 : lk t_X7_isName 59 = some (.lcmp, 60, 0, [], .returned) := rfl
theorem e_X7_isName_60 : lk t_X7_isName 60 = some (.ifCond .eq 7, 63, 67, [], .returned) := rfl
theorem e_X7_isName_63 : lk t_X7_isName 63 = some (.iconst 1, 64, 0, [], .constant "" 0 (1)) := rfl
theorem e_X7_isName_64 : lk t_X7_isName 64 = some (.goto 4, 67, 68, [], .returned) := rfl
theorem e_X7_isName_67 : lk t_X7_isName 67 = some (.iconst 0, 68, 0, [], .constant "" 0 (0)) := rfl
theorem e_X7_isName_68 : lk t_X7_isName 68 = some (.ireturn, 69, 1, [], .returned) := rfl
abbrev q_X7_isWord : MI := (yX7_isWord, cX7_isWord, 3, (some .boolean))
def t_X7_isWord : Tab := [(0, [], (.aload_n 0, 1, 0, [], .returned)),
  (1, [149], (.getfield 59, 4, 7, [3, 0], .returned)),
  (4, [], (.iconst 1, 5, 0, [], .constant "" 0 (1))),
  (5, [], (.if_icmp .ne 16, 8, 21, [], .returned)),
  (8, [], (.aload_n 0, 9, 0, [], .returned)),
  (9, [150], (.getfield 220, 12, 7, [4, 1], .returned)),
  (12, [], (.lload_n 1, 13, 1, [], .returned)),
  (13, [], (.lcmp, 14, 0, [], .returned)),
  (14, [], (.ifCond .ne 7, 17, 21, [], .returned)),
  (17, [], (.iconst 1, 18, 0, [], .constant "" 0 (1))),
  (18, [], (.goto 4, 21, 22, [], .returned)),
  (21, [], (.iconst 0, 22, 0, [], .constant "" 0 (0))),
  (22, [], (.ireturn, 23, 1, [], .returned))]
theorem ck_X7_isWord : okT q_X7_isWord t_X7_isWord = true := by decide +kernel
theorem e_X7_isWord_0 : lk t_X7_isWord 0 = some (.aload_n 0, 1, 0, [], .returned) := rfl
theorem e_X7_isWord_1 : lk t_X7_isWord 1 = some (.getfield 59, 4, 7, [3, 0], .returned) := rfl
theorem e_X7_isWord_4 : lk t_X7_isWord 4 = some (.iconst 1, 5, 0, [], .constant "" 0 (1)) := rfl
theorem e_X7_isWord_5 : lk t_X7_isWord 5 = some (.if_icmp .ne 16, 8, 21, [], .returned) := rfl
theorem e_X7_isWord_8 : lk t_X7_isWord 8 = some (.aload_n 0, 9, 0, [], .returned) := rfl
theorem e_X7_isWord_9 : lk t_X7_isWord 9 = some (.getfield 220, 12, 7, [4, 1], .returned) := rfl
theorem e_X7_isWord_12 : lk t_X7_isWord 12 = some (.lload_n 1, 13, 1, [], .returned) := rfl
theorem e_X7_isWord_13 : lk t_X7_isWord 13 = some (.lcmp, 14, 0, [], .returned) := rfl
theorem e_X7_isWord_14 : lk t_X7_isWord 14 = some (.ifCond .ne 7, 17, 21, [], .returned) := rfl
theorem e_X7_isWord_17 : lk t_X7_isWord 17 = some (.iconst 1, 18, 0, [], .constant "" 0 (1)) := rfl
theorem e_X7_isWord_18 : lk t_X7_isWord 18 = some (.goto 4, 21, 22, [], .returned) := rfl
theorem e_X7_isWord_21 : lk t_X7_isWord 21 = some (.iconst 0, 22, 0, [], .constant "" 0 (0)) := rfl
theorem e_X7_isWord_22 : lk t_X7_isWord 22 = some (.ireturn, 23, 1, [], .returned) := rfl
abbrev q_X7_fail : MI := (yX7_fail, cX7_fail, 2, (some .boolean))
def t_X7_fail : Tab := [(0, [], (.aload_n 0, 1, 0, [], .returned)),
  (1, [], (.iload_n 1, 2, 1, [], .returned)),
  (2, [152], (.putfield 33, 5, 7, [6, 0], .returned)),
  (5, [], (.iconst 0, 6, 0, [], .constant "" 0 (0))),
  (6, [], (.ireturn, 7, 1, [], .returned))]
theorem ck_X7_fail : okT q_X7_fail t_X7_fail = true := by decide +kernel
theorem e_X7_fail_0 : lk t_X7_fail 0 = some (.aload_n 0, 1, 0, [], .returned) := rfl
theorem e_X7_fail_1 : lk t_X7_fail 1 = some (.iload_n 1, 2, 1, [], .returned) := rfl
theorem e_X7_fail_2 : lk t_X7_fail 2 = some (.putfield 33, 5, 7, [6, 0], .returned) := rfl
theorem e_X7_fail_5 : lk t_X7_fail 5 = some (.iconst 0, 6, 0, [], .constant "" 0 (0)) := rfl
theorem e_X7_fail_6 : lk t_X7_fail 6 = some (.ireturn, 7, 1, [], .returned) := rfl
abbrev q_X7_advance : MI := (yX7_advance, cX7_advance, 3, none)
def t_X7_advance : Tab := [(0, [], (.aload_n 0, 1, 0, [], .returned)),
  (1, [147], (.getfield 30, 4, 7, [1, 0], .returned)),
  (4, [], (.istore_n 2, 5, 2, [], .returned)),
  (5, [], (.iload_n 2, 6, 2, [], .returned)),
  (6, [], (.aload_n 0, 7, 0, [], .returned)),
  (7, [148], (.getfield 26, 10, 7, [2, 0], .returned)),
  (10, [], (.if_icmp .ge 17, 13, 27, [], .returned)),
  (13, [], (.aload_n 1, 14, 1, [], .returned)),
  (14, [], (.iload_n 2, 15, 2, [], .returned)),
  (15, [], (.baload, 16, 0, [], .returned)),
  (16, [], (.bipush 32, 18, 0, [], .constant "" 0 (32))),
  (18, [], (.if_icmp .ne 9, 21, 27, [], .returned)),
  (21, [], (.iinc 2 1, 24, 2, [], .constant "" 0 (1))),
  (24, [], (.goto (-19), 27, 5, [], .returned)),
  (27, [], (.aload_n 0, 28, 0, [], .returned)),
  (28, [], (.iload_n 2, 29, 2, [], .returned)),
  (29, [146], (.putfield 232, 32, 7, [0, 0], .returned)),
  (32, [], (.aload_n 0, 33, 0, [], .returned)),
  (33, [], (.iload_n 2, 34, 2, [], .returned)),
  (34, [], (.iconst 1, 35, 0, [], .constant "" 0 (1))),
  (35, [], (.iadd, 36, 0, [], .returned)),
  (36, [147], (.putfield 30, 39, 7, [1, 0], .returned)),
  (39, [], (.aload_n 0, 40, 0, [], .returned)),
  (40, [], (.lconst 0, 41, 0, [], .constantLong "" 0 (0))),
  (41, [150], (.putfield 220, 44, 7, [4, 1], .returned)),
  (44, [], (.iload_n 2, 45, 2, [], .returned)),
  (45, [], (.aload_n 0, 46, 0, [], .returned)),
  (46, [148], (.getfield 26, 49, 7, [2, 0], .returned)),
  (49, [], (.if_icmp .lt 19, 52, 68, [], .returned)),
  (52, [], (.aload_n 0, 53, 0, [], .returned)),
  (53, [], (.iconst 0, 54, 0, [], .constant "" 0 (0))),
  (54, [149], (.putfield 59, 57, 7, [3, 0], .returned)),
  (57, [], (.aload_n 0, 58, 0, [], .returned)),
  (58, [], (.aload_n 0, 59, 0, [], .returned)),
  (59, [148], (.getfield 26, 62, 7, [2, 0], .returned)),
  (62, [147], (.putfield 30, 65, 7, [1, 0], .returned)),
  (65, [], (.goto 68, 68, 133, [], .returned)),
  (68, [], (.aload_n 1, 69, 1, [], .returned)),
  (69, [], (.iload_n 2, 70, 2, [], .returned)),
  (70, [], (.baload, 71, 0, [], .returned)),
  (71, [], (.bipush 97, 73, 0, [], .constant "" 0 (97))),
  (73, [], (.if_icmp .lt 19, 76, 92, [], .returned)),
  (76, [], (.aload_n 1, 77, 1, [], .returned)),
  (77, [], (.iload_n 2, 78, 2, [], .returned)),
  (78, [], (.baload, 79, 0, [], .returned)),
  (79, [], (.bipush 122, 81, 0, [], .constant "" 0 (122))),
  (81, [], (.if_icmp .gt 11, 84, 92, [], .returned)),
  (84, [], (.aload_n 0, 85, 0, [], .returned)),
  (85, [], (.aload_n 1, 86, 1, [], .returned)),
  (86, [508, 511, 510, 2, 94], (.invokevirtual 235, 89, 0, [1, 7, 0, 0], .code yX7_scanWord cX7_scanWord 3 none)),
  (89, [], (.goto 44, 92, 133, [], .returned)),
  (92, [], (.aload_n 1, 93, 1, [], .returned)),
  (93, [], (.iload_n 2, 94, 2, [], .returned)),
  (94, [], (.baload, 95, 0, [], .returned)),
  (95, [], (.bipush 48, 97, 0, [], .constant "" 0 (48))),
  (97, [], (.if_icmp .lt 19, 100, 116, [], .returned)),
  (100, [], (.aload_n 1, 101, 1, [], .returned)),
  (101, [], (.iload_n 2, 102, 2, [], .returned)),
  (102, [], (.baload, 103, 0, [], .returned)),
  (103, [], (.bipush 57, 105, 0, [], .constant "" 0 (57))),
  (105, [], (.if_icmp .gt 11, 108, 116, [], .returned)),
  (108, [], (.aload_n 0, 109, 0, [], .returned)),
  (109, [], (.aload_n 1, 110, 1, [], .returned)),
  (110, [512, 515, 514, 3, 94], (.invokevirtual 238, 113, 0, [1, 7, 0, 0], .code yX7_scanWhole cX7_scanWhole 3 none)),
  (113, [], (.goto 20, 116, 133, [], .returned)),
  (116, [], (.aload_n 0, 117, 0, [], .returned)),
  (117, [], (.aload_n 1, 118, 1, [], .returned)),
  (118, [], (.iload_n 2, 119, 2, [], .returned)),
  (119, [], (.baload, 120, 0, [], .returned)),
  (120, [], (.bipush 59, 122, 0, [], .constant "" 0 (59))),
  (122, [], (.if_icmp .ne 7, 125, 129, [], .returned)),
  (125, [], (.iconst 3, 126, 0, [], .constant "" 0 (3))),
  (126, [], (.goto 4, 129, 130, [], .returned)),
  (129, [], (.iconst 4, 130, 0, [], .constant "" 0 (4))),
  (130, [149], (.putfield 59, 133, 7, [3, 0], .returned)),
  (133, [], (.return_, 134, 0, [], .returned))]
theorem ck_X7_advance : okT q_X7_advance t_X7_advance = true := by decide +kernel
theorem e_X7_advance_0 : lk t_X7_advance 0 = some (.aload_n 0, 1, 0, [], .returned) := rfl
theorem e_X7_advance_1 : lk t_X7_advance 1 = some (.getfield 30, 4, 7, [1, 0], .returned) := rfl
theorem e_X7_advance_4 : lk t_X7_advance 4 = some (.istore_n 2, 5, 2, [], .returned) := rfl
theorem e_X7_advance_5 : lk t_X7_advance 5 = some (.iload_n 2, 6, 2, [], .returned) := rfl
theorem e_X7_advance_6 : lk t_X7_advance 6 = some (.aload_n 0, 7, 0, [], .returned) := rfl
theorem e_X7_advance_7 : lk t_X7_advance 7 = some (.getfield 26, 10, 7, [2, 0], .returned) := rfl
theorem e_X7_advance_10 : lk t_X7_advance 10 = some (.if_icmp .ge 17, 13, 27, [], .returned) := rfl
theorem e_X7_advance_13 : lk t_X7_advance 13 = some (.aload_n 1, 14, 1, [], .returned) := rfl
theorem e_X7_advance_14 : lk t_X7_advance 14 = some (.iload_n 2, 15, 2, [], .returned) := rfl
theorem e_X7_advance_15 : lk t_X7_advance 15 = some (.baload, 16, 0, [], .returned) := rfl
theorem e_X7_advance_16 : lk t_X7_advance 16 = some (.bipush 32, 18, 0, [], .constant "" 0 (32)) := rfl
theorem e_X7_advance_18 : lk t_X7_advance 18 = some (.if_icmp .ne 9, 21, 27, [], .returned) := rfl
theorem e_X7_advance_21 : lk t_X7_advance 21 = some (.iinc 2 1, 24, 2, [], .constant "" 0 (1)) := rfl
theorem e_X7_advance_24 : lk t_X7_advance 24 = some (.goto (-19), 27, 5, [], .returned) := rfl
theorem e_X7_advance_27 : lk t_X7_advance 27 = some (.aload_n 0, 28, 0, [], .returned) := rfl
theorem e_X7_advance_28 : lk t_X7_advance 28 = some (.iload_n 2, 29, 2, [], .returned) := rfl
theorem e_X7_advance_29 : lk t_X7_advance 29 = some (.putfield 232, 32, 7, [0, 0], .returned) := rfl
theorem e_X7_advance_32 : lk t_X7_advance 32 = some (.aload_n 0, 33, 0, [], .returned) := rfl
theorem e_X7_advance_33 : lk t_X7_advance 33 = some (.iload_n 2, 34, 2, [], .returned) := rfl
theorem e_X7_advance_34 : lk t_X7_advance 34 = some (.iconst 1, 35, 0, [], .constant "" 0 (1)) := rfl
theorem e_X7_advance_35 : lk t_X7_advance 35 = some (.iadd, 36, 0, [], .returned) := rfl
theorem e_X7_advance_36 : lk t_X7_advance 36 = some (.putfield 30, 39, 7, [1, 0], .returned) := rfl
theorem e_X7_advance_39 : lk t_X7_advance 39 = some (.aload_n 0, 40, 0, [], .returned) := rfl
theorem e_X7_advance_40 : lk t_X7_advance 40 = some (.lconst 0, 41, 0, [], .constantLong "" 0 (0)) := rfl
theorem e_X7_advance_41 : lk t_X7_advance 41 = some (.putfield 220, 44, 7, [4, 1], .returned) := rfl
theorem e_X7_advance_44 : lk t_X7_advance 44 = some (.iload_n 2, 45, 2, [], .returned) := rfl
theorem e_X7_advance_45 : lk t_X7_advance 45 = some (.aload_n 0, 46, 0, [], .returned) := rfl
theorem e_X7_advance_46 : lk t_X7_advance 46 = some (.getfield 26, 49, 7, [2, 0], .returned) := rfl
theorem e_X7_advance_49 : lk t_X7_advance 49 = some (.if_icmp .lt 19, 52, 68, [], .returned) := rfl
theorem e_X7_advance_52 : lk t_X7_advance 52 = some (.aload_n 0, 53, 0, [], .returned) := rfl
theorem e_X7_advance_53 : lk t_X7_advance 53 = some (.iconst 0, 54, 0, [], .constant "" 0 (0)) := rfl
theorem e_X7_advance_54 : lk t_X7_advance 54 = some (.putfield 59, 57, 7, [3, 0], .returned) := rfl
theorem e_X7_advance_57 : lk t_X7_advance 57 = some (.aload_n 0, 58, 0, [], .returned) := rfl
theorem e_X7_advance_58 : lk t_X7_advance 58 = some (.aload_n 0, 59, 0, [], .returned) := rfl
theorem e_X7_advance_59 : lk t_X7_advance 59 = some (.getfield 26, 62, 7, [2, 0], .returned) := rfl
theorem e_X7_advance_62 : lk t_X7_advance 62 = some (.putfield 30, 65, 7, [1, 0], .returned) := rfl
theorem e_X7_advance_65 : lk t_X7_advance 65 = some (.goto 68, 68, 133, [], .returned) := rfl
theorem e_X7_advance_68 : lk t_X7_advance 68 = some (.aload_n 1, 69, 1, [], .returned) := rfl
theorem e_X7_advance_69 : lk t_X7_advance 69 = some (.iload_n 2, 70, 2, [], .returned) := rfl
theorem e_X7_advance_70 : lk t_X7_advance 70 = some (.baload, 71, 0, [], .returned) := rfl
theorem e_X7_advance_71 : lk t_X7_advance 71 = some (.bipush 97, 73, 0, [], .constant "" 0 (97)) := rfl
theorem e_X7_advance_73 : lk t_X7_advance 73 = some (.if_icmp .lt 19, 76, 92, [], .returned) := rfl
theorem e_X7_advance_76 : lk t_X7_advance 76 = some (.aload_n 1, 77, 1, [], .returned) := rfl
theorem e_X7_advance_77 : lk t_X7_advance 77 = some (.iload_n 2, 78, 2, [], .returned) := rfl
theorem e_X7_advance_78 : lk t_X7_advance 78 = some (.baload, 79, 0, [], .returned) := rfl
theorem e_X7_advance_79 : lk t_X7_advance 79 = some (.bipush 122, 81, 0, [], .constant "" 0 (122)) := rfl
theorem e_X7_advance_81 : lk t_X7_advance 81 = some (.if_icmp .gt 11, 84, 92, [], .returned) := rfl
theorem e_X7_advance_84 : lk t_X7_advance 84 = some (.aload_n 0, 85, 0, [], .returned) := rfl
theorem e_X7_advance_85 : lk t_X7_advance 85 = some (.aload_n 1, 86, 1, [], .returned) := rfl
theorem e_X7_advance_86 : lk t_X7_advance 86 = some (.invokevirtual 235, 89, 0, [1, 7, 0, 0], .code yX7_scanWord cX7_scanWord 3 none) := rfl
theorem e_X7_advance_89 : lk t_X7_advance 89 = some (.goto 44, 92, 133, [], .returned) := rfl
theorem e_X7_advance_92 : lk t_X7_advance 92 = some (.aload_n 1, 93, 1, [], .returned) := rfl
theorem e_X7_advance_93 : lk t_X7_advance 93 = some (.iload_n 2, 94, 2, [], .returned) := rfl
theorem e_X7_advance_94 : lk t_X7_advance 94 = some (.baload, 95, 0, [], .returned) := rfl
theorem e_X7_advance_95 : lk t_X7_advance 95 = some (.bipush 48, 97, 0, [], .constant "" 0 (48)) := rfl
theorem e_X7_advance_97 : lk t_X7_advance 97 = some (.if_icmp .lt 19, 100, 116, [], .returned) := rfl
theorem e_X7_advance_100 : lk t_X7_advance 100 = some (.aload_n 1, 101, 1, [], .returned) := rfl
theorem e_X7_advance_101 : lk t_X7_advance 101 = some (.iload_n 2, 102, 2, [], .returned) := rfl
theorem e_X7_advance_102 : lk t_X7_advance 102 = some (.baload, 103, 0, [], .returned) := rfl
theorem e_X7_advance_103 : lk t_X7_advance 103 = some (.bipush 57, 105, 0, [], .constant "" 0 (57)) := rfl
theorem e_X7_advance_105 : lk t_X7_advance 105 = some (.if_icmp .gt 11, 108, 116, [], .returned) := rfl
theorem e_X7_advance_108 : lk t_X7_advance 108 = some (.aload_n 0, 109, 0, [], .returned) := rfl
theorem e_X7_advance_109 : lk t_X7_advance 109 = some (.aload_n 1, 110, 1, [], .returned) := rfl
theorem e_X7_advance_110 : lk t_X7_advance 110 = some (.invokevirtual 238, 113, 0, [1, 7, 0, 0], .code yX7_scanWhole cX7_scanWhole 3 none) := rfl
theorem e_X7_advance_113 : lk t_X7_advance 113 = some (.goto 20, 116, 133, [], .returned) := rfl
theorem e_X7_advance_116 : lk t_X7_advance 116 = some (.aload_n 0, 117, 0, [], .returned) := rfl
theorem e_X7_advance_117 : lk t_X7_advance 117 = some (.aload_n 1, 118, 1, [], .returned) := rfl
theorem e_X7_advance_118 : lk t_X7_advance 118 = some (.iload_n 2, 119, 2, [], .returned) := rfl
theorem e_X7_advance_119 : lk t_X7_advance 119 = some (.baload, 120, 0, [], .returned) := rfl
theorem e_X7_advance_120 : lk t_X7_advance 120 = some (.bipush 59, 122, 0, [], .constant "" 0 (59)) := rfl
theorem e_X7_advance_122 : lk t_X7_advance 122 = some (.if_icmp .ne 7, 125, 129, [], .returned) := rfl
theorem e_X7_advance_125 : lk t_X7_advance 125 = some (.iconst 3, 126, 0, [], .constant "" 0 (3)) := rfl
theorem e_X7_advance_126 : lk t_X7_advance 126 = some (.goto 4, 129, 130, [], .returned) := rfl
theorem e_X7_advance_129 : lk t_X7_advance 129 = some (.iconst 4, 130, 0, [], .constant "" 0 (4)) := rfl
theorem e_X7_advance_130 : lk t_X7_advance 130 = some (.putfield 59, 133, 7, [3, 0], .returned) := rfl
theorem e_X7_advance_133 : lk t_X7_advance 133 = some (.return_, 134, 0, [], .returned) := rfl
abbrev q_X7_scanWord : MI := (yX7_scanWord, cX7_scanWord, 3, none)
def t_X7_scanWord : Tab := [(0, [], (.aload_n 0, 1, 0, [], .returned)),
  (1, [146], (.getfield 232, 4, 7, [0, 0], .returned)),
  (4, [], (.istore_n 2, 5, 2, [], .returned)),
  (5, [], (.iload_n 2, 6, 2, [], .returned)),
  (6, [], (.aload_n 0, 7, 0, [], .returned)),
  (7, [148], (.getfield 26, 10, 7, [2, 0], .returned)),
  (10, [], (.if_icmp .ge 41, 13, 51, [], .returned)),
  (13, [], (.aload_n 1, 14, 1, [], .returned)),
  (14, [], (.iload_n 2, 15, 2, [], .returned)),
  (15, [], (.baload, 16, 0, [], .returned)),
  (16, [], (.bipush 97, 18, 0, [], .constant "" 0 (97))),
  (18, [], (.if_icmp .lt 33, 21, 51, [], .returned)),
  (21, [], (.aload_n 1, 22, 1, [], .returned)),
  (22, [], (.iload_n 2, 23, 2, [], .returned)),
  (23, [], (.baload, 24, 0, [], .returned)),
  (24, [], (.bipush 122, 26, 0, [], .constant "" 0 (122))),
  (26, [], (.if_icmp .gt 25, 29, 51, [], .returned)),
  (29, [], (.aload_n 0, 30, 0, [], .returned)),
  (30, [], (.aload_n 0, 31, 0, [], .returned)),
  (31, [150], (.getfield 220, 34, 7, [4, 1], .returned)),
  (34, [], (.bipush 8, 36, 0, [], .constant "" 0 (8))),
  (36, [], (.lshl, 37, 0, [], .returned)),
  (37, [], (.aload_n 1, 38, 1, [], .returned)),
  (38, [], (.iload_n 2, 39, 2, [], .returned)),
  (39, [], (.baload, 40, 0, [], .returned)),
  (40, [], (.i2l, 41, 0, [], .returned)),
  (41, [], (.lor, 42, 0, [], .returned)),
  (42, [150], (.putfield 220, 45, 7, [4, 1], .returned)),
  (45, [], (.iinc 2 1, 48, 2, [], .constant "" 0 (1))),
  (48, [], (.goto (-43), 51, 5, [], .returned)),
  (51, [], (.aload_n 0, 52, 0, [], .returned)),
  (52, [], (.iload_n 2, 53, 2, [], .returned)),
  (53, [147], (.putfield 30, 56, 7, [1, 0], .returned)),
  (56, [], (.aload_n 0, 57, 0, [], .returned)),
  (57, [], (.iload_n 2, 58, 2, [], .returned)),
  (58, [], (.aload_n 0, 59, 0, [], .returned)),
  (59, [146], (.getfield 232, 62, 7, [0, 0], .returned)),
  (62, [], (.isub, 63, 0, [], .returned)),
  (63, [], (.bipush 6, 65, 0, [], .constant "" 0 (6))),
  (65, [], (.if_icmp .gt 7, 68, 72, [], .returned)),
  (68, [], (.iconst 1, 69, 0, [], .constant "" 0 (1))),
  (69, [], (.goto 4, 72, 73, [], .returned)),
  (72, [], (.iconst 4, 73, 0, [], .constant "" 0 (4))),
  (73, [149], (.putfield 59, 76, 7, [3, 0], .returned)),
  (76, [], (.return_, 77, 0, [], .returned))]
theorem ck_X7_scanWord : okT q_X7_scanWord t_X7_scanWord = true := by decide +kernel
theorem e_X7_scanWord_0 : lk t_X7_scanWord 0 = some (.aload_n 0, 1, 0, [], .returned) := rfl
theorem e_X7_scanWord_1 : lk t_X7_scanWord 1 = some (.getfield 232, 4, 7, [0, 0], .returned) := rfl
theorem e_X7_scanWord_4 : lk t_X7_scanWord 4 = some (.istore_n 2, 5, 2, [], .returned) := rfl
theorem e_X7_scanWord_5 : lk t_X7_scanWord 5 = some (.iload_n 2, 6, 2, [], .returned) := rfl
theorem e_X7_scanWord_6 : lk t_X7_scanWord 6 = some (.aload_n 0, 7, 0, [], .returned) := rfl
theorem e_X7_scanWord_7 : lk t_X7_scanWord 7 = some (.getfield 26, 10, 7, [2, 0], .returned) := rfl
theorem e_X7_scanWord_10 : lk t_X7_scanWord 10 = some (.if_icmp .ge 41, 13, 51, [], .returned) := rfl
theorem e_X7_scanWord_13 : lk t_X7_scanWord 13 = some (.aload_n 1, 14, 1, [], .returned) := rfl
theorem e_X7_scanWord_14 : lk t_X7_scanWord 14 = some (.iload_n 2, 15, 2, [], .returned) := rfl
theorem e_X7_scanWord_15 : lk t_X7_scanWord 15 = some (.baload, 16, 0, [], .returned) := rfl
theorem e_X7_scanWord_16 : lk t_X7_scanWord 16 = some (.bipush 97, 18, 0, [], .constant "" 0 (97)) := rfl
theorem e_X7_scanWord_18 : lk t_X7_scanWord 18 = some (.if_icmp .lt 33, 21, 51, [], .returned) := rfl
theorem e_X7_scanWord_21 : lk t_X7_scanWord 21 = some (.aload_n 1, 22, 1, [], .returned) := rfl
theorem e_X7_scanWord_22 : lk t_X7_scanWord 22 = some (.iload_n 2, 23, 2, [], .returned) := rfl
theorem e_X7_scanWord_23 : lk t_X7_scanWord 23 = some (.baload, 24, 0, [], .returned) := rfl
theorem e_X7_scanWord_24 : lk t_X7_scanWord 24 = some (.bipush 122, 26, 0, [], .constant "" 0 (122)) := rfl
theorem e_X7_scanWord_26 : lk t_X7_scanWord 26 = some (.if_icmp .gt 25, 29, 51, [], .returned) := rfl
theorem e_X7_scanWord_29 : lk t_X7_scanWord 29 = some (.aload_n 0, 30, 0, [], .returned) := rfl
theorem e_X7_scanWord_30 : lk t_X7_scanWord 30 = some (.aload_n 0, 31, 0, [], .returned) := rfl
theorem e_X7_scanWord_31 : lk t_X7_scanWord 31 = some (.getfield 220, 34, 7, [4, 1], .returned) := rfl
theorem e_X7_scanWord_34 : lk t_X7_scanWord 34 = some (.bipush 8, 36, 0, [], .constant "" 0 (8)) := rfl
theorem e_X7_scanWord_36 : lk t_X7_scanWord 36 = some (.lshl, 37, 0, [], .returned) := rfl
theorem e_X7_scanWord_37 : lk t_X7_scanWord 37 = some (.aload_n 1, 38, 1, [], .returned) := rfl
theorem e_X7_scanWord_38 : lk t_X7_scanWord 38 = some (.iload_n 2, 39, 2, [], .returned) := rfl
theorem e_X7_scanWord_39 : lk t_X7_scanWord 39 = some (.baload, 40, 0, [], .returned) := rfl
theorem e_X7_scanWord_40 : lk t_X7_scanWord 40 = some (.i2l, 41, 0, [], .returned) := rfl
theorem e_X7_scanWord_41 : lk t_X7_scanWord 41 = some (.lor, 42, 0, [], .returned) := rfl
theorem e_X7_scanWord_42 : lk t_X7_scanWord 42 = some (.putfield 220, 45, 7, [4, 1], .returned) := rfl
theorem e_X7_scanWord_45 : lk t_X7_scanWord 45 = some (.iinc 2 1, 48, 2, [], .constant "" 0 (1)) := rfl
theorem e_X7_scanWord_48 : lk t_X7_scanWord 48 = some (.goto (-43), 51, 5, [], .returned) := rfl
theorem e_X7_scanWord_51 : lk t_X7_scanWord 51 = some (.aload_n 0, 52, 0, [], .returned) := rfl
theorem e_X7_scanWord_52 : lk t_X7_scanWord 52 = some (.iload_n 2, 53, 2, [], .returned) := rfl
theorem e_X7_scanWord_53 : lk t_X7_scanWord 53 = some (.putfield 30, 56, 7, [1, 0], .returned) := rfl
theorem e_X7_scanWord_56 : lk t_X7_scanWord 56 = some (.aload_n 0, 57, 0, [], .returned) := rfl
theorem e_X7_scanWord_57 : lk t_X7_scanWord 57 = some (.iload_n 2, 58, 2, [], .returned) := rfl
theorem e_X7_scanWord_58 : lk t_X7_scanWord 58 = some (.aload_n 0, 59, 0, [], .returned) := rfl
theorem e_X7_scanWord_59 : lk t_X7_scanWord 59 = some (.getfield 232, 62, 7, [0, 0], .returned) := rfl
theorem e_X7_scanWord_62 : lk t_X7_scanWord 62 = some (.isub, 63, 0, [], .returned) := rfl
theorem e_X7_scanWord_63 : lk t_X7_scanWord 63 = some (.bipush 6, 65, 0, [], .constant "" 0 (6)) := rfl
theorem e_X7_scanWord_65 : lk t_X7_scanWord 65 = some (.if_icmp .gt 7, 68, 72, [], .returned) := rfl
theorem e_X7_scanWord_68 : lk t_X7_scanWord 68 = some (.iconst 1, 69, 0, [], .constant "" 0 (1)) := rfl
theorem e_X7_scanWord_69 : lk t_X7_scanWord 69 = some (.goto 4, 72, 73, [], .returned) := rfl
theorem e_X7_scanWord_72 : lk t_X7_scanWord 72 = some (.iconst 4, 73, 0, [], .constant "" 0 (4)) := rfl
theorem e_X7_scanWord_73 : lk t_X7_scanWord 73 = some (.putfield 59, 76, 7, [3, 0], .returned) := rfl
theorem e_X7_scanWord_76 : lk t_X7_scanWord 76 = some (.return_, 77, 0, [], .returned) := rfl
abbrev q_X7_scanWhole : MI := (yX7_scanWhole, cX7_scanWhole, 3, none)
def t_X7_scanWhole : Tab := [(0, [], (.aload_n 0, 1, 0, [], .returned)),
  (1, [146], (.getfield 232, 4, 7, [0, 0], .returned)),
  (4, [], (.istore_n 2, 5, 2, [], .returned)),
  (5, [], (.iload_n 2, 6, 2, [], .returned)),
  (6, [], (.aload_n 0, 7, 0, [], .returned)),
  (7, [148], (.getfield 26, 10, 7, [2, 0], .returned)),
  (10, [], (.if_icmp .ge 46, 13, 56, [], .returned)),
  (13, [], (.aload_n 1, 14, 1, [], .returned)),
  (14, [], (.iload_n 2, 15, 2, [], .returned)),
  (15, [], (.baload, 16, 0, [], .returned)),
  (16, [], (.bipush 48, 18, 0, [], .constant "" 0 (48))),
  (18, [], (.if_icmp .lt 38, 21, 56, [], .returned)),
  (21, [], (.aload_n 1, 22, 1, [], .returned)),
  (22, [], (.iload_n 2, 23, 2, [], .returned)),
  (23, [], (.baload, 24, 0, [], .returned)),
  (24, [], (.bipush 57, 26, 0, [], .constant "" 0 (57))),
  (26, [], (.if_icmp .gt 30, 29, 56, [], .returned)),
  (29, [], (.aload_n 0, 30, 0, [], .returned)),
  (30, [], (.aload_n 0, 31, 0, [], .returned)),
  (31, [150], (.getfield 220, 34, 7, [4, 1], .returned)),
  (34, [516], (.ldc2_w 241, 37, 0, [], .constantLong "" 0 (10))),
  (37, [], (.lmul, 38, 0, [], .returned)),
  (38, [], (.aload_n 1, 39, 1, [], .returned)),
  (39, [], (.iload_n 2, 40, 2, [], .returned)),
  (40, [], (.baload, 41, 0, [], .returned)),
  (41, [], (.i2l, 42, 0, [], .returned)),
  (42, [], (.ladd, 43, 0, [], .returned)),
  (43, [517], (.ldc2_w 243, 46, 0, [], .constantLong "" 0 (48))),
  (46, [], (.lsub, 47, 0, [], .returned)),
  (47, [150], (.putfield 220, 50, 7, [4, 1], .returned)),
  (50, [], (.iinc 2 1, 53, 2, [], .constant "" 0 (1))),
  (53, [], (.goto (-48), 56, 5, [], .returned)),
  (56, [], (.aload_n 0, 57, 0, [], .returned)),
  (57, [], (.iload_n 2, 58, 2, [], .returned)),
  (58, [147], (.putfield 30, 61, 7, [1, 0], .returned)),
  (61, [], (.aload_n 0, 62, 0, [], .returned)),
  (62, [], (.iload_n 2, 63, 2, [], .returned)),
  (63, [], (.aload_n 0, 64, 0, [], .returned)),
  (64, [146], (.getfield 232, 67, 7, [0, 0], .returned)),
  (67, [], (.isub, 68, 0, [], .returned)),
  (68, [], (.iconst 5, 69, 0, [], .constant "" 0 (5))),
  (69, [], (.if_icmp .gt 7, 72, 76, [], .returned)),
  (72, [], (.iconst 2, 73, 0, [], .constant "" 0 (2))),
  (73, [], (.goto 4, 76, 77, [], .returned)),
  (76, [], (.iconst 4, 77, 0, [], .constant "" 0 (4))),
  (77, [149], (.putfield 59, 80, 7, [3, 0], .returned)),
  (80, [], (.return_, 81, 0, [], .returned))]
theorem ck_X7_scanWhole : okT q_X7_scanWhole t_X7_scanWhole = true := by decide +kernel
theorem e_X7_scanWhole_0 : lk t_X7_scanWhole 0 = some (.aload_n 0, 1, 0, [], .returned) := rfl
theorem e_X7_scanWhole_1 : lk t_X7_scanWhole 1 = some (.getfield 232, 4, 7, [0, 0], .returned) := rfl
theorem e_X7_scanWhole_4 : lk t_X7_scanWhole 4 = some (.istore_n 2, 5, 2, [], .returned) := rfl
theorem e_X7_scanWhole_5 : lk t_X7_scanWhole 5 = some (.iload_n 2, 6, 2, [], .returned) := rfl
theorem e_X7_scanWhole_6 : lk t_X7_scanWhole 6 = some (.aload_n 0, 7, 0, [], .returned) := rfl
theorem e_X7_scanWhole_7 : lk t_X7_scanWhole 7 = some (.getfield 26, 10, 7, [2, 0], .returned) := rfl
theorem e_X7_scanWhole_10 : lk t_X7_scanWhole 10 = some (.if_icmp .ge 46, 13, 56, [], .returned) := rfl
theorem e_X7_scanWhole_13 : lk t_X7_scanWhole 13 = some (.aload_n 1, 14, 1, [], .returned) := rfl
theorem e_X7_scanWhole_14 : lk t_X7_scanWhole 14 = some (.iload_n 2, 15, 2, [], .returned) := rfl
theorem e_X7_scanWhole_15 : lk t_X7_scanWhole 15 = some (.baload, 16, 0, [], .returned) := rfl
theorem e_X7_scanWhole_16 : lk t_X7_scanWhole 16 = some (.bipush 48, 18, 0, [], .constant "" 0 (48)) := rfl
theorem e_X7_scanWhole_18 : lk t_X7_scanWhole 18 = some (.if_icmp .lt 38, 21, 56, [], .returned) := rfl
theorem e_X7_scanWhole_21 : lk t_X7_scanWhole 21 = some (.aload_n 1, 22, 1, [], .returned) := rfl
theorem e_X7_scanWhole_22 : lk t_X7_scanWhole 22 = some (.iload_n 2, 23, 2, [], .returned) := rfl
theorem e_X7_scanWhole_23 : lk t_X7_scanWhole 23 = some (.baload, 24, 0, [], .returned) := rfl
theorem e_X7_scanWhole_24 : lk t_X7_scanWhole 24 = some (.bipush 57, 26, 0, [], .constant "" 0 (57)) := rfl
theorem e_X7_scanWhole_26 : lk t_X7_scanWhole 26 = some (.if_icmp .gt 30, 29, 56, [], .returned) := rfl
theorem e_X7_scanWhole_29 : lk t_X7_scanWhole 29 = some (.aload_n 0, 30, 0, [], .returned) := rfl
theorem e_X7_scanWhole_30 : lk t_X7_scanWhole 30 = some (.aload_n 0, 31, 0, [], .returned) := rfl
theorem e_X7_scanWhole_31 : lk t_X7_scanWhole 31 = some (.getfield 220, 34, 7, [4, 1], .returned) := rfl
theorem e_X7_scanWhole_34 : lk t_X7_scanWhole 34 = some (.ldc2_w 241, 37, 0, [], .constantLong "" 0 (10)) := rfl
theorem e_X7_scanWhole_37 : lk t_X7_scanWhole 37 = some (.lmul, 38, 0, [], .returned) := rfl
theorem e_X7_scanWhole_38 : lk t_X7_scanWhole 38 = some (.aload_n 1, 39, 1, [], .returned) := rfl
theorem e_X7_scanWhole_39 : lk t_X7_scanWhole 39 = some (.iload_n 2, 40, 2, [], .returned) := rfl
theorem e_X7_scanWhole_40 : lk t_X7_scanWhole 40 = some (.baload, 41, 0, [], .returned) := rfl
theorem e_X7_scanWhole_41 : lk t_X7_scanWhole 41 = some (.i2l, 42, 0, [], .returned) := rfl
theorem e_X7_scanWhole_42 : lk t_X7_scanWhole 42 = some (.ladd, 43, 0, [], .returned) := rfl
theorem e_X7_scanWhole_43 : lk t_X7_scanWhole 43 = some (.ldc2_w 243, 46, 0, [], .constantLong "" 0 (48)) := rfl
theorem e_X7_scanWhole_46 : lk t_X7_scanWhole 46 = some (.lsub, 47, 0, [], .returned) := rfl
theorem e_X7_scanWhole_47 : lk t_X7_scanWhole 47 = some (.putfield 220, 50, 7, [4, 1], .returned) := rfl
theorem e_X7_scanWhole_50 : lk t_X7_scanWhole 50 = some (.iinc 2 1, 53, 2, [], .constant "" 0 (1)) := rfl
theorem e_X7_scanWhole_53 : lk t_X7_scanWhole 53 = some (.goto (-48), 56, 5, [], .returned) := rfl
theorem e_X7_scanWhole_56 : lk t_X7_scanWhole 56 = some (.aload_n 0, 57, 0, [], .returned) := rfl
theorem e_X7_scanWhole_57 : lk t_X7_scanWhole 57 = some (.iload_n 2, 58, 2, [], .returned) := rfl
theorem e_X7_scanWhole_58 : lk t_X7_scanWhole 58 = some (.putfield 30, 61, 7, [1, 0], .returned) := rfl
theorem e_X7_scanWhole_61 : lk t_X7_scanWhole 61 = some (.aload_n 0, 62, 0, [], .returned) := rfl
theorem e_X7_scanWhole_62 : lk t_X7_scanWhole 62 = some (.iload_n 2, 63, 2, [], .returned) := rfl
theorem e_X7_scanWhole_63 : lk t_X7_scanWhole 63 = some (.aload_n 0, 64, 0, [], .returned) := rfl
theorem e_X7_scanWhole_64 : lk t_X7_scanWhole 64 = some (.getfield 232, 67, 7, [0, 0], .returned) := rfl
theorem e_X7_scanWhole_67 : lk t_X7_scanWhole 67 = some (.isub, 68, 0, [], .returned) := rfl
theorem e_X7_scanWhole_68 : lk t_X7_scanWhole 68 = some (.iconst 5, 69, 0, [], .constant "" 0 (5)) := rfl
theorem e_X7_scanWhole_69 : lk t_X7_scanWhole 69 = some (.if_icmp .gt 7, 72, 76, [], .returned) := rfl
theorem e_X7_scanWhole_72 : lk t_X7_scanWhole 72 = some (.iconst 2, 73, 0, [], .constant "" 0 (2)) := rfl
theorem e_X7_scanWhole_73 : lk t_X7_scanWhole 73 = some (.goto 4, 76, 77, [], .returned) := rfl
theorem e_X7_scanWhole_76 : lk t_X7_scanWhole 76 = some (.iconst 4, 77, 0, [], .constant "" 0 (4)) := rfl
theorem e_X7_scanWhole_77 : lk t_X7_scanWhole 77 = some (.putfield 59, 80, 7, [3, 0], .returned) := rfl
theorem e_X7_scanWhole_80 : lk t_X7_scanWhole 80 = some (.return_, 81, 0, [], .returned) := rfl
