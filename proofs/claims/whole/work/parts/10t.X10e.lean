abbrev q_X10_pastOf : MI := (yX10_pastOf, cX10_pastOf, 5, (some .int))
def t_X10_pastOf : Tab := [(0, [], (.aload_n 0, 1, 0, [], .returned)),
  (1, [], (.iconst 0, 2, 0, [], .constant "" 0 (0))),
  (2, [1049], (.putfield 65, 5, 10, [0, 0], .returned)),
  (5, [], (.aload_n 0, 6, 0, [], .returned)),
  (6, [], (.iload_n 1, 7, 1, [], .returned)),
  (7, [1421, 1424, 1423, 70, 102], (.invokevirtual 338, 10, 0, [1, 10, 0, 0], .code yX10_isPast cX10_isPast 2 (some .boolean))),
  (10, [], (.ifCond .eq 20, 13, 30, [], .returned)),
  (13, [], (.aload_n 0, 14, 0, [], .returned)),
  (14, [], (.iload_n 2, 15, 2, [], .returned)),
  (15, [1360, 1363, 1362, 63, 102], (.invokevirtual 325, 18, 0, [1, 10, 0, 0], .code yX10_isOrder cX10_isOrder 2 (some .boolean))),
  (18, [], (.ifCond .eq 12, 21, 30, [], .returned)),
  (21, [], (.iload_n 3, 22, 3, [], .returned)),
  (22, [], (.iconst 0, 23, 0, [], .constant "" 0 (0))),
  (23, [], (.iconst 1, 24, 0, [], .constant "" 0 (1))),
  (24, [1174, 1176, 1175, 102], (.invokestatic 90, 27, 0, [3, 0, 0], .code yX10_in cX10_in 3 (some .boolean))),
  (27, [], (.ifCond .ne 9, 30, 36, [], .returned)),
  (30, [], (.aload_n 0, 31, 0, [], .returned)),
  (31, [], (.iconst 1, 32, 0, [], .constant "" 0 (1))),
  (32, [1158, 1161, 1160, 35, 102], (.invokevirtual 218, 35, 0, [1, 10, 0, 0], .code yX10_refused cX10_refused 2 (some .int))),
  (35, [], (.ireturn, 36, 0, [], .returned)),
  (36, [], (.bipush 6, 38, 0, [], .constant "" 0 (6))),
  (38, [], (.aload_n 0, 39, 0, [], .returned)),
  (39, [1080], (.getfield 229, 42, 10, [31, 0], .returned)),
  (42, [], (.iconst 1, 43, 0, [], .constant "" 0 (1))),
  (43, [], (.isub, 44, 0, [], .returned)),
  (44, [], (.iload_n 1, 45, 1, [], .returned)),
  (45, [], (.isub, 46, 0, [], .returned)),
  (46, [], (.imul, 47, 0, [], .returned)),
  (47, [], (.iload_n 2, 48, 2, [], .returned)),
  (48, [], (.iadd, 49, 0, [], .returned)),
  (49, [], (.istore 4, 51, 4, [], .returned)),
  (51, [], (.aload_n 0, 52, 0, [], .returned)),
  (52, [], (.iload_n 3, 53, 3, [], .returned)),
  (53, [], (.ifCond .ne 13, 56, 66, [], .returned)),
  (56, [], (.aload_n 0, 57, 0, [], .returned)),
  (57, [1078], (.getfield 59, 60, 10, [29, 2], .returned)),
  (60, [], (.iload 4, 62, 4, [], .returned)),
  (62, [], (.iaload, 63, 0, [], .returned)),
  (63, [], (.goto 10, 66, 73, [], .returned)),
  (66, [], (.aload_n 0, 67, 0, [], .returned)),
  (67, [1079], (.getfield 62, 70, 10, [30, 2], .returned)),
  (70, [], (.iload 4, 72, 4, [], .returned)),
  (72, [], (.iaload, 73, 0, [], .returned)),
  (73, [1316, 1319, 1318, 57, 102], (.invokevirtual 232, 76, 0, [1, 10, 0, 0], .code yX10_good cX10_good 2 (some .int))),
  (76, [], (.ireturn, 77, 0, [], .returned))]
theorem ck_X10_pastOf : okT q_X10_pastOf t_X10_pastOf = true := by decide +kernel
theorem e_X10_pastOf_0 : lk t_X10_pastOf 0 = some (.aload_n 0, 1, 0, [], .returned) := rfl
theorem e_X10_pastOf_1 : lk t_X10_pastOf 1 = some (.iconst 0, 2, 0, [], .constant "" 0 (0)) := rfl
theorem e_X10_pastOf_2 : lk t_X10_pastOf 2 = some (.putfield 65, 5, 10, [0, 0], .returned) := rfl
theorem e_X10_pastOf_5 : lk t_X10_pastOf 5 = some (.aload_n 0, 6, 0, [], .returned) := rfl
theorem e_X10_pastOf_6 : lk t_X10_pastOf 6 = some (.iload_n 1, 7, 1, [], .returned) := rfl
theorem e_X10_pastOf_7 : lk t_X10_pastOf 7 = some (.invokevirtual 338, 10, 0, [1, 10, 0, 0], .code yX10_isPast cX10_isPast 2 (some .boolean)) := rfl
theorem e_X10_pastOf_10 : lk t_X10_pastOf 10 = some (.ifCond .eq 20, 13, 30, [], .returned) := rfl
theorem e_X10_pastOf_13 : lk t_X10_pastOf 13 = some (.aload_n 0, 14, 0, [], .returned) := rfl
theorem e_X10_pastOf_14 : lk t_X10_pastOf 14 = some (.iload_n 2, 15, 2, [], .returned) := rfl
theorem e_X10_pastOf_15 : lk t_X10_pastOf 15 = some (.invokevirtual 325, 18, 0, [1, 10, 0, 0], .code yX10_isOrder cX10_isOrder 2 (some .boolean)) := rfl
theorem e_X10_pastOf_18 : lk t_X10_pastOf 18 = some (.ifCond .eq 12, 21, 30, [], .returned) := rfl
theorem e_X10_pastOf_21 : lk t_X10_pastOf 21 = some (.iload_n 3, 22, 3, [], .returned) := rfl
theorem e_X10_pastOf_22 : lk t_X10_pastOf 22 = some (.iconst 0, 23, 0, [], .constant "" 0 (0)) := rfl
theorem e_X10_pastOf_23 : lk t_X10_pastOf 23 = some (.iconst 1, 24, 0, [], .constant "" 0 (1)) := rfl
theorem e_X10_pastOf_24 : lk t_X10_pastOf 24 = some (.invokestatic 90, 27, 0, [3, 0, 0], .code yX10_in cX10_in 3 (some .boolean)) := rfl
theorem e_X10_pastOf_27 : lk t_X10_pastOf 27 = some (.ifCond .ne 9, 30, 36, [], .returned) := rfl
theorem e_X10_pastOf_30 : lk t_X10_pastOf 30 = some (.aload_n 0, 31, 0, [], .returned) := rfl
theorem e_X10_pastOf_31 : lk t_X10_pastOf 31 = some (.iconst 1, 32, 0, [], .constant "" 0 (1)) := rfl
theorem e_X10_pastOf_32 : lk t_X10_pastOf 32 = some (.invokevirtual 218, 35, 0, [1, 10, 0, 0], .code yX10_refused cX10_refused 2 (some .int)) := rfl
theorem e_X10_pastOf_35 : lk t_X10_pastOf 35 = some (.ireturn, 36, 0, [], .returned) := rfl
theorem e_X10_pastOf_36 : lk t_X10_pastOf 36 = some (.bipush 6, 38, 0, [], .constant "" 0 (6)) := rfl
theorem e_X10_pastOf_38 : lk t_X10_pastOf 38 = some (.aload_n 0, 39, 0, [], .returned) := rfl
theorem e_X10_pastOf_39 : lk t_X10_pastOf 39 = some (.getfield 229, 42, 10, [31, 0], .returned) := rfl
theorem e_X10_pastOf_42 : lk t_X10_pastOf 42 = some (.iconst 1, 43, 0, [], .constant "" 0 (1)) := rfl
theorem e_X10_pastOf_43 : lk t_X10_pastOf 43 = some (.isub, 44, 0, [], .returned) := rfl
theorem e_X10_pastOf_44 : lk t_X10_pastOf 44 = some (.iload_n 1, 45, 1, [], .returned) := rfl
theorem e_X10_pastOf_45 : lk t_X10_pastOf 45 = some (.isub, 46, 0, [], .returned) := rfl
theorem e_X10_pastOf_46 : lk t_X10_pastOf 46 = some (.imul, 47, 0, [], .returned) := rfl
theorem e_X10_pastOf_47 : lk t_X10_pastOf 47 = some (.iload_n 2, 48, 2, [], .returned) := rfl
theorem e_X10_pastOf_48 : lk t_X10_pastOf 48 = some (.iadd, 49, 0, [], .returned) := rfl
theorem e_X10_pastOf_49 : lk t_X10_pastOf 49 = some (.istore 4, 51, 4, [], .returned) := rfl
theorem e_X10_pastOf_51 : lk t_X10_pastOf 51 = some (.aload_n 0, 52, 0, [], .returned) := rfl
theorem e_X10_pastOf_52 : lk t_X10_pastOf 52 = some (.iload_n 3, 53, 3, [], .returned) := rfl
theorem e_X10_pastOf_53 : lk t_X10_pastOf 53 = some (.ifCond .ne 13, 56, 66, [], .returned) := rfl
theorem e_X10_pastOf_56 : lk t_X10_pastOf 56 = some (.aload_n 0, 57, 0, [], .returned) := rfl
theorem e_X10_pastOf_57 : lk t_X10_pastOf 57 = some (.getfield 59, 60, 10, [29, 2], .returned) := rfl
theorem e_X10_pastOf_60 : lk t_X10_pastOf 60 = some (.iload 4, 62, 4, [], .returned) := rfl
theorem e_X10_pastOf_62 : lk t_X10_pastOf 62 = some (.iaload, 63, 0, [], .returned) := rfl
theorem e_X10_pastOf_63 : lk t_X10_pastOf 63 = some (.goto 10, 66, 73, [], .returned) := rfl
theorem e_X10_pastOf_66 : lk t_X10_pastOf 66 = some (.aload_n 0, 67, 0, [], .returned) := rfl
theorem e_X10_pastOf_67 : lk t_X10_pastOf 67 = some (.getfield 62, 70, 10, [30, 2], .returned) := rfl
theorem e_X10_pastOf_70 : lk t_X10_pastOf 70 = some (.iload 4, 72, 4, [], .returned) := rfl
theorem e_X10_pastOf_72 : lk t_X10_pastOf 72 = some (.iaload, 73, 0, [], .returned) := rfl
theorem e_X10_pastOf_73 : lk t_X10_pastOf 73 = some (.invokevirtual 232, 76, 0, [1, 10, 0, 0], .code yX10_good cX10_good 2 (some .int)) := rfl
theorem e_X10_pastOf_76 : lk t_X10_pastOf 76 = some (.ireturn, 77, 0, [], .returned) := rfl
abbrev q_X10_would : MI := (yX10_would, cX10_would, 5, (some .int))
def t_X10_would : Tab := [(0, [], (.aload_n 0, 1, 0, [], .returned)),
  (1, [], (.iconst 0, 2, 0, [], .constant "" 0 (0))),
  (2, [1049], (.putfield 65, 5, 10, [0, 0], .returned)),
  (5, [], (.aload_n 0, 6, 0, [], .returned)),
  (6, [], (.iload_n 1, 7, 1, [], .returned)),
  (7, [1372, 1375, 1374, 65, 102], (.invokevirtual 332, 10, 0, [1, 10, 0, 0], .code yX10_isPayer cX10_isPayer 2 (some .boolean))),
  (10, [], (.ifCond .eq 21, 13, 31, [], .returned)),
  (13, [], (.aload_n 0, 14, 0, [], .returned)),
  (14, [], (.iload_n 3, 15, 3, [], .returned)),
  (15, [1360, 1363, 1362, 63, 102], (.invokevirtual 325, 18, 0, [1, 10, 0, 0], .code yX10_isOrder cX10_isOrder 2 (some .boolean))),
  (18, [], (.ifCond .eq 13, 21, 31, [], .returned)),
  (21, [], (.iload 4, 23, 4, [], .returned)),
  (23, [], (.iconst 0, 24, 0, [], .constant "" 0 (0))),
  (24, [], (.iconst 2, 25, 0, [], .constant "" 0 (2))),
  (25, [1174, 1176, 1175, 102], (.invokestatic 90, 28, 0, [3, 0, 0], .code yX10_in cX10_in 3 (some .boolean))),
  (28, [], (.ifCond .ne 9, 31, 37, [], .returned)),
  (31, [], (.aload_n 0, 32, 0, [], .returned)),
  (32, [], (.iconst 1, 33, 0, [], .constant "" 0 (1))),
  (33, [1158, 1161, 1160, 35, 102], (.invokevirtual 218, 36, 0, [1, 10, 0, 0], .code yX10_refused cX10_refused 2 (some .int))),
  (36, [], (.ireturn, 37, 0, [], .returned)),
  (37, [], (.iload_n 2, 38, 2, [], .returned)),
  (38, [1380, 1382, 1381, 102], (.invokestatic 335, 41, 0, [1, 0, 0], .code yX10_isNet cX10_isNet 1 (some .boolean))),
  (41, [], (.ifCond .ne 9, 44, 50, [], .returned)),
  (44, [], (.aload_n 0, 45, 0, [], .returned)),
  (45, [], (.iconst 2, 46, 0, [], .constant "" 0 (2))),
  (46, [1158, 1161, 1160, 35, 102], (.invokevirtual 218, 49, 0, [1, 10, 0, 0], .code yX10_refused cX10_refused 2 (some .int))),
  (49, [], (.ireturn, 50, 0, [], .returned)),
  (50, [], (.aload_n 0, 51, 0, [], .returned)),
  (51, [], (.iconst 0, 52, 0, [], .constant "" 0 (0))),
  (52, [], (.iload_n 1, 53, 1, [], .returned)),
  (53, [], (.iload_n 2, 54, 2, [], .returned)),
  (54, [1433, 1436, 1435, 71, 102], (.invokevirtual 309, 57, 0, [3, 10, 0, 0], .code yX10_shares_ cX10_shares_ 5 none)),
  (57, [], (.aload_n 0, 58, 0, [], .returned)),
  (58, [], (.iload 4, 60, 4, [], .returned)),
  (60, [], (.ifCond .ne 12, 63, 72, [], .returned)),
  (63, [], (.aload_n 0, 64, 0, [], .returned)),
  (64, [1074], (.getfield 50, 67, 10, [25, 2], .returned)),
  (67, [], (.iload_n 3, 68, 3, [], .returned)),
  (68, [], (.iaload, 69, 0, [], .returned)),
  (69, [], (.goto 25, 72, 94, [], .returned)),
  (72, [], (.iload 4, 74, 4, [], .returned)),
  (74, [], (.iconst 1, 75, 0, [], .constant "" 0 (1))),
  (75, [], (.if_icmp .ne 12, 78, 87, [], .returned)),
  (78, [], (.aload_n 0, 79, 0, [], .returned)),
  (79, [1075], (.getfield 53, 82, 10, [26, 2], .returned)),
  (82, [], (.iload_n 3, 83, 3, [], .returned)),
  (83, [], (.iaload, 84, 0, [], .returned)),
  (84, [], (.goto 10, 87, 94, [], .returned)),
  (87, [], (.aload_n 0, 88, 0, [], .returned)),
  (88, [], (.iconst 0, 89, 0, [], .constant "" 0 (0))),
  (89, [], (.iload_n 3, 90, 3, [], .returned)),
  (90, [], (.iload_n 1, 91, 1, [], .returned)),
  (91, [1485, 1488, 1487, 84, 102], (.invokevirtual 312, 94, 0, [3, 10, 0, 0], .code yX10_owedThen cX10_owedThen 4 (some .int))),
  (94, [1316, 1319, 1318, 57, 102], (.invokevirtual 232, 97, 0, [1, 10, 0, 0], .code yX10_good cX10_good 2 (some .int))),
  (97, [], (.ireturn, 98, 0, [], .returned))]
theorem ck_X10_would : okT q_X10_would t_X10_would = true := by decide +kernel
theorem e_X10_would_0 : lk t_X10_would 0 = some (.aload_n 0, 1, 0, [], .returned) := rfl
theorem e_X10_would_1 : lk t_X10_would 1 = some (.iconst 0, 2, 0, [], .constant "" 0 (0)) := rfl
theorem e_X10_would_2 : lk t_X10_would 2 = some (.putfield 65, 5, 10, [0, 0], .returned) := rfl
theorem e_X10_would_5 : lk t_X10_would 5 = some (.aload_n 0, 6, 0, [], .returned) := rfl
theorem e_X10_would_6 : lk t_X10_would 6 = some (.iload_n 1, 7, 1, [], .returned) := rfl
theorem e_X10_would_7 : lk t_X10_would 7 = some (.invokevirtual 332, 10, 0, [1, 10, 0, 0], .code yX10_isPayer cX10_isPayer 2 (some .boolean)) := rfl
theorem e_X10_would_10 : lk t_X10_would 10 = some (.ifCond .eq 21, 13, 31, [], .returned) := rfl
theorem e_X10_would_13 : lk t_X10_would 13 = some (.aload_n 0, 14, 0, [], .returned) := rfl
theorem e_X10_would_14 : lk t_X10_would 14 = some (.iload_n 3, 15, 3, [], .returned) := rfl
theorem e_X10_would_15 : lk t_X10_would 15 = some (.invokevirtual 325, 18, 0, [1, 10, 0, 0], .code yX10_isOrder cX10_isOrder 2 (some .boolean)) := rfl
theorem e_X10_would_18 : lk t_X10_would 18 = some (.ifCond .eq 13, 21, 31, [], .returned) := rfl
theorem e_X10_would_21 : lk t_X10_would 21 = some (.iload 4, 23, 4, [], .returned) := rfl
theorem e_X10_would_23 : lk t_X10_would 23 = some (.iconst 0, 24, 0, [], .constant "" 0 (0)) := rfl
theorem e_X10_would_24 : lk t_X10_would 24 = some (.iconst 2, 25, 0, [], .constant "" 0 (2)) := rfl
theorem e_X10_would_25 : lk t_X10_would 25 = some (.invokestatic 90, 28, 0, [3, 0, 0], .code yX10_in cX10_in 3 (some .boolean)) := rfl
theorem e_X10_would_28 : lk t_X10_would 28 = some (.ifCond .ne 9, 31, 37, [], .returned) := rfl
theorem e_X10_would_31 : lk t_X10_would 31 = some (.aload_n 0, 32, 0, [], .returned) := rfl
theorem e_X10_would_32 : lk t_X10_would 32 = some (.iconst 1, 33, 0, [], .constant "" 0 (1)) := rfl
theorem e_X10_would_33 : lk t_X10_would 33 = some (.invokevirtual 218, 36, 0, [1, 10, 0, 0], .code yX10_refused cX10_refused 2 (some .int)) := rfl
theorem e_X10_would_36 : lk t_X10_would 36 = some (.ireturn, 37, 0, [], .returned) := rfl
theorem e_X10_would_37 : lk t_X10_would 37 = some (.iload_n 2, 38, 2, [], .returned) := rfl
theorem e_X10_would_38 : lk t_X10_would 38 = some (.invokestatic 335, 41, 0, [1, 0, 0], .code yX10_isNet cX10_isNet 1 (some .boolean)) := rfl
theorem e_X10_would_41 : lk t_X10_would 41 = some (.ifCond .ne 9, 44, 50, [], .returned) := rfl
theorem e_X10_would_44 : lk t_X10_would 44 = some (.aload_n 0, 45, 0, [], .returned) := rfl
theorem e_X10_would_45 : lk t_X10_would 45 = some (.iconst 2, 46, 0, [], .constant "" 0 (2)) := rfl
theorem e_X10_would_46 : lk t_X10_would 46 = some (.invokevirtual 218, 49, 0, [1, 10, 0, 0], .code yX10_refused cX10_refused 2 (some .int)) := rfl
theorem e_X10_would_49 : lk t_X10_would 49 = some (.ireturn, 50, 0, [], .returned) := rfl
theorem e_X10_would_50 : lk t_X10_would 50 = some (.aload_n 0, 51, 0, [], .returned) := rfl
theorem e_X10_would_51 : lk t_X10_would 51 = some (.iconst 0, 52, 0, [], .constant "" 0 (0)) := rfl
theorem e_X10_would_52 : lk t_X10_would 52 = some (.iload_n 1, 53, 1, [], .returned) := rfl
theorem e_X10_would_53 : lk t_X10_would 53 = some (.iload_n 2, 54, 2, [], .returned) := rfl
theorem e_X10_would_54 : lk t_X10_would 54 = some (.invokevirtual 309, 57, 0, [3, 10, 0, 0], .code yX10_shares_ cX10_shares_ 5 none) := rfl
theorem e_X10_would_57 : lk t_X10_would 57 = some (.aload_n 0, 58, 0, [], .returned) := rfl
theorem e_X10_would_58 : lk t_X10_would 58 = some (.iload 4, 60, 4, [], .returned) := rfl
theorem e_X10_would_60 : lk t_X10_would 60 = some (.ifCond .ne 12, 63, 72, [], .returned) := rfl
theorem e_X10_would_63 : lk t_X10_would 63 = some (.aload_n 0, 64, 0, [], .returned) := rfl
theorem e_X10_would_64 : lk t_X10_would 64 = some (.getfield 50, 67, 10, [25, 2], .returned) := rfl
theorem e_X10_would_67 : lk t_X10_would 67 = some (.iload_n 3, 68, 3, [], .returned) := rfl
theorem e_X10_would_68 : lk t_X10_would 68 = some (.iaload, 69, 0, [], .returned) := rfl
theorem e_X10_would_69 : lk t_X10_would 69 = some (.goto 25, 72, 94, [], .returned) := rfl
theorem e_X10_would_72 : lk t_X10_would 72 = some (.iload 4, 74, 4, [], .returned) := rfl
theorem e_X10_would_74 : lk t_X10_would 74 = some (.iconst 1, 75, 0, [], .constant "" 0 (1)) := rfl
theorem e_X10_would_75 : lk t_X10_would 75 = some (.if_icmp .ne 12, 78, 87, [], .returned) := rfl
theorem e_X10_would_78 : lk t_X10_would 78 = some (.aload_n 0, 79, 0, [], .returned) := rfl
theorem e_X10_would_79 : lk t_X10_would 79 = some (.getfield 53, 82, 10, [26, 2], .returned) := rfl
theorem e_X10_would_82 : lk t_X10_would 82 = some (.iload_n 3, 83, 3, [], .returned) := rfl
theorem e_X10_would_83 : lk t_X10_would 83 = some (.iaload, 84, 0, [], .returned) := rfl
theorem e_X10_would_84 : lk t_X10_would 84 = some (.goto 10, 87, 94, [], .returned) := rfl
theorem e_X10_would_87 : lk t_X10_would 87 = some (.aload_n 0, 88, 0, [], .returned) := rfl
theorem e_X10_would_88 : lk t_X10_would 88 = some (.iconst 0, 89, 0, [], .constant "" 0 (0)) := rfl
theorem e_X10_would_89 : lk t_X10_would 89 = some (.iload_n 3, 90, 3, [], .returned) := rfl
theorem e_X10_would_90 : lk t_X10_would 90 = some (.iload_n 1, 91, 1, [], .returned) := rfl
theorem e_X10_would_91 : lk t_X10_would 91 = some (.invokevirtual 312, 94, 0, [3, 10, 0, 0], .code yX10_owedThen cX10_owedThen 4 (some .int)) := rfl
theorem e_X10_would_94 : lk t_X10_would 94 = some (.invokevirtual 232, 97, 0, [1, 10, 0, 0], .code yX10_good cX10_good 2 (some .int)) := rfl
theorem e_X10_would_97 : lk t_X10_would 97 = some (.ireturn, 98, 0, [], .returned) := rfl
abbrev q_X10_left : MI := (yX10_left, cX10_left, 3, (some .int))
def t_X10_left : Tab := [(0, [], (.aload_n 0, 1, 0, [], .returned)),
  (1, [], (.iconst 0, 2, 0, [], .constant "" 0 (0))),
  (2, [1049], (.putfield 65, 5, 10, [0, 0], .returned)),
  (5, [], (.aload_n 0, 6, 0, [], .returned)),
  (6, [], (.iload_n 1, 7, 1, [], .returned)),
  (7, [1372, 1375, 1374, 65, 102], (.invokevirtual 332, 10, 0, [1, 10, 0, 0], .code yX10_isPayer cX10_isPayer 2 (some .boolean))),
  (10, [], (.ifCond .ne 9, 13, 19, [], .returned)),
  (13, [], (.aload_n 0, 14, 0, [], .returned)),
  (14, [], (.iconst 1, 15, 0, [], .constant "" 0 (1))),
  (15, [1158, 1161, 1160, 35, 102], (.invokevirtual 218, 18, 0, [1, 10, 0, 0], .code yX10_refused cX10_refused 2 (some .int))),
  (18, [], (.ireturn, 19, 0, [], .returned)),
  (19, [], (.iload_n 2, 20, 2, [], .returned)),
  (20, [1380, 1382, 1381, 102], (.invokestatic 335, 23, 0, [1, 0, 0], .code yX10_isNet cX10_isNet 1 (some .boolean))),
  (23, [], (.ifCond .ne 9, 26, 32, [], .returned)),
  (26, [], (.aload_n 0, 27, 0, [], .returned)),
  (27, [], (.iconst 2, 28, 0, [], .constant "" 0 (2))),
  (28, [1158, 1161, 1160, 35, 102], (.invokevirtual 218, 31, 0, [1, 10, 0, 0], .code yX10_refused cX10_refused 2 (some .int))),
  (31, [], (.ireturn, 32, 0, [], .returned)),
  (32, [], (.aload_n 0, 33, 0, [], .returned)),
  (33, [], (.iconst 0, 34, 0, [], .constant "" 0 (0))),
  (34, [], (.iload_n 1, 35, 1, [], .returned)),
  (35, [], (.iload_n 2, 36, 2, [], .returned)),
  (36, [1433, 1436, 1435, 71, 102], (.invokevirtual 309, 39, 0, [3, 10, 0, 0], .code yX10_shares_ cX10_shares_ 5 none)),
  (39, [], (.aload_n 0, 40, 0, [], .returned)),
  (40, [], (.aload_n 0, 41, 0, [], .returned)),
  (41, [1076], (.getfield 262, 44, 10, [27, 0], .returned)),
  (44, [1316, 1319, 1318, 57, 102], (.invokevirtual 232, 47, 0, [1, 10, 0, 0], .code yX10_good cX10_good 2 (some .int))),
  (47, [], (.ireturn, 48, 0, [], .returned))]
theorem ck_X10_left : okT q_X10_left t_X10_left = true := by decide +kernel
theorem e_X10_left_0 : lk t_X10_left 0 = some (.aload_n 0, 1, 0, [], .returned) := rfl
theorem e_X10_left_1 : lk t_X10_left 1 = some (.iconst 0, 2, 0, [], .constant "" 0 (0)) := rfl
theorem e_X10_left_2 : lk t_X10_left 2 = some (.putfield 65, 5, 10, [0, 0], .returned) := rfl
theorem e_X10_left_5 : lk t_X10_left 5 = some (.aload_n 0, 6, 0, [], .returned) := rfl
theorem e_X10_left_6 : lk t_X10_left 6 = some (.iload_n 1, 7, 1, [], .returned) := rfl
theorem e_X10_left_7 : lk t_X10_left 7 = some (.invokevirtual 332, 10, 0, [1, 10, 0, 0], .code yX10_isPayer cX10_isPayer 2 (some .boolean)) := rfl
theorem e_X10_left_10 : lk t_X10_left 10 = some (.ifCond .ne 9, 13, 19, [], .returned) := rfl
theorem e_X10_left_13 : lk t_X10_left 13 = some (.aload_n 0, 14, 0, [], .returned) := rfl
theorem e_X10_left_14 : lk t_X10_left 14 = some (.iconst 1, 15, 0, [], .constant "" 0 (1)) := rfl
theorem e_X10_left_15 : lk t_X10_left 15 = some (.invokevirtual 218, 18, 0, [1, 10, 0, 0], .code yX10_refused cX10_refused 2 (some .int)) := rfl
theorem e_X10_left_18 : lk t_X10_left 18 = some (.ireturn, 19, 0, [], .returned) := rfl
theorem e_X10_left_19 : lk t_X10_left 19 = some (.iload_n 2, 20, 2, [], .returned) := rfl
theorem e_X10_left_20 : lk t_X10_left 20 = some (.invokestatic 335, 23, 0, [1, 0, 0], .code yX10_isNet cX10_isNet 1 (some .boolean)) := rfl
theorem e_X10_left_23 : lk t_X10_left 23 = some (.ifCond .ne 9, 26, 32, [], .returned) := rfl
theorem e_X10_left_26 : lk t_X10_left 26 = some (.aload_n 0, 27, 0, [], .returned) := rfl
theorem e_X10_left_27 : lk t_X10_left 27 = some (.iconst 2, 28, 0, [], .constant "" 0 (2)) := rfl
theorem e_X10_left_28 : lk t_X10_left 28 = some (.invokevirtual 218, 31, 0, [1, 10, 0, 0], .code yX10_refused cX10_refused 2 (some .int)) := rfl
theorem e_X10_left_31 : lk t_X10_left 31 = some (.ireturn, 32, 0, [], .returned) := rfl
theorem e_X10_left_32 : lk t_X10_left 32 = some (.aload_n 0, 33, 0, [], .returned) := rfl
theorem e_X10_left_33 : lk t_X10_left 33 = some (.iconst 0, 34, 0, [], .constant "" 0 (0)) := rfl
theorem e_X10_left_34 : lk t_X10_left 34 = some (.iload_n 1, 35, 1, [], .returned) := rfl
theorem e_X10_left_35 : lk t_X10_left 35 = some (.iload_n 2, 36, 2, [], .returned) := rfl
theorem e_X10_left_36 : lk t_X10_left 36 = some (.invokevirtual 309, 39, 0, [3, 10, 0, 0], .code yX10_shares_ cX10_shares_ 5 none) := rfl
theorem e_X10_left_39 : lk t_X10_left 39 = some (.aload_n 0, 40, 0, [], .returned) := rfl
theorem e_X10_left_40 : lk t_X10_left 40 = some (.aload_n 0, 41, 0, [], .returned) := rfl
theorem e_X10_left_41 : lk t_X10_left 41 = some (.getfield 262, 44, 10, [27, 0], .returned) := rfl
theorem e_X10_left_44 : lk t_X10_left 44 = some (.invokevirtual 232, 47, 0, [1, 10, 0, 0], .code yX10_good cX10_good 2 (some .int)) := rfl
theorem e_X10_left_47 : lk t_X10_left 47 = some (.ireturn, 48, 0, [], .returned) := rfl
abbrev q_X10_ranked : MI := (yX10_ranked, cX10_ranked, 6, (some .int))
def t_X10_ranked : Tab := [(0, [], (.aload_n 0, 1, 0, [], .returned)),
  (1, [], (.iconst 0, 2, 0, [], .constant "" 0 (0))),
  (2, [1049], (.putfield 65, 5, 10, [0, 0], .returned)),
  (5, [], (.aload_n 0, 6, 0, [], .returned)),
  (6, [], (.iload_n 1, 7, 1, [], .returned)),
  (7, [1372, 1375, 1374, 65, 102], (.invokevirtual 332, 10, 0, [1, 10, 0, 0], .code yX10_isPayer cX10_isPayer 2 (some .boolean))),
  (10, [], (.ifCond .ne 9, 13, 19, [], .returned)),
  (13, [], (.aload_n 0, 14, 0, [], .returned)),
  (14, [], (.iconst 1, 15, 0, [], .constant "" 0 (1))),
  (15, [1158, 1161, 1160, 35, 102], (.invokevirtual 218, 18, 0, [1, 10, 0, 0], .code yX10_refused cX10_refused 2 (some .int))),
  (18, [], (.ireturn, 19, 0, [], .returned)),
  (19, [], (.iload_n 2, 20, 2, [], .returned)),
  (20, [1380, 1382, 1381, 102], (.invokestatic 335, 23, 0, [1, 0, 0], .code yX10_isNet cX10_isNet 1 (some .boolean))),
  (23, [], (.ifCond .eq 13, 26, 36, [], .returned)),
  (26, [], (.iload_n 3, 27, 3, [], .returned)),
  (27, [], (.iconst 1, 28, 0, [], .constant "" 0 (1))),
  (28, [], (.bipush 9, 30, 0, [], .constant "" 0 (9))),
  (30, [1174, 1176, 1175, 102], (.invokestatic 90, 33, 0, [3, 0, 0], .code yX10_in cX10_in 3 (some .boolean))),
  (33, [], (.ifCond .ne 9, 36, 42, [], .returned)),
  (36, [], (.aload_n 0, 37, 0, [], .returned)),
  (37, [], (.iconst 2, 38, 0, [], .constant "" 0 (2))),
  (38, [1158, 1161, 1160, 35, 102], (.invokevirtual 218, 41, 0, [1, 10, 0, 0], .code yX10_refused cX10_refused 2 (some .int))),
  (41, [], (.ireturn, 42, 0, [], .returned)),
  (42, [], (.aload_n 0, 43, 0, [], .returned)),
  (43, [], (.iconst 0, 44, 0, [], .constant "" 0 (0))),
  (44, [], (.iload_n 1, 45, 1, [], .returned)),
  (45, [], (.iload_n 2, 46, 2, [], .returned)),
  (46, [1433, 1436, 1435, 71, 102], (.invokevirtual 309, 49, 0, [3, 10, 0, 0], .code yX10_shares_ cX10_shares_ 5 none)),
  (49, [], (.iconst 0, 50, 0, [], .constant "" 0 (0))),
  (50, [], (.istore 4, 52, 4, [], .returned)),
  (52, [], (.iconst 0, 53, 0, [], .constant "" 0 (0))),
  (53, [], (.istore 5, 55, 5, [], .returned)),
  (55, [], (.iload 5, 57, 5, [], .returned)),
  (57, [], (.aload_n 0, 58, 0, [], .returned)),
  (58, [1061], (.getfield 17, 61, 10, [12, 2], .returned)),
  (61, [], (.iconst 5, 62, 0, [], .constant "" 0 (5))),
  (62, [], (.iaload, 63, 0, [], .returned)),
  (63, [], (.if_icmp .ge 39, 66, 102, [], .returned)),
  (66, [], (.iload 4, 68, 4, [], .returned)),
  (68, [], (.aload_n 0, 69, 0, [], .returned)),
  (69, [1061], (.getfield 17, 72, 10, [12, 2], .returned)),
  (72, [], (.bipush 51, 74, 0, [], .constant "" 0 (51))),
  (74, [], (.iload 5, 76, 5, [], .returned)),
  (76, [], (.iadd, 77, 0, [], .returned)),
  (77, [], (.iaload, 78, 0, [], .returned)),
  (78, [], (.iload_n 3, 79, 3, [], .returned)),
  (79, [], (.if_icmp .ne 13, 82, 92, [], .returned)),
  (82, [], (.aload_n 0, 83, 0, [], .returned)),
  (83, [1075], (.getfield 53, 86, 10, [26, 2], .returned)),
  (86, [], (.iload 5, 88, 5, [], .returned)),
  (88, [], (.iaload, 89, 0, [], .returned)),
  (89, [], (.goto 4, 92, 93, [], .returned)),
  (92, [], (.iconst 0, 93, 0, [], .constant "" 0 (0))),
  (93, [], (.iadd, 94, 0, [], .returned)),
  (94, [], (.istore 4, 96, 4, [], .returned)),
  (96, [], (.iinc 5 1, 99, 5, [], .constant "" 0 (1))),
  (99, [], (.goto (-44), 102, 55, [], .returned)),
  (102, [], (.aload_n 0, 103, 0, [], .returned)),
  (103, [], (.iload 4, 105, 4, [], .returned)),
  (105, [1316, 1319, 1318, 57, 102], (.invokevirtual 232, 108, 0, [1, 10, 0, 0], .code yX10_good cX10_good 2 (some .int))),
  (108, [], (.ireturn, 109, 0, [], .returned))]
theorem ck_X10_ranked : okT q_X10_ranked t_X10_ranked = true := by decide +kernel
theorem e_X10_ranked_0 : lk t_X10_ranked 0 = some (.aload_n 0, 1, 0, [], .returned) := rfl
theorem e_X10_ranked_1 : lk t_X10_ranked 1 = some (.iconst 0, 2, 0, [], .constant "" 0 (0)) := rfl
theorem e_X10_ranked_2 : lk t_X10_ranked 2 = some (.putfield 65, 5, 10, [0, 0], .returned) := rfl
theorem e_X10_ranked_5 : lk t_X10_ranked 5 = some (.aload_n 0, 6, 0, [], .returned) := rfl
theorem e_X10_ranked_6 : lk t_X10_ranked 6 = some (.iload_n 1, 7, 1, [], .returned) := rfl
theorem e_X10_ranked_7 : lk t_X10_ranked 7 = some (.invokevirtual 332, 10, 0, [1, 10, 0, 0], .code yX10_isPayer cX10_isPayer 2 (some .boolean)) := rfl
theorem e_X10_ranked_10 : lk t_X10_ranked 10 = some (.ifCond .ne 9, 13, 19, [], .returned) := rfl
theorem e_X10_ranked_13 : lk t_X10_ranked 13 = some (.aload_n 0, 14, 0, [], .returned) := rfl
theorem e_X10_ranked_14 : lk t_X10_ranked 14 = some (.iconst 1, 15, 0, [], .constant "" 0 (1)) := rfl
theorem e_X10_ranked_15 : lk t_X10_ranked 15 = some (.invokevirtual 218, 18, 0, [1, 10, 0, 0], .code yX10_refused cX10_refused 2 (some .int)) := rfl
theorem e_X10_ranked_18 : lk t_X10_ranked 18 = some (.ireturn, 19, 0, [], .returned) := rfl
theorem e_X10_ranked_19 : lk t_X10_ranked 19 = some (.iload_n 2, 20, 2, [], .returned) := rfl
theorem e_X10_ranked_20 : lk t_X10_ranked 20 = some (.invokestatic 335, 23, 0, [1, 0, 0], .code yX10_isNet cX10_isNet 1 (some .boolean)) := rfl
theorem e_X10_ranked_23 : lk t_X10_ranked 23 = some (.ifCond .eq 13, 26, 36, [], .returned) := rfl
theorem e_X10_ranked_26 : lk t_X10_ranked 26 = some (.iload_n 3, 27, 3, [], .returned) := rfl
theorem e_X10_ranked_27 : lk t_X10_ranked 27 = some (.iconst 1, 28, 0, [], .constant "" 0 (1)) := rfl
theorem e_X10_ranked_28 : lk t_X10_ranked 28 = some (.bipush 9, 30, 0, [], .constant "" 0 (9)) := rfl
theorem e_X10_ranked_30 : lk t_X10_ranked 30 = some (.invokestatic 90, 33, 0, [3, 0, 0], .code yX10_in cX10_in 3 (some .boolean)) := rfl
theorem e_X10_ranked_33 : lk t_X10_ranked 33 = some (.ifCond .ne 9, 36, 42, [], .returned) := rfl
theorem e_X10_ranked_36 : lk t_X10_ranked 36 = some (.aload_n 0, 37, 0, [], .returned) := rfl
theorem e_X10_ranked_37 : lk t_X10_ranked 37 = some (.iconst 2, 38, 0, [], .constant "" 0 (2)) := rfl
theorem e_X10_ranked_38 : lk t_X10_ranked 38 = some (.invokevirtual 218, 41, 0, [1, 10, 0, 0], .code yX10_refused cX10_refused 2 (some .int)) := rfl
theorem e_X10_ranked_41 : lk t_X10_ranked 41 = some (.ireturn, 42, 0, [], .returned) := rfl
theorem e_X10_ranked_42 : lk t_X10_ranked 42 = some (.aload_n 0, 43, 0, [], .returned) := rfl
theorem e_X10_ranked_43 : lk t_X10_ranked 43 = some (.iconst 0, 44, 0, [], .constant "" 0 (0)) := rfl
theorem e_X10_ranked_44 : lk t_X10_ranked 44 = some (.iload_n 1, 45, 1, [], .returned) := rfl
theorem e_X10_ranked_45 : lk t_X10_ranked 45 = some (.iload_n 2, 46, 2, [], .returned) := rfl
theorem e_X10_ranked_46 : lk t_X10_ranked 46 = some (.invokevirtual 309, 49, 0, [3, 10, 0, 0], .code yX10_shares_ cX10_shares_ 5 none) := rfl
theorem e_X10_ranked_49 : lk t_X10_ranked 49 = some (.iconst 0, 50, 0, [], .constant "" 0 (0)) := rfl
theorem e_X10_ranked_50 : lk t_X10_ranked 50 = some (.istore 4, 52, 4, [], .returned) := rfl
theorem e_X10_ranked_52 : lk t_X10_ranked 52 = some (.iconst 0, 53, 0, [], .constant "" 0 (0)) := rfl
theorem e_X10_ranked_53 : lk t_X10_ranked 53 = some (.istore 5, 55, 5, [], .returned) := rfl
theorem e_X10_ranked_55 : lk t_X10_ranked 55 = some (.iload 5, 57, 5, [], .returned) := rfl
theorem e_X10_ranked_57 : lk t_X10_ranked 57 = some (.aload_n 0, 58, 0, [], .returned) := rfl
theorem e_X10_ranked_58 : lk t_X10_ranked 58 = some (.getfield 17, 61, 10, [12, 2], .returned) := rfl
theorem e_X10_ranked_61 : lk t_X10_ranked 61 = some (.iconst 5, 62, 0, [], .constant "" 0 (5)) := rfl
theorem e_X10_ranked_62 : lk t_X10_ranked 62 = some (.iaload, 63, 0, [], .returned) := rfl
theorem e_X10_ranked_63 : lk t_X10_ranked 63 = some (.if_icmp .ge 39, 66, 102, [], .returned) := rfl
theorem e_X10_ranked_66 : lk t_X10_ranked 66 = some (.iload 4, 68, 4, [], .returned) := rfl
theorem e_X10_ranked_68 : lk t_X10_ranked 68 = some (.aload_n 0, 69, 0, [], .returned) := rfl
theorem e_X10_ranked_69 : lk t_X10_ranked 69 = some (.getfield 17, 72, 10, [12, 2], .returned) := rfl
theorem e_X10_ranked_72 : lk t_X10_ranked 72 = some (.bipush 51, 74, 0, [], .constant "" 0 (51)) := rfl
theorem e_X10_ranked_74 : lk t_X10_ranked 74 = some (.iload 5, 76, 5, [], .returned) := rfl
theorem e_X10_ranked_76 : lk t_X10_ranked 76 = some (.iadd, 77, 0, [], .returned) := rfl
theorem e_X10_ranked_77 : lk t_X10_ranked 77 = some (.iaload, 78, 0, [], .returned) := rfl
theorem e_X10_ranked_78 : lk t_X10_ranked 78 = some (.iload_n 3, 79, 3, [], .returned) := rfl
theorem e_X10_ranked_79 : lk t_X10_ranked 79 = some (.if_icmp .ne 13, 82, 92, [], .returned) := rfl
theorem e_X10_ranked_82 : lk t_X10_ranked 82 = some (.aload_n 0, 83, 0, [], .returned) := rfl
theorem e_X10_ranked_83 : lk t_X10_ranked 83 = some (.getfield 53, 86, 10, [26, 2], .returned) := rfl
theorem e_X10_ranked_86 : lk t_X10_ranked 86 = some (.iload 5, 88, 5, [], .returned) := rfl
theorem e_X10_ranked_88 : lk t_X10_ranked 88 = some (.iaload, 89, 0, [], .returned) := rfl
theorem e_X10_ranked_89 : lk t_X10_ranked 89 = some (.goto 4, 92, 93, [], .returned) := rfl
theorem e_X10_ranked_92 : lk t_X10_ranked 92 = some (.iconst 0, 93, 0, [], .constant "" 0 (0)) := rfl
theorem e_X10_ranked_93 : lk t_X10_ranked 93 = some (.iadd, 94, 0, [], .returned) := rfl
theorem e_X10_ranked_94 : lk t_X10_ranked 94 = some (.istore 4, 96, 4, [], .returned) := rfl
theorem e_X10_ranked_96 : lk t_X10_ranked 96 = some (.iinc 5 1, 99, 5, [], .constant "" 0 (1)) := rfl
theorem e_X10_ranked_99 : lk t_X10_ranked 99 = some (.goto (-44), 102, 55, [], .returned) := rfl
theorem e_X10_ranked_102 : lk t_X10_ranked 102 = some (.aload_n 0, 103, 0, [], .returned) := rfl
theorem e_X10_ranked_103 : lk t_X10_ranked 103 = some (.iload 4, 105, 4, [], .returned) := rfl
theorem e_X10_ranked_105 : lk t_X10_ranked 105 = some (.invokevirtual 232, 108, 0, [1, 10, 0, 0], .code yX10_good cX10_good 2 (some .int)) := rfl
theorem e_X10_ranked_108 : lk t_X10_ranked 108 = some (.ireturn, 109, 0, [], .returned) := rfl
abbrev q_X10_enough : MI := (yX10_enough, cX10_enough, 4, (some .int))
def t_X10_enough : Tab := [(0, [], (.aload_n 0, 1, 0, [], .returned)),
  (1, [], (.iconst 0, 2, 0, [], .constant "" 0 (0))),
  (2, [1049], (.putfield 65, 5, 10, [0, 0], .returned)),
  (5, [], (.aload_n 0, 6, 0, [], .returned)),
  (6, [], (.iload_n 1, 7, 1, [], .returned)),
  (7, [1360, 1363, 1362, 63, 102], (.invokevirtual 325, 10, 0, [1, 10, 0, 0], .code yX10_isOrder cX10_isOrder 2 (some .boolean))),
  (10, [], (.ifCond .eq 11, 13, 21, [], .returned)),
  (13, [], (.aload_n 0, 14, 0, [], .returned)),
  (14, [], (.iload_n 2, 15, 2, [], .returned)),
  (15, [1372, 1375, 1374, 65, 102], (.invokevirtual 332, 18, 0, [1, 10, 0, 0], .code yX10_isPayer cX10_isPayer 2 (some .boolean))),
  (18, [], (.ifCond .ne 9, 21, 27, [], .returned)),
  (21, [], (.aload_n 0, 22, 0, [], .returned)),
  (22, [], (.iconst 1, 23, 0, [], .constant "" 0 (1))),
  (23, [1158, 1161, 1160, 35, 102], (.invokevirtual 218, 26, 0, [1, 10, 0, 0], .code yX10_refused cX10_refused 2 (some .int))),
  (26, [], (.ireturn, 27, 0, [], .returned)),
  (27, [], (.aload_n 0, 28, 0, [], .returned)),
  (28, [], (.iconst 0, 29, 0, [], .constant "" 0 (0))),
  (29, [], (.iload_n 1, 30, 1, [], .returned)),
  (30, [1343, 1346, 1345, 60, 102], (.invokevirtual 239, 33, 0, [2, 10, 0, 0], .code yX10_isLive cX10_isLive 3 (some .boolean))),
  (33, [], (.ifCond .eq 12, 36, 45, [], .returned)),
  (36, [], (.aload_n 0, 37, 0, [], .returned)),
  (37, [], (.iload_n 1, 38, 1, [], .returned)),
  (38, [], (.iload_n 2, 39, 2, [], .returned)),
  (39, [1352, 1355, 1354, 62, 102], (.invokevirtual 256, 42, 0, [2, 10, 0, 0], .code yX10_isAt cX10_isAt 3 (some .boolean))),
  (42, [], (.ifCond .ne 9, 45, 51, [], .returned)),
  (45, [], (.aload_n 0, 46, 0, [], .returned)),
  (46, [], (.iconst 5, 47, 0, [], .constant "" 0 (5))),
  (47, [1158, 1161, 1160, 35, 102], (.invokevirtual 218, 50, 0, [1, 10, 0, 0], .code yX10_refused cX10_refused 2 (some .int))),
  (50, [], (.ireturn, 51, 0, [], .returned)),
  (51, [], (.iconst 0, 52, 0, [], .constant "" 0 (0))),
  (52, [], (.istore_n 3, 53, 3, [], .returned)),
  (53, [], (.iload_n 3, 54, 3, [], .returned)),
  (54, [], (.sipush 9999, 57, 0, [], .constant "" 0 (9999))),
  (57, [], (.if_icmp .gt 46, 60, 103, [], .returned)),
  (60, [], (.aload_n 0, 61, 0, [], .returned)),
  (61, [], (.iconst 0, 62, 0, [], .constant "" 0 (0))),
  (62, [], (.iload_n 2, 63, 2, [], .returned)),
  (63, [], (.iload_n 3, 64, 3, [], .returned)),
  (64, [1433, 1436, 1435, 71, 102], (.invokevirtual 309, 67, 0, [3, 10, 0, 0], .code yX10_shares_ cX10_shares_ 5 none)),
  (67, [], (.aload_n 0, 68, 0, [], .returned)),
  (68, [1074], (.getfield 50, 71, 10, [25, 2], .returned)),
  (71, [], (.iload_n 1, 72, 1, [], .returned)),
  (72, [], (.iaload, 73, 0, [], .returned)),
  (73, [], (.ifCond .le 24, 76, 97, [], .returned)),
  (76, [], (.aload_n 0, 77, 0, [], .returned)),
  (77, [1075], (.getfield 53, 80, 10, [26, 2], .returned)),
  (80, [], (.iload_n 1, 81, 1, [], .returned)),
  (81, [], (.iaload, 82, 0, [], .returned)),
  (82, [], (.aload_n 0, 83, 0, [], .returned)),
  (83, [1074], (.getfield 50, 86, 10, [25, 2], .returned)),
  (86, [], (.iload_n 1, 87, 1, [], .returned)),
  (87, [], (.iaload, 88, 0, [], .returned)),
  (88, [], (.if_icmp .ne 9, 91, 97, [], .returned)),
  (91, [], (.aload_n 0, 92, 0, [], .returned)),
  (92, [], (.iload_n 3, 93, 3, [], .returned)),
  (93, [1316, 1319, 1318, 57, 102], (.invokevirtual 232, 96, 0, [1, 10, 0, 0], .code yX10_good cX10_good 2 (some .int))),
  (96, [], (.ireturn, 97, 0, [], .returned)),
  (97, [], (.iinc 3 1, 100, 3, [], .constant "" 0 (1))),
  (100, [], (.goto (-47), 103, 53, [], .returned)),
  (103, [], (.aload_n 0, 104, 0, [], .returned)),
  (104, [], (.bipush (-2), 106, 0, [], .constant "" 0 (-2))),
  (106, [1316, 1319, 1318, 57, 102], (.invokevirtual 232, 109, 0, [1, 10, 0, 0], .code yX10_good cX10_good 2 (some .int))),
  (109, [], (.ireturn, 110, 0, [], .returned))]
theorem ck_X10_enough : okT q_X10_enough t_X10_enough = true := by decide +kernel
theorem e_X10_enough_0 : lk t_X10_enough 0 = some (.aload_n 0, 1, 0, [], .returned) := rfl
theorem e_X10_enough_1 : lk t_X10_enough 1 = some (.iconst 0, 2, 0, [], .constant "" 0 (0)) := rfl
theorem e_X10_enough_2 : lk t_X10_enough 2 = some (.putfield 65, 5, 10, [0, 0], .returned) := rfl
theorem e_X10_enough_5 : lk t_X10_enough 5 = some (.aload_n 0, 6, 0, [], .returned) := rfl
theorem e_X10_enough_6 : lk t_X10_enough 6 = some (.iload_n 1, 7, 1, [], .returned) := rfl
theorem e_X10_enough_7 : lk t_X10_enough 7 = some (.invokevirtual 325, 10, 0, [1, 10, 0, 0], .code yX10_isOrder cX10_isOrder 2 (some .boolean)) := rfl
theorem e_X10_enough_10 : lk t_X10_enough 10 = some (.ifCond .eq 11, 13, 21, [], .returned) := rfl
theorem e_X10_enough_13 : lk t_X10_enough 13 = some (.aload_n 0, 14, 0, [], .returned) := rfl
theorem e_X10_enough_14 : lk t_X10_enough 14 = some (.iload_n 2, 15, 2, [], .returned) := rfl
theorem e_X10_enough_15 : lk t_X10_enough 15 = some (.invokevirtual 332, 18, 0, [1, 10, 0, 0], .code yX10_isPayer cX10_isPayer 2 (some .boolean)) := rfl
theorem e_X10_enough_18 : lk t_X10_enough 18 = some (.ifCond .ne 9, 21, 27, [], .returned) := rfl
theorem e_X10_enough_21 : lk t_X10_enough 21 = some (.aload_n 0, 22, 0, [], .returned) := rfl
theorem e_X10_enough_22 : lk t_X10_enough 22 = some (.iconst 1, 23, 0, [], .constant "" 0 (1)) := rfl
theorem e_X10_enough_23 : lk t_X10_enough 23 = some (.invokevirtual 218, 26, 0, [1, 10, 0, 0], .code yX10_refused cX10_refused 2 (some .int)) := rfl
theorem e_X10_enough_26 : lk t_X10_enough 26 = some (.ireturn, 27, 0, [], .returned) := rfl
theorem e_X10_enough_27 : lk t_X10_enough 27 = some (.aload_n 0, 28, 0, [], .returned) := rfl
theorem e_X10_enough_28 : lk t_X10_enough 28 = some (.iconst 0, 29, 0, [], .constant "" 0 (0)) := rfl
theorem e_X10_enough_29 : lk t_X10_enough 29 = some (.iload_n 1, 30, 1, [], .returned) := rfl
theorem e_X10_enough_30 : lk t_X10_enough 30 = some (.invokevirtual 239, 33, 0, [2, 10, 0, 0], .code yX10_isLive cX10_isLive 3 (some .boolean)) := rfl
theorem e_X10_enough_33 : lk t_X10_enough 33 = some (.ifCond .eq 12, 36, 45, [], .returned) := rfl
theorem e_X10_enough_36 : lk t_X10_enough 36 = some (.aload_n 0, 37, 0, [], .returned) := rfl
theorem e_X10_enough_37 : lk t_X10_enough 37 = some (.iload_n 1, 38, 1, [], .returned) := rfl
theorem e_X10_enough_38 : lk t_X10_enough 38 = some (.iload_n 2, 39, 2, [], .returned) := rfl
theorem e_X10_enough_39 : lk t_X10_enough 39 = some (.invokevirtual 256, 42, 0, [2, 10, 0, 0], .code yX10_isAt cX10_isAt 3 (some .boolean)) := rfl
theorem e_X10_enough_42 : lk t_X10_enough 42 = some (.ifCond .ne 9, 45, 51, [], .returned) := rfl
theorem e_X10_enough_45 : lk t_X10_enough 45 = some (.aload_n 0, 46, 0, [], .returned) := rfl
theorem e_X10_enough_46 : lk t_X10_enough 46 = some (.iconst 5, 47, 0, [], .constant "" 0 (5)) := rfl
theorem e_X10_enough_47 : lk t_X10_enough 47 = some (.invokevirtual 218, 50, 0, [1, 10, 0, 0], .code yX10_refused cX10_refused 2 (some .int)) := rfl
theorem e_X10_enough_50 : lk t_X10_enough 50 = some (.ireturn, 51, 0, [], .returned) := rfl
theorem e_X10_enough_51 : lk t_X10_enough 51 = some (.iconst 0, 52, 0, [], .constant "" 0 (0)) := rfl
theorem e_X10_enough_52 : lk t_X10_enough 52 = some (.istore_n 3, 53, 3, [], .returned) := rfl
theorem e_X10_enough_53 : lk t_X10_enough 53 = some (.iload_n 3, 54, 3, [], .returned) := rfl
theorem e_X10_enough_54 : lk t_X10_enough 54 = some (.sipush 9999, 57, 0, [], .constant "" 0 (9999)) := rfl
theorem e_X10_enough_57 : lk t_X10_enough 57 = some (.if_icmp .gt 46, 60, 103, [], .returned) := rfl
theorem e_X10_enough_60 : lk t_X10_enough 60 = some (.aload_n 0, 61, 0, [], .returned) := rfl
theorem e_X10_enough_61 : lk t_X10_enough 61 = some (.iconst 0, 62, 0, [], .constant "" 0 (0)) := rfl
theorem e_X10_enough_62 : lk t_X10_enough 62 = some (.iload_n 2, 63, 2, [], .returned) := rfl
theorem e_X10_enough_63 : lk t_X10_enough 63 = some (.iload_n 3, 64, 3, [], .returned) := rfl
theorem e_X10_enough_64 : lk t_X10_enough 64 = some (.invokevirtual 309, 67, 0, [3, 10, 0, 0], .code yX10_shares_ cX10_shares_ 5 none) := rfl
theorem e_X10_enough_67 : lk t_X10_enough 67 = some (.aload_n 0, 68, 0, [], .returned) := rfl
theorem e_X10_enough_68 : lk t_X10_enough 68 = some (.getfield 50, 71, 10, [25, 2], .returned) := rfl
theorem e_X10_enough_71 : lk t_X10_enough 71 = some (.iload_n 1, 72, 1, [], .returned) := rfl
theorem e_X10_enough_72 : lk t_X10_enough 72 = some (.iaload, 73, 0, [], .returned) := rfl
theorem e_X10_enough_73 : lk t_X10_enough 73 = some (.ifCond .le 24, 76, 97, [], .returned) := rfl
theorem e_X10_enough_76 : lk t_X10_enough 76 = some (.aload_n 0, 77, 0, [], .returned) := rfl
theorem e_X10_enough_77 : lk t_X10_enough 77 = some (.getfield 53, 80, 10, [26, 2], .returned) := rfl
theorem e_X10_enough_80 : lk t_X10_enough 80 = some (.iload_n 1, 81, 1, [], .returned) := rfl
theorem e_X10_enough_81 : lk t_X10_enough 81 = some (.iaload, 82, 0, [], .returned) := rfl
theorem e_X10_enough_82 : lk t_X10_enough 82 = some (.aload_n 0, 83, 0, [], .returned) := rfl
theorem e_X10_enough_83 : lk t_X10_enough 83 = some (.getfield 50, 86, 10, [25, 2], .returned) := rfl
theorem e_X10_enough_86 : lk t_X10_enough 86 = some (.iload_n 1, 87, 1, [], .returned) := rfl
theorem e_X10_enough_87 : lk t_X10_enough 87 = some (.iaload, 88, 0, [], .returned) := rfl
theorem e_X10_enough_88 : lk t_X10_enough 88 = some (.if_icmp .ne 9, 91, 97, [], .returned) := rfl
theorem e_X10_enough_91 : lk t_X10_enough 91 = some (.aload_n 0, 92, 0, [], .returned) := rfl
theorem e_X10_enough_92 : lk t_X10_enough 92 = some (.iload_n 3, 93, 3, [], .returned) := rfl
theorem e_X10_enough_93 : lk t_X10_enough 93 = some (.invokevirtual 232, 96, 0, [1, 10, 0, 0], .code yX10_good cX10_good 2 (some .int)) := rfl
theorem e_X10_enough_96 : lk t_X10_enough 96 = some (.ireturn, 97, 0, [], .returned) := rfl
theorem e_X10_enough_97 : lk t_X10_enough 97 = some (.iinc 3 1, 100, 3, [], .constant "" 0 (1)) := rfl
theorem e_X10_enough_100 : lk t_X10_enough 100 = some (.goto (-47), 103, 53, [], .returned) := rfl
theorem e_X10_enough_103 : lk t_X10_enough 103 = some (.aload_n 0, 104, 0, [], .returned) := rfl
theorem e_X10_enough_104 : lk t_X10_enough 104 = some (.bipush (-2), 106, 0, [], .constant "" 0 (-2)) := rfl
theorem e_X10_enough_106 : lk t_X10_enough 106 = some (.invokevirtual 232, 109, 0, [1, 10, 0, 0], .code yX10_good cX10_good 2 (some .int)) := rfl
theorem e_X10_enough_109 : lk t_X10_enough 109 = some (.ireturn, 110, 0, [], .returned) := rfl
abbrev q_X10_first : MI := (yX10_first, cX10_first, 4, (some .int))
def t_X10_first : Tab := [(0, [], (.aload_n 0, 1, 0, [], .returned)),
  (1, [], (.iconst 0, 2, 0, [], .constant "" 0 (0))),
  (2, [1049], (.putfield 65, 5, 10, [0, 0], .returned)),
  (5, [], (.aload_n 0, 6, 0, [], .returned)),
  (6, [], (.iload_n 1, 7, 1, [], .returned)),
  (7, [1360, 1363, 1362, 63, 102], (.invokevirtual 325, 10, 0, [1, 10, 0, 0], .code yX10_isOrder cX10_isOrder 2 (some .boolean))),
  (10, [], (.ifCond .eq 11, 13, 21, [], .returned)),
  (13, [], (.aload_n 0, 14, 0, [], .returned)),
  (14, [], (.iload_n 2, 15, 2, [], .returned)),
  (15, [1372, 1375, 1374, 65, 102], (.invokevirtual 332, 18, 0, [1, 10, 0, 0], .code yX10_isPayer cX10_isPayer 2 (some .boolean))),
  (18, [], (.ifCond .ne 9, 21, 27, [], .returned)),
  (21, [], (.aload_n 0, 22, 0, [], .returned)),
  (22, [], (.iconst 1, 23, 0, [], .constant "" 0 (1))),
  (23, [1158, 1161, 1160, 35, 102], (.invokevirtual 218, 26, 0, [1, 10, 0, 0], .code yX10_refused cX10_refused 2 (some .int))),
  (26, [], (.ireturn, 27, 0, [], .returned)),
  (27, [], (.iconst 0, 28, 0, [], .constant "" 0 (0))),
  (28, [], (.istore_n 3, 29, 3, [], .returned)),
  (29, [], (.iload_n 3, 30, 3, [], .returned)),
  (30, [], (.sipush 9999, 33, 0, [], .constant "" 0 (9999))),
  (33, [], (.if_icmp .gt 31, 36, 64, [], .returned)),
  (36, [], (.aload_n 0, 37, 0, [], .returned)),
  (37, [], (.iconst 0, 38, 0, [], .constant "" 0 (0))),
  (38, [], (.iload_n 2, 39, 2, [], .returned)),
  (39, [], (.iload_n 3, 40, 3, [], .returned)),
  (40, [1433, 1436, 1435, 71, 102], (.invokevirtual 309, 43, 0, [3, 10, 0, 0], .code yX10_shares_ cX10_shares_ 5 none)),
  (43, [], (.aload_n 0, 44, 0, [], .returned)),
  (44, [1075], (.getfield 53, 47, 10, [26, 2], .returned)),
  (47, [], (.iload_n 1, 48, 1, [], .returned)),
  (48, [], (.iaload, 49, 0, [], .returned)),
  (49, [], (.ifCond .le 9, 52, 58, [], .returned)),
  (52, [], (.aload_n 0, 53, 0, [], .returned)),
  (53, [], (.iload_n 3, 54, 3, [], .returned)),
  (54, [1316, 1319, 1318, 57, 102], (.invokevirtual 232, 57, 0, [1, 10, 0, 0], .code yX10_good cX10_good 2 (some .int))),
  (57, [], (.ireturn, 58, 0, [], .returned)),
  (58, [], (.iinc 3 1, 61, 3, [], .constant "" 0 (1))),
  (61, [], (.goto (-32), 64, 29, [], .returned)),
  (64, [], (.aload_n 0, 65, 0, [], .returned)),
  (65, [], (.bipush (-2), 67, 0, [], .constant "" 0 (-2))),
  (67, [1316, 1319, 1318, 57, 102], (.invokevirtual 232, 70, 0, [1, 10, 0, 0], .code yX10_good cX10_good 2 (some .int))),
  (70, [], (.ireturn, 71, 0, [], .returned))]
theorem ck_X10_first : okT q_X10_first t_X10_first = true := by decide +kernel
theorem e_X10_first_0 : lk t_X10_first 0 = some (.aload_n 0, 1, 0, [], .returned) := rfl
theorem e_X10_first_1 : lk t_X10_first 1 = some (.iconst 0, 2, 0, [], .constant "" 0 (0)) := rfl
theorem e_X10_first_2 : lk t_X10_first 2 = some (.putfield 65, 5, 10, [0, 0], .returned) := rfl
theorem e_X10_first_5 : lk t_X10_first 5 = some (.aload_n 0, 6, 0, [], .returned) := rfl
theorem e_X10_first_6 : lk t_X10_first 6 = some (.iload_n 1, 7, 1, [], .returned) := rfl
theorem e_X10_first_7 : lk t_X10_first 7 = some (.invokevirtual 325, 10, 0, [1, 10, 0, 0], .code yX10_isOrder cX10_isOrder 2 (some .boolean)) := rfl
theorem e_X10_first_10 : lk t_X10_first 10 = some (.ifCond .eq 11, 13, 21, [], .returned) := rfl
theorem e_X10_first_13 : lk t_X10_first 13 = some (.aload_n 0, 14, 0, [], .returned) := rfl
theorem e_X10_first_14 : lk t_X10_first 14 = some (.iload_n 2, 15, 2, [], .returned) := rfl
theorem e_X10_first_15 : lk t_X10_first 15 = some (.invokevirtual 332, 18, 0, [1, 10, 0, 0], .code yX10_isPayer cX10_isPayer 2 (some .boolean)) := rfl
theorem e_X10_first_18 : lk t_X10_first 18 = some (.ifCond .ne 9, 21, 27, [], .returned) := rfl
theorem e_X10_first_21 : lk t_X10_first 21 = some (.aload_n 0, 22, 0, [], .returned) := rfl
theorem e_X10_first_22 : lk t_X10_first 22 = some (.iconst 1, 23, 0, [], .constant "" 0 (1)) := rfl
theorem e_X10_first_23 : lk t_X10_first 23 = some (.invokevirtual 218, 26, 0, [1, 10, 0, 0], .code yX10_refused cX10_refused 2 (some .int)) := rfl
theorem e_X10_first_26 : lk t_X10_first 26 = some (.ireturn, 27, 0, [], .returned) := rfl
theorem e_X10_first_27 : lk t_X10_first 27 = some (.iconst 0, 28, 0, [], .constant "" 0 (0)) := rfl
theorem e_X10_first_28 : lk t_X10_first 28 = some (.istore_n 3, 29, 3, [], .returned) := rfl
theorem e_X10_first_29 : lk t_X10_first 29 = some (.iload_n 3, 30, 3, [], .returned) := rfl
theorem e_X10_first_30 : lk t_X10_first 30 = some (.sipush 9999, 33, 0, [], .constant "" 0 (9999)) := rfl
theorem e_X10_first_33 : lk t_X10_first 33 = some (.if_icmp .gt 31, 36, 64, [], .returned) := rfl
theorem e_X10_first_36 : lk t_X10_first 36 = some (.aload_n 0, 37, 0, [], .returned) := rfl
theorem e_X10_first_37 : lk t_X10_first 37 = some (.iconst 0, 38, 0, [], .constant "" 0 (0)) := rfl
theorem e_X10_first_38 : lk t_X10_first 38 = some (.iload_n 2, 39, 2, [], .returned) := rfl
theorem e_X10_first_39 : lk t_X10_first 39 = some (.iload_n 3, 40, 3, [], .returned) := rfl
theorem e_X10_first_40 : lk t_X10_first 40 = some (.invokevirtual 309, 43, 0, [3, 10, 0, 0], .code yX10_shares_ cX10_shares_ 5 none) := rfl
theorem e_X10_first_43 : lk t_X10_first 43 = some (.aload_n 0, 44, 0, [], .returned) := rfl
theorem e_X10_first_44 : lk t_X10_first 44 = some (.getfield 53, 47, 10, [26, 2], .returned) := rfl
theorem e_X10_first_47 : lk t_X10_first 47 = some (.iload_n 1, 48, 1, [], .returned) := rfl
theorem e_X10_first_48 : lk t_X10_first 48 = some (.iaload, 49, 0, [], .returned) := rfl
theorem e_X10_first_49 : lk t_X10_first 49 = some (.ifCond .le 9, 52, 58, [], .returned) := rfl
theorem e_X10_first_52 : lk t_X10_first 52 = some (.aload_n 0, 53, 0, [], .returned) := rfl
theorem e_X10_first_53 : lk t_X10_first 53 = some (.iload_n 3, 54, 3, [], .returned) := rfl
theorem e_X10_first_54 : lk t_X10_first 54 = some (.invokevirtual 232, 57, 0, [1, 10, 0, 0], .code yX10_good cX10_good 2 (some .int)) := rfl
theorem e_X10_first_57 : lk t_X10_first 57 = some (.ireturn, 58, 0, [], .returned) := rfl
theorem e_X10_first_58 : lk t_X10_first 58 = some (.iinc 3 1, 61, 3, [], .constant "" 0 (1)) := rfl
theorem e_X10_first_61 : lk t_X10_first 61 = some (.goto (-32), 64, 29, [], .returned) := rfl
theorem e_X10_first_64 : lk t_X10_first 64 = some (.aload_n 0, 65, 0, [], .returned) := rfl
theorem e_X10_first_65 : lk t_X10_first 65 = some (.bipush (-2), 67, 0, [], .constant "" 0 (-2)) := rfl
theorem e_X10_first_67 : lk t_X10_first 67 = some (.invokevirtual 232, 70, 0, [1, 10, 0, 0], .code yX10_good cX10_good 2 (some .int)) := rfl
theorem e_X10_first_70 : lk t_X10_first 70 = some (.ireturn, 71, 0, [], .returned) := rfl
abbrev q_X10_tries : MI := (yX10_tries, cX10_tries, 2, none)
def t_X10_tries : Tab := [(0, [], (.iconst 0, 1, 0, [], .constant "" 0 (0))),
  (1, [], (.istore_n 1, 2, 1, [], .returned)),
  (2, [], (.iload_n 1, 3, 1, [], .returned)),
  (3, [], (.bipush 6, 5, 0, [], .constant "" 0 (6))),
  (5, [], (.if_icmp .ge 39, 8, 44, [], .returned)),
  (8, [], (.aload_n 0, 9, 0, [], .returned)),
  (9, [1066], (.getfield 28, 12, 10, [17, 2], .returned)),
  (12, [], (.bipush 6, 14, 0, [], .constant "" 0 (6))),
  (14, [], (.iload_n 1, 15, 1, [], .returned)),
  (15, [], (.iadd, 16, 0, [], .returned)),
  (16, [], (.aload_n 0, 17, 0, [], .returned)),
  (17, [1066], (.getfield 28, 20, 10, [17, 2], .returned)),
  (20, [], (.iload_n 1, 21, 1, [], .returned)),
  (21, [], (.iaload, 22, 0, [], .returned)),
  (22, [], (.iastore, 23, 0, [], .returned)),
  (23, [], (.aload_n 0, 24, 0, [], .returned)),
  (24, [1067], (.getfield 31, 27, 10, [18, 2], .returned)),
  (27, [], (.bipush 6, 29, 0, [], .constant "" 0 (6))),
  (29, [], (.iload_n 1, 30, 1, [], .returned)),
  (30, [], (.iadd, 31, 0, [], .returned)),
  (31, [], (.aload_n 0, 32, 0, [], .returned)),
  (32, [1067], (.getfield 31, 35, 10, [18, 2], .returned)),
  (35, [], (.iload_n 1, 36, 1, [], .returned)),
  (36, [], (.iaload, 37, 0, [], .returned)),
  (37, [], (.iastore, 38, 0, [], .returned)),
  (38, [], (.iinc 1 1, 41, 1, [], .constant "" 0 (1))),
  (41, [], (.goto (-39), 44, 2, [], .returned)),
  (44, [], (.return_, 45, 0, [], .returned))]
theorem ck_X10_tries : okT q_X10_tries t_X10_tries = true := by decide +kernel
theorem e_X10_tries_0 : lk t_X10_tries 0 = some (.iconst 0, 1, 0, [], .constant "" 0 (0)) := rfl
theorem e_X10_tries_1 : lk t_X10_tries 1 = some (.istore_n 1, 2, 1, [], .returned) := rfl
theorem e_X10_tries_2 : lk t_X10_tries 2 = some (.iload_n 1, 3, 1, [], .returned) := rfl
theorem e_X10_tries_3 : lk t_X10_tries 3 = some (.bipush 6, 5, 0, [], .constant "" 0 (6)) := rfl
theorem e_X10_tries_5 : lk t_X10_tries 5 = some (.if_icmp .ge 39, 8, 44, [], .returned) := rfl
theorem e_X10_tries_8 : lk t_X10_tries 8 = some (.aload_n 0, 9, 0, [], .returned) := rfl
theorem e_X10_tries_9 : lk t_X10_tries 9 = some (.getfield 28, 12, 10, [17, 2], .returned) := rfl
theorem e_X10_tries_12 : lk t_X10_tries 12 = some (.bipush 6, 14, 0, [], .constant "" 0 (6)) := rfl
theorem e_X10_tries_14 : lk t_X10_tries 14 = some (.iload_n 1, 15, 1, [], .returned) := rfl
theorem e_X10_tries_15 : lk t_X10_tries 15 = some (.iadd, 16, 0, [], .returned) := rfl
theorem e_X10_tries_16 : lk t_X10_tries 16 = some (.aload_n 0, 17, 0, [], .returned) := rfl
theorem e_X10_tries_17 : lk t_X10_tries 17 = some (.getfield 28, 20, 10, [17, 2], .returned) := rfl
theorem e_X10_tries_20 : lk t_X10_tries 20 = some (.iload_n 1, 21, 1, [], .returned) := rfl
theorem e_X10_tries_21 : lk t_X10_tries 21 = some (.iaload, 22, 0, [], .returned) := rfl
theorem e_X10_tries_22 : lk t_X10_tries 22 = some (.iastore, 23, 0, [], .returned) := rfl
theorem e_X10_tries_23 : lk t_X10_tries 23 = some (.aload_n 0, 24, 0, [], .returned) := rfl
theorem e_X10_tries_24 : lk t_X10_tries 24 = some (.getfield 31, 27, 10, [18, 2], .returned) := rfl
theorem e_X10_tries_27 : lk t_X10_tries 27 = some (.bipush 6, 29, 0, [], .constant "" 0 (6)) := rfl
theorem e_X10_tries_29 : lk t_X10_tries 29 = some (.iload_n 1, 30, 1, [], .returned) := rfl
theorem e_X10_tries_30 : lk t_X10_tries 30 = some (.iadd, 31, 0, [], .returned) := rfl
theorem e_X10_tries_31 : lk t_X10_tries 31 = some (.aload_n 0, 32, 0, [], .returned) := rfl
theorem e_X10_tries_32 : lk t_X10_tries 32 = some (.getfield 31, 35, 10, [18, 2], .returned) := rfl
theorem e_X10_tries_35 : lk t_X10_tries 35 = some (.iload_n 1, 36, 1, [], .returned) := rfl
theorem e_X10_tries_36 : lk t_X10_tries 36 = some (.iaload, 37, 0, [], .returned) := rfl
theorem e_X10_tries_37 : lk t_X10_tries 37 = some (.iastore, 38, 0, [], .returned) := rfl
theorem e_X10_tries_38 : lk t_X10_tries 38 = some (.iinc 1 1, 41, 1, [], .constant "" 0 (1)) := rfl
theorem e_X10_tries_41 : lk t_X10_tries 41 = some (.goto (-39), 44, 2, [], .returned) := rfl
theorem e_X10_tries_44 : lk t_X10_tries 44 = some (.return_, 45, 0, [], .returned) := rfl
abbrev q_X10_runs : MI := (yX10_runs, cX10_runs, 4, none)
def t_X10_runs : Tab := [(0, [], (.aload_n 0, 1, 0, [], .returned)),
  (1, [], (.bipush 6, 3, 0, [], .constant "" 0 (6))),
  (3, [1517, 1520, 1519, 87, 102], (.invokevirtual 341, 6, 0, [1, 10, 0, 0], .code yX10_week cX10_week 3 none)),
  (6, [], (.iconst 0, 7, 0, [], .constant "" 0 (0))),
  (7, [], (.istore_n 3, 8, 3, [], .returned)),
  (8, [], (.iload_n 3, 9, 3, [], .returned)),
  (9, [], (.aload_n 0, 10, 0, [], .returned)),
  (10, [1061], (.getfield 17, 13, 10, [12, 2], .returned)),
  (13, [], (.iconst 4, 14, 0, [], .constant "" 0 (4))),
  (14, [], (.iaload, 15, 0, [], .returned)),
  (15, [], (.if_icmp .ge 31, 18, 46, [], .returned)),
  (18, [], (.iload_n 1, 19, 1, [], .returned)),
  (19, [], (.aload_n 0, 20, 0, [], .returned)),
  (20, [1061], (.getfield 17, 23, 10, [12, 2], .returned)),
  (23, [], (.bipush 48, 25, 0, [], .constant "" 0 (48))),
  (25, [], (.iload_n 3, 26, 3, [], .returned)),
  (26, [], (.iadd, 27, 0, [], .returned)),
  (27, [], (.iaload, 28, 0, [], .returned)),
  (28, [], (.irem, 29, 0, [], .returned)),
  (29, [], (.ifCond .ne 11, 32, 40, [], .returned)),
  (32, [], (.aload_n 0, 33, 0, [], .returned)),
  (33, [], (.bipush 6, 35, 0, [], .constant "" 0 (6))),
  (35, [], (.iload_n 3, 36, 3, [], .returned)),
  (36, [], (.iload_n 2, 37, 2, [], .returned)),
  (37, [1521, 1524, 1523, 88, 102], (.invokevirtual 344, 40, 0, [3, 10, 0, 0], .code yX10_pays cX10_pays 5 none)),
  (40, [], (.iinc 3 1, 43, 3, [], .constant "" 0 (1))),
  (43, [], (.goto (-35), 46, 8, [], .returned)),
  (46, [], (.return_, 47, 0, [], .returned))]
theorem ck_X10_runs : okT q_X10_runs t_X10_runs = true := by decide +kernel
theorem e_X10_runs_0 : lk t_X10_runs 0 = some (.aload_n 0, 1, 0, [], .returned) := rfl
theorem e_X10_runs_1 : lk t_X10_runs 1 = some (.bipush 6, 3, 0, [], .constant "" 0 (6)) := rfl
theorem e_X10_runs_3 : lk t_X10_runs 3 = some (.invokevirtual 341, 6, 0, [1, 10, 0, 0], .code yX10_week cX10_week 3 none) := rfl
theorem e_X10_runs_6 : lk t_X10_runs 6 = some (.iconst 0, 7, 0, [], .constant "" 0 (0)) := rfl
theorem e_X10_runs_7 : lk t_X10_runs 7 = some (.istore_n 3, 8, 3, [], .returned) := rfl
theorem e_X10_runs_8 : lk t_X10_runs 8 = some (.iload_n 3, 9, 3, [], .returned) := rfl
theorem e_X10_runs_9 : lk t_X10_runs 9 = some (.aload_n 0, 10, 0, [], .returned) := rfl
theorem e_X10_runs_10 : lk t_X10_runs 10 = some (.getfield 17, 13, 10, [12, 2], .returned) := rfl
theorem e_X10_runs_13 : lk t_X10_runs 13 = some (.iconst 4, 14, 0, [], .constant "" 0 (4)) := rfl
theorem e_X10_runs_14 : lk t_X10_runs 14 = some (.iaload, 15, 0, [], .returned) := rfl
theorem e_X10_runs_15 : lk t_X10_runs 15 = some (.if_icmp .ge 31, 18, 46, [], .returned) := rfl
theorem e_X10_runs_18 : lk t_X10_runs 18 = some (.iload_n 1, 19, 1, [], .returned) := rfl
theorem e_X10_runs_19 : lk t_X10_runs 19 = some (.aload_n 0, 20, 0, [], .returned) := rfl
theorem e_X10_runs_20 : lk t_X10_runs 20 = some (.getfield 17, 23, 10, [12, 2], .returned) := rfl
theorem e_X10_runs_23 : lk t_X10_runs 23 = some (.bipush 48, 25, 0, [], .constant "" 0 (48)) := rfl
theorem e_X10_runs_25 : lk t_X10_runs 25 = some (.iload_n 3, 26, 3, [], .returned) := rfl
theorem e_X10_runs_26 : lk t_X10_runs 26 = some (.iadd, 27, 0, [], .returned) := rfl
theorem e_X10_runs_27 : lk t_X10_runs 27 = some (.iaload, 28, 0, [], .returned) := rfl
theorem e_X10_runs_28 : lk t_X10_runs 28 = some (.irem, 29, 0, [], .returned) := rfl
theorem e_X10_runs_29 : lk t_X10_runs 29 = some (.ifCond .ne 11, 32, 40, [], .returned) := rfl
theorem e_X10_runs_32 : lk t_X10_runs 32 = some (.aload_n 0, 33, 0, [], .returned) := rfl
theorem e_X10_runs_33 : lk t_X10_runs 33 = some (.bipush 6, 35, 0, [], .constant "" 0 (6)) := rfl
theorem e_X10_runs_35 : lk t_X10_runs 35 = some (.iload_n 3, 36, 3, [], .returned) := rfl
theorem e_X10_runs_36 : lk t_X10_runs 36 = some (.iload_n 2, 37, 2, [], .returned) := rfl
theorem e_X10_runs_37 : lk t_X10_runs 37 = some (.invokevirtual 344, 40, 0, [3, 10, 0, 0], .code yX10_pays cX10_pays 5 none) := rfl
theorem e_X10_runs_40 : lk t_X10_runs 40 = some (.iinc 3 1, 43, 3, [], .constant "" 0 (1)) := rfl
theorem e_X10_runs_43 : lk t_X10_runs 43 = some (.goto (-35), 46, 8, [], .returned) := rfl
theorem e_X10_runs_46 : lk t_X10_runs 46 = some (.return_, 47, 0, [], .returned) := rfl
abbrev q_X10_done : MI := (yX10_done, cX10_done, 4, (some .int))
def t_X10_done : Tab := [(0, [], (.aload_n 0, 1, 0, [], .returned)),
  (1, [], (.iconst 0, 2, 0, [], .constant "" 0 (0))),
  (2, [1049], (.putfield 65, 5, 10, [0, 0], .returned)),
  (5, [], (.aload_n 0, 6, 0, [], .returned)),
  (6, [], (.iload_n 1, 7, 1, [], .returned)),
  (7, [1360, 1363, 1362, 63, 102], (.invokevirtual 325, 10, 0, [1, 10, 0, 0], .code yX10_isOrder cX10_isOrder 2 (some .boolean))),
  (10, [], (.ifCond .ne 9, 13, 19, [], .returned)),
  (13, [], (.aload_n 0, 14, 0, [], .returned)),
  (14, [], (.iconst 1, 15, 0, [], .constant "" 0 (1))),
  (15, [1158, 1161, 1160, 35, 102], (.invokevirtual 218, 18, 0, [1, 10, 0, 0], .code yX10_refused cX10_refused 2 (some .int))),
  (18, [], (.ireturn, 19, 0, [], .returned)),
  (19, [], (.iload_n 2, 20, 2, [], .returned)),
  (20, [1380, 1382, 1381, 102], (.invokestatic 335, 23, 0, [1, 0, 0], .code yX10_isNet cX10_isNet 1 (some .boolean))),
  (23, [], (.ifCond .ne 9, 26, 32, [], .returned)),
  (26, [], (.aload_n 0, 27, 0, [], .returned)),
  (27, [], (.iconst 2, 28, 0, [], .constant "" 0 (2))),
  (28, [1158, 1161, 1160, 35, 102], (.invokevirtual 218, 31, 0, [1, 10, 0, 0], .code yX10_refused cX10_refused 2 (some .int))),
  (31, [], (.ireturn, 32, 0, [], .returned)),
  (32, [], (.aload_n 0, 33, 0, [], .returned)),
  (33, [1509, 1512, 1511, 85, 102], (.invokevirtual 347, 36, 0, [0, 10, 0, 0], .code yX10_tries cX10_tries 2 none)),
  (36, [], (.aload_n 0, 37, 0, [], .returned)),
  (37, [], (.bipush 6, 39, 0, [], .constant "" 0 (6))),
  (39, [], (.iload_n 1, 40, 1, [], .returned)),
  (40, [1347, 1350, 1349, 61, 102], (.invokevirtual 236, 43, 0, [2, 10, 0, 0], .code yX10_restOf cX10_restOf 3 (some .int))),
  (43, [], (.ifCond .ne 9, 46, 52, [], .returned)),
  (46, [], (.aload_n 0, 47, 0, [], .returned)),
  (47, [], (.iconst 0, 48, 0, [], .constant "" 0 (0))),
  (48, [1316, 1319, 1318, 57, 102], (.invokevirtual 232, 51, 0, [1, 10, 0, 0], .code yX10_good cX10_good 2 (some .int))),
  (51, [], (.ireturn, 52, 0, [], .returned)),
  (52, [], (.iconst 1, 53, 0, [], .constant "" 0 (1))),
  (53, [], (.istore_n 3, 54, 3, [], .returned)),
  (54, [], (.iload_n 3, 55, 3, [], .returned)),
  (55, [], (.sipush 200, 58, 0, [], .constant "" 0 (200))),
  (58, [], (.if_icmp .gt 31, 61, 89, [], .returned)),
  (61, [], (.aload_n 0, 62, 0, [], .returned)),
  (62, [], (.iload_n 3, 63, 3, [], .returned)),
  (63, [], (.iload_n 2, 64, 2, [], .returned)),
  (64, [1513, 1516, 1515, 86, 102], (.invokevirtual 350, 67, 0, [2, 10, 0, 0], .code yX10_runs cX10_runs 4 none)),
  (67, [], (.aload_n 0, 68, 0, [], .returned)),
  (68, [], (.bipush 6, 70, 0, [], .constant "" 0 (6))),
  (70, [], (.iload_n 1, 71, 1, [], .returned)),
  (71, [1347, 1350, 1349, 61, 102], (.invokevirtual 236, 74, 0, [2, 10, 0, 0], .code yX10_restOf cX10_restOf 3 (some .int))),
  (74, [], (.ifCond .ne 9, 77, 83, [], .returned)),
  (77, [], (.aload_n 0, 78, 0, [], .returned)),
  (78, [], (.iload_n 3, 79, 3, [], .returned)),
  (79, [1316, 1319, 1318, 57, 102], (.invokevirtual 232, 82, 0, [1, 10, 0, 0], .code yX10_good cX10_good 2 (some .int))),
  (82, [], (.ireturn, 83, 0, [], .returned)),
  (83, [], (.iinc 3 1, 86, 3, [], .constant "" 0 (1))),
  (86, [], (.goto (-32), 89, 54, [], .returned)),
  (89, [], (.aload_n 0, 90, 0, [], .returned)),
  (90, [], (.bipush (-2), 92, 0, [], .constant "" 0 (-2))),
  (92, [1316, 1319, 1318, 57, 102], (.invokevirtual 232, 95, 0, [1, 10, 0, 0], .code yX10_good cX10_good 2 (some .int))),
  (95, [], (.ireturn, 96, 0, [], .returned))]
theorem ck_X10_done : okT q_X10_done t_X10_done = true := by decide +kernel
theorem e_X10_done_0 : lk t_X10_done 0 = some (.aload_n 0, 1, 0, [], .returned) := rfl
theorem e_X10_done_1 : lk t_X10_done 1 = some (.iconst 0, 2, 0, [], .constant "" 0 (0)) := rfl
theorem e_X10_done_2 : lk t_X10_done 2 = some (.putfield 65, 5, 10, [0, 0], .returned) := rfl
theorem e_X10_done_5 : lk t_X10_done 5 = some (.aload_n 0, 6, 0, [], .returned) := rfl
theorem e_X10_done_6 : lk t_X10_done 6 = some (.iload_n 1, 7, 1, [], .returned) := rfl
theorem e_X10_done_7 : lk t_X10_done 7 = some (.invokevirtual 325, 10, 0, [1, 10, 0, 0], .code yX10_isOrder cX10_isOrder 2 (some .boolean)) := rfl
theorem e_X10_done_10 : lk t_X10_done 10 = some (.ifCond .ne 9, 13, 19, [], .returned) := rfl
theorem e_X10_done_13 : lk t_X10_done 13 = some (.aload_n 0, 14, 0, [], .returned) := rfl
theorem e_X10_done_14 : lk t_X10_done 14 = some (.iconst 1, 15, 0, [], .constant "" 0 (1)) := rfl
theorem e_X10_done_15 : lk t_X10_done 15 = some (.invokevirtual 218, 18, 0, [1, 10, 0, 0], .code yX10_refused cX10_refused 2 (some .int)) := rfl
theorem e_X10_done_18 : lk t_X10_done 18 = some (.ireturn, 19, 0, [], .returned) := rfl
theorem e_X10_done_19 : lk t_X10_done 19 = some (.iload_n 2, 20, 2, [], .returned) := rfl
theorem e_X10_done_20 : lk t_X10_done 20 = some (.invokestatic 335, 23, 0, [1, 0, 0], .code yX10_isNet cX10_isNet 1 (some .boolean)) := rfl
theorem e_X10_done_23 : lk t_X10_done 23 = some (.ifCond .ne 9, 26, 32, [], .returned) := rfl
theorem e_X10_done_26 : lk t_X10_done 26 = some (.aload_n 0, 27, 0, [], .returned) := rfl
theorem e_X10_done_27 : lk t_X10_done 27 = some (.iconst 2, 28, 0, [], .constant "" 0 (2)) := rfl
theorem e_X10_done_28 : lk t_X10_done 28 = some (.invokevirtual 218, 31, 0, [1, 10, 0, 0], .code yX10_refused cX10_refused 2 (some .int)) := rfl
theorem e_X10_done_31 : lk t_X10_done 31 = some (.ireturn, 32, 0, [], .returned) := rfl
theorem e_X10_done_32 : lk t_X10_done 32 = some (.aload_n 0, 33, 0, [], .returned) := rfl
theorem e_X10_done_33 : lk t_X10_done 33 = some (.invokevirtual 347, 36, 0, [0, 10, 0, 0], .code yX10_tries cX10_tries 2 none) := rfl
theorem e_X10_done_36 : lk t_X10_done 36 = some (.aload_n 0, 37, 0, [], .returned) := rfl
theorem e_X10_done_37 : lk t_X10_done 37 = some (.bipush 6, 39, 0, [], .constant "" 0 (6)) := rfl
theorem e_X10_done_39 : lk t_X10_done 39 = some (.iload_n 1, 40, 1, [], .returned) := rfl
theorem e_X10_done_40 : lk t_X10_done 40 = some (.invokevirtual 236, 43, 0, [2, 10, 0, 0], .code yX10_restOf cX10_restOf 3 (some .int)) := rfl
theorem e_X10_done_43 : lk t_X10_done 43 = some (.ifCond .ne 9, 46, 52, [], .returned) := rfl
theorem e_X10_done_46 : lk t_X10_done 46 = some (.aload_n 0, 47, 0, [], .returned) := rfl
theorem e_X10_done_47 : lk t_X10_done 47 = some (.iconst 0, 48, 0, [], .constant "" 0 (0)) := rfl
theorem e_X10_done_48 : lk t_X10_done 48 = some (.invokevirtual 232, 51, 0, [1, 10, 0, 0], .code yX10_good cX10_good 2 (some .int)) := rfl
theorem e_X10_done_51 : lk t_X10_done 51 = some (.ireturn, 52, 0, [], .returned) := rfl
theorem e_X10_done_52 : lk t_X10_done 52 = some (.iconst 1, 53, 0, [], .constant "" 0 (1)) := rfl
theorem e_X10_done_53 : lk t_X10_done 53 = some (.istore_n 3, 54, 3, [], .returned) := rfl
theorem e_X10_done_54 : lk t_X10_done 54 = some (.iload_n 3, 55, 3, [], .returned) := rfl
theorem e_X10_done_55 : lk t_X10_done 55 = some (.sipush 200, 58, 0, [], .constant "" 0 (200)) := rfl
theorem e_X10_done_58 : lk t_X10_done 58 = some (.if_icmp .gt 31, 61, 89, [], .returned) := rfl
theorem e_X10_done_61 : lk t_X10_done 61 = some (.aload_n 0, 62, 0, [], .returned) := rfl
theorem e_X10_done_62 : lk t_X10_done 62 = some (.iload_n 3, 63, 3, [], .returned) := rfl
theorem e_X10_done_63 : lk t_X10_done 63 = some (.iload_n 2, 64, 2, [], .returned) := rfl
theorem e_X10_done_64 : lk t_X10_done 64 = some (.invokevirtual 350, 67, 0, [2, 10, 0, 0], .code yX10_runs cX10_runs 4 none) := rfl
theorem e_X10_done_67 : lk t_X10_done 67 = some (.aload_n 0, 68, 0, [], .returned) := rfl
theorem e_X10_done_68 : lk t_X10_done 68 = some (.bipush 6, 70, 0, [], .constant "" 0 (6)) := rfl
theorem e_X10_done_70 : lk t_X10_done 70 = some (.iload_n 1, 71, 1, [], .returned) := rfl
theorem e_X10_done_71 : lk t_X10_done 71 = some (.invokevirtual 236, 74, 0, [2, 10, 0, 0], .code yX10_restOf cX10_restOf 3 (some .int)) := rfl
theorem e_X10_done_74 : lk t_X10_done 74 = some (.ifCond .ne 9, 77, 83, [], .returned) := rfl
theorem e_X10_done_77 : lk t_X10_done 77 = some (.aload_n 0, 78, 0, [], .returned) := rfl
theorem e_X10_done_78 : lk t_X10_done 78 = some (.iload_n 3, 79, 3, [], .returned) := rfl
theorem e_X10_done_79 : lk t_X10_done 79 = some (.invokevirtual 232, 82, 0, [1, 10, 0, 0], .code yX10_good cX10_good 2 (some .int)) := rfl
theorem e_X10_done_82 : lk t_X10_done 82 = some (.ireturn, 83, 0, [], .returned) := rfl
theorem e_X10_done_83 : lk t_X10_done 83 = some (.iinc 3 1, 86, 3, [], .constant "" 0 (1)) := rfl
theorem e_X10_done_86 : lk t_X10_done 86 = some (.goto (-32), 89, 54, [], .returned) := rfl
theorem e_X10_done_89 : lk t_X10_done 89 = some (.aload_n 0, 90, 0, [], .returned) := rfl
theorem e_X10_done_90 : lk t_X10_done 90 = some (.bipush (-2), 92, 0, [], .constant "" 0 (-2)) := rfl
theorem e_X10_done_92 : lk t_X10_done 92 = some (.invokevirtual 232, 95, 0, [1, 10, 0, 0], .code yX10_good cX10_good 2 (some .int)) := rfl
theorem e_X10_done_95 : lk t_X10_done 95 = some (.ireturn, 96, 0, [], .returned) := rfl
abbrev q_X10_ahead : MI := (yX10_ahead, cX10_ahead, 6, (some .int))
def t_X10_ahead : Tab := [(0, [], (.aload_n 0, 1, 0, [], .returned)),
  (1, [], (.iconst 0, 2, 0, [], .constant "" 0 (0))),
  (2, [1049], (.putfield 65, 5, 10, [0, 0], .returned)),
  (5, [], (.aload_n 0, 6, 0, [], .returned)),
  (6, [], (.iload_n 1, 7, 1, [], .returned)),
  (7, [1360, 1363, 1362, 63, 102], (.invokevirtual 325, 10, 0, [1, 10, 0, 0], .code yX10_isOrder cX10_isOrder 2 (some .boolean))),
  (10, [], (.ifCond .eq 13, 13, 23, [], .returned)),
  (13, [], (.iload 4, 15, 4, [], .returned)),
  (15, [], (.iconst 0, 16, 0, [], .constant "" 0 (0))),
  (16, [], (.iconst 1, 17, 0, [], .constant "" 0 (1))),
  (17, [1174, 1176, 1175, 102], (.invokestatic 90, 20, 0, [3, 0, 0], .code yX10_in cX10_in 3 (some .boolean))),
  (20, [], (.ifCond .ne 9, 23, 29, [], .returned)),
  (23, [], (.aload_n 0, 24, 0, [], .returned)),
  (24, [], (.iconst 1, 25, 0, [], .constant "" 0 (1))),
  (25, [1158, 1161, 1160, 35, 102], (.invokevirtual 218, 28, 0, [1, 10, 0, 0], .code yX10_refused cX10_refused 2 (some .int))),
  (28, [], (.ireturn, 29, 0, [], .returned)),
  (29, [], (.iload_n 2, 30, 2, [], .returned)),
  (30, [1380, 1382, 1381, 102], (.invokestatic 335, 33, 0, [1, 0, 0], .code yX10_isNet cX10_isNet 1 (some .boolean))),
  (33, [], (.ifCond .eq 14, 36, 47, [], .returned)),
  (36, [], (.iload_n 3, 37, 3, [], .returned)),
  (37, [], (.iconst 1, 38, 0, [], .constant "" 0 (1))),
  (38, [], (.sipush 200, 41, 0, [], .constant "" 0 (200))),
  (41, [1174, 1176, 1175, 102], (.invokestatic 90, 44, 0, [3, 0, 0], .code yX10_in cX10_in 3 (some .boolean))),
  (44, [], (.ifCond .ne 9, 47, 53, [], .returned)),
  (47, [], (.aload_n 0, 48, 0, [], .returned)),
  (48, [], (.iconst 2, 49, 0, [], .constant "" 0 (2))),
  (49, [1158, 1161, 1160, 35, 102], (.invokevirtual 218, 52, 0, [1, 10, 0, 0], .code yX10_refused cX10_refused 2 (some .int))),
  (52, [], (.ireturn, 53, 0, [], .returned)),
  (53, [], (.aload_n 0, 54, 0, [], .returned)),
  (54, [1509, 1512, 1511, 85, 102], (.invokevirtual 347, 57, 0, [0, 10, 0, 0], .code yX10_tries cX10_tries 2 none)),
  (57, [], (.iconst 1, 58, 0, [], .constant "" 0 (1))),
  (58, [], (.istore 5, 60, 5, [], .returned)),
  (60, [], (.iload 5, 62, 5, [], .returned)),
  (62, [], (.iload_n 3, 63, 3, [], .returned)),
  (63, [], (.if_icmp .gt 16, 66, 79, [], .returned)),
  (66, [], (.aload_n 0, 67, 0, [], .returned)),
  (67, [], (.iload 5, 69, 5, [], .returned)),
  (69, [], (.iload_n 2, 70, 2, [], .returned)),
  (70, [1513, 1516, 1515, 86, 102], (.invokevirtual 350, 73, 0, [2, 10, 0, 0], .code yX10_runs cX10_runs 4 none)),
  (73, [], (.iinc 5 1, 76, 5, [], .constant "" 0 (1))),
  (76, [], (.goto (-16), 79, 60, [], .returned)),
  (79, [], (.aload_n 0, 80, 0, [], .returned)),
  (80, [], (.iload 4, 82, 4, [], .returned)),
  (82, [], (.ifCond .ne 22, 85, 104, [], .returned)),
  (85, [], (.aload_n 0, 86, 0, [], .returned)),
  (86, [1066], (.getfield 28, 89, 10, [17, 2], .returned)),
  (89, [], (.bipush 6, 91, 0, [], .constant "" 0 (6))),
  (91, [], (.iload_n 1, 92, 1, [], .returned)),
  (92, [], (.iadd, 93, 0, [], .returned)),
  (93, [], (.iaload, 94, 0, [], .returned)),
  (94, [], (.aload_n 0, 95, 0, [], .returned)),
  (95, [1066], (.getfield 28, 98, 10, [17, 2], .returned)),
  (98, [], (.iload_n 1, 99, 1, [], .returned)),
  (99, [], (.iaload, 100, 0, [], .returned)),
  (100, [], (.isub, 101, 0, [], .returned)),
  (101, [], (.goto 12, 104, 113, [], .returned)),
  (104, [], (.aload_n 0, 105, 0, [], .returned)),
  (105, [1067], (.getfield 31, 108, 10, [18, 2], .returned)),
  (108, [], (.bipush 6, 110, 0, [], .constant "" 0 (6))),
  (110, [], (.iload_n 1, 111, 1, [], .returned)),
  (111, [], (.iadd, 112, 0, [], .returned)),
  (112, [], (.iaload, 113, 0, [], .returned)),
  (113, [1316, 1319, 1318, 57, 102], (.invokevirtual 232, 116, 0, [1, 10, 0, 0], .code yX10_good cX10_good 2 (some .int))),
  (116, [], (.ireturn, 117, 0, [], .returned))]
theorem ck_X10_ahead : okT q_X10_ahead t_X10_ahead = true := by decide +kernel
theorem e_X10_ahead_0 : lk t_X10_ahead 0 = some (.aload_n 0, 1, 0, [], .returned) := rfl
theorem e_X10_ahead_1 : lk t_X10_ahead 1 = some (.iconst 0, 2, 0, [], .constant "" 0 (0)) := rfl
theorem e_X10_ahead_2 : lk t_X10_ahead 2 = some (.putfield 65, 5, 10, [0, 0], .returned) := rfl
theorem e_X10_ahead_5 : lk t_X10_ahead 5 = some (.aload_n 0, 6, 0, [], .returned) := rfl
theorem e_X10_ahead_6 : lk t_X10_ahead 6 = some (.iload_n 1, 7, 1, [], .returned) := rfl
theorem e_X10_ahead_7 : lk t_X10_ahead 7 = some (.invokevirtual 325, 10, 0, [1, 10, 0, 0], .code yX10_isOrder cX10_isOrder 2 (some .boolean)) := rfl
theorem e_X10_ahead_10 : lk t_X10_ahead 10 = some (.ifCond .eq 13, 13, 23, [], .returned) := rfl
theorem e_X10_ahead_13 : lk t_X10_ahead 13 = some (.iload 4, 15, 4, [], .returned) := rfl
theorem e_X10_ahead_15 : lk t_X10_ahead 15 = some (.iconst 0, 16, 0, [], .constant "" 0 (0)) := rfl
theorem e_X10_ahead_16 : lk t_X10_ahead 16 = some (.iconst 1, 17, 0, [], .constant "" 0 (1)) := rfl
theorem e_X10_ahead_17 : lk t_X10_ahead 17 = some (.invokestatic 90, 20, 0, [3, 0, 0], .code yX10_in cX10_in 3 (some .boolean)) := rfl
theorem e_X10_ahead_20 : lk t_X10_ahead 20 = some (.ifCond .ne 9, 23, 29, [], .returned) := rfl
theorem e_X10_ahead_23 : lk t_X10_ahead 23 = some (.aload_n 0, 24, 0, [], .returned) := rfl
theorem e_X10_ahead_24 : lk t_X10_ahead 24 = some (.iconst 1, 25, 0, [], .constant "" 0 (1)) := rfl
theorem e_X10_ahead_25 : lk t_X10_ahead 25 = some (.invokevirtual 218, 28, 0, [1, 10, 0, 0], .code yX10_refused cX10_refused 2 (some .int)) := rfl
theorem e_X10_ahead_28 : lk t_X10_ahead 28 = some (.ireturn, 29, 0, [], .returned) := rfl
theorem e_X10_ahead_29 : lk t_X10_ahead 29 = some (.iload_n 2, 30, 2, [], .returned) := rfl
theorem e_X10_ahead_30 : lk t_X10_ahead 30 = some (.invokestatic 335, 33, 0, [1, 0, 0], .code yX10_isNet cX10_isNet 1 (some .boolean)) := rfl
theorem e_X10_ahead_33 : lk t_X10_ahead 33 = some (.ifCond .eq 14, 36, 47, [], .returned) := rfl
theorem e_X10_ahead_36 : lk t_X10_ahead 36 = some (.iload_n 3, 37, 3, [], .returned) := rfl
theorem e_X10_ahead_37 : lk t_X10_ahead 37 = some (.iconst 1, 38, 0, [], .constant "" 0 (1)) := rfl
theorem e_X10_ahead_38 : lk t_X10_ahead 38 = some (.sipush 200, 41, 0, [], .constant "" 0 (200)) := rfl
theorem e_X10_ahead_41 : lk t_X10_ahead 41 = some (.invokestatic 90, 44, 0, [3, 0, 0], .code yX10_in cX10_in 3 (some .boolean)) := rfl
theorem e_X10_ahead_44 : lk t_X10_ahead 44 = some (.ifCond .ne 9, 47, 53, [], .returned) := rfl
theorem e_X10_ahead_47 : lk t_X10_ahead 47 = some (.aload_n 0, 48, 0, [], .returned) := rfl
theorem e_X10_ahead_48 : lk t_X10_ahead 48 = some (.iconst 2, 49, 0, [], .constant "" 0 (2)) := rfl
theorem e_X10_ahead_49 : lk t_X10_ahead 49 = some (.invokevirtual 218, 52, 0, [1, 10, 0, 0], .code yX10_refused cX10_refused 2 (some .int)) := rfl
theorem e_X10_ahead_52 : lk t_X10_ahead 52 = some (.ireturn, 53, 0, [], .returned) := rfl
theorem e_X10_ahead_53 : lk t_X10_ahead 53 = some (.aload_n 0, 54, 0, [], .returned) := rfl
theorem e_X10_ahead_54 : lk t_X10_ahead 54 = some (.invokevirtual 347, 57, 0, [0, 10, 0, 0], .code yX10_tries cX10_tries 2 none) := rfl
theorem e_X10_ahead_57 : lk t_X10_ahead 57 = some (.iconst 1, 58, 0, [], .constant "" 0 (1)) := rfl
theorem e_X10_ahead_58 : lk t_X10_ahead 58 = some (.istore 5, 60, 5, [], .returned) := rfl
theorem e_X10_ahead_60 : lk t_X10_ahead 60 = some (.iload 5, 62, 5, [], .returned) := rfl
theorem e_X10_ahead_62 : lk t_X10_ahead 62 = some (.iload_n 3, 63, 3, [], .returned) := rfl
theorem e_X10_ahead_63 : lk t_X10_ahead 63 = some (.if_icmp .gt 16, 66, 79, [], .returned) := rfl
theorem e_X10_ahead_66 : lk t_X10_ahead 66 = some (.aload_n 0, 67, 0, [], .returned) := rfl
theorem e_X10_ahead_67 : lk t_X10_ahead 67 = some (.iload 5, 69, 5, [], .returned) := rfl
theorem e_X10_ahead_69 : lk t_X10_ahead 69 = some (.iload_n 2, 70, 2, [], .returned) := rfl
theorem e_X10_ahead_70 : lk t_X10_ahead 70 = some (.invokevirtual 350, 73, 0, [2, 10, 0, 0], .code yX10_runs cX10_runs 4 none) := rfl
theorem e_X10_ahead_73 : lk t_X10_ahead 73 = some (.iinc 5 1, 76, 5, [], .constant "" 0 (1)) := rfl
theorem e_X10_ahead_76 : lk t_X10_ahead 76 = some (.goto (-16), 79, 60, [], .returned) := rfl
theorem e_X10_ahead_79 : lk t_X10_ahead 79 = some (.aload_n 0, 80, 0, [], .returned) := rfl
theorem e_X10_ahead_80 : lk t_X10_ahead 80 = some (.iload 4, 82, 4, [], .returned) := rfl
theorem e_X10_ahead_82 : lk t_X10_ahead 82 = some (.ifCond .ne 22, 85, 104, [], .returned) := rfl
theorem e_X10_ahead_85 : lk t_X10_ahead 85 = some (.aload_n 0, 86, 0, [], .returned) := rfl
theorem e_X10_ahead_86 : lk t_X10_ahead 86 = some (.getfield 28, 89, 10, [17, 2], .returned) := rfl
theorem e_X10_ahead_89 : lk t_X10_ahead 89 = some (.bipush 6, 91, 0, [], .constant "" 0 (6)) := rfl
theorem e_X10_ahead_91 : lk t_X10_ahead 91 = some (.iload_n 1, 92, 1, [], .returned) := rfl
theorem e_X10_ahead_92 : lk t_X10_ahead 92 = some (.iadd, 93, 0, [], .returned) := rfl
theorem e_X10_ahead_93 : lk t_X10_ahead 93 = some (.iaload, 94, 0, [], .returned) := rfl
theorem e_X10_ahead_94 : lk t_X10_ahead 94 = some (.aload_n 0, 95, 0, [], .returned) := rfl
theorem e_X10_ahead_95 : lk t_X10_ahead 95 = some (.getfield 28, 98, 10, [17, 2], .returned) := rfl
theorem e_X10_ahead_98 : lk t_X10_ahead 98 = some (.iload_n 1, 99, 1, [], .returned) := rfl
theorem e_X10_ahead_99 : lk t_X10_ahead 99 = some (.iaload, 100, 0, [], .returned) := rfl
theorem e_X10_ahead_100 : lk t_X10_ahead 100 = some (.isub, 101, 0, [], .returned) := rfl
theorem e_X10_ahead_101 : lk t_X10_ahead 101 = some (.goto 12, 104, 113, [], .returned) := rfl
theorem e_X10_ahead_104 : lk t_X10_ahead 104 = some (.aload_n 0, 105, 0, [], .returned) := rfl
theorem e_X10_ahead_105 : lk t_X10_ahead 105 = some (.getfield 31, 108, 10, [18, 2], .returned) := rfl
theorem e_X10_ahead_108 : lk t_X10_ahead 108 = some (.bipush 6, 110, 0, [], .constant "" 0 (6)) := rfl
theorem e_X10_ahead_110 : lk t_X10_ahead 110 = some (.iload_n 1, 111, 1, [], .returned) := rfl
theorem e_X10_ahead_111 : lk t_X10_ahead 111 = some (.iadd, 112, 0, [], .returned) := rfl
theorem e_X10_ahead_112 : lk t_X10_ahead 112 = some (.iaload, 113, 0, [], .returned) := rfl
theorem e_X10_ahead_113 : lk t_X10_ahead 113 = some (.invokevirtual 232, 116, 0, [1, 10, 0, 0], .code yX10_good cX10_good 2 (some .int)) := rfl
theorem e_X10_ahead_116 : lk t_X10_ahead 116 = some (.ireturn, 117, 0, [], .returned) := rfl
abbrev q_X10_isSteady : MI := (yX10_isSteady, cX10_isSteady, 4, (some .boolean))
def t_X10_isSteady : Tab := [(0, [], (.aload_n 0, 1, 0, [], .returned)),
  (1, [1509, 1512, 1511, 85, 102], (.invokevirtual 347, 4, 0, [0, 10, 0, 0], .code yX10_tries cX10_tries 2 none)),
  (4, [], (.iconst 1, 5, 0, [], .constant "" 0 (1))),
  (5, [], (.istore_n 3, 6, 3, [], .returned)),
  (6, [], (.iload_n 3, 7, 3, [], .returned)),
  (7, [], (.iload_n 2, 8, 2, [], .returned)),
  (8, [], (.if_icmp .gt 15, 11, 23, [], .returned)),
  (11, [], (.aload_n 0, 12, 0, [], .returned)),
  (12, [], (.iload_n 3, 13, 3, [], .returned)),
  (13, [], (.iload_n 1, 14, 1, [], .returned)),
  (14, [1513, 1516, 1515, 86, 102], (.invokevirtual 350, 17, 0, [2, 10, 0, 0], .code yX10_runs cX10_runs 4 none)),
  (17, [], (.iinc 3 1, 20, 3, [], .constant "" 0 (1))),
  (20, [], (.goto (-14), 23, 6, [], .returned)),
  (23, [], (.iconst 0, 24, 0, [], .constant "" 0 (0))),
  (24, [], (.istore_n 3, 25, 3, [], .returned)),
  (25, [], (.iload_n 3, 26, 3, [], .returned)),
  (26, [], (.aload_n 0, 27, 0, [], .returned)),
  (27, [1061], (.getfield 17, 30, 10, [12, 2], .returned)),
  (30, [], (.iconst 5, 31, 0, [], .constant "" 0 (5))),
  (31, [], (.iaload, 32, 0, [], .returned)),
  (32, [], (.if_icmp .ge 33, 35, 65, [], .returned)),
  (35, [], (.aload_n 0, 36, 0, [], .returned)),
  (36, [], (.bipush 6, 38, 0, [], .constant "" 0 (6))),
  (38, [], (.iload_n 3, 39, 3, [], .returned)),
  (39, [1343, 1346, 1345, 60, 102], (.invokevirtual 239, 42, 0, [2, 10, 0, 0], .code yX10_isLive cX10_isLive 3 (some .boolean))),
  (42, [], (.ifCond .eq 17, 45, 59, [], .returned)),
  (45, [], (.aload_n 0, 46, 0, [], .returned)),
  (46, [1067], (.getfield 31, 49, 10, [18, 2], .returned)),
  (49, [], (.bipush 6, 51, 0, [], .constant "" 0 (6))),
  (51, [], (.iload_n 3, 52, 3, [], .returned)),
  (52, [], (.iadd, 53, 0, [], .returned)),
  (53, [], (.iaload, 54, 0, [], .returned)),
  (54, [], (.ifCond .le 5, 57, 59, [], .returned)),
  (57, [], (.iconst 0, 58, 0, [], .constant "" 0 (0))),
  (58, [], (.ireturn, 59, 1, [], .returned)),
  (59, [], (.iinc 3 1, 62, 3, [], .constant "" 0 (1))),
  (62, [], (.goto (-37), 65, 25, [], .returned)),
  (65, [], (.iconst 1, 66, 0, [], .constant "" 0 (1))),
  (66, [], (.ireturn, 67, 1, [], .returned))]
theorem ck_X10_isSteady : okT q_X10_isSteady t_X10_isSteady = true := by decide +kernel
theorem e_X10_isSteady_0 : lk t_X10_isSteady 0 = some (.aload_n 0, 1, 0, [], .returned) := rfl
theorem e_X10_isSteady_1 : lk t_X10_isSteady 1 = some (.invokevirtual 347, 4, 0, [0, 10, 0, 0], .code yX10_tries cX10_tries 2 none) := rfl
theorem e_X10_isSteady_4 : lk t_X10_isSteady 4 = some (.iconst 1, 5, 0, [], .constant "" 0 (1)) := rfl
theorem e_X10_isSteady_5 : lk t_X10_isSteady 5 = some (.istore_n 3, 6, 3, [], .returned) := rfl
theorem e_X10_isSteady_6 : lk t_X10_isSteady 6 = some (.iload_n 3, 7, 3, [], .returned) := rfl
theorem e_X10_isSteady_7 : lk t_X10_isSteady 7 = some (.iload_n 2, 8, 2, [], .returned) := rfl
theorem e_X10_isSteady_8 : lk t_X10_isSteady 8 = some (.if_icmp .gt 15, 11, 23, [], .returned) := rfl
theorem e_X10_isSteady_11 : lk t_X10_isSteady 11 = some (.aload_n 0, 12, 0, [], .returned) := rfl
theorem e_X10_isSteady_12 : lk t_X10_isSteady 12 = some (.iload_n 3, 13, 3, [], .returned) := rfl
theorem e_X10_isSteady_13 : lk t_X10_isSteady 13 = some (.iload_n 1, 14, 1, [], .returned) := rfl
theorem e_X10_isSteady_14 : lk t_X10_isSteady 14 = some (.invokevirtual 350, 17, 0, [2, 10, 0, 0], .code yX10_runs cX10_runs 4 none) := rfl
theorem e_X10_isSteady_17 : lk t_X10_isSteady 17 = some (.iinc 3 1, 20, 3, [], .constant "" 0 (1)) := rfl
theorem e_X10_isSteady_20 : lk t_X10_isSteady 20 = some (.goto (-14), 23, 6, [], .returned) := rfl
theorem e_X10_isSteady_23 : lk t_X10_isSteady 23 = some (.iconst 0, 24, 0, [], .constant "" 0 (0)) := rfl
theorem e_X10_isSteady_24 : lk t_X10_isSteady 24 = some (.istore_n 3, 25, 3, [], .returned) := rfl
theorem e_X10_isSteady_25 : lk t_X10_isSteady 25 = some (.iload_n 3, 26, 3, [], .returned) := rfl
theorem e_X10_isSteady_26 : lk t_X10_isSteady 26 = some (.aload_n 0, 27, 0, [], .returned) := rfl
theorem e_X10_isSteady_27 : lk t_X10_isSteady 27 = some (.getfield 17, 30, 10, [12, 2], .returned) := rfl
theorem e_X10_isSteady_30 : lk t_X10_isSteady 30 = some (.iconst 5, 31, 0, [], .constant "" 0 (5)) := rfl
theorem e_X10_isSteady_31 : lk t_X10_isSteady 31 = some (.iaload, 32, 0, [], .returned) := rfl
theorem e_X10_isSteady_32 : lk t_X10_isSteady 32 = some (.if_icmp .ge 33, 35, 65, [], .returned) := rfl
theorem e_X10_isSteady_35 : lk t_X10_isSteady 35 = some (.aload_n 0, 36, 0, [], .returned) := rfl
theorem e_X10_isSteady_36 : lk t_X10_isSteady 36 = some (.bipush 6, 38, 0, [], .constant "" 0 (6)) := rfl
theorem e_X10_isSteady_38 : lk t_X10_isSteady 38 = some (.iload_n 3, 39, 3, [], .returned) := rfl
theorem e_X10_isSteady_39 : lk t_X10_isSteady 39 = some (.invokevirtual 239, 42, 0, [2, 10, 0, 0], .code yX10_isLive cX10_isLive 3 (some .boolean)) := rfl
theorem e_X10_isSteady_42 : lk t_X10_isSteady 42 = some (.ifCond .eq 17, 45, 59, [], .returned) := rfl
theorem e_X10_isSteady_45 : lk t_X10_isSteady 45 = some (.aload_n 0, 46, 0, [], .returned) := rfl
theorem e_X10_isSteady_46 : lk t_X10_isSteady 46 = some (.getfield 31, 49, 10, [18, 2], .returned) := rfl
theorem e_X10_isSteady_49 : lk t_X10_isSteady 49 = some (.bipush 6, 51, 0, [], .constant "" 0 (6)) := rfl
theorem e_X10_isSteady_51 : lk t_X10_isSteady 51 = some (.iload_n 3, 52, 3, [], .returned) := rfl
theorem e_X10_isSteady_52 : lk t_X10_isSteady 52 = some (.iadd, 53, 0, [], .returned) := rfl
theorem e_X10_isSteady_53 : lk t_X10_isSteady 53 = some (.iaload, 54, 0, [], .returned) := rfl
theorem e_X10_isSteady_54 : lk t_X10_isSteady 54 = some (.ifCond .le 5, 57, 59, [], .returned) := rfl
theorem e_X10_isSteady_57 : lk t_X10_isSteady 57 = some (.iconst 0, 58, 0, [], .constant "" 0 (0)) := rfl
theorem e_X10_isSteady_58 : lk t_X10_isSteady 58 = some (.ireturn, 59, 1, [], .returned) := rfl
theorem e_X10_isSteady_59 : lk t_X10_isSteady 59 = some (.iinc 3 1, 62, 3, [], .constant "" 0 (1)) := rfl
theorem e_X10_isSteady_62 : lk t_X10_isSteady 62 = some (.goto (-37), 65, 25, [], .returned) := rfl
theorem e_X10_isSteady_65 : lk t_X10_isSteady 65 = some (.iconst 1, 66, 0, [], .constant "" 0 (1)) := rfl
theorem e_X10_isSteady_66 : lk t_X10_isSteady 66 = some (.ireturn, 67, 1, [], .returned) := rfl
abbrev q_X10_steady : MI := (yX10_steady, cX10_steady, 3, (some .int))
def t_X10_steady : Tab := [(0, [], (.aload_n 0, 1, 0, [], .returned)),
  (1, [], (.iconst 0, 2, 0, [], .constant "" 0 (0))),
  (2, [1049], (.putfield 65, 5, 10, [0, 0], .returned)),
  (5, [], (.aload_n 0, 6, 0, [], .returned)),
  (6, [1064], (.getfield 224, 9, 10, [15, 0], .returned)),
  (9, [], (.ifCond .ne 9, 12, 18, [], .returned)),
  (12, [], (.aload_n 0, 13, 0, [], .returned)),
  (13, [], (.iconst 1, 14, 0, [], .constant "" 0 (1))),
  (14, [1158, 1161, 1160, 35, 102], (.invokevirtual 218, 17, 0, [1, 10, 0, 0], .code yX10_refused cX10_refused 2 (some .int))),
  (17, [], (.ireturn, 18, 0, [], .returned)),
  (18, [], (.iload_n 1, 19, 1, [], .returned)),
  (19, [], (.iconst 1, 20, 0, [], .constant "" 0 (1))),
  (20, [], (.bipush 20, 22, 0, [], .constant "" 0 (20))),
  (22, [1174, 1176, 1175, 102], (.invokestatic 90, 25, 0, [3, 0, 0], .code yX10_in cX10_in 3 (some .boolean))),
  (25, [], (.ifCond .ne 9, 28, 34, [], .returned)),
  (28, [], (.aload_n 0, 29, 0, [], .returned)),
  (29, [], (.iconst 2, 30, 0, [], .constant "" 0 (2))),
  (30, [1158, 1161, 1160, 35, 102], (.invokevirtual 218, 33, 0, [1, 10, 0, 0], .code yX10_refused cX10_refused 2 (some .int))),
  (33, [], (.ireturn, 34, 0, [], .returned)),
  (34, [], (.iconst 0, 35, 0, [], .constant "" 0 (0))),
  (35, [], (.istore_n 2, 36, 2, [], .returned)),
  (36, [], (.iload_n 2, 37, 2, [], .returned)),
  (37, [], (.sipush 9999, 40, 0, [], .constant "" 0 (9999))),
  (40, [], (.if_icmp .gt 24, 43, 64, [], .returned)),
  (43, [], (.aload_n 0, 44, 0, [], .returned)),
  (44, [], (.iload_n 2, 45, 2, [], .returned)),
  (45, [], (.iload_n 1, 46, 1, [], .returned)),
  (46, [1533, 1536, 1535, 89, 102], (.invokevirtual 353, 49, 0, [2, 10, 0, 0], .code yX10_isSteady cX10_isSteady 4 (some .boolean))),
  (49, [], (.ifCond .eq 9, 52, 58, [], .returned)),
  (52, [], (.aload_n 0, 53, 0, [], .returned)),
  (53, [], (.iload_n 2, 54, 2, [], .returned)),
  (54, [1316, 1319, 1318, 57, 102], (.invokevirtual 232, 57, 0, [1, 10, 0, 0], .code yX10_good cX10_good 2 (some .int))),
  (57, [], (.ireturn, 58, 0, [], .returned)),
  (58, [], (.iinc 2 50, 61, 2, [], .constant "" 0 (50))),
  (61, [], (.goto (-25), 64, 36, [], .returned)),
  (64, [], (.aload_n 0, 65, 0, [], .returned)),
  (65, [], (.bipush (-2), 67, 0, [], .constant "" 0 (-2))),
  (67, [1316, 1319, 1318, 57, 102], (.invokevirtual 232, 70, 0, [1, 10, 0, 0], .code yX10_good cX10_good 2 (some .int))),
  (70, [], (.ireturn, 71, 0, [], .returned))]
theorem ck_X10_steady : okT q_X10_steady t_X10_steady = true := by decide +kernel
theorem e_X10_steady_0 : lk t_X10_steady 0 = some (.aload_n 0, 1, 0, [], .returned) := rfl
theorem e_X10_steady_1 : lk t_X10_steady 1 = some (.iconst 0, 2, 0, [], .constant "" 0 (0)) := rfl
theorem e_X10_steady_2 : lk t_X10_steady 2 = some (.putfield 65, 5, 10, [0, 0], .returned) := rfl
theorem e_X10_steady_5 : lk t_X10_steady 5 = some (.aload_n 0, 6, 0, [], .returned) := rfl
theorem e_X10_steady_6 : lk t_X10_steady 6 = some (.getfield 224, 9, 10, [15, 0], .returned) := rfl
theorem e_X10_steady_9 : lk t_X10_steady 9 = some (.ifCond .ne 9, 12, 18, [], .returned) := rfl
theorem e_X10_steady_12 : lk t_X10_steady 12 = some (.aload_n 0, 13, 0, [], .returned) := rfl
theorem e_X10_steady_13 : lk t_X10_steady 13 = some (.iconst 1, 14, 0, [], .constant "" 0 (1)) := rfl
theorem e_X10_steady_14 : lk t_X10_steady 14 = some (.invokevirtual 218, 17, 0, [1, 10, 0, 0], .code yX10_refused cX10_refused 2 (some .int)) := rfl
theorem e_X10_steady_17 : lk t_X10_steady 17 = some (.ireturn, 18, 0, [], .returned) := rfl
theorem e_X10_steady_18 : lk t_X10_steady 18 = some (.iload_n 1, 19, 1, [], .returned) := rfl
theorem e_X10_steady_19 : lk t_X10_steady 19 = some (.iconst 1, 20, 0, [], .constant "" 0 (1)) := rfl
theorem e_X10_steady_20 : lk t_X10_steady 20 = some (.bipush 20, 22, 0, [], .constant "" 0 (20)) := rfl
theorem e_X10_steady_22 : lk t_X10_steady 22 = some (.invokestatic 90, 25, 0, [3, 0, 0], .code yX10_in cX10_in 3 (some .boolean)) := rfl
theorem e_X10_steady_25 : lk t_X10_steady 25 = some (.ifCond .ne 9, 28, 34, [], .returned) := rfl
theorem e_X10_steady_28 : lk t_X10_steady 28 = some (.aload_n 0, 29, 0, [], .returned) := rfl
theorem e_X10_steady_29 : lk t_X10_steady 29 = some (.iconst 2, 30, 0, [], .constant "" 0 (2)) := rfl
theorem e_X10_steady_30 : lk t_X10_steady 30 = some (.invokevirtual 218, 33, 0, [1, 10, 0, 0], .code yX10_refused cX10_refused 2 (some .int)) := rfl
theorem e_X10_steady_33 : lk t_X10_steady 33 = some (.ireturn, 34, 0, [], .returned) := rfl
theorem e_X10_steady_34 : lk t_X10_steady 34 = some (.iconst 0, 35, 0, [], .constant "" 0 (0)) := rfl
theorem e_X10_steady_35 : lk t_X10_steady 35 = some (.istore_n 2, 36, 2, [], .returned) := rfl
theorem e_X10_steady_36 : lk t_X10_steady 36 = some (.iload_n 2, 37, 2, [], .returned) := rfl
theorem e_X10_steady_37 : lk t_X10_steady 37 = some (.sipush 9999, 40, 0, [], .constant "" 0 (9999)) := rfl
theorem e_X10_steady_40 : lk t_X10_steady 40 = some (.if_icmp .gt 24, 43, 64, [], .returned) := rfl
theorem e_X10_steady_43 : lk t_X10_steady 43 = some (.aload_n 0, 44, 0, [], .returned) := rfl
theorem e_X10_steady_44 : lk t_X10_steady 44 = some (.iload_n 2, 45, 2, [], .returned) := rfl
theorem e_X10_steady_45 : lk t_X10_steady 45 = some (.iload_n 1, 46, 1, [], .returned) := rfl
theorem e_X10_steady_46 : lk t_X10_steady 46 = some (.invokevirtual 353, 49, 0, [2, 10, 0, 0], .code yX10_isSteady cX10_isSteady 4 (some .boolean)) := rfl
theorem e_X10_steady_49 : lk t_X10_steady 49 = some (.ifCond .eq 9, 52, 58, [], .returned) := rfl
theorem e_X10_steady_52 : lk t_X10_steady 52 = some (.aload_n 0, 53, 0, [], .returned) := rfl
theorem e_X10_steady_53 : lk t_X10_steady 53 = some (.iload_n 2, 54, 2, [], .returned) := rfl
theorem e_X10_steady_54 : lk t_X10_steady 54 = some (.invokevirtual 232, 57, 0, [1, 10, 0, 0], .code yX10_good cX10_good 2 (some .int)) := rfl
theorem e_X10_steady_57 : lk t_X10_steady 57 = some (.ireturn, 58, 0, [], .returned) := rfl
theorem e_X10_steady_58 : lk t_X10_steady 58 = some (.iinc 2 50, 61, 2, [], .constant "" 0 (50)) := rfl
theorem e_X10_steady_61 : lk t_X10_steady 61 = some (.goto (-25), 64, 36, [], .returned) := rfl
theorem e_X10_steady_64 : lk t_X10_steady 64 = some (.aload_n 0, 65, 0, [], .returned) := rfl
theorem e_X10_steady_65 : lk t_X10_steady 65 = some (.bipush (-2), 67, 0, [], .constant "" 0 (-2)) := rfl
theorem e_X10_steady_67 : lk t_X10_steady 67 = some (.invokevirtual 232, 70, 0, [1, 10, 0, 0], .code yX10_good cX10_good 2 (some .int)) := rfl
theorem e_X10_steady_70 : lk t_X10_steady 70 = some (.ireturn, 71, 0, [], .returned) := rfl
abbrev q_X10_weeks : MI := (yX10_weeks, cX10_weeks, 3, (some .int))
def t_X10_weeks : Tab := [(0, [], (.aload_n 0, 1, 0, [], .returned)),
  (1, [], (.iconst 0, 2, 0, [], .constant "" 0 (0))),
  (2, [1049], (.putfield 65, 5, 10, [0, 0], .returned)),
  (5, [], (.aload_n 0, 6, 0, [], .returned)),
  (6, [1064], (.getfield 224, 9, 10, [15, 0], .returned)),
  (9, [], (.ifCond .ne 9, 12, 18, [], .returned)),
  (12, [], (.aload_n 0, 13, 0, [], .returned)),
  (13, [], (.iconst 1, 14, 0, [], .constant "" 0 (1))),
  (14, [1158, 1161, 1160, 35, 102], (.invokevirtual 218, 17, 0, [1, 10, 0, 0], .code yX10_refused cX10_refused 2 (some .int))),
  (17, [], (.ireturn, 18, 0, [], .returned)),
  (18, [], (.iload_n 1, 19, 1, [], .returned)),
  (19, [], (.iconst 1, 20, 0, [], .constant "" 0 (1))),
  (20, [], (.bipush 60, 22, 0, [], .constant "" 0 (60))),
  (22, [1174, 1176, 1175, 102], (.invokestatic 90, 25, 0, [3, 0, 0], .code yX10_in cX10_in 3 (some .boolean))),
  (25, [], (.ifCond .ne 9, 28, 34, [], .returned)),
  (28, [], (.aload_n 0, 29, 0, [], .returned)),
  (29, [], (.iconst 2, 30, 0, [], .constant "" 0 (2))),
  (30, [1158, 1161, 1160, 35, 102], (.invokevirtual 218, 33, 0, [1, 10, 0, 0], .code yX10_refused cX10_refused 2 (some .int))),
  (33, [], (.ireturn, 34, 0, [], .returned)),
  (34, [], (.iconst 0, 35, 0, [], .constant "" 0 (0))),
  (35, [], (.istore_n 2, 36, 2, [], .returned)),
  (36, [], (.iload_n 2, 37, 2, [], .returned)),
  (37, [], (.iload_n 1, 38, 1, [], .returned)),
  (38, [], (.if_icmp .ge 14, 41, 52, [], .returned)),
  (41, [], (.aload_n 0, 42, 0, [], .returned)),
  (42, [], (.iconst 0, 43, 0, [], .constant "" 0 (0))),
  (43, [1517, 1520, 1519, 87, 102], (.invokevirtual 341, 46, 0, [1, 10, 0, 0], .code yX10_week cX10_week 3 none)),
  (46, [], (.iinc 2 1, 49, 2, [], .constant "" 0 (1))),
  (49, [], (.goto (-13), 52, 36, [], .returned)),
  (52, [], (.aload_n 0, 53, 0, [], .returned)),
  (53, [], (.dup, 54, 0, [], .returned)),
  (54, [1073], (.getfield 227, 57, 10, [24, 0], .returned)),
  (57, [], (.iload_n 1, 58, 1, [], .returned)),
  (58, [], (.iadd, 59, 0, [], .returned)),
  (59, [1073], (.putfield 227, 62, 10, [24, 0], .returned)),
  (62, [], (.aload_n 0, 63, 0, [], .returned)),
  (63, [], (.aload_n 0, 64, 0, [], .returned)),
  (64, [1335, 1338, 1337, 58, 102], (.invokevirtual 319, 67, 0, [0, 10, 0, 0], .code yX10_owedAll cX10_owedAll 1 (some .int))),
  (67, [1316, 1319, 1318, 57, 102], (.invokevirtual 232, 70, 0, [1, 10, 0, 0], .code yX10_good cX10_good 2 (some .int))),
  (70, [], (.ireturn, 71, 0, [], .returned))]
theorem ck_X10_weeks : okT q_X10_weeks t_X10_weeks = true := by decide +kernel
theorem e_X10_weeks_0 : lk t_X10_weeks 0 = some (.aload_n 0, 1, 0, [], .returned) := rfl
theorem e_X10_weeks_1 : lk t_X10_weeks 1 = some (.iconst 0, 2, 0, [], .constant "" 0 (0)) := rfl
theorem e_X10_weeks_2 : lk t_X10_weeks 2 = some (.putfield 65, 5, 10, [0, 0], .returned) := rfl
theorem e_X10_weeks_5 : lk t_X10_weeks 5 = some (.aload_n 0, 6, 0, [], .returned) := rfl
theorem e_X10_weeks_6 : lk t_X10_weeks 6 = some (.getfield 224, 9, 10, [15, 0], .returned) := rfl
theorem e_X10_weeks_9 : lk t_X10_weeks 9 = some (.ifCond .ne 9, 12, 18, [], .returned) := rfl
theorem e_X10_weeks_12 : lk t_X10_weeks 12 = some (.aload_n 0, 13, 0, [], .returned) := rfl
theorem e_X10_weeks_13 : lk t_X10_weeks 13 = some (.iconst 1, 14, 0, [], .constant "" 0 (1)) := rfl
theorem e_X10_weeks_14 : lk t_X10_weeks 14 = some (.invokevirtual 218, 17, 0, [1, 10, 0, 0], .code yX10_refused cX10_refused 2 (some .int)) := rfl
theorem e_X10_weeks_17 : lk t_X10_weeks 17 = some (.ireturn, 18, 0, [], .returned) := rfl
theorem e_X10_weeks_18 : lk t_X10_weeks 18 = some (.iload_n 1, 19, 1, [], .returned) := rfl
theorem e_X10_weeks_19 : lk t_X10_weeks 19 = some (.iconst 1, 20, 0, [], .constant "" 0 (1)) := rfl
theorem e_X10_weeks_20 : lk t_X10_weeks 20 = some (.bipush 60, 22, 0, [], .constant "" 0 (60)) := rfl
theorem e_X10_weeks_22 : lk t_X10_weeks 22 = some (.invokestatic 90, 25, 0, [3, 0, 0], .code yX10_in cX10_in 3 (some .boolean)) := rfl
theorem e_X10_weeks_25 : lk t_X10_weeks 25 = some (.ifCond .ne 9, 28, 34, [], .returned) := rfl
theorem e_X10_weeks_28 : lk t_X10_weeks 28 = some (.aload_n 0, 29, 0, [], .returned) := rfl
theorem e_X10_weeks_29 : lk t_X10_weeks 29 = some (.iconst 2, 30, 0, [], .constant "" 0 (2)) := rfl
theorem e_X10_weeks_30 : lk t_X10_weeks 30 = some (.invokevirtual 218, 33, 0, [1, 10, 0, 0], .code yX10_refused cX10_refused 2 (some .int)) := rfl
theorem e_X10_weeks_33 : lk t_X10_weeks 33 = some (.ireturn, 34, 0, [], .returned) := rfl
theorem e_X10_weeks_34 : lk t_X10_weeks 34 = some (.iconst 0, 35, 0, [], .constant "" 0 (0)) := rfl
theorem e_X10_weeks_35 : lk t_X10_weeks 35 = some (.istore_n 2, 36, 2, [], .returned) := rfl
theorem e_X10_weeks_36 : lk t_X10_weeks 36 = some (.iload_n 2, 37, 2, [], .returned) := rfl
theorem e_X10_weeks_37 : lk t_X10_weeks 37 = some (.iload_n 1, 38, 1, [], .returned) := rfl
theorem e_X10_weeks_38 : lk t_X10_weeks 38 = some (.if_icmp .ge 14, 41, 52, [], .returned) := rfl
theorem e_X10_weeks_41 : lk t_X10_weeks 41 = some (.aload_n 0, 42, 0, [], .returned) := rfl
theorem e_X10_weeks_42 : lk t_X10_weeks 42 = some (.iconst 0, 43, 0, [], .constant "" 0 (0)) := rfl
theorem e_X10_weeks_43 : lk t_X10_weeks 43 = some (.invokevirtual 341, 46, 0, [1, 10, 0, 0], .code yX10_week cX10_week 3 none) := rfl
theorem e_X10_weeks_46 : lk t_X10_weeks 46 = some (.iinc 2 1, 49, 2, [], .constant "" 0 (1)) := rfl
theorem e_X10_weeks_49 : lk t_X10_weeks 49 = some (.goto (-13), 52, 36, [], .returned) := rfl
theorem e_X10_weeks_52 : lk t_X10_weeks 52 = some (.aload_n 0, 53, 0, [], .returned) := rfl
theorem e_X10_weeks_53 : lk t_X10_weeks 53 = some (.dup, 54, 0, [], .returned) := rfl
theorem e_X10_weeks_54 : lk t_X10_weeks 54 = some (.getfield 227, 57, 10, [24, 0], .returned) := rfl
theorem e_X10_weeks_57 : lk t_X10_weeks 57 = some (.iload_n 1, 58, 1, [], .returned) := rfl
theorem e_X10_weeks_58 : lk t_X10_weeks 58 = some (.iadd, 59, 0, [], .returned) := rfl
theorem e_X10_weeks_59 : lk t_X10_weeks 59 = some (.putfield 227, 62, 10, [24, 0], .returned) := rfl
theorem e_X10_weeks_62 : lk t_X10_weeks 62 = some (.aload_n 0, 63, 0, [], .returned) := rfl
theorem e_X10_weeks_63 : lk t_X10_weeks 63 = some (.aload_n 0, 64, 0, [], .returned) := rfl
theorem e_X10_weeks_64 : lk t_X10_weeks 64 = some (.invokevirtual 319, 67, 0, [0, 10, 0, 0], .code yX10_owedAll cX10_owedAll 1 (some .int)) := rfl
theorem e_X10_weeks_67 : lk t_X10_weeks 67 = some (.invokevirtual 232, 70, 0, [1, 10, 0, 0], .code yX10_good cX10_good 2 (some .int)) := rfl
theorem e_X10_weeks_70 : lk t_X10_weeks 70 = some (.ireturn, 71, 0, [], .returned) := rfl
abbrev q_X10_pay : MI := (yX10_pay, cX10_pay, 4, (some .int))
def t_X10_pay : Tab := [(0, [], (.aload_n 0, 1, 0, [], .returned)),
  (1, [], (.iconst 0, 2, 0, [], .constant "" 0 (0))),
  (2, [1049], (.putfield 65, 5, 10, [0, 0], .returned)),
  (5, [], (.aload_n 0, 6, 0, [], .returned)),
  (6, [], (.iload_n 1, 7, 1, [], .returned)),
  (7, [1372, 1375, 1374, 65, 102], (.invokevirtual 332, 10, 0, [1, 10, 0, 0], .code yX10_isPayer cX10_isPayer 2 (some .boolean))),
  (10, [], (.ifCond .ne 9, 13, 19, [], .returned)),
  (13, [], (.aload_n 0, 14, 0, [], .returned)),
  (14, [], (.iconst 1, 15, 0, [], .constant "" 0 (1))),
  (15, [1158, 1161, 1160, 35, 102], (.invokevirtual 218, 18, 0, [1, 10, 0, 0], .code yX10_refused cX10_refused 2 (some .int))),
  (18, [], (.ireturn, 19, 0, [], .returned)),
  (19, [], (.iload_n 2, 20, 2, [], .returned)),
  (20, [1380, 1382, 1381, 102], (.invokestatic 335, 23, 0, [1, 0, 0], .code yX10_isNet cX10_isNet 1 (some .boolean))),
  (23, [], (.ifCond .ne 9, 26, 32, [], .returned)),
  (26, [], (.aload_n 0, 27, 0, [], .returned)),
  (27, [], (.iconst 2, 28, 0, [], .constant "" 0 (2))),
  (28, [1158, 1161, 1160, 35, 102], (.invokevirtual 218, 31, 0, [1, 10, 0, 0], .code yX10_refused cX10_refused 2 (some .int))),
  (31, [], (.ireturn, 32, 0, [], .returned)),
  (32, [], (.aload_n 0, 33, 0, [], .returned)),
  (33, [], (.iconst 0, 34, 0, [], .constant "" 0 (0))),
  (34, [], (.iload_n 1, 35, 1, [], .returned)),
  (35, [], (.iload_n 2, 36, 2, [], .returned)),
  (36, [1521, 1524, 1523, 88, 102], (.invokevirtual 344, 39, 0, [3, 10, 0, 0], .code yX10_pays cX10_pays 5 none)),
  (39, [], (.iconst 0, 40, 0, [], .constant "" 0 (0))),
  (40, [], (.istore_n 3, 41, 3, [], .returned)),
  (41, [], (.iload_n 3, 42, 3, [], .returned)),
  (42, [], (.aload_n 0, 43, 0, [], .returned)),
  (43, [1061], (.getfield 17, 46, 10, [12, 2], .returned)),
  (46, [], (.iconst 5, 47, 0, [], .constant "" 0 (5))),
  (47, [], (.iaload, 48, 0, [], .returned)),
  (48, [], (.if_icmp .ge 32, 51, 80, [], .returned)),
  (51, [], (.aload_n 0, 52, 0, [], .returned)),
  (52, [1068], (.getfield 34, 55, 10, [19, 2], .returned)),
  (55, [], (.iload_n 3, 56, 3, [], .returned)),
  (56, [], (.dup2, 57, 0, [], .returned)),
  (57, [], (.iaload, 58, 0, [], .returned)),
  (58, [], (.aload_n 0, 59, 0, [], .returned)),
  (59, [1075], (.getfield 53, 62, 10, [26, 2], .returned)),
  (62, [], (.iload_n 3, 63, 3, [], .returned)),
  (63, [], (.iaload, 64, 0, [], .returned)),
  (64, [], (.ifCond .le 7, 67, 71, [], .returned)),
  (67, [], (.iconst 1, 68, 0, [], .constant "" 0 (1))),
  (68, [], (.goto 4, 71, 72, [], .returned)),
  (71, [], (.iconst 0, 72, 0, [], .constant "" 0 (0))),
  (72, [], (.iadd, 73, 0, [], .returned)),
  (73, [], (.iastore, 74, 0, [], .returned)),
  (74, [], (.iinc 3 1, 77, 3, [], .constant "" 0 (1))),
  (77, [], (.goto (-36), 80, 41, [], .returned)),
  (80, [], (.aload_n 0, 81, 0, [], .returned)),
  (81, [1069], (.getfield 37, 84, 10, [20, 2], .returned)),
  (84, [], (.iload_n 1, 85, 1, [], .returned)),
  (85, [], (.dup2, 86, 0, [], .returned)),
  (86, [], (.iaload, 87, 0, [], .returned)),
  (87, [], (.iconst 1, 88, 0, [], .constant "" 0 (1))),
  (88, [], (.iadd, 89, 0, [], .returned)),
  (89, [], (.iastore, 90, 0, [], .returned)),
  (90, [], (.aload_n 0, 91, 0, [], .returned)),
  (91, [1070], (.getfield 40, 94, 10, [21, 2], .returned)),
  (94, [], (.iload_n 1, 95, 1, [], .returned)),
  (95, [], (.dup2, 96, 0, [], .returned)),
  (96, [], (.iaload, 97, 0, [], .returned)),
  (97, [], (.iload_n 2, 98, 2, [], .returned)),
  (98, [], (.iadd, 99, 0, [], .returned)),
  (99, [], (.iastore, 100, 0, [], .returned)),
  (100, [], (.aload_n 0, 101, 0, [], .returned)),
  (101, [1071], (.getfield 43, 104, 10, [22, 2], .returned)),
  (104, [], (.iload_n 1, 105, 1, [], .returned)),
  (105, [], (.dup2, 106, 0, [], .returned)),
  (106, [], (.iaload, 107, 0, [], .returned)),
  (107, [], (.iload_n 2, 108, 2, [], .returned)),
  (108, [], (.aload_n 0, 109, 0, [], .returned)),
  (109, [1076], (.getfield 262, 112, 10, [27, 0], .returned)),
  (112, [], (.isub, 113, 0, [], .returned)),
  (113, [], (.iadd, 114, 0, [], .returned)),
  (114, [], (.iastore, 115, 0, [], .returned)),
  (115, [], (.aload_n 0, 116, 0, [], .returned)),
  (116, [], (.iload_n 1, 117, 1, [], .returned)),
  (117, [], (.iload_n 2, 118, 2, [], .returned)),
  (118, [1545, 1548, 1547, 90, 102], (.invokevirtual 356, 121, 0, [2, 10, 0, 0], .code yX10_logs cX10_logs 5 none)),
  (121, [], (.aload_n 0, 122, 0, [], .returned)),
  (122, [], (.aload_n 0, 123, 0, [], .returned)),
  (123, [1076], (.getfield 262, 126, 10, [27, 0], .returned)),
  (126, [1316, 1319, 1318, 57, 102], (.invokevirtual 232, 129, 0, [1, 10, 0, 0], .code yX10_good cX10_good 2 (some .int))),
  (129, [], (.ireturn, 130, 0, [], .returned))]
theorem ck_X10_pay : okT q_X10_pay t_X10_pay = true := by decide +kernel
theorem e_X10_pay_0 : lk t_X10_pay 0 = some (.aload_n 0, 1, 0, [], .returned) := rfl
theorem e_X10_pay_1 : lk t_X10_pay 1 = some (.iconst 0, 2, 0, [], .constant "" 0 (0)) := rfl
theorem e_X10_pay_2 : lk t_X10_pay 2 = some (.putfield 65, 5, 10, [0, 0], .returned) := rfl
theorem e_X10_pay_5 : lk t_X10_pay 5 = some (.aload_n 0, 6, 0, [], .returned) := rfl
theorem e_X10_pay_6 : lk t_X10_pay 6 = some (.iload_n 1, 7, 1, [], .returned) := rfl
theorem e_X10_pay_7 : lk t_X10_pay 7 = some (.invokevirtual 332, 10, 0, [1, 10, 0, 0], .code yX10_isPayer cX10_isPayer 2 (some .boolean)) := rfl
theorem e_X10_pay_10 : lk t_X10_pay 10 = some (.ifCond .ne 9, 13, 19, [], .returned) := rfl
theorem e_X10_pay_13 : lk t_X10_pay 13 = some (.aload_n 0, 14, 0, [], .returned) := rfl
theorem e_X10_pay_14 : lk t_X10_pay 14 = some (.iconst 1, 15, 0, [], .constant "" 0 (1)) := rfl
theorem e_X10_pay_15 : lk t_X10_pay 15 = some (.invokevirtual 218, 18, 0, [1, 10, 0, 0], .code yX10_refused cX10_refused 2 (some .int)) := rfl
theorem e_X10_pay_18 : lk t_X10_pay 18 = some (.ireturn, 19, 0, [], .returned) := rfl
theorem e_X10_pay_19 : lk t_X10_pay 19 = some (.iload_n 2, 20, 2, [], .returned) := rfl
theorem e_X10_pay_20 : lk t_X10_pay 20 = some (.invokestatic 335, 23, 0, [1, 0, 0], .code yX10_isNet cX10_isNet 1 (some .boolean)) := rfl
theorem e_X10_pay_23 : lk t_X10_pay 23 = some (.ifCond .ne 9, 26, 32, [], .returned) := rfl
theorem e_X10_pay_26 : lk t_X10_pay 26 = some (.aload_n 0, 27, 0, [], .returned) := rfl
theorem e_X10_pay_27 : lk t_X10_pay 27 = some (.iconst 2, 28, 0, [], .constant "" 0 (2)) := rfl
theorem e_X10_pay_28 : lk t_X10_pay 28 = some (.invokevirtual 218, 31, 0, [1, 10, 0, 0], .code yX10_refused cX10_refused 2 (some .int)) := rfl
theorem e_X10_pay_31 : lk t_X10_pay 31 = some (.ireturn, 32, 0, [], .returned) := rfl
theorem e_X10_pay_32 : lk t_X10_pay 32 = some (.aload_n 0, 33, 0, [], .returned) := rfl
theorem e_X10_pay_33 : lk t_X10_pay 33 = some (.iconst 0, 34, 0, [], .constant "" 0 (0)) := rfl
theorem e_X10_pay_34 : lk t_X10_pay 34 = some (.iload_n 1, 35, 1, [], .returned) := rfl
theorem e_X10_pay_35 : lk t_X10_pay 35 = some (.iload_n 2, 36, 2, [], .returned) := rfl
theorem e_X10_pay_36 : lk t_X10_pay 36 = some (.invokevirtual 344, 39, 0, [3, 10, 0, 0], .code yX10_pays cX10_pays 5 none) := rfl
theorem e_X10_pay_39 : lk t_X10_pay 39 = some (.iconst 0, 40, 0, [], .constant "" 0 (0)) := rfl
theorem e_X10_pay_40 : lk t_X10_pay 40 = some (.istore_n 3, 41, 3, [], .returned) := rfl
theorem e_X10_pay_41 : lk t_X10_pay 41 = some (.iload_n 3, 42, 3, [], .returned) := rfl
theorem e_X10_pay_42 : lk t_X10_pay 42 = some (.aload_n 0, 43, 0, [], .returned) := rfl
theorem e_X10_pay_43 : lk t_X10_pay 43 = some (.getfield 17, 46, 10, [12, 2], .returned) := rfl
theorem e_X10_pay_46 : lk t_X10_pay 46 = some (.iconst 5, 47, 0, [], .constant "" 0 (5)) := rfl
theorem e_X10_pay_47 : lk t_X10_pay 47 = some (.iaload, 48, 0, [], .returned) := rfl
theorem e_X10_pay_48 : lk t_X10_pay 48 = some (.if_icmp .ge 32, 51, 80, [], .returned) := rfl
theorem e_X10_pay_51 : lk t_X10_pay 51 = some (.aload_n 0, 52, 0, [], .returned) := rfl
theorem e_X10_pay_52 : lk t_X10_pay 52 = some (.getfield 34, 55, 10, [19, 2], .returned) := rfl
theorem e_X10_pay_55 : lk t_X10_pay 55 = some (.iload_n 3, 56, 3, [], .returned) := rfl
theorem e_X10_pay_56 : lk t_X10_pay 56 = some (.dup2, 57, 0, [], .returned) := rfl
theorem e_X10_pay_57 : lk t_X10_pay 57 = some (.iaload, 58, 0, [], .returned) := rfl
theorem e_X10_pay_58 : lk t_X10_pay 58 = some (.aload_n 0, 59, 0, [], .returned) := rfl
theorem e_X10_pay_59 : lk t_X10_pay 59 = some (.getfield 53, 62, 10, [26, 2], .returned) := rfl
theorem e_X10_pay_62 : lk t_X10_pay 62 = some (.iload_n 3, 63, 3, [], .returned) := rfl
theorem e_X10_pay_63 : lk t_X10_pay 63 = some (.iaload, 64, 0, [], .returned) := rfl
theorem e_X10_pay_64 : lk t_X10_pay 64 = some (.ifCond .le 7, 67, 71, [], .returned) := rfl
theorem e_X10_pay_67 : lk t_X10_pay 67 = some (.iconst 1, 68, 0, [], .constant "" 0 (1)) := rfl
theorem e_X10_pay_68 : lk t_X10_pay 68 = some (.goto 4, 71, 72, [], .returned) := rfl
theorem e_X10_pay_71 : lk t_X10_pay 71 = some (.iconst 0, 72, 0, [], .constant "" 0 (0)) := rfl
theorem e_X10_pay_72 : lk t_X10_pay 72 = some (.iadd, 73, 0, [], .returned) := rfl
theorem e_X10_pay_73 : lk t_X10_pay 73 = some (.iastore, 74, 0, [], .returned) := rfl
theorem e_X10_pay_74 : lk t_X10_pay 74 = some (.iinc 3 1, 77, 3, [], .constant "" 0 (1)) := rfl
theorem e_X10_pay_77 : lk t_X10_pay 77 = some (.goto (-36), 80, 41, [], .returned) := rfl
theorem e_X10_pay_80 : lk t_X10_pay 80 = some (.aload_n 0, 81, 0, [], .returned) := rfl
theorem e_X10_pay_81 : lk t_X10_pay 81 = some (.getfield 37, 84, 10, [20, 2], .returned) := rfl
theorem e_X10_pay_84 : lk t_X10_pay 84 = some (.iload_n 1, 85, 1, [], .returned) := rfl
theorem e_X10_pay_85 : lk t_X10_pay 85 = some (.dup2, 86, 0, [], .returned) := rfl
theorem e_X10_pay_86 : lk t_X10_pay 86 = some (.iaload, 87, 0, [], .returned) := rfl
theorem e_X10_pay_87 : lk t_X10_pay 87 = some (.iconst 1, 88, 0, [], .constant "" 0 (1)) := rfl
theorem e_X10_pay_88 : lk t_X10_pay 88 = some (.iadd, 89, 0, [], .returned) := rfl
theorem e_X10_pay_89 : lk t_X10_pay 89 = some (.iastore, 90, 0, [], .returned) := rfl
theorem e_X10_pay_90 : lk t_X10_pay 90 = some (.aload_n 0, 91, 0, [], .returned) := rfl
theorem e_X10_pay_91 : lk t_X10_pay 91 = some (.getfield 40, 94, 10, [21, 2], .returned) := rfl
theorem e_X10_pay_94 : lk t_X10_pay 94 = some (.iload_n 1, 95, 1, [], .returned) := rfl
theorem e_X10_pay_95 : lk t_X10_pay 95 = some (.dup2, 96, 0, [], .returned) := rfl
theorem e_X10_pay_96 : lk t_X10_pay 96 = some (.iaload, 97, 0, [], .returned) := rfl
theorem e_X10_pay_97 : lk t_X10_pay 97 = some (.iload_n 2, 98, 2, [], .returned) := rfl
theorem e_X10_pay_98 : lk t_X10_pay 98 = some (.iadd, 99, 0, [], .returned) := rfl
theorem e_X10_pay_99 : lk t_X10_pay 99 = some (.iastore, 100, 0, [], .returned) := rfl
theorem e_X10_pay_100 : lk t_X10_pay 100 = some (.aload_n 0, 101, 0, [], .returned) := rfl
theorem e_X10_pay_101 : lk t_X10_pay 101 = some (.getfield 43, 104, 10, [22, 2], .returned) := rfl
theorem e_X10_pay_104 : lk t_X10_pay 104 = some (.iload_n 1, 105, 1, [], .returned) := rfl
theorem e_X10_pay_105 : lk t_X10_pay 105 = some (.dup2, 106, 0, [], .returned) := rfl
theorem e_X10_pay_106 : lk t_X10_pay 106 = some (.iaload, 107, 0, [], .returned) := rfl
theorem e_X10_pay_107 : lk t_X10_pay 107 = some (.iload_n 2, 108, 2, [], .returned) := rfl
theorem e_X10_pay_108 : lk t_X10_pay 108 = some (.aload_n 0, 109, 0, [], .returned) := rfl
theorem e_X10_pay_109 : lk t_X10_pay 109 = some (.getfield 262, 112, 10, [27, 0], .returned) := rfl
theorem e_X10_pay_112 : lk t_X10_pay 112 = some (.isub, 113, 0, [], .returned) := rfl
theorem e_X10_pay_113 : lk t_X10_pay 113 = some (.iadd, 114, 0, [], .returned) := rfl
theorem e_X10_pay_114 : lk t_X10_pay 114 = some (.iastore, 115, 0, [], .returned) := rfl
theorem e_X10_pay_115 : lk t_X10_pay 115 = some (.aload_n 0, 116, 0, [], .returned) := rfl
theorem e_X10_pay_116 : lk t_X10_pay 116 = some (.iload_n 1, 117, 1, [], .returned) := rfl
theorem e_X10_pay_117 : lk t_X10_pay 117 = some (.iload_n 2, 118, 2, [], .returned) := rfl
theorem e_X10_pay_118 : lk t_X10_pay 118 = some (.invokevirtual 356, 121, 0, [2, 10, 0, 0], .code yX10_logs cX10_logs 5 none) := rfl
theorem e_X10_pay_121 : lk t_X10_pay 121 = some (.aload_n 0, 122, 0, [], .returned) := rfl
theorem e_X10_pay_122 : lk t_X10_pay 122 = some (.aload_n 0, 123, 0, [], .returned) := rfl
theorem e_X10_pay_123 : lk t_X10_pay 123 = some (.getfield 262, 126, 10, [27, 0], .returned) := rfl
theorem e_X10_pay_126 : lk t_X10_pay 126 = some (.invokevirtual 232, 129, 0, [1, 10, 0, 0], .code yX10_good cX10_good 2 (some .int)) := rfl
theorem e_X10_pay_129 : lk t_X10_pay 129 = some (.ireturn, 130, 0, [], .returned) := rfl
abbrev q_X10_stop : MI := (yX10_stop, cX10_stop, 3, (some .int))
def t_X10_stop : Tab := [(0, [], (.aload_n 0, 1, 0, [], .returned)),
  (1, [], (.iconst 0, 2, 0, [], .constant "" 0 (0))),
  (2, [1049], (.putfield 65, 5, 10, [0, 0], .returned)),
  (5, [], (.aload_n 0, 6, 0, [], .returned)),
  (6, [], (.iload_n 1, 7, 1, [], .returned)),
  (7, [1360, 1363, 1362, 63, 102], (.invokevirtual 325, 10, 0, [1, 10, 0, 0], .code yX10_isOrder cX10_isOrder 2 (some .boolean))),
  (10, [], (.ifCond .ne 9, 13, 19, [], .returned)),
  (13, [], (.aload_n 0, 14, 0, [], .returned)),
  (14, [], (.iconst 1, 15, 0, [], .constant "" 0 (1))),
  (15, [1158, 1161, 1160, 35, 102], (.invokevirtual 218, 18, 0, [1, 10, 0, 0], .code yX10_refused cX10_refused 2 (some .int))),
  (18, [], (.ireturn, 19, 0, [], .returned)),
  (19, [], (.aload_n 0, 20, 0, [], .returned)),
  (20, [1072], (.getfield 46, 23, 10, [23, 2], .returned)),
  (23, [], (.iload_n 1, 24, 1, [], .returned)),
  (24, [], (.baload, 25, 0, [], .returned)),
  (25, [], (.iload_n 2, 26, 2, [], .returned)),
  (26, [], (.if_icmp .ne 9, 29, 35, [], .returned)),
  (29, [], (.aload_n 0, 30, 0, [], .returned)),
  (30, [], (.iconst 5, 31, 0, [], .constant "" 0 (5))),
  (31, [1158, 1161, 1160, 35, 102], (.invokevirtual 218, 34, 0, [1, 10, 0, 0], .code yX10_refused cX10_refused 2 (some .int))),
  (34, [], (.ireturn, 35, 0, [], .returned)),
  (35, [], (.aload_n 0, 36, 0, [], .returned)),
  (36, [1072], (.getfield 46, 39, 10, [23, 2], .returned)),
  (39, [], (.iload_n 1, 40, 1, [], .returned)),
  (40, [], (.iload_n 2, 41, 2, [], .returned)),
  (41, [], (.bastore, 42, 1, [], .returned)),
  (42, [], (.aload_n 0, 43, 0, [], .returned)),
  (43, [], (.aload_n 0, 44, 0, [], .returned)),
  (44, [1067], (.getfield 31, 47, 10, [18, 2], .returned)),
  (47, [], (.iload_n 1, 48, 1, [], .returned)),
  (48, [], (.iaload, 49, 0, [], .returned)),
  (49, [1316, 1319, 1318, 57, 102], (.invokevirtual 232, 52, 0, [1, 10, 0, 0], .code yX10_good cX10_good 2 (some .int))),
  (52, [], (.ireturn, 53, 0, [], .returned))]
theorem ck_X10_stop : okT q_X10_stop t_X10_stop = true := by decide +kernel
theorem e_X10_stop_0 : lk t_X10_stop 0 = some (.aload_n 0, 1, 0, [], .returned) := rfl
theorem e_X10_stop_1 : lk t_X10_stop 1 = some (.iconst 0, 2, 0, [], .constant "" 0 (0)) := rfl
theorem e_X10_stop_2 : lk t_X10_stop 2 = some (.putfield 65, 5, 10, [0, 0], .returned) := rfl
theorem e_X10_stop_5 : lk t_X10_stop 5 = some (.aload_n 0, 6, 0, [], .returned) := rfl
theorem e_X10_stop_6 : lk t_X10_stop 6 = some (.iload_n 1, 7, 1, [], .returned) := rfl
theorem e_X10_stop_7 : lk t_X10_stop 7 = some (.invokevirtual 325, 10, 0, [1, 10, 0, 0], .code yX10_isOrder cX10_isOrder 2 (some .boolean)) := rfl
theorem e_X10_stop_10 : lk t_X10_stop 10 = some (.ifCond .ne 9, 13, 19, [], .returned) := rfl
theorem e_X10_stop_13 : lk t_X10_stop 13 = some (.aload_n 0, 14, 0, [], .returned) := rfl
theorem e_X10_stop_14 : lk t_X10_stop 14 = some (.iconst 1, 15, 0, [], .constant "" 0 (1)) := rfl
theorem e_X10_stop_15 : lk t_X10_stop 15 = some (.invokevirtual 218, 18, 0, [1, 10, 0, 0], .code yX10_refused cX10_refused 2 (some .int)) := rfl
theorem e_X10_stop_18 : lk t_X10_stop 18 = some (.ireturn, 19, 0, [], .returned) := rfl
theorem e_X10_stop_19 : lk t_X10_stop 19 = some (.aload_n 0, 20, 0, [], .returned) := rfl
theorem e_X10_stop_20 : lk t_X10_stop 20 = some (.getfield 46, 23, 10, [23, 2], .returned) := rfl
theorem e_X10_stop_23 : lk t_X10_stop 23 = some (.iload_n 1, 24, 1, [], .returned) := rfl
theorem e_X10_stop_24 : lk t_X10_stop 24 = some (.baload, 25, 0, [], .returned) := rfl
theorem e_X10_stop_25 : lk t_X10_stop 25 = some (.iload_n 2, 26, 2, [], .returned) := rfl
theorem e_X10_stop_26 : lk t_X10_stop 26 = some (.if_icmp .ne 9, 29, 35, [], .returned) := rfl
theorem e_X10_stop_29 : lk t_X10_stop 29 = some (.aload_n 0, 30, 0, [], .returned) := rfl
theorem e_X10_stop_30 : lk t_X10_stop 30 = some (.iconst 5, 31, 0, [], .constant "" 0 (5)) := rfl
theorem e_X10_stop_31 : lk t_X10_stop 31 = some (.invokevirtual 218, 34, 0, [1, 10, 0, 0], .code yX10_refused cX10_refused 2 (some .int)) := rfl
theorem e_X10_stop_34 : lk t_X10_stop 34 = some (.ireturn, 35, 0, [], .returned) := rfl
theorem e_X10_stop_35 : lk t_X10_stop 35 = some (.aload_n 0, 36, 0, [], .returned) := rfl
theorem e_X10_stop_36 : lk t_X10_stop 36 = some (.getfield 46, 39, 10, [23, 2], .returned) := rfl
theorem e_X10_stop_39 : lk t_X10_stop 39 = some (.iload_n 1, 40, 1, [], .returned) := rfl
theorem e_X10_stop_40 : lk t_X10_stop 40 = some (.iload_n 2, 41, 2, [], .returned) := rfl
theorem e_X10_stop_41 : lk t_X10_stop 41 = some (.bastore, 42, 1, [], .returned) := rfl
theorem e_X10_stop_42 : lk t_X10_stop 42 = some (.aload_n 0, 43, 0, [], .returned) := rfl
theorem e_X10_stop_43 : lk t_X10_stop 43 = some (.aload_n 0, 44, 0, [], .returned) := rfl
theorem e_X10_stop_44 : lk t_X10_stop 44 = some (.getfield 31, 47, 10, [18, 2], .returned) := rfl
theorem e_X10_stop_47 : lk t_X10_stop 47 = some (.iload_n 1, 48, 1, [], .returned) := rfl
theorem e_X10_stop_48 : lk t_X10_stop 48 = some (.iaload, 49, 0, [], .returned) := rfl
theorem e_X10_stop_49 : lk t_X10_stop 49 = some (.invokevirtual 232, 52, 0, [1, 10, 0, 0], .code yX10_good cX10_good 2 (some .int)) := rfl
theorem e_X10_stop_52 : lk t_X10_stop 52 = some (.ireturn, 53, 0, [], .returned) := rfl
