abbrev q_X10_rank : MI := (yX10_rank, cX10_rank, 4, (some .int))
def t_X10_rank : Tab := [(0, [], (.aload_n 0, 1, 0, [], .returned)),
  (1, [], (.iconst 0, 2, 0, [], .constant "" 0 (0))),
  (2, [1049], (.putfield 65, 5, 10, [0, 0], .returned)),
  (5, [], (.aload_n 0, 6, 0, [], .returned)),
  (6, [], (.iload_n 1, 7, 1, [], .returned)),
  (7, [1360, 1363, 1362, 63, 102], (.invokevirtual 325, 10, 0, [1, 10, 0, 0], .code yX10_isOrder cX10_isOrder 2 (some .boolean))),
  (10, [], (.ifCond .ne 9, 13, 19, [], .returned)),
  (13, [], (.aload_n 0, 14, 0, [], .returned)),
  (14, [], (.iconst 1, 15, 0, [], .constant "" 0 (1))),
  (15, [1158, 1161, 1160, 35, 102], (.invokevirtual 218, 18, 0, [1, 10, 0, 0], .code yX10_refused cX10_refused 2 (some .int))),
  (18, [], (.ireturn, 19, 0, [], .returned)),
  (19, [], (.iload_n 2, 20, 2, [], .returned)),
  (20, [], (.iconst 1, 21, 0, [], .constant "" 0 (1))),
  (21, [], (.bipush 9, 23, 0, [], .constant "" 0 (9))),
  (23, [1174, 1176, 1175, 102], (.invokestatic 90, 26, 0, [3, 0, 0], .code yX10_in cX10_in 3 (some .boolean))),
  (26, [], (.ifCond .ne 9, 29, 35, [], .returned)),
  (29, [], (.aload_n 0, 30, 0, [], .returned)),
  (30, [], (.iconst 2, 31, 0, [], .constant "" 0 (2))),
  (31, [1158, 1161, 1160, 35, 102], (.invokevirtual 218, 34, 0, [1, 10, 0, 0], .code yX10_refused cX10_refused 2 (some .int))),
  (34, [], (.ireturn, 35, 0, [], .returned)),
  (35, [], (.aload_n 0, 36, 0, [], .returned)),
  (36, [1061], (.getfield 17, 39, 10, [12, 2], .returned)),
  (39, [], (.bipush 51, 41, 0, [], .constant "" 0 (51))),
  (41, [], (.iload_n 1, 42, 1, [], .returned)),
  (42, [], (.iadd, 43, 0, [], .returned)),
  (43, [], (.iaload, 44, 0, [], .returned)),
  (44, [], (.istore_n 3, 45, 3, [], .returned)),
  (45, [], (.aload_n 0, 46, 0, [], .returned)),
  (46, [1061], (.getfield 17, 49, 10, [12, 2], .returned)),
  (49, [], (.bipush 51, 51, 0, [], .constant "" 0 (51))),
  (51, [], (.iload_n 1, 52, 1, [], .returned)),
  (52, [], (.iadd, 53, 0, [], .returned)),
  (53, [], (.iload_n 2, 54, 2, [], .returned)),
  (54, [], (.iastore, 55, 0, [], .returned)),
  (55, [], (.aload_n 0, 56, 0, [], .returned)),
  (56, [], (.iload_n 3, 57, 3, [], .returned)),
  (57, [1316, 1319, 1318, 57, 102], (.invokevirtual 232, 60, 0, [1, 10, 0, 0], .code yX10_good cX10_good 2 (some .int))),
  (60, [], (.ireturn, 61, 0, [], .returned))]
theorem ck_X10_rank : okT q_X10_rank t_X10_rank = true := by decide +kernel
theorem e_X10_rank_0 : lk t_X10_rank 0 = some (.aload_n 0, 1, 0, [], .returned) := rfl
theorem e_X10_rank_1 : lk t_X10_rank 1 = some (.iconst 0, 2, 0, [], .constant "" 0 (0)) := rfl
theorem e_X10_rank_2 : lk t_X10_rank 2 = some (.putfield 65, 5, 10, [0, 0], .returned) := rfl
theorem e_X10_rank_5 : lk t_X10_rank 5 = some (.aload_n 0, 6, 0, [], .returned) := rfl
theorem e_X10_rank_6 : lk t_X10_rank 6 = some (.iload_n 1, 7, 1, [], .returned) := rfl
theorem e_X10_rank_7 : lk t_X10_rank 7 = some (.invokevirtual 325, 10, 0, [1, 10, 0, 0], .code yX10_isOrder cX10_isOrder 2 (some .boolean)) := rfl
theorem e_X10_rank_10 : lk t_X10_rank 10 = some (.ifCond .ne 9, 13, 19, [], .returned) := rfl
theorem e_X10_rank_13 : lk t_X10_rank 13 = some (.aload_n 0, 14, 0, [], .returned) := rfl
theorem e_X10_rank_14 : lk t_X10_rank 14 = some (.iconst 1, 15, 0, [], .constant "" 0 (1)) := rfl
theorem e_X10_rank_15 : lk t_X10_rank 15 = some (.invokevirtual 218, 18, 0, [1, 10, 0, 0], .code yX10_refused cX10_refused 2 (some .int)) := rfl
theorem e_X10_rank_18 : lk t_X10_rank 18 = some (.ireturn, 19, 0, [], .returned) := rfl
theorem e_X10_rank_19 : lk t_X10_rank 19 = some (.iload_n 2, 20, 2, [], .returned) := rfl
theorem e_X10_rank_20 : lk t_X10_rank 20 = some (.iconst 1, 21, 0, [], .constant "" 0 (1)) := rfl
theorem e_X10_rank_21 : lk t_X10_rank 21 = some (.bipush 9, 23, 0, [], .constant "" 0 (9)) := rfl
theorem e_X10_rank_23 : lk t_X10_rank 23 = some (.invokestatic 90, 26, 0, [3, 0, 0], .code yX10_in cX10_in 3 (some .boolean)) := rfl
theorem e_X10_rank_26 : lk t_X10_rank 26 = some (.ifCond .ne 9, 29, 35, [], .returned) := rfl
theorem e_X10_rank_29 : lk t_X10_rank 29 = some (.aload_n 0, 30, 0, [], .returned) := rfl
theorem e_X10_rank_30 : lk t_X10_rank 30 = some (.iconst 2, 31, 0, [], .constant "" 0 (2)) := rfl
theorem e_X10_rank_31 : lk t_X10_rank 31 = some (.invokevirtual 218, 34, 0, [1, 10, 0, 0], .code yX10_refused cX10_refused 2 (some .int)) := rfl
theorem e_X10_rank_34 : lk t_X10_rank 34 = some (.ireturn, 35, 0, [], .returned) := rfl
theorem e_X10_rank_35 : lk t_X10_rank 35 = some (.aload_n 0, 36, 0, [], .returned) := rfl
theorem e_X10_rank_36 : lk t_X10_rank 36 = some (.getfield 17, 39, 10, [12, 2], .returned) := rfl
theorem e_X10_rank_39 : lk t_X10_rank 39 = some (.bipush 51, 41, 0, [], .constant "" 0 (51)) := rfl
theorem e_X10_rank_41 : lk t_X10_rank 41 = some (.iload_n 1, 42, 1, [], .returned) := rfl
theorem e_X10_rank_42 : lk t_X10_rank 42 = some (.iadd, 43, 0, [], .returned) := rfl
theorem e_X10_rank_43 : lk t_X10_rank 43 = some (.iaload, 44, 0, [], .returned) := rfl
theorem e_X10_rank_44 : lk t_X10_rank 44 = some (.istore_n 3, 45, 3, [], .returned) := rfl
theorem e_X10_rank_45 : lk t_X10_rank 45 = some (.aload_n 0, 46, 0, [], .returned) := rfl
theorem e_X10_rank_46 : lk t_X10_rank 46 = some (.getfield 17, 49, 10, [12, 2], .returned) := rfl
theorem e_X10_rank_49 : lk t_X10_rank 49 = some (.bipush 51, 51, 0, [], .constant "" 0 (51)) := rfl
theorem e_X10_rank_51 : lk t_X10_rank 51 = some (.iload_n 1, 52, 1, [], .returned) := rfl
theorem e_X10_rank_52 : lk t_X10_rank 52 = some (.iadd, 53, 0, [], .returned) := rfl
theorem e_X10_rank_53 : lk t_X10_rank 53 = some (.iload_n 2, 54, 2, [], .returned) := rfl
theorem e_X10_rank_54 : lk t_X10_rank 54 = some (.iastore, 55, 0, [], .returned) := rfl
theorem e_X10_rank_55 : lk t_X10_rank 55 = some (.aload_n 0, 56, 0, [], .returned) := rfl
theorem e_X10_rank_56 : lk t_X10_rank 56 = some (.iload_n 3, 57, 3, [], .returned) := rfl
theorem e_X10_rank_57 : lk t_X10_rank 57 = some (.invokevirtual 232, 60, 0, [1, 10, 0, 0], .code yX10_good cX10_good 2 (some .int)) := rfl
theorem e_X10_rank_60 : lk t_X10_rank 60 = some (.ireturn, 61, 0, [], .returned) := rfl
abbrev q_X10_raise : MI := (yX10_raise, cX10_raise, 4, (some .int))
def t_X10_raise : Tab := [(0, [], (.aload_n 0, 1, 0, [], .returned)),
  (1, [], (.iconst 0, 2, 0, [], .constant "" 0 (0))),
  (2, [1049], (.putfield 65, 5, 10, [0, 0], .returned)),
  (5, [], (.aload_n 0, 6, 0, [], .returned)),
  (6, [], (.iload_n 1, 7, 1, [], .returned)),
  (7, [1360, 1363, 1362, 63, 102], (.invokevirtual 325, 10, 0, [1, 10, 0, 0], .code yX10_isOrder cX10_isOrder 2 (some .boolean))),
  (10, [], (.ifCond .ne 9, 13, 19, [], .returned)),
  (13, [], (.aload_n 0, 14, 0, [], .returned)),
  (14, [], (.iconst 1, 15, 0, [], .constant "" 0 (1))),
  (15, [1158, 1161, 1160, 35, 102], (.invokevirtual 218, 18, 0, [1, 10, 0, 0], .code yX10_refused cX10_refused 2 (some .int))),
  (18, [], (.ireturn, 19, 0, [], .returned)),
  (19, [], (.aload_n 0, 20, 0, [], .returned)),
  (20, [1061], (.getfield 17, 23, 10, [12, 2], .returned)),
  (23, [], (.bipush 69, 25, 0, [], .constant "" 0 (69))),
  (25, [], (.iload_n 1, 26, 1, [], .returned)),
  (26, [], (.iadd, 27, 0, [], .returned)),
  (27, [], (.iaload, 28, 0, [], .returned)),
  (28, [], (.iconst 1, 29, 0, [], .constant "" 0 (1))),
  (29, [], (.if_icmp .ne 9, 32, 38, [], .returned)),
  (32, [], (.aload_n 0, 33, 0, [], .returned)),
  (33, [], (.iconst 5, 34, 0, [], .constant "" 0 (5))),
  (34, [1158, 1161, 1160, 35, 102], (.invokevirtual 218, 37, 0, [1, 10, 0, 0], .code yX10_refused cX10_refused 2 (some .int))),
  (37, [], (.ireturn, 38, 0, [], .returned)),
  (38, [], (.iload_n 2, 39, 2, [], .returned)),
  (39, [], (.iconst 1, 40, 0, [], .constant "" 0 (1))),
  (40, [], (.aload_n 0, 41, 0, [], .returned)),
  (41, [1061], (.getfield 17, 44, 10, [12, 2], .returned)),
  (44, [], (.bipush 69, 46, 0, [], .constant "" 0 (69))),
  (46, [], (.iload_n 1, 47, 1, [], .returned)),
  (47, [], (.iadd, 48, 0, [], .returned)),
  (48, [], (.iaload, 49, 0, [], .returned)),
  (49, [], (.ifCond .ne 9, 52, 58, [], .returned)),
  (52, [], (.sipush 999, 55, 0, [], .constant "" 0 (999))),
  (55, [], (.goto 5, 58, 60, [], .returned)),
  (58, [], (.bipush 99, 60, 0, [], .constant "" 0 (99))),
  (60, [1174, 1176, 1175, 102], (.invokestatic 90, 63, 0, [3, 0, 0], .code yX10_in cX10_in 3 (some .boolean))),
  (63, [], (.ifCond .ne 9, 66, 72, [], .returned)),
  (66, [], (.aload_n 0, 67, 0, [], .returned)),
  (67, [], (.iconst 2, 68, 0, [], .constant "" 0 (2))),
  (68, [1158, 1161, 1160, 35, 102], (.invokevirtual 218, 71, 0, [1, 10, 0, 0], .code yX10_refused cX10_refused 2 (some .int))),
  (71, [], (.ireturn, 72, 0, [], .returned)),
  (72, [], (.aload_n 0, 73, 0, [], .returned)),
  (73, [1061], (.getfield 17, 76, 10, [12, 2], .returned)),
  (76, [], (.bipush 75, 78, 0, [], .constant "" 0 (75))),
  (78, [], (.iload_n 1, 79, 1, [], .returned)),
  (79, [], (.iadd, 80, 0, [], .returned)),
  (80, [], (.iaload, 81, 0, [], .returned)),
  (81, [], (.istore_n 3, 82, 3, [], .returned)),
  (82, [], (.aload_n 0, 83, 0, [], .returned)),
  (83, [1061], (.getfield 17, 86, 10, [12, 2], .returned)),
  (86, [], (.bipush 75, 88, 0, [], .constant "" 0 (75))),
  (88, [], (.iload_n 1, 89, 1, [], .returned)),
  (89, [], (.iadd, 90, 0, [], .returned)),
  (90, [], (.iload_n 2, 91, 2, [], .returned)),
  (91, [], (.iastore, 92, 0, [], .returned)),
  (92, [], (.aload_n 0, 93, 0, [], .returned)),
  (93, [], (.iload_n 3, 94, 3, [], .returned)),
  (94, [1316, 1319, 1318, 57, 102], (.invokevirtual 232, 97, 0, [1, 10, 0, 0], .code yX10_good cX10_good 2 (some .int))),
  (97, [], (.ireturn, 98, 0, [], .returned))]
theorem ck_X10_raise : okT q_X10_raise t_X10_raise = true := by decide +kernel
theorem e_X10_raise_0 : lk t_X10_raise 0 = some (.aload_n 0, 1, 0, [], .returned) := rfl
theorem e_X10_raise_1 : lk t_X10_raise 1 = some (.iconst 0, 2, 0, [], .constant "" 0 (0)) := rfl
theorem e_X10_raise_2 : lk t_X10_raise 2 = some (.putfield 65, 5, 10, [0, 0], .returned) := rfl
theorem e_X10_raise_5 : lk t_X10_raise 5 = some (.aload_n 0, 6, 0, [], .returned) := rfl
theorem e_X10_raise_6 : lk t_X10_raise 6 = some (.iload_n 1, 7, 1, [], .returned) := rfl
theorem e_X10_raise_7 : lk t_X10_raise 7 = some (.invokevirtual 325, 10, 0, [1, 10, 0, 0], .code yX10_isOrder cX10_isOrder 2 (some .boolean)) := rfl
theorem e_X10_raise_10 : lk t_X10_raise 10 = some (.ifCond .ne 9, 13, 19, [], .returned) := rfl
theorem e_X10_raise_13 : lk t_X10_raise 13 = some (.aload_n 0, 14, 0, [], .returned) := rfl
theorem e_X10_raise_14 : lk t_X10_raise 14 = some (.iconst 1, 15, 0, [], .constant "" 0 (1)) := rfl
theorem e_X10_raise_15 : lk t_X10_raise 15 = some (.invokevirtual 218, 18, 0, [1, 10, 0, 0], .code yX10_refused cX10_refused 2 (some .int)) := rfl
theorem e_X10_raise_18 : lk t_X10_raise 18 = some (.ireturn, 19, 0, [], .returned) := rfl
theorem e_X10_raise_19 : lk t_X10_raise 19 = some (.aload_n 0, 20, 0, [], .returned) := rfl
theorem e_X10_raise_20 : lk t_X10_raise 20 = some (.getfield 17, 23, 10, [12, 2], .returned) := rfl
theorem e_X10_raise_23 : lk t_X10_raise 23 = some (.bipush 69, 25, 0, [], .constant "" 0 (69)) := rfl
theorem e_X10_raise_25 : lk t_X10_raise 25 = some (.iload_n 1, 26, 1, [], .returned) := rfl
theorem e_X10_raise_26 : lk t_X10_raise 26 = some (.iadd, 27, 0, [], .returned) := rfl
theorem e_X10_raise_27 : lk t_X10_raise 27 = some (.iaload, 28, 0, [], .returned) := rfl
theorem e_X10_raise_28 : lk t_X10_raise 28 = some (.iconst 1, 29, 0, [], .constant "" 0 (1)) := rfl
theorem e_X10_raise_29 : lk t_X10_raise 29 = some (.if_icmp .ne 9, 32, 38, [], .returned) := rfl
theorem e_X10_raise_32 : lk t_X10_raise 32 = some (.aload_n 0, 33, 0, [], .returned) := rfl
theorem e_X10_raise_33 : lk t_X10_raise 33 = some (.iconst 5, 34, 0, [], .constant "" 0 (5)) := rfl
theorem e_X10_raise_34 : lk t_X10_raise 34 = some (.invokevirtual 218, 37, 0, [1, 10, 0, 0], .code yX10_refused cX10_refused 2 (some .int)) := rfl
theorem e_X10_raise_37 : lk t_X10_raise 37 = some (.ireturn, 38, 0, [], .returned) := rfl
theorem e_X10_raise_38 : lk t_X10_raise 38 = some (.iload_n 2, 39, 2, [], .returned) := rfl
theorem e_X10_raise_39 : lk t_X10_raise 39 = some (.iconst 1, 40, 0, [], .constant "" 0 (1)) := rfl
theorem e_X10_raise_40 : lk t_X10_raise 40 = some (.aload_n 0, 41, 0, [], .returned) := rfl
theorem e_X10_raise_41 : lk t_X10_raise 41 = some (.getfield 17, 44, 10, [12, 2], .returned) := rfl
theorem e_X10_raise_44 : lk t_X10_raise 44 = some (.bipush 69, 46, 0, [], .constant "" 0 (69)) := rfl
theorem e_X10_raise_46 : lk t_X10_raise 46 = some (.iload_n 1, 47, 1, [], .returned) := rfl
theorem e_X10_raise_47 : lk t_X10_raise 47 = some (.iadd, 48, 0, [], .returned) := rfl
theorem e_X10_raise_48 : lk t_X10_raise 48 = some (.iaload, 49, 0, [], .returned) := rfl
theorem e_X10_raise_49 : lk t_X10_raise 49 = some (.ifCond .ne 9, 52, 58, [], .returned) := rfl
theorem e_X10_raise_52 : lk t_X10_raise 52 = some (.sipush 999, 55, 0, [], .constant "" 0 (999)) := rfl
theorem e_X10_raise_55 : lk t_X10_raise 55 = some (.goto 5, 58, 60, [], .returned) := rfl
theorem e_X10_raise_58 : lk t_X10_raise 58 = some (.bipush 99, 60, 0, [], .constant "" 0 (99)) := rfl
theorem e_X10_raise_60 : lk t_X10_raise 60 = some (.invokestatic 90, 63, 0, [3, 0, 0], .code yX10_in cX10_in 3 (some .boolean)) := rfl
theorem e_X10_raise_63 : lk t_X10_raise 63 = some (.ifCond .ne 9, 66, 72, [], .returned) := rfl
theorem e_X10_raise_66 : lk t_X10_raise 66 = some (.aload_n 0, 67, 0, [], .returned) := rfl
theorem e_X10_raise_67 : lk t_X10_raise 67 = some (.iconst 2, 68, 0, [], .constant "" 0 (2)) := rfl
theorem e_X10_raise_68 : lk t_X10_raise 68 = some (.invokevirtual 218, 71, 0, [1, 10, 0, 0], .code yX10_refused cX10_refused 2 (some .int)) := rfl
theorem e_X10_raise_71 : lk t_X10_raise 71 = some (.ireturn, 72, 0, [], .returned) := rfl
theorem e_X10_raise_72 : lk t_X10_raise 72 = some (.aload_n 0, 73, 0, [], .returned) := rfl
theorem e_X10_raise_73 : lk t_X10_raise 73 = some (.getfield 17, 76, 10, [12, 2], .returned) := rfl
theorem e_X10_raise_76 : lk t_X10_raise 76 = some (.bipush 75, 78, 0, [], .constant "" 0 (75)) := rfl
theorem e_X10_raise_78 : lk t_X10_raise 78 = some (.iload_n 1, 79, 1, [], .returned) := rfl
theorem e_X10_raise_79 : lk t_X10_raise 79 = some (.iadd, 80, 0, [], .returned) := rfl
theorem e_X10_raise_80 : lk t_X10_raise 80 = some (.iaload, 81, 0, [], .returned) := rfl
theorem e_X10_raise_81 : lk t_X10_raise 81 = some (.istore_n 3, 82, 3, [], .returned) := rfl
theorem e_X10_raise_82 : lk t_X10_raise 82 = some (.aload_n 0, 83, 0, [], .returned) := rfl
theorem e_X10_raise_83 : lk t_X10_raise 83 = some (.getfield 17, 86, 10, [12, 2], .returned) := rfl
theorem e_X10_raise_86 : lk t_X10_raise 86 = some (.bipush 75, 88, 0, [], .constant "" 0 (75)) := rfl
theorem e_X10_raise_88 : lk t_X10_raise 88 = some (.iload_n 1, 89, 1, [], .returned) := rfl
theorem e_X10_raise_89 : lk t_X10_raise 89 = some (.iadd, 90, 0, [], .returned) := rfl
theorem e_X10_raise_90 : lk t_X10_raise 90 = some (.iload_n 2, 91, 2, [], .returned) := rfl
theorem e_X10_raise_91 : lk t_X10_raise 91 = some (.iastore, 92, 0, [], .returned) := rfl
theorem e_X10_raise_92 : lk t_X10_raise 92 = some (.aload_n 0, 93, 0, [], .returned) := rfl
theorem e_X10_raise_93 : lk t_X10_raise 93 = some (.iload_n 3, 94, 3, [], .returned) := rfl
theorem e_X10_raise_94 : lk t_X10_raise 94 = some (.invokevirtual 232, 97, 0, [1, 10, 0, 0], .code yX10_good cX10_good 2 (some .int)) := rfl
theorem e_X10_raise_97 : lk t_X10_raise 97 = some (.ireturn, 98, 0, [], .returned) := rfl
abbrev q_X10_total : MI := (yX10_total, cX10_total, 4, (some .int))
def t_X10_total : Tab := [(0, [], (.aload_n 0, 1, 0, [], .returned)),
  (1, [], (.iconst 0, 2, 0, [], .constant "" 0 (0))),
  (2, [1049], (.putfield 65, 5, 10, [0, 0], .returned)),
  (5, [], (.aload_n 0, 6, 0, [], .returned)),
  (6, [], (.iload_n 1, 7, 1, [], .returned)),
  (7, [1360, 1363, 1362, 63, 102], (.invokevirtual 325, 10, 0, [1, 10, 0, 0], .code yX10_isOrder cX10_isOrder 2 (some .boolean))),
  (10, [], (.ifCond .ne 9, 13, 19, [], .returned)),
  (13, [], (.aload_n 0, 14, 0, [], .returned)),
  (14, [], (.iconst 1, 15, 0, [], .constant "" 0 (1))),
  (15, [1158, 1161, 1160, 35, 102], (.invokevirtual 218, 18, 0, [1, 10, 0, 0], .code yX10_refused cX10_refused 2 (some .int))),
  (18, [], (.ireturn, 19, 0, [], .returned)),
  (19, [], (.iload_n 2, 20, 2, [], .returned)),
  (20, [], (.iconst 0, 21, 0, [], .constant "" 0 (0))),
  (21, [1305], (.ldc 208, 23, 0, [], .constant "" 0 (99999))),
  (23, [1174, 1176, 1175, 102], (.invokestatic 90, 26, 0, [3, 0, 0], .code yX10_in cX10_in 3 (some .boolean))),
  (26, [], (.ifCond .ne 9, 29, 35, [], .returned)),
  (29, [], (.aload_n 0, 30, 0, [], .returned)),
  (30, [], (.iconst 2, 31, 0, [], .constant "" 0 (2))),
  (31, [1158, 1161, 1160, 35, 102], (.invokevirtual 218, 34, 0, [1, 10, 0, 0], .code yX10_refused cX10_refused 2 (some .int))),
  (34, [], (.ireturn, 35, 0, [], .returned)),
  (35, [], (.iload_n 2, 36, 2, [], .returned)),
  (36, [], (.ifCond .le 19, 39, 55, [], .returned)),
  (39, [], (.iload_n 2, 40, 2, [], .returned)),
  (40, [], (.aload_n 0, 41, 0, [], .returned)),
  (41, [1066], (.getfield 28, 44, 10, [17, 2], .returned)),
  (44, [], (.iload_n 1, 45, 1, [], .returned)),
  (45, [], (.iaload, 46, 0, [], .returned)),
  (46, [], (.if_icmp .ge 9, 49, 55, [], .returned)),
  (49, [], (.aload_n 0, 50, 0, [], .returned)),
  (50, [], (.iconst 5, 51, 0, [], .constant "" 0 (5))),
  (51, [1158, 1161, 1160, 35, 102], (.invokevirtual 218, 54, 0, [1, 10, 0, 0], .code yX10_refused cX10_refused 2 (some .int))),
  (54, [], (.ireturn, 55, 0, [], .returned)),
  (55, [], (.aload_n 0, 56, 0, [], .returned)),
  (56, [1061], (.getfield 17, 59, 10, [12, 2], .returned)),
  (59, [], (.bipush 63, 61, 0, [], .constant "" 0 (63))),
  (61, [], (.iload_n 1, 62, 1, [], .returned)),
  (62, [], (.iadd, 63, 0, [], .returned)),
  (63, [], (.iaload, 64, 0, [], .returned)),
  (64, [], (.istore_n 3, 65, 3, [], .returned)),
  (65, [], (.aload_n 0, 66, 0, [], .returned)),
  (66, [1061], (.getfield 17, 69, 10, [12, 2], .returned)),
  (69, [], (.bipush 63, 71, 0, [], .constant "" 0 (63))),
  (71, [], (.iload_n 1, 72, 1, [], .returned)),
  (72, [], (.iadd, 73, 0, [], .returned)),
  (73, [], (.iload_n 2, 74, 2, [], .returned)),
  (74, [], (.iastore, 75, 0, [], .returned)),
  (75, [], (.aload_n 0, 76, 0, [], .returned)),
  (76, [1067], (.getfield 31, 79, 10, [18, 2], .returned)),
  (79, [], (.iload_n 1, 80, 1, [], .returned)),
  (80, [], (.aload_n 0, 81, 0, [], .returned)),
  (81, [1067], (.getfield 31, 84, 10, [18, 2], .returned)),
  (84, [], (.iload_n 1, 85, 1, [], .returned)),
  (85, [], (.iaload, 86, 0, [], .returned)),
  (86, [], (.aload_n 0, 87, 0, [], .returned)),
  (87, [], (.iconst 0, 88, 0, [], .constant "" 0 (0))),
  (88, [], (.iload_n 1, 89, 1, [], .returned)),
  (89, [1347, 1350, 1349, 61, 102], (.invokevirtual 236, 92, 0, [2, 10, 0, 0], .code yX10_restOf cX10_restOf 3 (some .int))),
  (92, [1391, 1393, 1392, 102], (.invokestatic 243, 95, 0, [2, 0, 0], .code yX10_lesser cX10_lesser 2 (some .int))),
  (95, [], (.iastore, 96, 0, [], .returned)),
  (96, [], (.aload_n 0, 97, 0, [], .returned)),
  (97, [], (.iload_n 3, 98, 3, [], .returned)),
  (98, [1316, 1319, 1318, 57, 102], (.invokevirtual 232, 101, 0, [1, 10, 0, 0], .code yX10_good cX10_good 2 (some .int))),
  (101, [], (.ireturn, 102, 0, [], .returned))]
theorem ck_X10_total : okT q_X10_total t_X10_total = true := by decide +kernel
theorem e_X10_total_0 : lk t_X10_total 0 = some (.aload_n 0, 1, 0, [], .returned) := rfl
theorem e_X10_total_1 : lk t_X10_total 1 = some (.iconst 0, 2, 0, [], .constant "" 0 (0)) := rfl
theorem e_X10_total_2 : lk t_X10_total 2 = some (.putfield 65, 5, 10, [0, 0], .returned) := rfl
theorem e_X10_total_5 : lk t_X10_total 5 = some (.aload_n 0, 6, 0, [], .returned) := rfl
theorem e_X10_total_6 : lk t_X10_total 6 = some (.iload_n 1, 7, 1, [], .returned) := rfl
theorem e_X10_total_7 : lk t_X10_total 7 = some (.invokevirtual 325, 10, 0, [1, 10, 0, 0], .code yX10_isOrder cX10_isOrder 2 (some .boolean)) := rfl
theorem e_X10_total_10 : lk t_X10_total 10 = some (.ifCond .ne 9, 13, 19, [], .returned) := rfl
theorem e_X10_total_13 : lk t_X10_total 13 = some (.aload_n 0, 14, 0, [], .returned) := rfl
theorem e_X10_total_14 : lk t_X10_total 14 = some (.iconst 1, 15, 0, [], .constant "" 0 (1)) := rfl
theorem e_X10_total_15 : lk t_X10_total 15 = some (.invokevirtual 218, 18, 0, [1, 10, 0, 0], .code yX10_refused cX10_refused 2 (some .int)) := rfl
theorem e_X10_total_18 : lk t_X10_total 18 = some (.ireturn, 19, 0, [], .returned) := rfl
theorem e_X10_total_19 : lk t_X10_total 19 = some (.iload_n 2, 20, 2, [], .returned) := rfl
theorem e_X10_total_20 : lk t_X10_total 20 = some (.iconst 0, 21, 0, [], .constant "" 0 (0)) := rfl
theorem e_X10_total_21 : lk t_X10_total 21 = some (.ldc 208, 23, 0, [], .constant "" 0 (99999)) := rfl
theorem e_X10_total_23 : lk t_X10_total 23 = some (.invokestatic 90, 26, 0, [3, 0, 0], .code yX10_in cX10_in 3 (some .boolean)) := rfl
theorem e_X10_total_26 : lk t_X10_total 26 = some (.ifCond .ne 9, 29, 35, [], .returned) := rfl
theorem e_X10_total_29 : lk t_X10_total 29 = some (.aload_n 0, 30, 0, [], .returned) := rfl
theorem e_X10_total_30 : lk t_X10_total 30 = some (.iconst 2, 31, 0, [], .constant "" 0 (2)) := rfl
theorem e_X10_total_31 : lk t_X10_total 31 = some (.invokevirtual 218, 34, 0, [1, 10, 0, 0], .code yX10_refused cX10_refused 2 (some .int)) := rfl
theorem e_X10_total_34 : lk t_X10_total 34 = some (.ireturn, 35, 0, [], .returned) := rfl
theorem e_X10_total_35 : lk t_X10_total 35 = some (.iload_n 2, 36, 2, [], .returned) := rfl
theorem e_X10_total_36 : lk t_X10_total 36 = some (.ifCond .le 19, 39, 55, [], .returned) := rfl
theorem e_X10_total_39 : lk t_X10_total 39 = some (.iload_n 2, 40, 2, [], .returned) := rfl
theorem e_X10_total_40 : lk t_X10_total 40 = some (.aload_n 0, 41, 0, [], .returned) := rfl
theorem e_X10_total_41 : lk t_X10_total 41 = some (.getfield 28, 44, 10, [17, 2], .returned) := rfl
theorem e_X10_total_44 : lk t_X10_total 44 = some (.iload_n 1, 45, 1, [], .returned) := rfl
theorem e_X10_total_45 : lk t_X10_total 45 = some (.iaload, 46, 0, [], .returned) := rfl
theorem e_X10_total_46 : lk t_X10_total 46 = some (.if_icmp .ge 9, 49, 55, [], .returned) := rfl
theorem e_X10_total_49 : lk t_X10_total 49 = some (.aload_n 0, 50, 0, [], .returned) := rfl
theorem e_X10_total_50 : lk t_X10_total 50 = some (.iconst 5, 51, 0, [], .constant "" 0 (5)) := rfl
theorem e_X10_total_51 : lk t_X10_total 51 = some (.invokevirtual 218, 54, 0, [1, 10, 0, 0], .code yX10_refused cX10_refused 2 (some .int)) := rfl
theorem e_X10_total_54 : lk t_X10_total 54 = some (.ireturn, 55, 0, [], .returned) := rfl
theorem e_X10_total_55 : lk t_X10_total 55 = some (.aload_n 0, 56, 0, [], .returned) := rfl
theorem e_X10_total_56 : lk t_X10_total 56 = some (.getfield 17, 59, 10, [12, 2], .returned) := rfl
theorem e_X10_total_59 : lk t_X10_total 59 = some (.bipush 63, 61, 0, [], .constant "" 0 (63)) := rfl
theorem e_X10_total_61 : lk t_X10_total 61 = some (.iload_n 1, 62, 1, [], .returned) := rfl
theorem e_X10_total_62 : lk t_X10_total 62 = some (.iadd, 63, 0, [], .returned) := rfl
theorem e_X10_total_63 : lk t_X10_total 63 = some (.iaload, 64, 0, [], .returned) := rfl
theorem e_X10_total_64 : lk t_X10_total 64 = some (.istore_n 3, 65, 3, [], .returned) := rfl
theorem e_X10_total_65 : lk t_X10_total 65 = some (.aload_n 0, 66, 0, [], .returned) := rfl
theorem e_X10_total_66 : lk t_X10_total 66 = some (.getfield 17, 69, 10, [12, 2], .returned) := rfl
theorem e_X10_total_69 : lk t_X10_total 69 = some (.bipush 63, 71, 0, [], .constant "" 0 (63)) := rfl
theorem e_X10_total_71 : lk t_X10_total 71 = some (.iload_n 1, 72, 1, [], .returned) := rfl
theorem e_X10_total_72 : lk t_X10_total 72 = some (.iadd, 73, 0, [], .returned) := rfl
theorem e_X10_total_73 : lk t_X10_total 73 = some (.iload_n 2, 74, 2, [], .returned) := rfl
theorem e_X10_total_74 : lk t_X10_total 74 = some (.iastore, 75, 0, [], .returned) := rfl
theorem e_X10_total_75 : lk t_X10_total 75 = some (.aload_n 0, 76, 0, [], .returned) := rfl
theorem e_X10_total_76 : lk t_X10_total 76 = some (.getfield 31, 79, 10, [18, 2], .returned) := rfl
theorem e_X10_total_79 : lk t_X10_total 79 = some (.iload_n 1, 80, 1, [], .returned) := rfl
theorem e_X10_total_80 : lk t_X10_total 80 = some (.aload_n 0, 81, 0, [], .returned) := rfl
theorem e_X10_total_81 : lk t_X10_total 81 = some (.getfield 31, 84, 10, [18, 2], .returned) := rfl
theorem e_X10_total_84 : lk t_X10_total 84 = some (.iload_n 1, 85, 1, [], .returned) := rfl
theorem e_X10_total_85 : lk t_X10_total 85 = some (.iaload, 86, 0, [], .returned) := rfl
theorem e_X10_total_86 : lk t_X10_total 86 = some (.aload_n 0, 87, 0, [], .returned) := rfl
theorem e_X10_total_87 : lk t_X10_total 87 = some (.iconst 0, 88, 0, [], .constant "" 0 (0)) := rfl
theorem e_X10_total_88 : lk t_X10_total 88 = some (.iload_n 1, 89, 1, [], .returned) := rfl
theorem e_X10_total_89 : lk t_X10_total 89 = some (.invokevirtual 236, 92, 0, [2, 10, 0, 0], .code yX10_restOf cX10_restOf 3 (some .int)) := rfl
theorem e_X10_total_92 : lk t_X10_total 92 = some (.invokestatic 243, 95, 0, [2, 0, 0], .code yX10_lesser cX10_lesser 2 (some .int)) := rfl
theorem e_X10_total_95 : lk t_X10_total 95 = some (.iastore, 96, 0, [], .returned) := rfl
theorem e_X10_total_96 : lk t_X10_total 96 = some (.aload_n 0, 97, 0, [], .returned) := rfl
theorem e_X10_total_97 : lk t_X10_total 97 = some (.iload_n 3, 98, 3, [], .returned) := rfl
theorem e_X10_total_98 : lk t_X10_total 98 = some (.invokevirtual 232, 101, 0, [1, 10, 0, 0], .code yX10_good cX10_good 2 (some .int)) := rfl
theorem e_X10_total_101 : lk t_X10_total 101 = some (.ireturn, 102, 0, [], .returned) := rfl
abbrev q_X10_at : MI := (yX10_at, cX10_at, 4, (some .int))
def t_X10_at : Tab := [(0, [], (.aload_n 0, 1, 0, [], .returned)),
  (1, [], (.iconst 0, 2, 0, [], .constant "" 0 (0))),
  (2, [1049], (.putfield 65, 5, 10, [0, 0], .returned)),
  (5, [], (.aload_n 0, 6, 0, [], .returned)),
  (6, [], (.iload_n 1, 7, 1, [], .returned)),
  (7, [1360, 1363, 1362, 63, 102], (.invokevirtual 325, 10, 0, [1, 10, 0, 0], .code yX10_isOrder cX10_isOrder 2 (some .boolean))),
  (10, [], (.ifCond .ne 9, 13, 19, [], .returned)),
  (13, [], (.aload_n 0, 14, 0, [], .returned)),
  (14, [], (.iconst 1, 15, 0, [], .constant "" 0 (1))),
  (15, [1158, 1161, 1160, 35, 102], (.invokevirtual 218, 18, 0, [1, 10, 0, 0], .code yX10_refused cX10_refused 2 (some .int))),
  (18, [], (.ireturn, 19, 0, [], .returned)),
  (19, [], (.iload_n 2, 20, 2, [], .returned)),
  (20, [], (.iconst 1, 21, 0, [], .constant "" 0 (1))),
  (21, [], (.bipush 7, 23, 0, [], .constant "" 0 (7))),
  (23, [1174, 1176, 1175, 102], (.invokestatic 90, 26, 0, [3, 0, 0], .code yX10_in cX10_in 3 (some .boolean))),
  (26, [], (.ifCond .ne 9, 29, 35, [], .returned)),
  (29, [], (.aload_n 0, 30, 0, [], .returned)),
  (30, [], (.iconst 2, 31, 0, [], .constant "" 0 (2))),
  (31, [1158, 1161, 1160, 35, 102], (.invokevirtual 218, 34, 0, [1, 10, 0, 0], .code yX10_refused cX10_refused 2 (some .int))),
  (34, [], (.ireturn, 35, 0, [], .returned)),
  (35, [], (.aload_n 0, 36, 0, [], .returned)),
  (36, [], (.iload_n 1, 37, 1, [], .returned)),
  (37, [1364, 1367, 1366, 64, 102], (.invokevirtual 329, 40, 0, [1, 10, 0, 0], .code yX10_payersOf cX10_payersOf 2 (some .int))),
  (40, [], (.istore_n 3, 41, 3, [], .returned)),
  (41, [], (.aload_n 0, 42, 0, [], .returned)),
  (42, [1061], (.getfield 17, 45, 10, [12, 2], .returned)),
  (45, [], (.bipush 81, 47, 0, [], .constant "" 0 (81))),
  (47, [], (.iload_n 1, 48, 1, [], .returned)),
  (48, [], (.iadd, 49, 0, [], .returned)),
  (49, [], (.iload_n 2, 50, 2, [], .returned)),
  (50, [], (.iastore, 51, 0, [], .returned)),
  (51, [], (.aload_n 0, 52, 0, [], .returned)),
  (52, [], (.iload_n 3, 53, 3, [], .returned)),
  (53, [1316, 1319, 1318, 57, 102], (.invokevirtual 232, 56, 0, [1, 10, 0, 0], .code yX10_good cX10_good 2 (some .int))),
  (56, [], (.ireturn, 57, 0, [], .returned))]
theorem ck_X10_at : okT q_X10_at t_X10_at = true := by decide +kernel
theorem e_X10_at_0 : lk t_X10_at 0 = some (.aload_n 0, 1, 0, [], .returned) := rfl
theorem e_X10_at_1 : lk t_X10_at 1 = some (.iconst 0, 2, 0, [], .constant "" 0 (0)) := rfl
theorem e_X10_at_2 : lk t_X10_at 2 = some (.putfield 65, 5, 10, [0, 0], .returned) := rfl
theorem e_X10_at_5 : lk t_X10_at 5 = some (.aload_n 0, 6, 0, [], .returned) := rfl
theorem e_X10_at_6 : lk t_X10_at 6 = some (.iload_n 1, 7, 1, [], .returned) := rfl
theorem e_X10_at_7 : lk t_X10_at 7 = some (.invokevirtual 325, 10, 0, [1, 10, 0, 0], .code yX10_isOrder cX10_isOrder 2 (some .boolean)) := rfl
theorem e_X10_at_10 : lk t_X10_at 10 = some (.ifCond .ne 9, 13, 19, [], .returned) := rfl
theorem e_X10_at_13 : lk t_X10_at 13 = some (.aload_n 0, 14, 0, [], .returned) := rfl
theorem e_X10_at_14 : lk t_X10_at 14 = some (.iconst 1, 15, 0, [], .constant "" 0 (1)) := rfl
theorem e_X10_at_15 : lk t_X10_at 15 = some (.invokevirtual 218, 18, 0, [1, 10, 0, 0], .code yX10_refused cX10_refused 2 (some .int)) := rfl
theorem e_X10_at_18 : lk t_X10_at 18 = some (.ireturn, 19, 0, [], .returned) := rfl
theorem e_X10_at_19 : lk t_X10_at 19 = some (.iload_n 2, 20, 2, [], .returned) := rfl
theorem e_X10_at_20 : lk t_X10_at 20 = some (.iconst 1, 21, 0, [], .constant "" 0 (1)) := rfl
theorem e_X10_at_21 : lk t_X10_at 21 = some (.bipush 7, 23, 0, [], .constant "" 0 (7)) := rfl
theorem e_X10_at_23 : lk t_X10_at 23 = some (.invokestatic 90, 26, 0, [3, 0, 0], .code yX10_in cX10_in 3 (some .boolean)) := rfl
theorem e_X10_at_26 : lk t_X10_at 26 = some (.ifCond .ne 9, 29, 35, [], .returned) := rfl
theorem e_X10_at_29 : lk t_X10_at 29 = some (.aload_n 0, 30, 0, [], .returned) := rfl
theorem e_X10_at_30 : lk t_X10_at 30 = some (.iconst 2, 31, 0, [], .constant "" 0 (2)) := rfl
theorem e_X10_at_31 : lk t_X10_at 31 = some (.invokevirtual 218, 34, 0, [1, 10, 0, 0], .code yX10_refused cX10_refused 2 (some .int)) := rfl
theorem e_X10_at_34 : lk t_X10_at 34 = some (.ireturn, 35, 0, [], .returned) := rfl
theorem e_X10_at_35 : lk t_X10_at 35 = some (.aload_n 0, 36, 0, [], .returned) := rfl
theorem e_X10_at_36 : lk t_X10_at 36 = some (.iload_n 1, 37, 1, [], .returned) := rfl
theorem e_X10_at_37 : lk t_X10_at 37 = some (.invokevirtual 329, 40, 0, [1, 10, 0, 0], .code yX10_payersOf cX10_payersOf 2 (some .int)) := rfl
theorem e_X10_at_40 : lk t_X10_at 40 = some (.istore_n 3, 41, 3, [], .returned) := rfl
theorem e_X10_at_41 : lk t_X10_at 41 = some (.aload_n 0, 42, 0, [], .returned) := rfl
theorem e_X10_at_42 : lk t_X10_at 42 = some (.getfield 17, 45, 10, [12, 2], .returned) := rfl
theorem e_X10_at_45 : lk t_X10_at 45 = some (.bipush 81, 47, 0, [], .constant "" 0 (81)) := rfl
theorem e_X10_at_47 : lk t_X10_at 47 = some (.iload_n 1, 48, 1, [], .returned) := rfl
theorem e_X10_at_48 : lk t_X10_at 48 = some (.iadd, 49, 0, [], .returned) := rfl
theorem e_X10_at_49 : lk t_X10_at 49 = some (.iload_n 2, 50, 2, [], .returned) := rfl
theorem e_X10_at_50 : lk t_X10_at 50 = some (.iastore, 51, 0, [], .returned) := rfl
theorem e_X10_at_51 : lk t_X10_at 51 = some (.aload_n 0, 52, 0, [], .returned) := rfl
theorem e_X10_at_52 : lk t_X10_at 52 = some (.iload_n 3, 53, 3, [], .returned) := rfl
theorem e_X10_at_53 : lk t_X10_at 53 = some (.invokevirtual 232, 56, 0, [1, 10, 0, 0], .code yX10_good cX10_good 2 (some .int)) := rfl
theorem e_X10_at_56 : lk t_X10_at 56 = some (.ireturn, 57, 0, [], .returned) := rfl
abbrev q_X10_back : MI := (yX10_back, cX10_back, 3, (some .int))
def t_X10_back : Tab := [(0, [], (.aload_n 0, 1, 0, [], .returned)),
  (1, [], (.iconst 0, 2, 0, [], .constant "" 0 (0))),
  (2, [1049], (.putfield 65, 5, 10, [0, 0], .returned)),
  (5, [], (.aload_n 0, 6, 0, [], .returned)),
  (6, [], (.iload_n 1, 7, 1, [], .returned)),
  (7, [1360, 1363, 1362, 63, 102], (.invokevirtual 325, 10, 0, [1, 10, 0, 0], .code yX10_isOrder cX10_isOrder 2 (some .boolean))),
  (10, [], (.ifCond .ne 9, 13, 19, [], .returned)),
  (13, [], (.aload_n 0, 14, 0, [], .returned)),
  (14, [], (.iconst 1, 15, 0, [], .constant "" 0 (1))),
  (15, [1158, 1161, 1160, 35, 102], (.invokevirtual 218, 18, 0, [1, 10, 0, 0], .code yX10_refused cX10_refused 2 (some .int))),
  (18, [], (.ireturn, 19, 0, [], .returned)),
  (19, [], (.iload_n 2, 20, 2, [], .returned)),
  (20, [], (.iconst 1, 21, 0, [], .constant "" 0 (1))),
  (21, [1305], (.ldc 208, 23, 0, [], .constant "" 0 (99999))),
  (23, [1174, 1176, 1175, 102], (.invokestatic 90, 26, 0, [3, 0, 0], .code yX10_in cX10_in 3 (some .boolean))),
  (26, [], (.ifCond .ne 9, 29, 35, [], .returned)),
  (29, [], (.aload_n 0, 30, 0, [], .returned)),
  (30, [], (.iconst 2, 31, 0, [], .constant "" 0 (2))),
  (31, [1158, 1161, 1160, 35, 102], (.invokevirtual 218, 34, 0, [1, 10, 0, 0], .code yX10_refused cX10_refused 2 (some .int))),
  (34, [], (.ireturn, 35, 0, [], .returned)),
  (35, [], (.iload_n 2, 36, 2, [], .returned)),
  (36, [], (.aload_n 0, 37, 0, [], .returned)),
  (37, [1066], (.getfield 28, 40, 10, [17, 2], .returned)),
  (40, [], (.iload_n 1, 41, 1, [], .returned)),
  (41, [], (.iaload, 42, 0, [], .returned)),
  (42, [], (.if_icmp .le 9, 45, 51, [], .returned)),
  (45, [], (.aload_n 0, 46, 0, [], .returned)),
  (46, [], (.iconst 5, 47, 0, [], .constant "" 0 (5))),
  (47, [1158, 1161, 1160, 35, 102], (.invokevirtual 218, 50, 0, [1, 10, 0, 0], .code yX10_refused cX10_refused 2 (some .int))),
  (50, [], (.ireturn, 51, 0, [], .returned)),
  (51, [], (.aload_n 0, 52, 0, [], .returned)),
  (52, [1066], (.getfield 28, 55, 10, [17, 2], .returned)),
  (55, [], (.iload_n 1, 56, 1, [], .returned)),
  (56, [], (.dup2, 57, 0, [], .returned)),
  (57, [], (.iaload, 58, 0, [], .returned)),
  (58, [], (.iload_n 2, 59, 2, [], .returned)),
  (59, [], (.isub, 60, 0, [], .returned)),
  (60, [], (.iastore, 61, 0, [], .returned)),
  (61, [], (.aload_n 0, 62, 0, [], .returned)),
  (62, [], (.aload_n 0, 63, 0, [], .returned)),
  (63, [], (.iconst 0, 64, 0, [], .constant "" 0 (0))),
  (64, [], (.iload_n 1, 65, 1, [], .returned)),
  (65, [1347, 1350, 1349, 61, 102], (.invokevirtual 236, 68, 0, [2, 10, 0, 0], .code yX10_restOf cX10_restOf 3 (some .int))),
  (68, [1316, 1319, 1318, 57, 102], (.invokevirtual 232, 71, 0, [1, 10, 0, 0], .code yX10_good cX10_good 2 (some .int))),
  (71, [], (.ireturn, 72, 0, [], .returned))]
theorem ck_X10_back : okT q_X10_back t_X10_back = true := by decide +kernel
theorem e_X10_back_0 : lk t_X10_back 0 = some (.aload_n 0, 1, 0, [], .returned) := rfl
theorem e_X10_back_1 : lk t_X10_back 1 = some (.iconst 0, 2, 0, [], .constant "" 0 (0)) := rfl
theorem e_X10_back_2 : lk t_X10_back 2 = some (.putfield 65, 5, 10, [0, 0], .returned) := rfl
theorem e_X10_back_5 : lk t_X10_back 5 = some (.aload_n 0, 6, 0, [], .returned) := rfl
theorem e_X10_back_6 : lk t_X10_back 6 = some (.iload_n 1, 7, 1, [], .returned) := rfl
theorem e_X10_back_7 : lk t_X10_back 7 = some (.invokevirtual 325, 10, 0, [1, 10, 0, 0], .code yX10_isOrder cX10_isOrder 2 (some .boolean)) := rfl
theorem e_X10_back_10 : lk t_X10_back 10 = some (.ifCond .ne 9, 13, 19, [], .returned) := rfl
theorem e_X10_back_13 : lk t_X10_back 13 = some (.aload_n 0, 14, 0, [], .returned) := rfl
theorem e_X10_back_14 : lk t_X10_back 14 = some (.iconst 1, 15, 0, [], .constant "" 0 (1)) := rfl
theorem e_X10_back_15 : lk t_X10_back 15 = some (.invokevirtual 218, 18, 0, [1, 10, 0, 0], .code yX10_refused cX10_refused 2 (some .int)) := rfl
theorem e_X10_back_18 : lk t_X10_back 18 = some (.ireturn, 19, 0, [], .returned) := rfl
theorem e_X10_back_19 : lk t_X10_back 19 = some (.iload_n 2, 20, 2, [], .returned) := rfl
theorem e_X10_back_20 : lk t_X10_back 20 = some (.iconst 1, 21, 0, [], .constant "" 0 (1)) := rfl
theorem e_X10_back_21 : lk t_X10_back 21 = some (.ldc 208, 23, 0, [], .constant "" 0 (99999)) := rfl
theorem e_X10_back_23 : lk t_X10_back 23 = some (.invokestatic 90, 26, 0, [3, 0, 0], .code yX10_in cX10_in 3 (some .boolean)) := rfl
theorem e_X10_back_26 : lk t_X10_back 26 = some (.ifCond .ne 9, 29, 35, [], .returned) := rfl
theorem e_X10_back_29 : lk t_X10_back 29 = some (.aload_n 0, 30, 0, [], .returned) := rfl
theorem e_X10_back_30 : lk t_X10_back 30 = some (.iconst 2, 31, 0, [], .constant "" 0 (2)) := rfl
theorem e_X10_back_31 : lk t_X10_back 31 = some (.invokevirtual 218, 34, 0, [1, 10, 0, 0], .code yX10_refused cX10_refused 2 (some .int)) := rfl
theorem e_X10_back_34 : lk t_X10_back 34 = some (.ireturn, 35, 0, [], .returned) := rfl
theorem e_X10_back_35 : lk t_X10_back 35 = some (.iload_n 2, 36, 2, [], .returned) := rfl
theorem e_X10_back_36 : lk t_X10_back 36 = some (.aload_n 0, 37, 0, [], .returned) := rfl
theorem e_X10_back_37 : lk t_X10_back 37 = some (.getfield 28, 40, 10, [17, 2], .returned) := rfl
theorem e_X10_back_40 : lk t_X10_back 40 = some (.iload_n 1, 41, 1, [], .returned) := rfl
theorem e_X10_back_41 : lk t_X10_back 41 = some (.iaload, 42, 0, [], .returned) := rfl
theorem e_X10_back_42 : lk t_X10_back 42 = some (.if_icmp .le 9, 45, 51, [], .returned) := rfl
theorem e_X10_back_45 : lk t_X10_back 45 = some (.aload_n 0, 46, 0, [], .returned) := rfl
theorem e_X10_back_46 : lk t_X10_back 46 = some (.iconst 5, 47, 0, [], .constant "" 0 (5)) := rfl
theorem e_X10_back_47 : lk t_X10_back 47 = some (.invokevirtual 218, 50, 0, [1, 10, 0, 0], .code yX10_refused cX10_refused 2 (some .int)) := rfl
theorem e_X10_back_50 : lk t_X10_back 50 = some (.ireturn, 51, 0, [], .returned) := rfl
theorem e_X10_back_51 : lk t_X10_back 51 = some (.aload_n 0, 52, 0, [], .returned) := rfl
theorem e_X10_back_52 : lk t_X10_back 52 = some (.getfield 28, 55, 10, [17, 2], .returned) := rfl
theorem e_X10_back_55 : lk t_X10_back 55 = some (.iload_n 1, 56, 1, [], .returned) := rfl
theorem e_X10_back_56 : lk t_X10_back 56 = some (.dup2, 57, 0, [], .returned) := rfl
theorem e_X10_back_57 : lk t_X10_back 57 = some (.iaload, 58, 0, [], .returned) := rfl
theorem e_X10_back_58 : lk t_X10_back 58 = some (.iload_n 2, 59, 2, [], .returned) := rfl
theorem e_X10_back_59 : lk t_X10_back 59 = some (.isub, 60, 0, [], .returned) := rfl
theorem e_X10_back_60 : lk t_X10_back 60 = some (.iastore, 61, 0, [], .returned) := rfl
theorem e_X10_back_61 : lk t_X10_back 61 = some (.aload_n 0, 62, 0, [], .returned) := rfl
theorem e_X10_back_62 : lk t_X10_back 62 = some (.aload_n 0, 63, 0, [], .returned) := rfl
theorem e_X10_back_63 : lk t_X10_back 63 = some (.iconst 0, 64, 0, [], .constant "" 0 (0)) := rfl
theorem e_X10_back_64 : lk t_X10_back 64 = some (.iload_n 1, 65, 1, [], .returned) := rfl
theorem e_X10_back_65 : lk t_X10_back 65 = some (.invokevirtual 236, 68, 0, [2, 10, 0, 0], .code yX10_restOf cX10_restOf 3 (some .int)) := rfl
theorem e_X10_back_68 : lk t_X10_back 68 = some (.invokevirtual 232, 71, 0, [1, 10, 0, 0], .code yX10_good cX10_good 2 (some .int)) := rfl
theorem e_X10_back_71 : lk t_X10_back 71 = some (.ireturn, 72, 0, [], .returned) := rfl
abbrev q_X10_forgive : MI := (yX10_forgive, cX10_forgive, 3, (some .int))
def t_X10_forgive : Tab := [(0, [], (.aload_n 0, 1, 0, [], .returned)),
  (1, [], (.iconst 0, 2, 0, [], .constant "" 0 (0))),
  (2, [1049], (.putfield 65, 5, 10, [0, 0], .returned)),
  (5, [], (.aload_n 0, 6, 0, [], .returned)),
  (6, [], (.iload_n 1, 7, 1, [], .returned)),
  (7, [1360, 1363, 1362, 63, 102], (.invokevirtual 325, 10, 0, [1, 10, 0, 0], .code yX10_isOrder cX10_isOrder 2 (some .boolean))),
  (10, [], (.ifCond .ne 9, 13, 19, [], .returned)),
  (13, [], (.aload_n 0, 14, 0, [], .returned)),
  (14, [], (.iconst 1, 15, 0, [], .constant "" 0 (1))),
  (15, [1158, 1161, 1160, 35, 102], (.invokevirtual 218, 18, 0, [1, 10, 0, 0], .code yX10_refused cX10_refused 2 (some .int))),
  (18, [], (.ireturn, 19, 0, [], .returned)),
  (19, [], (.aload_n 0, 20, 0, [], .returned)),
  (20, [1067], (.getfield 31, 23, 10, [18, 2], .returned)),
  (23, [], (.iload_n 1, 24, 1, [], .returned)),
  (24, [], (.iaload, 25, 0, [], .returned)),
  (25, [], (.istore_n 2, 26, 2, [], .returned)),
  (26, [], (.aload_n 0, 27, 0, [], .returned)),
  (27, [1067], (.getfield 31, 30, 10, [18, 2], .returned)),
  (30, [], (.iload_n 1, 31, 1, [], .returned)),
  (31, [], (.iconst 0, 32, 0, [], .constant "" 0 (0))),
  (32, [], (.iastore, 33, 0, [], .returned)),
  (33, [], (.aload_n 0, 34, 0, [], .returned)),
  (34, [], (.iload_n 2, 35, 2, [], .returned)),
  (35, [1316, 1319, 1318, 57, 102], (.invokevirtual 232, 38, 0, [1, 10, 0, 0], .code yX10_good cX10_good 2 (some .int))),
  (38, [], (.ireturn, 39, 0, [], .returned))]
theorem ck_X10_forgive : okT q_X10_forgive t_X10_forgive = true := by decide +kernel
theorem e_X10_forgive_0 : lk t_X10_forgive 0 = some (.aload_n 0, 1, 0, [], .returned) := rfl
theorem e_X10_forgive_1 : lk t_X10_forgive 1 = some (.iconst 0, 2, 0, [], .constant "" 0 (0)) := rfl
theorem e_X10_forgive_2 : lk t_X10_forgive 2 = some (.putfield 65, 5, 10, [0, 0], .returned) := rfl
theorem e_X10_forgive_5 : lk t_X10_forgive 5 = some (.aload_n 0, 6, 0, [], .returned) := rfl
theorem e_X10_forgive_6 : lk t_X10_forgive 6 = some (.iload_n 1, 7, 1, [], .returned) := rfl
theorem e_X10_forgive_7 : lk t_X10_forgive 7 = some (.invokevirtual 325, 10, 0, [1, 10, 0, 0], .code yX10_isOrder cX10_isOrder 2 (some .boolean)) := rfl
theorem e_X10_forgive_10 : lk t_X10_forgive 10 = some (.ifCond .ne 9, 13, 19, [], .returned) := rfl
theorem e_X10_forgive_13 : lk t_X10_forgive 13 = some (.aload_n 0, 14, 0, [], .returned) := rfl
theorem e_X10_forgive_14 : lk t_X10_forgive 14 = some (.iconst 1, 15, 0, [], .constant "" 0 (1)) := rfl
theorem e_X10_forgive_15 : lk t_X10_forgive 15 = some (.invokevirtual 218, 18, 0, [1, 10, 0, 0], .code yX10_refused cX10_refused 2 (some .int)) := rfl
theorem e_X10_forgive_18 : lk t_X10_forgive 18 = some (.ireturn, 19, 0, [], .returned) := rfl
theorem e_X10_forgive_19 : lk t_X10_forgive 19 = some (.aload_n 0, 20, 0, [], .returned) := rfl
theorem e_X10_forgive_20 : lk t_X10_forgive 20 = some (.getfield 31, 23, 10, [18, 2], .returned) := rfl
theorem e_X10_forgive_23 : lk t_X10_forgive 23 = some (.iload_n 1, 24, 1, [], .returned) := rfl
theorem e_X10_forgive_24 : lk t_X10_forgive 24 = some (.iaload, 25, 0, [], .returned) := rfl
theorem e_X10_forgive_25 : lk t_X10_forgive 25 = some (.istore_n 2, 26, 2, [], .returned) := rfl
theorem e_X10_forgive_26 : lk t_X10_forgive 26 = some (.aload_n 0, 27, 0, [], .returned) := rfl
theorem e_X10_forgive_27 : lk t_X10_forgive 27 = some (.getfield 31, 30, 10, [18, 2], .returned) := rfl
theorem e_X10_forgive_30 : lk t_X10_forgive 30 = some (.iload_n 1, 31, 1, [], .returned) := rfl
theorem e_X10_forgive_31 : lk t_X10_forgive 31 = some (.iconst 0, 32, 0, [], .constant "" 0 (0)) := rfl
theorem e_X10_forgive_32 : lk t_X10_forgive 32 = some (.iastore, 33, 0, [], .returned) := rfl
theorem e_X10_forgive_33 : lk t_X10_forgive 33 = some (.aload_n 0, 34, 0, [], .returned) := rfl
theorem e_X10_forgive_34 : lk t_X10_forgive 34 = some (.iload_n 2, 35, 2, [], .returned) := rfl
theorem e_X10_forgive_35 : lk t_X10_forgive 35 = some (.invokevirtual 232, 38, 0, [1, 10, 0, 0], .code yX10_good cX10_good 2 (some .int)) := rfl
theorem e_X10_forgive_38 : lk t_X10_forgive 38 = some (.ireturn, 39, 0, [], .returned) := rfl
abbrev q_X10_turn : MI := (yX10_turn, cX10_turn, 6, (some .int))
def t_X10_turn : Tab := [(0, [], (.aload_n 0, 1, 0, [], .returned)),
  (1, [], (.iconst 0, 2, 0, [], .constant "" 0 (0))),
  (2, [1049], (.putfield 65, 5, 10, [0, 0], .returned)),
  (5, [], (.iconst 0, 6, 0, [], .constant "" 0 (0))),
  (6, [], (.istore_n 3, 7, 3, [], .returned)),
  (7, [], (.iconst 1, 8, 0, [], .constant "" 0 (1))),
  (8, [], (.istore 4, 10, 4, [], .returned)),
  (10, [], (.aload_n 0, 11, 0, [], .returned)),
  (11, [], (.iload_n 1, 12, 1, [], .returned)),
  (12, [1372, 1375, 1374, 65, 102], (.invokevirtual 332, 15, 0, [1, 10, 0, 0], .code yX10_isPayer cX10_isPayer 2 (some .boolean))),
  (15, [], (.ifCond .eq 63, 18, 78, [], .returned)),
  (18, [], (.iload 4, 20, 4, [], .returned)),
  (20, [], (.bipush 9, 22, 0, [], .constant "" 0 (9))),
  (22, [], (.if_icmp .gt 56, 25, 78, [], .returned)),
  (25, [], (.iconst 0, 26, 0, [], .constant "" 0 (0))),
  (26, [], (.istore 5, 28, 5, [], .returned)),
  (28, [], (.iload 5, 30, 5, [], .returned)),
  (30, [], (.aload_n 0, 31, 0, [], .returned)),
  (31, [1061], (.getfield 17, 34, 10, [12, 2], .returned)),
  (34, [], (.iconst 5, 35, 0, [], .constant "" 0 (5))),
  (35, [], (.iaload, 36, 0, [], .returned)),
  (36, [], (.if_icmp .ge 36, 39, 72, [], .returned)),
  (39, [], (.aload_n 0, 40, 0, [], .returned)),
  (40, [], (.iconst 0, 41, 0, [], .constant "" 0 (0))),
  (41, [], (.iload 5, 43, 5, [], .returned)),
  (43, [], (.iload_n 1, 44, 1, [], .returned)),
  (44, [], (.iload 4, 46, 4, [], .returned)),
  (46, [1441, 1444, 1443, 73, 102], (.invokevirtual 265, 49, 0, [4, 10, 0, 0], .code yX10_isIn cX10_isIn 5 (some .boolean))),
  (49, [], (.ifCond .ne 6, 52, 55, [], .returned)),
  (52, [], (.goto 14, 55, 66, [], .returned)),
  (55, [], (.iload_n 3, 56, 3, [], .returned)),
  (56, [], (.iload_n 2, 57, 2, [], .returned)),
  (57, [], (.if_icmp .ne 6, 60, 63, [], .returned)),
  (60, [], (.iload 5, 62, 5, [], .returned)),
  (62, [], (.ireturn, 63, 0, [], .returned)),
  (63, [], (.iinc 3 1, 66, 3, [], .constant "" 0 (1))),
  (66, [], (.iinc 5 1, 69, 5, [], .constant "" 0 (1))),
  (69, [], (.goto (-41), 72, 28, [], .returned)),
  (72, [], (.iinc 4 1, 75, 4, [], .constant "" 0 (1))),
  (75, [], (.goto (-65), 78, 10, [], .returned)),
  (78, [], (.aload_n 0, 79, 0, [], .returned)),
  (79, [], (.iconst 1, 80, 0, [], .constant "" 0 (1))),
  (80, [1049], (.putfield 65, 83, 10, [0, 0], .returned)),
  (83, [], (.iconst 0, 84, 0, [], .constant "" 0 (0))),
  (84, [], (.ireturn, 85, 0, [], .returned))]
theorem ck_X10_turn : okT q_X10_turn t_X10_turn = true := by decide +kernel
theorem e_X10_turn_0 : lk t_X10_turn 0 = some (.aload_n 0, 1, 0, [], .returned) := rfl
theorem e_X10_turn_1 : lk t_X10_turn 1 = some (.iconst 0, 2, 0, [], .constant "" 0 (0)) := rfl
theorem e_X10_turn_2 : lk t_X10_turn 2 = some (.putfield 65, 5, 10, [0, 0], .returned) := rfl
theorem e_X10_turn_5 : lk t_X10_turn 5 = some (.iconst 0, 6, 0, [], .constant "" 0 (0)) := rfl
theorem e_X10_turn_6 : lk t_X10_turn 6 = some (.istore_n 3, 7, 3, [], .returned) := rfl
theorem e_X10_turn_7 : lk t_X10_turn 7 = some (.iconst 1, 8, 0, [], .constant "" 0 (1)) := rfl
theorem e_X10_turn_8 : lk t_X10_turn 8 = some (.istore 4, 10, 4, [], .returned) := rfl
theorem e_X10_turn_10 : lk t_X10_turn 10 = some (.aload_n 0, 11, 0, [], .returned) := rfl
theorem e_X10_turn_11 : lk t_X10_turn 11 = some (.iload_n 1, 12, 1, [], .returned) := rfl
theorem e_X10_turn_12 : lk t_X10_turn 12 = some (.invokevirtual 332, 15, 0, [1, 10, 0, 0], .code yX10_isPayer cX10_isPayer 2 (some .boolean)) := rfl
theorem e_X10_turn_15 : lk t_X10_turn 15 = some (.ifCond .eq 63, 18, 78, [], .returned) := rfl
theorem e_X10_turn_18 : lk t_X10_turn 18 = some (.iload 4, 20, 4, [], .returned) := rfl
theorem e_X10_turn_20 : lk t_X10_turn 20 = some (.bipush 9, 22, 0, [], .constant "" 0 (9)) := rfl
theorem e_X10_turn_22 : lk t_X10_turn 22 = some (.if_icmp .gt 56, 25, 78, [], .returned) := rfl
theorem e_X10_turn_25 : lk t_X10_turn 25 = some (.iconst 0, 26, 0, [], .constant "" 0 (0)) := rfl
theorem e_X10_turn_26 : lk t_X10_turn 26 = some (.istore 5, 28, 5, [], .returned) := rfl
theorem e_X10_turn_28 : lk t_X10_turn 28 = some (.iload 5, 30, 5, [], .returned) := rfl
theorem e_X10_turn_30 : lk t_X10_turn 30 = some (.aload_n 0, 31, 0, [], .returned) := rfl
theorem e_X10_turn_31 : lk t_X10_turn 31 = some (.getfield 17, 34, 10, [12, 2], .returned) := rfl
theorem e_X10_turn_34 : lk t_X10_turn 34 = some (.iconst 5, 35, 0, [], .constant "" 0 (5)) := rfl
theorem e_X10_turn_35 : lk t_X10_turn 35 = some (.iaload, 36, 0, [], .returned) := rfl
theorem e_X10_turn_36 : lk t_X10_turn 36 = some (.if_icmp .ge 36, 39, 72, [], .returned) := rfl
theorem e_X10_turn_39 : lk t_X10_turn 39 = some (.aload_n 0, 40, 0, [], .returned) := rfl
theorem e_X10_turn_40 : lk t_X10_turn 40 = some (.iconst 0, 41, 0, [], .constant "" 0 (0)) := rfl
theorem e_X10_turn_41 : lk t_X10_turn 41 = some (.iload 5, 43, 5, [], .returned) := rfl
theorem e_X10_turn_43 : lk t_X10_turn 43 = some (.iload_n 1, 44, 1, [], .returned) := rfl
theorem e_X10_turn_44 : lk t_X10_turn 44 = some (.iload 4, 46, 4, [], .returned) := rfl
theorem e_X10_turn_46 : lk t_X10_turn 46 = some (.invokevirtual 265, 49, 0, [4, 10, 0, 0], .code yX10_isIn cX10_isIn 5 (some .boolean)) := rfl
theorem e_X10_turn_49 : lk t_X10_turn 49 = some (.ifCond .ne 6, 52, 55, [], .returned) := rfl
theorem e_X10_turn_52 : lk t_X10_turn 52 = some (.goto 14, 55, 66, [], .returned) := rfl
theorem e_X10_turn_55 : lk t_X10_turn 55 = some (.iload_n 3, 56, 3, [], .returned) := rfl
theorem e_X10_turn_56 : lk t_X10_turn 56 = some (.iload_n 2, 57, 2, [], .returned) := rfl
theorem e_X10_turn_57 : lk t_X10_turn 57 = some (.if_icmp .ne 6, 60, 63, [], .returned) := rfl
theorem e_X10_turn_60 : lk t_X10_turn 60 = some (.iload 5, 62, 5, [], .returned) := rfl
theorem e_X10_turn_62 : lk t_X10_turn 62 = some (.ireturn, 63, 0, [], .returned) := rfl
theorem e_X10_turn_63 : lk t_X10_turn 63 = some (.iinc 3 1, 66, 3, [], .constant "" 0 (1)) := rfl
theorem e_X10_turn_66 : lk t_X10_turn 66 = some (.iinc 5 1, 69, 5, [], .constant "" 0 (1)) := rfl
theorem e_X10_turn_69 : lk t_X10_turn 69 = some (.goto (-41), 72, 28, [], .returned) := rfl
theorem e_X10_turn_72 : lk t_X10_turn 72 = some (.iinc 4 1, 75, 4, [], .constant "" 0 (1)) := rfl
theorem e_X10_turn_75 : lk t_X10_turn 75 = some (.goto (-65), 78, 10, [], .returned) := rfl
theorem e_X10_turn_78 : lk t_X10_turn 78 = some (.aload_n 0, 79, 0, [], .returned) := rfl
theorem e_X10_turn_79 : lk t_X10_turn 79 = some (.iconst 1, 80, 0, [], .constant "" 0 (1)) := rfl
theorem e_X10_turn_80 : lk t_X10_turn 80 = some (.putfield 65, 83, 10, [0, 0], .returned) := rfl
theorem e_X10_turn_83 : lk t_X10_turn 83 = some (.iconst 0, 84, 0, [], .constant "" 0 (0)) := rfl
theorem e_X10_turn_84 : lk t_X10_turn 84 = some (.ireturn, 85, 0, [], .returned) := rfl
abbrev q_X10_size : MI := (yX10_size, cX10_size, 1, (some .int))
def t_X10_size : Tab := [(0, [], (.aload_n 0, 1, 0, [], .returned)),
  (1, [], (.iconst 0, 2, 0, [], .constant "" 0 (0))),
  (2, [1049], (.putfield 65, 5, 10, [0, 0], .returned)),
  (5, [], (.aload_n 0, 6, 0, [], .returned)),
  (6, [1053], (.getfield 136, 9, 10, [4, 0], .returned)),
  (9, [], (.ireturn, 10, 0, [], .returned))]
theorem ck_X10_size : okT q_X10_size t_X10_size = true := by decide +kernel
theorem e_X10_size_0 : lk t_X10_size 0 = some (.aload_n 0, 1, 0, [], .returned) := rfl
theorem e_X10_size_1 : lk t_X10_size 1 = some (.iconst 0, 2, 0, [], .constant "" 0 (0)) := rfl
theorem e_X10_size_2 : lk t_X10_size 2 = some (.putfield 65, 5, 10, [0, 0], .returned) := rfl
theorem e_X10_size_5 : lk t_X10_size 5 = some (.aload_n 0, 6, 0, [], .returned) := rfl
theorem e_X10_size_6 : lk t_X10_size 6 = some (.getfield 136, 9, 10, [4, 0], .returned) := rfl
theorem e_X10_size_9 : lk t_X10_size 9 = some (.ireturn, 10, 0, [], .returned) := rfl
abbrev q_X10_trouble : MI := (yX10_trouble, cX10_trouble, 1, (some .int))
def t_X10_trouble : Tab := [(0, [], (.aload_n 0, 1, 0, [], .returned)),
  (1, [], (.iconst 0, 2, 0, [], .constant "" 0 (0))),
  (2, [1049], (.putfield 65, 5, 10, [0, 0], .returned)),
  (5, [], (.aload_n 0, 6, 0, [], .returned)),
  (6, [1050], (.getfield 68, 9, 10, [1, 0], .returned)),
  (9, [], (.ireturn, 10, 0, [], .returned))]
theorem ck_X10_trouble : okT q_X10_trouble t_X10_trouble = true := by decide +kernel
theorem e_X10_trouble_0 : lk t_X10_trouble 0 = some (.aload_n 0, 1, 0, [], .returned) := rfl
theorem e_X10_trouble_1 : lk t_X10_trouble 1 = some (.iconst 0, 2, 0, [], .constant "" 0 (0)) := rfl
theorem e_X10_trouble_2 : lk t_X10_trouble 2 = some (.putfield 65, 5, 10, [0, 0], .returned) := rfl
theorem e_X10_trouble_5 : lk t_X10_trouble 5 = some (.aload_n 0, 6, 0, [], .returned) := rfl
theorem e_X10_trouble_6 : lk t_X10_trouble 6 = some (.getfield 68, 9, 10, [1, 0], .returned) := rfl
theorem e_X10_trouble_9 : lk t_X10_trouble 9 = some (.ireturn, 10, 0, [], .returned) := rfl
