abbrev q_X10_isPayer : MI := (yX10_isPayer, cX10_isPayer, 2, (some .boolean))
def t_X10_isPayer : Tab := [(0, [], (.aload_n 0, 1, 0, [], .returned)),
  (1, [1064], (.getfield 224, 4, 10, [15, 0], .returned)),
  (4, [], (.ifCond .eq 23, 7, 27, [], .returned)),
  (7, [], (.iload_n 1, 8, 1, [], .returned)),
  (8, [], (.iconst 0, 9, 0, [], .constant "" 0 (0))),
  (9, [], (.aload_n 0, 10, 0, [], .returned)),
  (10, [1061], (.getfield 17, 13, 10, [12, 2], .returned)),
  (13, [], (.iconst 4, 14, 0, [], .constant "" 0 (4))),
  (14, [], (.iaload, 15, 0, [], .returned)),
  (15, [], (.iconst 1, 16, 0, [], .constant "" 0 (1))),
  (16, [], (.isub, 17, 0, [], .returned)),
  (17, [1174, 1176, 1175, 102], (.invokestatic 90, 20, 0, [3, 0, 0], .code yX10_in cX10_in 3 (some .boolean))),
  (20, [], (.ifCond .eq 7, 23, 27, [], .returned)),
  (23, [], (.iconst 1, 24, 0, [], .constant "" 0 (1))),
  (24, [], (.goto 4, 27, 28, [], .returned)),
  (27, [], (.iconst 0, 28, 0, [], .constant "" 0 (0))),
  (28, [], (.ireturn, 29, 1, [], .returned))]
theorem ck_X10_isPayer : okT q_X10_isPayer t_X10_isPayer = true := by decide +kernel
theorem e_X10_isPayer_0 : lk t_X10_isPayer 0 = some (.aload_n 0, 1, 0, [], .returned) := rfl
theorem e_X10_isPayer_1 : lk t_X10_isPayer 1 = some (.getfield 224, 4, 10, [15, 0], .returned) := rfl
theorem e_X10_isPayer_4 : lk t_X10_isPayer 4 = some (.ifCond .eq 23, 7, 27, [], .returned) := rfl
theorem e_X10_isPayer_7 : lk t_X10_isPayer 7 = some (.iload_n 1, 8, 1, [], .returned) := rfl
theorem e_X10_isPayer_8 : lk t_X10_isPayer 8 = some (.iconst 0, 9, 0, [], .constant "" 0 (0)) := rfl
theorem e_X10_isPayer_9 : lk t_X10_isPayer 9 = some (.aload_n 0, 10, 0, [], .returned) := rfl
theorem e_X10_isPayer_10 : lk t_X10_isPayer 10 = some (.getfield 17, 13, 10, [12, 2], .returned) := rfl
theorem e_X10_isPayer_13 : lk t_X10_isPayer 13 = some (.iconst 4, 14, 0, [], .constant "" 0 (4)) := rfl
theorem e_X10_isPayer_14 : lk t_X10_isPayer 14 = some (.iaload, 15, 0, [], .returned) := rfl
theorem e_X10_isPayer_15 : lk t_X10_isPayer 15 = some (.iconst 1, 16, 0, [], .constant "" 0 (1)) := rfl
theorem e_X10_isPayer_16 : lk t_X10_isPayer 16 = some (.isub, 17, 0, [], .returned) := rfl
theorem e_X10_isPayer_17 : lk t_X10_isPayer 17 = some (.invokestatic 90, 20, 0, [3, 0, 0], .code yX10_in cX10_in 3 (some .boolean)) := rfl
theorem e_X10_isPayer_20 : lk t_X10_isPayer 20 = some (.ifCond .eq 7, 23, 27, [], .returned) := rfl
theorem e_X10_isPayer_23 : lk t_X10_isPayer 23 = some (.iconst 1, 24, 0, [], .constant "" 0 (1)) := rfl
theorem e_X10_isPayer_24 : lk t_X10_isPayer 24 = some (.goto 4, 27, 28, [], .returned) := rfl
theorem e_X10_isPayer_27 : lk t_X10_isPayer 27 = some (.iconst 0, 28, 0, [], .constant "" 0 (0)) := rfl
theorem e_X10_isPayer_28 : lk t_X10_isPayer 28 = some (.ireturn, 29, 1, [], .returned) := rfl
abbrev q_X10_sumOf : MI := (yX10_sumOf, cX10_sumOf, 4, (some .int))
def t_X10_sumOf : Tab := [(0, [], (.iconst 0, 1, 0, [], .constant "" 0 (0))),
  (1, [], (.istore_n 2, 2, 2, [], .returned)),
  (2, [], (.iconst 0, 3, 0, [], .constant "" 0 (0))),
  (3, [], (.istore_n 3, 4, 3, [], .returned)),
  (4, [], (.iload_n 3, 5, 3, [], .returned)),
  (5, [], (.iload_n 1, 6, 1, [], .returned)),
  (6, [], (.if_icmp .ge 15, 9, 21, [], .returned)),
  (9, [], (.iload_n 2, 10, 2, [], .returned)),
  (10, [], (.aload_n 0, 11, 0, [], .returned)),
  (11, [], (.iload_n 3, 12, 3, [], .returned)),
  (12, [], (.iaload, 13, 0, [], .returned)),
  (13, [], (.iadd, 14, 0, [], .returned)),
  (14, [], (.istore_n 2, 15, 2, [], .returned)),
  (15, [], (.iinc 3 1, 18, 3, [], .constant "" 0 (1))),
  (18, [], (.goto (-14), 21, 4, [], .returned)),
  (21, [], (.iload_n 2, 22, 2, [], .returned)),
  (22, [], (.ireturn, 23, 0, [], .returned))]
theorem ck_X10_sumOf : okT q_X10_sumOf t_X10_sumOf = true := by decide +kernel
theorem e_X10_sumOf_0 : lk t_X10_sumOf 0 = some (.iconst 0, 1, 0, [], .constant "" 0 (0)) := rfl
theorem e_X10_sumOf_1 : lk t_X10_sumOf 1 = some (.istore_n 2, 2, 2, [], .returned) := rfl
theorem e_X10_sumOf_2 : lk t_X10_sumOf 2 = some (.iconst 0, 3, 0, [], .constant "" 0 (0)) := rfl
theorem e_X10_sumOf_3 : lk t_X10_sumOf 3 = some (.istore_n 3, 4, 3, [], .returned) := rfl
theorem e_X10_sumOf_4 : lk t_X10_sumOf 4 = some (.iload_n 3, 5, 3, [], .returned) := rfl
theorem e_X10_sumOf_5 : lk t_X10_sumOf 5 = some (.iload_n 1, 6, 1, [], .returned) := rfl
theorem e_X10_sumOf_6 : lk t_X10_sumOf 6 = some (.if_icmp .ge 15, 9, 21, [], .returned) := rfl
theorem e_X10_sumOf_9 : lk t_X10_sumOf 9 = some (.iload_n 2, 10, 2, [], .returned) := rfl
theorem e_X10_sumOf_10 : lk t_X10_sumOf 10 = some (.aload_n 0, 11, 0, [], .returned) := rfl
theorem e_X10_sumOf_11 : lk t_X10_sumOf 11 = some (.iload_n 3, 12, 3, [], .returned) := rfl
theorem e_X10_sumOf_12 : lk t_X10_sumOf 12 = some (.iaload, 13, 0, [], .returned) := rfl
theorem e_X10_sumOf_13 : lk t_X10_sumOf 13 = some (.iadd, 14, 0, [], .returned) := rfl
theorem e_X10_sumOf_14 : lk t_X10_sumOf 14 = some (.istore_n 2, 15, 2, [], .returned) := rfl
theorem e_X10_sumOf_15 : lk t_X10_sumOf 15 = some (.iinc 3 1, 18, 3, [], .constant "" 0 (1)) := rfl
theorem e_X10_sumOf_18 : lk t_X10_sumOf 18 = some (.goto (-14), 21, 4, [], .returned) := rfl
theorem e_X10_sumOf_21 : lk t_X10_sumOf 21 = some (.iload_n 2, 22, 2, [], .returned) := rfl
theorem e_X10_sumOf_22 : lk t_X10_sumOf 22 = some (.ireturn, 23, 0, [], .returned) := rfl
abbrev q_X10_liveOnes : MI := (yX10_liveOnes, cX10_liveOnes, 4, (some .int))
def t_X10_liveOnes : Tab := [(0, [], (.iconst 0, 1, 0, [], .constant "" 0 (0))),
  (1, [], (.istore_n 2, 2, 2, [], .returned)),
  (2, [], (.iconst 0, 3, 0, [], .constant "" 0 (0))),
  (3, [], (.istore_n 3, 4, 3, [], .returned)),
  (4, [], (.iload_n 3, 5, 3, [], .returned)),
  (5, [], (.aload_n 0, 6, 0, [], .returned)),
  (6, [1061], (.getfield 17, 9, 10, [12, 2], .returned)),
  (9, [], (.iconst 5, 10, 0, [], .constant "" 0 (5))),
  (10, [], (.iaload, 11, 0, [], .returned)),
  (11, [], (.if_icmp .ge 42, 14, 53, [], .returned)),
  (14, [], (.iload_n 2, 15, 2, [], .returned)),
  (15, [], (.aload_n 0, 16, 0, [], .returned)),
  (16, [], (.iconst 0, 17, 0, [], .constant "" 0 (0))),
  (17, [], (.iload_n 3, 18, 3, [], .returned)),
  (18, [1343, 1346, 1345, 60, 102], (.invokevirtual 239, 21, 0, [2, 10, 0, 0], .code yX10_isLive cX10_isLive 3 (some .boolean))),
  (21, [], (.ifCond .eq 23, 24, 44, [], .returned)),
  (24, [], (.iload_n 1, 25, 1, [], .returned)),
  (25, [], (.iconst (-1), 26, 0, [], .constant "" 0 (-1))),
  (26, [], (.if_icmp .eq 12, 29, 38, [], .returned)),
  (29, [], (.aload_n 0, 30, 0, [], .returned)),
  (30, [], (.iload_n 3, 31, 3, [], .returned)),
  (31, [], (.iload_n 1, 32, 1, [], .returned)),
  (32, [1352, 1355, 1354, 62, 102], (.invokevirtual 256, 35, 0, [2, 10, 0, 0], .code yX10_isAt cX10_isAt 3 (some .boolean))),
  (35, [], (.ifCond .eq 9, 38, 44, [], .returned)),
  (38, [], (.iconst 1, 39, 0, [], .constant "" 0 (1))),
  (39, [], (.iload_n 3, 40, 3, [], .returned)),
  (40, [], (.ishl, 41, 0, [], .returned)),
  (41, [], (.goto 4, 44, 45, [], .returned)),
  (44, [], (.iconst 0, 45, 0, [], .constant "" 0 (0))),
  (45, [], (.ior, 46, 0, [], .returned)),
  (46, [], (.istore_n 2, 47, 2, [], .returned)),
  (47, [], (.iinc 3 1, 50, 3, [], .constant "" 0 (1))),
  (50, [], (.goto (-46), 53, 4, [], .returned)),
  (53, [], (.iload_n 2, 54, 2, [], .returned)),
  (54, [], (.ireturn, 55, 0, [], .returned))]
theorem ck_X10_liveOnes : okT q_X10_liveOnes t_X10_liveOnes = true := by decide +kernel
theorem e_X10_liveOnes_0 : lk t_X10_liveOnes 0 = some (.iconst 0, 1, 0, [], .constant "" 0 (0)) := rfl
theorem e_X10_liveOnes_1 : lk t_X10_liveOnes 1 = some (.istore_n 2, 2, 2, [], .returned) := rfl
theorem e_X10_liveOnes_2 : lk t_X10_liveOnes 2 = some (.iconst 0, 3, 0, [], .constant "" 0 (0)) := rfl
theorem e_X10_liveOnes_3 : lk t_X10_liveOnes 3 = some (.istore_n 3, 4, 3, [], .returned) := rfl
theorem e_X10_liveOnes_4 : lk t_X10_liveOnes 4 = some (.iload_n 3, 5, 3, [], .returned) := rfl
theorem e_X10_liveOnes_5 : lk t_X10_liveOnes 5 = some (.aload_n 0, 6, 0, [], .returned) := rfl
theorem e_X10_liveOnes_6 : lk t_X10_liveOnes 6 = some (.getfield 17, 9, 10, [12, 2], .returned) := rfl
theorem e_X10_liveOnes_9 : lk t_X10_liveOnes 9 = some (.iconst 5, 10, 0, [], .constant "" 0 (5)) := rfl
theorem e_X10_liveOnes_10 : lk t_X10_liveOnes 10 = some (.iaload, 11, 0, [], .returned) := rfl
theorem e_X10_liveOnes_11 : lk t_X10_liveOnes 11 = some (.if_icmp .ge 42, 14, 53, [], .returned) := rfl
theorem e_X10_liveOnes_14 : lk t_X10_liveOnes 14 = some (.iload_n 2, 15, 2, [], .returned) := rfl
theorem e_X10_liveOnes_15 : lk t_X10_liveOnes 15 = some (.aload_n 0, 16, 0, [], .returned) := rfl
theorem e_X10_liveOnes_16 : lk t_X10_liveOnes 16 = some (.iconst 0, 17, 0, [], .constant "" 0 (0)) := rfl
theorem e_X10_liveOnes_17 : lk t_X10_liveOnes 17 = some (.iload_n 3, 18, 3, [], .returned) := rfl
theorem e_X10_liveOnes_18 : lk t_X10_liveOnes 18 = some (.invokevirtual 239, 21, 0, [2, 10, 0, 0], .code yX10_isLive cX10_isLive 3 (some .boolean)) := rfl
theorem e_X10_liveOnes_21 : lk t_X10_liveOnes 21 = some (.ifCond .eq 23, 24, 44, [], .returned) := rfl
theorem e_X10_liveOnes_24 : lk t_X10_liveOnes 24 = some (.iload_n 1, 25, 1, [], .returned) := rfl
theorem e_X10_liveOnes_25 : lk t_X10_liveOnes 25 = some (.iconst (-1), 26, 0, [], .constant "" 0 (-1)) := rfl
theorem e_X10_liveOnes_26 : lk t_X10_liveOnes 26 = some (.if_icmp .eq 12, 29, 38, [], .returned) := rfl
theorem e_X10_liveOnes_29 : lk t_X10_liveOnes 29 = some (.aload_n 0, 30, 0, [], .returned) := rfl
theorem e_X10_liveOnes_30 : lk t_X10_liveOnes 30 = some (.iload_n 3, 31, 3, [], .returned) := rfl
theorem e_X10_liveOnes_31 : lk t_X10_liveOnes 31 = some (.iload_n 1, 32, 1, [], .returned) := rfl
theorem e_X10_liveOnes_32 : lk t_X10_liveOnes 32 = some (.invokevirtual 256, 35, 0, [2, 10, 0, 0], .code yX10_isAt cX10_isAt 3 (some .boolean)) := rfl
theorem e_X10_liveOnes_35 : lk t_X10_liveOnes 35 = some (.ifCond .eq 9, 38, 44, [], .returned) := rfl
theorem e_X10_liveOnes_38 : lk t_X10_liveOnes 38 = some (.iconst 1, 39, 0, [], .constant "" 0 (1)) := rfl
theorem e_X10_liveOnes_39 : lk t_X10_liveOnes 39 = some (.iload_n 3, 40, 3, [], .returned) := rfl
theorem e_X10_liveOnes_40 : lk t_X10_liveOnes 40 = some (.ishl, 41, 0, [], .returned) := rfl
theorem e_X10_liveOnes_41 : lk t_X10_liveOnes 41 = some (.goto 4, 44, 45, [], .returned) := rfl
theorem e_X10_liveOnes_44 : lk t_X10_liveOnes 44 = some (.iconst 0, 45, 0, [], .constant "" 0 (0)) := rfl
theorem e_X10_liveOnes_45 : lk t_X10_liveOnes 45 = some (.ior, 46, 0, [], .returned) := rfl
theorem e_X10_liveOnes_46 : lk t_X10_liveOnes 46 = some (.istore_n 2, 47, 2, [], .returned) := rfl
theorem e_X10_liveOnes_47 : lk t_X10_liveOnes 47 = some (.iinc 3 1, 50, 3, [], .constant "" 0 (1)) := rfl
theorem e_X10_liveOnes_50 : lk t_X10_liveOnes 50 = some (.goto (-46), 53, 4, [], .returned) := rfl
theorem e_X10_liveOnes_53 : lk t_X10_liveOnes 53 = some (.iload_n 2, 54, 2, [], .returned) := rfl
theorem e_X10_liveOnes_54 : lk t_X10_liveOnes 54 = some (.ireturn, 55, 0, [], .returned) := rfl
abbrev q_X10_owedAll : MI := (yX10_owedAll, cX10_owedAll, 1, (some .int))
def t_X10_owedAll : Tab := [(0, [], (.aload_n 0, 1, 0, [], .returned)),
  (1, [1067], (.getfield 31, 4, 10, [18, 2], .returned)),
  (4, [], (.aload_n 0, 5, 0, [], .returned)),
  (5, [1061], (.getfield 17, 8, 10, [12, 2], .returned)),
  (8, [], (.iconst 5, 9, 0, [], .constant "" 0 (5))),
  (9, [], (.iaload, 10, 0, [], .returned)),
  (10, [1332, 1334, 1333, 102], (.invokestatic 315, 13, 0, [2, 0, 0], .code yX10_sumOf cX10_sumOf 4 (some .int))),
  (13, [], (.ireturn, 14, 0, [], .returned))]
theorem ck_X10_owedAll : okT q_X10_owedAll t_X10_owedAll = true := by decide +kernel
theorem e_X10_owedAll_0 : lk t_X10_owedAll 0 = some (.aload_n 0, 1, 0, [], .returned) := rfl
theorem e_X10_owedAll_1 : lk t_X10_owedAll 1 = some (.getfield 31, 4, 10, [18, 2], .returned) := rfl
theorem e_X10_owedAll_4 : lk t_X10_owedAll 4 = some (.aload_n 0, 5, 0, [], .returned) := rfl
theorem e_X10_owedAll_5 : lk t_X10_owedAll 5 = some (.getfield 17, 8, 10, [12, 2], .returned) := rfl
theorem e_X10_owedAll_8 : lk t_X10_owedAll 8 = some (.iconst 5, 9, 0, [], .constant "" 0 (5)) := rfl
theorem e_X10_owedAll_9 : lk t_X10_owedAll 9 = some (.iaload, 10, 0, [], .returned) := rfl
theorem e_X10_owedAll_10 : lk t_X10_owedAll 10 = some (.invokestatic 315, 13, 0, [2, 0, 0], .code yX10_sumOf cX10_sumOf 4 (some .int)) := rfl
theorem e_X10_owedAll_13 : lk t_X10_owedAll 13 = some (.ireturn, 14, 0, [], .returned) := rfl
abbrev q_X10_about : MI := (yX10_about, cX10_about, 2, (some .int))
def t_X10_about : Tab := [(0, [], (.aload_n 0, 1, 0, [], .returned)),
  (1, [], (.iconst 0, 2, 0, [], .constant "" 0 (0))),
  (2, [1049], (.putfield 65, 5, 10, [0, 0], .returned)),
  (5, [], (.aload_n 0, 6, 0, [], .returned)),
  (6, [1064], (.getfield 224, 9, 10, [15, 0], .returned)),
  (9, [], (.ifCond .ne 9, 12, 18, [], .returned)),
  (12, [], (.aload_n 0, 13, 0, [], .returned)),
  (13, [], (.iconst 1, 14, 0, [], .constant "" 0 (1))),
  (14, [1158, 1161, 1160, 35, 102], (.invokevirtual 218, 17, 0, [1, 10, 0, 0], .code yX10_refused cX10_refused 2 (some .int))),
  (17, [], (.ireturn, 18, 0, [], .returned)),
  (18, [], (.iload_n 1, 19, 1, [], .returned)),
  (19, [], (.tableswitch 139 0 11 #[61, 61, 61, 61, 61, 61, 72, 81, 94, 107, 120, 129], 80, 158, [80, 80, 80, 80, 80, 80, 91, 100, 113, 126, 139, 148], .returned)),
  (80, [], (.aload_n 0, 81, 0, [], .returned)),
  (81, [], (.aload_n 0, 82, 0, [], .returned)),
  (82, [1061], (.getfield 17, 85, 10, [12, 2], .returned)),
  (85, [], (.iload_n 1, 86, 1, [], .returned)),
  (86, [], (.iaload, 87, 0, [], .returned)),
  (87, [1316, 1319, 1318, 57, 102], (.invokevirtual 232, 90, 0, [1, 10, 0, 0], .code yX10_good cX10_good 2 (some .int))),
  (90, [], (.ireturn, 91, 0, [], .returned)),
  (91, [], (.aload_n 0, 92, 0, [], .returned)),
  (92, [], (.aload_n 0, 93, 0, [], .returned)),
  (93, [1073], (.getfield 227, 96, 10, [24, 0], .returned)),
  (96, [1316, 1319, 1318, 57, 102], (.invokevirtual 232, 99, 0, [1, 10, 0, 0], .code yX10_good cX10_good 2 (some .int))),
  (99, [], (.ireturn, 100, 0, [], .returned)),
  (100, [], (.aload_n 0, 101, 0, [], .returned)),
  (101, [], (.aload_n 0, 102, 0, [], .returned)),
  (102, [1069], (.getfield 37, 105, 10, [20, 2], .returned)),
  (105, [], (.iconst 3, 106, 0, [], .constant "" 0 (3))),
  (106, [1332, 1334, 1333, 102], (.invokestatic 315, 109, 0, [2, 0, 0], .code yX10_sumOf cX10_sumOf 4 (some .int))),
  (109, [1316, 1319, 1318, 57, 102], (.invokevirtual 232, 112, 0, [1, 10, 0, 0], .code yX10_good cX10_good 2 (some .int))),
  (112, [], (.ireturn, 113, 0, [], .returned)),
  (113, [], (.aload_n 0, 114, 0, [], .returned)),
  (114, [], (.aload_n 0, 115, 0, [], .returned)),
  (115, [1070], (.getfield 40, 118, 10, [21, 2], .returned)),
  (118, [], (.iconst 3, 119, 0, [], .constant "" 0 (3))),
  (119, [1332, 1334, 1333, 102], (.invokestatic 315, 122, 0, [2, 0, 0], .code yX10_sumOf cX10_sumOf 4 (some .int))),
  (122, [1316, 1319, 1318, 57, 102], (.invokevirtual 232, 125, 0, [1, 10, 0, 0], .code yX10_good cX10_good 2 (some .int))),
  (125, [], (.ireturn, 126, 0, [], .returned)),
  (126, [], (.aload_n 0, 127, 0, [], .returned)),
  (127, [], (.aload_n 0, 128, 0, [], .returned)),
  (128, [1071], (.getfield 43, 131, 10, [22, 2], .returned)),
  (131, [], (.iconst 3, 132, 0, [], .constant "" 0 (3))),
  (132, [1332, 1334, 1333, 102], (.invokestatic 315, 135, 0, [2, 0, 0], .code yX10_sumOf cX10_sumOf 4 (some .int))),
  (135, [1316, 1319, 1318, 57, 102], (.invokevirtual 232, 138, 0, [1, 10, 0, 0], .code yX10_good cX10_good 2 (some .int))),
  (138, [], (.ireturn, 139, 0, [], .returned)),
  (139, [], (.aload_n 0, 140, 0, [], .returned)),
  (140, [], (.aload_n 0, 141, 0, [], .returned)),
  (141, [1335, 1338, 1337, 58, 102], (.invokevirtual 319, 144, 0, [0, 10, 0, 0], .code yX10_owedAll cX10_owedAll 1 (some .int))),
  (144, [1316, 1319, 1318, 57, 102], (.invokevirtual 232, 147, 0, [1, 10, 0, 0], .code yX10_good cX10_good 2 (some .int))),
  (147, [], (.ireturn, 148, 0, [], .returned)),
  (148, [], (.aload_n 0, 149, 0, [], .returned)),
  (149, [], (.aload_n 0, 150, 0, [], .returned)),
  (150, [], (.iconst (-1), 151, 0, [], .constant "" 0 (-1))),
  (151, [1339, 1342, 1341, 59, 102], (.invokevirtual 322, 154, 0, [1, 10, 0, 0], .code yX10_liveOnes cX10_liveOnes 4 (some .int))),
  (154, [1316, 1319, 1318, 57, 102], (.invokevirtual 232, 157, 0, [1, 10, 0, 0], .code yX10_good cX10_good 2 (some .int))),
  (157, [], (.ireturn, 158, 0, [], .returned)),
  (158, [], (.aload_n 0, 159, 0, [], .returned)),
  (159, [], (.iconst 1, 160, 0, [], .constant "" 0 (1))),
  (160, [1158, 1161, 1160, 35, 102], (.invokevirtual 218, 163, 0, [1, 10, 0, 0], .code yX10_refused cX10_refused 2 (some .int))),
  (163, [], (.ireturn, 164, 0, [], .returned))]
theorem ck_X10_about : okT q_X10_about t_X10_about = true := by decide +kernel
theorem e_X10_about_0 : lk t_X10_about 0 = some (.aload_n 0, 1, 0, [], .returned) := rfl
theorem e_X10_about_1 : lk t_X10_about 1 = some (.iconst 0, 2, 0, [], .constant "" 0 (0)) := rfl
theorem e_X10_about_2 : lk t_X10_about 2 = some (.putfield 65, 5, 10, [0, 0], .returned) := rfl
theorem e_X10_about_5 : lk t_X10_about 5 = some (.aload_n 0, 6, 0, [], .returned) := rfl
theorem e_X10_about_6 : lk t_X10_about 6 = some (.getfield 224, 9, 10, [15, 0], .returned) := rfl
theorem e_X10_about_9 : lk t_X10_about 9 = some (.ifCond .ne 9, 12, 18, [], .returned) := rfl
theorem e_X10_about_12 : lk t_X10_about 12 = some (.aload_n 0, 13, 0, [], .returned) := rfl
theorem e_X10_about_13 : lk t_X10_about 13 = some (.iconst 1, 14, 0, [], .constant "" 0 (1)) := rfl
theorem e_X10_about_14 : lk t_X10_about 14 = some (.invokevirtual 218, 17, 0, [1, 10, 0, 0], .code yX10_refused cX10_refused 2 (some .int)) := rfl
theorem e_X10_about_17 : lk t_X10_about 17 = some (.ireturn, 18, 0, [], .returned) := rfl
theorem e_X10_about_18 : lk t_X10_about 18 = some (.iload_n 1, 19, 1, [], .returned) := rfl
theorem e_X10_about_19 : lk t_X10_about 19 = some (.tableswitch 139 0 11 #[61, 61, 61, 61, 61, 61, 72, 81, 94, 107, 120, 129], 80, 158, [80, 80, 80, 80, 80, 80, 91, 100, 113, 126, 139, 148], .returned) := rfl
theorem e_X10_about_80 : lk t_X10_about 80 = some (.aload_n 0, 81, 0, [], .returned) := rfl
theorem e_X10_about_81 : lk t_X10_about 81 = some (.aload_n 0, 82, 0, [], .returned) := rfl
theorem e_X10_about_82 : lk t_X10_about 82 = some (.getfield 17, 85, 10, [12, 2], .returned) := rfl
theorem e_X10_about_85 : lk t_X10_about 85 = some (.iload_n 1, 86, 1, [], .returned) := rfl
theorem e_X10_about_86 : lk t_X10_about 86 = some (.iaload, 87, 0, [], .returned) := rfl
theorem e_X10_about_87 : lk t_X10_about 87 = some (.invokevirtual 232, 90, 0, [1, 10, 0, 0], .code yX10_good cX10_good 2 (some .int)) := rfl
theorem e_X10_about_90 : lk t_X10_about 90 = some (.ireturn, 91, 0, [], .returned) := rfl
theorem e_X10_about_91 : lk t_X10_about 91 = some (.aload_n 0, 92, 0, [], .returned) := rfl
theorem e_X10_about_92 : lk t_X10_about 92 = some (.aload_n 0, 93, 0, [], .returned) := rfl
theorem e_X10_about_93 : lk t_X10_about 93 = some (.getfield 227, 96, 10, [24, 0], .returned) := rfl
theorem e_X10_about_96 : lk t_X10_about 96 = some (.invokevirtual 232, 99, 0, [1, 10, 0, 0], .code yX10_good cX10_good 2 (some .int)) := rfl
theorem e_X10_about_99 : lk t_X10_about 99 = some (.ireturn, 100, 0, [], .returned) := rfl
theorem e_X10_about_100 : lk t_X10_about 100 = some (.aload_n 0, 101, 0, [], .returned) := rfl
theorem e_X10_about_101 : lk t_X10_about 101 = some (.aload_n 0, 102, 0, [], .returned) := rfl
theorem e_X10_about_102 : lk t_X10_about 102 = some (.getfield 37, 105, 10, [20, 2], .returned) := rfl
theorem e_X10_about_105 : lk t_X10_about 105 = some (.iconst 3, 106, 0, [], .constant "" 0 (3)) := rfl
theorem e_X10_about_106 : lk t_X10_about 106 = some (.invokestatic 315, 109, 0, [2, 0, 0], .code yX10_sumOf cX10_sumOf 4 (some .int)) := rfl
theorem e_X10_about_109 : lk t_X10_about 109 = some (.invokevirtual 232, 112, 0, [1, 10, 0, 0], .code yX10_good cX10_good 2 (some .int)) := rfl
theorem e_X10_about_112 : lk t_X10_about 112 = some (.ireturn, 113, 0, [], .returned) := rfl
theorem e_X10_about_113 : lk t_X10_about 113 = some (.aload_n 0, 114, 0, [], .returned) := rfl
theorem e_X10_about_114 : lk t_X10_about 114 = some (.aload_n 0, 115, 0, [], .returned) := rfl
theorem e_X10_about_115 : lk t_X10_about 115 = some (.getfield 40, 118, 10, [21, 2], .returned) := rfl
theorem e_X10_about_118 : lk t_X10_about 118 = some (.iconst 3, 119, 0, [], .constant "" 0 (3)) := rfl
theorem e_X10_about_119 : lk t_X10_about 119 = some (.invokestatic 315, 122, 0, [2, 0, 0], .code yX10_sumOf cX10_sumOf 4 (some .int)) := rfl
theorem e_X10_about_122 : lk t_X10_about 122 = some (.invokevirtual 232, 125, 0, [1, 10, 0, 0], .code yX10_good cX10_good 2 (some .int)) := rfl
theorem e_X10_about_125 : lk t_X10_about 125 = some (.ireturn, 126, 0, [], .returned) := rfl
theorem e_X10_about_126 : lk t_X10_about 126 = some (.aload_n 0, 127, 0, [], .returned) := rfl
theorem e_X10_about_127 : lk t_X10_about 127 = some (.aload_n 0, 128, 0, [], .returned) := rfl
theorem e_X10_about_128 : lk t_X10_about 128 = some (.getfield 43, 131, 10, [22, 2], .returned) := rfl
theorem e_X10_about_131 : lk t_X10_about 131 = some (.iconst 3, 132, 0, [], .constant "" 0 (3)) := rfl
theorem e_X10_about_132 : lk t_X10_about 132 = some (.invokestatic 315, 135, 0, [2, 0, 0], .code yX10_sumOf cX10_sumOf 4 (some .int)) := rfl
theorem e_X10_about_135 : lk t_X10_about 135 = some (.invokevirtual 232, 138, 0, [1, 10, 0, 0], .code yX10_good cX10_good 2 (some .int)) := rfl
theorem e_X10_about_138 : lk t_X10_about 138 = some (.ireturn, 139, 0, [], .returned) := rfl
theorem e_X10_about_139 : lk t_X10_about 139 = some (.aload_n 0, 140, 0, [], .returned) := rfl
theorem e_X10_about_140 : lk t_X10_about 140 = some (.aload_n 0, 141, 0, [], .returned) := rfl
theorem e_X10_about_141 : lk t_X10_about 141 = some (.invokevirtual 319, 144, 0, [0, 10, 0, 0], .code yX10_owedAll cX10_owedAll 1 (some .int)) := rfl
theorem e_X10_about_144 : lk t_X10_about 144 = some (.invokevirtual 232, 147, 0, [1, 10, 0, 0], .code yX10_good cX10_good 2 (some .int)) := rfl
theorem e_X10_about_147 : lk t_X10_about 147 = some (.ireturn, 148, 0, [], .returned) := rfl
theorem e_X10_about_148 : lk t_X10_about 148 = some (.aload_n 0, 149, 0, [], .returned) := rfl
theorem e_X10_about_149 : lk t_X10_about 149 = some (.aload_n 0, 150, 0, [], .returned) := rfl
theorem e_X10_about_150 : lk t_X10_about 150 = some (.iconst (-1), 151, 0, [], .constant "" 0 (-1)) := rfl
theorem e_X10_about_151 : lk t_X10_about 151 = some (.invokevirtual 322, 154, 0, [1, 10, 0, 0], .code yX10_liveOnes cX10_liveOnes 4 (some .int)) := rfl
theorem e_X10_about_154 : lk t_X10_about 154 = some (.invokevirtual 232, 157, 0, [1, 10, 0, 0], .code yX10_good cX10_good 2 (some .int)) := rfl
theorem e_X10_about_157 : lk t_X10_about 157 = some (.ireturn, 158, 0, [], .returned) := rfl
theorem e_X10_about_158 : lk t_X10_about 158 = some (.aload_n 0, 159, 0, [], .returned) := rfl
theorem e_X10_about_159 : lk t_X10_about 159 = some (.iconst 1, 160, 0, [], .constant "" 0 (1)) := rfl
theorem e_X10_about_160 : lk t_X10_about 160 = some (.invokevirtual 218, 163, 0, [1, 10, 0, 0], .code yX10_refused cX10_refused 2 (some .int)) := rfl
theorem e_X10_about_163 : lk t_X10_about 163 = some (.ireturn, 164, 0, [], .returned) := rfl
abbrev q_X10_payersOf : MI := (yX10_payersOf, cX10_payersOf, 2, (some .int))
def t_X10_payersOf : Tab := [(0, [], (.aload_n 0, 1, 0, [], .returned)),
  (1, [1061], (.getfield 17, 4, 10, [12, 2], .returned)),
  (4, [], (.bipush 81, 6, 0, [], .constant "" 0 (81))),
  (6, [], (.iload_n 1, 7, 1, [], .returned)),
  (7, [], (.iadd, 8, 0, [], .returned)),
  (8, [], (.iaload, 9, 0, [], .returned)),
  (9, [], (.iconst 1, 10, 0, [], .constant "" 0 (1))),
  (10, [], (.aload_n 0, 11, 0, [], .returned)),
  (11, [1061], (.getfield 17, 14, 10, [12, 2], .returned)),
  (14, [], (.iconst 4, 15, 0, [], .constant "" 0 (4))),
  (15, [], (.iaload, 16, 0, [], .returned)),
  (16, [], (.ishl, 17, 0, [], .returned)),
  (17, [], (.iconst 1, 18, 0, [], .constant "" 0 (1))),
  (18, [], (.isub, 19, 0, [], .returned)),
  (19, [], (.iand, 20, 0, [], .returned)),
  (20, [], (.ireturn, 21, 0, [], .returned))]
theorem ck_X10_payersOf : okT q_X10_payersOf t_X10_payersOf = true := by decide +kernel
theorem e_X10_payersOf_0 : lk t_X10_payersOf 0 = some (.aload_n 0, 1, 0, [], .returned) := rfl
theorem e_X10_payersOf_1 : lk t_X10_payersOf 1 = some (.getfield 17, 4, 10, [12, 2], .returned) := rfl
theorem e_X10_payersOf_4 : lk t_X10_payersOf 4 = some (.bipush 81, 6, 0, [], .constant "" 0 (81)) := rfl
theorem e_X10_payersOf_6 : lk t_X10_payersOf 6 = some (.iload_n 1, 7, 1, [], .returned) := rfl
theorem e_X10_payersOf_7 : lk t_X10_payersOf 7 = some (.iadd, 8, 0, [], .returned) := rfl
theorem e_X10_payersOf_8 : lk t_X10_payersOf 8 = some (.iaload, 9, 0, [], .returned) := rfl
theorem e_X10_payersOf_9 : lk t_X10_payersOf 9 = some (.iconst 1, 10, 0, [], .constant "" 0 (1)) := rfl
theorem e_X10_payersOf_10 : lk t_X10_payersOf 10 = some (.aload_n 0, 11, 0, [], .returned) := rfl
theorem e_X10_payersOf_11 : lk t_X10_payersOf 11 = some (.getfield 17, 14, 10, [12, 2], .returned) := rfl
theorem e_X10_payersOf_14 : lk t_X10_payersOf 14 = some (.iconst 4, 15, 0, [], .constant "" 0 (4)) := rfl
theorem e_X10_payersOf_15 : lk t_X10_payersOf 15 = some (.iaload, 16, 0, [], .returned) := rfl
theorem e_X10_payersOf_16 : lk t_X10_payersOf 16 = some (.ishl, 17, 0, [], .returned) := rfl
theorem e_X10_payersOf_17 : lk t_X10_payersOf 17 = some (.iconst 1, 18, 0, [], .constant "" 0 (1)) := rfl
theorem e_X10_payersOf_18 : lk t_X10_payersOf 18 = some (.isub, 19, 0, [], .returned) := rfl
theorem e_X10_payersOf_19 : lk t_X10_payersOf 19 = some (.iand, 20, 0, [], .returned) := rfl
theorem e_X10_payersOf_20 : lk t_X10_payersOf 20 = some (.ireturn, 21, 0, [], .returned) := rfl
abbrev q_X10_order : MI := (yX10_order, cX10_order, 3, (some .int))
def t_X10_order : Tab := [(0, [], (.aload_n 0, 1, 0, [], .returned)),
  (1, [], (.iconst 0, 2, 0, [], .constant "" 0 (0))),
  (2, [1049], (.putfield 65, 5, 10, [0, 0], .returned)),
  (5, [], (.aload_n 0, 6, 0, [], .returned)),
  (6, [], (.iload_n 1, 7, 1, [], .returned)),
  (7, [1360, 1363, 1362, 63, 102], (.invokevirtual 325, 10, 0, [1, 10, 0, 0], .code yX10_isOrder cX10_isOrder 2 (some .boolean))),
  (10, [], (.ifCond .ne 9, 13, 19, [], .returned)),
  (13, [], (.aload_n 0, 14, 0, [], .returned)),
  (14, [], (.iconst 1, 15, 0, [], .constant "" 0 (1))),
  (15, [1158, 1161, 1160, 35, 102], (.invokevirtual 218, 18, 0, [1, 10, 0, 0], .code yX10_refused cX10_refused 2 (some .int))),
  (18, [], (.ireturn, 19, 0, [], .returned)),
  (19, [], (.iload_n 2, 20, 2, [], .returned)),
  (20, [], (.tableswitch 226 0 11 #[64, 78, 92, 106, 120, 134, 144, 155, 166, 177, 196, 215], 84, 246, [84, 98, 112, 126, 140, 154, 164, 175, 186, 197, 216, 235], .returned)),
  (84, [], (.aload_n 0, 85, 0, [], .returned)),
  (85, [], (.aload_n 0, 86, 0, [], .returned)),
  (86, [1061], (.getfield 17, 89, 10, [12, 2], .returned)),
  (89, [], (.bipush 51, 91, 0, [], .constant "" 0 (51))),
  (91, [], (.iload_n 1, 92, 1, [], .returned)),
  (92, [], (.iadd, 93, 0, [], .returned)),
  (93, [], (.iaload, 94, 0, [], .returned)),
  (94, [1316, 1319, 1318, 57, 102], (.invokevirtual 232, 97, 0, [1, 10, 0, 0], .code yX10_good cX10_good 2 (some .int))),
  (97, [], (.ireturn, 98, 0, [], .returned)),
  (98, [], (.aload_n 0, 99, 0, [], .returned)),
  (99, [], (.aload_n 0, 100, 0, [], .returned)),
  (100, [1061], (.getfield 17, 103, 10, [12, 2], .returned)),
  (103, [], (.bipush 57, 105, 0, [], .constant "" 0 (57))),
  (105, [], (.iload_n 1, 106, 1, [], .returned)),
  (106, [], (.iadd, 107, 0, [], .returned)),
  (107, [], (.iaload, 108, 0, [], .returned)),
  (108, [1316, 1319, 1318, 57, 102], (.invokevirtual 232, 111, 0, [1, 10, 0, 0], .code yX10_good cX10_good 2 (some .int))),
  (111, [], (.ireturn, 112, 0, [], .returned)),
  (112, [], (.aload_n 0, 113, 0, [], .returned)),
  (113, [], (.aload_n 0, 114, 0, [], .returned)),
  (114, [1061], (.getfield 17, 117, 10, [12, 2], .returned)),
  (117, [], (.bipush 63, 119, 0, [], .constant "" 0 (63))),
  (119, [], (.iload_n 1, 120, 1, [], .returned)),
  (120, [], (.iadd, 121, 0, [], .returned)),
  (121, [], (.iaload, 122, 0, [], .returned)),
  (122, [1316, 1319, 1318, 57, 102], (.invokevirtual 232, 125, 0, [1, 10, 0, 0], .code yX10_good cX10_good 2 (some .int))),
  (125, [], (.ireturn, 126, 0, [], .returned)),
  (126, [], (.aload_n 0, 127, 0, [], .returned)),
  (127, [], (.aload_n 0, 128, 0, [], .returned)),
  (128, [1061], (.getfield 17, 131, 10, [12, 2], .returned)),
  (131, [], (.bipush 69, 133, 0, [], .constant "" 0 (69))),
  (133, [], (.iload_n 1, 134, 1, [], .returned)),
  (134, [], (.iadd, 135, 0, [], .returned)),
  (135, [], (.iaload, 136, 0, [], .returned)),
  (136, [1316, 1319, 1318, 57, 102], (.invokevirtual 232, 139, 0, [1, 10, 0, 0], .code yX10_good cX10_good 2 (some .int))),
  (139, [], (.ireturn, 140, 0, [], .returned)),
  (140, [], (.aload_n 0, 141, 0, [], .returned)),
  (141, [], (.aload_n 0, 142, 0, [], .returned)),
  (142, [1061], (.getfield 17, 145, 10, [12, 2], .returned)),
  (145, [], (.bipush 75, 147, 0, [], .constant "" 0 (75))),
  (147, [], (.iload_n 1, 148, 1, [], .returned)),
  (148, [], (.iadd, 149, 0, [], .returned)),
  (149, [], (.iaload, 150, 0, [], .returned)),
  (150, [1316, 1319, 1318, 57, 102], (.invokevirtual 232, 153, 0, [1, 10, 0, 0], .code yX10_good cX10_good 2 (some .int))),
  (153, [], (.ireturn, 154, 0, [], .returned)),
  (154, [], (.aload_n 0, 155, 0, [], .returned)),
  (155, [], (.aload_n 0, 156, 0, [], .returned)),
  (156, [], (.iload_n 1, 157, 1, [], .returned)),
  (157, [1364, 1367, 1366, 64, 102], (.invokevirtual 329, 160, 0, [1, 10, 0, 0], .code yX10_payersOf cX10_payersOf 2 (some .int))),
  (160, [1316, 1319, 1318, 57, 102], (.invokevirtual 232, 163, 0, [1, 10, 0, 0], .code yX10_good cX10_good 2 (some .int))),
  (163, [], (.ireturn, 164, 0, [], .returned)),
  (164, [], (.aload_n 0, 165, 0, [], .returned)),
  (165, [], (.aload_n 0, 166, 0, [], .returned)),
  (166, [1066], (.getfield 28, 169, 10, [17, 2], .returned)),
  (169, [], (.iload_n 1, 170, 1, [], .returned)),
  (170, [], (.iaload, 171, 0, [], .returned)),
  (171, [1316, 1319, 1318, 57, 102], (.invokevirtual 232, 174, 0, [1, 10, 0, 0], .code yX10_good cX10_good 2 (some .int))),
  (174, [], (.ireturn, 175, 0, [], .returned)),
  (175, [], (.aload_n 0, 176, 0, [], .returned)),
  (176, [], (.aload_n 0, 177, 0, [], .returned)),
  (177, [1067], (.getfield 31, 180, 10, [18, 2], .returned)),
  (180, [], (.iload_n 1, 181, 1, [], .returned)),
  (181, [], (.iaload, 182, 0, [], .returned)),
  (182, [1316, 1319, 1318, 57, 102], (.invokevirtual 232, 185, 0, [1, 10, 0, 0], .code yX10_good cX10_good 2 (some .int))),
  (185, [], (.ireturn, 186, 0, [], .returned)),
  (186, [], (.aload_n 0, 187, 0, [], .returned)),
  (187, [], (.aload_n 0, 188, 0, [], .returned)),
  (188, [], (.iconst 0, 189, 0, [], .constant "" 0 (0))),
  (189, [], (.iload_n 1, 190, 1, [], .returned)),
  (190, [1347, 1350, 1349, 61, 102], (.invokevirtual 236, 193, 0, [2, 10, 0, 0], .code yX10_restOf cX10_restOf 3 (some .int))),
  (193, [1316, 1319, 1318, 57, 102], (.invokevirtual 232, 196, 0, [1, 10, 0, 0], .code yX10_good cX10_good 2 (some .int))),
  (196, [], (.ireturn, 197, 0, [], .returned)),
  (197, [], (.aload_n 0, 198, 0, [], .returned)),
  (198, [], (.aload_n 0, 199, 0, [], .returned)),
  (199, [], (.iconst 0, 200, 0, [], .constant "" 0 (0))),
  (200, [], (.iload_n 1, 201, 1, [], .returned)),
  (201, [1343, 1346, 1345, 60, 102], (.invokevirtual 239, 204, 0, [2, 10, 0, 0], .code yX10_isLive cX10_isLive 3 (some .boolean))),
  (204, [], (.ifCond .eq 7, 207, 211, [], .returned)),
  (207, [], (.iconst 1, 208, 0, [], .constant "" 0 (1))),
  (208, [], (.goto 4, 211, 212, [], .returned)),
  (211, [], (.iconst 0, 212, 0, [], .constant "" 0 (0))),
  (212, [1316, 1319, 1318, 57, 102], (.invokevirtual 232, 215, 0, [1, 10, 0, 0], .code yX10_good cX10_good 2 (some .int))),
  (215, [], (.ireturn, 216, 0, [], .returned)),
  (216, [], (.aload_n 0, 217, 0, [], .returned)),
  (217, [], (.aload_n 0, 218, 0, [], .returned)),
  (218, [1072], (.getfield 46, 221, 10, [23, 2], .returned)),
  (221, [], (.iload_n 1, 222, 1, [], .returned)),
  (222, [], (.baload, 223, 0, [], .returned)),
  (223, [], (.ifCond .eq 7, 226, 230, [], .returned)),
  (226, [], (.iconst 1, 227, 0, [], .constant "" 0 (1))),
  (227, [], (.goto 4, 230, 231, [], .returned)),
  (230, [], (.iconst 0, 231, 0, [], .constant "" 0 (0))),
  (231, [1316, 1319, 1318, 57, 102], (.invokevirtual 232, 234, 0, [1, 10, 0, 0], .code yX10_good cX10_good 2 (some .int))),
  (234, [], (.ireturn, 235, 0, [], .returned)),
  (235, [], (.aload_n 0, 236, 0, [], .returned)),
  (236, [], (.aload_n 0, 237, 0, [], .returned)),
  (237, [1068], (.getfield 34, 240, 10, [19, 2], .returned)),
  (240, [], (.iload_n 1, 241, 1, [], .returned)),
  (241, [], (.iaload, 242, 0, [], .returned)),
  (242, [1316, 1319, 1318, 57, 102], (.invokevirtual 232, 245, 0, [1, 10, 0, 0], .code yX10_good cX10_good 2 (some .int))),
  (245, [], (.ireturn, 246, 0, [], .returned)),
  (246, [], (.aload_n 0, 247, 0, [], .returned)),
  (247, [], (.iconst 1, 248, 0, [], .constant "" 0 (1))),
  (248, [1158, 1161, 1160, 35, 102], (.invokevirtual 218, 251, 0, [1, 10, 0, 0], .code yX10_refused cX10_refused 2 (some .int))),
  (251, [], (.ireturn, 252, 0, [], .returned))]
theorem ck_X10_order : okT q_X10_order t_X10_order = true := by decide +kernel
theorem e_X10_order_0 : lk t_X10_order 0 = some (.aload_n 0, 1, 0, [], .returned) := rfl
theorem e_X10_order_1 : lk t_X10_order 1 = some (.iconst 0, 2, 0, [], .constant "" 0 (0)) := rfl
theorem e_X10_order_2 : lk t_X10_order 2 = some (.putfield 65, 5, 10, [0, 0], .returned) := rfl
theorem e_X10_order_5 : lk t_X10_order 5 = some (.aload_n 0, 6, 0, [], .returned) := rfl
theorem e_X10_order_6 : lk t_X10_order 6 = some (.iload_n 1, 7, 1, [], .returned) := rfl
theorem e_X10_order_7 : lk t_X10_order 7 = some (.invokevirtual 325, 10, 0, [1, 10, 0, 0], .code yX10_isOrder cX10_isOrder 2 (some .boolean)) := rfl
theorem e_X10_order_10 : lk t_X10_order 10 = some (.ifCond .ne 9, 13, 19, [], .returned) := rfl
theorem e_X10_order_13 : lk t_X10_order 13 = some (.aload_n 0, 14, 0, [], .returned) := rfl
theorem e_X10_order_14 : lk t_X10_order 14 = some (.iconst 1, 15, 0, [], .constant "" 0 (1)) := rfl
theorem e_X10_order_15 : lk t_X10_order 15 = some (.invokevirtual 218, 18, 0, [1, 10, 0, 0], .code yX10_refused cX10_refused 2 (some .int)) := rfl
theorem e_X10_order_18 : lk t_X10_order 18 = some (.ireturn, 19, 0, [], .returned) := rfl
theorem e_X10_order_19 : lk t_X10_order 19 = some (.iload_n 2, 20, 2, [], .returned) := rfl
theorem e_X10_order_20 : lk t_X10_order 20 = some (.tableswitch 226 0 11 #[64, 78, 92, 106, 120, 134, 144, 155, 166, 177, 196, 215], 84, 246, [84, 98, 112, 126, 140, 154, 164, 175, 186, 197, 216, 235], .returned) := rfl
theorem e_X10_order_84 : lk t_X10_order 84 = some (.aload_n 0, 85, 0, [], .returned) := rfl
theorem e_X10_order_85 : lk t_X10_order 85 = some (.aload_n 0, 86, 0, [], .returned) := rfl
theorem e_X10_order_86 : lk t_X10_order 86 = some (.getfield 17, 89, 10, [12, 2], .returned) := rfl
theorem e_X10_order_89 : lk t_X10_order 89 = some (.bipush 51, 91, 0, [], .constant "" 0 (51)) := rfl
theorem e_X10_order_91 : lk t_X10_order 91 = some (.iload_n 1, 92, 1, [], .returned) := rfl
theorem e_X10_order_92 : lk t_X10_order 92 = some (.iadd, 93, 0, [], .returned) := rfl
theorem e_X10_order_93 : lk t_X10_order 93 = some (.iaload, 94, 0, [], .returned) := rfl
theorem e_X10_order_94 : lk t_X10_order 94 = some (.invokevirtual 232, 97, 0, [1, 10, 0, 0], .code yX10_good cX10_good 2 (some .int)) := rfl
theorem e_X10_order_97 : lk t_X10_order 97 = some (.ireturn, 98, 0, [], .returned) := rfl
theorem e_X10_order_98 : lk t_X10_order 98 = some (.aload_n 0, 99, 0, [], .returned) := rfl
theorem e_X10_order_99 : lk t_X10_order 99 = some (.aload_n 0, 100, 0, [], .returned) := rfl
theorem e_X10_order_100 : lk t_X10_order 100 = some (.getfield 17, 103, 10, [12, 2], .returned) := rfl
theorem e_X10_order_103 : lk t_X10_order 103 = some (.bipush 57, 105, 0, [], .constant "" 0 (57)) := rfl
theorem e_X10_order_105 : lk t_X10_order 105 = some (.iload_n 1, 106, 1, [], .returned) := rfl
theorem e_X10_order_106 : lk t_X10_order 106 = some (.iadd, 107, 0, [], .returned) := rfl
theorem e_X10_order_107 : lk t_X10_order 107 = some (.iaload, 108, 0, [], .returned) := rfl
theorem e_X10_order_108 : lk t_X10_order 108 = some (.invokevirtual 232, 111, 0, [1, 10, 0, 0], .code yX10_good cX10_good 2 (some .int)) := rfl
theorem e_X10_order_111 : lk t_X10_order 111 = some (.ireturn, 112, 0, [], .returned) := rfl
theorem e_X10_order_112 : lk t_X10_order 112 = some (.aload_n 0, 113, 0, [], .returned) := rfl
theorem e_X10_order_113 : lk t_X10_order 113 = some (.aload_n 0, 114, 0, [], .returned) := rfl
theorem e_X10_order_114 : lk t_X10_order 114 = some (.getfield 17, 117, 10, [12, 2], .returned) := rfl
theorem e_X10_order_117 : lk t_X10_order 117 = some (.bipush 63, 119, 0, [], .constant "" 0 (63)) := rfl
theorem e_X10_order_119 : lk t_X10_order 119 = some (.iload_n 1, 120, 1, [], .returned) := rfl
theorem e_X10_order_120 : lk t_X10_order 120 = some (.iadd, 121, 0, [], .returned) := rfl
theorem e_X10_order_121 : lk t_X10_order 121 = some (.iaload, 122, 0, [], .returned) := rfl
theorem e_X10_order_122 : lk t_X10_order 122 = some (.invokevirtual 232, 125, 0, [1, 10, 0, 0], .code yX10_good cX10_good 2 (some .int)) := rfl
theorem e_X10_order_125 : lk t_X10_order 125 = some (.ireturn, 126, 0, [], .returned) := rfl
theorem e_X10_order_126 : lk t_X10_order 126 = some (.aload_n 0, 127, 0, [], .returned) := rfl
theorem e_X10_order_127 : lk t_X10_order 127 = some (.aload_n 0, 128, 0, [], .returned) := rfl
theorem e_X10_order_128 : lk t_X10_order 128 = some (.getfield 17, 131, 10, [12, 2], .returned) := rfl
theorem e_X10_order_131 : lk t_X10_order 131 = some (.bipush 69, 133, 0, [], .constant "" 0 (69)) := rfl
theorem e_X10_order_133 : lk t_X10_order 133 = some (.iload_n 1, 134, 1, [], .returned) := rfl
theorem e_X10_order_134 : lk t_X10_order 134 = some (.iadd, 135, 0, [], .returned) := rfl
theorem e_X10_order_135 : lk t_X10_order 135 = some (.iaload, 136, 0, [], .returned) := rfl
theorem e_X10_order_136 : lk t_X10_order 136 = some (.invokevirtual 232, 139, 0, [1, 10, 0, 0], .code yX10_good cX10_good 2 (some .int)) := rfl
theorem e_X10_order_139 : lk t_X10_order 139 = some (.ireturn, 140, 0, [], .returned) := rfl
theorem e_X10_order_140 : lk t_X10_order 140 = some (.aload_n 0, 141, 0, [], .returned) := rfl
theorem e_X10_order_141 : lk t_X10_order 141 = some (.aload_n 0, 142, 0, [], .returned) := rfl
theorem e_X10_order_142 : lk t_X10_order 142 = some (.getfield 17, 145, 10, [12, 2], .returned) := rfl
theorem e_X10_order_145 : lk t_X10_order 145 = some (.bipush 75, 147, 0, [], .constant "" 0 (75)) := rfl
theorem e_X10_order_147 : lk t_X10_order 147 = some (.iload_n 1, 148, 1, [], .returned) := rfl
theorem e_X10_order_148 : lk t_X10_order 148 = some (.iadd, 149, 0, [], .returned) := rfl
theorem e_X10_order_149 : lk t_X10_order 149 = some (.iaload, 150, 0, [], .returned) := rfl
theorem e_X10_order_150 : lk t_X10_order 150 = some (.invokevirtual 232, 153, 0, [1, 10, 0, 0], .code yX10_good cX10_good 2 (some .int)) := rfl
theorem e_X10_order_153 : lk t_X10_order 153 = some (.ireturn, 154, 0, [], .returned) := rfl
theorem e_X10_order_154 : lk t_X10_order 154 = some (.aload_n 0, 155, 0, [], .returned) := rfl
theorem e_X10_order_155 : lk t_X10_order 155 = some (.aload_n 0, 156, 0, [], .returned) := rfl
theorem e_X10_order_156 : lk t_X10_order 156 = some (.iload_n 1, 157, 1, [], .returned) := rfl
theorem e_X10_order_157 : lk t_X10_order 157 = some (.invokevirtual 329, 160, 0, [1, 10, 0, 0], .code yX10_payersOf cX10_payersOf 2 (some .int)) := rfl
theorem e_X10_order_160 : lk t_X10_order 160 = some (.invokevirtual 232, 163, 0, [1, 10, 0, 0], .code yX10_good cX10_good 2 (some .int)) := rfl
theorem e_X10_order_163 : lk t_X10_order 163 = some (.ireturn, 164, 0, [], .returned) := rfl
theorem e_X10_order_164 : lk t_X10_order 164 = some (.aload_n 0, 165, 0, [], .returned) := rfl
theorem e_X10_order_165 : lk t_X10_order 165 = some (.aload_n 0, 166, 0, [], .returned) := rfl
theorem e_X10_order_166 : lk t_X10_order 166 = some (.getfield 28, 169, 10, [17, 2], .returned) := rfl
theorem e_X10_order_169 : lk t_X10_order 169 = some (.iload_n 1, 170, 1, [], .returned) := rfl
theorem e_X10_order_170 : lk t_X10_order 170 = some (.iaload, 171, 0, [], .returned) := rfl
theorem e_X10_order_171 : lk t_X10_order 171 = some (.invokevirtual 232, 174, 0, [1, 10, 0, 0], .code yX10_good cX10_good 2 (some .int)) := rfl
theorem e_X10_order_174 : lk t_X10_order 174 = some (.ireturn, 175, 0, [], .returned) := rfl
theorem e_X10_order_175 : lk t_X10_order 175 = some (.aload_n 0, 176, 0, [], .returned) := rfl
theorem e_X10_order_176 : lk t_X10_order 176 = some (.aload_n 0, 177, 0, [], .returned) := rfl
theorem e_X10_order_177 : lk t_X10_order 177 = some (.getfield 31, 180, 10, [18, 2], .returned) := rfl
theorem e_X10_order_180 : lk t_X10_order 180 = some (.iload_n 1, 181, 1, [], .returned) := rfl
theorem e_X10_order_181 : lk t_X10_order 181 = some (.iaload, 182, 0, [], .returned) := rfl
theorem e_X10_order_182 : lk t_X10_order 182 = some (.invokevirtual 232, 185, 0, [1, 10, 0, 0], .code yX10_good cX10_good 2 (some .int)) := rfl
theorem e_X10_order_185 : lk t_X10_order 185 = some (.ireturn, 186, 0, [], .returned) := rfl
theorem e_X10_order_186 : lk t_X10_order 186 = some (.aload_n 0, 187, 0, [], .returned) := rfl
theorem e_X10_order_187 : lk t_X10_order 187 = some (.aload_n 0, 188, 0, [], .returned) := rfl
theorem e_X10_order_188 : lk t_X10_order 188 = some (.iconst 0, 189, 0, [], .constant "" 0 (0)) := rfl
theorem e_X10_order_189 : lk t_X10_order 189 = some (.iload_n 1, 190, 1, [], .returned) := rfl
theorem e_X10_order_190 : lk t_X10_order 190 = some (.invokevirtual 236, 193, 0, [2, 10, 0, 0], .code yX10_restOf cX10_restOf 3 (some .int)) := rfl
theorem e_X10_order_193 : lk t_X10_order 193 = some (.invokevirtual 232, 196, 0, [1, 10, 0, 0], .code yX10_good cX10_good 2 (some .int)) := rfl
theorem e_X10_order_196 : lk t_X10_order 196 = some (.ireturn, 197, 0, [], .returned) := rfl
theorem e_X10_order_197 : lk t_X10_order 197 = some (.aload_n 0, 198, 0, [], .returned) := rfl
theorem e_X10_order_198 : lk t_X10_order 198 = some (.aload_n 0, 199, 0, [], .returned) := rfl
theorem e_X10_order_199 : lk t_X10_order 199 = some (.iconst 0, 200, 0, [], .constant "" 0 (0)) := rfl
theorem e_X10_order_200 : lk t_X10_order 200 = some (.iload_n 1, 201, 1, [], .returned) := rfl
theorem e_X10_order_201 : lk t_X10_order 201 = some (.invokevirtual 239, 204, 0, [2, 10, 0, 0], .code yX10_isLive cX10_isLive 3 (some .boolean)) := rfl
theorem e_X10_order_204 : lk t_X10_order 204 = some (.ifCond .eq 7, 207, 211, [], .returned) := rfl
theorem e_X10_order_207 : lk t_X10_order 207 = some (.iconst 1, 208, 0, [], .constant "" 0 (1)) := rfl
theorem e_X10_order_208 : lk t_X10_order 208 = some (.goto 4, 211, 212, [], .returned) := rfl
theorem e_X10_order_211 : lk t_X10_order 211 = some (.iconst 0, 212, 0, [], .constant "" 0 (0)) := rfl
theorem e_X10_order_212 : lk t_X10_order 212 = some (.invokevirtual 232, 215, 0, [1, 10, 0, 0], .code yX10_good cX10_good 2 (some .int)) := rfl
theorem e_X10_order_215 : lk t_X10_order 215 = some (.ireturn, 216, 0, [], .returned) := rfl
theorem e_X10_order_216 : lk t_X10_order 216 = some (.aload_n 0, 217, 0, [], .returned) := rfl
theorem e_X10_order_217 : lk t_X10_order 217 = some (.aload_n 0, 218, 0, [], .returned) := rfl
theorem e_X10_order_218 : lk t_X10_order 218 = some (.getfield 46, 221, 10, [23, 2], .returned) := rfl
theorem e_X10_order_221 : lk t_X10_order 221 = some (.iload_n 1, 222, 1, [], .returned) := rfl
theorem e_X10_order_222 : lk t_X10_order 222 = some (.baload, 223, 0, [], .returned) := rfl
theorem e_X10_order_223 : lk t_X10_order 223 = some (.ifCond .eq 7, 226, 230, [], .returned) := rfl
theorem e_X10_order_226 : lk t_X10_order 226 = some (.iconst 1, 227, 0, [], .constant "" 0 (1)) := rfl
theorem e_X10_order_227 : lk t_X10_order 227 = some (.goto 4, 230, 231, [], .returned) := rfl
theorem e_X10_order_230 : lk t_X10_order 230 = some (.iconst 0, 231, 0, [], .constant "" 0 (0)) := rfl
theorem e_X10_order_231 : lk t_X10_order 231 = some (.invokevirtual 232, 234, 0, [1, 10, 0, 0], .code yX10_good cX10_good 2 (some .int)) := rfl
theorem e_X10_order_234 : lk t_X10_order 234 = some (.ireturn, 235, 0, [], .returned) := rfl
theorem e_X10_order_235 : lk t_X10_order 235 = some (.aload_n 0, 236, 0, [], .returned) := rfl
theorem e_X10_order_236 : lk t_X10_order 236 = some (.aload_n 0, 237, 0, [], .returned) := rfl
theorem e_X10_order_237 : lk t_X10_order 237 = some (.getfield 34, 240, 10, [19, 2], .returned) := rfl
theorem e_X10_order_240 : lk t_X10_order 240 = some (.iload_n 1, 241, 1, [], .returned) := rfl
theorem e_X10_order_241 : lk t_X10_order 241 = some (.iaload, 242, 0, [], .returned) := rfl
theorem e_X10_order_242 : lk t_X10_order 242 = some (.invokevirtual 232, 245, 0, [1, 10, 0, 0], .code yX10_good cX10_good 2 (some .int)) := rfl
theorem e_X10_order_245 : lk t_X10_order 245 = some (.ireturn, 246, 0, [], .returned) := rfl
theorem e_X10_order_246 : lk t_X10_order 246 = some (.aload_n 0, 247, 0, [], .returned) := rfl
theorem e_X10_order_247 : lk t_X10_order 247 = some (.iconst 1, 248, 0, [], .constant "" 0 (1)) := rfl
theorem e_X10_order_248 : lk t_X10_order 248 = some (.invokevirtual 218, 251, 0, [1, 10, 0, 0], .code yX10_refused cX10_refused 2 (some .int)) := rfl
theorem e_X10_order_251 : lk t_X10_order 251 = some (.ireturn, 252, 0, [], .returned) := rfl
abbrev q_X10_payer : MI := (yX10_payer, cX10_payer, 3, (some .int))
def t_X10_payer : Tab := [(0, [], (.aload_n 0, 1, 0, [], .returned)),
  (1, [], (.iconst 0, 2, 0, [], .constant "" 0 (0))),
  (2, [1049], (.putfield 65, 5, 10, [0, 0], .returned)),
  (5, [], (.aload_n 0, 6, 0, [], .returned)),
  (6, [], (.iload_n 1, 7, 1, [], .returned)),
  (7, [1372, 1375, 1374, 65, 102], (.invokevirtual 332, 10, 0, [1, 10, 0, 0], .code yX10_isPayer cX10_isPayer 2 (some .boolean))),
  (10, [], (.ifCond .ne 9, 13, 19, [], .returned)),
  (13, [], (.aload_n 0, 14, 0, [], .returned)),
  (14, [], (.iconst 1, 15, 0, [], .constant "" 0 (1))),
  (15, [1158, 1161, 1160, 35, 102], (.invokevirtual 218, 18, 0, [1, 10, 0, 0], .code yX10_refused cX10_refused 2 (some .int))),
  (18, [], (.ireturn, 19, 0, [], .returned)),
  (19, [], (.iload_n 2, 20, 2, [], .returned)),
  (20, [], (.tableswitch 93 0 4 #[36, 50, 61, 72, 83], 56, 113, [56, 70, 81, 92, 103], .returned)),
  (56, [], (.aload_n 0, 57, 0, [], .returned)),
  (57, [], (.aload_n 0, 58, 0, [], .returned)),
  (58, [1061], (.getfield 17, 61, 10, [12, 2], .returned)),
  (61, [], (.bipush 48, 63, 0, [], .constant "" 0 (48))),
  (63, [], (.iload_n 1, 64, 1, [], .returned)),
  (64, [], (.iadd, 65, 0, [], .returned)),
  (65, [], (.iaload, 66, 0, [], .returned)),
  (66, [1316, 1319, 1318, 57, 102], (.invokevirtual 232, 69, 0, [1, 10, 0, 0], .code yX10_good cX10_good 2 (some .int))),
  (69, [], (.ireturn, 70, 0, [], .returned)),
  (70, [], (.aload_n 0, 71, 0, [], .returned)),
  (71, [], (.aload_n 0, 72, 0, [], .returned)),
  (72, [1069], (.getfield 37, 75, 10, [20, 2], .returned)),
  (75, [], (.iload_n 1, 76, 1, [], .returned)),
  (76, [], (.iaload, 77, 0, [], .returned)),
  (77, [1316, 1319, 1318, 57, 102], (.invokevirtual 232, 80, 0, [1, 10, 0, 0], .code yX10_good cX10_good 2 (some .int))),
  (80, [], (.ireturn, 81, 0, [], .returned)),
  (81, [], (.aload_n 0, 82, 0, [], .returned)),
  (82, [], (.aload_n 0, 83, 0, [], .returned)),
  (83, [1070], (.getfield 40, 86, 10, [21, 2], .returned)),
  (86, [], (.iload_n 1, 87, 1, [], .returned)),
  (87, [], (.iaload, 88, 0, [], .returned)),
  (88, [1316, 1319, 1318, 57, 102], (.invokevirtual 232, 91, 0, [1, 10, 0, 0], .code yX10_good cX10_good 2 (some .int))),
  (91, [], (.ireturn, 92, 0, [], .returned)),
  (92, [], (.aload_n 0, 93, 0, [], .returned)),
  (93, [], (.aload_n 0, 94, 0, [], .returned)),
  (94, [1071], (.getfield 43, 97, 10, [22, 2], .returned)),
  (97, [], (.iload_n 1, 98, 1, [], .returned)),
  (98, [], (.iaload, 99, 0, [], .returned)),
  (99, [1316, 1319, 1318, 57, 102], (.invokevirtual 232, 102, 0, [1, 10, 0, 0], .code yX10_good cX10_good 2 (some .int))),
  (102, [], (.ireturn, 103, 0, [], .returned)),
  (103, [], (.aload_n 0, 104, 0, [], .returned)),
  (104, [], (.aload_n 0, 105, 0, [], .returned)),
  (105, [], (.iload_n 1, 106, 1, [], .returned)),
  (106, [1339, 1342, 1341, 59, 102], (.invokevirtual 322, 109, 0, [1, 10, 0, 0], .code yX10_liveOnes cX10_liveOnes 4 (some .int))),
  (109, [1316, 1319, 1318, 57, 102], (.invokevirtual 232, 112, 0, [1, 10, 0, 0], .code yX10_good cX10_good 2 (some .int))),
  (112, [], (.ireturn, 113, 0, [], .returned)),
  (113, [], (.aload_n 0, 114, 0, [], .returned)),
  (114, [], (.iconst 1, 115, 0, [], .constant "" 0 (1))),
  (115, [1158, 1161, 1160, 35, 102], (.invokevirtual 218, 118, 0, [1, 10, 0, 0], .code yX10_refused cX10_refused 2 (some .int))),
  (118, [], (.ireturn, 119, 0, [], .returned))]
theorem ck_X10_payer : okT q_X10_payer t_X10_payer = true := by decide +kernel
theorem e_X10_payer_0 : lk t_X10_payer 0 = some (.aload_n 0, 1, 0, [], .returned) := rfl
theorem e_X10_payer_1 : lk t_X10_payer 1 = some (.iconst 0, 2, 0, [], .constant "" 0 (0)) := rfl
theorem e_X10_payer_2 : lk t_X10_payer 2 = some (.putfield 65, 5, 10, [0, 0], .returned) := rfl
theorem e_X10_payer_5 : lk t_X10_payer 5 = some (.aload_n 0, 6, 0, [], .returned) := rfl
theorem e_X10_payer_6 : lk t_X10_payer 6 = some (.iload_n 1, 7, 1, [], .returned) := rfl
theorem e_X10_payer_7 : lk t_X10_payer 7 = some (.invokevirtual 332, 10, 0, [1, 10, 0, 0], .code yX10_isPayer cX10_isPayer 2 (some .boolean)) := rfl
theorem e_X10_payer_10 : lk t_X10_payer 10 = some (.ifCond .ne 9, 13, 19, [], .returned) := rfl
theorem e_X10_payer_13 : lk t_X10_payer 13 = some (.aload_n 0, 14, 0, [], .returned) := rfl
theorem e_X10_payer_14 : lk t_X10_payer 14 = some (.iconst 1, 15, 0, [], .constant "" 0 (1)) := rfl
theorem e_X10_payer_15 : lk t_X10_payer 15 = some (.invokevirtual 218, 18, 0, [1, 10, 0, 0], .code yX10_refused cX10_refused 2 (some .int)) := rfl
theorem e_X10_payer_18 : lk t_X10_payer 18 = some (.ireturn, 19, 0, [], .returned) := rfl
theorem e_X10_payer_19 : lk t_X10_payer 19 = some (.iload_n 2, 20, 2, [], .returned) := rfl
theorem e_X10_payer_20 : lk t_X10_payer 20 = some (.tableswitch 93 0 4 #[36, 50, 61, 72, 83], 56, 113, [56, 70, 81, 92, 103], .returned) := rfl
theorem e_X10_payer_56 : lk t_X10_payer 56 = some (.aload_n 0, 57, 0, [], .returned) := rfl
theorem e_X10_payer_57 : lk t_X10_payer 57 = some (.aload_n 0, 58, 0, [], .returned) := rfl
theorem e_X10_payer_58 : lk t_X10_payer 58 = some (.getfield 17, 61, 10, [12, 2], .returned) := rfl
theorem e_X10_payer_61 : lk t_X10_payer 61 = some (.bipush 48, 63, 0, [], .constant "" 0 (48)) := rfl
theorem e_X10_payer_63 : lk t_X10_payer 63 = some (.iload_n 1, 64, 1, [], .returned) := rfl
theorem e_X10_payer_64 : lk t_X10_payer 64 = some (.iadd, 65, 0, [], .returned) := rfl
theorem e_X10_payer_65 : lk t_X10_payer 65 = some (.iaload, 66, 0, [], .returned) := rfl
theorem e_X10_payer_66 : lk t_X10_payer 66 = some (.invokevirtual 232, 69, 0, [1, 10, 0, 0], .code yX10_good cX10_good 2 (some .int)) := rfl
theorem e_X10_payer_69 : lk t_X10_payer 69 = some (.ireturn, 70, 0, [], .returned) := rfl
theorem e_X10_payer_70 : lk t_X10_payer 70 = some (.aload_n 0, 71, 0, [], .returned) := rfl
theorem e_X10_payer_71 : lk t_X10_payer 71 = some (.aload_n 0, 72, 0, [], .returned) := rfl
theorem e_X10_payer_72 : lk t_X10_payer 72 = some (.getfield 37, 75, 10, [20, 2], .returned) := rfl
theorem e_X10_payer_75 : lk t_X10_payer 75 = some (.iload_n 1, 76, 1, [], .returned) := rfl
theorem e_X10_payer_76 : lk t_X10_payer 76 = some (.iaload, 77, 0, [], .returned) := rfl
theorem e_X10_payer_77 : lk t_X10_payer 77 = some (.invokevirtual 232, 80, 0, [1, 10, 0, 0], .code yX10_good cX10_good 2 (some .int)) := rfl
theorem e_X10_payer_80 : lk t_X10_payer 80 = some (.ireturn, 81, 0, [], .returned) := rfl
theorem e_X10_payer_81 : lk t_X10_payer 81 = some (.aload_n 0, 82, 0, [], .returned) := rfl
theorem e_X10_payer_82 : lk t_X10_payer 82 = some (.aload_n 0, 83, 0, [], .returned) := rfl
theorem e_X10_payer_83 : lk t_X10_payer 83 = some (.getfield 40, 86, 10, [21, 2], .returned) := rfl
theorem e_X10_payer_86 : lk t_X10_payer 86 = some (.iload_n 1, 87, 1, [], .returned) := rfl
theorem e_X10_payer_87 : lk t_X10_payer 87 = some (.iaload, 88, 0, [], .returned) := rfl
theorem e_X10_payer_88 : lk t_X10_payer 88 = some (.invokevirtual 232, 91, 0, [1, 10, 0, 0], .code yX10_good cX10_good 2 (some .int)) := rfl
theorem e_X10_payer_91 : lk t_X10_payer 91 = some (.ireturn, 92, 0, [], .returned) := rfl
theorem e_X10_payer_92 : lk t_X10_payer 92 = some (.aload_n 0, 93, 0, [], .returned) := rfl
theorem e_X10_payer_93 : lk t_X10_payer 93 = some (.aload_n 0, 94, 0, [], .returned) := rfl
theorem e_X10_payer_94 : lk t_X10_payer 94 = some (.getfield 43, 97, 10, [22, 2], .returned) := rfl
theorem e_X10_payer_97 : lk t_X10_payer 97 = some (.iload_n 1, 98, 1, [], .returned) := rfl
theorem e_X10_payer_98 : lk t_X10_payer 98 = some (.iaload, 99, 0, [], .returned) := rfl
theorem e_X10_payer_99 : lk t_X10_payer 99 = some (.invokevirtual 232, 102, 0, [1, 10, 0, 0], .code yX10_good cX10_good 2 (some .int)) := rfl
theorem e_X10_payer_102 : lk t_X10_payer 102 = some (.ireturn, 103, 0, [], .returned) := rfl
theorem e_X10_payer_103 : lk t_X10_payer 103 = some (.aload_n 0, 104, 0, [], .returned) := rfl
theorem e_X10_payer_104 : lk t_X10_payer 104 = some (.aload_n 0, 105, 0, [], .returned) := rfl
theorem e_X10_payer_105 : lk t_X10_payer 105 = some (.iload_n 1, 106, 1, [], .returned) := rfl
theorem e_X10_payer_106 : lk t_X10_payer 106 = some (.invokevirtual 322, 109, 0, [1, 10, 0, 0], .code yX10_liveOnes cX10_liveOnes 4 (some .int)) := rfl
theorem e_X10_payer_109 : lk t_X10_payer 109 = some (.invokevirtual 232, 112, 0, [1, 10, 0, 0], .code yX10_good cX10_good 2 (some .int)) := rfl
theorem e_X10_payer_112 : lk t_X10_payer 112 = some (.ireturn, 113, 0, [], .returned) := rfl
theorem e_X10_payer_113 : lk t_X10_payer 113 = some (.aload_n 0, 114, 0, [], .returned) := rfl
theorem e_X10_payer_114 : lk t_X10_payer 114 = some (.iconst 1, 115, 0, [], .constant "" 0 (1)) := rfl
theorem e_X10_payer_115 : lk t_X10_payer 115 = some (.invokevirtual 218, 118, 0, [1, 10, 0, 0], .code yX10_refused cX10_refused 2 (some .int)) := rfl
theorem e_X10_payer_118 : lk t_X10_payer 118 = some (.ireturn, 119, 0, [], .returned) := rfl
abbrev q_X10_isNet : MI := (yX10_isNet, cX10_isNet, 1, (some .boolean))
def t_X10_isNet : Tab := [(0, [], (.iload_n 0, 1, 0, [], .returned)),
  (1, [], (.iconst 0, 2, 0, [], .constant "" 0 (0))),
  (2, [], (.sipush 9999, 5, 0, [], .constant "" 0 (9999))),
  (5, [1174, 1176, 1175, 102], (.invokestatic 90, 8, 0, [3, 0, 0], .code yX10_in cX10_in 3 (some .boolean))),
  (8, [], (.ireturn, 9, 1, [], .returned))]
theorem ck_X10_isNet : okT q_X10_isNet t_X10_isNet = true := by decide +kernel
theorem e_X10_isNet_0 : lk t_X10_isNet 0 = some (.iload_n 0, 1, 0, [], .returned) := rfl
theorem e_X10_isNet_1 : lk t_X10_isNet 1 = some (.iconst 0, 2, 0, [], .constant "" 0 (0)) := rfl
theorem e_X10_isNet_2 : lk t_X10_isNet 2 = some (.sipush 9999, 5, 0, [], .constant "" 0 (9999)) := rfl
theorem e_X10_isNet_5 : lk t_X10_isNet 5 = some (.invokestatic 90, 8, 0, [3, 0, 0], .code yX10_in cX10_in 3 (some .boolean)) := rfl
theorem e_X10_isNet_8 : lk t_X10_isNet 8 = some (.ireturn, 9, 1, [], .returned) := rfl
abbrev q_X10_table : MI := (yX10_table, cX10_table, 4, (some .int))
def t_X10_table : Tab := [(0, [], (.aload_n 0, 1, 0, [], .returned)),
  (1, [], (.iconst 0, 2, 0, [], .constant "" 0 (0))),
  (2, [1049], (.putfield 65, 5, 10, [0, 0], .returned)),
  (5, [], (.aload_n 0, 6, 0, [], .returned)),
  (6, [1064], (.getfield 224, 9, 10, [15, 0], .returned)),
  (9, [], (.ifCond .eq 19, 12, 28, [], .returned)),
  (12, [], (.iload_n 1, 13, 1, [], .returned)),
  (13, [], (.iconst 0, 14, 0, [], .constant "" 0 (0))),
  (14, [], (.aload_n 0, 15, 0, [], .returned)),
  (15, [1061], (.getfield 17, 18, 10, [12, 2], .returned)),
  (18, [], (.iconst 3, 19, 0, [], .constant "" 0 (3))),
  (19, [], (.iaload, 20, 0, [], .returned)),
  (20, [], (.iconst 1, 21, 0, [], .constant "" 0 (1))),
  (21, [], (.isub, 22, 0, [], .returned)),
  (22, [1174, 1176, 1175, 102], (.invokestatic 90, 25, 0, [3, 0, 0], .code yX10_in cX10_in 3 (some .boolean))),
  (25, [], (.ifCond .ne 9, 28, 34, [], .returned)),
  (28, [], (.aload_n 0, 29, 0, [], .returned)),
  (29, [], (.iconst 1, 30, 0, [], .constant "" 0 (1))),
  (30, [1158, 1161, 1160, 35, 102], (.invokevirtual 218, 33, 0, [1, 10, 0, 0], .code yX10_refused cX10_refused 2 (some .int))),
  (33, [], (.ireturn, 34, 0, [], .returned)),
  (34, [], (.iload_n 2, 35, 2, [], .returned)),
  (35, [1380, 1382, 1381, 102], (.invokestatic 335, 38, 0, [1, 0, 0], .code yX10_isNet cX10_isNet 1 (some .boolean))),
  (38, [], (.ifCond .eq 26, 41, 64, [], .returned)),
  (41, [], (.iload_n 3, 42, 3, [], .returned)),
  (42, [], (.iconst 1, 43, 0, [], .constant "" 0 (1))),
  (43, [], (.iconst 4, 44, 0, [], .constant "" 0 (4))),
  (44, [1174, 1176, 1175, 102], (.invokestatic 90, 47, 0, [3, 0, 0], .code yX10_in cX10_in 3 (some .boolean))),
  (47, [], (.ifCond .eq 17, 50, 64, [], .returned)),
  (50, [], (.aload_n 0, 51, 0, [], .returned)),
  (51, [], (.aload_n 0, 52, 0, [], .returned)),
  (52, [], (.iload_n 1, 53, 1, [], .returned)),
  (53, [], (.iload_n 2, 54, 2, [], .returned)),
  (54, [], (.iload_n 3, 55, 3, [], .returned)),
  (55, [1383, 1386, 1385, 66, 102], (.invokevirtual 259, 58, 0, [3, 10, 0, 0], .code yX10_tableOf cX10_tableOf 9 (some .int))),
  (58, [1316, 1319, 1318, 57, 102], (.invokevirtual 232, 61, 0, [1, 10, 0, 0], .code yX10_good cX10_good 2 (some .int))),
  (61, [], (.goto 8, 64, 69, [], .returned)),
  (64, [], (.aload_n 0, 65, 0, [], .returned)),
  (65, [], (.iconst 2, 66, 0, [], .constant "" 0 (2))),
  (66, [1158, 1161, 1160, 35, 102], (.invokevirtual 218, 69, 0, [1, 10, 0, 0], .code yX10_refused cX10_refused 2 (some .int))),
  (69, [], (.ireturn, 70, 0, [], .returned))]
theorem ck_X10_table : okT q_X10_table t_X10_table = true := by decide +kernel
theorem e_X10_table_0 : lk t_X10_table 0 = some (.aload_n 0, 1, 0, [], .returned) := rfl
theorem e_X10_table_1 : lk t_X10_table 1 = some (.iconst 0, 2, 0, [], .constant "" 0 (0)) := rfl
theorem e_X10_table_2 : lk t_X10_table 2 = some (.putfield 65, 5, 10, [0, 0], .returned) := rfl
theorem e_X10_table_5 : lk t_X10_table 5 = some (.aload_n 0, 6, 0, [], .returned) := rfl
theorem e_X10_table_6 : lk t_X10_table 6 = some (.getfield 224, 9, 10, [15, 0], .returned) := rfl
theorem e_X10_table_9 : lk t_X10_table 9 = some (.ifCond .eq 19, 12, 28, [], .returned) := rfl
theorem e_X10_table_12 : lk t_X10_table 12 = some (.iload_n 1, 13, 1, [], .returned) := rfl
theorem e_X10_table_13 : lk t_X10_table 13 = some (.iconst 0, 14, 0, [], .constant "" 0 (0)) := rfl
theorem e_X10_table_14 : lk t_X10_table 14 = some (.aload_n 0, 15, 0, [], .returned) := rfl
theorem e_X10_table_15 : lk t_X10_table 15 = some (.getfield 17, 18, 10, [12, 2], .returned) := rfl
theorem e_X10_table_18 : lk t_X10_table 18 = some (.iconst 3, 19, 0, [], .constant "" 0 (3)) := rfl
theorem e_X10_table_19 : lk t_X10_table 19 = some (.iaload, 20, 0, [], .returned) := rfl
theorem e_X10_table_20 : lk t_X10_table 20 = some (.iconst 1, 21, 0, [], .constant "" 0 (1)) := rfl
theorem e_X10_table_21 : lk t_X10_table 21 = some (.isub, 22, 0, [], .returned) := rfl
theorem e_X10_table_22 : lk t_X10_table 22 = some (.invokestatic 90, 25, 0, [3, 0, 0], .code yX10_in cX10_in 3 (some .boolean)) := rfl
theorem e_X10_table_25 : lk t_X10_table 25 = some (.ifCond .ne 9, 28, 34, [], .returned) := rfl
theorem e_X10_table_28 : lk t_X10_table 28 = some (.aload_n 0, 29, 0, [], .returned) := rfl
theorem e_X10_table_29 : lk t_X10_table 29 = some (.iconst 1, 30, 0, [], .constant "" 0 (1)) := rfl
theorem e_X10_table_30 : lk t_X10_table 30 = some (.invokevirtual 218, 33, 0, [1, 10, 0, 0], .code yX10_refused cX10_refused 2 (some .int)) := rfl
theorem e_X10_table_33 : lk t_X10_table 33 = some (.ireturn, 34, 0, [], .returned) := rfl
theorem e_X10_table_34 : lk t_X10_table 34 = some (.iload_n 2, 35, 2, [], .returned) := rfl
theorem e_X10_table_35 : lk t_X10_table 35 = some (.invokestatic 335, 38, 0, [1, 0, 0], .code yX10_isNet cX10_isNet 1 (some .boolean)) := rfl
theorem e_X10_table_38 : lk t_X10_table 38 = some (.ifCond .eq 26, 41, 64, [], .returned) := rfl
theorem e_X10_table_41 : lk t_X10_table 41 = some (.iload_n 3, 42, 3, [], .returned) := rfl
theorem e_X10_table_42 : lk t_X10_table 42 = some (.iconst 1, 43, 0, [], .constant "" 0 (1)) := rfl
theorem e_X10_table_43 : lk t_X10_table 43 = some (.iconst 4, 44, 0, [], .constant "" 0 (4)) := rfl
theorem e_X10_table_44 : lk t_X10_table 44 = some (.invokestatic 90, 47, 0, [3, 0, 0], .code yX10_in cX10_in 3 (some .boolean)) := rfl
theorem e_X10_table_47 : lk t_X10_table 47 = some (.ifCond .eq 17, 50, 64, [], .returned) := rfl
theorem e_X10_table_50 : lk t_X10_table 50 = some (.aload_n 0, 51, 0, [], .returned) := rfl
theorem e_X10_table_51 : lk t_X10_table 51 = some (.aload_n 0, 52, 0, [], .returned) := rfl
theorem e_X10_table_52 : lk t_X10_table 52 = some (.iload_n 1, 53, 1, [], .returned) := rfl
theorem e_X10_table_53 : lk t_X10_table 53 = some (.iload_n 2, 54, 2, [], .returned) := rfl
theorem e_X10_table_54 : lk t_X10_table 54 = some (.iload_n 3, 55, 3, [], .returned) := rfl
theorem e_X10_table_55 : lk t_X10_table 55 = some (.invokevirtual 259, 58, 0, [3, 10, 0, 0], .code yX10_tableOf cX10_tableOf 9 (some .int)) := rfl
theorem e_X10_table_58 : lk t_X10_table 58 = some (.invokevirtual 232, 61, 0, [1, 10, 0, 0], .code yX10_good cX10_good 2 (some .int)) := rfl
theorem e_X10_table_61 : lk t_X10_table 61 = some (.goto 8, 64, 69, [], .returned) := rfl
theorem e_X10_table_64 : lk t_X10_table 64 = some (.aload_n 0, 65, 0, [], .returned) := rfl
theorem e_X10_table_65 : lk t_X10_table 65 = some (.iconst 2, 66, 0, [], .constant "" 0 (2)) := rfl
theorem e_X10_table_66 : lk t_X10_table 66 = some (.invokevirtual 218, 69, 0, [1, 10, 0, 0], .code yX10_refused cX10_refused 2 (some .int)) := rfl
theorem e_X10_table_69 : lk t_X10_table 69 = some (.ireturn, 70, 0, [], .returned) := rfl
abbrev q_X10_row : MI := (yX10_row, cX10_row, 4, (some .int))
def t_X10_row : Tab := [(0, [], (.aload_n 0, 1, 0, [], .returned)),
  (1, [], (.iconst 0, 2, 0, [], .constant "" 0 (0))),
  (2, [1049], (.putfield 65, 5, 10, [0, 0], .returned)),
  (5, [], (.aload_n 0, 6, 0, [], .returned)),
  (6, [1064], (.getfield 224, 9, 10, [15, 0], .returned)),
  (9, [], (.ifCond .eq 47, 12, 56, [], .returned)),
  (12, [], (.iload_n 1, 13, 1, [], .returned)),
  (13, [], (.iconst 0, 14, 0, [], .constant "" 0 (0))),
  (14, [], (.aload_n 0, 15, 0, [], .returned)),
  (15, [1061], (.getfield 17, 18, 10, [12, 2], .returned)),
  (18, [], (.iconst 3, 19, 0, [], .constant "" 0 (3))),
  (19, [], (.iaload, 20, 0, [], .returned)),
  (20, [], (.iconst 1, 21, 0, [], .constant "" 0 (1))),
  (21, [], (.isub, 22, 0, [], .returned)),
  (22, [1174, 1176, 1175, 102], (.invokestatic 90, 25, 0, [3, 0, 0], .code yX10_in cX10_in 3 (some .boolean))),
  (25, [], (.ifCond .eq 31, 28, 56, [], .returned)),
  (28, [], (.iload_n 2, 29, 2, [], .returned)),
  (29, [], (.iconst 0, 30, 0, [], .constant "" 0 (0))),
  (30, [], (.aload_n 0, 31, 0, [], .returned)),
  (31, [1061], (.getfield 17, 34, 10, [12, 2], .returned)),
  (34, [], (.bipush 9, 36, 0, [], .constant "" 0 (9))),
  (36, [], (.iload_n 1, 37, 1, [], .returned)),
  (37, [], (.iadd, 38, 0, [], .returned)),
  (38, [], (.iaload, 39, 0, [], .returned)),
  (39, [], (.iconst 1, 40, 0, [], .constant "" 0 (1))),
  (40, [], (.isub, 41, 0, [], .returned)),
  (41, [1174, 1176, 1175, 102], (.invokestatic 90, 44, 0, [3, 0, 0], .code yX10_in cX10_in 3 (some .boolean))),
  (44, [], (.ifCond .eq 12, 47, 56, [], .returned)),
  (47, [], (.iload_n 3, 48, 3, [], .returned)),
  (48, [], (.iconst 0, 49, 0, [], .constant "" 0 (0))),
  (49, [], (.iconst 1, 50, 0, [], .constant "" 0 (1))),
  (50, [1174, 1176, 1175, 102], (.invokestatic 90, 53, 0, [3, 0, 0], .code yX10_in cX10_in 3 (some .boolean))),
  (53, [], (.ifCond .ne 9, 56, 62, [], .returned)),
  (56, [], (.aload_n 0, 57, 0, [], .returned)),
  (57, [], (.iconst 1, 58, 0, [], .constant "" 0 (1))),
  (58, [1158, 1161, 1160, 35, 102], (.invokevirtual 218, 61, 0, [1, 10, 0, 0], .code yX10_refused cX10_refused 2 (some .int))),
  (61, [], (.ireturn, 62, 0, [], .returned)),
  (62, [], (.aload_n 0, 63, 0, [], .returned)),
  (63, [], (.aload_n 0, 64, 0, [], .returned)),
  (64, [1061], (.getfield 17, 67, 10, [12, 2], .returned)),
  (67, [], (.iload_n 3, 68, 3, [], .returned)),
  (68, [], (.ifCond .ne 8, 71, 76, [], .returned)),
  (71, [], (.bipush 12, 73, 0, [], .constant "" 0 (12))),
  (73, [], (.goto 5, 76, 78, [], .returned)),
  (76, [], (.bipush 30, 78, 0, [], .constant "" 0 (30))),
  (78, [], (.bipush 6, 80, 0, [], .constant "" 0 (6))),
  (80, [], (.iload_n 1, 81, 1, [], .returned)),
  (81, [], (.imul, 82, 0, [], .returned)),
  (82, [], (.iadd, 83, 0, [], .returned)),
  (83, [], (.iload_n 2, 84, 2, [], .returned)),
  (84, [], (.iadd, 85, 0, [], .returned)),
  (85, [], (.iaload, 86, 0, [], .returned)),
  (86, [1316, 1319, 1318, 57, 102], (.invokevirtual 232, 89, 0, [1, 10, 0, 0], .code yX10_good cX10_good 2 (some .int))),
  (89, [], (.ireturn, 90, 0, [], .returned))]
theorem ck_X10_row : okT q_X10_row t_X10_row = true := by decide +kernel
theorem e_X10_row_0 : lk t_X10_row 0 = some (.aload_n 0, 1, 0, [], .returned) := rfl
theorem e_X10_row_1 : lk t_X10_row 1 = some (.iconst 0, 2, 0, [], .constant "" 0 (0)) := rfl
theorem e_X10_row_2 : lk t_X10_row 2 = some (.putfield 65, 5, 10, [0, 0], .returned) := rfl
theorem e_X10_row_5 : lk t_X10_row 5 = some (.aload_n 0, 6, 0, [], .returned) := rfl
theorem e_X10_row_6 : lk t_X10_row 6 = some (.getfield 224, 9, 10, [15, 0], .returned) := rfl
theorem e_X10_row_9 : lk t_X10_row 9 = some (.ifCond .eq 47, 12, 56, [], .returned) := rfl
theorem e_X10_row_12 : lk t_X10_row 12 = some (.iload_n 1, 13, 1, [], .returned) := rfl
theorem e_X10_row_13 : lk t_X10_row 13 = some (.iconst 0, 14, 0, [], .constant "" 0 (0)) := rfl
theorem e_X10_row_14 : lk t_X10_row 14 = some (.aload_n 0, 15, 0, [], .returned) := rfl
theorem e_X10_row_15 : lk t_X10_row 15 = some (.getfield 17, 18, 10, [12, 2], .returned) := rfl
theorem e_X10_row_18 : lk t_X10_row 18 = some (.iconst 3, 19, 0, [], .constant "" 0 (3)) := rfl
theorem e_X10_row_19 : lk t_X10_row 19 = some (.iaload, 20, 0, [], .returned) := rfl
theorem e_X10_row_20 : lk t_X10_row 20 = some (.iconst 1, 21, 0, [], .constant "" 0 (1)) := rfl
theorem e_X10_row_21 : lk t_X10_row 21 = some (.isub, 22, 0, [], .returned) := rfl
theorem e_X10_row_22 : lk t_X10_row 22 = some (.invokestatic 90, 25, 0, [3, 0, 0], .code yX10_in cX10_in 3 (some .boolean)) := rfl
theorem e_X10_row_25 : lk t_X10_row 25 = some (.ifCond .eq 31, 28, 56, [], .returned) := rfl
theorem e_X10_row_28 : lk t_X10_row 28 = some (.iload_n 2, 29, 2, [], .returned) := rfl
theorem e_X10_row_29 : lk t_X10_row 29 = some (.iconst 0, 30, 0, [], .constant "" 0 (0)) := rfl
theorem e_X10_row_30 : lk t_X10_row 30 = some (.aload_n 0, 31, 0, [], .returned) := rfl
theorem e_X10_row_31 : lk t_X10_row 31 = some (.getfield 17, 34, 10, [12, 2], .returned) := rfl
theorem e_X10_row_34 : lk t_X10_row 34 = some (.bipush 9, 36, 0, [], .constant "" 0 (9)) := rfl
theorem e_X10_row_36 : lk t_X10_row 36 = some (.iload_n 1, 37, 1, [], .returned) := rfl
theorem e_X10_row_37 : lk t_X10_row 37 = some (.iadd, 38, 0, [], .returned) := rfl
theorem e_X10_row_38 : lk t_X10_row 38 = some (.iaload, 39, 0, [], .returned) := rfl
theorem e_X10_row_39 : lk t_X10_row 39 = some (.iconst 1, 40, 0, [], .constant "" 0 (1)) := rfl
theorem e_X10_row_40 : lk t_X10_row 40 = some (.isub, 41, 0, [], .returned) := rfl
theorem e_X10_row_41 : lk t_X10_row 41 = some (.invokestatic 90, 44, 0, [3, 0, 0], .code yX10_in cX10_in 3 (some .boolean)) := rfl
theorem e_X10_row_44 : lk t_X10_row 44 = some (.ifCond .eq 12, 47, 56, [], .returned) := rfl
theorem e_X10_row_47 : lk t_X10_row 47 = some (.iload_n 3, 48, 3, [], .returned) := rfl
theorem e_X10_row_48 : lk t_X10_row 48 = some (.iconst 0, 49, 0, [], .constant "" 0 (0)) := rfl
theorem e_X10_row_49 : lk t_X10_row 49 = some (.iconst 1, 50, 0, [], .constant "" 0 (1)) := rfl
theorem e_X10_row_50 : lk t_X10_row 50 = some (.invokestatic 90, 53, 0, [3, 0, 0], .code yX10_in cX10_in 3 (some .boolean)) := rfl
theorem e_X10_row_53 : lk t_X10_row 53 = some (.ifCond .ne 9, 56, 62, [], .returned) := rfl
theorem e_X10_row_56 : lk t_X10_row 56 = some (.aload_n 0, 57, 0, [], .returned) := rfl
theorem e_X10_row_57 : lk t_X10_row 57 = some (.iconst 1, 58, 0, [], .constant "" 0 (1)) := rfl
theorem e_X10_row_58 : lk t_X10_row 58 = some (.invokevirtual 218, 61, 0, [1, 10, 0, 0], .code yX10_refused cX10_refused 2 (some .int)) := rfl
theorem e_X10_row_61 : lk t_X10_row 61 = some (.ireturn, 62, 0, [], .returned) := rfl
theorem e_X10_row_62 : lk t_X10_row 62 = some (.aload_n 0, 63, 0, [], .returned) := rfl
theorem e_X10_row_63 : lk t_X10_row 63 = some (.aload_n 0, 64, 0, [], .returned) := rfl
theorem e_X10_row_64 : lk t_X10_row 64 = some (.getfield 17, 67, 10, [12, 2], .returned) := rfl
theorem e_X10_row_67 : lk t_X10_row 67 = some (.iload_n 3, 68, 3, [], .returned) := rfl
theorem e_X10_row_68 : lk t_X10_row 68 = some (.ifCond .ne 8, 71, 76, [], .returned) := rfl
theorem e_X10_row_71 : lk t_X10_row 71 = some (.bipush 12, 73, 0, [], .constant "" 0 (12)) := rfl
theorem e_X10_row_73 : lk t_X10_row 73 = some (.goto 5, 76, 78, [], .returned) := rfl
theorem e_X10_row_76 : lk t_X10_row 76 = some (.bipush 30, 78, 0, [], .constant "" 0 (30)) := rfl
theorem e_X10_row_78 : lk t_X10_row 78 = some (.bipush 6, 80, 0, [], .constant "" 0 (6)) := rfl
theorem e_X10_row_80 : lk t_X10_row 80 = some (.iload_n 1, 81, 1, [], .returned) := rfl
theorem e_X10_row_81 : lk t_X10_row 81 = some (.imul, 82, 0, [], .returned) := rfl
theorem e_X10_row_82 : lk t_X10_row 82 = some (.iadd, 83, 0, [], .returned) := rfl
theorem e_X10_row_83 : lk t_X10_row 83 = some (.iload_n 2, 84, 2, [], .returned) := rfl
theorem e_X10_row_84 : lk t_X10_row 84 = some (.iadd, 85, 0, [], .returned) := rfl
theorem e_X10_row_85 : lk t_X10_row 85 = some (.iaload, 86, 0, [], .returned) := rfl
theorem e_X10_row_86 : lk t_X10_row 86 = some (.invokevirtual 232, 89, 0, [1, 10, 0, 0], .code yX10_good cX10_good 2 (some .int)) := rfl
theorem e_X10_row_89 : lk t_X10_row 89 = some (.ireturn, 90, 0, [], .returned) := rfl
abbrev q_X10_floor : MI := (yX10_floor, cX10_floor, 3, (some .int))
def t_X10_floor : Tab := [(0, [], (.aload_n 0, 1, 0, [], .returned)),
  (1, [], (.iconst 0, 2, 0, [], .constant "" 0 (0))),
  (2, [1049], (.putfield 65, 5, 10, [0, 0], .returned)),
  (5, [], (.aload_n 0, 6, 0, [], .returned)),
  (6, [], (.iload_n 1, 7, 1, [], .returned)),
  (7, [1372, 1375, 1374, 65, 102], (.invokevirtual 332, 10, 0, [1, 10, 0, 0], .code yX10_isPayer cX10_isPayer 2 (some .boolean))),
  (10, [], (.ifCond .ne 9, 13, 19, [], .returned)),
  (13, [], (.aload_n 0, 14, 0, [], .returned)),
  (14, [], (.iconst 1, 15, 0, [], .constant "" 0 (1))),
  (15, [1158, 1161, 1160, 35, 102], (.invokevirtual 218, 18, 0, [1, 10, 0, 0], .code yX10_refused cX10_refused 2 (some .int))),
  (18, [], (.ireturn, 19, 0, [], .returned)),
  (19, [], (.iload_n 2, 20, 2, [], .returned)),
  (20, [1380, 1382, 1381, 102], (.invokestatic 335, 23, 0, [1, 0, 0], .code yX10_isNet cX10_isNet 1 (some .boolean))),
  (23, [], (.ifCond .eq 16, 26, 39, [], .returned)),
  (26, [], (.aload_n 0, 27, 0, [], .returned)),
  (27, [], (.aload_n 0, 28, 0, [], .returned)),
  (28, [], (.iload_n 1, 29, 1, [], .returned)),
  (29, [], (.iload_n 2, 30, 2, [], .returned)),
  (30, [1402, 1405, 1404, 68, 102], (.invokevirtual 253, 33, 0, [2, 10, 0, 0], .code yX10_floorOf cX10_floorOf 3 (some .int))),
  (33, [1316, 1319, 1318, 57, 102], (.invokevirtual 232, 36, 0, [1, 10, 0, 0], .code yX10_good cX10_good 2 (some .int))),
  (36, [], (.goto 8, 39, 44, [], .returned)),
  (39, [], (.aload_n 0, 40, 0, [], .returned)),
  (40, [], (.iconst 2, 41, 0, [], .constant "" 0 (2))),
  (41, [1158, 1161, 1160, 35, 102], (.invokevirtual 218, 44, 0, [1, 10, 0, 0], .code yX10_refused cX10_refused 2 (some .int))),
  (44, [], (.ireturn, 45, 0, [], .returned))]
theorem ck_X10_floor : okT q_X10_floor t_X10_floor = true := by decide +kernel
theorem e_X10_floor_0 : lk t_X10_floor 0 = some (.aload_n 0, 1, 0, [], .returned) := rfl
theorem e_X10_floor_1 : lk t_X10_floor 1 = some (.iconst 0, 2, 0, [], .constant "" 0 (0)) := rfl
theorem e_X10_floor_2 : lk t_X10_floor 2 = some (.putfield 65, 5, 10, [0, 0], .returned) := rfl
theorem e_X10_floor_5 : lk t_X10_floor 5 = some (.aload_n 0, 6, 0, [], .returned) := rfl
theorem e_X10_floor_6 : lk t_X10_floor 6 = some (.iload_n 1, 7, 1, [], .returned) := rfl
theorem e_X10_floor_7 : lk t_X10_floor 7 = some (.invokevirtual 332, 10, 0, [1, 10, 0, 0], .code yX10_isPayer cX10_isPayer 2 (some .boolean)) := rfl
theorem e_X10_floor_10 : lk t_X10_floor 10 = some (.ifCond .ne 9, 13, 19, [], .returned) := rfl
theorem e_X10_floor_13 : lk t_X10_floor 13 = some (.aload_n 0, 14, 0, [], .returned) := rfl
theorem e_X10_floor_14 : lk t_X10_floor 14 = some (.iconst 1, 15, 0, [], .constant "" 0 (1)) := rfl
theorem e_X10_floor_15 : lk t_X10_floor 15 = some (.invokevirtual 218, 18, 0, [1, 10, 0, 0], .code yX10_refused cX10_refused 2 (some .int)) := rfl
theorem e_X10_floor_18 : lk t_X10_floor 18 = some (.ireturn, 19, 0, [], .returned) := rfl
theorem e_X10_floor_19 : lk t_X10_floor 19 = some (.iload_n 2, 20, 2, [], .returned) := rfl
theorem e_X10_floor_20 : lk t_X10_floor 20 = some (.invokestatic 335, 23, 0, [1, 0, 0], .code yX10_isNet cX10_isNet 1 (some .boolean)) := rfl
theorem e_X10_floor_23 : lk t_X10_floor 23 = some (.ifCond .eq 16, 26, 39, [], .returned) := rfl
theorem e_X10_floor_26 : lk t_X10_floor 26 = some (.aload_n 0, 27, 0, [], .returned) := rfl
theorem e_X10_floor_27 : lk t_X10_floor 27 = some (.aload_n 0, 28, 0, [], .returned) := rfl
theorem e_X10_floor_28 : lk t_X10_floor 28 = some (.iload_n 1, 29, 1, [], .returned) := rfl
theorem e_X10_floor_29 : lk t_X10_floor 29 = some (.iload_n 2, 30, 2, [], .returned) := rfl
theorem e_X10_floor_30 : lk t_X10_floor 30 = some (.invokevirtual 253, 33, 0, [2, 10, 0, 0], .code yX10_floorOf cX10_floorOf 3 (some .int)) := rfl
theorem e_X10_floor_33 : lk t_X10_floor 33 = some (.invokevirtual 232, 36, 0, [1, 10, 0, 0], .code yX10_good cX10_good 2 (some .int)) := rfl
theorem e_X10_floor_36 : lk t_X10_floor 36 = some (.goto 8, 39, 44, [], .returned) := rfl
theorem e_X10_floor_39 : lk t_X10_floor 39 = some (.aload_n 0, 40, 0, [], .returned) := rfl
theorem e_X10_floor_40 : lk t_X10_floor 40 = some (.iconst 2, 41, 0, [], .constant "" 0 (2)) := rfl
theorem e_X10_floor_41 : lk t_X10_floor 41 = some (.invokevirtual 218, 44, 0, [1, 10, 0, 0], .code yX10_refused cX10_refused 2 (some .int)) := rfl
theorem e_X10_floor_44 : lk t_X10_floor 44 = some (.ireturn, 45, 0, [], .returned) := rfl
abbrev q_X10_ownFloor : MI := (yX10_ownFloor, cX10_ownFloor, 4, (some .int))
def t_X10_ownFloor : Tab := [(0, [], (.aload_n 0, 1, 0, [], .returned)),
  (1, [], (.iconst 0, 2, 0, [], .constant "" 0 (0))),
  (2, [1049], (.putfield 65, 5, 10, [0, 0], .returned)),
  (5, [], (.aload_n 0, 6, 0, [], .returned)),
  (6, [], (.iload_n 1, 7, 1, [], .returned)),
  (7, [1360, 1363, 1362, 63, 102], (.invokevirtual 325, 10, 0, [1, 10, 0, 0], .code yX10_isOrder cX10_isOrder 2 (some .boolean))),
  (10, [], (.ifCond .eq 11, 13, 21, [], .returned)),
  (13, [], (.aload_n 0, 14, 0, [], .returned)),
  (14, [], (.iload_n 2, 15, 2, [], .returned)),
  (15, [1372, 1375, 1374, 65, 102], (.invokevirtual 332, 18, 0, [1, 10, 0, 0], .code yX10_isPayer cX10_isPayer 2 (some .boolean))),
  (18, [], (.ifCond .ne 9, 21, 27, [], .returned)),
  (21, [], (.aload_n 0, 22, 0, [], .returned)),
  (22, [], (.iconst 1, 23, 0, [], .constant "" 0 (1))),
  (23, [1158, 1161, 1160, 35, 102], (.invokevirtual 218, 26, 0, [1, 10, 0, 0], .code yX10_refused cX10_refused 2 (some .int))),
  (26, [], (.ireturn, 27, 0, [], .returned)),
  (27, [], (.iload_n 3, 28, 3, [], .returned)),
  (28, [1380, 1382, 1381, 102], (.invokestatic 335, 31, 0, [1, 0, 0], .code yX10_isNet cX10_isNet 1 (some .boolean))),
  (31, [], (.ifCond .eq 17, 34, 48, [], .returned)),
  (34, [], (.aload_n 0, 35, 0, [], .returned)),
  (35, [], (.aload_n 0, 36, 0, [], .returned)),
  (36, [], (.iload_n 1, 37, 1, [], .returned)),
  (37, [], (.iload_n 2, 38, 2, [], .returned)),
  (38, [], (.iload_n 3, 39, 3, [], .returned)),
  (39, [1413, 1416, 1415, 69, 102], (.invokevirtual 269, 42, 0, [3, 10, 0, 0], .code yX10_ownFloorOf cX10_ownFloorOf 4 (some .int))),
  (42, [1316, 1319, 1318, 57, 102], (.invokevirtual 232, 45, 0, [1, 10, 0, 0], .code yX10_good cX10_good 2 (some .int))),
  (45, [], (.goto 8, 48, 53, [], .returned)),
  (48, [], (.aload_n 0, 49, 0, [], .returned)),
  (49, [], (.iconst 2, 50, 0, [], .constant "" 0 (2))),
  (50, [1158, 1161, 1160, 35, 102], (.invokevirtual 218, 53, 0, [1, 10, 0, 0], .code yX10_refused cX10_refused 2 (some .int))),
  (53, [], (.ireturn, 54, 0, [], .returned))]
theorem ck_X10_ownFloor : okT q_X10_ownFloor t_X10_ownFloor = true := by decide +kernel
theorem e_X10_ownFloor_0 : lk t_X10_ownFloor 0 = some (.aload_n 0, 1, 0, [], .returned) := rfl
theorem e_X10_ownFloor_1 : lk t_X10_ownFloor 1 = some (.iconst 0, 2, 0, [], .constant "" 0 (0)) := rfl
theorem e_X10_ownFloor_2 : lk t_X10_ownFloor 2 = some (.putfield 65, 5, 10, [0, 0], .returned) := rfl
theorem e_X10_ownFloor_5 : lk t_X10_ownFloor 5 = some (.aload_n 0, 6, 0, [], .returned) := rfl
theorem e_X10_ownFloor_6 : lk t_X10_ownFloor 6 = some (.iload_n 1, 7, 1, [], .returned) := rfl
theorem e_X10_ownFloor_7 : lk t_X10_ownFloor 7 = some (.invokevirtual 325, 10, 0, [1, 10, 0, 0], .code yX10_isOrder cX10_isOrder 2 (some .boolean)) := rfl
theorem e_X10_ownFloor_10 : lk t_X10_ownFloor 10 = some (.ifCond .eq 11, 13, 21, [], .returned) := rfl
theorem e_X10_ownFloor_13 : lk t_X10_ownFloor 13 = some (.aload_n 0, 14, 0, [], .returned) := rfl
theorem e_X10_ownFloor_14 : lk t_X10_ownFloor 14 = some (.iload_n 2, 15, 2, [], .returned) := rfl
theorem e_X10_ownFloor_15 : lk t_X10_ownFloor 15 = some (.invokevirtual 332, 18, 0, [1, 10, 0, 0], .code yX10_isPayer cX10_isPayer 2 (some .boolean)) := rfl
theorem e_X10_ownFloor_18 : lk t_X10_ownFloor 18 = some (.ifCond .ne 9, 21, 27, [], .returned) := rfl
theorem e_X10_ownFloor_21 : lk t_X10_ownFloor 21 = some (.aload_n 0, 22, 0, [], .returned) := rfl
theorem e_X10_ownFloor_22 : lk t_X10_ownFloor 22 = some (.iconst 1, 23, 0, [], .constant "" 0 (1)) := rfl
theorem e_X10_ownFloor_23 : lk t_X10_ownFloor 23 = some (.invokevirtual 218, 26, 0, [1, 10, 0, 0], .code yX10_refused cX10_refused 2 (some .int)) := rfl
theorem e_X10_ownFloor_26 : lk t_X10_ownFloor 26 = some (.ireturn, 27, 0, [], .returned) := rfl
theorem e_X10_ownFloor_27 : lk t_X10_ownFloor 27 = some (.iload_n 3, 28, 3, [], .returned) := rfl
theorem e_X10_ownFloor_28 : lk t_X10_ownFloor 28 = some (.invokestatic 335, 31, 0, [1, 0, 0], .code yX10_isNet cX10_isNet 1 (some .boolean)) := rfl
theorem e_X10_ownFloor_31 : lk t_X10_ownFloor 31 = some (.ifCond .eq 17, 34, 48, [], .returned) := rfl
theorem e_X10_ownFloor_34 : lk t_X10_ownFloor 34 = some (.aload_n 0, 35, 0, [], .returned) := rfl
theorem e_X10_ownFloor_35 : lk t_X10_ownFloor 35 = some (.aload_n 0, 36, 0, [], .returned) := rfl
theorem e_X10_ownFloor_36 : lk t_X10_ownFloor 36 = some (.iload_n 1, 37, 1, [], .returned) := rfl
theorem e_X10_ownFloor_37 : lk t_X10_ownFloor 37 = some (.iload_n 2, 38, 2, [], .returned) := rfl
theorem e_X10_ownFloor_38 : lk t_X10_ownFloor 38 = some (.iload_n 3, 39, 3, [], .returned) := rfl
theorem e_X10_ownFloor_39 : lk t_X10_ownFloor 39 = some (.invokevirtual 269, 42, 0, [3, 10, 0, 0], .code yX10_ownFloorOf cX10_ownFloorOf 4 (some .int)) := rfl
theorem e_X10_ownFloor_42 : lk t_X10_ownFloor 42 = some (.invokevirtual 232, 45, 0, [1, 10, 0, 0], .code yX10_good cX10_good 2 (some .int)) := rfl
theorem e_X10_ownFloor_45 : lk t_X10_ownFloor 45 = some (.goto 8, 48, 53, [], .returned) := rfl
theorem e_X10_ownFloor_48 : lk t_X10_ownFloor 48 = some (.aload_n 0, 49, 0, [], .returned) := rfl
theorem e_X10_ownFloor_49 : lk t_X10_ownFloor 49 = some (.iconst 2, 50, 0, [], .constant "" 0 (2)) := rfl
theorem e_X10_ownFloor_50 : lk t_X10_ownFloor 50 = some (.invokevirtual 218, 53, 0, [1, 10, 0, 0], .code yX10_refused cX10_refused 2 (some .int)) := rfl
theorem e_X10_ownFloor_53 : lk t_X10_ownFloor 53 = some (.ireturn, 54, 0, [], .returned) := rfl
abbrev q_X10_logs : MI := (yX10_logs, cX10_logs, 5, none)
def t_X10_logs : Tab := [(0, [], (.aload_n 0, 1, 0, [], .returned)),
  (1, [1080], (.getfield 229, 4, 10, [31, 0], .returned)),
  (4, [], (.bipush 12, 6, 0, [], .constant "" 0 (12))),
  (6, [], (.if_icmp .ne 86, 9, 92, [], .returned)),
  (9, [], (.iconst 5, 10, 0, [], .constant "" 0 (5))),
  (10, [], (.istore_n 3, 11, 3, [], .returned)),
  (11, [], (.iload_n 3, 12, 3, [], .returned)),
  (12, [], (.bipush 60, 14, 0, [], .constant "" 0 (60))),
  (14, [], (.if_icmp .ge 23, 17, 37, [], .returned)),
  (17, [], (.aload_n 0, 18, 0, [], .returned)),
  (18, [1077], (.getfield 56, 21, 10, [28, 2], .returned)),
  (21, [], (.iload_n 3, 22, 3, [], .returned)),
  (22, [], (.iconst 5, 23, 0, [], .constant "" 0 (5))),
  (23, [], (.isub, 24, 0, [], .returned)),
  (24, [], (.aload_n 0, 25, 0, [], .returned)),
  (25, [1077], (.getfield 56, 28, 10, [28, 2], .returned)),
  (28, [], (.iload_n 3, 29, 3, [], .returned)),
  (29, [], (.iaload, 30, 0, [], .returned)),
  (30, [], (.iastore, 31, 0, [], .returned)),
  (31, [], (.iinc 3 1, 34, 3, [], .constant "" 0 (1))),
  (34, [], (.goto (-23), 37, 11, [], .returned)),
  (37, [], (.bipush 6, 39, 0, [], .constant "" 0 (6))),
  (39, [], (.istore_n 3, 40, 3, [], .returned)),
  (40, [], (.iload_n 3, 41, 3, [], .returned)),
  (41, [], (.bipush 72, 43, 0, [], .constant "" 0 (72))),
  (43, [], (.if_icmp .ge 39, 46, 82, [], .returned)),
  (46, [], (.aload_n 0, 47, 0, [], .returned)),
  (47, [1078], (.getfield 59, 50, 10, [29, 2], .returned)),
  (50, [], (.iload_n 3, 51, 3, [], .returned)),
  (51, [], (.bipush 6, 53, 0, [], .constant "" 0 (6))),
  (53, [], (.isub, 54, 0, [], .returned)),
  (54, [], (.aload_n 0, 55, 0, [], .returned)),
  (55, [1078], (.getfield 59, 58, 10, [29, 2], .returned)),
  (58, [], (.iload_n 3, 59, 3, [], .returned)),
  (59, [], (.iaload, 60, 0, [], .returned)),
  (60, [], (.iastore, 61, 0, [], .returned)),
  (61, [], (.aload_n 0, 62, 0, [], .returned)),
  (62, [1079], (.getfield 62, 65, 10, [30, 2], .returned)),
  (65, [], (.iload_n 3, 66, 3, [], .returned)),
  (66, [], (.bipush 6, 68, 0, [], .constant "" 0 (6))),
  (68, [], (.isub, 69, 0, [], .returned)),
  (69, [], (.aload_n 0, 70, 0, [], .returned)),
  (70, [1079], (.getfield 62, 73, 10, [30, 2], .returned)),
  (73, [], (.iload_n 3, 74, 3, [], .returned)),
  (74, [], (.iaload, 75, 0, [], .returned)),
  (75, [], (.iastore, 76, 0, [], .returned)),
  (76, [], (.iinc 3 1, 79, 3, [], .constant "" 0 (1))),
  (79, [], (.goto (-39), 82, 40, [], .returned)),
  (82, [], (.aload_n 0, 83, 0, [], .returned)),
  (83, [], (.dup, 84, 0, [], .returned)),
  (84, [1080], (.getfield 229, 87, 10, [31, 0], .returned)),
  (87, [], (.iconst 1, 88, 0, [], .constant "" 0 (1))),
  (88, [], (.isub, 89, 0, [], .returned)),
  (89, [1080], (.putfield 229, 92, 10, [31, 0], .returned)),
  (92, [], (.iconst 5, 93, 0, [], .constant "" 0 (5))),
  (93, [], (.aload_n 0, 94, 0, [], .returned)),
  (94, [1080], (.getfield 229, 97, 10, [31, 0], .returned)),
  (97, [], (.imul, 98, 0, [], .returned)),
  (98, [], (.istore_n 3, 99, 3, [], .returned)),
  (99, [], (.aload_n 0, 100, 0, [], .returned)),
  (100, [1077], (.getfield 56, 103, 10, [28, 2], .returned)),
  (103, [], (.iload_n 3, 104, 3, [], .returned)),
  (104, [], (.iload_n 1, 105, 1, [], .returned)),
  (105, [], (.iastore, 106, 0, [], .returned)),
  (106, [], (.aload_n 0, 107, 0, [], .returned)),
  (107, [1077], (.getfield 56, 110, 10, [28, 2], .returned)),
  (110, [], (.iload_n 3, 111, 3, [], .returned)),
  (111, [], (.iconst 1, 112, 0, [], .constant "" 0 (1))),
  (112, [], (.iadd, 113, 0, [], .returned)),
  (113, [], (.iload_n 2, 114, 2, [], .returned)),
  (114, [], (.iastore, 115, 0, [], .returned)),
  (115, [], (.aload_n 0, 116, 0, [], .returned)),
  (116, [1077], (.getfield 56, 119, 10, [28, 2], .returned)),
  (119, [], (.iload_n 3, 120, 3, [], .returned)),
  (120, [], (.iconst 2, 121, 0, [], .constant "" 0 (2))),
  (121, [], (.iadd, 122, 0, [], .returned)),
  (122, [], (.aload_n 0, 123, 0, [], .returned)),
  (123, [], (.iload_n 1, 124, 1, [], .returned)),
  (124, [], (.iload_n 2, 125, 2, [], .returned)),
  (125, [1402, 1405, 1404, 68, 102], (.invokevirtual 253, 128, 0, [2, 10, 0, 0], .code yX10_floorOf cX10_floorOf 3 (some .int))),
  (128, [], (.iastore, 129, 0, [], .returned)),
  (129, [], (.aload_n 0, 130, 0, [], .returned)),
  (130, [1077], (.getfield 56, 133, 10, [28, 2], .returned)),
  (133, [], (.iload_n 3, 134, 3, [], .returned)),
  (134, [], (.iconst 3, 135, 0, [], .constant "" 0 (3))),
  (135, [], (.iadd, 136, 0, [], .returned)),
  (136, [], (.aload_n 0, 137, 0, [], .returned)),
  (137, [1076], (.getfield 262, 140, 10, [27, 0], .returned)),
  (140, [], (.iastore, 141, 0, [], .returned)),
  (141, [], (.aload_n 0, 142, 0, [], .returned)),
  (142, [1077], (.getfield 56, 145, 10, [28, 2], .returned)),
  (145, [], (.iload_n 3, 146, 3, [], .returned)),
  (146, [], (.iconst 4, 147, 0, [], .constant "" 0 (4))),
  (147, [], (.iadd, 148, 0, [], .returned)),
  (148, [], (.aload_n 0, 149, 0, [], .returned)),
  (149, [1073], (.getfield 227, 152, 10, [24, 0], .returned)),
  (152, [], (.iastore, 153, 0, [], .returned)),
  (153, [], (.iconst 0, 154, 0, [], .constant "" 0 (0))),
  (154, [], (.istore 4, 156, 4, [], .returned)),
  (156, [], (.iload 4, 158, 4, [], .returned)),
  (158, [], (.bipush 6, 160, 0, [], .constant "" 0 (6))),
  (160, [], (.if_icmp .ge 53, 163, 213, [], .returned)),
  (163, [], (.aload_n 0, 164, 0, [], .returned)),
  (164, [1078], (.getfield 59, 167, 10, [29, 2], .returned)),
  (167, [], (.bipush 6, 169, 0, [], .constant "" 0 (6))),
  (169, [], (.aload_n 0, 170, 0, [], .returned)),
  (170, [1080], (.getfield 229, 173, 10, [31, 0], .returned)),
  (173, [], (.imul, 174, 0, [], .returned)),
  (174, [], (.iload 4, 176, 4, [], .returned)),
  (176, [], (.iadd, 177, 0, [], .returned)),
  (177, [], (.aload_n 0, 178, 0, [], .returned)),
  (178, [1074], (.getfield 50, 181, 10, [25, 2], .returned)),
  (181, [], (.iload 4, 183, 4, [], .returned)),
  (183, [], (.iaload, 184, 0, [], .returned)),
  (184, [], (.iastore, 185, 0, [], .returned)),
  (185, [], (.aload_n 0, 186, 0, [], .returned)),
  (186, [1079], (.getfield 62, 189, 10, [30, 2], .returned)),
  (189, [], (.bipush 6, 191, 0, [], .constant "" 0 (6))),
  (191, [], (.aload_n 0, 192, 0, [], .returned)),
  (192, [1080], (.getfield 229, 195, 10, [31, 0], .returned)),
  (195, [], (.imul, 196, 0, [], .returned)),
  (196, [], (.iload 4, 198, 4, [], .returned)),
  (198, [], (.iadd, 199, 0, [], .returned)),
  (199, [], (.aload_n 0, 200, 0, [], .returned)),
  (200, [1075], (.getfield 53, 203, 10, [26, 2], .returned)),
  (203, [], (.iload 4, 205, 4, [], .returned)),
  (205, [], (.iaload, 206, 0, [], .returned)),
  (206, [], (.iastore, 207, 0, [], .returned)),
  (207, [], (.iinc 4 1, 210, 4, [], .constant "" 0 (1))),
  (210, [], (.goto (-54), 213, 156, [], .returned)),
  (213, [], (.aload_n 0, 214, 0, [], .returned)),
  (214, [], (.dup, 215, 0, [], .returned)),
  (215, [1080], (.getfield 229, 218, 10, [31, 0], .returned)),
  (218, [], (.iconst 1, 219, 0, [], .constant "" 0 (1))),
  (219, [], (.iadd, 220, 0, [], .returned)),
  (220, [1080], (.putfield 229, 223, 10, [31, 0], .returned)),
  (223, [], (.return_, 224, 0, [], .returned))]
theorem ck_X10_logs : okT q_X10_logs t_X10_logs = true := by decide +kernel
theorem e_X10_logs_0 : lk t_X10_logs 0 = some (.aload_n 0, 1, 0, [], .returned) := rfl
theorem e_X10_logs_1 : lk t_X10_logs 1 = some (.getfield 229, 4, 10, [31, 0], .returned) := rfl
theorem e_X10_logs_4 : lk t_X10_logs 4 = some (.bipush 12, 6, 0, [], .constant "" 0 (12)) := rfl
theorem e_X10_logs_6 : lk t_X10_logs 6 = some (.if_icmp .ne 86, 9, 92, [], .returned) := rfl
theorem e_X10_logs_9 : lk t_X10_logs 9 = some (.iconst 5, 10, 0, [], .constant "" 0 (5)) := rfl
theorem e_X10_logs_10 : lk t_X10_logs 10 = some (.istore_n 3, 11, 3, [], .returned) := rfl
theorem e_X10_logs_11 : lk t_X10_logs 11 = some (.iload_n 3, 12, 3, [], .returned) := rfl
theorem e_X10_logs_12 : lk t_X10_logs 12 = some (.bipush 60, 14, 0, [], .constant "" 0 (60)) := rfl
theorem e_X10_logs_14 : lk t_X10_logs 14 = some (.if_icmp .ge 23, 17, 37, [], .returned) := rfl
theorem e_X10_logs_17 : lk t_X10_logs 17 = some (.aload_n 0, 18, 0, [], .returned) := rfl
theorem e_X10_logs_18 : lk t_X10_logs 18 = some (.getfield 56, 21, 10, [28, 2], .returned) := rfl
theorem e_X10_logs_21 : lk t_X10_logs 21 = some (.iload_n 3, 22, 3, [], .returned) := rfl
theorem e_X10_logs_22 : lk t_X10_logs 22 = some (.iconst 5, 23, 0, [], .constant "" 0 (5)) := rfl
theorem e_X10_logs_23 : lk t_X10_logs 23 = some (.isub, 24, 0, [], .returned) := rfl
theorem e_X10_logs_24 : lk t_X10_logs 24 = some (.aload_n 0, 25, 0, [], .returned) := rfl
theorem e_X10_logs_25 : lk t_X10_logs 25 = some (.getfield 56, 28, 10, [28, 2], .returned) := rfl
theorem e_X10_logs_28 : lk t_X10_logs 28 = some (.iload_n 3, 29, 3, [], .returned) := rfl
theorem e_X10_logs_29 : lk t_X10_logs 29 = some (.iaload, 30, 0, [], .returned) := rfl
theorem e_X10_logs_30 : lk t_X10_logs 30 = some (.iastore, 31, 0, [], .returned) := rfl
theorem e_X10_logs_31 : lk t_X10_logs 31 = some (.iinc 3 1, 34, 3, [], .constant "" 0 (1)) := rfl
theorem e_X10_logs_34 : lk t_X10_logs 34 = some (.goto (-23), 37, 11, [], .returned) := rfl
theorem e_X10_logs_37 : lk t_X10_logs 37 = some (.bipush 6, 39, 0, [], .constant "" 0 (6)) := rfl
theorem e_X10_logs_39 : lk t_X10_logs 39 = some (.istore_n 3, 40, 3, [], .returned) := rfl
theorem e_X10_logs_40 : lk t_X10_logs 40 = some (.iload_n 3, 41, 3, [], .returned) := rfl
theorem e_X10_logs_41 : lk t_X10_logs 41 = some (.bipush 72, 43, 0, [], .constant "" 0 (72)) := rfl
theorem e_X10_logs_43 : lk t_X10_logs 43 = some (.if_icmp .ge 39, 46, 82, [], .returned) := rfl
theorem e_X10_logs_46 : lk t_X10_logs 46 = some (.aload_n 0, 47, 0, [], .returned) := rfl
theorem e_X10_logs_47 : lk t_X10_logs 47 = some (.getfield 59, 50, 10, [29, 2], .returned) := rfl
theorem e_X10_logs_50 : lk t_X10_logs 50 = some (.iload_n 3, 51, 3, [], .returned) := rfl
theorem e_X10_logs_51 : lk t_X10_logs 51 = some (.bipush 6, 53, 0, [], .constant "" 0 (6)) := rfl
theorem e_X10_logs_53 : lk t_X10_logs 53 = some (.isub, 54, 0, [], .returned) := rfl
theorem e_X10_logs_54 : lk t_X10_logs 54 = some (.aload_n 0, 55, 0, [], .returned) := rfl
theorem e_X10_logs_55 : lk t_X10_logs 55 = some (.getfield 59, 58, 10, [29, 2], .returned) := rfl
theorem e_X10_logs_58 : lk t_X10_logs 58 = some (.iload_n 3, 59, 3, [], .returned) := rfl
theorem e_X10_logs_59 : lk t_X10_logs 59 = some (.iaload, 60, 0, [], .returned) := rfl
theorem e_X10_logs_60 : lk t_X10_logs 60 = some (.iastore, 61, 0, [], .returned) := rfl
theorem e_X10_logs_61 : lk t_X10_logs 61 = some (.aload_n 0, 62, 0, [], .returned) := rfl
theorem e_X10_logs_62 : lk t_X10_logs 62 = some (.getfield 62, 65, 10, [30, 2], .returned) := rfl
theorem e_X10_logs_65 : lk t_X10_logs 65 = some (.iload_n 3, 66, 3, [], .returned) := rfl
theorem e_X10_logs_66 : lk t_X10_logs 66 = some (.bipush 6, 68, 0, [], .constant "" 0 (6)) := rfl
theorem e_X10_logs_68 : lk t_X10_logs 68 = some (.isub, 69, 0, [], .returned) := rfl
theorem e_X10_logs_69 : lk t_X10_logs 69 = some (.aload_n 0, 70, 0, [], .returned) := rfl
theorem e_X10_logs_70 : lk t_X10_logs 70 = some (.getfield 62, 73, 10, [30, 2], .returned) := rfl
theorem e_X10_logs_73 : lk t_X10_logs 73 = some (.iload_n 3, 74, 3, [], .returned) := rfl
theorem e_X10_logs_74 : lk t_X10_logs 74 = some (.iaload, 75, 0, [], .returned) := rfl
theorem e_X10_logs_75 : lk t_X10_logs 75 = some (.iastore, 76, 0, [], .returned) := rfl
theorem e_X10_logs_76 : lk t_X10_logs 76 = some (.iinc 3 1, 79, 3, [], .constant "" 0 (1)) := rfl
theorem e_X10_logs_79 : lk t_X10_logs 79 = some (.goto (-39), 82, 40, [], .returned) := rfl
theorem e_X10_logs_82 : lk t_X10_logs 82 = some (.aload_n 0, 83, 0, [], .returned) := rfl
theorem e_X10_logs_83 : lk t_X10_logs 83 = some (.dup, 84, 0, [], .returned) := rfl
theorem e_X10_logs_84 : lk t_X10_logs 84 = some (.getfield 229, 87, 10, [31, 0], .returned) := rfl
theorem e_X10_logs_87 : lk t_X10_logs 87 = some (.iconst 1, 88, 0, [], .constant "" 0 (1)) := rfl
theorem e_X10_logs_88 : lk t_X10_logs 88 = some (.isub, 89, 0, [], .returned) := rfl
theorem e_X10_logs_89 : lk t_X10_logs 89 = some (.putfield 229, 92, 10, [31, 0], .returned) := rfl
theorem e_X10_logs_92 : lk t_X10_logs 92 = some (.iconst 5, 93, 0, [], .constant "" 0 (5)) := rfl
theorem e_X10_logs_93 : lk t_X10_logs 93 = some (.aload_n 0, 94, 0, [], .returned) := rfl
theorem e_X10_logs_94 : lk t_X10_logs 94 = some (.getfield 229, 97, 10, [31, 0], .returned) := rfl
theorem e_X10_logs_97 : lk t_X10_logs 97 = some (.imul, 98, 0, [], .returned) := rfl
theorem e_X10_logs_98 : lk t_X10_logs 98 = some (.istore_n 3, 99, 3, [], .returned) := rfl
theorem e_X10_logs_99 : lk t_X10_logs 99 = some (.aload_n 0, 100, 0, [], .returned) := rfl
theorem e_X10_logs_100 : lk t_X10_logs 100 = some (.getfield 56, 103, 10, [28, 2], .returned) := rfl
theorem e_X10_logs_103 : lk t_X10_logs 103 = some (.iload_n 3, 104, 3, [], .returned) := rfl
theorem e_X10_logs_104 : lk t_X10_logs 104 = some (.iload_n 1, 105, 1, [], .returned) := rfl
theorem e_X10_logs_105 : lk t_X10_logs 105 = some (.iastore, 106, 0, [], .returned) := rfl
theorem e_X10_logs_106 : lk t_X10_logs 106 = some (.aload_n 0, 107, 0, [], .returned) := rfl
theorem e_X10_logs_107 : lk t_X10_logs 107 = some (.getfield 56, 110, 10, [28, 2], .returned) := rfl
theorem e_X10_logs_110 : lk t_X10_logs 110 = some (.iload_n 3, 111, 3, [], .returned) := rfl
theorem e_X10_logs_111 : lk t_X10_logs 111 = some (.iconst 1, 112, 0, [], .constant "" 0 (1)) := rfl
theorem e_X10_logs_112 : lk t_X10_logs 112 = some (.iadd, 113, 0, [], .returned) := rfl
theorem e_X10_logs_113 : lk t_X10_logs 113 = some (.iload_n 2, 114, 2, [], .returned) := rfl
theorem e_X10_logs_114 : lk t_X10_logs 114 = some (.iastore, 115, 0, [], .returned) := rfl
theorem e_X10_logs_115 : lk t_X10_logs 115 = some (.aload_n 0, 116, 0, [], .returned) := rfl
theorem e_X10_logs_116 : lk t_X10_logs 116 = some (.getfield 56, 119, 10, [28, 2], .returned) := rfl
theorem e_X10_logs_119 : lk t_X10_logs 119 = some (.iload_n 3, 120, 3, [], .returned) := rfl
theorem e_X10_logs_120 : lk t_X10_logs 120 = some (.iconst 2, 121, 0, [], .constant "" 0 (2)) := rfl
theorem e_X10_logs_121 : lk t_X10_logs 121 = some (.iadd, 122, 0, [], .returned) := rfl
theorem e_X10_logs_122 : lk t_X10_logs 122 = some (.aload_n 0, 123, 0, [], .returned) := rfl
theorem e_X10_logs_123 : lk t_X10_logs 123 = some (.iload_n 1, 124, 1, [], .returned) := rfl
theorem e_X10_logs_124 : lk t_X10_logs 124 = some (.iload_n 2, 125, 2, [], .returned) := rfl
theorem e_X10_logs_125 : lk t_X10_logs 125 = some (.invokevirtual 253, 128, 0, [2, 10, 0, 0], .code yX10_floorOf cX10_floorOf 3 (some .int)) := rfl
theorem e_X10_logs_128 : lk t_X10_logs 128 = some (.iastore, 129, 0, [], .returned) := rfl
theorem e_X10_logs_129 : lk t_X10_logs 129 = some (.aload_n 0, 130, 0, [], .returned) := rfl
theorem e_X10_logs_130 : lk t_X10_logs 130 = some (.getfield 56, 133, 10, [28, 2], .returned) := rfl
theorem e_X10_logs_133 : lk t_X10_logs 133 = some (.iload_n 3, 134, 3, [], .returned) := rfl
theorem e_X10_logs_134 : lk t_X10_logs 134 = some (.iconst 3, 135, 0, [], .constant "" 0 (3)) := rfl
theorem e_X10_logs_135 : lk t_X10_logs 135 = some (.iadd, 136, 0, [], .returned) := rfl
theorem e_X10_logs_136 : lk t_X10_logs 136 = some (.aload_n 0, 137, 0, [], .returned) := rfl
theorem e_X10_logs_137 : lk t_X10_logs 137 = some (.getfield 262, 140, 10, [27, 0], .returned) := rfl
theorem e_X10_logs_140 : lk t_X10_logs 140 = some (.iastore, 141, 0, [], .returned) := rfl
theorem e_X10_logs_141 : lk t_X10_logs 141 = some (.aload_n 0, 142, 0, [], .returned) := rfl
theorem e_X10_logs_142 : lk t_X10_logs 142 = some (.getfield 56, 145, 10, [28, 2], .returned) := rfl
theorem e_X10_logs_145 : lk t_X10_logs 145 = some (.iload_n 3, 146, 3, [], .returned) := rfl
theorem e_X10_logs_146 : lk t_X10_logs 146 = some (.iconst 4, 147, 0, [], .constant "" 0 (4)) := rfl
theorem e_X10_logs_147 : lk t_X10_logs 147 = some (.iadd, 148, 0, [], .returned) := rfl
theorem e_X10_logs_148 : lk t_X10_logs 148 = some (.aload_n 0, 149, 0, [], .returned) := rfl
theorem e_X10_logs_149 : lk t_X10_logs 149 = some (.getfield 227, 152, 10, [24, 0], .returned) := rfl
theorem e_X10_logs_152 : lk t_X10_logs 152 = some (.iastore, 153, 0, [], .returned) := rfl
theorem e_X10_logs_153 : lk t_X10_logs 153 = some (.iconst 0, 154, 0, [], .constant "" 0 (0)) := rfl
theorem e_X10_logs_154 : lk t_X10_logs 154 = some (.istore 4, 156, 4, [], .returned) := rfl
theorem e_X10_logs_156 : lk t_X10_logs 156 = some (.iload 4, 158, 4, [], .returned) := rfl
theorem e_X10_logs_158 : lk t_X10_logs 158 = some (.bipush 6, 160, 0, [], .constant "" 0 (6)) := rfl
theorem e_X10_logs_160 : lk t_X10_logs 160 = some (.if_icmp .ge 53, 163, 213, [], .returned) := rfl
theorem e_X10_logs_163 : lk t_X10_logs 163 = some (.aload_n 0, 164, 0, [], .returned) := rfl
theorem e_X10_logs_164 : lk t_X10_logs 164 = some (.getfield 59, 167, 10, [29, 2], .returned) := rfl
theorem e_X10_logs_167 : lk t_X10_logs 167 = some (.bipush 6, 169, 0, [], .constant "" 0 (6)) := rfl
theorem e_X10_logs_169 : lk t_X10_logs 169 = some (.aload_n 0, 170, 0, [], .returned) := rfl
theorem e_X10_logs_170 : lk t_X10_logs 170 = some (.getfield 229, 173, 10, [31, 0], .returned) := rfl
theorem e_X10_logs_173 : lk t_X10_logs 173 = some (.imul, 174, 0, [], .returned) := rfl
theorem e_X10_logs_174 : lk t_X10_logs 174 = some (.iload 4, 176, 4, [], .returned) := rfl
theorem e_X10_logs_176 : lk t_X10_logs 176 = some (.iadd, 177, 0, [], .returned) := rfl
theorem e_X10_logs_177 : lk t_X10_logs 177 = some (.aload_n 0, 178, 0, [], .returned) := rfl
theorem e_X10_logs_178 : lk t_X10_logs 178 = some (.getfield 50, 181, 10, [25, 2], .returned) := rfl
theorem e_X10_logs_181 : lk t_X10_logs 181 = some (.iload 4, 183, 4, [], .returned) := rfl
theorem e_X10_logs_183 : lk t_X10_logs 183 = some (.iaload, 184, 0, [], .returned) := rfl
theorem e_X10_logs_184 : lk t_X10_logs 184 = some (.iastore, 185, 0, [], .returned) := rfl
theorem e_X10_logs_185 : lk t_X10_logs 185 = some (.aload_n 0, 186, 0, [], .returned) := rfl
theorem e_X10_logs_186 : lk t_X10_logs 186 = some (.getfield 62, 189, 10, [30, 2], .returned) := rfl
theorem e_X10_logs_189 : lk t_X10_logs 189 = some (.bipush 6, 191, 0, [], .constant "" 0 (6)) := rfl
theorem e_X10_logs_191 : lk t_X10_logs 191 = some (.aload_n 0, 192, 0, [], .returned) := rfl
theorem e_X10_logs_192 : lk t_X10_logs 192 = some (.getfield 229, 195, 10, [31, 0], .returned) := rfl
theorem e_X10_logs_195 : lk t_X10_logs 195 = some (.imul, 196, 0, [], .returned) := rfl
theorem e_X10_logs_196 : lk t_X10_logs 196 = some (.iload 4, 198, 4, [], .returned) := rfl
theorem e_X10_logs_198 : lk t_X10_logs 198 = some (.iadd, 199, 0, [], .returned) := rfl
theorem e_X10_logs_199 : lk t_X10_logs 199 = some (.aload_n 0, 200, 0, [], .returned) := rfl
theorem e_X10_logs_200 : lk t_X10_logs 200 = some (.getfield 53, 203, 10, [26, 2], .returned) := rfl
theorem e_X10_logs_203 : lk t_X10_logs 203 = some (.iload 4, 205, 4, [], .returned) := rfl
theorem e_X10_logs_205 : lk t_X10_logs 205 = some (.iaload, 206, 0, [], .returned) := rfl
theorem e_X10_logs_206 : lk t_X10_logs 206 = some (.iastore, 207, 0, [], .returned) := rfl
theorem e_X10_logs_207 : lk t_X10_logs 207 = some (.iinc 4 1, 210, 4, [], .constant "" 0 (1)) := rfl
theorem e_X10_logs_210 : lk t_X10_logs 210 = some (.goto (-54), 213, 156, [], .returned) := rfl
theorem e_X10_logs_213 : lk t_X10_logs 213 = some (.aload_n 0, 214, 0, [], .returned) := rfl
theorem e_X10_logs_214 : lk t_X10_logs 214 = some (.dup, 215, 0, [], .returned) := rfl
theorem e_X10_logs_215 : lk t_X10_logs 215 = some (.getfield 229, 218, 10, [31, 0], .returned) := rfl
theorem e_X10_logs_218 : lk t_X10_logs 218 = some (.iconst 1, 219, 0, [], .constant "" 0 (1)) := rfl
theorem e_X10_logs_219 : lk t_X10_logs 219 = some (.iadd, 220, 0, [], .returned) := rfl
theorem e_X10_logs_220 : lk t_X10_logs 220 = some (.putfield 229, 223, 10, [31, 0], .returned) := rfl
theorem e_X10_logs_223 : lk t_X10_logs 223 = some (.return_, 224, 0, [], .returned) := rfl
abbrev q_X10_isPast : MI := (yX10_isPast, cX10_isPast, 2, (some .boolean))
def t_X10_isPast : Tab := [(0, [], (.aload_n 0, 1, 0, [], .returned)),
  (1, [1064], (.getfield 224, 4, 10, [15, 0], .returned)),
  (4, [], (.ifCond .eq 21, 7, 25, [], .returned)),
  (7, [], (.iload_n 1, 8, 1, [], .returned)),
  (8, [], (.iconst 0, 9, 0, [], .constant "" 0 (0))),
  (9, [], (.aload_n 0, 10, 0, [], .returned)),
  (10, [1080], (.getfield 229, 13, 10, [31, 0], .returned)),
  (13, [], (.iconst 1, 14, 0, [], .constant "" 0 (1))),
  (14, [], (.isub, 15, 0, [], .returned)),
  (15, [1174, 1176, 1175, 102], (.invokestatic 90, 18, 0, [3, 0, 0], .code yX10_in cX10_in 3 (some .boolean))),
  (18, [], (.ifCond .eq 7, 21, 25, [], .returned)),
  (21, [], (.iconst 1, 22, 0, [], .constant "" 0 (1))),
  (22, [], (.goto 4, 25, 26, [], .returned)),
  (25, [], (.iconst 0, 26, 0, [], .constant "" 0 (0))),
  (26, [], (.ireturn, 27, 1, [], .returned))]
theorem ck_X10_isPast : okT q_X10_isPast t_X10_isPast = true := by decide +kernel
theorem e_X10_isPast_0 : lk t_X10_isPast 0 = some (.aload_n 0, 1, 0, [], .returned) := rfl
theorem e_X10_isPast_1 : lk t_X10_isPast 1 = some (.getfield 224, 4, 10, [15, 0], .returned) := rfl
theorem e_X10_isPast_4 : lk t_X10_isPast 4 = some (.ifCond .eq 21, 7, 25, [], .returned) := rfl
theorem e_X10_isPast_7 : lk t_X10_isPast 7 = some (.iload_n 1, 8, 1, [], .returned) := rfl
theorem e_X10_isPast_8 : lk t_X10_isPast 8 = some (.iconst 0, 9, 0, [], .constant "" 0 (0)) := rfl
theorem e_X10_isPast_9 : lk t_X10_isPast 9 = some (.aload_n 0, 10, 0, [], .returned) := rfl
theorem e_X10_isPast_10 : lk t_X10_isPast 10 = some (.getfield 229, 13, 10, [31, 0], .returned) := rfl
theorem e_X10_isPast_13 : lk t_X10_isPast 13 = some (.iconst 1, 14, 0, [], .constant "" 0 (1)) := rfl
theorem e_X10_isPast_14 : lk t_X10_isPast 14 = some (.isub, 15, 0, [], .returned) := rfl
theorem e_X10_isPast_15 : lk t_X10_isPast 15 = some (.invokestatic 90, 18, 0, [3, 0, 0], .code yX10_in cX10_in 3 (some .boolean)) := rfl
theorem e_X10_isPast_18 : lk t_X10_isPast 18 = some (.ifCond .eq 7, 21, 25, [], .returned) := rfl
theorem e_X10_isPast_21 : lk t_X10_isPast 21 = some (.iconst 1, 22, 0, [], .constant "" 0 (1)) := rfl
theorem e_X10_isPast_22 : lk t_X10_isPast 22 = some (.goto 4, 25, 26, [], .returned) := rfl
theorem e_X10_isPast_25 : lk t_X10_isPast 25 = some (.iconst 0, 26, 0, [], .constant "" 0 (0)) := rfl
theorem e_X10_isPast_26 : lk t_X10_isPast 26 = some (.ireturn, 27, 1, [], .returned) := rfl
abbrev q_X10_past : MI := (yX10_past, cX10_past, 3, (some .int))
def t_X10_past : Tab := [(0, [], (.aload_n 0, 1, 0, [], .returned)),
  (1, [], (.iconst 0, 2, 0, [], .constant "" 0 (0))),
  (2, [1049], (.putfield 65, 5, 10, [0, 0], .returned)),
  (5, [], (.aload_n 0, 6, 0, [], .returned)),
  (6, [], (.iload_n 1, 7, 1, [], .returned)),
  (7, [1421, 1424, 1423, 70, 102], (.invokevirtual 338, 10, 0, [1, 10, 0, 0], .code yX10_isPast cX10_isPast 2 (some .boolean))),
  (10, [], (.ifCond .eq 36, 13, 46, [], .returned)),
  (13, [], (.iload_n 2, 14, 2, [], .returned)),
  (14, [], (.iconst 0, 15, 0, [], .constant "" 0 (0))),
  (15, [], (.iconst 4, 16, 0, [], .constant "" 0 (4))),
  (16, [1174, 1176, 1175, 102], (.invokestatic 90, 19, 0, [3, 0, 0], .code yX10_in cX10_in 3 (some .boolean))),
  (19, [], (.ifCond .eq 27, 22, 46, [], .returned)),
  (22, [], (.aload_n 0, 23, 0, [], .returned)),
  (23, [], (.aload_n 0, 24, 0, [], .returned)),
  (24, [1077], (.getfield 56, 27, 10, [28, 2], .returned)),
  (27, [], (.iconst 5, 28, 0, [], .constant "" 0 (5))),
  (28, [], (.aload_n 0, 29, 0, [], .returned)),
  (29, [1080], (.getfield 229, 32, 10, [31, 0], .returned)),
  (32, [], (.iconst 1, 33, 0, [], .constant "" 0 (1))),
  (33, [], (.isub, 34, 0, [], .returned)),
  (34, [], (.iload_n 1, 35, 1, [], .returned)),
  (35, [], (.isub, 36, 0, [], .returned)),
  (36, [], (.imul, 37, 0, [], .returned)),
  (37, [], (.iload_n 2, 38, 2, [], .returned)),
  (38, [], (.iadd, 39, 0, [], .returned)),
  (39, [], (.iaload, 40, 0, [], .returned)),
  (40, [1316, 1319, 1318, 57, 102], (.invokevirtual 232, 43, 0, [1, 10, 0, 0], .code yX10_good cX10_good 2 (some .int))),
  (43, [], (.goto 8, 46, 51, [], .returned)),
  (46, [], (.aload_n 0, 47, 0, [], .returned)),
  (47, [], (.iconst 1, 48, 0, [], .constant "" 0 (1))),
  (48, [1158, 1161, 1160, 35, 102], (.invokevirtual 218, 51, 0, [1, 10, 0, 0], .code yX10_refused cX10_refused 2 (some .int))),
  (51, [], (.ireturn, 52, 0, [], .returned))]
theorem ck_X10_past : okT q_X10_past t_X10_past = true := by decide +kernel
theorem e_X10_past_0 : lk t_X10_past 0 = some (.aload_n 0, 1, 0, [], .returned) := rfl
theorem e_X10_past_1 : lk t_X10_past 1 = some (.iconst 0, 2, 0, [], .constant "" 0 (0)) := rfl
theorem e_X10_past_2 : lk t_X10_past 2 = some (.putfield 65, 5, 10, [0, 0], .returned) := rfl
theorem e_X10_past_5 : lk t_X10_past 5 = some (.aload_n 0, 6, 0, [], .returned) := rfl
theorem e_X10_past_6 : lk t_X10_past 6 = some (.iload_n 1, 7, 1, [], .returned) := rfl
theorem e_X10_past_7 : lk t_X10_past 7 = some (.invokevirtual 338, 10, 0, [1, 10, 0, 0], .code yX10_isPast cX10_isPast 2 (some .boolean)) := rfl
theorem e_X10_past_10 : lk t_X10_past 10 = some (.ifCond .eq 36, 13, 46, [], .returned) := rfl
theorem e_X10_past_13 : lk t_X10_past 13 = some (.iload_n 2, 14, 2, [], .returned) := rfl
theorem e_X10_past_14 : lk t_X10_past 14 = some (.iconst 0, 15, 0, [], .constant "" 0 (0)) := rfl
theorem e_X10_past_15 : lk t_X10_past 15 = some (.iconst 4, 16, 0, [], .constant "" 0 (4)) := rfl
theorem e_X10_past_16 : lk t_X10_past 16 = some (.invokestatic 90, 19, 0, [3, 0, 0], .code yX10_in cX10_in 3 (some .boolean)) := rfl
theorem e_X10_past_19 : lk t_X10_past 19 = some (.ifCond .eq 27, 22, 46, [], .returned) := rfl
theorem e_X10_past_22 : lk t_X10_past 22 = some (.aload_n 0, 23, 0, [], .returned) := rfl
theorem e_X10_past_23 : lk t_X10_past 23 = some (.aload_n 0, 24, 0, [], .returned) := rfl
theorem e_X10_past_24 : lk t_X10_past 24 = some (.getfield 56, 27, 10, [28, 2], .returned) := rfl
theorem e_X10_past_27 : lk t_X10_past 27 = some (.iconst 5, 28, 0, [], .constant "" 0 (5)) := rfl
theorem e_X10_past_28 : lk t_X10_past 28 = some (.aload_n 0, 29, 0, [], .returned) := rfl
theorem e_X10_past_29 : lk t_X10_past 29 = some (.getfield 229, 32, 10, [31, 0], .returned) := rfl
theorem e_X10_past_32 : lk t_X10_past 32 = some (.iconst 1, 33, 0, [], .constant "" 0 (1)) := rfl
theorem e_X10_past_33 : lk t_X10_past 33 = some (.isub, 34, 0, [], .returned) := rfl
theorem e_X10_past_34 : lk t_X10_past 34 = some (.iload_n 1, 35, 1, [], .returned) := rfl
theorem e_X10_past_35 : lk t_X10_past 35 = some (.isub, 36, 0, [], .returned) := rfl
theorem e_X10_past_36 : lk t_X10_past 36 = some (.imul, 37, 0, [], .returned) := rfl
theorem e_X10_past_37 : lk t_X10_past 37 = some (.iload_n 2, 38, 2, [], .returned) := rfl
theorem e_X10_past_38 : lk t_X10_past 38 = some (.iadd, 39, 0, [], .returned) := rfl
theorem e_X10_past_39 : lk t_X10_past 39 = some (.iaload, 40, 0, [], .returned) := rfl
theorem e_X10_past_40 : lk t_X10_past 40 = some (.invokevirtual 232, 43, 0, [1, 10, 0, 0], .code yX10_good cX10_good 2 (some .int)) := rfl
theorem e_X10_past_43 : lk t_X10_past 43 = some (.goto 8, 46, 51, [], .returned) := rfl
theorem e_X10_past_46 : lk t_X10_past 46 = some (.aload_n 0, 47, 0, [], .returned) := rfl
theorem e_X10_past_47 : lk t_X10_past 47 = some (.iconst 1, 48, 0, [], .constant "" 0 (1)) := rfl
theorem e_X10_past_48 : lk t_X10_past 48 = some (.invokevirtual 218, 51, 0, [1, 10, 0, 0], .code yX10_refused cX10_refused 2 (some .int)) := rfl
theorem e_X10_past_51 : lk t_X10_past 51 = some (.ireturn, 52, 0, [], .returned) := rfl
