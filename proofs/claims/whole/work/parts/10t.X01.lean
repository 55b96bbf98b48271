abbrev q_X1_init : MI := (yX1_init, cX1_init, 1, none)
def t_X1_init : Tab := [(0, [], (.aload_n 0, 1, 0, [], .returned)),
  (1, [184, 120, 119], (.invokespecial 3, 4, 1, [], .returned)),
  (4, [], (.aload_n 0, 5, 0, [], .returned)),
  (5, [], (.bipush 6, 7, 0, [], .constant "" 0 (6))),
  (7, [223], (.newarray .boolean, 9, 2, [], .returned)),
  (9, [185], (.putfield 9, 12, 1, [0, 2], .returned)),
  (12, [], (.aload_n 0, 13, 0, [], .returned)),
  (13, [], (.bipush 6, 15, 0, [], .constant "" 0 (6))),
  (15, [178], (.newarray .int, 17, 0, [], .returned)),
  (17, [186], (.putfield 15, 20, 1, [1, 2], .returned)),
  (20, [], (.aload_n 0, 21, 0, [], .returned)),
  (21, [], (.bipush 6, 23, 0, [], .constant "" 0 (6))),
  (23, [178], (.newarray .int, 25, 0, [], .returned)),
  (25, [189], (.putfield 19, 28, 1, [2, 2], .returned)),
  (28, [], (.aload_n 0, 29, 0, [], .returned)),
  (29, [], (.bipush 6, 31, 0, [], .constant "" 0 (6))),
  (31, [178], (.newarray .int, 33, 0, [], .returned)),
  (33, [197], (.putfield 22, 36, 1, [5, 2], .returned)),
  (36, [], (.aload_n 0, 37, 0, [], .returned)),
  (37, [], (.bipush 6, 39, 0, [], .constant "" 0 (6))),
  (39, [178], (.newarray .int, 41, 0, [], .returned)),
  (41, [198], (.putfield 25, 44, 1, [6, 2], .returned)),
  (44, [], (.aload_n 0, 45, 0, [], .returned)),
  (45, [], (.bipush 6, 47, 0, [], .constant "" 0 (6))),
  (47, [178], (.newarray .int, 49, 0, [], .returned)),
  (49, [199], (.putfield 28, 52, 1, [7, 2], .returned)),
  (52, [], (.return_, 53, 0, [], .returned))]
theorem ck_X1_init : okT q_X1_init t_X1_init = true := by decide +kernel
theorem e_X1_init_0 : lk t_X1_init 0 = some (.aload_n 0, 1, 0, [], .returned) := rfl
theorem e_X1_init_1 : lk t_X1_init 1 = some (.invokespecial 3, 4, 1, [], .returned) := rfl
theorem e_X1_init_4 : lk t_X1_init 4 = some (.aload_n 0, 5, 0, [], .returned) := rfl
theorem e_X1_init_5 : lk t_X1_init 5 = some (.bipush 6, 7, 0, [], .constant "" 0 (6)) := rfl
theorem e_X1_init_7 : lk t_X1_init 7 = some (.newarray .boolean, 9, 2, [], .returned) := rfl
theorem e_X1_init_9 : lk t_X1_init 9 = some (.putfield 9, 12, 1, [0, 2], .returned) := rfl
theorem e_X1_init_12 : lk t_X1_init 12 = some (.aload_n 0, 13, 0, [], .returned) := rfl
theorem e_X1_init_13 : lk t_X1_init 13 = some (.bipush 6, 15, 0, [], .constant "" 0 (6)) := rfl
theorem e_X1_init_15 : lk t_X1_init 15 = some (.newarray .int, 17, 0, [], .returned) := rfl
theorem e_X1_init_17 : lk t_X1_init 17 = some (.putfield 15, 20, 1, [1, 2], .returned) := rfl
theorem e_X1_init_20 : lk t_X1_init 20 = some (.aload_n 0, 21, 0, [], .returned) := rfl
theorem e_X1_init_21 : lk t_X1_init 21 = some (.bipush 6, 23, 0, [], .constant "" 0 (6)) := rfl
theorem e_X1_init_23 : lk t_X1_init 23 = some (.newarray .int, 25, 0, [], .returned) := rfl
theorem e_X1_init_25 : lk t_X1_init 25 = some (.putfield 19, 28, 1, [2, 2], .returned) := rfl
theorem e_X1_init_28 : lk t_X1_init 28 = some (.aload_n 0, 29, 0, [], .returned) := rfl
theorem e_X1_init_29 : lk t_X1_init 29 = some (.bipush 6, 31, 0, [], .constant "" 0 (6)) := rfl
theorem e_X1_init_31 : lk t_X1_init 31 = some (.newarray .int, 33, 0, [], .returned) := rfl
theorem e_X1_init_33 : lk t_X1_init 33 = some (.putfield 22, 36, 1, [5, 2], .returned) := rfl
theorem e_X1_init_36 : lk t_X1_init 36 = some (.aload_n 0, 37, 0, [], .returned) := rfl
theorem e_X1_init_37 : lk t_X1_init 37 = some (.bipush 6, 39, 0, [], .constant "" 0 (6)) := rfl
theorem e_X1_init_39 : lk t_X1_init 39 = some (.newarray .int, 41, 0, [], .returned) := rfl
theorem e_X1_init_41 : lk t_X1_init 41 = some (.putfield 25, 44, 1, [6, 2], .returned) := rfl
theorem e_X1_init_44 : lk t_X1_init 44 = some (.aload_n 0, 45, 0, [], .returned) := rfl
theorem e_X1_init_45 : lk t_X1_init 45 = some (.bipush 6, 47, 0, [], .constant "" 0 (6)) := rfl
theorem e_X1_init_47 : lk t_X1_init 47 = some (.newarray .int, 49, 0, [], .returned) := rfl
theorem e_X1_init_49 : lk t_X1_init 49 = some (.putfield 28, 52, 1, [7, 2], .returned) := rfl
theorem e_X1_init_52 : lk t_X1_init 52 = some (.return_, 53, 0, [], .returned) := rfl
abbrev q_X1_reckon : MI := (yX1_reckon, cX1_reckon, 7, none)
def t_X1_reckon : Tab := [(0, [], (.aload_n 0, 1, 0, [], .returned)),
  (1, [], (.aload_n 1, 2, 1, [], .returned)),
  (2, [], (.iload_n 3, 3, 3, [], .returned)),
  (3, [], (.iload 4, 5, 4, [], .returned)),
  (5, [773, 736, 734, 735, 99], (.invokevirtual 31, 8, 0, [2, 0, 0, 0], .code yX0_floorOf cX0_floorOf 4 (some .int))),
  (8, [192], (.putfield 37, 11, 1, [3, 0], .returned)),
  (11, [], (.aload_n 0, 12, 0, [], .returned)),
  (12, [], (.iload 4, 14, 4, [], .returned)),
  (14, [194], (.putfield 41, 17, 1, [4, 0], .returned)),
  (17, [], (.aload_n 0, 18, 0, [], .returned)),
  (18, [], (.aload_n 2, 19, 2, [], .returned)),
  (19, [], (.aload_n 1, 20, 1, [], .returned)),
  (20, [405], (.getfield 44, 23, 0, [5, 0], .returned)),
  (23, [], (.iload_n 3, 24, 3, [], .returned)),
  (24, [774, 777, 776, 23, 95], (.invokevirtual 47, 27, 0, [3, 1, 0, 0], .code yX1_begin cX1_begin 6 (some .int))),
  (27, [], (.istore 5, 29, 5, [], .returned)),
  (29, [], (.iconst 1, 30, 0, [], .constant "" 0 (1))),
  (30, [], (.istore 6, 32, 6, [], .returned)),
  (32, [], (.iload 6, 34, 6, [], .returned)),
  (34, [], (.bipush 9, 36, 0, [], .constant "" 0 (9))),
  (36, [], (.if_icmp .gt 39, 39, 75, [], .returned)),
  (39, [], (.iload 5, 41, 5, [], .returned)),
  (41, [], (.iload 6, 43, 6, [], .returned)),
  (43, [], (.ishr, 44, 0, [], .returned)),
  (44, [], (.iconst 1, 45, 0, [], .constant "" 0 (1))),
  (45, [], (.iand, 46, 0, [], .returned)),
  (46, [], (.iconst 1, 47, 0, [], .constant "" 0 (1))),
  (47, [], (.if_icmp .ne 22, 50, 69, [], .returned)),
  (50, [], (.aload_n 0, 51, 0, [], .returned)),
  (51, [], (.aload_n 1, 52, 1, [], .returned)),
  (52, [], (.aload_n 2, 53, 2, [], .returned)),
  (53, [], (.iload_n 3, 54, 3, [], .returned)),
  (54, [], (.iload 4, 56, 4, [], .returned)),
  (56, [], (.iload 6, 58, 6, [], .returned)),
  (58, [779, 782, 781, 24, 95], (.invokevirtual 51, 61, 0, [5, 1, 0, 0], .code yX1_beginRank cX1_beginRank 11 none)),
  (61, [], (.aload_n 0, 62, 0, [], .returned)),
  (62, [], (.aload_n 1, 63, 1, [], .returned)),
  (63, [414], (.getfield 55, 66, 0, [8, 0], .returned)),
  (66, [789, 792, 791, 25, 95], (.invokevirtual 59, 69, 0, [1, 1, 0, 0], .code yX1_shareRank cX1_shareRank 5 none)),
  (69, [], (.iinc 6 1, 72, 6, [], .constant "" 0 (1))),
  (72, [], (.goto (-40), 75, 32, [], .returned)),
  (75, [], (.return_, 76, 0, [], .returned))]
theorem ck_X1_reckon : okT q_X1_reckon t_X1_reckon = true := by decide +kernel
theorem e_X1_reckon_0 : lk t_X1_reckon 0 = some (.aload_n 0, 1, 0, [], .returned) := rfl
theorem e_X1_reckon_1 : lk t_X1_reckon 1 = some (.aload_n 1, 2, 1, [], .returned) := rfl
theorem e_X1_reckon_2 : lk t_X1_reckon 2 = some (.iload_n 3, 3, 3, [], .returned) := rfl
theorem e_X1_reckon_3 : lk t_X1_reckon 3 = some (.iload 4, 5, 4, [], .returned) := rfl
theorem e_X1_reckon_5 : lk t_X1_reckon 5 = some (.invokevirtual 31, 8, 0, [2, 0, 0, 0], .code yX0_floorOf cX0_floorOf 4 (some .int)) := rfl
theorem e_X1_reckon_8 : lk t_X1_reckon 8 = some (.putfield 37, 11, 1, [3, 0], .returned) := rfl
theorem e_X1_reckon_11 : lk t_X1_reckon 11 = some (.aload_n 0, 12, 0, [], .returned) := rfl
theorem e_X1_reckon_12 : lk t_X1_reckon 12 = some (.iload 4, 14, 4, [], .returned) := rfl
theorem e_X1_reckon_14 : lk t_X1_reckon 14 = some (.putfield 41, 17, 1, [4, 0], .returned) := rfl
theorem e_X1_reckon_17 : lk t_X1_reckon 17 = some (.aload_n 0, 18, 0, [], .returned) := rfl
theorem e_X1_reckon_18 : lk t_X1_reckon 18 = some (.aload_n 2, 19, 2, [], .returned) := rfl
theorem e_X1_reckon_19 : lk t_X1_reckon 19 = some (.aload_n 1, 20, 1, [], .returned) := rfl
theorem e_X1_reckon_20 : lk t_X1_reckon 20 = some (.getfield 44, 23, 0, [5, 0], .returned) := rfl
theorem e_X1_reckon_23 : lk t_X1_reckon 23 = some (.iload_n 3, 24, 3, [], .returned) := rfl
theorem e_X1_reckon_24 : lk t_X1_reckon 24 = some (.invokevirtual 47, 27, 0, [3, 1, 0, 0], .code yX1_begin cX1_begin 6 (some .int)) := rfl
theorem e_X1_reckon_27 : lk t_X1_reckon 27 = some (.istore 5, 29, 5, [], .returned) := rfl
theorem e_X1_reckon_29 : lk t_X1_reckon 29 = some (.iconst 1, 30, 0, [], .constant "" 0 (1)) := rfl
theorem e_X1_reckon_30 : lk t_X1_reckon 30 = some (.istore 6, 32, 6, [], .returned) := rfl
theorem e_X1_reckon_32 : lk t_X1_reckon 32 = some (.iload 6, 34, 6, [], .returned) := rfl
theorem e_X1_reckon_34 : lk t_X1_reckon 34 = some (.bipush 9, 36, 0, [], .constant "" 0 (9)) := rfl
theorem e_X1_reckon_36 : lk t_X1_reckon 36 = some (.if_icmp .gt 39, 39, 75, [], .returned) := rfl
theorem e_X1_reckon_39 : lk t_X1_reckon 39 = some (.iload 5, 41, 5, [], .returned) := rfl
theorem e_X1_reckon_41 : lk t_X1_reckon 41 = some (.iload 6, 43, 6, [], .returned) := rfl
theorem e_X1_reckon_43 : lk t_X1_reckon 43 = some (.ishr, 44, 0, [], .returned) := rfl
theorem e_X1_reckon_44 : lk t_X1_reckon 44 = some (.iconst 1, 45, 0, [], .constant "" 0 (1)) := rfl
theorem e_X1_reckon_45 : lk t_X1_reckon 45 = some (.iand, 46, 0, [], .returned) := rfl
theorem e_X1_reckon_46 : lk t_X1_reckon 46 = some (.iconst 1, 47, 0, [], .constant "" 0 (1)) := rfl
theorem e_X1_reckon_47 : lk t_X1_reckon 47 = some (.if_icmp .ne 22, 50, 69, [], .returned) := rfl
theorem e_X1_reckon_50 : lk t_X1_reckon 50 = some (.aload_n 0, 51, 0, [], .returned) := rfl
theorem e_X1_reckon_51 : lk t_X1_reckon 51 = some (.aload_n 1, 52, 1, [], .returned) := rfl
theorem e_X1_reckon_52 : lk t_X1_reckon 52 = some (.aload_n 2, 53, 2, [], .returned) := rfl
theorem e_X1_reckon_53 : lk t_X1_reckon 53 = some (.iload_n 3, 54, 3, [], .returned) := rfl
theorem e_X1_reckon_54 : lk t_X1_reckon 54 = some (.iload 4, 56, 4, [], .returned) := rfl
theorem e_X1_reckon_56 : lk t_X1_reckon 56 = some (.iload 6, 58, 6, [], .returned) := rfl
theorem e_X1_reckon_58 : lk t_X1_reckon 58 = some (.invokevirtual 51, 61, 0, [5, 1, 0, 0], .code yX1_beginRank cX1_beginRank 11 none) := rfl
theorem e_X1_reckon_61 : lk t_X1_reckon 61 = some (.aload_n 0, 62, 0, [], .returned) := rfl
theorem e_X1_reckon_62 : lk t_X1_reckon 62 = some (.aload_n 1, 63, 1, [], .returned) := rfl
theorem e_X1_reckon_63 : lk t_X1_reckon 63 = some (.getfield 55, 66, 0, [8, 0], .returned) := rfl
theorem e_X1_reckon_66 : lk t_X1_reckon 66 = some (.invokevirtual 59, 69, 0, [1, 1, 0, 0], .code yX1_shareRank cX1_shareRank 5 none) := rfl
theorem e_X1_reckon_69 : lk t_X1_reckon 69 = some (.iinc 6 1, 72, 6, [], .constant "" 0 (1)) := rfl
theorem e_X1_reckon_72 : lk t_X1_reckon 72 = some (.goto (-40), 75, 32, [], .returned) := rfl
theorem e_X1_reckon_75 : lk t_X1_reckon 75 = some (.return_, 76, 0, [], .returned) := rfl
abbrev q_X1_owedThen : MI := (yX1_owedThen, cX1_owedThen, 3, (some .int))
def t_X1_owedThen : Tab := [(0, [], (.aload_n 0, 1, 0, [], .returned)),
  (1, [185], (.getfield 9, 4, 1, [0, 2], .returned)),
  (4, [], (.iload_n 2, 5, 2, [], .returned)),
  (5, [], (.baload, 6, 0, [], .returned)),
  (6, [], (.ifCond .eq 24, 9, 30, [], .returned)),
  (9, [], (.aload_n 1, 10, 1, [], .returned)),
  (10, [], (.iload_n 2, 11, 2, [], .returned)),
  (11, [], (.aaload, 12, 0, [], .returned)),
  (12, [], (.aload_n 0, 13, 0, [], .returned)),
  (13, [186], (.getfield 15, 16, 1, [1, 2], .returned)),
  (16, [], (.iload_n 2, 17, 2, [], .returned)),
  (17, [], (.iaload, 18, 0, [], .returned)),
  (18, [], (.aload_n 0, 19, 0, [], .returned)),
  (19, [189], (.getfield 19, 22, 1, [2, 2], .returned)),
  (22, [], (.iload_n 2, 23, 2, [], .returned)),
  (23, [], (.iaload, 24, 0, [], .returned)),
  (24, [830, 833, 831, 832, 97], (.invokevirtual 63, 27, 0, [2, 3, 0, 0], .code yX3_owedBehind cX3_owedBehind 3 (some .int))),
  (27, [], (.goto 9, 30, 36, [], .returned)),
  (30, [], (.aload_n 1, 31, 1, [], .returned)),
  (31, [], (.iload_n 2, 32, 2, [], .returned)),
  (32, [], (.aaload, 33, 0, [], .returned)),
  (33, [267], (.getfield 68, 36, 3, [8, 0], .returned)),
  (36, [], (.ireturn, 37, 0, [], .returned))]
theorem ck_X1_owedThen : okT q_X1_owedThen t_X1_owedThen = true := by decide +kernel
theorem e_X1_owedThen_0 : lk t_X1_owedThen 0 = some (.aload_n 0, 1, 0, [], .returned) := rfl
theorem e_X1_owedThen_1 : lk t_X1_owedThen 1 = some (.getfield 9, 4, 1, [0, 2], .returned) := rfl
theorem e_X1_owedThen_4 : lk t_X1_owedThen 4 = some (.iload_n 2, 5, 2, [], .returned) := rfl
theorem e_X1_owedThen_5 : lk t_X1_owedThen 5 = some (.baload, 6, 0, [], .returned) := rfl
theorem e_X1_owedThen_6 : lk t_X1_owedThen 6 = some (.ifCond .eq 24, 9, 30, [], .returned) := rfl
theorem e_X1_owedThen_9 : lk t_X1_owedThen 9 = some (.aload_n 1, 10, 1, [], .returned) := rfl
theorem e_X1_owedThen_10 : lk t_X1_owedThen 10 = some (.iload_n 2, 11, 2, [], .returned) := rfl
theorem e_X1_owedThen_11 : lk t_X1_owedThen 11 = some (.aaload, 12, 0, [], .returned) := rfl
theorem e_X1_owedThen_12 : lk t_X1_owedThen 12 = some (.aload_n 0, 13, 0, [], .returned) := rfl
theorem e_X1_owedThen_13 : lk t_X1_owedThen 13 = some (.getfield 15, 16, 1, [1, 2], .returned) := rfl
theorem e_X1_owedThen_16 : lk t_X1_owedThen 16 = some (.iload_n 2, 17, 2, [], .returned) := rfl
theorem e_X1_owedThen_17 : lk t_X1_owedThen 17 = some (.iaload, 18, 0, [], .returned) := rfl
theorem e_X1_owedThen_18 : lk t_X1_owedThen 18 = some (.aload_n 0, 19, 0, [], .returned) := rfl
theorem e_X1_owedThen_19 : lk t_X1_owedThen 19 = some (.getfield 19, 22, 1, [2, 2], .returned) := rfl
theorem e_X1_owedThen_22 : lk t_X1_owedThen 22 = some (.iload_n 2, 23, 2, [], .returned) := rfl
theorem e_X1_owedThen_23 : lk t_X1_owedThen 23 = some (.iaload, 24, 0, [], .returned) := rfl
theorem e_X1_owedThen_24 : lk t_X1_owedThen 24 = some (.invokevirtual 63, 27, 0, [2, 3, 0, 0], .code yX3_owedBehind cX3_owedBehind 3 (some .int)) := rfl
theorem e_X1_owedThen_27 : lk t_X1_owedThen 27 = some (.goto 9, 30, 36, [], .returned) := rfl
theorem e_X1_owedThen_30 : lk t_X1_owedThen 30 = some (.aload_n 1, 31, 1, [], .returned) := rfl
theorem e_X1_owedThen_31 : lk t_X1_owedThen 31 = some (.iload_n 2, 32, 2, [], .returned) := rfl
theorem e_X1_owedThen_32 : lk t_X1_owedThen 32 = some (.aaload, 33, 0, [], .returned) := rfl
theorem e_X1_owedThen_33 : lk t_X1_owedThen 33 = some (.getfield 68, 36, 3, [8, 0], .returned) := rfl
theorem e_X1_owedThen_36 : lk t_X1_owedThen 36 = some (.ireturn, 37, 0, [], .returned) := rfl
abbrev q_X1_settle : MI := (yX1_settle, cX1_settle, 4, none)
def t_X1_settle : Tab := [(0, [], (.iconst 0, 1, 0, [], .constant "" 0 (0))),
  (1, [], (.istore_n 3, 2, 3, [], .returned)),
  (2, [], (.iload_n 3, 3, 3, [], .returned)),
  (3, [], (.iload_n 2, 4, 2, [], .returned)),
  (4, [], (.if_icmp .ge 36, 7, 40, [], .returned)),
  (7, [], (.aload_n 0, 8, 0, [], .returned)),
  (8, [185], (.getfield 9, 11, 1, [0, 2], .returned)),
  (11, [], (.iload_n 3, 12, 3, [], .returned)),
  (12, [], (.baload, 13, 0, [], .returned)),
  (13, [], (.ifCond .eq 21, 16, 34, [], .returned)),
  (16, [], (.aload_n 1, 17, 1, [], .returned)),
  (17, [], (.iload_n 3, 18, 3, [], .returned)),
  (18, [], (.aaload, 19, 0, [], .returned)),
  (19, [], (.aload_n 0, 20, 0, [], .returned)),
  (20, [186], (.getfield 15, 23, 1, [1, 2], .returned)),
  (23, [], (.iload_n 3, 24, 3, [], .returned)),
  (24, [], (.iaload, 25, 0, [], .returned)),
  (25, [], (.aload_n 0, 26, 0, [], .returned)),
  (26, [189], (.getfield 19, 29, 1, [2, 2], .returned)),
  (29, [], (.iload_n 3, 30, 3, [], .returned)),
  (30, [], (.iaload, 31, 0, [], .returned)),
  (31, [881, 884, 882, 883, 97], (.invokevirtual 71, 34, 0, [2, 3, 0, 0], .code yX3_settle cX3_settle 3 none)),
  (34, [], (.iinc 3 1, 37, 3, [], .constant "" 0 (1))),
  (37, [], (.goto (-35), 40, 2, [], .returned)),
  (40, [], (.return_, 41, 0, [], .returned))]
theorem ck_X1_settle : okT q_X1_settle t_X1_settle = true := by decide +kernel
theorem e_X1_settle_0 : lk t_X1_settle 0 = some (.iconst 0, 1, 0, [], .constant "" 0 (0)) := rfl
theorem e_X1_settle_1 : lk t_X1_settle 1 = some (.istore_n 3, 2, 3, [], .returned) := rfl
theorem e_X1_settle_2 : lk t_X1_settle 2 = some (.iload_n 3, 3, 3, [], .returned) := rfl
theorem e_X1_settle_3 : lk t_X1_settle 3 = some (.iload_n 2, 4, 2, [], .returned) := rfl
theorem e_X1_settle_4 : lk t_X1_settle 4 = some (.if_icmp .ge 36, 7, 40, [], .returned) := rfl
theorem e_X1_settle_7 : lk t_X1_settle 7 = some (.aload_n 0, 8, 0, [], .returned) := rfl
theorem e_X1_settle_8 : lk t_X1_settle 8 = some (.getfield 9, 11, 1, [0, 2], .returned) := rfl
theorem e_X1_settle_11 : lk t_X1_settle 11 = some (.iload_n 3, 12, 3, [], .returned) := rfl
theorem e_X1_settle_12 : lk t_X1_settle 12 = some (.baload, 13, 0, [], .returned) := rfl
theorem e_X1_settle_13 : lk t_X1_settle 13 = some (.ifCond .eq 21, 16, 34, [], .returned) := rfl
theorem e_X1_settle_16 : lk t_X1_settle 16 = some (.aload_n 1, 17, 1, [], .returned) := rfl
theorem e_X1_settle_17 : lk t_X1_settle 17 = some (.iload_n 3, 18, 3, [], .returned) := rfl
theorem e_X1_settle_18 : lk t_X1_settle 18 = some (.aaload, 19, 0, [], .returned) := rfl
theorem e_X1_settle_19 : lk t_X1_settle 19 = some (.aload_n 0, 20, 0, [], .returned) := rfl
theorem e_X1_settle_20 : lk t_X1_settle 20 = some (.getfield 15, 23, 1, [1, 2], .returned) := rfl
theorem e_X1_settle_23 : lk t_X1_settle 23 = some (.iload_n 3, 24, 3, [], .returned) := rfl
theorem e_X1_settle_24 : lk t_X1_settle 24 = some (.iaload, 25, 0, [], .returned) := rfl
theorem e_X1_settle_25 : lk t_X1_settle 25 = some (.aload_n 0, 26, 0, [], .returned) := rfl
theorem e_X1_settle_26 : lk t_X1_settle 26 = some (.getfield 19, 29, 1, [2, 2], .returned) := rfl
theorem e_X1_settle_29 : lk t_X1_settle 29 = some (.iload_n 3, 30, 3, [], .returned) := rfl
theorem e_X1_settle_30 : lk t_X1_settle 30 = some (.iaload, 31, 0, [], .returned) := rfl
theorem e_X1_settle_31 : lk t_X1_settle 31 = some (.invokevirtual 71, 34, 0, [2, 3, 0, 0], .code yX3_settle cX3_settle 3 none) := rfl
theorem e_X1_settle_34 : lk t_X1_settle 34 = some (.iinc 3 1, 37, 3, [], .constant "" 0 (1)) := rfl
theorem e_X1_settle_37 : lk t_X1_settle 37 = some (.goto (-35), 40, 2, [], .returned) := rfl
theorem e_X1_settle_40 : lk t_X1_settle 40 = some (.return_, 41, 0, [], .returned) := rfl
abbrev q_X1_begin : MI := (yX1_begin, cX1_begin, 6, (some .int))
def t_X1_begin : Tab := [(0, [], (.iconst 0, 1, 0, [], .constant "" 0 (0))),
  (1, [], (.istore 4, 3, 4, [], .returned)),
  (3, [], (.iconst 0, 4, 0, [], .constant "" 0 (0))),
  (4, [], (.istore 5, 6, 5, [], .returned)),
  (6, [], (.iload 5, 8, 5, [], .returned)),
  (8, [], (.bipush 6, 10, 0, [], .constant "" 0 (6))),
  (10, [], (.if_icmp .ge 78, 13, 88, [], .returned)),
  (13, [], (.aload_n 0, 14, 0, [], .returned)),
  (14, [186], (.getfield 15, 17, 1, [1, 2], .returned)),
  (17, [], (.iload 5, 19, 5, [], .returned)),
  (19, [], (.iconst 0, 20, 0, [], .constant "" 0 (0))),
  (20, [], (.iastore, 21, 0, [], .returned)),
  (21, [], (.aload_n 0, 22, 0, [], .returned)),
  (22, [189], (.getfield 19, 25, 1, [2, 2], .returned)),
  (25, [], (.iload 5, 27, 5, [], .returned)),
  (27, [], (.iconst 0, 28, 0, [], .constant "" 0 (0))),
  (28, [], (.iastore, 29, 0, [], .returned)),
  (29, [], (.aload_n 0, 30, 0, [], .returned)),
  (30, [185], (.getfield 9, 33, 1, [0, 2], .returned)),
  (33, [], (.iload 5, 35, 5, [], .returned)),
  (35, [], (.iload 5, 37, 5, [], .returned)),
  (37, [], (.iload_n 2, 38, 2, [], .returned)),
  (38, [], (.if_icmp .ge 18, 41, 56, [], .returned)),
  (41, [], (.aload_n 1, 42, 1, [], .returned)),
  (42, [], (.iload 5, 44, 5, [], .returned)),
  (44, [], (.aaload, 45, 0, [], .returned)),
  (45, [], (.iload_n 3, 46, 3, [], .returned)),
  (46, [778, 695, 693, 694, 97], (.invokevirtual 75, 49, 0, [1, 3, 0, 0], .code yX3_isLiveAt cX3_isLiveAt 2 (some .boolean))),
  (49, [], (.ifCond .eq 7, 52, 56, [], .returned)),
  (52, [], (.iconst 1, 53, 0, [], .constant "" 0 (1))),
  (53, [], (.goto 4, 56, 57, [], .returned)),
  (56, [], (.iconst 0, 57, 0, [], .constant "" 0 (0))),
  (57, [], (.bastore, 58, 1, [], .returned)),
  (58, [], (.aload_n 0, 59, 0, [], .returned)),
  (59, [185], (.getfield 9, 62, 1, [0, 2], .returned)),
  (62, [], (.iload 5, 64, 5, [], .returned)),
  (64, [], (.baload, 65, 0, [], .returned)),
  (65, [], (.ifCond .eq 17, 68, 82, [], .returned)),
  (68, [], (.iload 4, 70, 4, [], .returned)),
  (70, [], (.iconst 1, 71, 0, [], .constant "" 0 (1))),
  (71, [], (.aload_n 1, 72, 1, [], .returned)),
  (72, [], (.iload 5, 74, 5, [], .returned)),
  (74, [], (.aaload, 75, 0, [], .returned)),
  (75, [240], (.getfield 79, 78, 3, [0, 0], .returned)),
  (78, [], (.ishl, 79, 0, [], .returned)),
  (79, [], (.ior, 80, 0, [], .returned)),
  (80, [], (.istore 4, 82, 4, [], .returned)),
  (82, [], (.iinc 5 1, 85, 5, [], .constant "" 0 (1))),
  (85, [], (.goto (-79), 88, 6, [], .returned)),
  (88, [], (.iload 4, 90, 4, [], .returned)),
  (90, [], (.ireturn, 91, 0, [], .returned))]
theorem ck_X1_begin : okT q_X1_begin t_X1_begin = true := by decide +kernel
theorem e_X1_begin_0 : lk t_X1_begin 0 = some (.iconst 0, 1, 0, [], .constant "" 0 (0)) := rfl
theorem e_X1_begin_1 : lk t_X1_begin 1 = some (.istore 4, 3, 4, [], .returned) := rfl
theorem e_X1_begin_3 : lk t_X1_begin 3 = some (.iconst 0, 4, 0, [], .constant "" 0 (0)) := rfl
theorem e_X1_begin_4 : lk t_X1_begin 4 = some (.istore 5, 6, 5, [], .returned) := rfl
theorem e_X1_begin_6 : lk t_X1_begin 6 = some (.iload 5, 8, 5, [], .returned) := rfl
theorem e_X1_begin_8 : lk t_X1_begin 8 = some (.bipush 6, 10, 0, [], .constant "" 0 (6)) := rfl
theorem e_X1_begin_10 : lk t_X1_begin 10 = some (.if_icmp .ge 78, 13, 88, [], .returned) := rfl
theorem e_X1_begin_13 : lk t_X1_begin 13 = some (.aload_n 0, 14, 0, [], .returned) := rfl
theorem e_X1_begin_14 : lk t_X1_begin 14 = some (.getfield 15, 17, 1, [1, 2], .returned) := rfl
theorem e_X1_begin_17 : lk t_X1_begin 17 = some (.iload 5, 19, 5, [], .returned) := rfl
theorem e_X1_begin_19 : lk t_X1_begin 19 = some (.iconst 0, 20, 0, [], .constant "" 0 (0)) := rfl
theorem e_X1_begin_20 : lk t_X1_begin 20 = some (.iastore, 21, 0, [], .returned) := rfl
theorem e_X1_begin_21 : lk t_X1_begin 21 = some (.aload_n 0, 22, 0, [], .returned) := rfl
theorem e_X1_begin_22 : lk t_X1_begin 22 = some (.getfield 19, 25, 1, [2, 2], .returned) := rfl
theorem e_X1_begin_25 : lk t_X1_begin 25 = some (.iload 5, 27, 5, [], .returned) := rfl
theorem e_X1_begin_27 : lk t_X1_begin 27 = some (.iconst 0, 28, 0, [], .constant "" 0 (0)) := rfl
theorem e_X1_begin_28 : lk t_X1_begin 28 = some (.iastore, 29, 0, [], .returned) := rfl
theorem e_X1_begin_29 : lk t_X1_begin 29 = some (.aload_n 0, 30, 0, [], .returned) := rfl
theorem e_X1_begin_30 : lk t_X1_begin 30 = some (.getfield 9, 33, 1, [0, 2], .returned) := rfl
theorem e_X1_begin_33 : lk t_X1_begin 33 = some (.iload 5, 35, 5, [], .returned) := rfl
theorem e_X1_begin_35 : lk t_X1_begin 35 = some (.iload 5, 37, 5, [], .returned) := rfl
theorem e_X1_begin_37 : lk t_X1_begin 37 = some (.iload_n 2, 38, 2, [], .returned) := rfl
theorem e_X1_begin_38 : lk t_X1_begin 38 = some (.if_icmp .ge 18, 41, 56, [], .returned) := rfl
theorem e_X1_begin_41 : lk t_X1_begin 41 = some (.aload_n 1, 42, 1, [], .returned) := rfl
theorem e_X1_begin_42 : lk t_X1_begin 42 = some (.iload 5, 44, 5, [], .returned) := rfl
theorem e_X1_begin_44 : lk t_X1_begin 44 = some (.aaload, 45, 0, [], .returned) := rfl
theorem e_X1_begin_45 : lk t_X1_begin 45 = some (.iload_n 3, 46, 3, [], .returned) := rfl
theorem e_X1_begin_46 : lk t_X1_begin 46 = some (.invokevirtual 75, 49, 0, [1, 3, 0, 0], .code yX3_isLiveAt cX3_isLiveAt 2 (some .boolean)) := rfl
theorem e_X1_begin_49 : lk t_X1_begin 49 = some (.ifCond .eq 7, 52, 56, [], .returned) := rfl
theorem e_X1_begin_52 : lk t_X1_begin 52 = some (.iconst 1, 53, 0, [], .constant "" 0 (1)) := rfl
theorem e_X1_begin_53 : lk t_X1_begin 53 = some (.goto 4, 56, 57, [], .returned) := rfl
theorem e_X1_begin_56 : lk t_X1_begin 56 = some (.iconst 0, 57, 0, [], .constant "" 0 (0)) := rfl
theorem e_X1_begin_57 : lk t_X1_begin 57 = some (.bastore, 58, 1, [], .returned) := rfl
theorem e_X1_begin_58 : lk t_X1_begin 58 = some (.aload_n 0, 59, 0, [], .returned) := rfl
theorem e_X1_begin_59 : lk t_X1_begin 59 = some (.getfield 9, 62, 1, [0, 2], .returned) := rfl
theorem e_X1_begin_62 : lk t_X1_begin 62 = some (.iload 5, 64, 5, [], .returned) := rfl
theorem e_X1_begin_64 : lk t_X1_begin 64 = some (.baload, 65, 0, [], .returned) := rfl
theorem e_X1_begin_65 : lk t_X1_begin 65 = some (.ifCond .eq 17, 68, 82, [], .returned) := rfl
theorem e_X1_begin_68 : lk t_X1_begin 68 = some (.iload 4, 70, 4, [], .returned) := rfl
theorem e_X1_begin_70 : lk t_X1_begin 70 = some (.iconst 1, 71, 0, [], .constant "" 0 (1)) := rfl
theorem e_X1_begin_71 : lk t_X1_begin 71 = some (.aload_n 1, 72, 1, [], .returned) := rfl
theorem e_X1_begin_72 : lk t_X1_begin 72 = some (.iload 5, 74, 5, [], .returned) := rfl
theorem e_X1_begin_74 : lk t_X1_begin 74 = some (.aaload, 75, 0, [], .returned) := rfl
theorem e_X1_begin_75 : lk t_X1_begin 75 = some (.getfield 79, 78, 3, [0, 0], .returned) := rfl
theorem e_X1_begin_78 : lk t_X1_begin 78 = some (.ishl, 79, 0, [], .returned) := rfl
theorem e_X1_begin_79 : lk t_X1_begin 79 = some (.ior, 80, 0, [], .returned) := rfl
theorem e_X1_begin_80 : lk t_X1_begin 80 = some (.istore 4, 82, 4, [], .returned) := rfl
theorem e_X1_begin_82 : lk t_X1_begin 82 = some (.iinc 5 1, 85, 5, [], .constant "" 0 (1)) := rfl
theorem e_X1_begin_85 : lk t_X1_begin 85 = some (.goto (-79), 88, 6, [], .returned) := rfl
theorem e_X1_begin_88 : lk t_X1_begin 88 = some (.iload 4, 90, 4, [], .returned) := rfl
theorem e_X1_begin_90 : lk t_X1_begin 90 = some (.ireturn, 91, 0, [], .returned) := rfl
abbrev q_X1_beginRank : MI := (yX1_beginRank, cX1_beginRank, 11, none)
def t_X1_beginRank : Tab := [(0, [], (.aload_n 1, 1, 1, [], .returned)),
  (1, [389], (.getfield 82, 4, 0, [1, 2], .returned)),
  (4, [], (.iload_n 3, 5, 3, [], .returned)),
  (5, [], (.aaload, 6, 0, [], .returned)),
  (6, [361], (.getfield 86, 9, 4, [0, 0], .returned)),
  (9, [], (.istore 6, 11, 6, [], .returned)),
  (11, [], (.aload_n 0, 12, 0, [], .returned)),
  (12, [194], (.getfield 41, 15, 1, [4, 0], .returned)),
  (15, [], (.aload_n 0, 16, 0, [], .returned)),
  (16, [192], (.getfield 37, 19, 1, [3, 0], .returned)),
  (19, [], (.isub, 20, 0, [], .returned)),
  (20, [], (.iconst 0, 21, 0, [], .constant "" 0 (0))),
  (21, [783, 739, 738, 103], (.invokestatic 91, 24, 2, [], .returned)),
  (24, [], (.istore 7, 26, 7, [], .returned)),
  (26, [], (.aload_n 0, 27, 0, [], .returned)),
  (27, [], (.iconst 0, 28, 0, [], .constant "" 0 (0))),
  (28, [200], (.putfield 96, 31, 1, [8, 0], .returned)),
  (31, [], (.iconst 0, 32, 0, [], .constant "" 0 (0))),
  (32, [], (.istore 8, 34, 8, [], .returned)),
  (34, [], (.iload 8, 36, 8, [], .returned)),
  (36, [], (.aload_n 1, 37, 1, [], .returned)),
  (37, [405], (.getfield 44, 40, 0, [5, 0], .returned)),
  (40, [], (.if_icmp .ge 169, 43, 209, [], .returned)),
  (43, [], (.aload_n 2, 44, 2, [], .returned)),
  (44, [], (.iload 8, 46, 8, [], .returned)),
  (46, [], (.aaload, 47, 0, [], .returned)),
  (47, [], (.astore 9, 49, 9, [], .returned)),
  (49, [], (.aload_n 0, 50, 0, [], .returned)),
  (50, [185], (.getfield 9, 53, 1, [0, 2], .returned)),
  (53, [], (.iload 8, 55, 8, [], .returned)),
  (55, [], (.baload, 56, 0, [], .returned)),
  (56, [], (.ifCond .eq 147, 59, 203, [], .returned)),
  (59, [], (.aload 9, 61, 9, [], .returned)),
  (61, [240], (.getfield 79, 64, 3, [0, 0], .returned)),
  (64, [], (.iload 5, 66, 5, [], .returned)),
  (66, [], (.if_icmp .ne 137, 69, 203, [], .returned)),
  (69, [], (.aload 9, 71, 9, [], .returned)),
  (71, [267], (.getfield 68, 74, 3, [8, 0], .returned)),
  (74, [], (.istore 10, 76, 10, [], .returned)),
  (76, [], (.aload 9, 78, 9, [], .returned)),
  (78, [251], (.getfield 99, 81, 3, [3, 0], .returned)),
  (81, [], (.iconst 1, 82, 0, [], .constant "" 0 (1))),
  (82, [], (.if_icmp .ne 40, 85, 122, [], .returned)),
  (85, [], (.aload_n 1, 86, 1, [], .returned)),
  (86, [], (.aload 9, 88, 9, [], .returned)),
  (88, [255], (.getfield 102, 91, 3, [4, 0], .returned)),
  (91, [784, 704, 702, 703, 99], (.invokevirtual 105, 94, 0, [1, 0, 0, 0], .code yX0_hasTable cX0_hasTable 2 (some .boolean))),
  (94, [], (.ifCond .eq 28, 97, 122, [], .returned)),
  (97, [], (.iload 10, 99, 10, [], .returned)),
  (99, [], (.aload_n 1, 100, 1, [], .returned)),
  (100, [385], (.getfield 108, 103, 0, [0, 2], .returned)),
  (103, [], (.aload 9, 105, 9, [], .returned)),
  (105, [255], (.getfield 102, 108, 3, [4, 0], .returned)),
  (108, [], (.aaload, 109, 0, [], .returned)),
  (109, [], (.iload 4, 111, 4, [], .returned)),
  (111, [], (.iload 6, 113, 6, [], .returned)),
  (113, [785, 711, 709, 710, 100], (.invokevirtual 112, 116, 0, [2, 5, 0, 0], .code yX5_tells cX5_tells 3 (some .int))),
  (116, [], (.iadd, 117, 0, [], .returned)),
  (117, [], (.istore 10, 119, 10, [], .returned)),
  (119, [], (.goto 28, 122, 147, [], .returned)),
  (122, [], (.aload 9, 124, 9, [], .returned)),
  (124, [251], (.getfield 99, 127, 3, [3, 0], .returned)),
  (127, [], (.iconst 2, 128, 0, [], .constant "" 0 (2))),
  (128, [], (.if_icmp .ne 19, 131, 147, [], .returned)),
  (131, [], (.iload 10, 133, 10, [], .returned)),
  (133, [], (.aload 9, 135, 9, [], .returned)),
  (135, [255], (.getfield 102, 138, 3, [4, 0], .returned)),
  (138, [], (.iload 7, 140, 7, [], .returned)),
  (140, [], (.imul, 141, 0, [], .returned)),
  (141, [], (.bipush 100, 143, 0, [], .constant "" 0 (100))),
  (143, [], (.idiv, 144, 0, [], .returned)),
  (144, [], (.iadd, 145, 0, [], .returned)),
  (145, [], (.istore 10, 147, 10, [], .returned)),
  (147, [], (.aload_n 0, 148, 0, [], .returned)),
  (148, [186], (.getfield 15, 151, 1, [1, 2], .returned)),
  (151, [], (.iload 8, 153, 8, [], .returned)),
  (153, [], (.iload 10, 155, 10, [], .returned)),
  (155, [], (.aload 9, 157, 9, [], .returned)),
  (157, [786, 664, 662, 663, 97], (.invokevirtual 117, 160, 0, [0, 3, 0, 0], .code yX3_rest cX3_rest 1 (some .int))),
  (160, [787, 496, 495, 103], (.invokestatic 121, 163, 1, [], .returned)),
  (163, [], (.iastore, 164, 0, [], .returned)),
  (164, [], (.aload_n 0, 165, 0, [], .returned)),
  (165, [197], (.getfield 22, 168, 1, [5, 2], .returned)),
  (168, [], (.iload 8, 170, 8, [], .returned)),
  (170, [], (.aload 9, 172, 9, [], .returned)),
  (172, [], (.aload_n 0, 173, 0, [], .returned)),
  (173, [192], (.getfield 37, 176, 1, [3, 0], .returned)),
  (176, [], (.iload 6, 178, 6, [], .returned)),
  (178, [788, 747, 745, 746, 97], (.invokevirtual 124, 181, 0, [2, 3, 0, 0], .code yX3_floorAbove cX3_floorAbove 3 (some .int))),
  (181, [], (.iastore, 182, 0, [], .returned)),
  (182, [], (.aload_n 0, 183, 0, [], .returned)),
  (183, [198], (.getfield 25, 186, 1, [6, 2], .returned)),
  (186, [], (.aload_n 0, 187, 0, [], .returned)),
  (187, [200], (.getfield 96, 190, 1, [8, 0], .returned)),
  (190, [], (.iload 8, 192, 8, [], .returned)),
  (192, [], (.iastore, 193, 0, [], .returned)),
  (193, [], (.aload_n 0, 194, 0, [], .returned)),
  (194, [], (.dup, 195, 0, [], .returned)),
  (195, [200], (.getfield 96, 198, 1, [8, 0], .returned)),
  (198, [], (.iconst 1, 199, 0, [], .constant "" 0 (1))),
  (199, [], (.iadd, 200, 0, [], .returned)),
  (200, [200], (.putfield 96, 203, 1, [8, 0], .returned)),
  (203, [], (.iinc 8 1, 206, 8, [], .constant "" 0 (1))),
  (206, [], (.goto (-172), 209, 34, [], .returned)),
  (209, [], (.return_, 210, 0, [], .returned))]
theorem ck_X1_beginRank : okT q_X1_beginRank t_X1_beginRank = true := by decide +kernel
theorem e_X1_beginRank_0 : lk t_X1_beginRank 0 = some (.aload_n 1, 1, 1, [], .returned) := rfl
theorem e_X1_beginRank_1 : lk t_X1_beginRank 1 = some (.getfield 82, 4, 0, [1, 2], .returned) := rfl
theorem e_X1_beginRank_4 : lk t_X1_beginRank 4 = some (.iload_n 3, 5, 3, [], .returned) := rfl
theorem e_X1_beginRank_5 : lk t_X1_beginRank 5 = some (.aaload, 6, 0, [], .returned) := rfl
theorem e_X1_beginRank_6 : lk t_X1_beginRank 6 = some (.getfield 86, 9, 4, [0, 0], .returned) := rfl
theorem e_X1_beginRank_9 : lk t_X1_beginRank 9 = some (.istore 6, 11, 6, [], .returned) := rfl
theorem e_X1_beginRank_11 : lk t_X1_beginRank 11 = some (.aload_n 0, 12, 0, [], .returned) := rfl
theorem e_X1_beginRank_12 : lk t_X1_beginRank 12 = some (.getfield 41, 15, 1, [4, 0], .returned) := rfl
theorem e_X1_beginRank_15 : lk t_X1_beginRank 15 = some (.aload_n 0, 16, 0, [], .returned) := rfl
theorem e_X1_beginRank_16 : lk t_X1_beginRank 16 = some (.getfield 37, 19, 1, [3, 0], .returned) := rfl
theorem e_X1_beginRank_19 : lk t_X1_beginRank 19 = some (.isub, 20, 0, [], .returned) := rfl
theorem e_X1_beginRank_20 : lk t_X1_beginRank 20 = some (.iconst 0, 21, 0, [], .constant "" 0 (0)) := rfl
theorem e_X1_beginRank_21 : lk t_X1_beginRank 21 = some (.invokestatic 91, 24, 2, [], .returned) := rfl
theorem e_X1_beginRank_24 : lk t_X1_beginRank 24 = some (.istore 7, 26, 7, [], .returned) := rfl
theorem e_X1_beginRank_26 : lk t_X1_beginRank 26 = some (.aload_n 0, 27, 0, [], .returned) := rfl
theorem e_X1_beginRank_27 : lk t_X1_beginRank 27 = some (.iconst 0, 28, 0, [], .constant "" 0 (0)) := rfl
theorem e_X1_beginRank_28 : lk t_X1_beginRank 28 = some (.putfield 96, 31, 1, [8, 0], .returned) := rfl
theorem e_X1_beginRank_31 : lk t_X1_beginRank 31 = some (.iconst 0, 32, 0, [], .constant "" 0 (0)) := rfl
theorem e_X1_beginRank_32 : lk t_X1_beginRank 32 = some (.istore 8, 34, 8, [], .returned) := rfl
theorem e_X1_beginRank_34 : lk t_X1_beginRank 34 = some (.iload 8, 36, 8, [], .returned) := rfl
theorem e_X1_beginRank_36 : lk t_X1_beginRank 36 = some (.aload_n 1, 37, 1, [], .returned) := rfl
theorem e_X1_beginRank_37 : lk t_X1_beginRank 37 = some (.getfield 44, 40, 0, [5, 0], .returned) := rfl
theorem e_X1_beginRank_40 : lk t_X1_beginRank 40 = some (.if_icmp .ge 169, 43, 209, [], .returned) := rfl
theorem e_X1_beginRank_43 : lk t_X1_beginRank 43 = some (.aload_n 2, 44, 2, [], .returned) := rfl
theorem e_X1_beginRank_44 : lk t_X1_beginRank 44 = some (.iload 8, 46, 8, [], .returned) := rfl
theorem e_X1_beginRank_46 : lk t_X1_beginRank 46 = some (.aaload, 47, 0, [], .returned) := rfl
theorem e_X1_beginRank_47 : lk t_X1_beginRank 47 = some (.astore 9, 49, 9, [], .returned) := rfl
theorem e_X1_beginRank_49 : lk t_X1_beginRank 49 = some (.aload_n 0, 50, 0, [], .returned) := rfl
theorem e_X1_beginRank_50 : lk t_X1_beginRank 50 = some (.getfield 9, 53, 1, [0, 2], .returned) := rfl
theorem e_X1_beginRank_53 : lk t_X1_beginRank 53 = some (.iload 8, 55, 8, [], .returned) := rfl
theorem e_X1_beginRank_55 : lk t_X1_beginRank 55 = some (.baload, 56, 0, [], .returned) := rfl
theorem e_X1_beginRank_56 : lk t_X1_beginRank 56 = some (.ifCond .eq 147, 59, 203, [], .returned) := rfl
theorem e_X1_beginRank_59 : lk t_X1_beginRank 59 = some (.aload 9, 61, 9, [], .returned) := rfl
theorem e_X1_beginRank_61 : lk t_X1_beginRank 61 = some (.getfield 79, 64, 3, [0, 0], .returned) := rfl
theorem e_X1_beginRank_64 : lk t_X1_beginRank 64 = some (.iload 5, 66, 5, [], .returned) := rfl
theorem e_X1_beginRank_66 : lk t_X1_beginRank 66 = some (.if_icmp .ne 137, 69, 203, [], .returned) := rfl
theorem e_X1_beginRank_69 : lk t_X1_beginRank 69 = some (.aload 9, 71, 9, [], .returned) := rfl
theorem e_X1_beginRank_71 : lk t_X1_beginRank 71 = some (.getfield 68, 74, 3, [8, 0], .returned) := rfl
theorem e_X1_beginRank_74 : lk t_X1_beginRank 74 = some (.istore 10, 76, 10, [], .returned) := rfl
theorem e_X1_beginRank_76 : lk t_X1_beginRank 76 = some (.aload 9, 78, 9, [], .returned) := rfl
theorem e_X1_beginRank_78 : lk t_X1_beginRank 78 = some (.getfield 99, 81, 3, [3, 0], .returned) := rfl
theorem e_X1_beginRank_81 : lk t_X1_beginRank 81 = some (.iconst 1, 82, 0, [], .constant "" 0 (1)) := rfl
theorem e_X1_beginRank_82 : lk t_X1_beginRank 82 = some (.if_icmp .ne 40, 85, 122, [], .returned) := rfl
theorem e_X1_beginRank_85 : lk t_X1_beginRank 85 = some (.aload_n 1, 86, 1, [], .returned) := rfl
theorem e_X1_beginRank_86 : lk t_X1_beginRank 86 = some (.aload 9, 88, 9, [], .returned) := rfl
theorem e_X1_beginRank_88 : lk t_X1_beginRank 88 = some (.getfield 102, 91, 3, [4, 0], .returned) := rfl
theorem e_X1_beginRank_91 : lk t_X1_beginRank 91 = some (.invokevirtual 105, 94, 0, [1, 0, 0, 0], .code yX0_hasTable cX0_hasTable 2 (some .boolean)) := rfl
theorem e_X1_beginRank_94 : lk t_X1_beginRank 94 = some (.ifCond .eq 28, 97, 122, [], .returned) := rfl
theorem e_X1_beginRank_97 : lk t_X1_beginRank 97 = some (.iload 10, 99, 10, [], .returned) := rfl
theorem e_X1_beginRank_99 : lk t_X1_beginRank 99 = some (.aload_n 1, 100, 1, [], .returned) := rfl
theorem e_X1_beginRank_100 : lk t_X1_beginRank 100 = some (.getfield 108, 103, 0, [0, 2], .returned) := rfl
theorem e_X1_beginRank_103 : lk t_X1_beginRank 103 = some (.aload 9, 105, 9, [], .returned) := rfl
theorem e_X1_beginRank_105 : lk t_X1_beginRank 105 = some (.getfield 102, 108, 3, [4, 0], .returned) := rfl
theorem e_X1_beginRank_108 : lk t_X1_beginRank 108 = some (.aaload, 109, 0, [], .returned) := rfl
theorem e_X1_beginRank_109 : lk t_X1_beginRank 109 = some (.iload 4, 111, 4, [], .returned) := rfl
theorem e_X1_beginRank_111 : lk t_X1_beginRank 111 = some (.iload 6, 113, 6, [], .returned) := rfl
theorem e_X1_beginRank_113 : lk t_X1_beginRank 113 = some (.invokevirtual 112, 116, 0, [2, 5, 0, 0], .code yX5_tells cX5_tells 3 (some .int)) := rfl
theorem e_X1_beginRank_116 : lk t_X1_beginRank 116 = some (.iadd, 117, 0, [], .returned) := rfl
theorem e_X1_beginRank_117 : lk t_X1_beginRank 117 = some (.istore 10, 119, 10, [], .returned) := rfl
theorem e_X1_beginRank_119 : lk t_X1_beginRank 119 = some (.goto 28, 122, 147, [], .returned) := rfl
theorem e_X1_beginRank_122 : lk t_X1_beginRank 122 = some (.aload 9, 124, 9, [], .returned) := rfl
theorem e_X1_beginRank_124 : lk t_X1_beginRank 124 = some (.getfield 99, 127, 3, [3, 0], .returned) := rfl
theorem e_X1_beginRank_127 : lk t_X1_beginRank 127 = some (.iconst 2, 128, 0, [], .constant "" 0 (2)) := rfl
theorem e_X1_beginRank_128 : lk t_X1_beginRank 128 = some (.if_icmp .ne 19, 131, 147, [], .returned) := rfl
theorem e_X1_beginRank_131 : lk t_X1_beginRank 131 = some (.iload 10, 133, 10, [], .returned) := rfl
theorem e_X1_beginRank_133 : lk t_X1_beginRank 133 = some (.aload 9, 135, 9, [], .returned) := rfl
theorem e_X1_beginRank_135 : lk t_X1_beginRank 135 = some (.getfield 102, 138, 3, [4, 0], .returned) := rfl
theorem e_X1_beginRank_138 : lk t_X1_beginRank 138 = some (.iload 7, 140, 7, [], .returned) := rfl
theorem e_X1_beginRank_140 : lk t_X1_beginRank 140 = some (.imul, 141, 0, [], .returned) := rfl
theorem e_X1_beginRank_141 : lk t_X1_beginRank 141 = some (.bipush 100, 143, 0, [], .constant "" 0 (100)) := rfl
theorem e_X1_beginRank_143 : lk t_X1_beginRank 143 = some (.idiv, 144, 0, [], .returned) := rfl
theorem e_X1_beginRank_144 : lk t_X1_beginRank 144 = some (.iadd, 145, 0, [], .returned) := rfl
theorem e_X1_beginRank_145 : lk t_X1_beginRank 145 = some (.istore 10, 147, 10, [], .returned) := rfl
theorem e_X1_beginRank_147 : lk t_X1_beginRank 147 = some (.aload_n 0, 148, 0, [], .returned) := rfl
theorem e_X1_beginRank_148 : lk t_X1_beginRank 148 = some (.getfield 15, 151, 1, [1, 2], .returned) := rfl
theorem e_X1_beginRank_151 : lk t_X1_beginRank 151 = some (.iload 8, 153, 8, [], .returned) := rfl
theorem e_X1_beginRank_153 : lk t_X1_beginRank 153 = some (.iload 10, 155, 10, [], .returned) := rfl
theorem e_X1_beginRank_155 : lk t_X1_beginRank 155 = some (.aload 9, 157, 9, [], .returned) := rfl
theorem e_X1_beginRank_157 : lk t_X1_beginRank 157 = some (.invokevirtual 117, 160, 0, [0, 3, 0, 0], .code yX3_rest cX3_rest 1 (some .int)) := rfl
theorem e_X1_beginRank_160 : lk t_X1_beginRank 160 = some (.invokestatic 121, 163, 1, [], .returned) := rfl
theorem e_X1_beginRank_163 : lk t_X1_beginRank 163 = some (.iastore, 164, 0, [], .returned) := rfl
theorem e_X1_beginRank_164 : lk t_X1_beginRank 164 = some (.aload_n 0, 165, 0, [], .returned) := rfl
theorem e_X1_beginRank_165 : lk t_X1_beginRank 165 = some (.getfield 22, 168, 1, [5, 2], .returned) := rfl
theorem e_X1_beginRank_168 : lk t_X1_beginRank 168 = some (.iload 8, 170, 8, [], .returned) := rfl
theorem e_X1_beginRank_170 : lk t_X1_beginRank 170 = some (.aload 9, 172, 9, [], .returned) := rfl
theorem e_X1_beginRank_172 : lk t_X1_beginRank 172 = some (.aload_n 0, 173, 0, [], .returned) := rfl
theorem e_X1_beginRank_173 : lk t_X1_beginRank 173 = some (.getfield 37, 176, 1, [3, 0], .returned) := rfl
theorem e_X1_beginRank_176 : lk t_X1_beginRank 176 = some (.iload 6, 178, 6, [], .returned) := rfl
theorem e_X1_beginRank_178 : lk t_X1_beginRank 178 = some (.invokevirtual 124, 181, 0, [2, 3, 0, 0], .code yX3_floorAbove cX3_floorAbove 3 (some .int)) := rfl
theorem e_X1_beginRank_181 : lk t_X1_beginRank 181 = some (.iastore, 182, 0, [], .returned) := rfl
theorem e_X1_beginRank_182 : lk t_X1_beginRank 182 = some (.aload_n 0, 183, 0, [], .returned) := rfl
theorem e_X1_beginRank_183 : lk t_X1_beginRank 183 = some (.getfield 25, 186, 1, [6, 2], .returned) := rfl
theorem e_X1_beginRank_186 : lk t_X1_beginRank 186 = some (.aload_n 0, 187, 0, [], .returned) := rfl
theorem e_X1_beginRank_187 : lk t_X1_beginRank 187 = some (.getfield 96, 190, 1, [8, 0], .returned) := rfl
theorem e_X1_beginRank_190 : lk t_X1_beginRank 190 = some (.iload 8, 192, 8, [], .returned) := rfl
theorem e_X1_beginRank_192 : lk t_X1_beginRank 192 = some (.iastore, 193, 0, [], .returned) := rfl
theorem e_X1_beginRank_193 : lk t_X1_beginRank 193 = some (.aload_n 0, 194, 0, [], .returned) := rfl
theorem e_X1_beginRank_194 : lk t_X1_beginRank 194 = some (.dup, 195, 0, [], .returned) := rfl
theorem e_X1_beginRank_195 : lk t_X1_beginRank 195 = some (.getfield 96, 198, 1, [8, 0], .returned) := rfl
theorem e_X1_beginRank_198 : lk t_X1_beginRank 198 = some (.iconst 1, 199, 0, [], .constant "" 0 (1)) := rfl
theorem e_X1_beginRank_199 : lk t_X1_beginRank 199 = some (.iadd, 200, 0, [], .returned) := rfl
theorem e_X1_beginRank_200 : lk t_X1_beginRank 200 = some (.putfield 96, 203, 1, [8, 0], .returned) := rfl
theorem e_X1_beginRank_203 : lk t_X1_beginRank 203 = some (.iinc 8 1, 206, 8, [], .constant "" 0 (1)) := rfl
theorem e_X1_beginRank_206 : lk t_X1_beginRank 206 = some (.goto (-172), 209, 34, [], .returned) := rfl
theorem e_X1_beginRank_209 : lk t_X1_beginRank 209 = some (.return_, 210, 0, [], .returned) := rfl
abbrev q_X1_shareRank : MI := (yX1_shareRank, cX1_shareRank, 5, none)
def t_X1_shareRank : Tab := [(0, [793], (.ldc 127, 2, 0, [], .constant "" 0 (1000000))),
  (2, [], (.istore_n 2, 3, 2, [], .returned)),
  (3, [], (.iconst 0, 4, 0, [], .constant "" 0 (0))),
  (4, [], (.istore_n 3, 5, 3, [], .returned)),
  (5, [], (.iload_n 3, 6, 3, [], .returned)),
  (6, [], (.aload_n 0, 7, 0, [], .returned)),
  (7, [200], (.getfield 96, 10, 1, [8, 0], .returned)),
  (10, [], (.if_icmp .ge 33, 13, 43, [], .returned)),
  (13, [], (.aload_n 0, 14, 0, [], .returned)),
  (14, [], (.iload_n 2, 15, 2, [], .returned)),
  (15, [794, 797, 796, 26, 95], (.invokevirtual 128, 18, 0, [1, 1, 0, 0], .code yX1_greatestFloorBelow cX1_greatestFloorBelow 5 (some .int))),
  (18, [], (.istore 4, 20, 4, [], .returned)),
  (20, [], (.iload 4, 22, 4, [], .returned)),
  (22, [], (.iconst (-1), 23, 0, [], .constant "" 0 (-1))),
  (23, [], (.if_icmp .ne 4, 26, 27, [], .returned)),
  (26, [], (.return_, 27, 0, [], .returned)),
  (27, [], (.aload_n 0, 28, 0, [], .returned)),
  (28, [], (.iload 4, 30, 4, [], .returned)),
  (30, [], (.iload_n 1, 31, 1, [], .returned)),
  (31, [798, 801, 800, 27, 95], (.invokevirtual 132, 34, 0, [2, 1, 0, 0], .code yX1_sharePool cX1_sharePool 5 none)),
  (34, [], (.iload 4, 36, 4, [], .returned)),
  (36, [], (.istore_n 2, 37, 2, [], .returned)),
  (37, [], (.iinc 3 1, 40, 3, [], .constant "" 0 (1))),
  (40, [], (.goto (-35), 43, 5, [], .returned)),
  (43, [], (.return_, 44, 0, [], .returned))]
theorem ck_X1_shareRank : okT q_X1_shareRank t_X1_shareRank = true := by decide +kernel
theorem e_X1_shareRank_0 : lk t_X1_shareRank 0 = some (.ldc 127, 2, 0, [], .constant "" 0 (1000000)) := rfl
theorem e_X1_shareRank_2 : lk t_X1_shareRank 2 = some (.istore_n 2, 3, 2, [], .returned) := rfl
theorem e_X1_shareRank_3 : lk t_X1_shareRank 3 = some (.iconst 0, 4, 0, [], .constant "" 0 (0)) := rfl
theorem e_X1_shareRank_4 : lk t_X1_shareRank 4 = some (.istore_n 3, 5, 3, [], .returned) := rfl
theorem e_X1_shareRank_5 : lk t_X1_shareRank 5 = some (.iload_n 3, 6, 3, [], .returned) := rfl
theorem e_X1_shareRank_6 : lk t_X1_shareRank 6 = some (.aload_n 0, 7, 0, [], .returned) := rfl
theorem e_X1_shareRank_7 : lk t_X1_shareRank 7 = some (.getfield 96, 10, 1, [8, 0], .returned) := rfl
theorem e_X1_shareRank_10 : lk t_X1_shareRank 10 = some (.if_icmp .ge 33, 13, 43, [], .returned) := rfl
theorem e_X1_shareRank_13 : lk t_X1_shareRank 13 = some (.aload_n 0, 14, 0, [], .returned) := rfl
theorem e_X1_shareRank_14 : lk t_X1_shareRank 14 = some (.iload_n 2, 15, 2, [], .returned) := rfl
theorem e_X1_shareRank_15 : lk t_X1_shareRank 15 = some (.invokevirtual 128, 18, 0, [1, 1, 0, 0], .code yX1_greatestFloorBelow cX1_greatestFloorBelow 5 (some .int)) := rfl
theorem e_X1_shareRank_18 : lk t_X1_shareRank 18 = some (.istore 4, 20, 4, [], .returned) := rfl
theorem e_X1_shareRank_20 : lk t_X1_shareRank 20 = some (.iload 4, 22, 4, [], .returned) := rfl
theorem e_X1_shareRank_22 : lk t_X1_shareRank 22 = some (.iconst (-1), 23, 0, [], .constant "" 0 (-1)) := rfl
theorem e_X1_shareRank_23 : lk t_X1_shareRank 23 = some (.if_icmp .ne 4, 26, 27, [], .returned) := rfl
theorem e_X1_shareRank_26 : lk t_X1_shareRank 26 = some (.return_, 27, 0, [], .returned) := rfl
theorem e_X1_shareRank_27 : lk t_X1_shareRank 27 = some (.aload_n 0, 28, 0, [], .returned) := rfl
theorem e_X1_shareRank_28 : lk t_X1_shareRank 28 = some (.iload 4, 30, 4, [], .returned) := rfl
theorem e_X1_shareRank_30 : lk t_X1_shareRank 30 = some (.iload_n 1, 31, 1, [], .returned) := rfl
theorem e_X1_shareRank_31 : lk t_X1_shareRank 31 = some (.invokevirtual 132, 34, 0, [2, 1, 0, 0], .code yX1_sharePool cX1_sharePool 5 none) := rfl
theorem e_X1_shareRank_34 : lk t_X1_shareRank 34 = some (.iload 4, 36, 4, [], .returned) := rfl
theorem e_X1_shareRank_36 : lk t_X1_shareRank 36 = some (.istore_n 2, 37, 2, [], .returned) := rfl
theorem e_X1_shareRank_37 : lk t_X1_shareRank 37 = some (.iinc 3 1, 40, 3, [], .constant "" 0 (1)) := rfl
theorem e_X1_shareRank_40 : lk t_X1_shareRank 40 = some (.goto (-35), 43, 5, [], .returned) := rfl
theorem e_X1_shareRank_43 : lk t_X1_shareRank 43 = some (.return_, 44, 0, [], .returned) := rfl
abbrev q_X1_greatestFloorBelow : MI := (yX1_greatestFloorBelow, cX1_greatestFloorBelow, 5, (some .int))
def t_X1_greatestFloorBelow : Tab := [(0, [], (.iconst (-1), 1, 0, [], .constant "" 0 (-1))),
  (1, [], (.istore_n 2, 2, 2, [], .returned)),
  (2, [], (.iconst 0, 3, 0, [], .constant "" 0 (0))),
  (3, [], (.istore_n 3, 4, 3, [], .returned)),
  (4, [], (.iload_n 3, 5, 3, [], .returned)),
  (5, [], (.aload_n 0, 6, 0, [], .returned)),
  (6, [200], (.getfield 96, 9, 1, [8, 0], .returned)),
  (9, [], (.if_icmp .ge 50, 12, 59, [], .returned)),
  (12, [], (.aload_n 0, 13, 0, [], .returned)),
  (13, [198], (.getfield 25, 16, 1, [6, 2], .returned)),
  (16, [], (.iload_n 3, 17, 3, [], .returned)),
  (17, [], (.iaload, 18, 0, [], .returned)),
  (18, [], (.istore 4, 20, 4, [], .returned)),
  (20, [], (.aload_n 0, 21, 0, [], .returned)),
  (21, [186], (.getfield 15, 24, 1, [1, 2], .returned)),
  (24, [], (.iload 4, 26, 4, [], .returned)),
  (26, [], (.iaload, 27, 0, [], .returned)),
  (27, [], (.ifCond .le 26, 30, 53, [], .returned)),
  (30, [], (.aload_n 0, 31, 0, [], .returned)),
  (31, [197], (.getfield 22, 34, 1, [5, 2], .returned)),
  (34, [], (.iload 4, 36, 4, [], .returned)),
  (36, [], (.iaload, 37, 0, [], .returned)),
  (37, [], (.iload_n 1, 38, 1, [], .returned)),
  (38, [], (.if_icmp .ge 15, 41, 53, [], .returned)),
  (41, [], (.iload_n 2, 42, 2, [], .returned)),
  (42, [], (.aload_n 0, 43, 0, [], .returned)),
  (43, [197], (.getfield 22, 46, 1, [5, 2], .returned)),
  (46, [], (.iload 4, 48, 4, [], .returned)),
  (48, [], (.iaload, 49, 0, [], .returned)),
  (49, [783, 739, 738, 103], (.invokestatic 91, 52, 2, [], .returned)),
  (52, [], (.istore_n 2, 53, 2, [], .returned)),
  (53, [], (.iinc 3 1, 56, 3, [], .constant "" 0 (1))),
  (56, [], (.goto (-52), 59, 4, [], .returned)),
  (59, [], (.iload_n 2, 60, 2, [], .returned)),
  (60, [], (.ireturn, 61, 0, [], .returned))]
theorem ck_X1_greatestFloorBelow : okT q_X1_greatestFloorBelow t_X1_greatestFloorBelow = true := by decide +kernel
theorem e_X1_greatestFloorBelow_0 : lk t_X1_greatestFloorBelow 0 = some (.iconst (-1), 1, 0, [], .constant "" 0 (-1)) := rfl
theorem e_X1_greatestFloorBelow_1 : lk t_X1_greatestFloorBelow 1 = some (.istore_n 2, 2, 2, [], .returned) := rfl
theorem e_X1_greatestFloorBelow_2 : lk t_X1_greatestFloorBelow 2 = some (.iconst 0, 3, 0, [], .constant "" 0 (0)) := rfl
theorem e_X1_greatestFloorBelow_3 : lk t_X1_greatestFloorBelow 3 = some (.istore_n 3, 4, 3, [], .returned) := rfl
theorem e_X1_greatestFloorBelow_4 : lk t_X1_greatestFloorBelow 4 = some (.iload_n 3, 5, 3, [], .returned) := rfl
theorem e_X1_greatestFloorBelow_5 : lk t_X1_greatestFloorBelow 5 = some (.aload_n 0, 6, 0, [], .returned) := rfl
theorem e_X1_greatestFloorBelow_6 : lk t_X1_greatestFloorBelow 6 = some (.getfield 96, 9, 1, [8, 0], .returned) := rfl
theorem e_X1_greatestFloorBelow_9 : lk t_X1_greatestFloorBelow 9 = some (.if_icmp .ge 50, 12, 59, [], .returned) := rfl
theorem e_X1_greatestFloorBelow_12 : lk t_X1_greatestFloorBelow 12 = some (.aload_n 0, 13, 0, [], .returned) := rfl
theorem e_X1_greatestFloorBelow_13 : lk t_X1_greatestFloorBelow 13 = some (.getfield 25, 16, 1, [6, 2], .returned) := rfl
theorem e_X1_greatestFloorBelow_16 : lk t_X1_greatestFloorBelow 16 = some (.iload_n 3, 17, 3, [], .returned) := rfl
theorem e_X1_greatestFloorBelow_17 : lk t_X1_greatestFloorBelow 17 = some (.iaload, 18, 0, [], .returned) := rfl
theorem e_X1_greatestFloorBelow_18 : lk t_X1_greatestFloorBelow 18 = some (.istore 4, 20, 4, [], .returned) := rfl
theorem e_X1_greatestFloorBelow_20 : lk t_X1_greatestFloorBelow 20 = some (.aload_n 0, 21, 0, [], .returned) := rfl
theorem e_X1_greatestFloorBelow_21 : lk t_X1_greatestFloorBelow 21 = some (.getfield 15, 24, 1, [1, 2], .returned) := rfl
theorem e_X1_greatestFloorBelow_24 : lk t_X1_greatestFloorBelow 24 = some (.iload 4, 26, 4, [], .returned) := rfl
theorem e_X1_greatestFloorBelow_26 : lk t_X1_greatestFloorBelow 26 = some (.iaload, 27, 0, [], .returned) := rfl
theorem e_X1_greatestFloorBelow_27 : lk t_X1_greatestFloorBelow 27 = some (.ifCond .le 26, 30, 53, [], .returned) := rfl
theorem e_X1_greatestFloorBelow_30 : lk t_X1_greatestFloorBelow 30 = some (.aload_n 0, 31, 0, [], .returned) := rfl
theorem e_X1_greatestFloorBelow_31 : lk t_X1_greatestFloorBelow 31 = some (.getfield 22, 34, 1, [5, 2], .returned) := rfl
theorem e_X1_greatestFloorBelow_34 : lk t_X1_greatestFloorBelow 34 = some (.iload 4, 36, 4, [], .returned) := rfl
theorem e_X1_greatestFloorBelow_36 : lk t_X1_greatestFloorBelow 36 = some (.iaload, 37, 0, [], .returned) := rfl
theorem e_X1_greatestFloorBelow_37 : lk t_X1_greatestFloorBelow 37 = some (.iload_n 1, 38, 1, [], .returned) := rfl
theorem e_X1_greatestFloorBelow_38 : lk t_X1_greatestFloorBelow 38 = some (.if_icmp .ge 15, 41, 53, [], .returned) := rfl
theorem e_X1_greatestFloorBelow_41 : lk t_X1_greatestFloorBelow 41 = some (.iload_n 2, 42, 2, [], .returned) := rfl
theorem e_X1_greatestFloorBelow_42 : lk t_X1_greatestFloorBelow 42 = some (.aload_n 0, 43, 0, [], .returned) := rfl
theorem e_X1_greatestFloorBelow_43 : lk t_X1_greatestFloorBelow 43 = some (.getfield 22, 46, 1, [5, 2], .returned) := rfl
theorem e_X1_greatestFloorBelow_46 : lk t_X1_greatestFloorBelow 46 = some (.iload 4, 48, 4, [], .returned) := rfl
theorem e_X1_greatestFloorBelow_48 : lk t_X1_greatestFloorBelow 48 = some (.iaload, 49, 0, [], .returned) := rfl
theorem e_X1_greatestFloorBelow_49 : lk t_X1_greatestFloorBelow 49 = some (.invokestatic 91, 52, 2, [], .returned) := rfl
theorem e_X1_greatestFloorBelow_52 : lk t_X1_greatestFloorBelow 52 = some (.istore_n 2, 53, 2, [], .returned) := rfl
theorem e_X1_greatestFloorBelow_53 : lk t_X1_greatestFloorBelow 53 = some (.iinc 3 1, 56, 3, [], .constant "" 0 (1)) := rfl
theorem e_X1_greatestFloorBelow_56 : lk t_X1_greatestFloorBelow 56 = some (.goto (-52), 59, 4, [], .returned) := rfl
theorem e_X1_greatestFloorBelow_59 : lk t_X1_greatestFloorBelow 59 = some (.iload_n 2, 60, 2, [], .returned) := rfl
theorem e_X1_greatestFloorBelow_60 : lk t_X1_greatestFloorBelow 60 = some (.ireturn, 61, 0, [], .returned) := rfl
abbrev q_X1_sharePool : MI := (yX1_sharePool, cX1_sharePool, 5, none)
def t_X1_sharePool : Tab := [(0, [], (.aload_n 0, 1, 0, [], .returned)),
  (1, [194], (.getfield 41, 4, 1, [4, 0], .returned)),
  (4, [], (.iload_n 1, 5, 1, [], .returned)),
  (5, [], (.isub, 6, 0, [], .returned)),
  (6, [], (.istore_n 3, 7, 3, [], .returned)),
  (7, [], (.aload_n 0, 8, 0, [], .returned)),
  (8, [], (.iload_n 1, 9, 1, [], .returned)),
  (9, [802, 805, 804, 28, 95], (.invokevirtual 136, 12, 0, [1, 1, 0, 0], .code yX1_gather cX1_gather 5 (some .int))),
  (12, [], (.istore 4, 14, 4, [], .returned)),
  (14, [], (.iload_n 3, 15, 3, [], .returned)),
  (15, [], (.ifCond .le 8, 18, 23, [], .returned)),
  (18, [], (.iload 4, 20, 4, [], .returned)),
  (20, [], (.ifCond .gt 4, 23, 24, [], .returned)),
  (23, [], (.return_, 24, 0, [], .returned)),
  (24, [], (.iload_n 3, 25, 3, [], .returned)),
  (25, [], (.iload 4, 27, 4, [], .returned)),
  (27, [], (.if_icmp .lt 8, 30, 35, [], .returned)),
  (30, [], (.aload_n 0, 31, 0, [], .returned)),
  (31, [806, 809, 808, 29, 95], (.invokevirtual 139, 34, 0, [0, 1, 0, 0], .code yX1_giveAll cX1_giveAll 3 none)),
  (34, [], (.return_, 35, 0, [], .returned)),
  (35, [], (.iload_n 2, 36, 2, [], .returned)),
  (36, [], (.ifCond .eq 11, 39, 47, [], .returned)),
  (39, [], (.aload_n 0, 40, 0, [], .returned)),
  (40, [], (.iload_n 1, 41, 1, [], .returned)),
  (41, [814, 817, 816, 31, 95], (.invokevirtual 142, 44, 0, [1, 1, 0, 0], .code yX1_giveEvenly cX1_giveEvenly 8 none)),
  (44, [], (.goto 10, 47, 54, [], .returned)),
  (47, [], (.aload_n 0, 48, 0, [], .returned)),
  (48, [], (.iload_n 3, 49, 3, [], .returned)),
  (49, [], (.iload 4, 51, 4, [], .returned)),
  (51, [818, 821, 820, 32, 95], (.invokevirtual 146, 54, 0, [2, 1, 0, 0], .code yX1_giveByParts cX1_giveByParts 5 none)),
  (54, [], (.aload_n 0, 55, 0, [], .returned)),
  (55, [], (.aload_n 0, 56, 0, [], .returned)),
  (56, [194], (.getfield 41, 59, 1, [4, 0], .returned)),
  (59, [], (.iload_n 1, 60, 1, [], .returned)),
  (60, [], (.isub, 61, 0, [], .returned)),
  (61, [822, 825, 824, 33, 95], (.invokevirtual 149, 64, 0, [1, 1, 0, 0], .code yX1_giveOneEach cX1_giveOneEach 5 none)),
  (64, [], (.return_, 65, 0, [], .returned))]
theorem ck_X1_sharePool : okT q_X1_sharePool t_X1_sharePool = true := by decide +kernel
theorem e_X1_sharePool_0 : lk t_X1_sharePool 0 = some (.aload_n 0, 1, 0, [], .returned) := rfl
theorem e_X1_sharePool_1 : lk t_X1_sharePool 1 = some (.getfield 41, 4, 1, [4, 0], .returned) := rfl
theorem e_X1_sharePool_4 : lk t_X1_sharePool 4 = some (.iload_n 1, 5, 1, [], .returned) := rfl
theorem e_X1_sharePool_5 : lk t_X1_sharePool 5 = some (.isub, 6, 0, [], .returned) := rfl
theorem e_X1_sharePool_6 : lk t_X1_sharePool 6 = some (.istore_n 3, 7, 3, [], .returned) := rfl
theorem e_X1_sharePool_7 : lk t_X1_sharePool 7 = some (.aload_n 0, 8, 0, [], .returned) := rfl
theorem e_X1_sharePool_8 : lk t_X1_sharePool 8 = some (.iload_n 1, 9, 1, [], .returned) := rfl
theorem e_X1_sharePool_9 : lk t_X1_sharePool 9 = some (.invokevirtual 136, 12, 0, [1, 1, 0, 0], .code yX1_gather cX1_gather 5 (some .int)) := rfl
theorem e_X1_sharePool_12 : lk t_X1_sharePool 12 = some (.istore 4, 14, 4, [], .returned) := rfl
theorem e_X1_sharePool_14 : lk t_X1_sharePool 14 = some (.iload_n 3, 15, 3, [], .returned) := rfl
theorem e_X1_sharePool_15 : lk t_X1_sharePool 15 = some (.ifCond .le 8, 18, 23, [], .returned) := rfl
theorem e_X1_sharePool_18 : lk t_X1_sharePool 18 = some (.iload 4, 20, 4, [], .returned) := rfl
theorem e_X1_sharePool_20 : lk t_X1_sharePool 20 = some (.ifCond .gt 4, 23, 24, [], .returned) := rfl
theorem e_X1_sharePool_23 : lk t_X1_sharePool 23 = some (.return_, 24, 0, [], .returned) := rfl
theorem e_X1_sharePool_24 : lk t_X1_sharePool 24 = some (.iload_n 3, 25, 3, [], .returned) := rfl
theorem e_X1_sharePool_25 : lk t_X1_sharePool 25 = some (.iload 4, 27, 4, [], .returned) := rfl
theorem e_X1_sharePool_27 : lk t_X1_sharePool 27 = some (.if_icmp .lt 8, 30, 35, [], .returned) := rfl
theorem e_X1_sharePool_30 : lk t_X1_sharePool 30 = some (.aload_n 0, 31, 0, [], .returned) := rfl
theorem e_X1_sharePool_31 : lk t_X1_sharePool 31 = some (.invokevirtual 139, 34, 0, [0, 1, 0, 0], .code yX1_giveAll cX1_giveAll 3 none) := rfl
theorem e_X1_sharePool_34 : lk t_X1_sharePool 34 = some (.return_, 35, 0, [], .returned) := rfl
theorem e_X1_sharePool_35 : lk t_X1_sharePool 35 = some (.iload_n 2, 36, 2, [], .returned) := rfl
theorem e_X1_sharePool_36 : lk t_X1_sharePool 36 = some (.ifCond .eq 11, 39, 47, [], .returned) := rfl
theorem e_X1_sharePool_39 : lk t_X1_sharePool 39 = some (.aload_n 0, 40, 0, [], .returned) := rfl
theorem e_X1_sharePool_40 : lk t_X1_sharePool 40 = some (.iload_n 1, 41, 1, [], .returned) := rfl
theorem e_X1_sharePool_41 : lk t_X1_sharePool 41 = some (.invokevirtual 142, 44, 0, [1, 1, 0, 0], .code yX1_giveEvenly cX1_giveEvenly 8 none) := rfl
theorem e_X1_sharePool_44 : lk t_X1_sharePool 44 = some (.goto 10, 47, 54, [], .returned) := rfl
theorem e_X1_sharePool_47 : lk t_X1_sharePool 47 = some (.aload_n 0, 48, 0, [], .returned) := rfl
theorem e_X1_sharePool_48 : lk t_X1_sharePool 48 = some (.iload_n 3, 49, 3, [], .returned) := rfl
theorem e_X1_sharePool_49 : lk t_X1_sharePool 49 = some (.iload 4, 51, 4, [], .returned) := rfl
theorem e_X1_sharePool_51 : lk t_X1_sharePool 51 = some (.invokevirtual 146, 54, 0, [2, 1, 0, 0], .code yX1_giveByParts cX1_giveByParts 5 none) := rfl
theorem e_X1_sharePool_54 : lk t_X1_sharePool 54 = some (.aload_n 0, 55, 0, [], .returned) := rfl
theorem e_X1_sharePool_55 : lk t_X1_sharePool 55 = some (.aload_n 0, 56, 0, [], .returned) := rfl
theorem e_X1_sharePool_56 : lk t_X1_sharePool 56 = some (.getfield 41, 59, 1, [4, 0], .returned) := rfl
theorem e_X1_sharePool_59 : lk t_X1_sharePool 59 = some (.iload_n 1, 60, 1, [], .returned) := rfl
theorem e_X1_sharePool_60 : lk t_X1_sharePool 60 = some (.isub, 61, 0, [], .returned) := rfl
theorem e_X1_sharePool_61 : lk t_X1_sharePool 61 = some (.invokevirtual 149, 64, 0, [1, 1, 0, 0], .code yX1_giveOneEach cX1_giveOneEach 5 none) := rfl
theorem e_X1_sharePool_64 : lk t_X1_sharePool 64 = some (.return_, 65, 0, [], .returned) := rfl
abbrev q_X1_gather : MI := (yX1_gather, cX1_gather, 5, (some .int))
def t_X1_gather : Tab := [(0, [], (.iconst 0, 1, 0, [], .constant "" 0 (0))),
  (1, [], (.istore_n 2, 2, 2, [], .returned)),
  (2, [], (.aload_n 0, 3, 0, [], .returned)),
  (3, [], (.iconst 0, 4, 0, [], .constant "" 0 (0))),
  (4, [201], (.putfield 152, 7, 1, [9, 0], .returned)),
  (7, [], (.iconst 0, 8, 0, [], .constant "" 0 (0))),
  (8, [], (.istore_n 3, 9, 3, [], .returned)),
  (9, [], (.iload_n 3, 10, 3, [], .returned)),
  (10, [], (.aload_n 0, 11, 0, [], .returned)),
  (11, [200], (.getfield 96, 14, 1, [8, 0], .returned)),
  (14, [], (.if_icmp .ge 84, 17, 98, [], .returned)),
  (17, [], (.aload_n 0, 18, 0, [], .returned)),
  (18, [198], (.getfield 25, 21, 1, [6, 2], .returned)),
  (21, [], (.iload_n 3, 22, 3, [], .returned)),
  (22, [], (.iaload, 23, 0, [], .returned)),
  (23, [], (.istore 4, 25, 4, [], .returned)),
  (25, [], (.aload_n 0, 26, 0, [], .returned)),
  (26, [197], (.getfield 22, 29, 1, [5, 2], .returned)),
  (29, [], (.iload 4, 31, 4, [], .returned)),
  (31, [], (.iaload, 32, 0, [], .returned)),
  (32, [], (.iload_n 1, 33, 1, [], .returned)),
  (33, [], (.if_icmp .gt 59, 36, 92, [], .returned)),
  (36, [], (.aload_n 0, 37, 0, [], .returned)),
  (37, [186], (.getfield 15, 40, 1, [1, 2], .returned)),
  (40, [], (.iload 4, 42, 4, [], .returned)),
  (42, [], (.iaload, 43, 0, [], .returned)),
  (43, [], (.aload_n 0, 44, 0, [], .returned)),
  (44, [189], (.getfield 19, 47, 1, [2, 2], .returned)),
  (47, [], (.iload 4, 49, 4, [], .returned)),
  (49, [], (.iaload, 50, 0, [], .returned)),
  (50, [], (.if_icmp .le 42, 53, 92, [], .returned)),
  (53, [], (.iload_n 2, 54, 2, [], .returned)),
  (54, [], (.aload_n 0, 55, 0, [], .returned)),
  (55, [186], (.getfield 15, 58, 1, [1, 2], .returned)),
  (58, [], (.iload 4, 60, 4, [], .returned)),
  (60, [], (.iaload, 61, 0, [], .returned)),
  (61, [], (.aload_n 0, 62, 0, [], .returned)),
  (62, [189], (.getfield 19, 65, 1, [2, 2], .returned)),
  (65, [], (.iload 4, 67, 4, [], .returned)),
  (67, [], (.iaload, 68, 0, [], .returned)),
  (68, [], (.isub, 69, 0, [], .returned)),
  (69, [], (.iadd, 70, 0, [], .returned)),
  (70, [], (.istore_n 2, 71, 2, [], .returned)),
  (71, [], (.aload_n 0, 72, 0, [], .returned)),
  (72, [199], (.getfield 28, 75, 1, [7, 2], .returned)),
  (75, [], (.aload_n 0, 76, 0, [], .returned)),
  (76, [201], (.getfield 152, 79, 1, [9, 0], .returned)),
  (79, [], (.iload 4, 81, 4, [], .returned)),
  (81, [], (.iastore, 82, 0, [], .returned)),
  (82, [], (.aload_n 0, 83, 0, [], .returned)),
  (83, [], (.dup, 84, 0, [], .returned)),
  (84, [201], (.getfield 152, 87, 1, [9, 0], .returned)),
  (87, [], (.iconst 1, 88, 0, [], .constant "" 0 (1))),
  (88, [], (.iadd, 89, 0, [], .returned)),
  (89, [201], (.putfield 152, 92, 1, [9, 0], .returned)),
  (92, [], (.iinc 3 1, 95, 3, [], .constant "" 0 (1))),
  (95, [], (.goto (-86), 98, 9, [], .returned)),
  (98, [], (.iload_n 2, 99, 2, [], .returned)),
  (99, [], (.ireturn, 100, 0, [], .returned))]
theorem ck_X1_gather : okT q_X1_gather t_X1_gather = true := by decide +kernel
theorem e_X1_gather_0 : lk t_X1_gather 0 = some (.iconst 0, 1, 0, [], .constant "" 0 (0)) := rfl
theorem e_X1_gather_1 : lk t_X1_gather 1 = some (.istore_n 2, 2, 2, [], .returned) := rfl
theorem e_X1_gather_2 : lk t_X1_gather 2 = some (.aload_n 0, 3, 0, [], .returned) := rfl
theorem e_X1_gather_3 : lk t_X1_gather 3 = some (.iconst 0, 4, 0, [], .constant "" 0 (0)) := rfl
theorem e_X1_gather_4 : lk t_X1_gather 4 = some (.putfield 152, 7, 1, [9, 0], .returned) := rfl
theorem e_X1_gather_7 : lk t_X1_gather 7 = some (.iconst 0, 8, 0, [], .constant "" 0 (0)) := rfl
theorem e_X1_gather_8 : lk t_X1_gather 8 = some (.istore_n 3, 9, 3, [], .returned) := rfl
theorem e_X1_gather_9 : lk t_X1_gather 9 = some (.iload_n 3, 10, 3, [], .returned) := rfl
theorem e_X1_gather_10 : lk t_X1_gather 10 = some (.aload_n 0, 11, 0, [], .returned) := rfl
theorem e_X1_gather_11 : lk t_X1_gather 11 = some (.getfield 96, 14, 1, [8, 0], .returned) := rfl
theorem e_X1_gather_14 : lk t_X1_gather 14 = some (.if_icmp .ge 84, 17, 98, [], .returned) := rfl
theorem e_X1_gather_17 : lk t_X1_gather 17 = some (.aload_n 0, 18, 0, [], .returned) := rfl
theorem e_X1_gather_18 : lk t_X1_gather 18 = some (.getfield 25, 21, 1, [6, 2], .returned) := rfl
theorem e_X1_gather_21 : lk t_X1_gather 21 = some (.iload_n 3, 22, 3, [], .returned) := rfl
theorem e_X1_gather_22 : lk t_X1_gather 22 = some (.iaload, 23, 0, [], .returned) := rfl
theorem e_X1_gather_23 : lk t_X1_gather 23 = some (.istore 4, 25, 4, [], .returned) := rfl
theorem e_X1_gather_25 : lk t_X1_gather 25 = some (.aload_n 0, 26, 0, [], .returned) := rfl
theorem e_X1_gather_26 : lk t_X1_gather 26 = some (.getfield 22, 29, 1, [5, 2], .returned) := rfl
theorem e_X1_gather_29 : lk t_X1_gather 29 = some (.iload 4, 31, 4, [], .returned) := rfl
theorem e_X1_gather_31 : lk t_X1_gather 31 = some (.iaload, 32, 0, [], .returned) := rfl
theorem e_X1_gather_32 : lk t_X1_gather 32 = some (.iload_n 1, 33, 1, [], .returned) := rfl
theorem e_X1_gather_33 : lk t_X1_gather 33 = some (.if_icmp .gt 59, 36, 92, [], .returned) := rfl
theorem e_X1_gather_36 : lk t_X1_gather 36 = some (.aload_n 0, 37, 0, [], .returned) := rfl
theorem e_X1_gather_37 : lk t_X1_gather 37 = some (.getfield 15, 40, 1, [1, 2], .returned) := rfl
theorem e_X1_gather_40 : lk t_X1_gather 40 = some (.iload 4, 42, 4, [], .returned) := rfl
theorem e_X1_gather_42 : lk t_X1_gather 42 = some (.iaload, 43, 0, [], .returned) := rfl
theorem e_X1_gather_43 : lk t_X1_gather 43 = some (.aload_n 0, 44, 0, [], .returned) := rfl
theorem e_X1_gather_44 : lk t_X1_gather 44 = some (.getfield 19, 47, 1, [2, 2], .returned) := rfl
theorem e_X1_gather_47 : lk t_X1_gather 47 = some (.iload 4, 49, 4, [], .returned) := rfl
theorem e_X1_gather_49 : lk t_X1_gather 49 = some (.iaload, 50, 0, [], .returned) := rfl
theorem e_X1_gather_50 : lk t_X1_gather 50 = some (.if_icmp .le 42, 53, 92, [], .returned) := rfl
theorem e_X1_gather_53 : lk t_X1_gather 53 = some (.iload_n 2, 54, 2, [], .returned) := rfl
theorem e_X1_gather_54 : lk t_X1_gather 54 = some (.aload_n 0, 55, 0, [], .returned) := rfl
theorem e_X1_gather_55 : lk t_X1_gather 55 = some (.getfield 15, 58, 1, [1, 2], .returned) := rfl
theorem e_X1_gather_58 : lk t_X1_gather 58 = some (.iload 4, 60, 4, [], .returned) := rfl
theorem e_X1_gather_60 : lk t_X1_gather 60 = some (.iaload, 61, 0, [], .returned) := rfl
theorem e_X1_gather_61 : lk t_X1_gather 61 = some (.aload_n 0, 62, 0, [], .returned) := rfl
theorem e_X1_gather_62 : lk t_X1_gather 62 = some (.getfield 19, 65, 1, [2, 2], .returned) := rfl
theorem e_X1_gather_65 : lk t_X1_gather 65 = some (.iload 4, 67, 4, [], .returned) := rfl
theorem e_X1_gather_67 : lk t_X1_gather 67 = some (.iaload, 68, 0, [], .returned) := rfl
theorem e_X1_gather_68 : lk t_X1_gather 68 = some (.isub, 69, 0, [], .returned) := rfl
theorem e_X1_gather_69 : lk t_X1_gather 69 = some (.iadd, 70, 0, [], .returned) := rfl
theorem e_X1_gather_70 : lk t_X1_gather 70 = some (.istore_n 2, 71, 2, [], .returned) := rfl
theorem e_X1_gather_71 : lk t_X1_gather 71 = some (.aload_n 0, 72, 0, [], .returned) := rfl
theorem e_X1_gather_72 : lk t_X1_gather 72 = some (.getfield 28, 75, 1, [7, 2], .returned) := rfl
theorem e_X1_gather_75 : lk t_X1_gather 75 = some (.aload_n 0, 76, 0, [], .returned) := rfl
theorem e_X1_gather_76 : lk t_X1_gather 76 = some (.getfield 152, 79, 1, [9, 0], .returned) := rfl
theorem e_X1_gather_79 : lk t_X1_gather 79 = some (.iload 4, 81, 4, [], .returned) := rfl
theorem e_X1_gather_81 : lk t_X1_gather 81 = some (.iastore, 82, 0, [], .returned) := rfl
theorem e_X1_gather_82 : lk t_X1_gather 82 = some (.aload_n 0, 83, 0, [], .returned) := rfl
theorem e_X1_gather_83 : lk t_X1_gather 83 = some (.dup, 84, 0, [], .returned) := rfl
theorem e_X1_gather_84 : lk t_X1_gather 84 = some (.getfield 152, 87, 1, [9, 0], .returned) := rfl
theorem e_X1_gather_87 : lk t_X1_gather 87 = some (.iconst 1, 88, 0, [], .constant "" 0 (1)) := rfl
theorem e_X1_gather_88 : lk t_X1_gather 88 = some (.iadd, 89, 0, [], .returned) := rfl
theorem e_X1_gather_89 : lk t_X1_gather 89 = some (.putfield 152, 92, 1, [9, 0], .returned) := rfl
theorem e_X1_gather_92 : lk t_X1_gather 92 = some (.iinc 3 1, 95, 3, [], .constant "" 0 (1)) := rfl
theorem e_X1_gather_95 : lk t_X1_gather 95 = some (.goto (-86), 98, 9, [], .returned) := rfl
theorem e_X1_gather_98 : lk t_X1_gather 98 = some (.iload_n 2, 99, 2, [], .returned) := rfl
theorem e_X1_gather_99 : lk t_X1_gather 99 = some (.ireturn, 100, 0, [], .returned) := rfl
abbrev q_X1_give : MI := (yX1_give, cX1_give, 3, none)
def t_X1_give : Tab := [(0, [], (.aload_n 0, 1, 0, [], .returned)),
  (1, [189], (.getfield 19, 4, 1, [2, 2], .returned)),
  (4, [], (.iload_n 1, 5, 1, [], .returned)),
  (5, [], (.dup2, 6, 0, [], .returned)),
  (6, [], (.iaload, 7, 0, [], .returned)),
  (7, [], (.iload_n 2, 8, 2, [], .returned)),
  (8, [], (.iadd, 9, 0, [], .returned)),
  (9, [], (.iastore, 10, 0, [], .returned)),
  (10, [], (.aload_n 0, 11, 0, [], .returned)),
  (11, [], (.dup, 12, 0, [], .returned)),
  (12, [194], (.getfield 41, 15, 1, [4, 0], .returned)),
  (15, [], (.iload_n 2, 16, 2, [], .returned)),
  (16, [], (.isub, 17, 0, [], .returned)),
  (17, [194], (.putfield 41, 20, 1, [4, 0], .returned)),
  (20, [], (.return_, 21, 0, [], .returned))]
theorem ck_X1_give : okT q_X1_give t_X1_give = true := by decide +kernel
theorem e_X1_give_0 : lk t_X1_give 0 = some (.aload_n 0, 1, 0, [], .returned) := rfl
theorem e_X1_give_1 : lk t_X1_give 1 = some (.getfield 19, 4, 1, [2, 2], .returned) := rfl
theorem e_X1_give_4 : lk t_X1_give 4 = some (.iload_n 1, 5, 1, [], .returned) := rfl
theorem e_X1_give_5 : lk t_X1_give 5 = some (.dup2, 6, 0, [], .returned) := rfl
theorem e_X1_give_6 : lk t_X1_give 6 = some (.iaload, 7, 0, [], .returned) := rfl
theorem e_X1_give_7 : lk t_X1_give 7 = some (.iload_n 2, 8, 2, [], .returned) := rfl
theorem e_X1_give_8 : lk t_X1_give 8 = some (.iadd, 9, 0, [], .returned) := rfl
theorem e_X1_give_9 : lk t_X1_give 9 = some (.iastore, 10, 0, [], .returned) := rfl
theorem e_X1_give_10 : lk t_X1_give 10 = some (.aload_n 0, 11, 0, [], .returned) := rfl
theorem e_X1_give_11 : lk t_X1_give 11 = some (.dup, 12, 0, [], .returned) := rfl
theorem e_X1_give_12 : lk t_X1_give 12 = some (.getfield 41, 15, 1, [4, 0], .returned) := rfl
theorem e_X1_give_15 : lk t_X1_give 15 = some (.iload_n 2, 16, 2, [], .returned) := rfl
theorem e_X1_give_16 : lk t_X1_give 16 = some (.isub, 17, 0, [], .returned) := rfl
theorem e_X1_give_17 : lk t_X1_give 17 = some (.putfield 41, 20, 1, [4, 0], .returned) := rfl
theorem e_X1_give_20 : lk t_X1_give 20 = some (.return_, 21, 0, [], .returned) := rfl
abbrev q_X1_giveAll : MI := (yX1_giveAll, cX1_giveAll, 3, none)
def t_X1_giveAll : Tab := [(0, [], (.iconst 0, 1, 0, [], .constant "" 0 (0))),
  (1, [], (.istore_n 1, 2, 1, [], .returned)),
  (2, [], (.iload_n 1, 3, 1, [], .returned)),
  (3, [], (.aload_n 0, 4, 0, [], .returned)),
  (4, [201], (.getfield 152, 7, 1, [9, 0], .returned)),
  (7, [], (.if_icmp .ge 34, 10, 41, [], .returned)),
  (10, [], (.aload_n 0, 11, 0, [], .returned)),
  (11, [199], (.getfield 28, 14, 1, [7, 2], .returned)),
  (14, [], (.iload_n 1, 15, 1, [], .returned)),
  (15, [], (.iaload, 16, 0, [], .returned)),
  (16, [], (.istore_n 2, 17, 2, [], .returned)),
  (17, [], (.aload_n 0, 18, 0, [], .returned)),
  (18, [], (.iload_n 2, 19, 2, [], .returned)),
  (19, [], (.aload_n 0, 20, 0, [], .returned)),
  (20, [186], (.getfield 15, 23, 1, [1, 2], .returned)),
  (23, [], (.iload_n 2, 24, 2, [], .returned)),
  (24, [], (.iaload, 25, 0, [], .returned)),
  (25, [], (.aload_n 0, 26, 0, [], .returned)),
  (26, [189], (.getfield 19, 29, 1, [2, 2], .returned)),
  (29, [], (.iload_n 2, 30, 2, [], .returned)),
  (30, [], (.iaload, 31, 0, [], .returned)),
  (31, [], (.isub, 32, 0, [], .returned)),
  (32, [810, 813, 812, 30, 95], (.invokevirtual 155, 35, 0, [2, 1, 0, 0], .code yX1_give cX1_give 3 none)),
  (35, [], (.iinc 1 1, 38, 1, [], .constant "" 0 (1))),
  (38, [], (.goto (-36), 41, 2, [], .returned)),
  (41, [], (.return_, 42, 0, [], .returned))]
theorem ck_X1_giveAll : okT q_X1_giveAll t_X1_giveAll = true := by decide +kernel
theorem e_X1_giveAll_0 : lk t_X1_giveAll 0 = some (.iconst 0, 1, 0, [], .constant "" 0 (0)) := rfl
theorem e_X1_giveAll_1 : lk t_X1_giveAll 1 = some (.istore_n 1, 2, 1, [], .returned) := rfl
theorem e_X1_giveAll_2 : lk t_X1_giveAll 2 = some (.iload_n 1, 3, 1, [], .returned) := rfl
theorem e_X1_giveAll_3 : lk t_X1_giveAll 3 = some (.aload_n 0, 4, 0, [], .returned) := rfl
theorem e_X1_giveAll_4 : lk t_X1_giveAll 4 = some (.getfield 152, 7, 1, [9, 0], .returned) := rfl
theorem e_X1_giveAll_7 : lk t_X1_giveAll 7 = some (.if_icmp .ge 34, 10, 41, [], .returned) := rfl
theorem e_X1_giveAll_10 : lk t_X1_giveAll 10 = some (.aload_n 0, 11, 0, [], .returned) := rfl
theorem e_X1_giveAll_11 : lk t_X1_giveAll 11 = some (.getfield 28, 14, 1, [7, 2], .returned) := rfl
theorem e_X1_giveAll_14 : lk t_X1_giveAll 14 = some (.iload_n 1, 15, 1, [], .returned) := rfl
theorem e_X1_giveAll_15 : lk t_X1_giveAll 15 = some (.iaload, 16, 0, [], .returned) := rfl
theorem e_X1_giveAll_16 : lk t_X1_giveAll 16 = some (.istore_n 2, 17, 2, [], .returned) := rfl
theorem e_X1_giveAll_17 : lk t_X1_giveAll 17 = some (.aload_n 0, 18, 0, [], .returned) := rfl
theorem e_X1_giveAll_18 : lk t_X1_giveAll 18 = some (.iload_n 2, 19, 2, [], .returned) := rfl
theorem e_X1_giveAll_19 : lk t_X1_giveAll 19 = some (.aload_n 0, 20, 0, [], .returned) := rfl
theorem e_X1_giveAll_20 : lk t_X1_giveAll 20 = some (.getfield 15, 23, 1, [1, 2], .returned) := rfl
theorem e_X1_giveAll_23 : lk t_X1_giveAll 23 = some (.iload_n 2, 24, 2, [], .returned) := rfl
theorem e_X1_giveAll_24 : lk t_X1_giveAll 24 = some (.iaload, 25, 0, [], .returned) := rfl
theorem e_X1_giveAll_25 : lk t_X1_giveAll 25 = some (.aload_n 0, 26, 0, [], .returned) := rfl
theorem e_X1_giveAll_26 : lk t_X1_giveAll 26 = some (.getfield 19, 29, 1, [2, 2], .returned) := rfl
theorem e_X1_giveAll_29 : lk t_X1_giveAll 29 = some (.iload_n 2, 30, 2, [], .returned) := rfl
theorem e_X1_giveAll_30 : lk t_X1_giveAll 30 = some (.iaload, 31, 0, [], .returned) := rfl
theorem e_X1_giveAll_31 : lk t_X1_giveAll 31 = some (.isub, 32, 0, [], .returned) := rfl
theorem e_X1_giveAll_32 : lk t_X1_giveAll 32 = some (.invokevirtual 155, 35, 0, [2, 1, 0, 0], .code yX1_give cX1_give 3 none) := rfl
theorem e_X1_giveAll_35 : lk t_X1_giveAll 35 = some (.iinc 1 1, 38, 1, [], .constant "" 0 (1)) := rfl
theorem e_X1_giveAll_38 : lk t_X1_giveAll 38 = some (.goto (-36), 41, 2, [], .returned) := rfl
theorem e_X1_giveAll_41 : lk t_X1_giveAll 41 = some (.return_, 42, 0, [], .returned) := rfl
abbrev q_X1_giveEvenly : MI := (yX1_giveEvenly, cX1_giveEvenly, 8, none)
def t_X1_giveEvenly : Tab := [(0, [], (.aload_n 0, 1, 0, [], .returned)),
  (1, [201], (.getfield 152, 4, 1, [9, 0], .returned)),
  (4, [], (.istore_n 2, 5, 2, [], .returned)),
  (5, [], (.iconst 0, 6, 0, [], .constant "" 0 (0))),
  (6, [], (.istore_n 3, 7, 3, [], .returned)),
  (7, [], (.iload_n 3, 8, 3, [], .returned)),
  (8, [], (.bipush 6, 10, 0, [], .constant "" 0 (6))),
  (10, [], (.if_icmp .gt 114, 13, 124, [], .returned)),
  (13, [], (.aload_n 0, 14, 0, [], .returned)),
  (14, [194], (.getfield 41, 17, 1, [4, 0], .returned)),
  (17, [], (.iload_n 1, 18, 1, [], .returned)),
  (18, [], (.isub, 19, 0, [], .returned)),
  (19, [], (.istore 4, 21, 4, [], .returned)),
  (21, [], (.iload_n 2, 22, 2, [], .returned)),
  (22, [], (.ifCond .le 9, 25, 31, [], .returned)),
  (25, [], (.iload 4, 27, 4, [], .returned)),
  (27, [], (.iload_n 2, 28, 2, [], .returned)),
  (28, [], (.if_icmp .ge 4, 31, 32, [], .returned)),
  (31, [], (.return_, 32, 0, [], .returned)),
  (32, [], (.iload 4, 34, 4, [], .returned)),
  (34, [], (.iload_n 2, 35, 2, [], .returned)),
  (35, [], (.idiv, 36, 0, [], .returned)),
  (36, [], (.istore 5, 38, 5, [], .returned)),
  (38, [], (.iconst 0, 39, 0, [], .constant "" 0 (0))),
  (39, [], (.istore_n 2, 40, 2, [], .returned)),
  (40, [], (.iconst 0, 41, 0, [], .constant "" 0 (0))),
  (41, [], (.istore 6, 43, 6, [], .returned)),
  (43, [], (.iload 6, 45, 6, [], .returned)),
  (45, [], (.aload_n 0, 46, 0, [], .returned)),
  (46, [201], (.getfield 152, 49, 1, [9, 0], .returned)),
  (49, [], (.if_icmp .ge 69, 52, 118, [], .returned)),
  (52, [], (.aload_n 0, 53, 0, [], .returned)),
  (53, [199], (.getfield 28, 56, 1, [7, 2], .returned)),
  (56, [], (.iload 6, 58, 6, [], .returned)),
  (58, [], (.iaload, 59, 0, [], .returned)),
  (59, [], (.istore 7, 61, 7, [], .returned)),
  (61, [], (.aload_n 0, 62, 0, [], .returned)),
  (62, [], (.iload 7, 64, 7, [], .returned)),
  (64, [], (.iload 5, 66, 5, [], .returned)),
  (66, [], (.aload_n 0, 67, 0, [], .returned)),
  (67, [186], (.getfield 15, 70, 1, [1, 2], .returned)),
  (70, [], (.iload 7, 72, 7, [], .returned)),
  (72, [], (.iaload, 73, 0, [], .returned)),
  (73, [], (.aload_n 0, 74, 0, [], .returned)),
  (74, [189], (.getfield 19, 77, 1, [2, 2], .returned)),
  (77, [], (.iload 7, 79, 7, [], .returned)),
  (79, [], (.iaload, 80, 0, [], .returned)),
  (80, [], (.isub, 81, 0, [], .returned)),
  (81, [787, 496, 495, 103], (.invokestatic 121, 84, 1, [], .returned)),
  (84, [810, 813, 812, 30, 95], (.invokevirtual 155, 87, 0, [2, 1, 0, 0], .code yX1_give cX1_give 3 none)),
  (87, [], (.iload_n 2, 88, 2, [], .returned)),
  (88, [], (.aload_n 0, 89, 0, [], .returned)),
  (89, [186], (.getfield 15, 92, 1, [1, 2], .returned)),
  (92, [], (.iload 7, 94, 7, [], .returned)),
  (94, [], (.iaload, 95, 0, [], .returned)),
  (95, [], (.aload_n 0, 96, 0, [], .returned)),
  (96, [189], (.getfield 19, 99, 1, [2, 2], .returned)),
  (99, [], (.iload 7, 101, 7, [], .returned)),
  (101, [], (.iaload, 102, 0, [], .returned)),
  (102, [], (.if_icmp .le 7, 105, 109, [], .returned)),
  (105, [], (.iconst 1, 106, 0, [], .constant "" 0 (1))),
  (106, [], (.goto 4, 109, 110, [], .returned)),
  (109, [], (.iconst 0, 110, 0, [], .constant "" 0 (0))),
  (110, [], (.iadd, 111, 0, [], .returned)),
  (111, [], (.istore_n 2, 112, 2, [], .returned)),
  (112, [], (.iinc 6 1, 115, 6, [], .constant "" 0 (1))),
  (115, [], (.goto (-72), 118, 43, [], .returned)),
  (118, [], (.iinc 3 1, 121, 3, [], .constant "" 0 (1))),
  (121, [], (.goto (-114), 124, 7, [], .returned)),
  (124, [], (.return_, 125, 0, [], .returned))]
theorem ck_X1_giveEvenly : okT q_X1_giveEvenly t_X1_giveEvenly = true := by decide +kernel
theorem e_X1_giveEvenly_0 : lk t_X1_giveEvenly 0 = some (.aload_n 0, 1, 0, [], .returned) := rfl
theorem e_X1_giveEvenly_1 : lk t_X1_giveEvenly 1 = some (.getfield 152, 4, 1, [9, 0], .returned) := rfl
theorem e_X1_giveEvenly_4 : lk t_X1_giveEvenly 4 = some (.istore_n 2, 5, 2, [], .returned) := rfl
theorem e_X1_giveEvenly_5 : lk t_X1_giveEvenly 5 = some (.iconst 0, 6, 0, [], .constant "" 0 (0)) := rfl
theorem e_X1_giveEvenly_6 : lk t_X1_giveEvenly 6 = some (.istore_n 3, 7, 3, [], .returned) := rfl
theorem e_X1_giveEvenly_7 : lk t_X1_giveEvenly 7 = some (.iload_n 3, 8, 3, [], .returned) := rfl
theorem e_X1_giveEvenly_8 : lk t_X1_giveEvenly 8 = some (.bipush 6, 10, 0, [], .constant "" 0 (6)) := rfl
theorem e_X1_giveEvenly_10 : lk t_X1_giveEvenly 10 = some (.if_icmp .gt 114, 13, 124, [], .returned) := rfl
theorem e_X1_giveEvenly_13 : lk t_X1_giveEvenly 13 = some (.aload_n 0, 14, 0, [], .returned) := rfl
theorem e_X1_giveEvenly_14 : lk t_X1_giveEvenly 14 = some (.getfield 41, 17, 1, [4, 0], .returned) := rfl
theorem e_X1_giveEvenly_17 : lk t_X1_giveEvenly 17 = some (.iload_n 1, 18, 1, [], .returned) := rfl
theorem e_X1_giveEvenly_18 : lk t_X1_giveEvenly 18 = some (.isub, 19, 0, [], .returned) := rfl
theorem e_X1_giveEvenly_19 : lk t_X1_giveEvenly 19 = some (.istore 4, 21, 4, [], .returned) := rfl
theorem e_X1_giveEvenly_21 : lk t_X1_giveEvenly 21 = some (.iload_n 2, 22, 2, [], .returned) := rfl
theorem e_X1_giveEvenly_22 : lk t_X1_giveEvenly 22 = some (.ifCond .le 9, 25, 31, [], .returned) := rfl
theorem e_X1_giveEvenly_25 : lk t_X1_giveEvenly 25 = some (.iload 4, 27, 4, [], .returned) := rfl
theorem e_X1_giveEvenly_27 : lk t_X1_giveEvenly 27 = some (.iload_n 2, 28, 2, [], .returned) := rfl
theorem e_X1_giveEvenly_28 : lk t_X1_giveEvenly 28 = some (.if_icmp .ge 4, 31, 32, [], .returned) := rfl
theorem e_X1_giveEvenly_31 : lk t_X1_giveEvenly 31 = some (.return_, 32, 0, [], .returned) := rfl
theorem e_X1_giveEvenly_32 : lk t_X1_giveEvenly 32 = some (.iload 4, 34, 4, [], .returned) := rfl
theorem e_X1_giveEvenly_34 : lk t_X1_giveEvenly 34 = some (.iload_n 2, 35, 2, [], .returned) := rfl
theorem e_X1_giveEvenly_35 : lk t_X1_giveEvenly 35 = some (.idiv, 36, 0, [], .returned) := rfl
theorem e_X1_giveEvenly_36 : lk t_X1_giveEvenly 36 = some (.istore 5, 38, 5, [], .returned) := rfl
theorem e_X1_giveEvenly_38 : lk t_X1_giveEvenly 38 = some (.iconst 0, 39, 0, [], .constant "" 0 (0)) := rfl
theorem e_X1_giveEvenly_39 : lk t_X1_giveEvenly 39 = some (.istore_n 2, 40, 2, [], .returned) := rfl
theorem e_X1_giveEvenly_40 : lk t_X1_giveEvenly 40 = some (.iconst 0, 41, 0, [], .constant "" 0 (0)) := rfl
theorem e_X1_giveEvenly_41 : lk t_X1_giveEvenly 41 = some (.istore 6, 43, 6, [], .returned) := rfl
theorem e_X1_giveEvenly_43 : lk t_X1_giveEvenly 43 = some (.iload 6, 45, 6, [], .returned) := rfl
theorem e_X1_giveEvenly_45 : lk t_X1_giveEvenly 45 = some (.aload_n 0, 46, 0, [], .returned) := rfl
theorem e_X1_giveEvenly_46 : lk t_X1_giveEvenly 46 = some (.getfield 152, 49, 1, [9, 0], .returned) := rfl
theorem e_X1_giveEvenly_49 : lk t_X1_giveEvenly 49 = some (.if_icmp .ge 69, 52, 118, [], .returned) := rfl
theorem e_X1_giveEvenly_52 : lk t_X1_giveEvenly 52 = some (.aload_n 0, 53, 0, [], .returned) := rfl
theorem e_X1_giveEvenly_53 : lk t_X1_giveEvenly 53 = some (.getfield 28, 56, 1, [7, 2], .returned) := rfl
theorem e_X1_giveEvenly_56 : lk t_X1_giveEvenly 56 = some (.iload 6, 58, 6, [], .returned) := rfl
theorem e_X1_giveEvenly_58 : lk t_X1_giveEvenly 58 = some (.iaload, 59, 0, [], .returned) := rfl
theorem e_X1_giveEvenly_59 : lk t_X1_giveEvenly 59 = some (.istore 7, 61, 7, [], .returned) := rfl
theorem e_X1_giveEvenly_61 : lk t_X1_giveEvenly 61 = some (.aload_n 0, 62, 0, [], .returned) := rfl
theorem e_X1_giveEvenly_62 : lk t_X1_giveEvenly 62 = some (.iload 7, 64, 7, [], .returned) := rfl
theorem e_X1_giveEvenly_64 : lk t_X1_giveEvenly 64 = some (.iload 5, 66, 5, [], .returned) := rfl
theorem e_X1_giveEvenly_66 : lk t_X1_giveEvenly 66 = some (.aload_n 0, 67, 0, [], .returned) := rfl
theorem e_X1_giveEvenly_67 : lk t_X1_giveEvenly 67 = some (.getfield 15, 70, 1, [1, 2], .returned) := rfl
theorem e_X1_giveEvenly_70 : lk t_X1_giveEvenly 70 = some (.iload 7, 72, 7, [], .returned) := rfl
theorem e_X1_giveEvenly_72 : lk t_X1_giveEvenly 72 = some (.iaload, 73, 0, [], .returned) := rfl
theorem e_X1_giveEvenly_73 : lk t_X1_giveEvenly 73 = some (.aload_n 0, 74, 0, [], .returned) := rfl
theorem e_X1_giveEvenly_74 : lk t_X1_giveEvenly 74 = some (.getfield 19, 77, 1, [2, 2], .returned) := rfl
theorem e_X1_giveEvenly_77 : lk t_X1_giveEvenly 77 = some (.iload 7, 79, 7, [], .returned) := rfl
theorem e_X1_giveEvenly_79 : lk t_X1_giveEvenly 79 = some (.iaload, 80, 0, [], .returned) := rfl
theorem e_X1_giveEvenly_80 : lk t_X1_giveEvenly 80 = some (.isub, 81, 0, [], .returned) := rfl
theorem e_X1_giveEvenly_81 : lk t_X1_giveEvenly 81 = some (.invokestatic 121, 84, 1, [], .returned) := rfl
theorem e_X1_giveEvenly_84 : lk t_X1_giveEvenly 84 = some (.invokevirtual 155, 87, 0, [2, 1, 0, 0], .code yX1_give cX1_give 3 none) := rfl
theorem e_X1_giveEvenly_87 : lk t_X1_giveEvenly 87 = some (.iload_n 2, 88, 2, [], .returned) := rfl
theorem e_X1_giveEvenly_88 : lk t_X1_giveEvenly 88 = some (.aload_n 0, 89, 0, [], .returned) := rfl
theorem e_X1_giveEvenly_89 : lk t_X1_giveEvenly 89 = some (.getfield 15, 92, 1, [1, 2], .returned) := rfl
theorem e_X1_giveEvenly_92 : lk t_X1_giveEvenly 92 = some (.iload 7, 94, 7, [], .returned) := rfl
theorem e_X1_giveEvenly_94 : lk t_X1_giveEvenly 94 = some (.iaload, 95, 0, [], .returned) := rfl
theorem e_X1_giveEvenly_95 : lk t_X1_giveEvenly 95 = some (.aload_n 0, 96, 0, [], .returned) := rfl
theorem e_X1_giveEvenly_96 : lk t_X1_giveEvenly 96 = some (.getfield 19, 99, 1, [2, 2], .returned) := rfl
theorem e_X1_giveEvenly_99 : lk t_X1_giveEvenly 99 = some (.iload 7, 101, 7, [], .returned) := rfl
theorem e_X1_giveEvenly_101 : lk t_X1_giveEvenly 101 = some (.iaload, 102, 0, [], .returned) := rfl
theorem e_X1_giveEvenly_102 : lk t_X1_giveEvenly 102 = some (.if_icmp .le 7, 105, 109, [], .returned) := rfl
theorem e_X1_giveEvenly_105 : lk t_X1_giveEvenly 105 = some (.iconst 1, 106, 0, [], .constant "" 0 (1)) := rfl
theorem e_X1_giveEvenly_106 : lk t_X1_giveEvenly 106 = some (.goto 4, 109, 110, [], .returned) := rfl
theorem e_X1_giveEvenly_109 : lk t_X1_giveEvenly 109 = some (.iconst 0, 110, 0, [], .constant "" 0 (0)) := rfl
theorem e_X1_giveEvenly_110 : lk t_X1_giveEvenly 110 = some (.iadd, 111, 0, [], .returned) := rfl
theorem e_X1_giveEvenly_111 : lk t_X1_giveEvenly 111 = some (.istore_n 2, 112, 2, [], .returned) := rfl
theorem e_X1_giveEvenly_112 : lk t_X1_giveEvenly 112 = some (.iinc 6 1, 115, 6, [], .constant "" 0 (1)) := rfl
theorem e_X1_giveEvenly_115 : lk t_X1_giveEvenly 115 = some (.goto (-72), 118, 43, [], .returned) := rfl
theorem e_X1_giveEvenly_118 : lk t_X1_giveEvenly 118 = some (.iinc 3 1, 121, 3, [], .constant "" 0 (1)) := rfl
theorem e_X1_giveEvenly_121 : lk t_X1_giveEvenly 121 = some (.goto (-114), 124, 7, [], .returned) := rfl
theorem e_X1_giveEvenly_124 : lk t_X1_giveEvenly 124 = some (.return_, 125, 0, [], .returned) := rfl
abbrev q_X1_giveByParts : MI := (yX1_giveByParts, cX1_giveByParts, 5, none)
def t_X1_giveByParts : Tab := [(0, [], (.iconst 0, 1, 0, [], .constant "" 0 (0))),
  (1, [], (.istore_n 3, 2, 3, [], .returned)),
  (2, [], (.iload_n 3, 3, 3, [], .returned)),
  (3, [], (.aload_n 0, 4, 0, [], .returned)),
  (4, [201], (.getfield 152, 7, 1, [9, 0], .returned)),
  (7, [], (.if_icmp .ge 50, 10, 57, [], .returned)),
  (10, [], (.iload_n 2, 11, 2, [], .returned)),
  (11, [], (.ifCond .le 46, 14, 57, [], .returned)),
  (14, [], (.aload_n 0, 15, 0, [], .returned)),
  (15, [199], (.getfield 28, 18, 1, [7, 2], .returned)),
  (18, [], (.iload_n 3, 19, 3, [], .returned)),
  (19, [], (.iaload, 20, 0, [], .returned)),
  (20, [], (.istore 4, 22, 4, [], .returned)),
  (22, [], (.aload_n 0, 23, 0, [], .returned)),
  (23, [], (.iload 4, 25, 4, [], .returned)),
  (25, [], (.iload_n 1, 26, 1, [], .returned)),
  (26, [], (.i2l, 27, 0, [], .returned)),
  (27, [], (.aload_n 0, 28, 0, [], .returned)),
  (28, [186], (.getfield 15, 31, 1, [1, 2], .returned)),
  (31, [], (.iload 4, 33, 4, [], .returned)),
  (33, [], (.iaload, 34, 0, [], .returned)),
  (34, [], (.aload_n 0, 35, 0, [], .returned)),
  (35, [189], (.getfield 19, 38, 1, [2, 2], .returned)),
  (38, [], (.iload 4, 40, 4, [], .returned)),
  (40, [], (.iaload, 41, 0, [], .returned)),
  (41, [], (.isub, 42, 0, [], .returned)),
  (42, [], (.i2l, 43, 0, [], .returned)),
  (43, [], (.lmul, 44, 0, [], .returned)),
  (44, [], (.iload_n 2, 45, 2, [], .returned)),
  (45, [], (.i2l, 46, 0, [], .returned)),
  (46, [], (.ldiv, 47, 0, [], .returned)),
  (47, [], (.l2i, 48, 0, [], .returned)),
  (48, [810, 813, 812, 30, 95], (.invokevirtual 155, 51, 0, [2, 1, 0, 0], .code yX1_give cX1_give 3 none)),
  (51, [], (.iinc 3 1, 54, 3, [], .constant "" 0 (1))),
  (54, [], (.goto (-52), 57, 2, [], .returned)),
  (57, [], (.return_, 58, 0, [], .returned))]
theorem ck_X1_giveByParts : okT q_X1_giveByParts t_X1_giveByParts = true := by decide +kernel
theorem e_X1_giveByParts_0 : lk t_X1_giveByParts 0 = some (.iconst 0, 1, 0, [], .constant "" 0 (0)) := rfl
theorem e_X1_giveByParts_1 : lk t_X1_giveByParts 1 = some (.istore_n 3, 2, 3, [], .returned) := rfl
theorem e_X1_giveByParts_2 : lk t_X1_giveByParts 2 = some (.iload_n 3, 3, 3, [], .returned) := rfl
theorem e_X1_giveByParts_3 : lk t_X1_giveByParts 3 = some (.aload_n 0, 4, 0, [], .returned) := rfl
theorem e_X1_giveByParts_4 : lk t_X1_giveByParts 4 = some (.getfield 152, 7, 1, [9, 0], .returned) := rfl
theorem e_X1_giveByParts_7 : lk t_X1_giveByParts 7 = some (.if_icmp .ge 50, 10, 57, [], .returned) := rfl
theorem e_X1_giveByParts_10 : lk t_X1_giveByParts 10 = some (.iload_n 2, 11, 2, [], .returned) := rfl
theorem e_X1_giveByParts_11 : lk t_X1_giveByParts 11 = some (.ifCond .le 46, 14, 57, [], .returned) := rfl
theorem e_X1_giveByParts_14 : lk t_X1_giveByParts 14 = some (.aload_n 0, 15, 0, [], .returned) := rfl
theorem e_X1_giveByParts_15 : lk t_X1_giveByParts 15 = some (.getfield 28, 18, 1, [7, 2], .returned) := rfl
theorem e_X1_giveByParts_18 : lk t_X1_giveByParts 18 = some (.iload_n 3, 19, 3, [], .returned) := rfl
theorem e_X1_giveByParts_19 : lk t_X1_giveByParts 19 = some (.iaload, 20, 0, [], .returned) := rfl
theorem e_X1_giveByParts_20 : lk t_X1_giveByParts 20 = some (.istore 4, 22, 4, [], .returned) := rfl
theorem e_X1_giveByParts_22 : lk t_X1_giveByParts 22 = some (.aload_n 0, 23, 0, [], .returned) := rfl
theorem e_X1_giveByParts_23 : lk t_X1_giveByParts 23 = some (.iload 4, 25, 4, [], .returned) := rfl
theorem e_X1_giveByParts_25 : lk t_X1_giveByParts 25 = some (.iload_n 1, 26, 1, [], .returned) := rfl
theorem e_X1_giveByParts_26 : lk t_X1_giveByParts 26 = some (.i2l, 27, 0, [], .returned) := rfl
theorem e_X1_giveByParts_27 : lk t_X1_giveByParts 27 = some (.aload_n 0, 28, 0, [], .returned) := rfl
theorem e_X1_giveByParts_28 : lk t_X1_giveByParts 28 = some (.getfield 15, 31, 1, [1, 2], .returned) := rfl
theorem e_X1_giveByParts_31 : lk t_X1_giveByParts 31 = some (.iload 4, 33, 4, [], .returned) := rfl
theorem e_X1_giveByParts_33 : lk t_X1_giveByParts 33 = some (.iaload, 34, 0, [], .returned) := rfl
theorem e_X1_giveByParts_34 : lk t_X1_giveByParts 34 = some (.aload_n 0, 35, 0, [], .returned) := rfl
theorem e_X1_giveByParts_35 : lk t_X1_giveByParts 35 = some (.getfield 19, 38, 1, [2, 2], .returned) := rfl
theorem e_X1_giveByParts_38 : lk t_X1_giveByParts 38 = some (.iload 4, 40, 4, [], .returned) := rfl
theorem e_X1_giveByParts_40 : lk t_X1_giveByParts 40 = some (.iaload, 41, 0, [], .returned) := rfl
theorem e_X1_giveByParts_41 : lk t_X1_giveByParts 41 = some (.isub, 42, 0, [], .returned) := rfl
theorem e_X1_giveByParts_42 : lk t_X1_giveByParts 42 = some (.i2l, 43, 0, [], .returned) := rfl
theorem e_X1_giveByParts_43 : lk t_X1_giveByParts 43 = some (.lmul, 44, 0, [], .returned) := rfl
theorem e_X1_giveByParts_44 : lk t_X1_giveByParts 44 = some (.iload_n 2, 45, 2, [], .returned) := rfl
theorem e_X1_giveByParts_45 : lk t_X1_giveByParts 45 = some (.i2l, 46, 0, [], .returned) := rfl
theorem e_X1_giveByParts_46 : lk t_X1_giveByParts 46 = some (.ldiv, 47, 0, [], .returned) := rfl
theorem e_X1_giveByParts_47 : lk t_X1_giveByParts 47 = some (.l2i, 48, 0, [], .returned) := rfl
theorem e_X1_giveByParts_48 : lk t_X1_giveByParts 48 = some (.invokevirtual 155, 51, 0, [2, 1, 0, 0], .code yX1_give cX1_give 3 none) := rfl
theorem e_X1_giveByParts_51 : lk t_X1_giveByParts 51 = some (.iinc 3 1, 54, 3, [], .constant "" 0 (1)) := rfl
theorem e_X1_giveByParts_54 : lk t_X1_giveByParts 54 = some (.goto (-52), 57, 2, [], .returned) := rfl
theorem e_X1_giveByParts_57 : lk t_X1_giveByParts 57 = some (.return_, 58, 0, [], .returned) := rfl
abbrev q_X1_giveOneEach : MI := (yX1_giveOneEach, cX1_giveOneEach, 5, none)
def t_X1_giveOneEach : Tab := [(0, [], (.iload_n 1, 1, 1, [], .returned)),
  (1, [], (.istore_n 2, 2, 2, [], .returned)),
  (2, [], (.iconst 0, 3, 0, [], .constant "" 0 (0))),
  (3, [], (.istore_n 3, 4, 3, [], .returned)),
  (4, [], (.iload_n 3, 5, 3, [], .returned)),
  (5, [], (.aload_n 0, 6, 0, [], .returned)),
  (6, [201], (.getfield 152, 9, 1, [9, 0], .returned)),
  (9, [], (.if_icmp .ge 48, 12, 57, [], .returned)),
  (12, [], (.iload_n 2, 13, 2, [], .returned)),
  (13, [], (.ifCond .le 44, 16, 57, [], .returned)),
  (16, [], (.aload_n 0, 17, 0, [], .returned)),
  (17, [199], (.getfield 28, 20, 1, [7, 2], .returned)),
  (20, [], (.iload_n 3, 21, 3, [], .returned)),
  (21, [], (.iaload, 22, 0, [], .returned)),
  (22, [], (.istore 4, 24, 4, [], .returned)),
  (24, [], (.aload_n 0, 25, 0, [], .returned)),
  (25, [186], (.getfield 15, 28, 1, [1, 2], .returned)),
  (28, [], (.iload 4, 30, 4, [], .returned)),
  (30, [], (.iaload, 31, 0, [], .returned)),
  (31, [], (.aload_n 0, 32, 0, [], .returned)),
  (32, [189], (.getfield 19, 35, 1, [2, 2], .returned)),
  (35, [], (.iload 4, 37, 4, [], .returned)),
  (37, [], (.iaload, 38, 0, [], .returned)),
  (38, [], (.if_icmp .le 13, 41, 51, [], .returned)),
  (41, [], (.aload_n 0, 42, 0, [], .returned)),
  (42, [], (.iload 4, 44, 4, [], .returned)),
  (44, [], (.iconst 1, 45, 0, [], .constant "" 0 (1))),
  (45, [810, 813, 812, 30, 95], (.invokevirtual 155, 48, 0, [2, 1, 0, 0], .code yX1_give cX1_give 3 none)),
  (48, [], (.iinc 2 (-1), 51, 2, [], .constant "" 0 (-1))),
  (51, [], (.iinc 3 1, 54, 3, [], .constant "" 0 (1))),
  (54, [], (.goto (-50), 57, 4, [], .returned)),
  (57, [], (.return_, 58, 0, [], .returned))]
theorem ck_X1_giveOneEach : okT q_X1_giveOneEach t_X1_giveOneEach = true := by decide +kernel
theorem e_X1_giveOneEach_0 : lk t_X1_giveOneEach 0 = some (.iload_n 1, 1, 1, [], .returned) := rfl
theorem e_X1_giveOneEach_1 : lk t_X1_giveOneEach 1 = some (.istore_n 2, 2, 2, [], .returned) := rfl
theorem e_X1_giveOneEach_2 : lk t_X1_giveOneEach 2 = some (.iconst 0, 3, 0, [], .constant "" 0 (0)) := rfl
theorem e_X1_giveOneEach_3 : lk t_X1_giveOneEach 3 = some (.istore_n 3, 4, 3, [], .returned) := rfl
theorem e_X1_giveOneEach_4 : lk t_X1_giveOneEach 4 = some (.iload_n 3, 5, 3, [], .returned) := rfl
theorem e_X1_giveOneEach_5 : lk t_X1_giveOneEach 5 = some (.aload_n 0, 6, 0, [], .returned) := rfl
theorem e_X1_giveOneEach_6 : lk t_X1_giveOneEach 6 = some (.getfield 152, 9, 1, [9, 0], .returned) := rfl
theorem e_X1_giveOneEach_9 : lk t_X1_giveOneEach 9 = some (.if_icmp .ge 48, 12, 57, [], .returned) := rfl
theorem e_X1_giveOneEach_12 : lk t_X1_giveOneEach 12 = some (.iload_n 2, 13, 2, [], .returned) := rfl
theorem e_X1_giveOneEach_13 : lk t_X1_giveOneEach 13 = some (.ifCond .le 44, 16, 57, [], .returned) := rfl
theorem e_X1_giveOneEach_16 : lk t_X1_giveOneEach 16 = some (.aload_n 0, 17, 0, [], .returned) := rfl
theorem e_X1_giveOneEach_17 : lk t_X1_giveOneEach 17 = some (.getfield 28, 20, 1, [7, 2], .returned) := rfl
theorem e_X1_giveOneEach_20 : lk t_X1_giveOneEach 20 = some (.iload_n 3, 21, 3, [], .returned) := rfl
theorem e_X1_giveOneEach_21 : lk t_X1_giveOneEach 21 = some (.iaload, 22, 0, [], .returned) := rfl
theorem e_X1_giveOneEach_22 : lk t_X1_giveOneEach 22 = some (.istore 4, 24, 4, [], .returned) := rfl
theorem e_X1_giveOneEach_24 : lk t_X1_giveOneEach 24 = some (.aload_n 0, 25, 0, [], .returned) := rfl
theorem e_X1_giveOneEach_25 : lk t_X1_giveOneEach 25 = some (.getfield 15, 28, 1, [1, 2], .returned) := rfl
theorem e_X1_giveOneEach_28 : lk t_X1_giveOneEach 28 = some (.iload 4, 30, 4, [], .returned) := rfl
theorem e_X1_giveOneEach_30 : lk t_X1_giveOneEach 30 = some (.iaload, 31, 0, [], .returned) := rfl
theorem e_X1_giveOneEach_31 : lk t_X1_giveOneEach 31 = some (.aload_n 0, 32, 0, [], .returned) := rfl
theorem e_X1_giveOneEach_32 : lk t_X1_giveOneEach 32 = some (.getfield 19, 35, 1, [2, 2], .returned) := rfl
theorem e_X1_giveOneEach_35 : lk t_X1_giveOneEach 35 = some (.iload 4, 37, 4, [], .returned) := rfl
theorem e_X1_giveOneEach_37 : lk t_X1_giveOneEach 37 = some (.iaload, 38, 0, [], .returned) := rfl
theorem e_X1_giveOneEach_38 : lk t_X1_giveOneEach 38 = some (.if_icmp .le 13, 41, 51, [], .returned) := rfl
theorem e_X1_giveOneEach_41 : lk t_X1_giveOneEach 41 = some (.aload_n 0, 42, 0, [], .returned) := rfl
theorem e_X1_giveOneEach_42 : lk t_X1_giveOneEach 42 = some (.iload 4, 44, 4, [], .returned) := rfl
theorem e_X1_giveOneEach_44 : lk t_X1_giveOneEach 44 = some (.iconst 1, 45, 0, [], .constant "" 0 (1)) := rfl
theorem e_X1_giveOneEach_45 : lk t_X1_giveOneEach 45 = some (.invokevirtual 155, 48, 0, [2, 1, 0, 0], .code yX1_give cX1_give 3 none) := rfl
theorem e_X1_giveOneEach_48 : lk t_X1_giveOneEach 48 = some (.iinc 2 (-1), 51, 2, [], .constant "" 0 (-1)) := rfl
theorem e_X1_giveOneEach_51 : lk t_X1_giveOneEach 51 = some (.iinc 3 1, 54, 3, [], .constant "" 0 (1)) := rfl
theorem e_X1_giveOneEach_54 : lk t_X1_giveOneEach 54 = some (.goto (-50), 57, 4, [], .returned) := rfl
theorem e_X1_giveOneEach_57 : lk t_X1_giveOneEach 57 = some (.return_, 58, 0, [], .returned) := rfl
