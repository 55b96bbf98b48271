abbrev q_X8_init : MI := (yX8_init, cX8_init, 2, none)
def t_X8_init : Tab := [(0, [], (.aload_n 0, 1, 0, [], .returned)),
  (1, [229, 120, 119], (.invokespecial 3, 4, 1, [], .returned)),
  (4, [], (.aload_n 0, 5, 0, [], .returned)),
  (5, [], (.bipush 6, 7, 0, [], .constant "" 0 (6))),
  (7, [230, 231], (.anewarray 9, 10, 6, [], .classLink "" 0 "PayOrders$Order")),
  (10, [294], (.putfield 11, 13, 8, [0, 2], .returned)),
  (13, [], (.aload_n 0, 14, 0, [], .returned)),
  (14, [232, 180, 95], (.new 17, 17, 1, [], .returned)),
  (17, [], (.dup, 18, 0, [], .returned)),
  (18, [233, 183, 182, 95], (.invokespecial 19, 21, 0, [0, 6, 36], .code yX1_init cX1_init 1 none)),
  (21, [296], (.putfield 20, 24, 8, [1, 2], .returned)),
  (24, [], (.iconst 0, 25, 0, [], .constant "" 0 (0))),
  (25, [], (.istore_n 1, 26, 1, [], .returned)),
  (26, [], (.iload_n 1, 27, 1, [], .returned)),
  (27, [], (.bipush 6, 29, 0, [], .constant "" 0 (6))),
  (29, [], (.if_icmp .ge 22, 32, 51, [], .returned)),
  (32, [], (.aload_n 0, 33, 0, [], .returned)),
  (33, [294], (.getfield 11, 36, 8, [0, 2], .returned)),
  (36, [], (.iload_n 1, 37, 1, [], .returned)),
  (37, [230, 234, 97], (.new 9, 40, 3, [], .returned)),
  (40, [], (.dup, 41, 0, [], .returned)),
  (41, [235, 237, 236, 97], (.invokespecial 24, 44, 0, [0, 0, 0], .code yX3_init cX3_init 1 none)),
  (44, [], (.aastore, 45, 0, [], .returned)),
  (45, [], (.iinc 1 1, 48, 1, [], .constant "" 0 (1))),
  (48, [], (.goto (-22), 51, 26, [], .returned)),
  (51, [], (.return_, 52, 0, [], .returned))]
theorem ck_X8_init : okT q_X8_init t_X8_init = true := by decide +kernel
theorem e_X8_init_0 : lk t_X8_init 0 = some (.aload_n 0, 1, 0, [], .returned) := rfl
theorem e_X8_init_1 : lk t_X8_init 1 = some (.invokespecial 3, 4, 1, [], .returned) := rfl
theorem e_X8_init_4 : lk t_X8_init 4 = some (.aload_n 0, 5, 0, [], .returned) := rfl
theorem e_X8_init_5 : lk t_X8_init 5 = some (.bipush 6, 7, 0, [], .constant "" 0 (6)) := rfl
theorem e_X8_init_7 : lk t_X8_init 7 = some (.anewarray 9, 10, 6, [], .classLink "" 0 "PayOrders$Order") := rfl
theorem e_X8_init_10 : lk t_X8_init 10 = some (.putfield 11, 13, 8, [0, 2], .returned) := rfl
theorem e_X8_init_13 : lk t_X8_init 13 = some (.aload_n 0, 14, 0, [], .returned) := rfl
theorem e_X8_init_14 : lk t_X8_init 14 = some (.new 17, 17, 1, [], .returned) := rfl
theorem e_X8_init_17 : lk t_X8_init 17 = some (.dup, 18, 0, [], .returned) := rfl
theorem e_X8_init_18 : lk t_X8_init 18 = some (.invokespecial 19, 21, 0, [0, 6, 36], .code yX1_init cX1_init 1 none) := rfl
theorem e_X8_init_21 : lk t_X8_init 21 = some (.putfield 20, 24, 8, [1, 2], .returned) := rfl
theorem e_X8_init_24 : lk t_X8_init 24 = some (.iconst 0, 25, 0, [], .constant "" 0 (0)) := rfl
theorem e_X8_init_25 : lk t_X8_init 25 = some (.istore_n 1, 26, 1, [], .returned) := rfl
theorem e_X8_init_26 : lk t_X8_init 26 = some (.iload_n 1, 27, 1, [], .returned) := rfl
theorem e_X8_init_27 : lk t_X8_init 27 = some (.bipush 6, 29, 0, [], .constant "" 0 (6)) := rfl
theorem e_X8_init_29 : lk t_X8_init 29 = some (.if_icmp .ge 22, 32, 51, [], .returned) := rfl
theorem e_X8_init_32 : lk t_X8_init 32 = some (.aload_n 0, 33, 0, [], .returned) := rfl
theorem e_X8_init_33 : lk t_X8_init 33 = some (.getfield 11, 36, 8, [0, 2], .returned) := rfl
theorem e_X8_init_36 : lk t_X8_init 36 = some (.iload_n 1, 37, 1, [], .returned) := rfl
theorem e_X8_init_37 : lk t_X8_init 37 = some (.new 9, 40, 3, [], .returned) := rfl
theorem e_X8_init_40 : lk t_X8_init 40 = some (.dup, 41, 0, [], .returned) := rfl
theorem e_X8_init_41 : lk t_X8_init 41 = some (.invokespecial 24, 44, 0, [0, 0, 0], .code yX3_init cX3_init 1 none) := rfl
theorem e_X8_init_44 : lk t_X8_init 44 = some (.aastore, 45, 0, [], .returned) := rfl
theorem e_X8_init_45 : lk t_X8_init 45 = some (.iinc 1 1, 48, 1, [], .constant "" 0 (1)) := rfl
theorem e_X8_init_48 : lk t_X8_init 48 = some (.goto (-22), 51, 26, [], .returned) := rfl
theorem e_X8_init_51 : lk t_X8_init 51 = some (.return_, 52, 0, [], .returned) := rfl
abbrev q_X8_begin : MI := (yX8_begin, cX8_begin, 3, none)
def t_X8_begin : Tab := [(0, [], (.iconst 0, 1, 0, [], .constant "" 0 (0))),
  (1, [], (.istore_n 2, 2, 2, [], .returned)),
  (2, [], (.iload_n 2, 3, 2, [], .returned)),
  (3, [], (.aload_n 1, 4, 1, [], .returned)),
  (4, [403], (.getfield 25, 7, 0, [5, 0], .returned)),
  (7, [], (.if_icmp .ge 24, 10, 31, [], .returned)),
  (10, [], (.aload_n 0, 11, 0, [], .returned)),
  (11, [294], (.getfield 11, 14, 8, [0, 2], .returned)),
  (14, [], (.iload_n 2, 15, 2, [], .returned)),
  (15, [], (.aaload, 16, 0, [], .returned)),
  (16, [], (.aload_n 1, 17, 1, [], .returned)),
  (17, [393], (.getfield 31, 20, 0, [2, 2], .returned)),
  (20, [], (.iload_n 2, 21, 2, [], .returned)),
  (21, [], (.aaload, 22, 0, [], .returned)),
  (22, [859, 862, 860, 861, 97], (.invokevirtual 32, 25, 0, [1, 3, 0, 0], .code yX3_copyFrom cX3_copyFrom 2 none)),
  (25, [], (.iinc 2 1, 28, 2, [], .constant "" 0 (1))),
  (28, [], (.goto (-26), 31, 2, [], .returned)),
  (31, [], (.return_, 32, 0, [], .returned))]
theorem ck_X8_begin : okT q_X8_begin t_X8_begin = true := by decide +kernel
theorem e_X8_begin_0 : lk t_X8_begin 0 = some (.iconst 0, 1, 0, [], .constant "" 0 (0)) := rfl
theorem e_X8_begin_1 : lk t_X8_begin 1 = some (.istore_n 2, 2, 2, [], .returned) := rfl
theorem e_X8_begin_2 : lk t_X8_begin 2 = some (.iload_n 2, 3, 2, [], .returned) := rfl
theorem e_X8_begin_3 : lk t_X8_begin 3 = some (.aload_n 1, 4, 1, [], .returned) := rfl
theorem e_X8_begin_4 : lk t_X8_begin 4 = some (.getfield 25, 7, 0, [5, 0], .returned) := rfl
theorem e_X8_begin_7 : lk t_X8_begin 7 = some (.if_icmp .ge 24, 10, 31, [], .returned) := rfl
theorem e_X8_begin_10 : lk t_X8_begin 10 = some (.aload_n 0, 11, 0, [], .returned) := rfl
theorem e_X8_begin_11 : lk t_X8_begin 11 = some (.getfield 11, 14, 8, [0, 2], .returned) := rfl
theorem e_X8_begin_14 : lk t_X8_begin 14 = some (.iload_n 2, 15, 2, [], .returned) := rfl
theorem e_X8_begin_15 : lk t_X8_begin 15 = some (.aaload, 16, 0, [], .returned) := rfl
theorem e_X8_begin_16 : lk t_X8_begin 16 = some (.aload_n 1, 17, 1, [], .returned) := rfl
theorem e_X8_begin_17 : lk t_X8_begin 17 = some (.getfield 31, 20, 0, [2, 2], .returned) := rfl
theorem e_X8_begin_20 : lk t_X8_begin 20 = some (.iload_n 2, 21, 2, [], .returned) := rfl
theorem e_X8_begin_21 : lk t_X8_begin 21 = some (.aaload, 22, 0, [], .returned) := rfl
theorem e_X8_begin_22 : lk t_X8_begin 22 = some (.invokevirtual 32, 25, 0, [1, 3, 0, 0], .code yX3_copyFrom cX3_copyFrom 2 none) := rfl
theorem e_X8_begin_25 : lk t_X8_begin 25 = some (.iinc 2 1, 28, 2, [], .constant "" 0 (1)) := rfl
theorem e_X8_begin_28 : lk t_X8_begin 28 = some (.goto (-26), 31, 2, [], .returned) := rfl
theorem e_X8_begin_31 : lk t_X8_begin 31 = some (.return_, 32, 0, [], .returned) := rfl
abbrev q_X8_passWeek : MI := (yX8_passWeek, cX8_passWeek, 5, none)
def t_X8_passWeek : Tab := [(0, [], (.iconst 0, 1, 0, [], .constant "" 0 (0))),
  (1, [], (.istore 4, 3, 4, [], .returned)),
  (3, [], (.iload 4, 5, 4, [], .returned)),
  (5, [], (.aload_n 1, 6, 1, [], .returned)),
  (6, [403], (.getfield 25, 9, 0, [5, 0], .returned)),
  (9, [], (.if_icmp .ge 19, 12, 28, [], .returned)),
  (12, [], (.aload_n 0, 13, 0, [], .returned)),
  (13, [294], (.getfield 11, 16, 8, [0, 2], .returned)),
  (16, [], (.iload 4, 18, 4, [], .returned)),
  (18, [], (.aaload, 19, 0, [], .returned)),
  (19, [867, 870, 868, 869, 97], (.invokevirtual 36, 22, 0, [0, 3, 0, 0], .code yX3_fallDue cX3_fallDue 1 none)),
  (22, [], (.iinc 4 1, 25, 4, [], .constant "" 0 (1))),
  (25, [], (.goto (-22), 28, 3, [], .returned)),
  (28, [], (.iconst 0, 29, 0, [], .constant "" 0 (0))),
  (29, [], (.istore 4, 31, 4, [], .returned)),
  (31, [], (.iload 4, 33, 4, [], .returned)),
  (33, [], (.aload_n 1, 34, 1, [], .returned)),
  (34, [401], (.getfield 39, 37, 0, [4, 0], .returned)),
  (37, [], (.if_icmp .ge 53, 40, 90, [], .returned)),
  (40, [], (.aload_n 1, 41, 1, [], .returned)),
  (41, [388], (.getfield 42, 44, 0, [1, 2], .returned)),
  (44, [], (.iload 4, 46, 4, [], .returned)),
  (46, [], (.aaload, 47, 0, [], .returned)),
  (47, [], (.iload_n 2, 48, 2, [], .returned)),
  (48, [872, 875, 873, 874, 101], (.invokevirtual 46, 51, 0, [1, 4, 0, 0], .code yX4_paysInWeek cX4_paysInWeek 2 (some .boolean))),
  (51, [], (.ifCond .eq 33, 54, 84, [], .returned)),
  (54, [], (.aload_n 0, 55, 0, [], .returned)),
  (55, [296], (.getfield 20, 58, 8, [1, 2], .returned)),
  (58, [], (.aload_n 1, 59, 1, [], .returned)),
  (59, [], (.aload_n 0, 60, 0, [], .returned)),
  (60, [294], (.getfield 11, 63, 8, [0, 2], .returned)),
  (63, [], (.iload 4, 65, 4, [], .returned)),
  (65, [], (.iload_n 3, 66, 3, [], .returned)),
  (66, [876, 772, 770, 771, 95], (.invokevirtual 52, 69, 0, [4, 1, 0, 0], .code yX1_reckon cX1_reckon 7 none)),
  (69, [], (.aload_n 0, 70, 0, [], .returned)),
  (70, [296], (.getfield 20, 73, 8, [1, 2], .returned)),
  (73, [], (.aload_n 0, 74, 0, [], .returned)),
  (74, [294], (.getfield 11, 77, 8, [0, 2], .returned)),
  (77, [], (.aload_n 1, 78, 1, [], .returned)),
  (78, [403], (.getfield 25, 81, 0, [5, 0], .returned)),
  (81, [877, 880, 878, 879, 95], (.invokevirtual 56, 84, 0, [2, 1, 0, 0], .code yX1_settle cX1_settle 4 none)),
  (84, [], (.iinc 4 1, 87, 4, [], .constant "" 0 (1))),
  (87, [], (.goto (-56), 90, 31, [], .returned)),
  (90, [], (.return_, 91, 0, [], .returned))]
theorem ck_X8_passWeek : okT q_X8_passWeek t_X8_passWeek = true := by decide +kernel
theorem e_X8_passWeek_0 : lk t_X8_passWeek 0 = some (.iconst 0, 1, 0, [], .constant "" 0 (0)) := rfl
theorem e_X8_passWeek_1 : lk t_X8_passWeek 1 = some (.istore 4, 3, 4, [], .returned) := rfl
theorem e_X8_passWeek_3 : lk t_X8_passWeek 3 = some (.iload 4, 5, 4, [], .returned) := rfl
theorem e_X8_passWeek_5 : lk t_X8_passWeek 5 = some (.aload_n 1, 6, 1, [], .returned) := rfl
theorem e_X8_passWeek_6 : lk t_X8_passWeek 6 = some (.getfield 25, 9, 0, [5, 0], .returned) := rfl
theorem e_X8_passWeek_9 : lk t_X8_passWeek 9 = some (.if_icmp .ge 19, 12, 28, [], .returned) := rfl
theorem e_X8_passWeek_12 : lk t_X8_passWeek 12 = some (.aload_n 0, 13, 0, [], .returned) := rfl
theorem e_X8_passWeek_13 : lk t_X8_passWeek 13 = some (.getfield 11, 16, 8, [0, 2], .returned) := rfl
theorem e_X8_passWeek_16 : lk t_X8_passWeek 16 = some (.iload 4, 18, 4, [], .returned) := rfl
theorem e_X8_passWeek_18 : lk t_X8_passWeek 18 = some (.aaload, 19, 0, [], .returned) := rfl
theorem e_X8_passWeek_19 : lk t_X8_passWeek 19 = some (.invokevirtual 36, 22, 0, [0, 3, 0, 0], .code yX3_fallDue cX3_fallDue 1 none) := rfl
theorem e_X8_passWeek_22 : lk t_X8_passWeek 22 = some (.iinc 4 1, 25, 4, [], .constant "" 0 (1)) := rfl
theorem e_X8_passWeek_25 : lk t_X8_passWeek 25 = some (.goto (-22), 28, 3, [], .returned) := rfl
theorem e_X8_passWeek_28 : lk t_X8_passWeek 28 = some (.iconst 0, 29, 0, [], .constant "" 0 (0)) := rfl
theorem e_X8_passWeek_29 : lk t_X8_passWeek 29 = some (.istore 4, 31, 4, [], .returned) := rfl
theorem e_X8_passWeek_31 : lk t_X8_passWeek 31 = some (.iload 4, 33, 4, [], .returned) := rfl
theorem e_X8_passWeek_33 : lk t_X8_passWeek 33 = some (.aload_n 1, 34, 1, [], .returned) := rfl
theorem e_X8_passWeek_34 : lk t_X8_passWeek 34 = some (.getfield 39, 37, 0, [4, 0], .returned) := rfl
theorem e_X8_passWeek_37 : lk t_X8_passWeek 37 = some (.if_icmp .ge 53, 40, 90, [], .returned) := rfl
theorem e_X8_passWeek_40 : lk t_X8_passWeek 40 = some (.aload_n 1, 41, 1, [], .returned) := rfl
theorem e_X8_passWeek_41 : lk t_X8_passWeek 41 = some (.getfield 42, 44, 0, [1, 2], .returned) := rfl
theorem e_X8_passWeek_44 : lk t_X8_passWeek 44 = some (.iload 4, 46, 4, [], .returned) := rfl
theorem e_X8_passWeek_46 : lk t_X8_passWeek 46 = some (.aaload, 47, 0, [], .returned) := rfl
theorem e_X8_passWeek_47 : lk t_X8_passWeek 47 = some (.iload_n 2, 48, 2, [], .returned) := rfl
theorem e_X8_passWeek_48 : lk t_X8_passWeek 48 = some (.invokevirtual 46, 51, 0, [1, 4, 0, 0], .code yX4_paysInWeek cX4_paysInWeek 2 (some .boolean)) := rfl
theorem e_X8_passWeek_51 : lk t_X8_passWeek 51 = some (.ifCond .eq 33, 54, 84, [], .returned) := rfl
theorem e_X8_passWeek_54 : lk t_X8_passWeek 54 = some (.aload_n 0, 55, 0, [], .returned) := rfl
theorem e_X8_passWeek_55 : lk t_X8_passWeek 55 = some (.getfield 20, 58, 8, [1, 2], .returned) := rfl
theorem e_X8_passWeek_58 : lk t_X8_passWeek 58 = some (.aload_n 1, 59, 1, [], .returned) := rfl
theorem e_X8_passWeek_59 : lk t_X8_passWeek 59 = some (.aload_n 0, 60, 0, [], .returned) := rfl
theorem e_X8_passWeek_60 : lk t_X8_passWeek 60 = some (.getfield 11, 63, 8, [0, 2], .returned) := rfl
theorem e_X8_passWeek_63 : lk t_X8_passWeek 63 = some (.iload 4, 65, 4, [], .returned) := rfl
theorem e_X8_passWeek_65 : lk t_X8_passWeek 65 = some (.iload_n 3, 66, 3, [], .returned) := rfl
theorem e_X8_passWeek_66 : lk t_X8_passWeek 66 = some (.invokevirtual 52, 69, 0, [4, 1, 0, 0], .code yX1_reckon cX1_reckon 7 none) := rfl
theorem e_X8_passWeek_69 : lk t_X8_passWeek 69 = some (.aload_n 0, 70, 0, [], .returned) := rfl
theorem e_X8_passWeek_70 : lk t_X8_passWeek 70 = some (.getfield 20, 73, 8, [1, 2], .returned) := rfl
theorem e_X8_passWeek_73 : lk t_X8_passWeek 73 = some (.aload_n 0, 74, 0, [], .returned) := rfl
theorem e_X8_passWeek_74 : lk t_X8_passWeek 74 = some (.getfield 11, 77, 8, [0, 2], .returned) := rfl
theorem e_X8_passWeek_77 : lk t_X8_passWeek 77 = some (.aload_n 1, 78, 1, [], .returned) := rfl
theorem e_X8_passWeek_78 : lk t_X8_passWeek 78 = some (.getfield 25, 81, 0, [5, 0], .returned) := rfl
theorem e_X8_passWeek_81 : lk t_X8_passWeek 81 = some (.invokevirtual 56, 84, 0, [2, 1, 0, 0], .code yX1_settle cX1_settle 4 none) := rfl
theorem e_X8_passWeek_84 : lk t_X8_passWeek 84 = some (.iinc 4 1, 87, 4, [], .constant "" 0 (1)) := rfl
theorem e_X8_passWeek_87 : lk t_X8_passWeek 87 = some (.goto (-56), 90, 31, [], .returned) := rfl
theorem e_X8_passWeek_90 : lk t_X8_passWeek 90 = some (.return_, 91, 0, [], .returned) := rfl
abbrev q_X8_run : MI := (yX8_run, cX8_run, 5, none)
def t_X8_run : Tab := [(0, [], (.aload_n 0, 1, 0, [], .returned)),
  (1, [], (.aload_n 1, 2, 1, [], .returned)),
  (2, [894, 858, 856, 857, 96], (.invokevirtual 60, 5, 0, [1, 8, 0, 0], .code yX8_begin cX8_begin 3 none)),
  (5, [], (.iconst 1, 6, 0, [], .constant "" 0 (1))),
  (6, [], (.istore 4, 8, 4, [], .returned)),
  (8, [], (.iload 4, 10, 4, [], .returned)),
  (10, [], (.iload_n 2, 11, 2, [], .returned)),
  (11, [], (.if_icmp .gt 17, 14, 28, [], .returned)),
  (14, [], (.aload_n 0, 15, 0, [], .returned)),
  (15, [], (.aload_n 1, 16, 1, [], .returned)),
  (16, [], (.iload 4, 18, 4, [], .returned)),
  (18, [], (.iload_n 3, 19, 3, [], .returned)),
  (19, [895, 866, 864, 865, 96], (.invokevirtual 64, 22, 0, [3, 8, 0, 0], .code yX8_passWeek cX8_passWeek 5 none)),
  (22, [], (.iinc 4 1, 25, 4, [], .constant "" 0 (1))),
  (25, [], (.goto (-17), 28, 8, [], .returned)),
  (28, [], (.return_, 29, 0, [], .returned))]
theorem ck_X8_run : okT q_X8_run t_X8_run = true := by decide +kernel
theorem e_X8_run_0 : lk t_X8_run 0 = some (.aload_n 0, 1, 0, [], .returned) := rfl
theorem e_X8_run_1 : lk t_X8_run 1 = some (.aload_n 1, 2, 1, [], .returned) := rfl
theorem e_X8_run_2 : lk t_X8_run 2 = some (.invokevirtual 60, 5, 0, [1, 8, 0, 0], .code yX8_begin cX8_begin 3 none) := rfl
theorem e_X8_run_5 : lk t_X8_run 5 = some (.iconst 1, 6, 0, [], .constant "" 0 (1)) := rfl
theorem e_X8_run_6 : lk t_X8_run 6 = some (.istore 4, 8, 4, [], .returned) := rfl
theorem e_X8_run_8 : lk t_X8_run 8 = some (.iload 4, 10, 4, [], .returned) := rfl
theorem e_X8_run_10 : lk t_X8_run 10 = some (.iload_n 2, 11, 2, [], .returned) := rfl
theorem e_X8_run_11 : lk t_X8_run 11 = some (.if_icmp .gt 17, 14, 28, [], .returned) := rfl
theorem e_X8_run_14 : lk t_X8_run 14 = some (.aload_n 0, 15, 0, [], .returned) := rfl
theorem e_X8_run_15 : lk t_X8_run 15 = some (.aload_n 1, 16, 1, [], .returned) := rfl
theorem e_X8_run_16 : lk t_X8_run 16 = some (.iload 4, 18, 4, [], .returned) := rfl
theorem e_X8_run_18 : lk t_X8_run 18 = some (.iload_n 3, 19, 3, [], .returned) := rfl
theorem e_X8_run_19 : lk t_X8_run 19 = some (.invokevirtual 64, 22, 0, [3, 8, 0, 0], .code yX8_passWeek cX8_passWeek 5 none) := rfl
theorem e_X8_run_22 : lk t_X8_run 22 = some (.iinc 4 1, 25, 4, [], .constant "" 0 (1)) := rfl
theorem e_X8_run_25 : lk t_X8_run 25 = some (.goto (-17), 28, 8, [], .returned) := rfl
theorem e_X8_run_28 : lk t_X8_run 28 = some (.return_, 29, 0, [], .returned) := rfl
abbrev q_X8_isLiveOneOwed : MI := (yX8_isLiveOneOwed, cX8_isLiveOneOwed, 3, (some .boolean))
def t_X8_isLiveOneOwed : Tab := [(0, [], (.iconst 0, 1, 0, [], .constant "" 0 (0))),
  (1, [], (.istore_n 2, 2, 2, [], .returned)),
  (2, [], (.iload_n 2, 3, 2, [], .returned)),
  (3, [], (.iload_n 1, 4, 1, [], .returned)),
  (4, [], (.if_icmp .ge 35, 7, 39, [], .returned)),
  (7, [], (.aload_n 0, 8, 0, [], .returned)),
  (8, [294], (.getfield 11, 11, 8, [0, 2], .returned)),
  (11, [], (.iload_n 2, 12, 2, [], .returned)),
  (12, [], (.aaload, 13, 0, [], .returned)),
  (13, [904, 660, 658, 659, 97], (.invokevirtual 68, 16, 0, [0, 3, 0, 0], .code yX3_isLive cX3_isLive 1 (some .boolean))),
  (16, [], (.ifCond .eq 17, 19, 33, [], .returned)),
  (19, [], (.aload_n 0, 20, 0, [], .returned)),
  (20, [294], (.getfield 11, 23, 8, [0, 2], .returned)),
  (23, [], (.iload_n 2, 24, 2, [], .returned)),
  (24, [], (.aaload, 25, 0, [], .returned)),
  (25, [268], (.getfield 72, 28, 3, [8, 0], .returned)),
  (28, [], (.ifCond .le 5, 31, 33, [], .returned)),
  (31, [], (.iconst 1, 32, 0, [], .constant "" 0 (1))),
  (32, [], (.ireturn, 33, 1, [], .returned)),
  (33, [], (.iinc 2 1, 36, 2, [], .constant "" 0 (1))),
  (36, [], (.goto (-34), 39, 2, [], .returned)),
  (39, [], (.iconst 0, 40, 0, [], .constant "" 0 (0))),
  (40, [], (.ireturn, 41, 1, [], .returned))]
theorem ck_X8_isLiveOneOwed : okT q_X8_isLiveOneOwed t_X8_isLiveOneOwed = true := by decide +kernel
theorem e_X8_isLiveOneOwed_0 : lk t_X8_isLiveOneOwed 0 = some (.iconst 0, 1, 0, [], .constant "" 0 (0)) := rfl
theorem e_X8_isLiveOneOwed_1 : lk t_X8_isLiveOneOwed 1 = some (.istore_n 2, 2, 2, [], .returned) := rfl
theorem e_X8_isLiveOneOwed_2 : lk t_X8_isLiveOneOwed 2 = some (.iload_n 2, 3, 2, [], .returned) := rfl
theorem e_X8_isLiveOneOwed_3 : lk t_X8_isLiveOneOwed 3 = some (.iload_n 1, 4, 1, [], .returned) := rfl
theorem e_X8_isLiveOneOwed_4 : lk t_X8_isLiveOneOwed 4 = some (.if_icmp .ge 35, 7, 39, [], .returned) := rfl
theorem e_X8_isLiveOneOwed_7 : lk t_X8_isLiveOneOwed 7 = some (.aload_n 0, 8, 0, [], .returned) := rfl
theorem e_X8_isLiveOneOwed_8 : lk t_X8_isLiveOneOwed 8 = some (.getfield 11, 11, 8, [0, 2], .returned) := rfl
theorem e_X8_isLiveOneOwed_11 : lk t_X8_isLiveOneOwed 11 = some (.iload_n 2, 12, 2, [], .returned) := rfl
theorem e_X8_isLiveOneOwed_12 : lk t_X8_isLiveOneOwed 12 = some (.aaload, 13, 0, [], .returned) := rfl
theorem e_X8_isLiveOneOwed_13 : lk t_X8_isLiveOneOwed 13 = some (.invokevirtual 68, 16, 0, [0, 3, 0, 0], .code yX3_isLive cX3_isLive 1 (some .boolean)) := rfl
theorem e_X8_isLiveOneOwed_16 : lk t_X8_isLiveOneOwed 16 = some (.ifCond .eq 17, 19, 33, [], .returned) := rfl
theorem e_X8_isLiveOneOwed_19 : lk t_X8_isLiveOneOwed 19 = some (.aload_n 0, 20, 0, [], .returned) := rfl
theorem e_X8_isLiveOneOwed_20 : lk t_X8_isLiveOneOwed 20 = some (.getfield 11, 23, 8, [0, 2], .returned) := rfl
theorem e_X8_isLiveOneOwed_23 : lk t_X8_isLiveOneOwed 23 = some (.iload_n 2, 24, 2, [], .returned) := rfl
theorem e_X8_isLiveOneOwed_24 : lk t_X8_isLiveOneOwed 24 = some (.aaload, 25, 0, [], .returned) := rfl
theorem e_X8_isLiveOneOwed_25 : lk t_X8_isLiveOneOwed 25 = some (.getfield 72, 28, 3, [8, 0], .returned) := rfl
theorem e_X8_isLiveOneOwed_28 : lk t_X8_isLiveOneOwed 28 = some (.ifCond .le 5, 31, 33, [], .returned) := rfl
theorem e_X8_isLiveOneOwed_31 : lk t_X8_isLiveOneOwed 31 = some (.iconst 1, 32, 0, [], .constant "" 0 (1)) := rfl
theorem e_X8_isLiveOneOwed_32 : lk t_X8_isLiveOneOwed 32 = some (.ireturn, 33, 1, [], .returned) := rfl
theorem e_X8_isLiveOneOwed_33 : lk t_X8_isLiveOneOwed 33 = some (.iinc 2 1, 36, 2, [], .constant "" 0 (1)) := rfl
theorem e_X8_isLiveOneOwed_36 : lk t_X8_isLiveOneOwed 36 = some (.goto (-34), 39, 2, [], .returned) := rfl
theorem e_X8_isLiveOneOwed_39 : lk t_X8_isLiveOneOwed 39 = some (.iconst 0, 40, 0, [], .constant "" 0 (0)) := rfl
theorem e_X8_isLiveOneOwed_40 : lk t_X8_isLiveOneOwed 40 = some (.ireturn, 41, 1, [], .returned) := rfl
