abbrev q_X9_init : MI := (yX9_init, cX9_init, 1, none)
def t_X9_init : Tab := [(0, [], (.aload_n 0, 1, 0, [], .returned)),
  (1, [118, 120, 119], (.invokespecial 1, 4, 1, [], .returned)),
  (4, [], (.aload_n 0, 5, 0, [], .returned)),
  (5, [121, 122, 93], (.new 7, 8, 6, [], .returned)),
  (8, [], (.dup, 9, 0, [], .returned)),
  (9, [123, 125, 124, 93], (.invokespecial 9, 12, 0, [0, 1, 500], .code yX6_init cX6_init 1 none)),
  (12, [440], (.putfield 10, 15, 9, [0, 2], .returned)),
  (15, [], (.aload_n 0, 16, 0, [], .returned)),
  (16, [137, 138, 94], (.new 16, 19, 7, [], .returned)),
  (19, [], (.dup, 20, 0, [], .returned)),
  (20, [139, 141, 140, 94], (.invokespecial 18, 23, 0, [0, 5, 24], .code yX7_init cX7_init 1 none)),
  (23, [441], (.putfield 19, 26, 9, [1, 2], .returned)),
  (26, [], (.aload_n 0, 27, 0, [], .returned)),
  (27, [179, 180, 95], (.new 23, 30, 1, [], .returned)),
  (30, [], (.dup, 31, 0, [], .returned)),
  (31, [181, 183, 182, 95], (.invokespecial 25, 34, 0, [0, 6, 36], .code yX1_init cX1_init 1 none)),
  (34, [442], (.putfield 26, 37, 9, [2, 2], .returned)),
  (37, [], (.aload_n 0, 38, 0, [], .returned)),
  (38, [224, 225, 96], (.new 30, 41, 8, [], .returned)),
  (41, [], (.dup, 42, 0, [], .returned)),
  (42, [226, 228, 227, 96], (.invokespecial 32, 45, 0, [0, 14, 112], .code yX8_init cX8_init 2 none)),
  (45, [443], (.putfield 33, 48, 9, [3, 2], .returned)),
  (48, [], (.aload_n 0, 49, 0, [], .returned)),
  (49, [302, 303, 98], (.new 37, 52, 2, [], .returned)),
  (52, [], (.dup, 53, 0, [], .returned)),
  (53, [304, 306, 305, 98], (.invokespecial 39, 56, 0, [0, 13, 216], .code yX2_init cX2_init 1 none)),
  (56, [444], (.putfield 40, 59, 9, [4, 2], .returned)),
  (59, [], (.aload_n 0, 60, 0, [], .returned)),
  (60, [320, 321, 99], (.new 44, 63, 0, [], .returned)),
  (63, [], (.dup, 64, 0, [], .returned)),
  (64, [322, 324, 323, 99], (.invokespecial 46, 67, 0, [0, 21, 132], .code yX0_init cX0_init 2 none)),
  (67, [445], (.putfield 47, 70, 9, [5, 2], .returned)),
  (70, [], (.aload_n 0, 71, 0, [], .returned)),
  (71, [320, 321, 99], (.new 44, 74, 0, [], .returned)),
  (74, [], (.dup, 75, 0, [], .returned)),
  (75, [322, 324, 323, 99], (.invokespecial 46, 78, 0, [0, 21, 132], .code yX0_init cX0_init 2 none)),
  (78, [446], (.putfield 51, 81, 9, [6, 2], .returned)),
  (81, [], (.aload_n 0, 82, 0, [], .returned)),
  (82, [], (.iconst 0, 83, 0, [], .constant "" 0 (0))),
  (83, [447], (.putfield 54, 86, 9, [7, 0], .returned)),
  (86, [], (.aload_n 0, 87, 0, [], .returned)),
  (87, [], (.iconst 0, 88, 0, [], .constant "" 0 (0))),
  (88, [448], (.putfield 58, 91, 9, [8, 0], .returned)),
  (91, [], (.aload_n 0, 92, 0, [], .returned)),
  (92, [], (.iconst (-1), 93, 0, [], .constant "" 0 (-1))),
  (93, [449], (.putfield 61, 96, 9, [9, 0], .returned)),
  (96, [], (.return_, 97, 0, [], .returned))]
theorem ck_X9_init : okT q_X9_init t_X9_init = true := by decide +kernel
theorem e_X9_init_0 : lk t_X9_init 0 = some (.aload_n 0, 1, 0, [], .returned) := rfl
theorem e_X9_init_1 : lk t_X9_init 1 = some (.invokespecial 1, 4, 1, [], .returned) := rfl
theorem e_X9_init_4 : lk t_X9_init 4 = some (.aload_n 0, 5, 0, [], .returned) := rfl
theorem e_X9_init_5 : lk t_X9_init 5 = some (.new 7, 8, 6, [], .returned) := rfl
theorem e_X9_init_8 : lk t_X9_init 8 = some (.dup, 9, 0, [], .returned) := rfl
theorem e_X9_init_9 : lk t_X9_init 9 = some (.invokespecial 9, 12, 0, [0, 1, 500], .code yX6_init cX6_init 1 none) := rfl
theorem e_X9_init_12 : lk t_X9_init 12 = some (.putfield 10, 15, 9, [0, 2], .returned) := rfl
theorem e_X9_init_15 : lk t_X9_init 15 = some (.aload_n 0, 16, 0, [], .returned) := rfl
theorem e_X9_init_16 : lk t_X9_init 16 = some (.new 16, 19, 7, [], .returned) := rfl
theorem e_X9_init_19 : lk t_X9_init 19 = some (.dup, 20, 0, [], .returned) := rfl
theorem e_X9_init_20 : lk t_X9_init 20 = some (.invokespecial 18, 23, 0, [0, 5, 24], .code yX7_init cX7_init 1 none) := rfl
theorem e_X9_init_23 : lk t_X9_init 23 = some (.putfield 19, 26, 9, [1, 2], .returned) := rfl
theorem e_X9_init_26 : lk t_X9_init 26 = some (.aload_n 0, 27, 0, [], .returned) := rfl
theorem e_X9_init_27 : lk t_X9_init 27 = some (.new 23, 30, 1, [], .returned) := rfl
theorem e_X9_init_30 : lk t_X9_init 30 = some (.dup, 31, 0, [], .returned) := rfl
theorem e_X9_init_31 : lk t_X9_init 31 = some (.invokespecial 25, 34, 0, [0, 6, 36], .code yX1_init cX1_init 1 none) := rfl
theorem e_X9_init_34 : lk t_X9_init 34 = some (.putfield 26, 37, 9, [2, 2], .returned) := rfl
theorem e_X9_init_37 : lk t_X9_init 37 = some (.aload_n 0, 38, 0, [], .returned) := rfl
theorem e_X9_init_38 : lk t_X9_init 38 = some (.new 30, 41, 8, [], .returned) := rfl
theorem e_X9_init_41 : lk t_X9_init 41 = some (.dup, 42, 0, [], .returned) := rfl
theorem e_X9_init_42 : lk t_X9_init 42 = some (.invokespecial 32, 45, 0, [0, 14, 112], .code yX8_init cX8_init 2 none) := rfl
theorem e_X9_init_45 : lk t_X9_init 45 = some (.putfield 33, 48, 9, [3, 2], .returned) := rfl
theorem e_X9_init_48 : lk t_X9_init 48 = some (.aload_n 0, 49, 0, [], .returned) := rfl
theorem e_X9_init_49 : lk t_X9_init 49 = some (.new 37, 52, 2, [], .returned) := rfl
theorem e_X9_init_52 : lk t_X9_init 52 = some (.dup, 53, 0, [], .returned) := rfl
theorem e_X9_init_53 : lk t_X9_init 53 = some (.invokespecial 39, 56, 0, [0, 13, 216], .code yX2_init cX2_init 1 none) := rfl
theorem e_X9_init_56 : lk t_X9_init 56 = some (.putfield 40, 59, 9, [4, 2], .returned) := rfl
theorem e_X9_init_59 : lk t_X9_init 59 = some (.aload_n 0, 60, 0, [], .returned) := rfl
theorem e_X9_init_60 : lk t_X9_init 60 = some (.new 44, 63, 0, [], .returned) := rfl
theorem e_X9_init_63 : lk t_X9_init 63 = some (.dup, 64, 0, [], .returned) := rfl
theorem e_X9_init_64 : lk t_X9_init 64 = some (.invokespecial 46, 67, 0, [0, 21, 132], .code yX0_init cX0_init 2 none) := rfl
theorem e_X9_init_67 : lk t_X9_init 67 = some (.putfield 47, 70, 9, [5, 2], .returned) := rfl
theorem e_X9_init_70 : lk t_X9_init 70 = some (.aload_n 0, 71, 0, [], .returned) := rfl
theorem e_X9_init_71 : lk t_X9_init 71 = some (.new 44, 74, 0, [], .returned) := rfl
theorem e_X9_init_74 : lk t_X9_init 74 = some (.dup, 75, 0, [], .returned) := rfl
theorem e_X9_init_75 : lk t_X9_init 75 = some (.invokespecial 46, 78, 0, [0, 21, 132], .code yX0_init cX0_init 2 none) := rfl
theorem e_X9_init_78 : lk t_X9_init 78 = some (.putfield 51, 81, 9, [6, 2], .returned) := rfl
theorem e_X9_init_81 : lk t_X9_init 81 = some (.aload_n 0, 82, 0, [], .returned) := rfl
theorem e_X9_init_82 : lk t_X9_init 82 = some (.iconst 0, 83, 0, [], .constant "" 0 (0)) := rfl
theorem e_X9_init_83 : lk t_X9_init 83 = some (.putfield 54, 86, 9, [7, 0], .returned) := rfl
theorem e_X9_init_86 : lk t_X9_init 86 = some (.aload_n 0, 87, 0, [], .returned) := rfl
theorem e_X9_init_87 : lk t_X9_init 87 = some (.iconst 0, 88, 0, [], .constant "" 0 (0)) := rfl
theorem e_X9_init_88 : lk t_X9_init 88 = some (.putfield 58, 91, 9, [8, 0], .returned) := rfl
theorem e_X9_init_91 : lk t_X9_init 91 = some (.aload_n 0, 92, 0, [], .returned) := rfl
theorem e_X9_init_92 : lk t_X9_init 92 = some (.iconst (-1), 93, 0, [], .constant "" 0 (-1)) := rfl
theorem e_X9_init_93 : lk t_X9_init 93 = some (.putfield 61, 96, 9, [9, 0], .returned) := rfl
theorem e_X9_init_96 : lk t_X9_init 96 = some (.return_, 97, 0, [], .returned) := rfl
abbrev q_X9_feed : MI := (yX9_feed, cX9_feed, 6, (some .int))
def t_X9_feed : Tab := [(0, [], (.aload_n 0, 1, 0, [], .returned)),
  (1, [440], (.getfield 10, 4, 9, [0, 2], .returned)),
  (4, [129], (.getfield 64, 7, 6, [1, 0], .returned)),
  (7, [], (.bipush 20, 9, 0, [], .constant "" 0 (20))),
  (9, [], (.iadd, 10, 0, [], .returned)),
  (10, [], (.sipush 500, 13, 0, [], .constant "" 0 (500))),
  (13, [], (.if_icmp .le 5, 16, 18, [], .returned)),
  (16, [], (.iconst (-1), 17, 0, [], .constant "" 0 (-1))),
  (17, [], (.ireturn, 18, 0, [], .returned)),
  (18, [], (.aload_n 0, 19, 0, [], .returned)),
  (19, [440], (.getfield 10, 22, 9, [0, 2], .returned)),
  (22, [], (.iload_n 1, 23, 1, [], .returned)),
  (23, [475, 478, 476, 477, 93], (.invokevirtual 67, 26, 0, [1, 6, 0, 0], .code yX6_append cX6_append 3 none)),
  (26, [], (.aload_n 0, 27, 0, [], .returned)),
  (27, [440], (.getfield 10, 30, 9, [0, 2], .returned)),
  (30, [], (.iload_n 2, 31, 2, [], .returned)),
  (31, [475, 478, 476, 477, 93], (.invokevirtual 67, 34, 0, [1, 6, 0, 0], .code yX6_append cX6_append 3 none)),
  (34, [], (.aload_n 0, 35, 0, [], .returned)),
  (35, [440], (.getfield 10, 38, 9, [0, 2], .returned)),
  (38, [], (.iload_n 3, 39, 3, [], .returned)),
  (39, [475, 478, 476, 477, 93], (.invokevirtual 67, 42, 0, [1, 6, 0, 0], .code yX6_append cX6_append 3 none)),
  (42, [], (.aload_n 0, 43, 0, [], .returned)),
  (43, [440], (.getfield 10, 46, 9, [0, 2], .returned)),
  (46, [], (.iload 4, 48, 4, [], .returned)),
  (48, [475, 478, 476, 477, 93], (.invokevirtual 67, 51, 0, [1, 6, 0, 0], .code yX6_append cX6_append 3 none)),
  (51, [], (.aload_n 0, 52, 0, [], .returned)),
  (52, [440], (.getfield 10, 55, 9, [0, 2], .returned)),
  (55, [], (.iload 5, 57, 5, [], .returned)),
  (57, [475, 478, 476, 477, 93], (.invokevirtual 67, 60, 0, [1, 6, 0, 0], .code yX6_append cX6_append 3 none)),
  (60, [], (.aload_n 0, 61, 0, [], .returned)),
  (61, [440], (.getfield 10, 64, 9, [0, 2], .returned)),
  (64, [129], (.getfield 64, 67, 6, [1, 0], .returned)),
  (67, [], (.ireturn, 68, 0, [], .returned))]
theorem ck_X9_feed : okT q_X9_feed t_X9_feed = true := by decide +kernel
theorem e_X9_feed_0 : lk t_X9_feed 0 = some (.aload_n 0, 1, 0, [], .returned) := rfl
theorem e_X9_feed_1 : lk t_X9_feed 1 = some (.getfield 10, 4, 9, [0, 2], .returned) := rfl
theorem e_X9_feed_4 : lk t_X9_feed 4 = some (.getfield 64, 7, 6, [1, 0], .returned) := rfl
theorem e_X9_feed_7 : lk t_X9_feed 7 = some (.bipush 20, 9, 0, [], .constant "" 0 (20)) := rfl
theorem e_X9_feed_9 : lk t_X9_feed 9 = some (.iadd, 10, 0, [], .returned) := rfl
theorem e_X9_feed_10 : lk t_X9_feed 10 = some (.sipush 500, 13, 0, [], .constant "" 0 (500)) := rfl
theorem e_X9_feed_13 : lk t_X9_feed 13 = some (.if_icmp .le 5, 16, 18, [], .returned) := rfl
theorem e_X9_feed_16 : lk t_X9_feed 16 = some (.iconst (-1), 17, 0, [], .constant "" 0 (-1)) := rfl
theorem e_X9_feed_17 : lk t_X9_feed 17 = some (.ireturn, 18, 0, [], .returned) := rfl
theorem e_X9_feed_18 : lk t_X9_feed 18 = some (.aload_n 0, 19, 0, [], .returned) := rfl
theorem e_X9_feed_19 : lk t_X9_feed 19 = some (.getfield 10, 22, 9, [0, 2], .returned) := rfl
theorem e_X9_feed_22 : lk t_X9_feed 22 = some (.iload_n 1, 23, 1, [], .returned) := rfl
theorem e_X9_feed_23 : lk t_X9_feed 23 = some (.invokevirtual 67, 26, 0, [1, 6, 0, 0], .code yX6_append cX6_append 3 none) := rfl
theorem e_X9_feed_26 : lk t_X9_feed 26 = some (.aload_n 0, 27, 0, [], .returned) := rfl
theorem e_X9_feed_27 : lk t_X9_feed 27 = some (.getfield 10, 30, 9, [0, 2], .returned) := rfl
theorem e_X9_feed_30 : lk t_X9_feed 30 = some (.iload_n 2, 31, 2, [], .returned) := rfl
theorem e_X9_feed_31 : lk t_X9_feed 31 = some (.invokevirtual 67, 34, 0, [1, 6, 0, 0], .code yX6_append cX6_append 3 none) := rfl
theorem e_X9_feed_34 : lk t_X9_feed 34 = some (.aload_n 0, 35, 0, [], .returned) := rfl
theorem e_X9_feed_35 : lk t_X9_feed 35 = some (.getfield 10, 38, 9, [0, 2], .returned) := rfl
theorem e_X9_feed_38 : lk t_X9_feed 38 = some (.iload_n 3, 39, 3, [], .returned) := rfl
theorem e_X9_feed_39 : lk t_X9_feed 39 = some (.invokevirtual 67, 42, 0, [1, 6, 0, 0], .code yX6_append cX6_append 3 none) := rfl
theorem e_X9_feed_42 : lk t_X9_feed 42 = some (.aload_n 0, 43, 0, [], .returned) := rfl
theorem e_X9_feed_43 : lk t_X9_feed 43 = some (.getfield 10, 46, 9, [0, 2], .returned) := rfl
theorem e_X9_feed_46 : lk t_X9_feed 46 = some (.iload 4, 48, 4, [], .returned) := rfl
theorem e_X9_feed_48 : lk t_X9_feed 48 = some (.invokevirtual 67, 51, 0, [1, 6, 0, 0], .code yX6_append cX6_append 3 none) := rfl
theorem e_X9_feed_51 : lk t_X9_feed 51 = some (.aload_n 0, 52, 0, [], .returned) := rfl
theorem e_X9_feed_52 : lk t_X9_feed 52 = some (.getfield 10, 55, 9, [0, 2], .returned) := rfl
theorem e_X9_feed_55 : lk t_X9_feed 55 = some (.iload 5, 57, 5, [], .returned) := rfl
theorem e_X9_feed_57 : lk t_X9_feed 57 = some (.invokevirtual 67, 60, 0, [1, 6, 0, 0], .code yX6_append cX6_append 3 none) := rfl
theorem e_X9_feed_60 : lk t_X9_feed 60 = some (.aload_n 0, 61, 0, [], .returned) := rfl
theorem e_X9_feed_61 : lk t_X9_feed 61 = some (.getfield 10, 64, 9, [0, 2], .returned) := rfl
theorem e_X9_feed_64 : lk t_X9_feed 64 = some (.getfield 64, 67, 6, [1, 0], .returned) := rfl
theorem e_X9_feed_67 : lk t_X9_feed 67 = some (.ireturn, 68, 0, [], .returned) := rfl
abbrev q_X9_desk : MI := (yX9_desk, cX9_desk, 3, (some .int))
def t_X9_desk : Tab := [(0, [], (.iload_n 1, 1, 1, [], .returned)),
  (1, [], (.iconst 0, 2, 0, [], .constant "" 0 (0))),
  (2, [], (.aload_n 0, 3, 0, [], .returned)),
  (3, [440], (.getfield 10, 6, 9, [0, 2], .returned)),
  (6, [129], (.getfield 64, 9, 6, [1, 0], .returned)),
  (9, [483, 485, 484, 92], (.invokestatic 71, 12, 0, [3, 0, 0], .code yX9_within cX9_within 3 (some .boolean))),
  (12, [], (.ifCond .ne 9, 15, 21, [], .returned)),
  (15, [], (.aload_n 0, 16, 0, [], .returned)),
  (16, [], (.iconst 2, 17, 0, [], .constant "" 0 (2))),
  (17, [486, 489, 488, 0, 92], (.invokevirtual 75, 20, 0, [1, 9, 0, 0], .code yX9_refuse cX9_refuse 2 (some .int))),
  (20, [], (.ireturn, 21, 0, [], .returned)),
  (21, [], (.aload_n 0, 22, 0, [], .returned)),
  (22, [], (.aload_n 0, 23, 0, [], .returned)),
  (23, [441], (.getfield 19, 26, 9, [1, 2], .returned)),
  (26, [], (.aload_n 0, 27, 0, [], .returned)),
  (27, [440], (.getfield 10, 30, 9, [0, 2], .returned)),
  (30, [128], (.getfield 79, 33, 6, [0, 2], .returned)),
  (33, [], (.iload_n 1, 34, 1, [], .returned)),
  (34, [], (.aload_n 0, 35, 0, [], .returned)),
  (35, [446], (.getfield 51, 38, 9, [6, 2], .returned)),
  (38, [490, 493, 491, 492, 94], (.invokevirtual 83, 41, 0, [3, 7, 0, 0], .code yX7_read cX7_read 6 (some .int))),
  (41, [448], (.putfield 58, 44, 9, [8, 0], .returned)),
  (44, [], (.aload_n 0, 45, 0, [], .returned)),
  (45, [440], (.getfield 10, 48, 9, [0, 2], .returned)),
  (48, [], (.iconst 0, 49, 0, [], .constant "" 0 (0))),
  (49, [129], (.putfield 64, 52, 6, [1, 0], .returned)),
  (52, [], (.aload_n 0, 53, 0, [], .returned)),
  (53, [448], (.getfield 58, 56, 9, [8, 0], .returned)),
  (56, [], (.ifCond .eq 20, 59, 76, [], .returned)),
  (59, [], (.aload_n 0, 60, 0, [], .returned)),
  (60, [], (.aload_n 0, 61, 0, [], .returned)),
  (61, [441], (.getfield 19, 64, 9, [1, 2], .returned)),
  (64, [145], (.getfield 87, 67, 7, [0, 0], .returned)),
  (67, [449], (.putfield 61, 70, 9, [9, 0], .returned)),
  (70, [], (.aload_n 0, 71, 0, [], .returned)),
  (71, [], (.iconst 4, 72, 0, [], .constant "" 0 (4))),
  (72, [486, 489, 488, 0, 92], (.invokevirtual 75, 75, 0, [1, 9, 0, 0], .code yX9_refuse cX9_refuse 2 (some .int))),
  (75, [], (.ireturn, 76, 0, [], .returned)),
  (76, [], (.aload_n 0, 77, 0, [], .returned)),
  (77, [445], (.getfield 47, 80, 9, [5, 2], .returned)),
  (80, [], (.astore_n 2, 81, 2, [], .returned)),
  (81, [], (.aload_n 0, 82, 0, [], .returned)),
  (82, [], (.aload_n 0, 83, 0, [], .returned)),
  (83, [446], (.getfield 51, 86, 9, [6, 2], .returned)),
  (86, [445], (.putfield 47, 89, 9, [5, 2], .returned)),
  (89, [], (.aload_n 0, 90, 0, [], .returned)),
  (90, [], (.aload_n 2, 91, 2, [], .returned)),
  (91, [446], (.putfield 51, 94, 9, [6, 2], .returned)),
  (94, [], (.aload_n 0, 95, 0, [], .returned)),
  (95, [444], (.getfield 40, 98, 9, [4, 2], .returned)),
  (98, [613, 616, 614, 615, 98], (.invokevirtual 90, 101, 0, [0, 2, 0, 0], .code yX2_clear cX2_clear 1 none)),
  (101, [], (.aload_n 0, 102, 0, [], .returned)),
  (102, [], (.aload_n 0, 103, 0, [], .returned)),
  (103, [445], (.getfield 47, 106, 9, [5, 2], .returned)),
  (106, [406], (.getfield 93, 109, 0, [5, 0], .returned)),
  (109, [617, 620, 619, 20, 92], (.invokevirtual 96, 112, 0, [1, 9, 0, 0], .code yX9_granted cX9_granted 2 (some .int))),
  (112, [], (.ireturn, 113, 0, [], .returned))]
theorem ck_X9_desk : okT q_X9_desk t_X9_desk = true := by decide +kernel
theorem e_X9_desk_0 : lk t_X9_desk 0 = some (.iload_n 1, 1, 1, [], .returned) := rfl
theorem e_X9_desk_1 : lk t_X9_desk 1 = some (.iconst 0, 2, 0, [], .constant "" 0 (0)) := rfl
theorem e_X9_desk_2 : lk t_X9_desk 2 = some (.aload_n 0, 3, 0, [], .returned) := rfl
theorem e_X9_desk_3 : lk t_X9_desk 3 = some (.getfield 10, 6, 9, [0, 2], .returned) := rfl
theorem e_X9_desk_6 : lk t_X9_desk 6 = some (.getfield 64, 9, 6, [1, 0], .returned) := rfl
theorem e_X9_desk_9 : lk t_X9_desk 9 = some (.invokestatic 71, 12, 0, [3, 0, 0], .code yX9_within cX9_within 3 (some .boolean)) := rfl
theorem e_X9_desk_12 : lk t_X9_desk 12 = some (.ifCond .ne 9, 15, 21, [], .returned) := rfl
theorem e_X9_desk_15 : lk t_X9_desk 15 = some (.aload_n 0, 16, 0, [], .returned) := rfl
theorem e_X9_desk_16 : lk t_X9_desk 16 = some (.iconst 2, 17, 0, [], .constant "" 0 (2)) := rfl
theorem e_X9_desk_17 : lk t_X9_desk 17 = some (.invokevirtual 75, 20, 0, [1, 9, 0, 0], .code yX9_refuse cX9_refuse 2 (some .int)) := rfl
theorem e_X9_desk_20 : lk t_X9_desk 20 = some (.ireturn, 21, 0, [], .returned) := rfl
theorem e_X9_desk_21 : lk t_X9_desk 21 = some (.aload_n 0, 22, 0, [], .returned) := rfl
theorem e_X9_desk_22 : lk t_X9_desk 22 = some (.aload_n 0, 23, 0, [], .returned) := rfl
theorem e_X9_desk_23 : lk t_X9_desk 23 = some (.getfield 19, 26, 9, [1, 2], .returned) := rfl
theorem e_X9_desk_26 : lk t_X9_desk 26 = some (.aload_n 0, 27, 0, [], .returned) := rfl
theorem e_X9_desk_27 : lk t_X9_desk 27 = some (.getfield 10, 30, 9, [0, 2], .returned) := rfl
theorem e_X9_desk_30 : lk t_X9_desk 30 = some (.getfield 79, 33, 6, [0, 2], .returned) := rfl
theorem e_X9_desk_33 : lk t_X9_desk 33 = some (.iload_n 1, 34, 1, [], .returned) := rfl
theorem e_X9_desk_34 : lk t_X9_desk 34 = some (.aload_n 0, 35, 0, [], .returned) := rfl
theorem e_X9_desk_35 : lk t_X9_desk 35 = some (.getfield 51, 38, 9, [6, 2], .returned) := rfl
theorem e_X9_desk_38 : lk t_X9_desk 38 = some (.invokevirtual 83, 41, 0, [3, 7, 0, 0], .code yX7_read cX7_read 6 (some .int)) := rfl
theorem e_X9_desk_41 : lk t_X9_desk 41 = some (.putfield 58, 44, 9, [8, 0], .returned) := rfl
theorem e_X9_desk_44 : lk t_X9_desk 44 = some (.aload_n 0, 45, 0, [], .returned) := rfl
theorem e_X9_desk_45 : lk t_X9_desk 45 = some (.getfield 10, 48, 9, [0, 2], .returned) := rfl
theorem e_X9_desk_48 : lk t_X9_desk 48 = some (.iconst 0, 49, 0, [], .constant "" 0 (0)) := rfl
theorem e_X9_desk_49 : lk t_X9_desk 49 = some (.putfield 64, 52, 6, [1, 0], .returned) := rfl
theorem e_X9_desk_52 : lk t_X9_desk 52 = some (.aload_n 0, 53, 0, [], .returned) := rfl
theorem e_X9_desk_53 : lk t_X9_desk 53 = some (.getfield 58, 56, 9, [8, 0], .returned) := rfl
theorem e_X9_desk_56 : lk t_X9_desk 56 = some (.ifCond .eq 20, 59, 76, [], .returned) := rfl
theorem e_X9_desk_59 : lk t_X9_desk 59 = some (.aload_n 0, 60, 0, [], .returned) := rfl
theorem e_X9_desk_60 : lk t_X9_desk 60 = some (.aload_n 0, 61, 0, [], .returned) := rfl
theorem e_X9_desk_61 : lk t_X9_desk 61 = some (.getfield 19, 64, 9, [1, 2], .returned) := rfl
theorem e_X9_desk_64 : lk t_X9_desk 64 = some (.getfield 87, 67, 7, [0, 0], .returned) := rfl
theorem e_X9_desk_67 : lk t_X9_desk 67 = some (.putfield 61, 70, 9, [9, 0], .returned) := rfl
theorem e_X9_desk_70 : lk t_X9_desk 70 = some (.aload_n 0, 71, 0, [], .returned) := rfl
theorem e_X9_desk_71 : lk t_X9_desk 71 = some (.iconst 4, 72, 0, [], .constant "" 0 (4)) := rfl
theorem e_X9_desk_72 : lk t_X9_desk 72 = some (.invokevirtual 75, 75, 0, [1, 9, 0, 0], .code yX9_refuse cX9_refuse 2 (some .int)) := rfl
theorem e_X9_desk_75 : lk t_X9_desk 75 = some (.ireturn, 76, 0, [], .returned) := rfl
theorem e_X9_desk_76 : lk t_X9_desk 76 = some (.aload_n 0, 77, 0, [], .returned) := rfl
theorem e_X9_desk_77 : lk t_X9_desk 77 = some (.getfield 47, 80, 9, [5, 2], .returned) := rfl
theorem e_X9_desk_80 : lk t_X9_desk 80 = some (.astore_n 2, 81, 2, [], .returned) := rfl
theorem e_X9_desk_81 : lk t_X9_desk 81 = some (.aload_n 0, 82, 0, [], .returned) := rfl
theorem e_X9_desk_82 : lk t_X9_desk 82 = some (.aload_n 0, 83, 0, [], .returned) := rfl
theorem e_X9_desk_83 : lk t_X9_desk 83 = some (.getfield 51, 86, 9, [6, 2], .returned) := rfl
theorem e_X9_desk_86 : lk t_X9_desk 86 = some (.putfield 47, 89, 9, [5, 2], .returned) := rfl
theorem e_X9_desk_89 : lk t_X9_desk 89 = some (.aload_n 0, 90, 0, [], .returned) := rfl
theorem e_X9_desk_90 : lk t_X9_desk 90 = some (.aload_n 2, 91, 2, [], .returned) := rfl
theorem e_X9_desk_91 : lk t_X9_desk 91 = some (.putfield 51, 94, 9, [6, 2], .returned) := rfl
theorem e_X9_desk_94 : lk t_X9_desk 94 = some (.aload_n 0, 95, 0, [], .returned) := rfl
theorem e_X9_desk_95 : lk t_X9_desk 95 = some (.getfield 40, 98, 9, [4, 2], .returned) := rfl
theorem e_X9_desk_98 : lk t_X9_desk 98 = some (.invokevirtual 90, 101, 0, [0, 2, 0, 0], .code yX2_clear cX2_clear 1 none) := rfl
theorem e_X9_desk_101 : lk t_X9_desk 101 = some (.aload_n 0, 102, 0, [], .returned) := rfl
theorem e_X9_desk_102 : lk t_X9_desk 102 = some (.aload_n 0, 103, 0, [], .returned) := rfl
theorem e_X9_desk_103 : lk t_X9_desk 103 = some (.getfield 47, 106, 9, [5, 2], .returned) := rfl
theorem e_X9_desk_106 : lk t_X9_desk 106 = some (.getfield 93, 109, 0, [5, 0], .returned) := rfl
theorem e_X9_desk_109 : lk t_X9_desk 109 = some (.invokevirtual 96, 112, 0, [1, 9, 0, 0], .code yX9_granted cX9_granted 2 (some .int)) := rfl
theorem e_X9_desk_112 : lk t_X9_desk 112 = some (.ireturn, 113, 0, [], .returned) := rfl
abbrev q_X9_fault : MI := (yX9_fault, cX9_fault, 1, (some .int))
def t_X9_fault : Tab := [(0, [], (.aload_n 0, 1, 0, [], .returned)),
  (1, [448], (.getfield 58, 4, 9, [8, 0], .returned)),
  (4, [], (.ireturn, 5, 0, [], .returned))]
theorem ck_X9_fault : okT q_X9_fault t_X9_fault = true := by decide +kernel
theorem e_X9_fault_0 : lk t_X9_fault 0 = some (.aload_n 0, 1, 0, [], .returned) := rfl
theorem e_X9_fault_1 : lk t_X9_fault 1 = some (.getfield 58, 4, 9, [8, 0], .returned) := rfl
theorem e_X9_fault_4 : lk t_X9_fault 4 = some (.ireturn, 5, 0, [], .returned) := rfl
abbrev q_X9_where : MI := (yX9_where, cX9_where, 1, (some .int))
def t_X9_where : Tab := [(0, [], (.aload_n 0, 1, 0, [], .returned)),
  (1, [447], (.getfield 54, 4, 9, [7, 0], .returned)),
  (4, [], (.iconst 4, 5, 0, [], .constant "" 0 (4))),
  (5, [], (.if_icmp .ne 10, 8, 15, [], .returned)),
  (8, [], (.aload_n 0, 9, 0, [], .returned)),
  (9, [449], (.getfield 61, 12, 9, [9, 0], .returned)),
  (12, [], (.goto 4, 15, 16, [], .returned)),
  (15, [], (.iconst (-1), 16, 0, [], .constant "" 0 (-1))),
  (16, [], (.ireturn, 17, 0, [], .returned))]
theorem ck_X9_where : okT q_X9_where t_X9_where = true := by decide +kernel
theorem e_X9_where_0 : lk t_X9_where 0 = some (.aload_n 0, 1, 0, [], .returned) := rfl
theorem e_X9_where_1 : lk t_X9_where 1 = some (.getfield 54, 4, 9, [7, 0], .returned) := rfl
theorem e_X9_where_4 : lk t_X9_where 4 = some (.iconst 4, 5, 0, [], .constant "" 0 (4)) := rfl
theorem e_X9_where_5 : lk t_X9_where 5 = some (.if_icmp .ne 10, 8, 15, [], .returned) := rfl
theorem e_X9_where_8 : lk t_X9_where 8 = some (.aload_n 0, 9, 0, [], .returned) := rfl
theorem e_X9_where_9 : lk t_X9_where 9 = some (.getfield 61, 12, 9, [9, 0], .returned) := rfl
theorem e_X9_where_12 : lk t_X9_where 12 = some (.goto 4, 15, 16, [], .returned) := rfl
theorem e_X9_where_15 : lk t_X9_where 15 = some (.iconst (-1), 16, 0, [], .constant "" 0 (-1)) := rfl
theorem e_X9_where_16 : lk t_X9_where 16 = some (.ireturn, 17, 0, [], .returned) := rfl
abbrev q_X9_about : MI := (yX9_about, cX9_about, 2, (some .int))
def t_X9_about : Tab := [(0, [], (.aload_n 0, 1, 0, [], .returned)),
  (1, [445], (.getfield 47, 4, 9, [5, 2], .returned)),
  (4, [633, 636, 634, 635, 99], (.invokevirtual 99, 7, 0, [0, 0, 0, 0], .code yX0_isOpen cX0_isOpen 1 (some .boolean))),
  (7, [], (.ifCond .eq 13, 10, 20, [], .returned)),
  (10, [], (.iload_n 1, 11, 1, [], .returned)),
  (11, [], (.iconst 0, 12, 0, [], .constant "" 0 (0))),
  (12, [], (.bipush 11, 14, 0, [], .constant "" 0 (11))),
  (14, [483, 485, 484, 92], (.invokestatic 71, 17, 0, [3, 0, 0], .code yX9_within cX9_within 3 (some .boolean))),
  (17, [], (.ifCond .ne 9, 20, 26, [], .returned)),
  (20, [], (.aload_n 0, 21, 0, [], .returned)),
  (21, [], (.iconst 1, 22, 0, [], .constant "" 0 (1))),
  (22, [486, 489, 488, 0, 92], (.invokevirtual 75, 25, 0, [1, 9, 0, 0], .code yX9_refuse cX9_refuse 2 (some .int))),
  (25, [], (.ireturn, 26, 0, [], .returned)),
  (26, [], (.iload_n 1, 27, 1, [], .returned)),
  (27, [], (.tableswitch 197 0 10 #[57, 69, 81, 101, 113, 125, 137, 149, 161, 173, 185], 84, 224, [84, 96, 108, 128, 140, 152, 164, 176, 188, 200, 212], .returned)),
  (84, [], (.aload_n 0, 85, 0, [], .returned)),
  (85, [], (.aload_n 0, 86, 0, [], .returned)),
  (86, [445], (.getfield 47, 89, 9, [5, 2], .returned)),
  (89, [409], (.getfield 103, 92, 0, [6, 0], .returned)),
  (92, [617, 620, 619, 20, 92], (.invokevirtual 96, 95, 0, [1, 9, 0, 0], .code yX9_granted cX9_granted 2 (some .int))),
  (95, [], (.ireturn, 96, 0, [], .returned)),
  (96, [], (.aload_n 0, 97, 0, [], .returned)),
  (97, [], (.aload_n 0, 98, 0, [], .returned)),
  (98, [445], (.getfield 47, 101, 9, [5, 2], .returned)),
  (101, [412], (.getfield 106, 104, 0, [7, 0], .returned)),
  (104, [617, 620, 619, 20, 92], (.invokevirtual 96, 107, 0, [1, 9, 0, 0], .code yX9_granted cX9_granted 2 (some .int))),
  (107, [], (.ireturn, 108, 0, [], .returned)),
  (108, [], (.aload_n 0, 109, 0, [], .returned)),
  (109, [], (.aload_n 0, 110, 0, [], .returned)),
  (110, [445], (.getfield 47, 113, 9, [5, 2], .returned)),
  (113, [416], (.getfield 109, 116, 0, [8, 0], .returned)),
  (116, [], (.ifCond .eq 7, 119, 123, [], .returned)),
  (119, [], (.iconst 1, 120, 0, [], .constant "" 0 (1))),
  (120, [], (.goto 4, 123, 124, [], .returned)),
  (123, [], (.iconst 0, 124, 0, [], .constant "" 0 (0))),
  (124, [617, 620, 619, 20, 92], (.invokevirtual 96, 127, 0, [1, 9, 0, 0], .code yX9_granted cX9_granted 2 (some .int))),
  (127, [], (.ireturn, 128, 0, [], .returned)),
  (128, [], (.aload_n 0, 129, 0, [], .returned)),
  (129, [], (.aload_n 0, 130, 0, [], .returned)),
  (130, [445], (.getfield 47, 133, 9, [5, 2], .returned)),
  (133, [398], (.getfield 113, 136, 0, [3, 0], .returned)),
  (136, [617, 620, 619, 20, 92], (.invokevirtual 96, 139, 0, [1, 9, 0, 0], .code yX9_granted cX9_granted 2 (some .int))),
  (139, [], (.ireturn, 140, 0, [], .returned)),
  (140, [], (.aload_n 0, 141, 0, [], .returned)),
  (141, [], (.aload_n 0, 142, 0, [], .returned)),
  (142, [445], (.getfield 47, 145, 9, [5, 2], .returned)),
  (145, [402], (.getfield 116, 148, 0, [4, 0], .returned)),
  (148, [617, 620, 619, 20, 92], (.invokevirtual 96, 151, 0, [1, 9, 0, 0], .code yX9_granted cX9_granted 2 (some .int))),
  (151, [], (.ireturn, 152, 0, [], .returned)),
  (152, [], (.aload_n 0, 153, 0, [], .returned)),
  (153, [], (.aload_n 0, 154, 0, [], .returned)),
  (154, [445], (.getfield 47, 157, 9, [5, 2], .returned)),
  (157, [406], (.getfield 93, 160, 0, [5, 0], .returned)),
  (160, [617, 620, 619, 20, 92], (.invokevirtual 96, 163, 0, [1, 9, 0, 0], .code yX9_granted cX9_granted 2 (some .int))),
  (163, [], (.ireturn, 164, 0, [], .returned)),
  (164, [], (.aload_n 0, 165, 0, [], .returned)),
  (165, [], (.aload_n 0, 166, 0, [], .returned)),
  (166, [445], (.getfield 47, 169, 9, [5, 2], .returned)),
  (169, [418], (.getfield 119, 172, 0, [9, 0], .returned)),
  (172, [617, 620, 619, 20, 92], (.invokevirtual 96, 175, 0, [1, 9, 0, 0], .code yX9_granted cX9_granted 2 (some .int))),
  (175, [], (.ireturn, 176, 0, [], .returned)),
  (176, [], (.aload_n 0, 177, 0, [], .returned)),
  (177, [], (.aload_n 0, 178, 0, [], .returned)),
  (178, [445], (.getfield 47, 181, 9, [5, 2], .returned)),
  (181, [637, 640, 638, 639, 99], (.invokevirtual 122, 184, 0, [0, 0, 0, 0], .code yX0_paysOfAll cX0_paysOfAll 3 (some .int))),
  (184, [617, 620, 619, 20, 92], (.invokevirtual 96, 187, 0, [1, 9, 0, 0], .code yX9_granted cX9_granted 2 (some .int))),
  (187, [], (.ireturn, 188, 0, [], .returned)),
  (188, [], (.aload_n 0, 189, 0, [], .returned)),
  (189, [], (.aload_n 0, 190, 0, [], .returned)),
  (190, [445], (.getfield 47, 193, 9, [5, 2], .returned)),
  (193, [641, 644, 642, 643, 99], (.invokevirtual 126, 196, 0, [0, 0, 0, 0], .code yX0_netsOfAll cX0_netsOfAll 3 (some .int))),
  (196, [617, 620, 619, 20, 92], (.invokevirtual 96, 199, 0, [1, 9, 0, 0], .code yX9_granted cX9_granted 2 (some .int))),
  (199, [], (.ireturn, 200, 0, [], .returned)),
  (200, [], (.aload_n 0, 201, 0, [], .returned)),
  (201, [], (.aload_n 0, 202, 0, [], .returned)),
  (202, [445], (.getfield 47, 205, 9, [5, 2], .returned)),
  (205, [645, 648, 646, 647, 99], (.invokevirtual 129, 208, 0, [0, 0, 0, 0], .code yX0_takenOfAll cX0_takenOfAll 3 (some .int))),
  (208, [617, 620, 619, 20, 92], (.invokevirtual 96, 211, 0, [1, 9, 0, 0], .code yX9_granted cX9_granted 2 (some .int))),
  (211, [], (.ireturn, 212, 0, [], .returned)),
  (212, [], (.aload_n 0, 213, 0, [], .returned)),
  (213, [], (.aload_n 0, 214, 0, [], .returned)),
  (214, [445], (.getfield 47, 217, 9, [5, 2], .returned)),
  (217, [649, 652, 650, 651, 99], (.invokevirtual 132, 220, 0, [0, 0, 0, 0], .code yX0_owedOfAll cX0_owedOfAll 3 (some .int))),
  (220, [617, 620, 619, 20, 92], (.invokevirtual 96, 223, 0, [1, 9, 0, 0], .code yX9_granted cX9_granted 2 (some .int))),
  (223, [], (.ireturn, 224, 0, [], .returned)),
  (224, [], (.aload_n 0, 225, 0, [], .returned)),
  (225, [], (.aload_n 0, 226, 0, [], .returned)),
  (226, [445], (.getfield 47, 229, 9, [5, 2], .returned)),
  (229, [653, 656, 654, 655, 99], (.invokevirtual 135, 232, 0, [0, 0, 0, 0], .code yX0_liveBits cX0_liveBits 3 (some .int))),
  (232, [617, 620, 619, 20, 92], (.invokevirtual 96, 235, 0, [1, 9, 0, 0], .code yX9_granted cX9_granted 2 (some .int))),
  (235, [], (.ireturn, 236, 0, [], .returned))]
theorem ck_X9_about : okT q_X9_about t_X9_about = true := by decide +kernel
theorem e_X9_about_0 : lk t_X9_about 0 = some (.aload_n 0, 1, 0, [], .returned) := rfl
theorem e_X9_about_1 : lk t_X9_about 1 = some (.getfield 47, 4, 9, [5, 2], .returned) := rfl
theorem e_X9_about_4 : lk t_X9_about 4 = some (.invokevirtual 99, 7, 0, [0, 0, 0, 0], .code yX0_isOpen cX0_isOpen 1 (some .boolean)) := rfl
theorem e_X9_about_7 : lk t_X9_about 7 = some (.ifCond .eq 13, 10, 20, [], .returned) := rfl
theorem e_X9_about_10 : lk t_X9_about 10 = some (.iload_n 1, 11, 1, [], .returned) := rfl
theorem e_X9_about_11 : lk t_X9_about 11 = some (.iconst 0, 12, 0, [], .constant "" 0 (0)) := rfl
theorem e_X9_about_12 : lk t_X9_about 12 = some (.bipush 11, 14, 0, [], .constant "" 0 (11)) := rfl
theorem e_X9_about_14 : lk t_X9_about 14 = some (.invokestatic 71, 17, 0, [3, 0, 0], .code yX9_within cX9_within 3 (some .boolean)) := rfl
theorem e_X9_about_17 : lk t_X9_about 17 = some (.ifCond .ne 9, 20, 26, [], .returned) := rfl
theorem e_X9_about_20 : lk t_X9_about 20 = some (.aload_n 0, 21, 0, [], .returned) := rfl
theorem e_X9_about_21 : lk t_X9_about 21 = some (.iconst 1, 22, 0, [], .constant "" 0 (1)) := rfl
theorem e_X9_about_22 : lk t_X9_about 22 = some (.invokevirtual 75, 25, 0, [1, 9, 0, 0], .code yX9_refuse cX9_refuse 2 (some .int)) := rfl
theorem e_X9_about_25 : lk t_X9_about 25 = some (.ireturn, 26, 0, [], .returned) := rfl
theorem e_X9_about_26 : lk t_X9_about 26 = some (.iload_n 1, 27, 1, [], .returned) := rfl
theorem e_X9_about_27 : lk t_X9_about 27 = some (.tableswitch 197 0 10 #[57, 69, 81, 101, 113, 125, 137, 149, 161, 173, 185], 84, 224, [84, 96, 108, 128, 140, 152, 164, 176, 188, 200, 212], .returned) := rfl
theorem e_X9_about_84 : lk t_X9_about 84 = some (.aload_n 0, 85, 0, [], .returned) := rfl
theorem e_X9_about_85 : lk t_X9_about 85 = some (.aload_n 0, 86, 0, [], .returned) := rfl
theorem e_X9_about_86 : lk t_X9_about 86 = some (.getfield 47, 89, 9, [5, 2], .returned) := rfl
theorem e_X9_about_89 : lk t_X9_about 89 = some (.getfield 103, 92, 0, [6, 0], .returned) := rfl
theorem e_X9_about_92 : lk t_X9_about 92 = some (.invokevirtual 96, 95, 0, [1, 9, 0, 0], .code yX9_granted cX9_granted 2 (some .int)) := rfl
theorem e_X9_about_95 : lk t_X9_about 95 = some (.ireturn, 96, 0, [], .returned) := rfl
theorem e_X9_about_96 : lk t_X9_about 96 = some (.aload_n 0, 97, 0, [], .returned) := rfl
theorem e_X9_about_97 : lk t_X9_about 97 = some (.aload_n 0, 98, 0, [], .returned) := rfl
theorem e_X9_about_98 : lk t_X9_about 98 = some (.getfield 47, 101, 9, [5, 2], .returned) := rfl
theorem e_X9_about_101 : lk t_X9_about 101 = some (.getfield 106, 104, 0, [7, 0], .returned) := rfl
theorem e_X9_about_104 : lk t_X9_about 104 = some (.invokevirtual 96, 107, 0, [1, 9, 0, 0], .code yX9_granted cX9_granted 2 (some .int)) := rfl
theorem e_X9_about_107 : lk t_X9_about 107 = some (.ireturn, 108, 0, [], .returned) := rfl
theorem e_X9_about_108 : lk t_X9_about 108 = some (.aload_n 0, 109, 0, [], .returned) := rfl
theorem e_X9_about_109 : lk t_X9_about 109 = some (.aload_n 0, 110, 0, [], .returned) := rfl
theorem e_X9_about_110 : lk t_X9_about 110 = some (.getfield 47, 113, 9, [5, 2], .returned) := rfl
theorem e_X9_about_113 : lk t_X9_about 113 = some (.getfield 109, 116, 0, [8, 0], .returned) := rfl
theorem e_X9_about_116 : lk t_X9_about 116 = some (.ifCond .eq 7, 119, 123, [], .returned) := rfl
theorem e_X9_about_119 : lk t_X9_about 119 = some (.iconst 1, 120, 0, [], .constant "" 0 (1)) := rfl
theorem e_X9_about_120 : lk t_X9_about 120 = some (.goto 4, 123, 124, [], .returned) := rfl
theorem e_X9_about_123 : lk t_X9_about 123 = some (.iconst 0, 124, 0, [], .constant "" 0 (0)) := rfl
theorem e_X9_about_124 : lk t_X9_about 124 = some (.invokevirtual 96, 127, 0, [1, 9, 0, 0], .code yX9_granted cX9_granted 2 (some .int)) := rfl
theorem e_X9_about_127 : lk t_X9_about 127 = some (.ireturn, 128, 0, [], .returned) := rfl
theorem e_X9_about_128 : lk t_X9_about 128 = some (.aload_n 0, 129, 0, [], .returned) := rfl
theorem e_X9_about_129 : lk t_X9_about 129 = some (.aload_n 0, 130, 0, [], .returned) := rfl
theorem e_X9_about_130 : lk t_X9_about 130 = some (.getfield 47, 133, 9, [5, 2], .returned) := rfl
theorem e_X9_about_133 : lk t_X9_about 133 = some (.getfield 113, 136, 0, [3, 0], .returned) := rfl
theorem e_X9_about_136 : lk t_X9_about 136 = some (.invokevirtual 96, 139, 0, [1, 9, 0, 0], .code yX9_granted cX9_granted 2 (some .int)) := rfl
theorem e_X9_about_139 : lk t_X9_about 139 = some (.ireturn, 140, 0, [], .returned) := rfl
theorem e_X9_about_140 : lk t_X9_about 140 = some (.aload_n 0, 141, 0, [], .returned) := rfl
theorem e_X9_about_141 : lk t_X9_about 141 = some (.aload_n 0, 142, 0, [], .returned) := rfl
theorem e_X9_about_142 : lk t_X9_about 142 = some (.getfield 47, 145, 9, [5, 2], .returned) := rfl
theorem e_X9_about_145 : lk t_X9_about 145 = some (.getfield 116, 148, 0, [4, 0], .returned) := rfl
theorem e_X9_about_148 : lk t_X9_about 148 = some (.invokevirtual 96, 151, 0, [1, 9, 0, 0], .code yX9_granted cX9_granted 2 (some .int)) := rfl
theorem e_X9_about_151 : lk t_X9_about 151 = some (.ireturn, 152, 0, [], .returned) := rfl
theorem e_X9_about_152 : lk t_X9_about 152 = some (.aload_n 0, 153, 0, [], .returned) := rfl
theorem e_X9_about_153 : lk t_X9_about 153 = some (.aload_n 0, 154, 0, [], .returned) := rfl
theorem e_X9_about_154 : lk t_X9_about 154 = some (.getfield 47, 157, 9, [5, 2], .returned) := rfl
theorem e_X9_about_157 : lk t_X9_about 157 = some (.getfield 93, 160, 0, [5, 0], .returned) := rfl
theorem e_X9_about_160 : lk t_X9_about 160 = some (.invokevirtual 96, 163, 0, [1, 9, 0, 0], .code yX9_granted cX9_granted 2 (some .int)) := rfl
theorem e_X9_about_163 : lk t_X9_about 163 = some (.ireturn, 164, 0, [], .returned) := rfl
theorem e_X9_about_164 : lk t_X9_about 164 = some (.aload_n 0, 165, 0, [], .returned) := rfl
theorem e_X9_about_165 : lk t_X9_about 165 = some (.aload_n 0, 166, 0, [], .returned) := rfl
theorem e_X9_about_166 : lk t_X9_about 166 = some (.getfield 47, 169, 9, [5, 2], .returned) := rfl
theorem e_X9_about_169 : lk t_X9_about 169 = some (.getfield 119, 172, 0, [9, 0], .returned) := rfl
theorem e_X9_about_172 : lk t_X9_about 172 = some (.invokevirtual 96, 175, 0, [1, 9, 0, 0], .code yX9_granted cX9_granted 2 (some .int)) := rfl
theorem e_X9_about_175 : lk t_X9_about 175 = some (.ireturn, 176, 0, [], .returned) := rfl
theorem e_X9_about_176 : lk t_X9_about 176 = some (.aload_n 0, 177, 0, [], .returned) := rfl
theorem e_X9_about_177 : lk t_X9_about 177 = some (.aload_n 0, 178, 0, [], .returned) := rfl
theorem e_X9_about_178 : lk t_X9_about 178 = some (.getfield 47, 181, 9, [5, 2], .returned) := rfl
theorem e_X9_about_181 : lk t_X9_about 181 = some (.invokevirtual 122, 184, 0, [0, 0, 0, 0], .code yX0_paysOfAll cX0_paysOfAll 3 (some .int)) := rfl
theorem e_X9_about_184 : lk t_X9_about 184 = some (.invokevirtual 96, 187, 0, [1, 9, 0, 0], .code yX9_granted cX9_granted 2 (some .int)) := rfl
theorem e_X9_about_187 : lk t_X9_about 187 = some (.ireturn, 188, 0, [], .returned) := rfl
theorem e_X9_about_188 : lk t_X9_about 188 = some (.aload_n 0, 189, 0, [], .returned) := rfl
theorem e_X9_about_189 : lk t_X9_about 189 = some (.aload_n 0, 190, 0, [], .returned) := rfl
theorem e_X9_about_190 : lk t_X9_about 190 = some (.getfield 47, 193, 9, [5, 2], .returned) := rfl
theorem e_X9_about_193 : lk t_X9_about 193 = some (.invokevirtual 126, 196, 0, [0, 0, 0, 0], .code yX0_netsOfAll cX0_netsOfAll 3 (some .int)) := rfl
theorem e_X9_about_196 : lk t_X9_about 196 = some (.invokevirtual 96, 199, 0, [1, 9, 0, 0], .code yX9_granted cX9_granted 2 (some .int)) := rfl
theorem e_X9_about_199 : lk t_X9_about 199 = some (.ireturn, 200, 0, [], .returned) := rfl
theorem e_X9_about_200 : lk t_X9_about 200 = some (.aload_n 0, 201, 0, [], .returned) := rfl
theorem e_X9_about_201 : lk t_X9_about 201 = some (.aload_n 0, 202, 0, [], .returned) := rfl
theorem e_X9_about_202 : lk t_X9_about 202 = some (.getfield 47, 205, 9, [5, 2], .returned) := rfl
theorem e_X9_about_205 : lk t_X9_about 205 = some (.invokevirtual 129, 208, 0, [0, 0, 0, 0], .code yX0_takenOfAll cX0_takenOfAll 3 (some .int)) := rfl
theorem e_X9_about_208 : lk t_X9_about 208 = some (.invokevirtual 96, 211, 0, [1, 9, 0, 0], .code yX9_granted cX9_granted 2 (some .int)) := rfl
theorem e_X9_about_211 : lk t_X9_about 211 = some (.ireturn, 212, 0, [], .returned) := rfl
theorem e_X9_about_212 : lk t_X9_about 212 = some (.aload_n 0, 213, 0, [], .returned) := rfl
theorem e_X9_about_213 : lk t_X9_about 213 = some (.aload_n 0, 214, 0, [], .returned) := rfl
theorem e_X9_about_214 : lk t_X9_about 214 = some (.getfield 47, 217, 9, [5, 2], .returned) := rfl
theorem e_X9_about_217 : lk t_X9_about 217 = some (.invokevirtual 132, 220, 0, [0, 0, 0, 0], .code yX0_owedOfAll cX0_owedOfAll 3 (some .int)) := rfl
theorem e_X9_about_220 : lk t_X9_about 220 = some (.invokevirtual 96, 223, 0, [1, 9, 0, 0], .code yX9_granted cX9_granted 2 (some .int)) := rfl
theorem e_X9_about_223 : lk t_X9_about 223 = some (.ireturn, 224, 0, [], .returned) := rfl
theorem e_X9_about_224 : lk t_X9_about 224 = some (.aload_n 0, 225, 0, [], .returned) := rfl
theorem e_X9_about_225 : lk t_X9_about 225 = some (.aload_n 0, 226, 0, [], .returned) := rfl
theorem e_X9_about_226 : lk t_X9_about 226 = some (.getfield 47, 229, 9, [5, 2], .returned) := rfl
theorem e_X9_about_229 : lk t_X9_about 229 = some (.invokevirtual 135, 232, 0, [0, 0, 0, 0], .code yX0_liveBits cX0_liveBits 3 (some .int)) := rfl
theorem e_X9_about_232 : lk t_X9_about 232 = some (.invokevirtual 96, 235, 0, [1, 9, 0, 0], .code yX9_granted cX9_granted 2 (some .int)) := rfl
theorem e_X9_about_235 : lk t_X9_about 235 = some (.ireturn, 236, 0, [], .returned) := rfl
abbrev q_X9_order : MI := (yX9_order, cX9_order, 4, (some .int))
def t_X9_order : Tab := [(0, [], (.aload_n 0, 1, 0, [], .returned)),
  (1, [445], (.getfield 47, 4, 9, [5, 2], .returned)),
  (4, [], (.iload_n 1, 5, 1, [], .returned)),
  (5, [670, 673, 671, 672, 99], (.invokevirtual 138, 8, 0, [1, 0, 0, 0], .code yX0_hasOrder cX0_hasOrder 2 (some .boolean))),
  (8, [], (.ifCond .eq 13, 11, 21, [], .returned)),
  (11, [], (.iload_n 2, 12, 2, [], .returned)),
  (12, [], (.iconst 0, 13, 0, [], .constant "" 0 (0))),
  (13, [], (.bipush 11, 15, 0, [], .constant "" 0 (11))),
  (15, [483, 485, 484, 92], (.invokestatic 71, 18, 0, [3, 0, 0], .code yX9_within cX9_within 3 (some .boolean))),
  (18, [], (.ifCond .ne 9, 21, 27, [], .returned)),
  (21, [], (.aload_n 0, 22, 0, [], .returned)),
  (22, [], (.iconst 1, 23, 0, [], .constant "" 0 (1))),
  (23, [486, 489, 488, 0, 92], (.invokevirtual 75, 26, 0, [1, 9, 0, 0], .code yX9_refuse cX9_refuse 2 (some .int))),
  (26, [], (.ireturn, 27, 0, [], .returned)),
  (27, [], (.aload_n 0, 28, 0, [], .returned)),
  (28, [445], (.getfield 47, 31, 9, [5, 2], .returned)),
  (31, [394], (.getfield 142, 34, 0, [2, 2], .returned)),
  (34, [], (.iload_n 1, 35, 1, [], .returned)),
  (35, [], (.aaload, 36, 0, [], .returned)),
  (36, [], (.astore_n 3, 37, 3, [], .returned)),
  (37, [], (.iload_n 2, 38, 2, [], .returned)),
  (38, [], (.tableswitch 177 0 10 #[58, 67, 76, 85, 94, 103, 116, 125, 134, 143, 160], 96, 215, [96, 105, 114, 123, 132, 141, 154, 163, 172, 181, 198], .returned)),
  (96, [], (.aload_n 0, 97, 0, [], .returned)),
  (97, [], (.aload_n 3, 98, 3, [], .returned)),
  (98, [241], (.getfield 146, 101, 3, [0, 0], .returned)),
  (101, [617, 620, 619, 20, 92], (.invokevirtual 96, 104, 0, [1, 9, 0, 0], .code yX9_granted cX9_granted 2 (some .int))),
  (104, [], (.ireturn, 105, 0, [], .returned)),
  (105, [], (.aload_n 0, 106, 0, [], .returned)),
  (106, [], (.aload_n 3, 107, 3, [], .returned)),
  (107, [245], (.getfield 151, 110, 3, [1, 0], .returned)),
  (110, [617, 620, 619, 20, 92], (.invokevirtual 96, 113, 0, [1, 9, 0, 0], .code yX9_granted cX9_granted 2 (some .int))),
  (113, [], (.ireturn, 114, 0, [], .returned)),
  (114, [], (.aload_n 0, 115, 0, [], .returned)),
  (115, [], (.aload_n 3, 116, 3, [], .returned)),
  (116, [248], (.getfield 152, 119, 3, [2, 0], .returned)),
  (119, [617, 620, 619, 20, 92], (.invokevirtual 96, 122, 0, [1, 9, 0, 0], .code yX9_granted cX9_granted 2 (some .int))),
  (122, [], (.ireturn, 123, 0, [], .returned)),
  (123, [], (.aload_n 0, 124, 0, [], .returned)),
  (124, [], (.aload_n 3, 125, 3, [], .returned)),
  (125, [252], (.getfield 155, 128, 3, [3, 0], .returned)),
  (128, [617, 620, 619, 20, 92], (.invokevirtual 96, 131, 0, [1, 9, 0, 0], .code yX9_granted cX9_granted 2 (some .int))),
  (131, [], (.ireturn, 132, 0, [], .returned)),
  (132, [], (.aload_n 0, 133, 0, [], .returned)),
  (133, [], (.aload_n 3, 134, 3, [], .returned)),
  (134, [256], (.getfield 158, 137, 3, [4, 0], .returned)),
  (137, [617, 620, 619, 20, 92], (.invokevirtual 96, 140, 0, [1, 9, 0, 0], .code yX9_granted cX9_granted 2 (some .int))),
  (140, [], (.ireturn, 141, 0, [], .returned)),
  (141, [], (.aload_n 0, 142, 0, [], .returned)),
  (142, [], (.aload_n 0, 143, 0, [], .returned)),
  (143, [445], (.getfield 47, 146, 9, [5, 2], .returned)),
  (146, [], (.aload_n 3, 147, 3, [], .returned)),
  (147, [674, 677, 675, 676, 99], (.invokevirtual 161, 150, 0, [1, 0, 0, 0], .code yX0_payersOf cX0_payersOf 2 (some .int))),
  (150, [617, 620, 619, 20, 92], (.invokevirtual 96, 153, 0, [1, 9, 0, 0], .code yX9_granted cX9_granted 2 (some .int))),
  (153, [], (.ireturn, 154, 0, [], .returned)),
  (154, [], (.aload_n 0, 155, 0, [], .returned)),
  (155, [], (.aload_n 3, 156, 3, [], .returned)),
  (156, [265], (.getfield 165, 159, 3, [7, 0], .returned)),
  (159, [617, 620, 619, 20, 92], (.invokevirtual 96, 162, 0, [1, 9, 0, 0], .code yX9_granted cX9_granted 2 (some .int))),
  (162, [], (.ireturn, 163, 0, [], .returned)),
  (163, [], (.aload_n 0, 164, 0, [], .returned)),
  (164, [], (.aload_n 3, 165, 3, [], .returned)),
  (165, [269], (.getfield 168, 168, 3, [8, 0], .returned)),
  (168, [617, 620, 619, 20, 92], (.invokevirtual 96, 171, 0, [1, 9, 0, 0], .code yX9_granted cX9_granted 2 (some .int))),
  (171, [], (.ireturn, 172, 0, [], .returned)),
  (172, [], (.aload_n 0, 173, 0, [], .returned)),
  (173, [], (.aload_n 3, 174, 3, [], .returned)),
  (174, [678, 664, 662, 663, 97], (.invokevirtual 171, 177, 0, [0, 3, 0, 0], .code yX3_rest cX3_rest 1 (some .int))),
  (177, [617, 620, 619, 20, 92], (.invokevirtual 96, 180, 0, [1, 9, 0, 0], .code yX9_granted cX9_granted 2 (some .int))),
  (180, [], (.ireturn, 181, 0, [], .returned)),
  (181, [], (.aload_n 0, 182, 0, [], .returned)),
  (182, [], (.aload_n 3, 183, 3, [], .returned)),
  (183, [679, 660, 658, 659, 97], (.invokevirtual 174, 186, 0, [0, 3, 0, 0], .code yX3_isLive cX3_isLive 1 (some .boolean))),
  (186, [], (.ifCond .eq 7, 189, 193, [], .returned)),
  (189, [], (.iconst 1, 190, 0, [], .constant "" 0 (1))),
  (190, [], (.goto 4, 193, 194, [], .returned)),
  (193, [], (.iconst 0, 194, 0, [], .constant "" 0 (0))),
  (194, [617, 620, 619, 20, 92], (.invokevirtual 96, 197, 0, [1, 9, 0, 0], .code yX9_granted cX9_granted 2 (some .int))),
  (197, [], (.ireturn, 198, 0, [], .returned)),
  (198, [], (.aload_n 0, 199, 0, [], .returned)),
  (199, [], (.aload_n 3, 200, 3, [], .returned)),
  (200, [263], (.getfield 177, 203, 3, [6, 0], .returned)),
  (203, [], (.ifCond .eq 7, 206, 210, [], .returned)),
  (206, [], (.iconst 1, 207, 0, [], .constant "" 0 (1))),
  (207, [], (.goto 4, 210, 211, [], .returned)),
  (210, [], (.iconst 0, 211, 0, [], .constant "" 0 (0))),
  (211, [617, 620, 619, 20, 92], (.invokevirtual 96, 214, 0, [1, 9, 0, 0], .code yX9_granted cX9_granted 2 (some .int))),
  (214, [], (.ireturn, 215, 0, [], .returned)),
  (215, [], (.aload_n 0, 216, 0, [], .returned)),
  (216, [], (.aload_n 3, 217, 3, [], .returned)),
  (217, [272], (.getfield 180, 220, 3, [9, 0], .returned)),
  (220, [617, 620, 619, 20, 92], (.invokevirtual 96, 223, 0, [1, 9, 0, 0], .code yX9_granted cX9_granted 2 (some .int))),
  (223, [], (.ireturn, 224, 0, [], .returned))]
theorem ck_X9_order : okT q_X9_order t_X9_order = true := by decide +kernel
theorem e_X9_order_0 : lk t_X9_order 0 = some (.aload_n 0, 1, 0, [], .returned) := rfl
theorem e_X9_order_1 : lk t_X9_order 1 = some (.getfield 47, 4, 9, [5, 2], .returned) := rfl
theorem e_X9_order_4 : lk t_X9_order 4 = some (.iload_n 1, 5, 1, [], .returned) := rfl
theorem e_X9_order_5 : lk t_X9_order 5 = some (.invokevirtual 138, 8, 0, [1, 0, 0, 0], .code yX0_hasOrder cX0_hasOrder 2 (some .boolean)) := rfl
theorem e_X9_order_8 : lk t_X9_order 8 = some (.ifCond .eq 13, 11, 21, [], .returned) := rfl
theorem e_X9_order_11 : lk t_X9_order 11 = some (.iload_n 2, 12, 2, [], .returned) := rfl
theorem e_X9_order_12 : lk t_X9_order 12 = some (.iconst 0, 13, 0, [], .constant "" 0 (0)) := rfl
theorem e_X9_order_13 : lk t_X9_order 13 = some (.bipush 11, 15, 0, [], .constant "" 0 (11)) := rfl
theorem e_X9_order_15 : lk t_X9_order 15 = some (.invokestatic 71, 18, 0, [3, 0, 0], .code yX9_within cX9_within 3 (some .boolean)) := rfl
theorem e_X9_order_18 : lk t_X9_order 18 = some (.ifCond .ne 9, 21, 27, [], .returned) := rfl
theorem e_X9_order_21 : lk t_X9_order 21 = some (.aload_n 0, 22, 0, [], .returned) := rfl
theorem e_X9_order_22 : lk t_X9_order 22 = some (.iconst 1, 23, 0, [], .constant "" 0 (1)) := rfl
theorem e_X9_order_23 : lk t_X9_order 23 = some (.invokevirtual 75, 26, 0, [1, 9, 0, 0], .code yX9_refuse cX9_refuse 2 (some .int)) := rfl
theorem e_X9_order_26 : lk t_X9_order 26 = some (.ireturn, 27, 0, [], .returned) := rfl
theorem e_X9_order_27 : lk t_X9_order 27 = some (.aload_n 0, 28, 0, [], .returned) := rfl
theorem e_X9_order_28 : lk t_X9_order 28 = some (.getfield 47, 31, 9, [5, 2], .returned) := rfl
theorem e_X9_order_31 : lk t_X9_order 31 = some (.getfield 142, 34, 0, [2, 2], .returned) := rfl
theorem e_X9_order_34 : lk t_X9_order 34 = some (.iload_n 1, 35, 1, [], .returned) := rfl
theorem e_X9_order_35 : lk t_X9_order 35 = some (.aaload, 36, 0, [], .returned) := rfl
theorem e_X9_order_36 : lk t_X9_order 36 = some (.astore_n 3, 37, 3, [], .returned) := rfl
theorem e_X9_order_37 : lk t_X9_order 37 = some (.iload_n 2, 38, 2, [], .returned) := rfl
theorem e_X9_order_38 : lk t_X9_order 38 = some (.tableswitch 177 0 10 #[58, 67, 76, 85, 94, 103, 116, 125, 134, 143, 160], 96, 215, [96, 105, 114, 123, 132, 141, 154, 163, 172, 181, 198], .returned) := rfl
theorem e_X9_order_96 : lk t_X9_order 96 = some (.aload_n 0, 97, 0, [], .returned) := rfl
theorem e_X9_order_97 : lk t_X9_order 97 = some (.aload_n 3, 98, 3, [], .returned) := rfl
theorem e_X9_order_98 : lk t_X9_order 98 = some (.getfield 146, 101, 3, [0, 0], .returned) := rfl
theorem e_X9_order_101 : lk t_X9_order 101 = some (.invokevirtual 96, 104, 0, [1, 9, 0, 0], .code yX9_granted cX9_granted 2 (some .int)) := rfl
theorem e_X9_order_104 : lk t_X9_order 104 = some (.ireturn, 105, 0, [], .returned) := rfl
theorem e_X9_order_105 : lk t_X9_order 105 = some (.aload_n 0, 106, 0, [], .returned) := rfl
theorem e_X9_order_106 : lk t_X9_order 106 = some (.aload_n 3, 107, 3, [], .returned) := rfl
theorem e_X9_order_107 : lk t_X9_order 107 = some (.getfield 151, 110, 3, [1, 0], .returned) := rfl
theorem e_X9_order_110 : lk t_X9_order 110 = some (.invokevirtual 96, 113, 0, [1, 9, 0, 0], .code yX9_granted cX9_granted 2 (some .int)) := rfl
theorem e_X9_order_113 : lk t_X9_order 113 = some (.ireturn, 114, 0, [], .returned) := rfl
theorem e_X9_order_114 : lk t_X9_order 114 = some (.aload_n 0, 115, 0, [], .returned) := rfl
theorem e_X9_order_115 : lk t_X9_order 115 = some (.aload_n 3, 116, 3, [], .returned) := rfl
theorem e_X9_order_116 : lk t_X9_order 116 = some (.getfield 152, 119, 3, [2, 0], .returned) := rfl
theorem e_X9_order_119 : lk t_X9_order 119 = some (.invokevirtual 96, 122, 0, [1, 9, 0, 0], .code yX9_granted cX9_granted 2 (some .int)) := rfl
theorem e_X9_order_122 : lk t_X9_order 122 = some (.ireturn, 123, 0, [], .returned) := rfl
theorem e_X9_order_123 : lk t_X9_order 123 = some (.aload_n 0, 124, 0, [], .returned) := rfl
theorem e_X9_order_124 : lk t_X9_order 124 = some (.aload_n 3, 125, 3, [], .returned) := rfl
theorem e_X9_order_125 : lk t_X9_order 125 = some (.getfield 155, 128, 3, [3, 0], .returned) := rfl
theorem e_X9_order_128 : lk t_X9_order 128 = some (.invokevirtual 96, 131, 0, [1, 9, 0, 0], .code yX9_granted cX9_granted 2 (some .int)) := rfl
theorem e_X9_order_131 : lk t_X9_order 131 = some (.ireturn, 132, 0, [], .returned) := rfl
theorem e_X9_order_132 : lk t_X9_order 132 = some (.aload_n 0, 133, 0, [], .returned) := rfl
theorem e_X9_order_133 : lk t_X9_order 133 = some (.aload_n 3, 134, 3, [], .returned) := rfl
theorem e_X9_order_134 : lk t_X9_order 134 = some (.getfield 158, 137, 3, [4, 0], .returned) := rfl
theorem e_X9_order_137 : lk t_X9_order 137 = some (.invokevirtual 96, 140, 0, [1, 9, 0, 0], .code yX9_granted cX9_granted 2 (some .int)) := rfl
theorem e_X9_order_140 : lk t_X9_order 140 = some (.ireturn, 141, 0, [], .returned) := rfl
theorem e_X9_order_141 : lk t_X9_order 141 = some (.aload_n 0, 142, 0, [], .returned) := rfl
theorem e_X9_order_142 : lk t_X9_order 142 = some (.aload_n 0, 143, 0, [], .returned) := rfl
theorem e_X9_order_143 : lk t_X9_order 143 = some (.getfield 47, 146, 9, [5, 2], .returned) := rfl
theorem e_X9_order_146 : lk t_X9_order 146 = some (.aload_n 3, 147, 3, [], .returned) := rfl
theorem e_X9_order_147 : lk t_X9_order 147 = some (.invokevirtual 161, 150, 0, [1, 0, 0, 0], .code yX0_payersOf cX0_payersOf 2 (some .int)) := rfl
theorem e_X9_order_150 : lk t_X9_order 150 = some (.invokevirtual 96, 153, 0, [1, 9, 0, 0], .code yX9_granted cX9_granted 2 (some .int)) := rfl
theorem e_X9_order_153 : lk t_X9_order 153 = some (.ireturn, 154, 0, [], .returned) := rfl
theorem e_X9_order_154 : lk t_X9_order 154 = some (.aload_n 0, 155, 0, [], .returned) := rfl
theorem e_X9_order_155 : lk t_X9_order 155 = some (.aload_n 3, 156, 3, [], .returned) := rfl
theorem e_X9_order_156 : lk t_X9_order 156 = some (.getfield 165, 159, 3, [7, 0], .returned) := rfl
theorem e_X9_order_159 : lk t_X9_order 159 = some (.invokevirtual 96, 162, 0, [1, 9, 0, 0], .code yX9_granted cX9_granted 2 (some .int)) := rfl
theorem e_X9_order_162 : lk t_X9_order 162 = some (.ireturn, 163, 0, [], .returned) := rfl
theorem e_X9_order_163 : lk t_X9_order 163 = some (.aload_n 0, 164, 0, [], .returned) := rfl
theorem e_X9_order_164 : lk t_X9_order 164 = some (.aload_n 3, 165, 3, [], .returned) := rfl
theorem e_X9_order_165 : lk t_X9_order 165 = some (.getfield 168, 168, 3, [8, 0], .returned) := rfl
theorem e_X9_order_168 : lk t_X9_order 168 = some (.invokevirtual 96, 171, 0, [1, 9, 0, 0], .code yX9_granted cX9_granted 2 (some .int)) := rfl
theorem e_X9_order_171 : lk t_X9_order 171 = some (.ireturn, 172, 0, [], .returned) := rfl
theorem e_X9_order_172 : lk t_X9_order 172 = some (.aload_n 0, 173, 0, [], .returned) := rfl
theorem e_X9_order_173 : lk t_X9_order 173 = some (.aload_n 3, 174, 3, [], .returned) := rfl
theorem e_X9_order_174 : lk t_X9_order 174 = some (.invokevirtual 171, 177, 0, [0, 3, 0, 0], .code yX3_rest cX3_rest 1 (some .int)) := rfl
theorem e_X9_order_177 : lk t_X9_order 177 = some (.invokevirtual 96, 180, 0, [1, 9, 0, 0], .code yX9_granted cX9_granted 2 (some .int)) := rfl
theorem e_X9_order_180 : lk t_X9_order 180 = some (.ireturn, 181, 0, [], .returned) := rfl
theorem e_X9_order_181 : lk t_X9_order 181 = some (.aload_n 0, 182, 0, [], .returned) := rfl
theorem e_X9_order_182 : lk t_X9_order 182 = some (.aload_n 3, 183, 3, [], .returned) := rfl
theorem e_X9_order_183 : lk t_X9_order 183 = some (.invokevirtual 174, 186, 0, [0, 3, 0, 0], .code yX3_isLive cX3_isLive 1 (some .boolean)) := rfl
theorem e_X9_order_186 : lk t_X9_order 186 = some (.ifCond .eq 7, 189, 193, [], .returned) := rfl
theorem e_X9_order_189 : lk t_X9_order 189 = some (.iconst 1, 190, 0, [], .constant "" 0 (1)) := rfl
theorem e_X9_order_190 : lk t_X9_order 190 = some (.goto 4, 193, 194, [], .returned) := rfl
theorem e_X9_order_193 : lk t_X9_order 193 = some (.iconst 0, 194, 0, [], .constant "" 0 (0)) := rfl
theorem e_X9_order_194 : lk t_X9_order 194 = some (.invokevirtual 96, 197, 0, [1, 9, 0, 0], .code yX9_granted cX9_granted 2 (some .int)) := rfl
theorem e_X9_order_197 : lk t_X9_order 197 = some (.ireturn, 198, 0, [], .returned) := rfl
theorem e_X9_order_198 : lk t_X9_order 198 = some (.aload_n 0, 199, 0, [], .returned) := rfl
theorem e_X9_order_199 : lk t_X9_order 199 = some (.aload_n 3, 200, 3, [], .returned) := rfl
theorem e_X9_order_200 : lk t_X9_order 200 = some (.getfield 177, 203, 3, [6, 0], .returned) := rfl
theorem e_X9_order_203 : lk t_X9_order 203 = some (.ifCond .eq 7, 206, 210, [], .returned) := rfl
theorem e_X9_order_206 : lk t_X9_order 206 = some (.iconst 1, 207, 0, [], .constant "" 0 (1)) := rfl
theorem e_X9_order_207 : lk t_X9_order 207 = some (.goto 4, 210, 211, [], .returned) := rfl
theorem e_X9_order_210 : lk t_X9_order 210 = some (.iconst 0, 211, 0, [], .constant "" 0 (0)) := rfl
theorem e_X9_order_211 : lk t_X9_order 211 = some (.invokevirtual 96, 214, 0, [1, 9, 0, 0], .code yX9_granted cX9_granted 2 (some .int)) := rfl
theorem e_X9_order_214 : lk t_X9_order 214 = some (.ireturn, 215, 0, [], .returned) := rfl
theorem e_X9_order_215 : lk t_X9_order 215 = some (.aload_n 0, 216, 0, [], .returned) := rfl
theorem e_X9_order_216 : lk t_X9_order 216 = some (.aload_n 3, 217, 3, [], .returned) := rfl
theorem e_X9_order_217 : lk t_X9_order 217 = some (.getfield 180, 220, 3, [9, 0], .returned) := rfl
theorem e_X9_order_220 : lk t_X9_order 220 = some (.invokevirtual 96, 223, 0, [1, 9, 0, 0], .code yX9_granted cX9_granted 2 (some .int)) := rfl
theorem e_X9_order_223 : lk t_X9_order 223 = some (.ireturn, 224, 0, [], .returned) := rfl
abbrev q_X9_payer : MI := (yX9_payer, cX9_payer, 4, (some .int))
def t_X9_payer : Tab := [(0, [], (.aload_n 0, 1, 0, [], .returned)),
  (1, [445], (.getfield 47, 4, 9, [5, 2], .returned)),
  (4, [], (.iload_n 1, 5, 1, [], .returned)),
  (5, [684, 687, 685, 686, 99], (.invokevirtual 183, 8, 0, [1, 0, 0, 0], .code yX0_hasPayer cX0_hasPayer 2 (some .boolean))),
  (8, [], (.ifCond .eq 12, 11, 20, [], .returned)),
  (11, [], (.iload_n 2, 12, 2, [], .returned)),
  (12, [], (.iconst 0, 13, 0, [], .constant "" 0 (0))),
  (13, [], (.iconst 4, 14, 0, [], .constant "" 0 (4))),
  (14, [483, 485, 484, 92], (.invokestatic 71, 17, 0, [3, 0, 0], .code yX9_within cX9_within 3 (some .boolean))),
  (17, [], (.ifCond .ne 9, 20, 26, [], .returned)),
  (20, [], (.aload_n 0, 21, 0, [], .returned)),
  (21, [], (.iconst 1, 22, 0, [], .constant "" 0 (1))),
  (22, [486, 489, 488, 0, 92], (.invokevirtual 75, 25, 0, [1, 9, 0, 0], .code yX9_refuse cX9_refuse 2 (some .int))),
  (25, [], (.ireturn, 26, 0, [], .returned)),
  (26, [], (.aload_n 0, 27, 0, [], .returned)),
  (27, [445], (.getfield 47, 30, 9, [5, 2], .returned)),
  (30, [391], (.getfield 186, 33, 0, [1, 2], .returned)),
  (33, [], (.iload_n 1, 34, 1, [], .returned)),
  (34, [], (.aaload, 35, 0, [], .returned)),
  (35, [], (.astore_n 3, 36, 3, [], .returned)),
  (36, [], (.iload_n 2, 37, 2, [], .returned)),
  (37, [], (.tableswitch 67 0 3 #[31, 40, 49, 58], 68, 104, [68, 77, 86, 95], .returned)),
  (68, [], (.aload_n 0, 69, 0, [], .returned)),
  (69, [], (.aload_n 3, 70, 3, [], .returned)),
  (70, [363], (.getfield 190, 73, 4, [0, 0], .returned)),
  (73, [617, 620, 619, 20, 92], (.invokevirtual 96, 76, 0, [1, 9, 0, 0], .code yX9_granted cX9_granted 2 (some .int))),
  (76, [], (.ireturn, 77, 0, [], .returned)),
  (77, [], (.aload_n 0, 78, 0, [], .returned)),
  (78, [], (.aload_n 3, 79, 3, [], .returned)),
  (79, [365], (.getfield 195, 82, 4, [1, 0], .returned)),
  (82, [617, 620, 619, 20, 92], (.invokevirtual 96, 85, 0, [1, 9, 0, 0], .code yX9_granted cX9_granted 2 (some .int))),
  (85, [], (.ireturn, 86, 0, [], .returned)),
  (86, [], (.aload_n 0, 87, 0, [], .returned)),
  (87, [], (.aload_n 3, 88, 3, [], .returned)),
  (88, [368], (.getfield 198, 91, 4, [2, 0], .returned)),
  (91, [617, 620, 619, 20, 92], (.invokevirtual 96, 94, 0, [1, 9, 0, 0], .code yX9_granted cX9_granted 2 (some .int))),
  (94, [], (.ireturn, 95, 0, [], .returned)),
  (95, [], (.aload_n 0, 96, 0, [], .returned)),
  (96, [], (.aload_n 3, 97, 3, [], .returned)),
  (97, [371], (.getfield 201, 100, 4, [3, 0], .returned)),
  (100, [617, 620, 619, 20, 92], (.invokevirtual 96, 103, 0, [1, 9, 0, 0], .code yX9_granted cX9_granted 2 (some .int))),
  (103, [], (.ireturn, 104, 0, [], .returned)),
  (104, [], (.aload_n 0, 105, 0, [], .returned)),
  (105, [], (.aload_n 0, 106, 0, [], .returned)),
  (106, [445], (.getfield 47, 109, 9, [5, 2], .returned)),
  (109, [], (.iload_n 1, 110, 1, [], .returned)),
  (110, [688, 691, 689, 690, 99], (.invokevirtual 204, 113, 0, [1, 0, 0, 0], .code yX0_liveBitsAt cX0_liveBitsAt 4 (some .int))),
  (113, [617, 620, 619, 20, 92], (.invokevirtual 96, 116, 0, [1, 9, 0, 0], .code yX9_granted cX9_granted 2 (some .int))),
  (116, [], (.ireturn, 117, 0, [], .returned))]
theorem ck_X9_payer : okT q_X9_payer t_X9_payer = true := by decide +kernel
theorem e_X9_payer_0 : lk t_X9_payer 0 = some (.aload_n 0, 1, 0, [], .returned) := rfl
theorem e_X9_payer_1 : lk t_X9_payer 1 = some (.getfield 47, 4, 9, [5, 2], .returned) := rfl
theorem e_X9_payer_4 : lk t_X9_payer 4 = some (.iload_n 1, 5, 1, [], .returned) := rfl
theorem e_X9_payer_5 : lk t_X9_payer 5 = some (.invokevirtual 183, 8, 0, [1, 0, 0, 0], .code yX0_hasPayer cX0_hasPayer 2 (some .boolean)) := rfl
theorem e_X9_payer_8 : lk t_X9_payer 8 = some (.ifCond .eq 12, 11, 20, [], .returned) := rfl
theorem e_X9_payer_11 : lk t_X9_payer 11 = some (.iload_n 2, 12, 2, [], .returned) := rfl
theorem e_X9_payer_12 : lk t_X9_payer 12 = some (.iconst 0, 13, 0, [], .constant "" 0 (0)) := rfl
theorem e_X9_payer_13 : lk t_X9_payer 13 = some (.iconst 4, 14, 0, [], .constant "" 0 (4)) := rfl
theorem e_X9_payer_14 : lk t_X9_payer 14 = some (.invokestatic 71, 17, 0, [3, 0, 0], .code yX9_within cX9_within 3 (some .boolean)) := rfl
theorem e_X9_payer_17 : lk t_X9_payer 17 = some (.ifCond .ne 9, 20, 26, [], .returned) := rfl
theorem e_X9_payer_20 : lk t_X9_payer 20 = some (.aload_n 0, 21, 0, [], .returned) := rfl
theorem e_X9_payer_21 : lk t_X9_payer 21 = some (.iconst 1, 22, 0, [], .constant "" 0 (1)) := rfl
theorem e_X9_payer_22 : lk t_X9_payer 22 = some (.invokevirtual 75, 25, 0, [1, 9, 0, 0], .code yX9_refuse cX9_refuse 2 (some .int)) := rfl
theorem e_X9_payer_25 : lk t_X9_payer 25 = some (.ireturn, 26, 0, [], .returned) := rfl
theorem e_X9_payer_26 : lk t_X9_payer 26 = some (.aload_n 0, 27, 0, [], .returned) := rfl
theorem e_X9_payer_27 : lk t_X9_payer 27 = some (.getfield 47, 30, 9, [5, 2], .returned) := rfl
theorem e_X9_payer_30 : lk t_X9_payer 30 = some (.getfield 186, 33, 0, [1, 2], .returned) := rfl
theorem e_X9_payer_33 : lk t_X9_payer 33 = some (.iload_n 1, 34, 1, [], .returned) := rfl
theorem e_X9_payer_34 : lk t_X9_payer 34 = some (.aaload, 35, 0, [], .returned) := rfl
theorem e_X9_payer_35 : lk t_X9_payer 35 = some (.astore_n 3, 36, 3, [], .returned) := rfl
theorem e_X9_payer_36 : lk t_X9_payer 36 = some (.iload_n 2, 37, 2, [], .returned) := rfl
theorem e_X9_payer_37 : lk t_X9_payer 37 = some (.tableswitch 67 0 3 #[31, 40, 49, 58], 68, 104, [68, 77, 86, 95], .returned) := rfl
theorem e_X9_payer_68 : lk t_X9_payer 68 = some (.aload_n 0, 69, 0, [], .returned) := rfl
theorem e_X9_payer_69 : lk t_X9_payer 69 = some (.aload_n 3, 70, 3, [], .returned) := rfl
theorem e_X9_payer_70 : lk t_X9_payer 70 = some (.getfield 190, 73, 4, [0, 0], .returned) := rfl
theorem e_X9_payer_73 : lk t_X9_payer 73 = some (.invokevirtual 96, 76, 0, [1, 9, 0, 0], .code yX9_granted cX9_granted 2 (some .int)) := rfl
theorem e_X9_payer_76 : lk t_X9_payer 76 = some (.ireturn, 77, 0, [], .returned) := rfl
theorem e_X9_payer_77 : lk t_X9_payer 77 = some (.aload_n 0, 78, 0, [], .returned) := rfl
theorem e_X9_payer_78 : lk t_X9_payer 78 = some (.aload_n 3, 79, 3, [], .returned) := rfl
theorem e_X9_payer_79 : lk t_X9_payer 79 = some (.getfield 195, 82, 4, [1, 0], .returned) := rfl
theorem e_X9_payer_82 : lk t_X9_payer 82 = some (.invokevirtual 96, 85, 0, [1, 9, 0, 0], .code yX9_granted cX9_granted 2 (some .int)) := rfl
theorem e_X9_payer_85 : lk t_X9_payer 85 = some (.ireturn, 86, 0, [], .returned) := rfl
theorem e_X9_payer_86 : lk t_X9_payer 86 = some (.aload_n 0, 87, 0, [], .returned) := rfl
theorem e_X9_payer_87 : lk t_X9_payer 87 = some (.aload_n 3, 88, 3, [], .returned) := rfl
theorem e_X9_payer_88 : lk t_X9_payer 88 = some (.getfield 198, 91, 4, [2, 0], .returned) := rfl
theorem e_X9_payer_91 : lk t_X9_payer 91 = some (.invokevirtual 96, 94, 0, [1, 9, 0, 0], .code yX9_granted cX9_granted 2 (some .int)) := rfl
theorem e_X9_payer_94 : lk t_X9_payer 94 = some (.ireturn, 95, 0, [], .returned) := rfl
theorem e_X9_payer_95 : lk t_X9_payer 95 = some (.aload_n 0, 96, 0, [], .returned) := rfl
theorem e_X9_payer_96 : lk t_X9_payer 96 = some (.aload_n 3, 97, 3, [], .returned) := rfl
theorem e_X9_payer_97 : lk t_X9_payer 97 = some (.getfield 201, 100, 4, [3, 0], .returned) := rfl
theorem e_X9_payer_100 : lk t_X9_payer 100 = some (.invokevirtual 96, 103, 0, [1, 9, 0, 0], .code yX9_granted cX9_granted 2 (some .int)) := rfl
theorem e_X9_payer_103 : lk t_X9_payer 103 = some (.ireturn, 104, 0, [], .returned) := rfl
theorem e_X9_payer_104 : lk t_X9_payer 104 = some (.aload_n 0, 105, 0, [], .returned) := rfl
theorem e_X9_payer_105 : lk t_X9_payer 105 = some (.aload_n 0, 106, 0, [], .returned) := rfl
theorem e_X9_payer_106 : lk t_X9_payer 106 = some (.getfield 47, 109, 9, [5, 2], .returned) := rfl
theorem e_X9_payer_109 : lk t_X9_payer 109 = some (.iload_n 1, 110, 1, [], .returned) := rfl
theorem e_X9_payer_110 : lk t_X9_payer 110 = some (.invokevirtual 204, 113, 0, [1, 0, 0, 0], .code yX0_liveBitsAt cX0_liveBitsAt 4 (some .int)) := rfl
theorem e_X9_payer_113 : lk t_X9_payer 113 = some (.invokevirtual 96, 116, 0, [1, 9, 0, 0], .code yX9_granted cX9_granted 2 (some .int)) := rfl
theorem e_X9_payer_116 : lk t_X9_payer 116 = some (.ireturn, 117, 0, [], .returned) := rfl
abbrev q_X9_table : MI := (yX9_table, cX9_table, 4, (some .int))
def t_X9_table : Tab := [(0, [], (.aload_n 0, 1, 0, [], .returned)),
  (1, [445], (.getfield 47, 4, 9, [5, 2], .returned)),
  (4, [], (.iload_n 1, 5, 1, [], .returned)),
  (5, [701, 704, 702, 703, 99], (.invokevirtual 207, 8, 0, [1, 0, 0, 0], .code yX0_hasTable cX0_hasTable 2 (some .boolean))),
  (8, [], (.ifCond .ne 9, 11, 17, [], .returned)),
  (11, [], (.aload_n 0, 12, 0, [], .returned)),
  (12, [], (.iconst 1, 13, 0, [], .constant "" 0 (1))),
  (13, [486, 489, 488, 0, 92], (.invokevirtual 75, 16, 0, [1, 9, 0, 0], .code yX9_refuse cX9_refuse 2 (some .int))),
  (16, [], (.ireturn, 17, 0, [], .returned)),
  (17, [], (.iload_n 2, 18, 2, [], .returned)),
  (18, [705, 707, 706, 92], (.invokestatic 210, 21, 0, [1, 0, 0], .code yX9_isNet cX9_isNet 1 (some .boolean))),
  (21, [], (.ifCond .eq 12, 24, 33, [], .returned)),
  (24, [], (.iload_n 3, 25, 3, [], .returned)),
  (25, [], (.iconst 1, 26, 0, [], .constant "" 0 (1))),
  (26, [], (.iconst 4, 27, 0, [], .constant "" 0 (4))),
  (27, [483, 485, 484, 92], (.invokestatic 71, 30, 0, [3, 0, 0], .code yX9_within cX9_within 3 (some .boolean))),
  (30, [], (.ifCond .ne 9, 33, 39, [], .returned)),
  (33, [], (.aload_n 0, 34, 0, [], .returned)),
  (34, [], (.iconst 2, 35, 0, [], .constant "" 0 (2))),
  (35, [486, 489, 488, 0, 92], (.invokevirtual 75, 38, 0, [1, 9, 0, 0], .code yX9_refuse cX9_refuse 2 (some .int))),
  (38, [], (.ireturn, 39, 0, [], .returned)),
  (39, [], (.aload_n 0, 40, 0, [], .returned)),
  (40, [], (.aload_n 0, 41, 0, [], .returned)),
  (41, [445], (.getfield 47, 44, 9, [5, 2], .returned)),
  (44, [386], (.getfield 213, 47, 0, [0, 2], .returned)),
  (47, [], (.iload_n 1, 48, 1, [], .returned)),
  (48, [], (.aaload, 49, 0, [], .returned)),
  (49, [], (.iload_n 2, 50, 2, [], .returned)),
  (50, [], (.iload_n 3, 51, 3, [], .returned)),
  (51, [708, 711, 709, 710, 100], (.invokevirtual 217, 54, 0, [2, 5, 0, 0], .code yX5_tells cX5_tells 3 (some .int))),
  (54, [617, 620, 619, 20, 92], (.invokevirtual 96, 57, 0, [1, 9, 0, 0], .code yX9_granted cX9_granted 2 (some .int))),
  (57, [], (.ireturn, 58, 0, [], .returned))]
theorem ck_X9_table : okT q_X9_table t_X9_table = true := by decide +kernel
theorem e_X9_table_0 : lk t_X9_table 0 = some (.aload_n 0, 1, 0, [], .returned) := rfl
theorem e_X9_table_1 : lk t_X9_table 1 = some (.getfield 47, 4, 9, [5, 2], .returned) := rfl
theorem e_X9_table_4 : lk t_X9_table 4 = some (.iload_n 1, 5, 1, [], .returned) := rfl
theorem e_X9_table_5 : lk t_X9_table 5 = some (.invokevirtual 207, 8, 0, [1, 0, 0, 0], .code yX0_hasTable cX0_hasTable 2 (some .boolean)) := rfl
theorem e_X9_table_8 : lk t_X9_table 8 = some (.ifCond .ne 9, 11, 17, [], .returned) := rfl
theorem e_X9_table_11 : lk t_X9_table 11 = some (.aload_n 0, 12, 0, [], .returned) := rfl
theorem e_X9_table_12 : lk t_X9_table 12 = some (.iconst 1, 13, 0, [], .constant "" 0 (1)) := rfl
theorem e_X9_table_13 : lk t_X9_table 13 = some (.invokevirtual 75, 16, 0, [1, 9, 0, 0], .code yX9_refuse cX9_refuse 2 (some .int)) := rfl
theorem e_X9_table_16 : lk t_X9_table 16 = some (.ireturn, 17, 0, [], .returned) := rfl
theorem e_X9_table_17 : lk t_X9_table 17 = some (.iload_n 2, 18, 2, [], .returned) := rfl
theorem e_X9_table_18 : lk t_X9_table 18 = some (.invokestatic 210, 21, 0, [1, 0, 0], .code yX9_isNet cX9_isNet 1 (some .boolean)) := rfl
theorem e_X9_table_21 : lk t_X9_table 21 = some (.ifCond .eq 12, 24, 33, [], .returned) := rfl
theorem e_X9_table_24 : lk t_X9_table 24 = some (.iload_n 3, 25, 3, [], .returned) := rfl
theorem e_X9_table_25 : lk t_X9_table 25 = some (.iconst 1, 26, 0, [], .constant "" 0 (1)) := rfl
theorem e_X9_table_26 : lk t_X9_table 26 = some (.iconst 4, 27, 0, [], .constant "" 0 (4)) := rfl
theorem e_X9_table_27 : lk t_X9_table 27 = some (.invokestatic 71, 30, 0, [3, 0, 0], .code yX9_within cX9_within 3 (some .boolean)) := rfl
theorem e_X9_table_30 : lk t_X9_table 30 = some (.ifCond .ne 9, 33, 39, [], .returned) := rfl
theorem e_X9_table_33 : lk t_X9_table 33 = some (.aload_n 0, 34, 0, [], .returned) := rfl
theorem e_X9_table_34 : lk t_X9_table 34 = some (.iconst 2, 35, 0, [], .constant "" 0 (2)) := rfl
theorem e_X9_table_35 : lk t_X9_table 35 = some (.invokevirtual 75, 38, 0, [1, 9, 0, 0], .code yX9_refuse cX9_refuse 2 (some .int)) := rfl
theorem e_X9_table_38 : lk t_X9_table 38 = some (.ireturn, 39, 0, [], .returned) := rfl
theorem e_X9_table_39 : lk t_X9_table 39 = some (.aload_n 0, 40, 0, [], .returned) := rfl
theorem e_X9_table_40 : lk t_X9_table 40 = some (.aload_n 0, 41, 0, [], .returned) := rfl
theorem e_X9_table_41 : lk t_X9_table 41 = some (.getfield 47, 44, 9, [5, 2], .returned) := rfl
theorem e_X9_table_44 : lk t_X9_table 44 = some (.getfield 213, 47, 0, [0, 2], .returned) := rfl
theorem e_X9_table_47 : lk t_X9_table 47 = some (.iload_n 1, 48, 1, [], .returned) := rfl
theorem e_X9_table_48 : lk t_X9_table 48 = some (.aaload, 49, 0, [], .returned) := rfl
theorem e_X9_table_49 : lk t_X9_table 49 = some (.iload_n 2, 50, 2, [], .returned) := rfl
theorem e_X9_table_50 : lk t_X9_table 50 = some (.iload_n 3, 51, 3, [], .returned) := rfl
theorem e_X9_table_51 : lk t_X9_table 51 = some (.invokevirtual 217, 54, 0, [2, 5, 0, 0], .code yX5_tells cX5_tells 3 (some .int)) := rfl
theorem e_X9_table_54 : lk t_X9_table 54 = some (.invokevirtual 96, 57, 0, [1, 9, 0, 0], .code yX9_granted cX9_granted 2 (some .int)) := rfl
theorem e_X9_table_57 : lk t_X9_table 57 = some (.ireturn, 58, 0, [], .returned) := rfl
abbrev q_X9_row : MI := (yX9_row, cX9_row, 5, (some .int))
def t_X9_row : Tab := [(0, [], (.aload_n 0, 1, 0, [], .returned)),
  (1, [445], (.getfield 47, 4, 9, [5, 2], .returned)),
  (4, [], (.iload_n 1, 5, 1, [], .returned)),
  (5, [701, 704, 702, 703, 99], (.invokevirtual 207, 8, 0, [1, 0, 0, 0], .code yX0_hasTable cX0_hasTable 2 (some .boolean))),
  (8, [], (.ifCond .eq 28, 11, 36, [], .returned)),
  (11, [], (.aload_n 0, 12, 0, [], .returned)),
  (12, [445], (.getfield 47, 15, 9, [5, 2], .returned)),
  (15, [386], (.getfield 213, 18, 0, [0, 2], .returned)),
  (18, [], (.iload_n 1, 19, 1, [], .returned)),
  (19, [], (.aaload, 20, 0, [], .returned)),
  (20, [], (.iload_n 2, 21, 2, [], .returned)),
  (21, [725, 728, 726, 727, 100], (.invokevirtual 223, 24, 0, [1, 5, 0, 0], .code yX5_hasRow cX5_hasRow 2 (some .boolean))),
  (24, [], (.ifCond .eq 12, 27, 36, [], .returned)),
  (27, [], (.iload_n 3, 28, 3, [], .returned)),
  (28, [], (.iconst 0, 29, 0, [], .constant "" 0 (0))),
  (29, [], (.iconst 1, 30, 0, [], .constant "" 0 (1))),
  (30, [483, 485, 484, 92], (.invokestatic 71, 33, 0, [3, 0, 0], .code yX9_within cX9_within 3 (some .boolean))),
  (33, [], (.ifCond .ne 9, 36, 42, [], .returned)),
  (36, [], (.aload_n 0, 37, 0, [], .returned)),
  (37, [], (.iconst 1, 38, 0, [], .constant "" 0 (1))),
  (38, [486, 489, 488, 0, 92], (.invokevirtual 75, 41, 0, [1, 9, 0, 0], .code yX9_refuse cX9_refuse 2 (some .int))),
  (41, [], (.ireturn, 42, 0, [], .returned)),
  (42, [], (.aload_n 0, 43, 0, [], .returned)),
  (43, [445], (.getfield 47, 46, 9, [5, 2], .returned)),
  (46, [386], (.getfield 213, 49, 0, [0, 2], .returned)),
  (49, [], (.iload_n 1, 50, 1, [], .returned)),
  (50, [], (.aaload, 51, 0, [], .returned)),
  (51, [], (.astore 4, 53, 4, [], .returned)),
  (53, [], (.aload_n 0, 54, 0, [], .returned)),
  (54, [], (.iload_n 3, 55, 3, [], .returned)),
  (55, [], (.ifCond .ne 13, 58, 68, [], .returned)),
  (58, [], (.aload 4, 60, 4, [], .returned)),
  (60, [338], (.getfield 226, 63, 5, [0, 2], .returned)),
  (63, [], (.iload_n 2, 64, 2, [], .returned)),
  (64, [], (.iaload, 65, 0, [], .returned)),
  (65, [], (.goto 10, 68, 75, [], .returned)),
  (68, [], (.aload 4, 70, 4, [], .returned)),
  (70, [341], (.getfield 230, 73, 5, [1, 2], .returned)),
  (73, [], (.iload_n 2, 74, 2, [], .returned)),
  (74, [], (.iaload, 75, 0, [], .returned)),
  (75, [617, 620, 619, 20, 92], (.invokevirtual 96, 78, 0, [1, 9, 0, 0], .code yX9_granted cX9_granted 2 (some .int))),
  (78, [], (.ireturn, 79, 0, [], .returned))]
theorem ck_X9_row : okT q_X9_row t_X9_row = true := by decide +kernel
theorem e_X9_row_0 : lk t_X9_row 0 = some (.aload_n 0, 1, 0, [], .returned) := rfl
theorem e_X9_row_1 : lk t_X9_row 1 = some (.getfield 47, 4, 9, [5, 2], .returned) := rfl
theorem e_X9_row_4 : lk t_X9_row 4 = some (.iload_n 1, 5, 1, [], .returned) := rfl
theorem e_X9_row_5 : lk t_X9_row 5 = some (.invokevirtual 207, 8, 0, [1, 0, 0, 0], .code yX0_hasTable cX0_hasTable 2 (some .boolean)) := rfl
theorem e_X9_row_8 : lk t_X9_row 8 = some (.ifCond .eq 28, 11, 36, [], .returned) := rfl
theorem e_X9_row_11 : lk t_X9_row 11 = some (.aload_n 0, 12, 0, [], .returned) := rfl
theorem e_X9_row_12 : lk t_X9_row 12 = some (.getfield 47, 15, 9, [5, 2], .returned) := rfl
theorem e_X9_row_15 : lk t_X9_row 15 = some (.getfield 213, 18, 0, [0, 2], .returned) := rfl
theorem e_X9_row_18 : lk t_X9_row 18 = some (.iload_n 1, 19, 1, [], .returned) := rfl
theorem e_X9_row_19 : lk t_X9_row 19 = some (.aaload, 20, 0, [], .returned) := rfl
theorem e_X9_row_20 : lk t_X9_row 20 = some (.iload_n 2, 21, 2, [], .returned) := rfl
theorem e_X9_row_21 : lk t_X9_row 21 = some (.invokevirtual 223, 24, 0, [1, 5, 0, 0], .code yX5_hasRow cX5_hasRow 2 (some .boolean)) := rfl
theorem e_X9_row_24 : lk t_X9_row 24 = some (.ifCond .eq 12, 27, 36, [], .returned) := rfl
theorem e_X9_row_27 : lk t_X9_row 27 = some (.iload_n 3, 28, 3, [], .returned) := rfl
theorem e_X9_row_28 : lk t_X9_row 28 = some (.iconst 0, 29, 0, [], .constant "" 0 (0)) := rfl
theorem e_X9_row_29 : lk t_X9_row 29 = some (.iconst 1, 30, 0, [], .constant "" 0 (1)) := rfl
theorem e_X9_row_30 : lk t_X9_row 30 = some (.invokestatic 71, 33, 0, [3, 0, 0], .code yX9_within cX9_within 3 (some .boolean)) := rfl
theorem e_X9_row_33 : lk t_X9_row 33 = some (.ifCond .ne 9, 36, 42, [], .returned) := rfl
theorem e_X9_row_36 : lk t_X9_row 36 = some (.aload_n 0, 37, 0, [], .returned) := rfl
theorem e_X9_row_37 : lk t_X9_row 37 = some (.iconst 1, 38, 0, [], .constant "" 0 (1)) := rfl
theorem e_X9_row_38 : lk t_X9_row 38 = some (.invokevirtual 75, 41, 0, [1, 9, 0, 0], .code yX9_refuse cX9_refuse 2 (some .int)) := rfl
theorem e_X9_row_41 : lk t_X9_row 41 = some (.ireturn, 42, 0, [], .returned) := rfl
theorem e_X9_row_42 : lk t_X9_row 42 = some (.aload_n 0, 43, 0, [], .returned) := rfl
theorem e_X9_row_43 : lk t_X9_row 43 = some (.getfield 47, 46, 9, [5, 2], .returned) := rfl
theorem e_X9_row_46 : lk t_X9_row 46 = some (.getfield 213, 49, 0, [0, 2], .returned) := rfl
theorem e_X9_row_49 : lk t_X9_row 49 = some (.iload_n 1, 50, 1, [], .returned) := rfl
theorem e_X9_row_50 : lk t_X9_row 50 = some (.aaload, 51, 0, [], .returned) := rfl
theorem e_X9_row_51 : lk t_X9_row 51 = some (.astore 4, 53, 4, [], .returned) := rfl
theorem e_X9_row_53 : lk t_X9_row 53 = some (.aload_n 0, 54, 0, [], .returned) := rfl
theorem e_X9_row_54 : lk t_X9_row 54 = some (.iload_n 3, 55, 3, [], .returned) := rfl
theorem e_X9_row_55 : lk t_X9_row 55 = some (.ifCond .ne 13, 58, 68, [], .returned) := rfl
theorem e_X9_row_58 : lk t_X9_row 58 = some (.aload 4, 60, 4, [], .returned) := rfl
theorem e_X9_row_60 : lk t_X9_row 60 = some (.getfield 226, 63, 5, [0, 2], .returned) := rfl
theorem e_X9_row_63 : lk t_X9_row 63 = some (.iload_n 2, 64, 2, [], .returned) := rfl
theorem e_X9_row_64 : lk t_X9_row 64 = some (.iaload, 65, 0, [], .returned) := rfl
theorem e_X9_row_65 : lk t_X9_row 65 = some (.goto 10, 68, 75, [], .returned) := rfl
theorem e_X9_row_68 : lk t_X9_row 68 = some (.aload 4, 70, 4, [], .returned) := rfl
theorem e_X9_row_70 : lk t_X9_row 70 = some (.getfield 230, 73, 5, [1, 2], .returned) := rfl
theorem e_X9_row_73 : lk t_X9_row 73 = some (.iload_n 2, 74, 2, [], .returned) := rfl
theorem e_X9_row_74 : lk t_X9_row 74 = some (.iaload, 75, 0, [], .returned) := rfl
theorem e_X9_row_75 : lk t_X9_row 75 = some (.invokevirtual 96, 78, 0, [1, 9, 0, 0], .code yX9_granted cX9_granted 2 (some .int)) := rfl
theorem e_X9_row_78 : lk t_X9_row 78 = some (.ireturn, 79, 0, [], .returned) := rfl
abbrev q_X9_floor : MI := (yX9_floor, cX9_floor, 3, (some .int))
def t_X9_floor : Tab := [(0, [], (.aload_n 0, 1, 0, [], .returned)),
  (1, [445], (.getfield 47, 4, 9, [5, 2], .returned)),
  (4, [], (.iload_n 1, 5, 1, [], .returned)),
  (5, [684, 687, 685, 686, 99], (.invokevirtual 183, 8, 0, [1, 0, 0, 0], .code yX0_hasPayer cX0_hasPayer 2 (some .boolean))),
  (8, [], (.ifCond .ne 9, 11, 17, [], .returned)),
  (11, [], (.aload_n 0, 12, 0, [], .returned)),
  (12, [], (.iconst 1, 13, 0, [], .constant "" 0 (1))),
  (13, [486, 489, 488, 0, 92], (.invokevirtual 75, 16, 0, [1, 9, 0, 0], .code yX9_refuse cX9_refuse 2 (some .int))),
  (16, [], (.ireturn, 17, 0, [], .returned)),
  (17, [], (.iload_n 2, 18, 2, [], .returned)),
  (18, [705, 707, 706, 92], (.invokestatic 210, 21, 0, [1, 0, 0], .code yX9_isNet cX9_isNet 1 (some .boolean))),
  (21, [], (.ifCond .ne 9, 24, 30, [], .returned)),
  (24, [], (.aload_n 0, 25, 0, [], .returned)),
  (25, [], (.iconst 2, 26, 0, [], .constant "" 0 (2))),
  (26, [486, 489, 488, 0, 92], (.invokevirtual 75, 29, 0, [1, 9, 0, 0], .code yX9_refuse cX9_refuse 2 (some .int))),
  (29, [], (.ireturn, 30, 0, [], .returned)),
  (30, [], (.aload_n 0, 31, 0, [], .returned)),
  (31, [], (.aload_n 0, 32, 0, [], .returned)),
  (32, [445], (.getfield 47, 35, 9, [5, 2], .returned)),
  (35, [], (.iload_n 1, 36, 1, [], .returned)),
  (36, [], (.iload_n 2, 37, 2, [], .returned)),
  (37, [733, 736, 734, 735, 99], (.invokevirtual 233, 40, 0, [2, 0, 0, 0], .code yX0_floorOf cX0_floorOf 4 (some .int))),
  (40, [617, 620, 619, 20, 92], (.invokevirtual 96, 43, 0, [1, 9, 0, 0], .code yX9_granted cX9_granted 2 (some .int))),
  (43, [], (.ireturn, 44, 0, [], .returned))]
theorem ck_X9_floor : okT q_X9_floor t_X9_floor = true := by decide +kernel
theorem e_X9_floor_0 : lk t_X9_floor 0 = some (.aload_n 0, 1, 0, [], .returned) := rfl
theorem e_X9_floor_1 : lk t_X9_floor 1 = some (.getfield 47, 4, 9, [5, 2], .returned) := rfl
theorem e_X9_floor_4 : lk t_X9_floor 4 = some (.iload_n 1, 5, 1, [], .returned) := rfl
theorem e_X9_floor_5 : lk t_X9_floor 5 = some (.invokevirtual 183, 8, 0, [1, 0, 0, 0], .code yX0_hasPayer cX0_hasPayer 2 (some .boolean)) := rfl
theorem e_X9_floor_8 : lk t_X9_floor 8 = some (.ifCond .ne 9, 11, 17, [], .returned) := rfl
theorem e_X9_floor_11 : lk t_X9_floor 11 = some (.aload_n 0, 12, 0, [], .returned) := rfl
theorem e_X9_floor_12 : lk t_X9_floor 12 = some (.iconst 1, 13, 0, [], .constant "" 0 (1)) := rfl
theorem e_X9_floor_13 : lk t_X9_floor 13 = some (.invokevirtual 75, 16, 0, [1, 9, 0, 0], .code yX9_refuse cX9_refuse 2 (some .int)) := rfl
theorem e_X9_floor_16 : lk t_X9_floor 16 = some (.ireturn, 17, 0, [], .returned) := rfl
theorem e_X9_floor_17 : lk t_X9_floor 17 = some (.iload_n 2, 18, 2, [], .returned) := rfl
theorem e_X9_floor_18 : lk t_X9_floor 18 = some (.invokestatic 210, 21, 0, [1, 0, 0], .code yX9_isNet cX9_isNet 1 (some .boolean)) := rfl
theorem e_X9_floor_21 : lk t_X9_floor 21 = some (.ifCond .ne 9, 24, 30, [], .returned) := rfl
theorem e_X9_floor_24 : lk t_X9_floor 24 = some (.aload_n 0, 25, 0, [], .returned) := rfl
theorem e_X9_floor_25 : lk t_X9_floor 25 = some (.iconst 2, 26, 0, [], .constant "" 0 (2)) := rfl
theorem e_X9_floor_26 : lk t_X9_floor 26 = some (.invokevirtual 75, 29, 0, [1, 9, 0, 0], .code yX9_refuse cX9_refuse 2 (some .int)) := rfl
theorem e_X9_floor_29 : lk t_X9_floor 29 = some (.ireturn, 30, 0, [], .returned) := rfl
theorem e_X9_floor_30 : lk t_X9_floor 30 = some (.aload_n 0, 31, 0, [], .returned) := rfl
theorem e_X9_floor_31 : lk t_X9_floor 31 = some (.aload_n 0, 32, 0, [], .returned) := rfl
theorem e_X9_floor_32 : lk t_X9_floor 32 = some (.getfield 47, 35, 9, [5, 2], .returned) := rfl
theorem e_X9_floor_35 : lk t_X9_floor 35 = some (.iload_n 1, 36, 1, [], .returned) := rfl
theorem e_X9_floor_36 : lk t_X9_floor 36 = some (.iload_n 2, 37, 2, [], .returned) := rfl
theorem e_X9_floor_37 : lk t_X9_floor 37 = some (.invokevirtual 233, 40, 0, [2, 0, 0, 0], .code yX0_floorOf cX0_floorOf 4 (some .int)) := rfl
theorem e_X9_floor_40 : lk t_X9_floor 40 = some (.invokevirtual 96, 43, 0, [1, 9, 0, 0], .code yX9_granted cX9_granted 2 (some .int)) := rfl
theorem e_X9_floor_43 : lk t_X9_floor 43 = some (.ireturn, 44, 0, [], .returned) := rfl
abbrev q_X9_ownFloor : MI := (yX9_ownFloor, cX9_ownFloor, 4, (some .int))
def t_X9_ownFloor : Tab := [(0, [], (.aload_n 0, 1, 0, [], .returned)),
  (1, [445], (.getfield 47, 4, 9, [5, 2], .returned)),
  (4, [], (.iload_n 1, 5, 1, [], .returned)),
  (5, [670, 673, 671, 672, 99], (.invokevirtual 138, 8, 0, [1, 0, 0, 0], .code yX0_hasOrder cX0_hasOrder 2 (some .boolean))),
  (8, [], (.ifCond .eq 14, 11, 22, [], .returned)),
  (11, [], (.aload_n 0, 12, 0, [], .returned)),
  (12, [445], (.getfield 47, 15, 9, [5, 2], .returned)),
  (15, [], (.iload_n 2, 16, 2, [], .returned)),
  (16, [684, 687, 685, 686, 99], (.invokevirtual 183, 19, 0, [1, 0, 0, 0], .code yX0_hasPayer cX0_hasPayer 2 (some .boolean))),
  (19, [], (.ifCond .ne 9, 22, 28, [], .returned)),
  (22, [], (.aload_n 0, 23, 0, [], .returned)),
  (23, [], (.iconst 1, 24, 0, [], .constant "" 0 (1))),
  (24, [486, 489, 488, 0, 92], (.invokevirtual 75, 27, 0, [1, 9, 0, 0], .code yX9_refuse cX9_refuse 2 (some .int))),
  (27, [], (.ireturn, 28, 0, [], .returned)),
  (28, [], (.iload_n 3, 29, 3, [], .returned)),
  (29, [705, 707, 706, 92], (.invokestatic 210, 32, 0, [1, 0, 0], .code yX9_isNet cX9_isNet 1 (some .boolean))),
  (32, [], (.ifCond .ne 9, 35, 41, [], .returned)),
  (35, [], (.aload_n 0, 36, 0, [], .returned)),
  (36, [], (.iconst 2, 37, 0, [], .constant "" 0 (2))),
  (37, [486, 489, 488, 0, 92], (.invokevirtual 75, 40, 0, [1, 9, 0, 0], .code yX9_refuse cX9_refuse 2 (some .int))),
  (40, [], (.ireturn, 41, 0, [], .returned)),
  (41, [], (.aload_n 0, 42, 0, [], .returned)),
  (42, [], (.aload_n 0, 43, 0, [], .returned)),
  (43, [445], (.getfield 47, 46, 9, [5, 2], .returned)),
  (46, [394], (.getfield 142, 49, 0, [2, 2], .returned)),
  (49, [], (.iload_n 1, 50, 1, [], .returned)),
  (50, [], (.aaload, 51, 0, [], .returned)),
  (51, [], (.aload_n 0, 52, 0, [], .returned)),
  (52, [445], (.getfield 47, 55, 9, [5, 2], .returned)),
  (55, [], (.iload_n 2, 56, 2, [], .returned)),
  (56, [], (.iload_n 3, 57, 3, [], .returned)),
  (57, [733, 736, 734, 735, 99], (.invokevirtual 233, 60, 0, [2, 0, 0, 0], .code yX0_floorOf cX0_floorOf 4 (some .int))),
  (60, [], (.aload_n 0, 61, 0, [], .returned)),
  (61, [445], (.getfield 47, 64, 9, [5, 2], .returned)),
  (64, [391], (.getfield 186, 67, 0, [1, 2], .returned)),
  (67, [], (.iload_n 2, 68, 2, [], .returned)),
  (68, [], (.aaload, 69, 0, [], .returned)),
  (69, [363], (.getfield 190, 72, 4, [0, 0], .returned)),
  (72, [744, 747, 745, 746, 97], (.invokevirtual 236, 75, 0, [2, 3, 0, 0], .code yX3_floorAbove cX3_floorAbove 3 (some .int))),
  (75, [617, 620, 619, 20, 92], (.invokevirtual 96, 78, 0, [1, 9, 0, 0], .code yX9_granted cX9_granted 2 (some .int))),
  (78, [], (.ireturn, 79, 0, [], .returned))]
theorem ck_X9_ownFloor : okT q_X9_ownFloor t_X9_ownFloor = true := by decide +kernel
theorem e_X9_ownFloor_0 : lk t_X9_ownFloor 0 = some (.aload_n 0, 1, 0, [], .returned) := rfl
theorem e_X9_ownFloor_1 : lk t_X9_ownFloor 1 = some (.getfield 47, 4, 9, [5, 2], .returned) := rfl
theorem e_X9_ownFloor_4 : lk t_X9_ownFloor 4 = some (.iload_n 1, 5, 1, [], .returned) := rfl
theorem e_X9_ownFloor_5 : lk t_X9_ownFloor 5 = some (.invokevirtual 138, 8, 0, [1, 0, 0, 0], .code yX0_hasOrder cX0_hasOrder 2 (some .boolean)) := rfl
theorem e_X9_ownFloor_8 : lk t_X9_ownFloor 8 = some (.ifCond .eq 14, 11, 22, [], .returned) := rfl
theorem e_X9_ownFloor_11 : lk t_X9_ownFloor 11 = some (.aload_n 0, 12, 0, [], .returned) := rfl
theorem e_X9_ownFloor_12 : lk t_X9_ownFloor 12 = some (.getfield 47, 15, 9, [5, 2], .returned) := rfl
theorem e_X9_ownFloor_15 : lk t_X9_ownFloor 15 = some (.iload_n 2, 16, 2, [], .returned) := rfl
theorem e_X9_ownFloor_16 : lk t_X9_ownFloor 16 = some (.invokevirtual 183, 19, 0, [1, 0, 0, 0], .code yX0_hasPayer cX0_hasPayer 2 (some .boolean)) := rfl
theorem e_X9_ownFloor_19 : lk t_X9_ownFloor 19 = some (.ifCond .ne 9, 22, 28, [], .returned) := rfl
theorem e_X9_ownFloor_22 : lk t_X9_ownFloor 22 = some (.aload_n 0, 23, 0, [], .returned) := rfl
theorem e_X9_ownFloor_23 : lk t_X9_ownFloor 23 = some (.iconst 1, 24, 0, [], .constant "" 0 (1)) := rfl
theorem e_X9_ownFloor_24 : lk t_X9_ownFloor 24 = some (.invokevirtual 75, 27, 0, [1, 9, 0, 0], .code yX9_refuse cX9_refuse 2 (some .int)) := rfl
theorem e_X9_ownFloor_27 : lk t_X9_ownFloor 27 = some (.ireturn, 28, 0, [], .returned) := rfl
theorem e_X9_ownFloor_28 : lk t_X9_ownFloor 28 = some (.iload_n 3, 29, 3, [], .returned) := rfl
theorem e_X9_ownFloor_29 : lk t_X9_ownFloor 29 = some (.invokestatic 210, 32, 0, [1, 0, 0], .code yX9_isNet cX9_isNet 1 (some .boolean)) := rfl
theorem e_X9_ownFloor_32 : lk t_X9_ownFloor 32 = some (.ifCond .ne 9, 35, 41, [], .returned) := rfl
theorem e_X9_ownFloor_35 : lk t_X9_ownFloor 35 = some (.aload_n 0, 36, 0, [], .returned) := rfl
theorem e_X9_ownFloor_36 : lk t_X9_ownFloor 36 = some (.iconst 2, 37, 0, [], .constant "" 0 (2)) := rfl
theorem e_X9_ownFloor_37 : lk t_X9_ownFloor 37 = some (.invokevirtual 75, 40, 0, [1, 9, 0, 0], .code yX9_refuse cX9_refuse 2 (some .int)) := rfl
theorem e_X9_ownFloor_40 : lk t_X9_ownFloor 40 = some (.ireturn, 41, 0, [], .returned) := rfl
theorem e_X9_ownFloor_41 : lk t_X9_ownFloor 41 = some (.aload_n 0, 42, 0, [], .returned) := rfl
theorem e_X9_ownFloor_42 : lk t_X9_ownFloor 42 = some (.aload_n 0, 43, 0, [], .returned) := rfl
theorem e_X9_ownFloor_43 : lk t_X9_ownFloor 43 = some (.getfield 47, 46, 9, [5, 2], .returned) := rfl
theorem e_X9_ownFloor_46 : lk t_X9_ownFloor 46 = some (.getfield 142, 49, 0, [2, 2], .returned) := rfl
theorem e_X9_ownFloor_49 : lk t_X9_ownFloor 49 = some (.iload_n 1, 50, 1, [], .returned) := rfl
theorem e_X9_ownFloor_50 : lk t_X9_ownFloor 50 = some (.aaload, 51, 0, [], .returned) := rfl
theorem e_X9_ownFloor_51 : lk t_X9_ownFloor 51 = some (.aload_n 0, 52, 0, [], .returned) := rfl
theorem e_X9_ownFloor_52 : lk t_X9_ownFloor 52 = some (.getfield 47, 55, 9, [5, 2], .returned) := rfl
theorem e_X9_ownFloor_55 : lk t_X9_ownFloor 55 = some (.iload_n 2, 56, 2, [], .returned) := rfl
theorem e_X9_ownFloor_56 : lk t_X9_ownFloor 56 = some (.iload_n 3, 57, 3, [], .returned) := rfl
theorem e_X9_ownFloor_57 : lk t_X9_ownFloor 57 = some (.invokevirtual 233, 60, 0, [2, 0, 0, 0], .code yX0_floorOf cX0_floorOf 4 (some .int)) := rfl
theorem e_X9_ownFloor_60 : lk t_X9_ownFloor 60 = some (.aload_n 0, 61, 0, [], .returned) := rfl
theorem e_X9_ownFloor_61 : lk t_X9_ownFloor 61 = some (.getfield 47, 64, 9, [5, 2], .returned) := rfl
theorem e_X9_ownFloor_64 : lk t_X9_ownFloor 64 = some (.getfield 186, 67, 0, [1, 2], .returned) := rfl
theorem e_X9_ownFloor_67 : lk t_X9_ownFloor 67 = some (.iload_n 2, 68, 2, [], .returned) := rfl
theorem e_X9_ownFloor_68 : lk t_X9_ownFloor 68 = some (.aaload, 69, 0, [], .returned) := rfl
theorem e_X9_ownFloor_69 : lk t_X9_ownFloor 69 = some (.getfield 190, 72, 4, [0, 0], .returned) := rfl
theorem e_X9_ownFloor_72 : lk t_X9_ownFloor 72 = some (.invokevirtual 236, 75, 0, [2, 3, 0, 0], .code yX3_floorAbove cX3_floorAbove 3 (some .int)) := rfl
theorem e_X9_ownFloor_75 : lk t_X9_ownFloor 75 = some (.invokevirtual 96, 78, 0, [1, 9, 0, 0], .code yX9_granted cX9_granted 2 (some .int)) := rfl
theorem e_X9_ownFloor_78 : lk t_X9_ownFloor 78 = some (.ireturn, 79, 0, [], .returned) := rfl
abbrev q_X9_past : MI := (yX9_past, cX9_past, 3, (some .int))
def t_X9_past : Tab := [(0, [], (.aload_n 0, 1, 0, [], .returned)),
  (1, [444], (.getfield 40, 4, 9, [4, 2], .returned)),
  (4, [], (.iload_n 1, 5, 1, [], .returned)),
  (5, [753, 756, 754, 755, 98], (.invokevirtual 239, 8, 0, [1, 2, 0, 0], .code yX2_has cX2_has 2 (some .boolean))),
  (8, [], (.ifCond .eq 12, 11, 20, [], .returned)),
  (11, [], (.iload_n 2, 12, 2, [], .returned)),
  (12, [], (.iconst 0, 13, 0, [], .constant "" 0 (0))),
  (13, [], (.iconst 4, 14, 0, [], .constant "" 0 (4))),
  (14, [483, 485, 484, 92], (.invokestatic 71, 17, 0, [3, 0, 0], .code yX9_within cX9_within 3 (some .boolean))),
  (17, [], (.ifCond .ne 9, 20, 26, [], .returned)),
  (20, [], (.aload_n 0, 21, 0, [], .returned)),
  (21, [], (.iconst 1, 22, 0, [], .constant "" 0 (1))),
  (22, [486, 489, 488, 0, 92], (.invokevirtual 75, 25, 0, [1, 9, 0, 0], .code yX9_refuse cX9_refuse 2 (some .int))),
  (25, [], (.ireturn, 26, 0, [], .returned)),
  (26, [], (.aload_n 0, 27, 0, [], .returned)),
  (27, [], (.aload_n 0, 28, 0, [], .returned)),
  (28, [444], (.getfield 40, 31, 9, [4, 2], .returned)),
  (31, [], (.iload_n 1, 32, 1, [], .returned)),
  (32, [757, 760, 758, 759, 98], (.invokevirtual 242, 35, 0, [1, 2, 0, 0], .code yX2_entry cX2_entry 2 (some (.array .int)))),
  (35, [], (.iload_n 2, 36, 2, [], .returned)),
  (36, [], (.iaload, 37, 0, [], .returned)),
  (37, [617, 620, 619, 20, 92], (.invokevirtual 96, 40, 0, [1, 9, 0, 0], .code yX9_granted cX9_granted 2 (some .int))),
  (40, [], (.ireturn, 41, 0, [], .returned))]
theorem ck_X9_past : okT q_X9_past t_X9_past = true := by decide +kernel
theorem e_X9_past_0 : lk t_X9_past 0 = some (.aload_n 0, 1, 0, [], .returned) := rfl
theorem e_X9_past_1 : lk t_X9_past 1 = some (.getfield 40, 4, 9, [4, 2], .returned) := rfl
theorem e_X9_past_4 : lk t_X9_past 4 = some (.iload_n 1, 5, 1, [], .returned) := rfl
theorem e_X9_past_5 : lk t_X9_past 5 = some (.invokevirtual 239, 8, 0, [1, 2, 0, 0], .code yX2_has cX2_has 2 (some .boolean)) := rfl
theorem e_X9_past_8 : lk t_X9_past 8 = some (.ifCond .eq 12, 11, 20, [], .returned) := rfl
theorem e_X9_past_11 : lk t_X9_past 11 = some (.iload_n 2, 12, 2, [], .returned) := rfl
theorem e_X9_past_12 : lk t_X9_past 12 = some (.iconst 0, 13, 0, [], .constant "" 0 (0)) := rfl
theorem e_X9_past_13 : lk t_X9_past 13 = some (.iconst 4, 14, 0, [], .constant "" 0 (4)) := rfl
theorem e_X9_past_14 : lk t_X9_past 14 = some (.invokestatic 71, 17, 0, [3, 0, 0], .code yX9_within cX9_within 3 (some .boolean)) := rfl
theorem e_X9_past_17 : lk t_X9_past 17 = some (.ifCond .ne 9, 20, 26, [], .returned) := rfl
theorem e_X9_past_20 : lk t_X9_past 20 = some (.aload_n 0, 21, 0, [], .returned) := rfl
theorem e_X9_past_21 : lk t_X9_past 21 = some (.iconst 1, 22, 0, [], .constant "" 0 (1)) := rfl
theorem e_X9_past_22 : lk t_X9_past 22 = some (.invokevirtual 75, 25, 0, [1, 9, 0, 0], .code yX9_refuse cX9_refuse 2 (some .int)) := rfl
theorem e_X9_past_25 : lk t_X9_past 25 = some (.ireturn, 26, 0, [], .returned) := rfl
theorem e_X9_past_26 : lk t_X9_past 26 = some (.aload_n 0, 27, 0, [], .returned) := rfl
theorem e_X9_past_27 : lk t_X9_past 27 = some (.aload_n 0, 28, 0, [], .returned) := rfl
theorem e_X9_past_28 : lk t_X9_past 28 = some (.getfield 40, 31, 9, [4, 2], .returned) := rfl
theorem e_X9_past_31 : lk t_X9_past 31 = some (.iload_n 1, 32, 1, [], .returned) := rfl
theorem e_X9_past_32 : lk t_X9_past 32 = some (.invokevirtual 242, 35, 0, [1, 2, 0, 0], .code yX2_entry cX2_entry 2 (some (.array .int))) := rfl
theorem e_X9_past_35 : lk t_X9_past 35 = some (.iload_n 2, 36, 2, [], .returned) := rfl
theorem e_X9_past_36 : lk t_X9_past 36 = some (.iaload, 37, 0, [], .returned) := rfl
theorem e_X9_past_37 : lk t_X9_past 37 = some (.invokevirtual 96, 40, 0, [1, 9, 0, 0], .code yX9_granted cX9_granted 2 (some .int)) := rfl
theorem e_X9_past_40 : lk t_X9_past 40 = some (.ireturn, 41, 0, [], .returned) := rfl
abbrev q_X9_pastOf : MI := (yX9_pastOf, cX9_pastOf, 4, (some .int))
def t_X9_pastOf : Tab := [(0, [], (.aload_n 0, 1, 0, [], .returned)),
  (1, [444], (.getfield 40, 4, 9, [4, 2], .returned)),
  (4, [], (.iload_n 1, 5, 1, [], .returned)),
  (5, [753, 756, 754, 755, 98], (.invokevirtual 239, 8, 0, [1, 2, 0, 0], .code yX2_has cX2_has 2 (some .boolean))),
  (8, [], (.ifCond .eq 23, 11, 31, [], .returned)),
  (11, [], (.aload_n 0, 12, 0, [], .returned)),
  (12, [445], (.getfield 47, 15, 9, [5, 2], .returned)),
  (15, [], (.iload_n 2, 16, 2, [], .returned)),
  (16, [670, 673, 671, 672, 99], (.invokevirtual 138, 19, 0, [1, 0, 0, 0], .code yX0_hasOrder cX0_hasOrder 2 (some .boolean))),
  (19, [], (.ifCond .eq 12, 22, 31, [], .returned)),
  (22, [], (.iload_n 3, 23, 3, [], .returned)),
  (23, [], (.iconst 0, 24, 0, [], .constant "" 0 (0))),
  (24, [], (.iconst 1, 25, 0, [], .constant "" 0 (1))),
  (25, [483, 485, 484, 92], (.invokestatic 71, 28, 0, [3, 0, 0], .code yX9_within cX9_within 3 (some .boolean))),
  (28, [], (.ifCond .ne 9, 31, 37, [], .returned)),
  (31, [], (.aload_n 0, 32, 0, [], .returned)),
  (32, [], (.iconst 1, 33, 0, [], .constant "" 0 (1))),
  (33, [486, 489, 488, 0, 92], (.invokevirtual 75, 36, 0, [1, 9, 0, 0], .code yX9_refuse cX9_refuse 2 (some .int))),
  (36, [], (.ireturn, 37, 0, [], .returned)),
  (37, [], (.aload_n 0, 38, 0, [], .returned)),
  (38, [], (.aload_n 0, 39, 0, [], .returned)),
  (39, [444], (.getfield 40, 42, 9, [4, 2], .returned)),
  (42, [], (.iload_n 1, 43, 1, [], .returned)),
  (43, [757, 760, 758, 759, 98], (.invokevirtual 242, 46, 0, [1, 2, 0, 0], .code yX2_entry cX2_entry 2 (some (.array .int)))),
  (46, [], (.iload_n 3, 47, 3, [], .returned)),
  (47, [], (.ifCond .ne 9, 50, 56, [], .returned)),
  (50, [], (.iconst 5, 51, 0, [], .constant "" 0 (5))),
  (51, [], (.iload_n 2, 52, 2, [], .returned)),
  (52, [], (.iadd, 53, 0, [], .returned)),
  (53, [], (.goto 7, 56, 60, [], .returned)),
  (56, [], (.bipush 11, 58, 0, [], .constant "" 0 (11))),
  (58, [], (.iload_n 2, 59, 2, [], .returned)),
  (59, [], (.iadd, 60, 0, [], .returned)),
  (60, [], (.iaload, 61, 0, [], .returned)),
  (61, [617, 620, 619, 20, 92], (.invokevirtual 96, 64, 0, [1, 9, 0, 0], .code yX9_granted cX9_granted 2 (some .int))),
  (64, [], (.ireturn, 65, 0, [], .returned))]
theorem ck_X9_pastOf : okT q_X9_pastOf t_X9_pastOf = true := by decide +kernel
theorem e_X9_pastOf_0 : lk t_X9_pastOf 0 = some (.aload_n 0, 1, 0, [], .returned) := rfl
theorem e_X9_pastOf_1 : lk t_X9_pastOf 1 = some (.getfield 40, 4, 9, [4, 2], .returned) := rfl
theorem e_X9_pastOf_4 : lk t_X9_pastOf 4 = some (.iload_n 1, 5, 1, [], .returned) := rfl
theorem e_X9_pastOf_5 : lk t_X9_pastOf 5 = some (.invokevirtual 239, 8, 0, [1, 2, 0, 0], .code yX2_has cX2_has 2 (some .boolean)) := rfl
theorem e_X9_pastOf_8 : lk t_X9_pastOf 8 = some (.ifCond .eq 23, 11, 31, [], .returned) := rfl
theorem e_X9_pastOf_11 : lk t_X9_pastOf 11 = some (.aload_n 0, 12, 0, [], .returned) := rfl
theorem e_X9_pastOf_12 : lk t_X9_pastOf 12 = some (.getfield 47, 15, 9, [5, 2], .returned) := rfl
theorem e_X9_pastOf_15 : lk t_X9_pastOf 15 = some (.iload_n 2, 16, 2, [], .returned) := rfl
theorem e_X9_pastOf_16 : lk t_X9_pastOf 16 = some (.invokevirtual 138, 19, 0, [1, 0, 0, 0], .code yX0_hasOrder cX0_hasOrder 2 (some .boolean)) := rfl
theorem e_X9_pastOf_19 : lk t_X9_pastOf 19 = some (.ifCond .eq 12, 22, 31, [], .returned) := rfl
theorem e_X9_pastOf_22 : lk t_X9_pastOf 22 = some (.iload_n 3, 23, 3, [], .returned) := rfl
theorem e_X9_pastOf_23 : lk t_X9_pastOf 23 = some (.iconst 0, 24, 0, [], .constant "" 0 (0)) := rfl
theorem e_X9_pastOf_24 : lk t_X9_pastOf 24 = some (.iconst 1, 25, 0, [], .constant "" 0 (1)) := rfl
theorem e_X9_pastOf_25 : lk t_X9_pastOf 25 = some (.invokestatic 71, 28, 0, [3, 0, 0], .code yX9_within cX9_within 3 (some .boolean)) := rfl
theorem e_X9_pastOf_28 : lk t_X9_pastOf 28 = some (.ifCond .ne 9, 31, 37, [], .returned) := rfl
theorem e_X9_pastOf_31 : lk t_X9_pastOf 31 = some (.aload_n 0, 32, 0, [], .returned) := rfl
theorem e_X9_pastOf_32 : lk t_X9_pastOf 32 = some (.iconst 1, 33, 0, [], .constant "" 0 (1)) := rfl
theorem e_X9_pastOf_33 : lk t_X9_pastOf 33 = some (.invokevirtual 75, 36, 0, [1, 9, 0, 0], .code yX9_refuse cX9_refuse 2 (some .int)) := rfl
theorem e_X9_pastOf_36 : lk t_X9_pastOf 36 = some (.ireturn, 37, 0, [], .returned) := rfl
theorem e_X9_pastOf_37 : lk t_X9_pastOf 37 = some (.aload_n 0, 38, 0, [], .returned) := rfl
theorem e_X9_pastOf_38 : lk t_X9_pastOf 38 = some (.aload_n 0, 39, 0, [], .returned) := rfl
theorem e_X9_pastOf_39 : lk t_X9_pastOf 39 = some (.getfield 40, 42, 9, [4, 2], .returned) := rfl
theorem e_X9_pastOf_42 : lk t_X9_pastOf 42 = some (.iload_n 1, 43, 1, [], .returned) := rfl
theorem e_X9_pastOf_43 : lk t_X9_pastOf 43 = some (.invokevirtual 242, 46, 0, [1, 2, 0, 0], .code yX2_entry cX2_entry 2 (some (.array .int))) := rfl
theorem e_X9_pastOf_46 : lk t_X9_pastOf 46 = some (.iload_n 3, 47, 3, [], .returned) := rfl
theorem e_X9_pastOf_47 : lk t_X9_pastOf 47 = some (.ifCond .ne 9, 50, 56, [], .returned) := rfl
theorem e_X9_pastOf_50 : lk t_X9_pastOf 50 = some (.iconst 5, 51, 0, [], .constant "" 0 (5)) := rfl
theorem e_X9_pastOf_51 : lk t_X9_pastOf 51 = some (.iload_n 2, 52, 2, [], .returned) := rfl
theorem e_X9_pastOf_52 : lk t_X9_pastOf 52 = some (.iadd, 53, 0, [], .returned) := rfl
theorem e_X9_pastOf_53 : lk t_X9_pastOf 53 = some (.goto 7, 56, 60, [], .returned) := rfl
theorem e_X9_pastOf_56 : lk t_X9_pastOf 56 = some (.bipush 11, 58, 0, [], .constant "" 0 (11)) := rfl
theorem e_X9_pastOf_58 : lk t_X9_pastOf 58 = some (.iload_n 2, 59, 2, [], .returned) := rfl
theorem e_X9_pastOf_59 : lk t_X9_pastOf 59 = some (.iadd, 60, 0, [], .returned) := rfl
theorem e_X9_pastOf_60 : lk t_X9_pastOf 60 = some (.iaload, 61, 0, [], .returned) := rfl
theorem e_X9_pastOf_61 : lk t_X9_pastOf 61 = some (.invokevirtual 96, 64, 0, [1, 9, 0, 0], .code yX9_granted cX9_granted 2 (some .int)) := rfl
theorem e_X9_pastOf_64 : lk t_X9_pastOf 64 = some (.ireturn, 65, 0, [], .returned) := rfl
abbrev q_X9_would : MI := (yX9_would, cX9_would, 5, (some .int))
def t_X9_would : Tab := [(0, [], (.aload_n 0, 1, 0, [], .returned)),
  (1, [445], (.getfield 47, 4, 9, [5, 2], .returned)),
  (4, [], (.iload_n 1, 5, 1, [], .returned)),
  (5, [684, 687, 685, 686, 99], (.invokevirtual 183, 8, 0, [1, 0, 0, 0], .code yX0_hasPayer cX0_hasPayer 2 (some .boolean))),
  (8, [], (.ifCond .eq 24, 11, 32, [], .returned)),
  (11, [], (.aload_n 0, 12, 0, [], .returned)),
  (12, [445], (.getfield 47, 15, 9, [5, 2], .returned)),
  (15, [], (.iload_n 3, 16, 3, [], .returned)),
  (16, [670, 673, 671, 672, 99], (.invokevirtual 138, 19, 0, [1, 0, 0, 0], .code yX0_hasOrder cX0_hasOrder 2 (some .boolean))),
  (19, [], (.ifCond .eq 13, 22, 32, [], .returned)),
  (22, [], (.iload 4, 24, 4, [], .returned)),
  (24, [], (.iconst 0, 25, 0, [], .constant "" 0 (0))),
  (25, [], (.iconst 2, 26, 0, [], .constant "" 0 (2))),
  (26, [483, 485, 484, 92], (.invokestatic 71, 29, 0, [3, 0, 0], .code yX9_within cX9_within 3 (some .boolean))),
  (29, [], (.ifCond .ne 9, 32, 38, [], .returned)),
  (32, [], (.aload_n 0, 33, 0, [], .returned)),
  (33, [], (.iconst 1, 34, 0, [], .constant "" 0 (1))),
  (34, [486, 489, 488, 0, 92], (.invokevirtual 75, 37, 0, [1, 9, 0, 0], .code yX9_refuse cX9_refuse 2 (some .int))),
  (37, [], (.ireturn, 38, 0, [], .returned)),
  (38, [], (.iload_n 2, 39, 2, [], .returned)),
  (39, [705, 707, 706, 92], (.invokestatic 210, 42, 0, [1, 0, 0], .code yX9_isNet cX9_isNet 1 (some .boolean))),
  (42, [], (.ifCond .ne 9, 45, 51, [], .returned)),
  (45, [], (.aload_n 0, 46, 0, [], .returned)),
  (46, [], (.iconst 2, 47, 0, [], .constant "" 0 (2))),
  (47, [486, 489, 488, 0, 92], (.invokevirtual 75, 50, 0, [1, 9, 0, 0], .code yX9_refuse cX9_refuse 2 (some .int))),
  (50, [], (.ireturn, 51, 0, [], .returned)),
  (51, [], (.aload_n 0, 52, 0, [], .returned)),
  (52, [442], (.getfield 26, 55, 9, [2, 2], .returned)),
  (55, [], (.aload_n 0, 56, 0, [], .returned)),
  (56, [445], (.getfield 47, 59, 9, [5, 2], .returned)),
  (59, [], (.aload_n 0, 60, 0, [], .returned)),
  (60, [445], (.getfield 47, 63, 9, [5, 2], .returned)),
  (63, [394], (.getfield 142, 66, 0, [2, 2], .returned)),
  (66, [], (.iload_n 1, 67, 1, [], .returned)),
  (67, [], (.iload_n 2, 68, 2, [], .returned)),
  (68, [769, 772, 770, 771, 95], (.invokevirtual 246, 71, 0, [4, 1, 0, 0], .code yX1_reckon cX1_reckon 7 none)),
  (71, [], (.iload 4, 73, 4, [], .returned)),
  (73, [], (.lookupswitch 55 #[(0, 27), (1, 41)], 100, 128, [100, 114], .returned)),
  (100, [], (.aload_n 0, 101, 0, [], .returned)),
  (101, [], (.aload_n 0, 102, 0, [], .returned)),
  (102, [442], (.getfield 26, 105, 9, [2, 2], .returned)),
  (105, [188], (.getfield 250, 108, 1, [1, 2], .returned)),
  (108, [], (.iload_n 3, 109, 3, [], .returned)),
  (109, [], (.iaload, 110, 0, [], .returned)),
  (110, [617, 620, 619, 20, 92], (.invokevirtual 96, 113, 0, [1, 9, 0, 0], .code yX9_granted cX9_granted 2 (some .int))),
  (113, [], (.ireturn, 114, 0, [], .returned)),
  (114, [], (.aload_n 0, 115, 0, [], .returned)),
  (115, [], (.aload_n 0, 116, 0, [], .returned)),
  (116, [442], (.getfield 26, 119, 9, [2, 2], .returned)),
  (119, [191], (.getfield 253, 122, 1, [2, 2], .returned)),
  (122, [], (.iload_n 3, 123, 3, [], .returned)),
  (123, [], (.iaload, 124, 0, [], .returned)),
  (124, [617, 620, 619, 20, 92], (.invokevirtual 96, 127, 0, [1, 9, 0, 0], .code yX9_granted cX9_granted 2 (some .int))),
  (127, [], (.ireturn, 128, 0, [], .returned)),
  (128, [], (.aload_n 0, 129, 0, [], .returned)),
  (129, [], (.aload_n 0, 130, 0, [], .returned)),
  (130, [442], (.getfield 26, 133, 9, [2, 2], .returned)),
  (133, [], (.aload_n 0, 134, 0, [], .returned)),
  (134, [445], (.getfield 47, 137, 9, [5, 2], .returned)),
  (137, [394], (.getfield 142, 140, 0, [2, 2], .returned)),
  (140, [], (.iload_n 3, 141, 3, [], .returned)),
  (141, [826, 829, 827, 828, 95], (.invokevirtual 254, 144, 0, [2, 1, 0, 0], .code yX1_owedThen cX1_owedThen 3 (some .int))),
  (144, [617, 620, 619, 20, 92], (.invokevirtual 96, 147, 0, [1, 9, 0, 0], .code yX9_granted cX9_granted 2 (some .int))),
  (147, [], (.ireturn, 148, 0, [], .returned))]
theorem ck_X9_would : okT q_X9_would t_X9_would = true := by decide +kernel
theorem e_X9_would_0 : lk t_X9_would 0 = some (.aload_n 0, 1, 0, [], .returned) := rfl
theorem e_X9_would_1 : lk t_X9_would 1 = some (.getfield 47, 4, 9, [5, 2], .returned) := rfl
theorem e_X9_would_4 : lk t_X9_would 4 = some (.iload_n 1, 5, 1, [], .returned) := rfl
theorem e_X9_would_5 : lk t_X9_would 5 = some (.invokevirtual 183, 8, 0, [1, 0, 0, 0], .code yX0_hasPayer cX0_hasPayer 2 (some .boolean)) := rfl
theorem e_X9_would_8 : lk t_X9_would 8 = some (.ifCond .eq 24, 11, 32, [], .returned) := rfl
theorem e_X9_would_11 : lk t_X9_would 11 = some (.aload_n 0, 12, 0, [], .returned) := rfl
theorem e_X9_would_12 : lk t_X9_would 12 = some (.getfield 47, 15, 9, [5, 2], .returned) := rfl
theorem e_X9_would_15 : lk t_X9_would 15 = some (.iload_n 3, 16, 3, [], .returned) := rfl
theorem e_X9_would_16 : lk t_X9_would 16 = some (.invokevirtual 138, 19, 0, [1, 0, 0, 0], .code yX0_hasOrder cX0_hasOrder 2 (some .boolean)) := rfl
theorem e_X9_would_19 : lk t_X9_would 19 = some (.ifCond .eq 13, 22, 32, [], .returned) := rfl
theorem e_X9_would_22 : lk t_X9_would 22 = some (.iload 4, 24, 4, [], .returned) := rfl
theorem e_X9_would_24 : lk t_X9_would 24 = some (.iconst 0, 25, 0, [], .constant "" 0 (0)) := rfl
theorem e_X9_would_25 : lk t_X9_would 25 = some (.iconst 2, 26, 0, [], .constant "" 0 (2)) := rfl
theorem e_X9_would_26 : lk t_X9_would 26 = some (.invokestatic 71, 29, 0, [3, 0, 0], .code yX9_within cX9_within 3 (some .boolean)) := rfl
theorem e_X9_would_29 : lk t_X9_would 29 = some (.ifCond .ne 9, 32, 38, [], .returned) := rfl
theorem e_X9_would_32 : lk t_X9_would 32 = some (.aload_n 0, 33, 0, [], .returned) := rfl
theorem e_X9_would_33 : lk t_X9_would 33 = some (.iconst 1, 34, 0, [], .constant "" 0 (1)) := rfl
theorem e_X9_would_34 : lk t_X9_would 34 = some (.invokevirtual 75, 37, 0, [1, 9, 0, 0], .code yX9_refuse cX9_refuse 2 (some .int)) := rfl
theorem e_X9_would_37 : lk t_X9_would 37 = some (.ireturn, 38, 0, [], .returned) := rfl
theorem e_X9_would_38 : lk t_X9_would 38 = some (.iload_n 2, 39, 2, [], .returned) := rfl
theorem e_X9_would_39 : lk t_X9_would 39 = some (.invokestatic 210, 42, 0, [1, 0, 0], .code yX9_isNet cX9_isNet 1 (some .boolean)) := rfl
theorem e_X9_would_42 : lk t_X9_would 42 = some (.ifCond .ne 9, 45, 51, [], .returned) := rfl
theorem e_X9_would_45 : lk t_X9_would 45 = some (.aload_n 0, 46, 0, [], .returned) := rfl
theorem e_X9_would_46 : lk t_X9_would 46 = some (.iconst 2, 47, 0, [], .constant "" 0 (2)) := rfl
theorem e_X9_would_47 : lk t_X9_would 47 = some (.invokevirtual 75, 50, 0, [1, 9, 0, 0], .code yX9_refuse cX9_refuse 2 (some .int)) := rfl
theorem e_X9_would_50 : lk t_X9_would 50 = some (.ireturn, 51, 0, [], .returned) := rfl
theorem e_X9_would_51 : lk t_X9_would 51 = some (.aload_n 0, 52, 0, [], .returned) := rfl
theorem e_X9_would_52 : lk t_X9_would 52 = some (.getfield 26, 55, 9, [2, 2], .returned) := rfl
theorem e_X9_would_55 : lk t_X9_would 55 = some (.aload_n 0, 56, 0, [], .returned) := rfl
theorem e_X9_would_56 : lk t_X9_would 56 = some (.getfield 47, 59, 9, [5, 2], .returned) := rfl
theorem e_X9_would_59 : lk t_X9_would 59 = some (.aload_n 0, 60, 0, [], .returned) := rfl
theorem e_X9_would_60 : lk t_X9_would 60 = some (.getfield 47, 63, 9, [5, 2], .returned) := rfl
theorem e_X9_would_63 : lk t_X9_would 63 = some (.getfield 142, 66, 0, [2, 2], .returned) := rfl
theorem e_X9_would_66 : lk t_X9_would 66 = some (.iload_n 1, 67, 1, [], .returned) := rfl
theorem e_X9_would_67 : lk t_X9_would 67 = some (.iload_n 2, 68, 2, [], .returned) := rfl
theorem e_X9_would_68 : lk t_X9_would 68 = some (.invokevirtual 246, 71, 0, [4, 1, 0, 0], .code yX1_reckon cX1_reckon 7 none) := rfl
theorem e_X9_would_71 : lk t_X9_would 71 = some (.iload 4, 73, 4, [], .returned) := rfl
theorem e_X9_would_73 : lk t_X9_would 73 = some (.lookupswitch 55 #[(0, 27), (1, 41)], 100, 128, [100, 114], .returned) := rfl
theorem e_X9_would_100 : lk t_X9_would 100 = some (.aload_n 0, 101, 0, [], .returned) := rfl
theorem e_X9_would_101 : lk t_X9_would 101 = some (.aload_n 0, 102, 0, [], .returned) := rfl
theorem e_X9_would_102 : lk t_X9_would 102 = some (.getfield 26, 105, 9, [2, 2], .returned) := rfl
theorem e_X9_would_105 : lk t_X9_would 105 = some (.getfield 250, 108, 1, [1, 2], .returned) := rfl
theorem e_X9_would_108 : lk t_X9_would 108 = some (.iload_n 3, 109, 3, [], .returned) := rfl
theorem e_X9_would_109 : lk t_X9_would 109 = some (.iaload, 110, 0, [], .returned) := rfl
theorem e_X9_would_110 : lk t_X9_would 110 = some (.invokevirtual 96, 113, 0, [1, 9, 0, 0], .code yX9_granted cX9_granted 2 (some .int)) := rfl
theorem e_X9_would_113 : lk t_X9_would 113 = some (.ireturn, 114, 0, [], .returned) := rfl
theorem e_X9_would_114 : lk t_X9_would 114 = some (.aload_n 0, 115, 0, [], .returned) := rfl
theorem e_X9_would_115 : lk t_X9_would 115 = some (.aload_n 0, 116, 0, [], .returned) := rfl
theorem e_X9_would_116 : lk t_X9_would 116 = some (.getfield 26, 119, 9, [2, 2], .returned) := rfl
theorem e_X9_would_119 : lk t_X9_would 119 = some (.getfield 253, 122, 1, [2, 2], .returned) := rfl
theorem e_X9_would_122 : lk t_X9_would 122 = some (.iload_n 3, 123, 3, [], .returned) := rfl
theorem e_X9_would_123 : lk t_X9_would 123 = some (.iaload, 124, 0, [], .returned) := rfl
theorem e_X9_would_124 : lk t_X9_would 124 = some (.invokevirtual 96, 127, 0, [1, 9, 0, 0], .code yX9_granted cX9_granted 2 (some .int)) := rfl
theorem e_X9_would_127 : lk t_X9_would 127 = some (.ireturn, 128, 0, [], .returned) := rfl
theorem e_X9_would_128 : lk t_X9_would 128 = some (.aload_n 0, 129, 0, [], .returned) := rfl
theorem e_X9_would_129 : lk t_X9_would 129 = some (.aload_n 0, 130, 0, [], .returned) := rfl
theorem e_X9_would_130 : lk t_X9_would 130 = some (.getfield 26, 133, 9, [2, 2], .returned) := rfl
theorem e_X9_would_133 : lk t_X9_would 133 = some (.aload_n 0, 134, 0, [], .returned) := rfl
theorem e_X9_would_134 : lk t_X9_would 134 = some (.getfield 47, 137, 9, [5, 2], .returned) := rfl
theorem e_X9_would_137 : lk t_X9_would 137 = some (.getfield 142, 140, 0, [2, 2], .returned) := rfl
theorem e_X9_would_140 : lk t_X9_would 140 = some (.iload_n 3, 141, 3, [], .returned) := rfl
theorem e_X9_would_141 : lk t_X9_would 141 = some (.invokevirtual 254, 144, 0, [2, 1, 0, 0], .code yX1_owedThen cX1_owedThen 3 (some .int)) := rfl
theorem e_X9_would_144 : lk t_X9_would 144 = some (.invokevirtual 96, 147, 0, [1, 9, 0, 0], .code yX9_granted cX9_granted 2 (some .int)) := rfl
theorem e_X9_would_147 : lk t_X9_would 147 = some (.ireturn, 148, 0, [], .returned) := rfl
abbrev q_X9_left : MI := (yX9_left, cX9_left, 3, (some .int))
def t_X9_left : Tab := [(0, [], (.aload_n 0, 1, 0, [], .returned)),
  (1, [445], (.getfield 47, 4, 9, [5, 2], .returned)),
  (4, [], (.iload_n 1, 5, 1, [], .returned)),
  (5, [684, 687, 685, 686, 99], (.invokevirtual 183, 8, 0, [1, 0, 0, 0], .code yX0_hasPayer cX0_hasPayer 2 (some .boolean))),
  (8, [], (.ifCond .ne 9, 11, 17, [], .returned)),
  (11, [], (.aload_n 0, 12, 0, [], .returned)),
  (12, [], (.iconst 1, 13, 0, [], .constant "" 0 (1))),
  (13, [486, 489, 488, 0, 92], (.invokevirtual 75, 16, 0, [1, 9, 0, 0], .code yX9_refuse cX9_refuse 2 (some .int))),
  (16, [], (.ireturn, 17, 0, [], .returned)),
  (17, [], (.iload_n 2, 18, 2, [], .returned)),
  (18, [705, 707, 706, 92], (.invokestatic 210, 21, 0, [1, 0, 0], .code yX9_isNet cX9_isNet 1 (some .boolean))),
  (21, [], (.ifCond .ne 9, 24, 30, [], .returned)),
  (24, [], (.aload_n 0, 25, 0, [], .returned)),
  (25, [], (.iconst 2, 26, 0, [], .constant "" 0 (2))),
  (26, [486, 489, 488, 0, 92], (.invokevirtual 75, 29, 0, [1, 9, 0, 0], .code yX9_refuse cX9_refuse 2 (some .int))),
  (29, [], (.ireturn, 30, 0, [], .returned)),
  (30, [], (.aload_n 0, 31, 0, [], .returned)),
  (31, [442], (.getfield 26, 34, 9, [2, 2], .returned)),
  (34, [], (.aload_n 0, 35, 0, [], .returned)),
  (35, [445], (.getfield 47, 38, 9, [5, 2], .returned)),
  (38, [], (.aload_n 0, 39, 0, [], .returned)),
  (39, [445], (.getfield 47, 42, 9, [5, 2], .returned)),
  (42, [394], (.getfield 142, 45, 0, [2, 2], .returned)),
  (45, [], (.iload_n 1, 46, 1, [], .returned)),
  (46, [], (.iload_n 2, 47, 2, [], .returned)),
  (47, [769, 772, 770, 771, 95], (.invokevirtual 246, 50, 0, [4, 1, 0, 0], .code yX1_reckon cX1_reckon 7 none)),
  (50, [], (.aload_n 0, 51, 0, [], .returned)),
  (51, [], (.aload_n 0, 52, 0, [], .returned)),
  (52, [442], (.getfield 26, 55, 9, [2, 2], .returned)),
  (55, [196], (.getfield 258, 58, 1, [4, 0], .returned)),
  (58, [617, 620, 619, 20, 92], (.invokevirtual 96, 61, 0, [1, 9, 0, 0], .code yX9_granted cX9_granted 2 (some .int))),
  (61, [], (.ireturn, 62, 0, [], .returned))]
theorem ck_X9_left : okT q_X9_left t_X9_left = true := by decide +kernel
theorem e_X9_left_0 : lk t_X9_left 0 = some (.aload_n 0, 1, 0, [], .returned) := rfl
theorem e_X9_left_1 : lk t_X9_left 1 = some (.getfield 47, 4, 9, [5, 2], .returned) := rfl
theorem e_X9_left_4 : lk t_X9_left 4 = some (.iload_n 1, 5, 1, [], .returned) := rfl
theorem e_X9_left_5 : lk t_X9_left 5 = some (.invokevirtual 183, 8, 0, [1, 0, 0, 0], .code yX0_hasPayer cX0_hasPayer 2 (some .boolean)) := rfl
theorem e_X9_left_8 : lk t_X9_left 8 = some (.ifCond .ne 9, 11, 17, [], .returned) := rfl
theorem e_X9_left_11 : lk t_X9_left 11 = some (.aload_n 0, 12, 0, [], .returned) := rfl
theorem e_X9_left_12 : lk t_X9_left 12 = some (.iconst 1, 13, 0, [], .constant "" 0 (1)) := rfl
theorem e_X9_left_13 : lk t_X9_left 13 = some (.invokevirtual 75, 16, 0, [1, 9, 0, 0], .code yX9_refuse cX9_refuse 2 (some .int)) := rfl
theorem e_X9_left_16 : lk t_X9_left 16 = some (.ireturn, 17, 0, [], .returned) := rfl
theorem e_X9_left_17 : lk t_X9_left 17 = some (.iload_n 2, 18, 2, [], .returned) := rfl
theorem e_X9_left_18 : lk t_X9_left 18 = some (.invokestatic 210, 21, 0, [1, 0, 0], .code yX9_isNet cX9_isNet 1 (some .boolean)) := rfl
theorem e_X9_left_21 : lk t_X9_left 21 = some (.ifCond .ne 9, 24, 30, [], .returned) := rfl
theorem e_X9_left_24 : lk t_X9_left 24 = some (.aload_n 0, 25, 0, [], .returned) := rfl
theorem e_X9_left_25 : lk t_X9_left 25 = some (.iconst 2, 26, 0, [], .constant "" 0 (2)) := rfl
theorem e_X9_left_26 : lk t_X9_left 26 = some (.invokevirtual 75, 29, 0, [1, 9, 0, 0], .code yX9_refuse cX9_refuse 2 (some .int)) := rfl
theorem e_X9_left_29 : lk t_X9_left 29 = some (.ireturn, 30, 0, [], .returned) := rfl
theorem e_X9_left_30 : lk t_X9_left 30 = some (.aload_n 0, 31, 0, [], .returned) := rfl
theorem e_X9_left_31 : lk t_X9_left 31 = some (.getfield 26, 34, 9, [2, 2], .returned) := rfl
theorem e_X9_left_34 : lk t_X9_left 34 = some (.aload_n 0, 35, 0, [], .returned) := rfl
theorem e_X9_left_35 : lk t_X9_left 35 = some (.getfield 47, 38, 9, [5, 2], .returned) := rfl
theorem e_X9_left_38 : lk t_X9_left 38 = some (.aload_n 0, 39, 0, [], .returned) := rfl
theorem e_X9_left_39 : lk t_X9_left 39 = some (.getfield 47, 42, 9, [5, 2], .returned) := rfl
theorem e_X9_left_42 : lk t_X9_left 42 = some (.getfield 142, 45, 0, [2, 2], .returned) := rfl
theorem e_X9_left_45 : lk t_X9_left 45 = some (.iload_n 1, 46, 1, [], .returned) := rfl
theorem e_X9_left_46 : lk t_X9_left 46 = some (.iload_n 2, 47, 2, [], .returned) := rfl
theorem e_X9_left_47 : lk t_X9_left 47 = some (.invokevirtual 246, 50, 0, [4, 1, 0, 0], .code yX1_reckon cX1_reckon 7 none) := rfl
theorem e_X9_left_50 : lk t_X9_left 50 = some (.aload_n 0, 51, 0, [], .returned) := rfl
theorem e_X9_left_51 : lk t_X9_left 51 = some (.aload_n 0, 52, 0, [], .returned) := rfl
theorem e_X9_left_52 : lk t_X9_left 52 = some (.getfield 26, 55, 9, [2, 2], .returned) := rfl
theorem e_X9_left_55 : lk t_X9_left 55 = some (.getfield 258, 58, 1, [4, 0], .returned) := rfl
theorem e_X9_left_58 : lk t_X9_left 58 = some (.invokevirtual 96, 61, 0, [1, 9, 0, 0], .code yX9_granted cX9_granted 2 (some .int)) := rfl
theorem e_X9_left_61 : lk t_X9_left 61 = some (.ireturn, 62, 0, [], .returned) := rfl
