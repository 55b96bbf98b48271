abbrev q_X10_floorOf : MI := (yX10_floorOf, cX10_floorOf, 3, (some .int))
def t_X10_floorOf : Tab := [(0, [], (.aload_n 0, 1, 0, [], .returned)),
  (1, [1061], (.getfield 17, 4, 10, [12, 2], .returned)),
  (4, [], (.iconst 0, 5, 0, [], .constant "" 0 (0))),
  (5, [], (.iaload, 6, 0, [], .returned)),
  (6, [], (.aload_n 0, 7, 0, [], .returned)),
  (7, [1061], (.getfield 17, 10, 10, [12, 2], .returned)),
  (10, [], (.bipush 48, 12, 0, [], .constant "" 0 (48))),
  (12, [], (.iload_n 1, 13, 1, [], .returned)),
  (13, [], (.iadd, 14, 0, [], .returned)),
  (14, [], (.iaload, 15, 0, [], .returned)),
  (15, [], (.imul, 16, 0, [], .returned)),
  (16, [], (.aload_n 0, 17, 0, [], .returned)),
  (17, [1061], (.getfield 17, 20, 10, [12, 2], .returned)),
  (20, [], (.iconst 1, 21, 0, [], .constant "" 0 (1))),
  (21, [], (.iaload, 22, 0, [], .returned)),
  (22, [], (.iload_n 2, 23, 2, [], .returned)),
  (23, [], (.imul, 24, 0, [], .returned)),
  (24, [], (.bipush 99, 26, 0, [], .constant "" 0 (99))),
  (26, [], (.iadd, 27, 0, [], .returned)),
  (27, [], (.bipush 100, 29, 0, [], .constant "" 0 (100))),
  (29, [], (.idiv, 30, 0, [], .returned)),
  (30, [1406, 1408, 1407, 102], (.invokestatic 250, 33, 0, [2, 0, 0], .code yX10_greater cX10_greater 2 (some .int))),
  (33, [], (.ireturn, 34, 0, [], .returned))]
theorem ck_X10_floorOf : okT q_X10_floorOf t_X10_floorOf = true := by decide +kernel
theorem e_X10_floorOf_0 : lk t_X10_floorOf 0 = some (.aload_n 0, 1, 0, [], .returned) := rfl
theorem e_X10_floorOf_1 : lk t_X10_floorOf 1 = some (.getfield 17, 4, 10, [12, 2], .returned) := rfl
theorem e_X10_floorOf_4 : lk t_X10_floorOf 4 = some (.iconst 0, 5, 0, [], .constant "" 0 (0)) := rfl
theorem e_X10_floorOf_5 : lk t_X10_floorOf 5 = some (.iaload, 6, 0, [], .returned) := rfl
theorem e_X10_floorOf_6 : lk t_X10_floorOf 6 = some (.aload_n 0, 7, 0, [], .returned) := rfl
theorem e_X10_floorOf_7 : lk t_X10_floorOf 7 = some (.getfield 17, 10, 10, [12, 2], .returned) := rfl
theorem e_X10_floorOf_10 : lk t_X10_floorOf 10 = some (.bipush 48, 12, 0, [], .constant "" 0 (48)) := rfl
theorem e_X10_floorOf_12 : lk t_X10_floorOf 12 = some (.iload_n 1, 13, 1, [], .returned) := rfl
theorem e_X10_floorOf_13 : lk t_X10_floorOf 13 = some (.iadd, 14, 0, [], .returned) := rfl
theorem e_X10_floorOf_14 : lk t_X10_floorOf 14 = some (.iaload, 15, 0, [], .returned) := rfl
theorem e_X10_floorOf_15 : lk t_X10_floorOf 15 = some (.imul, 16, 0, [], .returned) := rfl
theorem e_X10_floorOf_16 : lk t_X10_floorOf 16 = some (.aload_n 0, 17, 0, [], .returned) := rfl
theorem e_X10_floorOf_17 : lk t_X10_floorOf 17 = some (.getfield 17, 20, 10, [12, 2], .returned) := rfl
theorem e_X10_floorOf_20 : lk t_X10_floorOf 20 = some (.iconst 1, 21, 0, [], .constant "" 0 (1)) := rfl
theorem e_X10_floorOf_21 : lk t_X10_floorOf 21 = some (.iaload, 22, 0, [], .returned) := rfl
theorem e_X10_floorOf_22 : lk t_X10_floorOf 22 = some (.iload_n 2, 23, 2, [], .returned) := rfl
theorem e_X10_floorOf_23 : lk t_X10_floorOf 23 = some (.imul, 24, 0, [], .returned) := rfl
theorem e_X10_floorOf_24 : lk t_X10_floorOf 24 = some (.bipush 99, 26, 0, [], .constant "" 0 (99)) := rfl
theorem e_X10_floorOf_26 : lk t_X10_floorOf 26 = some (.iadd, 27, 0, [], .returned) := rfl
theorem e_X10_floorOf_27 : lk t_X10_floorOf 27 = some (.bipush 100, 29, 0, [], .constant "" 0 (100)) := rfl
theorem e_X10_floorOf_29 : lk t_X10_floorOf 29 = some (.idiv, 30, 0, [], .returned) := rfl
theorem e_X10_floorOf_30 : lk t_X10_floorOf 30 = some (.invokestatic 250, 33, 0, [2, 0, 0], .code yX10_greater cX10_greater 2 (some .int)) := rfl
theorem e_X10_floorOf_33 : lk t_X10_floorOf 33 = some (.ireturn, 34, 0, [], .returned) := rfl
abbrev q_X10_ownFloorOf : MI := (yX10_ownFloorOf, cX10_ownFloorOf, 4, (some .int))
def t_X10_ownFloorOf : Tab := [(0, [], (.aload_n 0, 1, 0, [], .returned)),
  (1, [], (.iload_n 2, 2, 2, [], .returned)),
  (2, [], (.iload_n 3, 3, 3, [], .returned)),
  (3, [1402, 1405, 1404, 68, 102], (.invokevirtual 253, 6, 0, [2, 10, 0, 0], .code yX10_floorOf cX10_floorOf 3 (some .int))),
  (6, [], (.aload_n 0, 7, 0, [], .returned)),
  (7, [1061], (.getfield 17, 10, 10, [12, 2], .returned)),
  (10, [], (.bipush 57, 12, 0, [], .constant "" 0 (57))),
  (12, [], (.iload_n 1, 13, 1, [], .returned)),
  (13, [], (.iadd, 14, 0, [], .returned)),
  (14, [], (.iaload, 15, 0, [], .returned)),
  (15, [], (.aload_n 0, 16, 0, [], .returned)),
  (16, [1061], (.getfield 17, 19, 10, [12, 2], .returned)),
  (19, [], (.bipush 48, 21, 0, [], .constant "" 0 (48))),
  (21, [], (.iload_n 2, 22, 2, [], .returned)),
  (22, [], (.iadd, 23, 0, [], .returned)),
  (23, [], (.iaload, 24, 0, [], .returned)),
  (24, [], (.imul, 25, 0, [], .returned)),
  (25, [1406, 1408, 1407, 102], (.invokestatic 250, 28, 0, [2, 0, 0], .code yX10_greater cX10_greater 2 (some .int))),
  (28, [], (.ireturn, 29, 0, [], .returned))]
theorem ck_X10_ownFloorOf : okT q_X10_ownFloorOf t_X10_ownFloorOf = true := by decide +kernel
theorem e_X10_ownFloorOf_0 : lk t_X10_ownFloorOf 0 = some (.aload_n 0, 1, 0, [], .returned) := rfl
theorem e_X10_ownFloorOf_1 : lk t_X10_ownFloorOf 1 = some (.iload_n 2, 2, 2, [], .returned) := rfl
theorem e_X10_ownFloorOf_2 : lk t_X10_ownFloorOf 2 = some (.iload_n 3, 3, 3, [], .returned) := rfl
theorem e_X10_ownFloorOf_3 : lk t_X10_ownFloorOf 3 = some (.invokevirtual 253, 6, 0, [2, 10, 0, 0], .code yX10_floorOf cX10_floorOf 3 (some .int)) := rfl
theorem e_X10_ownFloorOf_6 : lk t_X10_ownFloorOf 6 = some (.aload_n 0, 7, 0, [], .returned) := rfl
theorem e_X10_ownFloorOf_7 : lk t_X10_ownFloorOf 7 = some (.getfield 17, 10, 10, [12, 2], .returned) := rfl
theorem e_X10_ownFloorOf_10 : lk t_X10_ownFloorOf 10 = some (.bipush 57, 12, 0, [], .constant "" 0 (57)) := rfl
theorem e_X10_ownFloorOf_12 : lk t_X10_ownFloorOf 12 = some (.iload_n 1, 13, 1, [], .returned) := rfl
theorem e_X10_ownFloorOf_13 : lk t_X10_ownFloorOf 13 = some (.iadd, 14, 0, [], .returned) := rfl
theorem e_X10_ownFloorOf_14 : lk t_X10_ownFloorOf 14 = some (.iaload, 15, 0, [], .returned) := rfl
theorem e_X10_ownFloorOf_15 : lk t_X10_ownFloorOf 15 = some (.aload_n 0, 16, 0, [], .returned) := rfl
theorem e_X10_ownFloorOf_16 : lk t_X10_ownFloorOf 16 = some (.getfield 17, 19, 10, [12, 2], .returned) := rfl
theorem e_X10_ownFloorOf_19 : lk t_X10_ownFloorOf 19 = some (.bipush 48, 21, 0, [], .constant "" 0 (48)) := rfl
theorem e_X10_ownFloorOf_21 : lk t_X10_ownFloorOf 21 = some (.iload_n 2, 22, 2, [], .returned) := rfl
theorem e_X10_ownFloorOf_22 : lk t_X10_ownFloorOf 22 = some (.iadd, 23, 0, [], .returned) := rfl
theorem e_X10_ownFloorOf_23 : lk t_X10_ownFloorOf 23 = some (.iaload, 24, 0, [], .returned) := rfl
theorem e_X10_ownFloorOf_24 : lk t_X10_ownFloorOf 24 = some (.imul, 25, 0, [], .returned) := rfl
theorem e_X10_ownFloorOf_25 : lk t_X10_ownFloorOf 25 = some (.invokestatic 250, 28, 0, [2, 0, 0], .code yX10_greater cX10_greater 2 (some .int)) := rfl
theorem e_X10_ownFloorOf_28 : lk t_X10_ownFloorOf 28 = some (.ireturn, 29, 0, [], .returned) := rfl
abbrev q_X10_isIn : MI := (yX10_isIn, cX10_isIn, 5, (some .boolean))
def t_X10_isIn : Tab := [(0, [], (.aload_n 0, 1, 0, [], .returned)),
  (1, [], (.iload_n 1, 2, 1, [], .returned)),
  (2, [], (.iload_n 2, 3, 2, [], .returned)),
  (3, [1343, 1346, 1345, 60, 102], (.invokevirtual 239, 6, 0, [2, 10, 0, 0], .code yX10_isLive cX10_isLive 3 (some .boolean))),
  (6, [], (.ifCond .eq 30, 9, 36, [], .returned)),
  (9, [], (.aload_n 0, 10, 0, [], .returned)),
  (10, [], (.iload_n 2, 11, 2, [], .returned)),
  (11, [], (.iload_n 3, 12, 3, [], .returned)),
  (12, [1352, 1355, 1354, 62, 102], (.invokevirtual 256, 15, 0, [2, 10, 0, 0], .code yX10_isAt cX10_isAt 3 (some .boolean))),
  (15, [], (.ifCond .eq 21, 18, 36, [], .returned)),
  (18, [], (.aload_n 0, 19, 0, [], .returned)),
  (19, [1061], (.getfield 17, 22, 10, [12, 2], .returned)),
  (22, [], (.bipush 51, 24, 0, [], .constant "" 0 (51))),
  (24, [], (.iload_n 2, 25, 2, [], .returned)),
  (25, [], (.iadd, 26, 0, [], .returned)),
  (26, [], (.iaload, 27, 0, [], .returned)),
  (27, [], (.iload 4, 29, 4, [], .returned)),
  (29, [], (.if_icmp .ne 7, 32, 36, [], .returned)),
  (32, [], (.iconst 1, 33, 0, [], .constant "" 0 (1))),
  (33, [], (.goto 4, 36, 37, [], .returned)),
  (36, [], (.iconst 0, 37, 0, [], .constant "" 0 (0))),
  (37, [], (.ireturn, 38, 1, [], .returned))]
theorem ck_X10_isIn : okT q_X10_isIn t_X10_isIn = true := by decide +kernel
theorem e_X10_isIn_0 : lk t_X10_isIn 0 = some (.aload_n 0, 1, 0, [], .returned) := rfl
theorem e_X10_isIn_1 : lk t_X10_isIn 1 = some (.iload_n 1, 2, 1, [], .returned) := rfl
theorem e_X10_isIn_2 : lk t_X10_isIn 2 = some (.iload_n 2, 3, 2, [], .returned) := rfl
theorem e_X10_isIn_3 : lk t_X10_isIn 3 = some (.invokevirtual 239, 6, 0, [2, 10, 0, 0], .code yX10_isLive cX10_isLive 3 (some .boolean)) := rfl
theorem e_X10_isIn_6 : lk t_X10_isIn 6 = some (.ifCond .eq 30, 9, 36, [], .returned) := rfl
theorem e_X10_isIn_9 : lk t_X10_isIn 9 = some (.aload_n 0, 10, 0, [], .returned) := rfl
theorem e_X10_isIn_10 : lk t_X10_isIn 10 = some (.iload_n 2, 11, 2, [], .returned) := rfl
theorem e_X10_isIn_11 : lk t_X10_isIn 11 = some (.iload_n 3, 12, 3, [], .returned) := rfl
theorem e_X10_isIn_12 : lk t_X10_isIn 12 = some (.invokevirtual 256, 15, 0, [2, 10, 0, 0], .code yX10_isAt cX10_isAt 3 (some .boolean)) := rfl
theorem e_X10_isIn_15 : lk t_X10_isIn 15 = some (.ifCond .eq 21, 18, 36, [], .returned) := rfl
theorem e_X10_isIn_18 : lk t_X10_isIn 18 = some (.aload_n 0, 19, 0, [], .returned) := rfl
theorem e_X10_isIn_19 : lk t_X10_isIn 19 = some (.getfield 17, 22, 10, [12, 2], .returned) := rfl
theorem e_X10_isIn_22 : lk t_X10_isIn 22 = some (.bipush 51, 24, 0, [], .constant "" 0 (51)) := rfl
theorem e_X10_isIn_24 : lk t_X10_isIn 24 = some (.iload_n 2, 25, 2, [], .returned) := rfl
theorem e_X10_isIn_25 : lk t_X10_isIn 25 = some (.iadd, 26, 0, [], .returned) := rfl
theorem e_X10_isIn_26 : lk t_X10_isIn 26 = some (.iaload, 27, 0, [], .returned) := rfl
theorem e_X10_isIn_27 : lk t_X10_isIn 27 = some (.iload 4, 29, 4, [], .returned) := rfl
theorem e_X10_isIn_29 : lk t_X10_isIn 29 = some (.if_icmp .ne 7, 32, 36, [], .returned) := rfl
theorem e_X10_isIn_32 : lk t_X10_isIn 32 = some (.iconst 1, 33, 0, [], .constant "" 0 (1)) := rfl
theorem e_X10_isIn_33 : lk t_X10_isIn 33 = some (.goto 4, 36, 37, [], .returned) := rfl
theorem e_X10_isIn_36 : lk t_X10_isIn 36 = some (.iconst 0, 37, 0, [], .constant "" 0 (0)) := rfl
theorem e_X10_isIn_37 : lk t_X10_isIn 37 = some (.ireturn, 38, 1, [], .returned) := rfl
abbrev q_X10_wantOf : MI := (yX10_wantOf, cX10_wantOf, 6, (some .int))
def t_X10_wantOf : Tab := [(0, [], (.aload_n 0, 1, 0, [], .returned)),
  (1, [1067], (.getfield 31, 4, 10, [18, 2], .returned)),
  (4, [], (.iload_n 1, 5, 1, [], .returned)),
  (5, [], (.iload_n 2, 6, 2, [], .returned)),
  (6, [], (.iadd, 7, 0, [], .returned)),
  (7, [], (.iaload, 8, 0, [], .returned)),
  (8, [], (.istore 5, 10, 5, [], .returned)),
  (10, [], (.aload_n 0, 11, 0, [], .returned)),
  (11, [1061], (.getfield 17, 14, 10, [12, 2], .returned)),
  (14, [], (.bipush 69, 16, 0, [], .constant "" 0 (69))),
  (16, [], (.iload_n 2, 17, 2, [], .returned)),
  (17, [], (.iadd, 18, 0, [], .returned)),
  (18, [], (.iaload, 19, 0, [], .returned)),
  (19, [], (.iconst 1, 20, 0, [], .constant "" 0 (1))),
  (20, [], (.if_icmp .ne 32, 23, 52, [], .returned)),
  (23, [], (.iload 5, 25, 5, [], .returned)),
  (25, [], (.aload_n 0, 26, 0, [], .returned)),
  (26, [], (.aload_n 0, 27, 0, [], .returned)),
  (27, [1061], (.getfield 17, 30, 10, [12, 2], .returned)),
  (30, [], (.bipush 75, 32, 0, [], .constant "" 0 (75))),
  (32, [], (.iload_n 2, 33, 2, [], .returned)),
  (33, [], (.iadd, 34, 0, [], .returned)),
  (34, [], (.iaload, 35, 0, [], .returned)),
  (35, [], (.iload 4, 37, 4, [], .returned)),
  (37, [], (.aload_n 0, 38, 0, [], .returned)),
  (38, [1061], (.getfield 17, 41, 10, [12, 2], .returned)),
  (41, [], (.bipush 48, 43, 0, [], .constant "" 0 (48))),
  (43, [], (.iload_n 3, 44, 3, [], .returned)),
  (44, [], (.iadd, 45, 0, [], .returned)),
  (45, [], (.iaload, 46, 0, [], .returned)),
  (46, [1383, 1386, 1385, 66, 102], (.invokevirtual 259, 49, 0, [3, 10, 0, 0], .code yX10_tableOf cX10_tableOf 9 (some .int))),
  (49, [], (.iadd, 50, 0, [], .returned)),
  (50, [], (.istore 5, 52, 5, [], .returned)),
  (52, [], (.aload_n 0, 53, 0, [], .returned)),
  (53, [1061], (.getfield 17, 56, 10, [12, 2], .returned)),
  (56, [], (.bipush 69, 58, 0, [], .constant "" 0 (69))),
  (58, [], (.iload_n 2, 59, 2, [], .returned)),
  (59, [], (.iadd, 60, 0, [], .returned)),
  (60, [], (.iaload, 61, 0, [], .returned)),
  (61, [], (.iconst 2, 62, 0, [], .constant "" 0 (2))),
  (62, [], (.if_icmp .ne 37, 65, 99, [], .returned)),
  (65, [], (.iload 5, 67, 5, [], .returned)),
  (67, [], (.iconst 0, 68, 0, [], .constant "" 0 (0))),
  (68, [], (.aload_n 0, 69, 0, [], .returned)),
  (69, [1076], (.getfield 262, 72, 10, [27, 0], .returned)),
  (72, [], (.aload_n 0, 73, 0, [], .returned)),
  (73, [], (.iload_n 3, 74, 3, [], .returned)),
  (74, [], (.iload 4, 76, 4, [], .returned)),
  (76, [1402, 1405, 1404, 68, 102], (.invokevirtual 253, 79, 0, [2, 10, 0, 0], .code yX10_floorOf cX10_floorOf 3 (some .int))),
  (79, [], (.isub, 80, 0, [], .returned)),
  (80, [1406, 1408, 1407, 102], (.invokestatic 250, 83, 0, [2, 0, 0], .code yX10_greater cX10_greater 2 (some .int))),
  (83, [], (.aload_n 0, 84, 0, [], .returned)),
  (84, [1061], (.getfield 17, 87, 10, [12, 2], .returned)),
  (87, [], (.bipush 75, 89, 0, [], .constant "" 0 (75))),
  (89, [], (.iload_n 2, 90, 2, [], .returned)),
  (90, [], (.iadd, 91, 0, [], .returned)),
  (91, [], (.iaload, 92, 0, [], .returned)),
  (92, [], (.imul, 93, 0, [], .returned)),
  (93, [], (.bipush 100, 95, 0, [], .constant "" 0 (100))),
  (95, [], (.idiv, 96, 0, [], .returned)),
  (96, [], (.iadd, 97, 0, [], .returned)),
  (97, [], (.istore 5, 99, 5, [], .returned)),
  (99, [], (.iload 5, 101, 5, [], .returned)),
  (101, [], (.aload_n 0, 102, 0, [], .returned)),
  (102, [], (.iload_n 1, 103, 1, [], .returned)),
  (103, [], (.iload_n 2, 104, 2, [], .returned)),
  (104, [1347, 1350, 1349, 61, 102], (.invokevirtual 236, 107, 0, [2, 10, 0, 0], .code yX10_restOf cX10_restOf 3 (some .int))),
  (107, [1391, 1393, 1392, 102], (.invokestatic 243, 110, 0, [2, 0, 0], .code yX10_lesser cX10_lesser 2 (some .int))),
  (110, [], (.ireturn, 111, 0, [], .returned))]
theorem ck_X10_wantOf : okT q_X10_wantOf t_X10_wantOf = true := by decide +kernel
theorem e_X10_wantOf_0 : lk t_X10_wantOf 0 = some (.aload_n 0, 1, 0, [], .returned) := rfl
theorem e_X10_wantOf_1 : lk t_X10_wantOf 1 = some (.getfield 31, 4, 10, [18, 2], .returned) := rfl
theorem e_X10_wantOf_4 : lk t_X10_wantOf 4 = some (.iload_n 1, 5, 1, [], .returned) := rfl
theorem e_X10_wantOf_5 : lk t_X10_wantOf 5 = some (.iload_n 2, 6, 2, [], .returned) := rfl
theorem e_X10_wantOf_6 : lk t_X10_wantOf 6 = some (.iadd, 7, 0, [], .returned) := rfl
theorem e_X10_wantOf_7 : lk t_X10_wantOf 7 = some (.iaload, 8, 0, [], .returned) := rfl
theorem e_X10_wantOf_8 : lk t_X10_wantOf 8 = some (.istore 5, 10, 5, [], .returned) := rfl
theorem e_X10_wantOf_10 : lk t_X10_wantOf 10 = some (.aload_n 0, 11, 0, [], .returned) := rfl
theorem e_X10_wantOf_11 : lk t_X10_wantOf 11 = some (.getfield 17, 14, 10, [12, 2], .returned) := rfl
theorem e_X10_wantOf_14 : lk t_X10_wantOf 14 = some (.bipush 69, 16, 0, [], .constant "" 0 (69)) := rfl
theorem e_X10_wantOf_16 : lk t_X10_wantOf 16 = some (.iload_n 2, 17, 2, [], .returned) := rfl
theorem e_X10_wantOf_17 : lk t_X10_wantOf 17 = some (.iadd, 18, 0, [], .returned) := rfl
theorem e_X10_wantOf_18 : lk t_X10_wantOf 18 = some (.iaload, 19, 0, [], .returned) := rfl
theorem e_X10_wantOf_19 : lk t_X10_wantOf 19 = some (.iconst 1, 20, 0, [], .constant "" 0 (1)) := rfl
theorem e_X10_wantOf_20 : lk t_X10_wantOf 20 = some (.if_icmp .ne 32, 23, 52, [], .returned) := rfl
theorem e_X10_wantOf_23 : lk t_X10_wantOf 23 = some (.iload 5, 25, 5, [], .returned) := rfl
theorem e_X10_wantOf_25 : lk t_X10_wantOf 25 = some (.aload_n 0, 26, 0, [], .returned) := rfl
theorem e_X10_wantOf_26 : lk t_X10_wantOf 26 = some (.aload_n 0, 27, 0, [], .returned) := rfl
theorem e_X10_wantOf_27 : lk t_X10_wantOf 27 = some (.getfield 17, 30, 10, [12, 2], .returned) := rfl
theorem e_X10_wantOf_30 : lk t_X10_wantOf 30 = some (.bipush 75, 32, 0, [], .constant "" 0 (75)) := rfl
theorem e_X10_wantOf_32 : lk t_X10_wantOf 32 = some (.iload_n 2, 33, 2, [], .returned) := rfl
theorem e_X10_wantOf_33 : lk t_X10_wantOf 33 = some (.iadd, 34, 0, [], .returned) := rfl
theorem e_X10_wantOf_34 : lk t_X10_wantOf 34 = some (.iaload, 35, 0, [], .returned) := rfl
theorem e_X10_wantOf_35 : lk t_X10_wantOf 35 = some (.iload 4, 37, 4, [], .returned) := rfl
theorem e_X10_wantOf_37 : lk t_X10_wantOf 37 = some (.aload_n 0, 38, 0, [], .returned) := rfl
theorem e_X10_wantOf_38 : lk t_X10_wantOf 38 = some (.getfield 17, 41, 10, [12, 2], .returned) := rfl
theorem e_X10_wantOf_41 : lk t_X10_wantOf 41 = some (.bipush 48, 43, 0, [], .constant "" 0 (48)) := rfl
theorem e_X10_wantOf_43 : lk t_X10_wantOf 43 = some (.iload_n 3, 44, 3, [], .returned) := rfl
theorem e_X10_wantOf_44 : lk t_X10_wantOf 44 = some (.iadd, 45, 0, [], .returned) := rfl
theorem e_X10_wantOf_45 : lk t_X10_wantOf 45 = some (.iaload, 46, 0, [], .returned) := rfl
theorem e_X10_wantOf_46 : lk t_X10_wantOf 46 = some (.invokevirtual 259, 49, 0, [3, 10, 0, 0], .code yX10_tableOf cX10_tableOf 9 (some .int)) := rfl
theorem e_X10_wantOf_49 : lk t_X10_wantOf 49 = some (.iadd, 50, 0, [], .returned) := rfl
theorem e_X10_wantOf_50 : lk t_X10_wantOf 50 = some (.istore 5, 52, 5, [], .returned) := rfl
theorem e_X10_wantOf_52 : lk t_X10_wantOf 52 = some (.aload_n 0, 53, 0, [], .returned) := rfl
theorem e_X10_wantOf_53 : lk t_X10_wantOf 53 = some (.getfield 17, 56, 10, [12, 2], .returned) := rfl
theorem e_X10_wantOf_56 : lk t_X10_wantOf 56 = some (.bipush 69, 58, 0, [], .constant "" 0 (69)) := rfl
theorem e_X10_wantOf_58 : lk t_X10_wantOf 58 = some (.iload_n 2, 59, 2, [], .returned) := rfl
theorem e_X10_wantOf_59 : lk t_X10_wantOf 59 = some (.iadd, 60, 0, [], .returned) := rfl
theorem e_X10_wantOf_60 : lk t_X10_wantOf 60 = some (.iaload, 61, 0, [], .returned) := rfl
theorem e_X10_wantOf_61 : lk t_X10_wantOf 61 = some (.iconst 2, 62, 0, [], .constant "" 0 (2)) := rfl
theorem e_X10_wantOf_62 : lk t_X10_wantOf 62 = some (.if_icmp .ne 37, 65, 99, [], .returned) := rfl
theorem e_X10_wantOf_65 : lk t_X10_wantOf 65 = some (.iload 5, 67, 5, [], .returned) := rfl
theorem e_X10_wantOf_67 : lk t_X10_wantOf 67 = some (.iconst 0, 68, 0, [], .constant "" 0 (0)) := rfl
theorem e_X10_wantOf_68 : lk t_X10_wantOf 68 = some (.aload_n 0, 69, 0, [], .returned) := rfl
theorem e_X10_wantOf_69 : lk t_X10_wantOf 69 = some (.getfield 262, 72, 10, [27, 0], .returned) := rfl
theorem e_X10_wantOf_72 : lk t_X10_wantOf 72 = some (.aload_n 0, 73, 0, [], .returned) := rfl
theorem e_X10_wantOf_73 : lk t_X10_wantOf 73 = some (.iload_n 3, 74, 3, [], .returned) := rfl
theorem e_X10_wantOf_74 : lk t_X10_wantOf 74 = some (.iload 4, 76, 4, [], .returned) := rfl
theorem e_X10_wantOf_76 : lk t_X10_wantOf 76 = some (.invokevirtual 253, 79, 0, [2, 10, 0, 0], .code yX10_floorOf cX10_floorOf 3 (some .int)) := rfl
theorem e_X10_wantOf_79 : lk t_X10_wantOf 79 = some (.isub, 80, 0, [], .returned) := rfl
theorem e_X10_wantOf_80 : lk t_X10_wantOf 80 = some (.invokestatic 250, 83, 0, [2, 0, 0], .code yX10_greater cX10_greater 2 (some .int)) := rfl
theorem e_X10_wantOf_83 : lk t_X10_wantOf 83 = some (.aload_n 0, 84, 0, [], .returned) := rfl
theorem e_X10_wantOf_84 : lk t_X10_wantOf 84 = some (.getfield 17, 87, 10, [12, 2], .returned) := rfl
theorem e_X10_wantOf_87 : lk t_X10_wantOf 87 = some (.bipush 75, 89, 0, [], .constant "" 0 (75)) := rfl
theorem e_X10_wantOf_89 : lk t_X10_wantOf 89 = some (.iload_n 2, 90, 2, [], .returned) := rfl
theorem e_X10_wantOf_90 : lk t_X10_wantOf 90 = some (.iadd, 91, 0, [], .returned) := rfl
theorem e_X10_wantOf_91 : lk t_X10_wantOf 91 = some (.iaload, 92, 0, [], .returned) := rfl
theorem e_X10_wantOf_92 : lk t_X10_wantOf 92 = some (.imul, 93, 0, [], .returned) := rfl
theorem e_X10_wantOf_93 : lk t_X10_wantOf 93 = some (.bipush 100, 95, 0, [], .constant "" 0 (100)) := rfl
theorem e_X10_wantOf_95 : lk t_X10_wantOf 95 = some (.idiv, 96, 0, [], .returned) := rfl
theorem e_X10_wantOf_96 : lk t_X10_wantOf 96 = some (.iadd, 97, 0, [], .returned) := rfl
theorem e_X10_wantOf_97 : lk t_X10_wantOf 97 = some (.istore 5, 99, 5, [], .returned) := rfl
theorem e_X10_wantOf_99 : lk t_X10_wantOf 99 = some (.iload 5, 101, 5, [], .returned) := rfl
theorem e_X10_wantOf_101 : lk t_X10_wantOf 101 = some (.aload_n 0, 102, 0, [], .returned) := rfl
theorem e_X10_wantOf_102 : lk t_X10_wantOf 102 = some (.iload_n 1, 103, 1, [], .returned) := rfl
theorem e_X10_wantOf_103 : lk t_X10_wantOf 103 = some (.iload_n 2, 104, 2, [], .returned) := rfl
theorem e_X10_wantOf_104 : lk t_X10_wantOf 104 = some (.invokevirtual 236, 107, 0, [2, 10, 0, 0], .code yX10_restOf cX10_restOf 3 (some .int)) := rfl
theorem e_X10_wantOf_107 : lk t_X10_wantOf 107 = some (.invokestatic 243, 110, 0, [2, 0, 0], .code yX10_lesser cX10_lesser 2 (some .int)) := rfl
theorem e_X10_wantOf_110 : lk t_X10_wantOf 110 = some (.ireturn, 111, 0, [], .returned) := rfl
abbrev q_X10_shares : MI := (yX10_shares, cX10_shares, 7, (some .boolean))
def t_X10_shares : Tab := [(0, [], (.aload_n 0, 1, 0, [], .returned)),
  (1, [], (.iload_n 1, 2, 1, [], .returned)),
  (2, [], (.iload_n 2, 3, 2, [], .returned)),
  (3, [], (.iload_n 3, 4, 3, [], .returned)),
  (4, [], (.iload 5, 6, 5, [], .returned)),
  (6, [1441, 1444, 1443, 73, 102], (.invokevirtual 265, 9, 0, [4, 10, 0, 0], .code yX10_isIn cX10_isIn 5 (some .boolean))),
  (9, [], (.ifCond .eq 35, 12, 44, [], .returned)),
  (12, [], (.aload_n 0, 13, 0, [], .returned)),
  (13, [], (.iload_n 2, 14, 2, [], .returned)),
  (14, [], (.iload_n 3, 15, 3, [], .returned)),
  (15, [], (.iload 4, 17, 4, [], .returned)),
  (17, [1413, 1416, 1415, 69, 102], (.invokevirtual 269, 20, 0, [3, 10, 0, 0], .code yX10_ownFloorOf cX10_ownFloorOf 4 (some .int))),
  (20, [], (.iload 6, 22, 6, [], .returned)),
  (22, [], (.if_icmp .gt 22, 25, 44, [], .returned)),
  (25, [], (.aload_n 0, 26, 0, [], .returned)),
  (26, [1075], (.getfield 53, 29, 10, [26, 2], .returned)),
  (29, [], (.iload_n 2, 30, 2, [], .returned)),
  (30, [], (.iaload, 31, 0, [], .returned)),
  (31, [], (.aload_n 0, 32, 0, [], .returned)),
  (32, [1074], (.getfield 50, 35, 10, [25, 2], .returned)),
  (35, [], (.iload_n 2, 36, 2, [], .returned)),
  (36, [], (.iaload, 37, 0, [], .returned)),
  (37, [], (.if_icmp .ge 7, 40, 44, [], .returned)),
  (40, [], (.iconst 1, 41, 0, [], .constant "" 0 (1))),
  (41, [], (.goto 4, 44, 45, [], .returned)),
  (44, [], (.iconst 0, 45, 0, [], .constant "" 0 (0))),
  (45, [], (.ireturn, 46, 1, [], .returned))]
theorem ck_X10_shares : okT q_X10_shares t_X10_shares = true := by decide +kernel
theorem e_X10_shares_0 : lk t_X10_shares 0 = some (.aload_n 0, 1, 0, [], .returned) := rfl
theorem e_X10_shares_1 : lk t_X10_shares 1 = some (.iload_n 1, 2, 1, [], .returned) := rfl
theorem e_X10_shares_2 : lk t_X10_shares 2 = some (.iload_n 2, 3, 2, [], .returned) := rfl
theorem e_X10_shares_3 : lk t_X10_shares 3 = some (.iload_n 3, 4, 3, [], .returned) := rfl
theorem e_X10_shares_4 : lk t_X10_shares 4 = some (.iload 5, 6, 5, [], .returned) := rfl
theorem e_X10_shares_6 : lk t_X10_shares 6 = some (.invokevirtual 265, 9, 0, [4, 10, 0, 0], .code yX10_isIn cX10_isIn 5 (some .boolean)) := rfl
theorem e_X10_shares_9 : lk t_X10_shares 9 = some (.ifCond .eq 35, 12, 44, [], .returned) := rfl
theorem e_X10_shares_12 : lk t_X10_shares 12 = some (.aload_n 0, 13, 0, [], .returned) := rfl
theorem e_X10_shares_13 : lk t_X10_shares 13 = some (.iload_n 2, 14, 2, [], .returned) := rfl
theorem e_X10_shares_14 : lk t_X10_shares 14 = some (.iload_n 3, 15, 3, [], .returned) := rfl
theorem e_X10_shares_15 : lk t_X10_shares 15 = some (.iload 4, 17, 4, [], .returned) := rfl
theorem e_X10_shares_17 : lk t_X10_shares 17 = some (.invokevirtual 269, 20, 0, [3, 10, 0, 0], .code yX10_ownFloorOf cX10_ownFloorOf 4 (some .int)) := rfl
theorem e_X10_shares_20 : lk t_X10_shares 20 = some (.iload 6, 22, 6, [], .returned) := rfl
theorem e_X10_shares_22 : lk t_X10_shares 22 = some (.if_icmp .gt 22, 25, 44, [], .returned) := rfl
theorem e_X10_shares_25 : lk t_X10_shares 25 = some (.aload_n 0, 26, 0, [], .returned) := rfl
theorem e_X10_shares_26 : lk t_X10_shares 26 = some (.getfield 53, 29, 10, [26, 2], .returned) := rfl
theorem e_X10_shares_29 : lk t_X10_shares 29 = some (.iload_n 2, 30, 2, [], .returned) := rfl
theorem e_X10_shares_30 : lk t_X10_shares 30 = some (.iaload, 31, 0, [], .returned) := rfl
theorem e_X10_shares_31 : lk t_X10_shares 31 = some (.aload_n 0, 32, 0, [], .returned) := rfl
theorem e_X10_shares_32 : lk t_X10_shares 32 = some (.getfield 50, 35, 10, [25, 2], .returned) := rfl
theorem e_X10_shares_35 : lk t_X10_shares 35 = some (.iload_n 2, 36, 2, [], .returned) := rfl
theorem e_X10_shares_36 : lk t_X10_shares 36 = some (.iaload, 37, 0, [], .returned) := rfl
theorem e_X10_shares_37 : lk t_X10_shares 37 = some (.if_icmp .ge 7, 40, 44, [], .returned) := rfl
theorem e_X10_shares_40 : lk t_X10_shares 40 = some (.iconst 1, 41, 0, [], .constant "" 0 (1)) := rfl
theorem e_X10_shares_41 : lk t_X10_shares 41 = some (.goto 4, 44, 45, [], .returned) := rfl
theorem e_X10_shares_44 : lk t_X10_shares 44 = some (.iconst 0, 45, 0, [], .constant "" 0 (0)) := rfl
theorem e_X10_shares_45 : lk t_X10_shares 45 = some (.ireturn, 46, 1, [], .returned) := rfl
abbrev q_X10_sharers : MI := (yX10_sharers, cX10_sharers, 8, (some .int))
def t_X10_sharers : Tab := [(0, [], (.iconst 0, 1, 0, [], .constant "" 0 (0))),
  (1, [], (.istore 6, 3, 6, [], .returned)),
  (3, [], (.iconst 0, 4, 0, [], .constant "" 0 (0))),
  (4, [], (.istore 7, 6, 7, [], .returned)),
  (6, [], (.iload 7, 8, 7, [], .returned)),
  (8, [], (.aload_n 0, 9, 0, [], .returned)),
  (9, [1061], (.getfield 17, 12, 10, [12, 2], .returned)),
  (12, [], (.iconst 5, 13, 0, [], .constant "" 0 (5))),
  (13, [], (.iaload, 14, 0, [], .returned)),
  (14, [], (.if_icmp .ge 35, 17, 49, [], .returned)),
  (17, [], (.iload 6, 19, 6, [], .returned)),
  (19, [], (.aload_n 0, 20, 0, [], .returned)),
  (20, [], (.iload_n 1, 21, 1, [], .returned)),
  (21, [], (.iload 7, 23, 7, [], .returned)),
  (23, [], (.iload_n 2, 24, 2, [], .returned)),
  (24, [], (.iload_n 3, 25, 3, [], .returned)),
  (25, [], (.iload 4, 27, 4, [], .returned)),
  (27, [], (.iload 5, 29, 5, [], .returned)),
  (29, [1461, 1464, 1463, 78, 102], (.invokevirtual 272, 32, 0, [6, 10, 0, 0], .code yX10_shares cX10_shares 7 (some .boolean))),
  (32, [], (.ifCond .eq 7, 35, 39, [], .returned)),
  (35, [], (.iconst 1, 36, 0, [], .constant "" 0 (1))),
  (36, [], (.goto 4, 39, 40, [], .returned)),
  (39, [], (.iconst 0, 40, 0, [], .constant "" 0 (0))),
  (40, [], (.iadd, 41, 0, [], .returned)),
  (41, [], (.istore 6, 43, 6, [], .returned)),
  (43, [], (.iinc 7 1, 46, 7, [], .constant "" 0 (1))),
  (46, [], (.goto (-40), 49, 6, [], .returned)),
  (49, [], (.iload 6, 51, 6, [], .returned)),
  (51, [], (.ireturn, 52, 0, [], .returned))]
theorem ck_X10_sharers : okT q_X10_sharers t_X10_sharers = true := by decide +kernel
theorem e_X10_sharers_0 : lk t_X10_sharers 0 = some (.iconst 0, 1, 0, [], .constant "" 0 (0)) := rfl
theorem e_X10_sharers_1 : lk t_X10_sharers 1 = some (.istore 6, 3, 6, [], .returned) := rfl
theorem e_X10_sharers_3 : lk t_X10_sharers 3 = some (.iconst 0, 4, 0, [], .constant "" 0 (0)) := rfl
theorem e_X10_sharers_4 : lk t_X10_sharers 4 = some (.istore 7, 6, 7, [], .returned) := rfl
theorem e_X10_sharers_6 : lk t_X10_sharers 6 = some (.iload 7, 8, 7, [], .returned) := rfl
theorem e_X10_sharers_8 : lk t_X10_sharers 8 = some (.aload_n 0, 9, 0, [], .returned) := rfl
theorem e_X10_sharers_9 : lk t_X10_sharers 9 = some (.getfield 17, 12, 10, [12, 2], .returned) := rfl
theorem e_X10_sharers_12 : lk t_X10_sharers 12 = some (.iconst 5, 13, 0, [], .constant "" 0 (5)) := rfl
theorem e_X10_sharers_13 : lk t_X10_sharers 13 = some (.iaload, 14, 0, [], .returned) := rfl
theorem e_X10_sharers_14 : lk t_X10_sharers 14 = some (.if_icmp .ge 35, 17, 49, [], .returned) := rfl
theorem e_X10_sharers_17 : lk t_X10_sharers 17 = some (.iload 6, 19, 6, [], .returned) := rfl
theorem e_X10_sharers_19 : lk t_X10_sharers 19 = some (.aload_n 0, 20, 0, [], .returned) := rfl
theorem e_X10_sharers_20 : lk t_X10_sharers 20 = some (.iload_n 1, 21, 1, [], .returned) := rfl
theorem e_X10_sharers_21 : lk t_X10_sharers 21 = some (.iload 7, 23, 7, [], .returned) := rfl
theorem e_X10_sharers_23 : lk t_X10_sharers 23 = some (.iload_n 2, 24, 2, [], .returned) := rfl
theorem e_X10_sharers_24 : lk t_X10_sharers 24 = some (.iload_n 3, 25, 3, [], .returned) := rfl
theorem e_X10_sharers_25 : lk t_X10_sharers 25 = some (.iload 4, 27, 4, [], .returned) := rfl
theorem e_X10_sharers_27 : lk t_X10_sharers 27 = some (.iload 5, 29, 5, [], .returned) := rfl
theorem e_X10_sharers_29 : lk t_X10_sharers 29 = some (.invokevirtual 272, 32, 0, [6, 10, 0, 0], .code yX10_shares cX10_shares 7 (some .boolean)) := rfl
theorem e_X10_sharers_32 : lk t_X10_sharers 32 = some (.ifCond .eq 7, 35, 39, [], .returned) := rfl
theorem e_X10_sharers_35 : lk t_X10_sharers 35 = some (.iconst 1, 36, 0, [], .constant "" 0 (1)) := rfl
theorem e_X10_sharers_36 : lk t_X10_sharers 36 = some (.goto 4, 39, 40, [], .returned) := rfl
theorem e_X10_sharers_39 : lk t_X10_sharers 39 = some (.iconst 0, 40, 0, [], .constant "" 0 (0)) := rfl
theorem e_X10_sharers_40 : lk t_X10_sharers 40 = some (.iadd, 41, 0, [], .returned) := rfl
theorem e_X10_sharers_41 : lk t_X10_sharers 41 = some (.istore 6, 43, 6, [], .returned) := rfl
theorem e_X10_sharers_43 : lk t_X10_sharers 43 = some (.iinc 7 1, 46, 7, [], .constant "" 0 (1)) := rfl
theorem e_X10_sharers_46 : lk t_X10_sharers 46 = some (.goto (-40), 49, 6, [], .returned) := rfl
theorem e_X10_sharers_49 : lk t_X10_sharers 49 = some (.iload 6, 51, 6, [], .returned) := rfl
theorem e_X10_sharers_51 : lk t_X10_sharers 51 = some (.ireturn, 52, 0, [], .returned) := rfl
abbrev q_X10_wantedYet : MI := (yX10_wantedYet, cX10_wantedYet, 8, (some .int))
def t_X10_wantedYet : Tab := [(0, [], (.iconst 0, 1, 0, [], .constant "" 0 (0))),
  (1, [], (.istore 6, 3, 6, [], .returned)),
  (3, [], (.iconst 0, 4, 0, [], .constant "" 0 (0))),
  (4, [], (.istore 7, 6, 7, [], .returned)),
  (6, [], (.iload 7, 8, 7, [], .returned)),
  (8, [], (.aload_n 0, 9, 0, [], .returned)),
  (9, [1061], (.getfield 17, 12, 10, [12, 2], .returned)),
  (12, [], (.iconst 5, 13, 0, [], .constant "" 0 (5))),
  (13, [], (.iaload, 14, 0, [], .returned)),
  (14, [], (.if_icmp .ge 49, 17, 63, [], .returned)),
  (17, [], (.iload 6, 19, 6, [], .returned)),
  (19, [], (.aload_n 0, 20, 0, [], .returned)),
  (20, [], (.iload_n 1, 21, 1, [], .returned)),
  (21, [], (.iload 7, 23, 7, [], .returned)),
  (23, [], (.iload_n 2, 24, 2, [], .returned)),
  (24, [], (.iload_n 3, 25, 3, [], .returned)),
  (25, [], (.iload 4, 27, 4, [], .returned)),
  (27, [], (.iload 5, 29, 5, [], .returned)),
  (29, [1461, 1464, 1463, 78, 102], (.invokevirtual 272, 32, 0, [6, 10, 0, 0], .code yX10_shares cX10_shares 7 (some .boolean))),
  (32, [], (.ifCond .eq 21, 35, 53, [], .returned)),
  (35, [], (.aload_n 0, 36, 0, [], .returned)),
  (36, [1074], (.getfield 50, 39, 10, [25, 2], .returned)),
  (39, [], (.iload 7, 41, 7, [], .returned)),
  (41, [], (.iaload, 42, 0, [], .returned)),
  (42, [], (.aload_n 0, 43, 0, [], .returned)),
  (43, [1075], (.getfield 53, 46, 10, [26, 2], .returned)),
  (46, [], (.iload 7, 48, 7, [], .returned)),
  (48, [], (.iaload, 49, 0, [], .returned)),
  (49, [], (.isub, 50, 0, [], .returned)),
  (50, [], (.goto 4, 53, 54, [], .returned)),
  (53, [], (.iconst 0, 54, 0, [], .constant "" 0 (0))),
  (54, [], (.iadd, 55, 0, [], .returned)),
  (55, [], (.istore 6, 57, 6, [], .returned)),
  (57, [], (.iinc 7 1, 60, 7, [], .constant "" 0 (1))),
  (60, [], (.goto (-54), 63, 6, [], .returned)),
  (63, [], (.iload 6, 65, 6, [], .returned)),
  (65, [], (.ireturn, 66, 0, [], .returned))]
theorem ck_X10_wantedYet : okT q_X10_wantedYet t_X10_wantedYet = true := by decide +kernel
theorem e_X10_wantedYet_0 : lk t_X10_wantedYet 0 = some (.iconst 0, 1, 0, [], .constant "" 0 (0)) := rfl
theorem e_X10_wantedYet_1 : lk t_X10_wantedYet 1 = some (.istore 6, 3, 6, [], .returned) := rfl
theorem e_X10_wantedYet_3 : lk t_X10_wantedYet 3 = some (.iconst 0, 4, 0, [], .constant "" 0 (0)) := rfl
theorem e_X10_wantedYet_4 : lk t_X10_wantedYet 4 = some (.istore 7, 6, 7, [], .returned) := rfl
theorem e_X10_wantedYet_6 : lk t_X10_wantedYet 6 = some (.iload 7, 8, 7, [], .returned) := rfl
theorem e_X10_wantedYet_8 : lk t_X10_wantedYet 8 = some (.aload_n 0, 9, 0, [], .returned) := rfl
theorem e_X10_wantedYet_9 : lk t_X10_wantedYet 9 = some (.getfield 17, 12, 10, [12, 2], .returned) := rfl
theorem e_X10_wantedYet_12 : lk t_X10_wantedYet 12 = some (.iconst 5, 13, 0, [], .constant "" 0 (5)) := rfl
theorem e_X10_wantedYet_13 : lk t_X10_wantedYet 13 = some (.iaload, 14, 0, [], .returned) := rfl
theorem e_X10_wantedYet_14 : lk t_X10_wantedYet 14 = some (.if_icmp .ge 49, 17, 63, [], .returned) := rfl
theorem e_X10_wantedYet_17 : lk t_X10_wantedYet 17 = some (.iload 6, 19, 6, [], .returned) := rfl
theorem e_X10_wantedYet_19 : lk t_X10_wantedYet 19 = some (.aload_n 0, 20, 0, [], .returned) := rfl
theorem e_X10_wantedYet_20 : lk t_X10_wantedYet 20 = some (.iload_n 1, 21, 1, [], .returned) := rfl
theorem e_X10_wantedYet_21 : lk t_X10_wantedYet 21 = some (.iload 7, 23, 7, [], .returned) := rfl
theorem e_X10_wantedYet_23 : lk t_X10_wantedYet 23 = some (.iload_n 2, 24, 2, [], .returned) := rfl
theorem e_X10_wantedYet_24 : lk t_X10_wantedYet 24 = some (.iload_n 3, 25, 3, [], .returned) := rfl
theorem e_X10_wantedYet_25 : lk t_X10_wantedYet 25 = some (.iload 4, 27, 4, [], .returned) := rfl
theorem e_X10_wantedYet_27 : lk t_X10_wantedYet 27 = some (.iload 5, 29, 5, [], .returned) := rfl
theorem e_X10_wantedYet_29 : lk t_X10_wantedYet 29 = some (.invokevirtual 272, 32, 0, [6, 10, 0, 0], .code yX10_shares cX10_shares 7 (some .boolean)) := rfl
theorem e_X10_wantedYet_32 : lk t_X10_wantedYet 32 = some (.ifCond .eq 21, 35, 53, [], .returned) := rfl
theorem e_X10_wantedYet_35 : lk t_X10_wantedYet 35 = some (.aload_n 0, 36, 0, [], .returned) := rfl
theorem e_X10_wantedYet_36 : lk t_X10_wantedYet 36 = some (.getfield 50, 39, 10, [25, 2], .returned) := rfl
theorem e_X10_wantedYet_39 : lk t_X10_wantedYet 39 = some (.iload 7, 41, 7, [], .returned) := rfl
theorem e_X10_wantedYet_41 : lk t_X10_wantedYet 41 = some (.iaload, 42, 0, [], .returned) := rfl
theorem e_X10_wantedYet_42 : lk t_X10_wantedYet 42 = some (.aload_n 0, 43, 0, [], .returned) := rfl
theorem e_X10_wantedYet_43 : lk t_X10_wantedYet 43 = some (.getfield 53, 46, 10, [26, 2], .returned) := rfl
theorem e_X10_wantedYet_46 : lk t_X10_wantedYet 46 = some (.iload 7, 48, 7, [], .returned) := rfl
theorem e_X10_wantedYet_48 : lk t_X10_wantedYet 48 = some (.iaload, 49, 0, [], .returned) := rfl
theorem e_X10_wantedYet_49 : lk t_X10_wantedYet 49 = some (.isub, 50, 0, [], .returned) := rfl
theorem e_X10_wantedYet_50 : lk t_X10_wantedYet 50 = some (.goto 4, 53, 54, [], .returned) := rfl
theorem e_X10_wantedYet_53 : lk t_X10_wantedYet 53 = some (.iconst 0, 54, 0, [], .constant "" 0 (0)) := rfl
theorem e_X10_wantedYet_54 : lk t_X10_wantedYet 54 = some (.iadd, 55, 0, [], .returned) := rfl
theorem e_X10_wantedYet_55 : lk t_X10_wantedYet 55 = some (.istore 6, 57, 6, [], .returned) := rfl
theorem e_X10_wantedYet_57 : lk t_X10_wantedYet 57 = some (.iinc 7 1, 60, 7, [], .constant "" 0 (1)) := rfl
theorem e_X10_wantedYet_60 : lk t_X10_wantedYet 60 = some (.goto (-54), 63, 6, [], .returned) := rfl
theorem e_X10_wantedYet_63 : lk t_X10_wantedYet 63 = some (.iload 6, 65, 6, [], .returned) := rfl
theorem e_X10_wantedYet_65 : lk t_X10_wantedYet 65 = some (.ireturn, 66, 0, [], .returned) := rfl
abbrev q_X10_gives : MI := (yX10_gives, cX10_gives, 3, none)
def t_X10_gives : Tab := [(0, [], (.aload_n 0, 1, 0, [], .returned)),
  (1, [1075], (.getfield 53, 4, 10, [26, 2], .returned)),
  (4, [], (.iload_n 1, 5, 1, [], .returned)),
  (5, [], (.dup2, 6, 0, [], .returned)),
  (6, [], (.iaload, 7, 0, [], .returned)),
  (7, [], (.iload_n 2, 8, 2, [], .returned)),
  (8, [], (.iadd, 9, 0, [], .returned)),
  (9, [], (.iastore, 10, 0, [], .returned)),
  (10, [], (.aload_n 0, 11, 0, [], .returned)),
  (11, [], (.dup, 12, 0, [], .returned)),
  (12, [1076], (.getfield 262, 15, 10, [27, 0], .returned)),
  (15, [], (.iload_n 2, 16, 2, [], .returned)),
  (16, [], (.isub, 17, 0, [], .returned)),
  (17, [1076], (.putfield 262, 20, 10, [27, 0], .returned)),
  (20, [], (.return_, 21, 0, [], .returned))]
theorem ck_X10_gives : okT q_X10_gives t_X10_gives = true := by decide +kernel
theorem e_X10_gives_0 : lk t_X10_gives 0 = some (.aload_n 0, 1, 0, [], .returned) := rfl
theorem e_X10_gives_1 : lk t_X10_gives 1 = some (.getfield 53, 4, 10, [26, 2], .returned) := rfl
theorem e_X10_gives_4 : lk t_X10_gives 4 = some (.iload_n 1, 5, 1, [], .returned) := rfl
theorem e_X10_gives_5 : lk t_X10_gives 5 = some (.dup2, 6, 0, [], .returned) := rfl
theorem e_X10_gives_6 : lk t_X10_gives 6 = some (.iaload, 7, 0, [], .returned) := rfl
theorem e_X10_gives_7 : lk t_X10_gives 7 = some (.iload_n 2, 8, 2, [], .returned) := rfl
theorem e_X10_gives_8 : lk t_X10_gives 8 = some (.iadd, 9, 0, [], .returned) := rfl
theorem e_X10_gives_9 : lk t_X10_gives 9 = some (.iastore, 10, 0, [], .returned) := rfl
theorem e_X10_gives_10 : lk t_X10_gives 10 = some (.aload_n 0, 11, 0, [], .returned) := rfl
theorem e_X10_gives_11 : lk t_X10_gives 11 = some (.dup, 12, 0, [], .returned) := rfl
theorem e_X10_gives_12 : lk t_X10_gives 12 = some (.getfield 262, 15, 10, [27, 0], .returned) := rfl
theorem e_X10_gives_15 : lk t_X10_gives 15 = some (.iload_n 2, 16, 2, [], .returned) := rfl
theorem e_X10_gives_16 : lk t_X10_gives 16 = some (.isub, 17, 0, [], .returned) := rfl
theorem e_X10_gives_17 : lk t_X10_gives 17 = some (.putfield 262, 20, 10, [27, 0], .returned) := rfl
theorem e_X10_gives_20 : lk t_X10_gives 20 = some (.return_, 21, 0, [], .returned) := rfl
abbrev q_X10_ones : MI := (yX10_ones, cX10_ones, 7, none)
def t_X10_ones : Tab := [(0, [], (.iconst 0, 1, 0, [], .constant "" 0 (0))),
  (1, [], (.istore 6, 3, 6, [], .returned)),
  (3, [], (.iload 6, 5, 6, [], .returned)),
  (5, [], (.aload_n 0, 6, 0, [], .returned)),
  (6, [1061], (.getfield 17, 9, 10, [12, 2], .returned)),
  (9, [], (.iconst 5, 10, 0, [], .constant "" 0 (5))),
  (10, [], (.iaload, 11, 0, [], .returned)),
  (11, [], (.if_icmp .ge 41, 14, 52, [], .returned)),
  (14, [], (.aload_n 0, 15, 0, [], .returned)),
  (15, [1076], (.getfield 262, 18, 10, [27, 0], .returned)),
  (18, [], (.iload 5, 20, 5, [], .returned)),
  (20, [], (.if_icmp .le 26, 23, 46, [], .returned)),
  (23, [], (.aload_n 0, 24, 0, [], .returned)),
  (24, [], (.iload_n 1, 25, 1, [], .returned)),
  (25, [], (.iload 6, 27, 6, [], .returned)),
  (27, [], (.iload_n 2, 28, 2, [], .returned)),
  (28, [], (.iload_n 3, 29, 3, [], .returned)),
  (29, [], (.iload 4, 31, 4, [], .returned)),
  (31, [], (.iload 5, 33, 5, [], .returned)),
  (33, [1461, 1464, 1463, 78, 102], (.invokevirtual 272, 36, 0, [6, 10, 0, 0], .code yX10_shares cX10_shares 7 (some .boolean))),
  (36, [], (.ifCond .eq 10, 39, 46, [], .returned)),
  (39, [], (.aload_n 0, 40, 0, [], .returned)),
  (40, [], (.iload 6, 42, 6, [], .returned)),
  (42, [], (.iconst 1, 43, 0, [], .constant "" 0 (1))),
  (43, [1465, 1468, 1467, 79, 102], (.invokevirtual 276, 46, 0, [2, 10, 0, 0], .code yX10_gives cX10_gives 3 none)),
  (46, [], (.iinc 6 1, 49, 6, [], .constant "" 0 (1))),
  (49, [], (.goto (-46), 52, 3, [], .returned)),
  (52, [], (.return_, 53, 0, [], .returned))]
theorem ck_X10_ones : okT q_X10_ones t_X10_ones = true := by decide +kernel
theorem e_X10_ones_0 : lk t_X10_ones 0 = some (.iconst 0, 1, 0, [], .constant "" 0 (0)) := rfl
theorem e_X10_ones_1 : lk t_X10_ones 1 = some (.istore 6, 3, 6, [], .returned) := rfl
theorem e_X10_ones_3 : lk t_X10_ones 3 = some (.iload 6, 5, 6, [], .returned) := rfl
theorem e_X10_ones_5 : lk t_X10_ones 5 = some (.aload_n 0, 6, 0, [], .returned) := rfl
theorem e_X10_ones_6 : lk t_X10_ones 6 = some (.getfield 17, 9, 10, [12, 2], .returned) := rfl
theorem e_X10_ones_9 : lk t_X10_ones 9 = some (.iconst 5, 10, 0, [], .constant "" 0 (5)) := rfl
theorem e_X10_ones_10 : lk t_X10_ones 10 = some (.iaload, 11, 0, [], .returned) := rfl
theorem e_X10_ones_11 : lk t_X10_ones 11 = some (.if_icmp .ge 41, 14, 52, [], .returned) := rfl
theorem e_X10_ones_14 : lk t_X10_ones 14 = some (.aload_n 0, 15, 0, [], .returned) := rfl
theorem e_X10_ones_15 : lk t_X10_ones 15 = some (.getfield 262, 18, 10, [27, 0], .returned) := rfl
theorem e_X10_ones_18 : lk t_X10_ones 18 = some (.iload 5, 20, 5, [], .returned) := rfl
theorem e_X10_ones_20 : lk t_X10_ones 20 = some (.if_icmp .le 26, 23, 46, [], .returned) := rfl
theorem e_X10_ones_23 : lk t_X10_ones 23 = some (.aload_n 0, 24, 0, [], .returned) := rfl
theorem e_X10_ones_24 : lk t_X10_ones 24 = some (.iload_n 1, 25, 1, [], .returned) := rfl
theorem e_X10_ones_25 : lk t_X10_ones 25 = some (.iload 6, 27, 6, [], .returned) := rfl
theorem e_X10_ones_27 : lk t_X10_ones 27 = some (.iload_n 2, 28, 2, [], .returned) := rfl
theorem e_X10_ones_28 : lk t_X10_ones 28 = some (.iload_n 3, 29, 3, [], .returned) := rfl
theorem e_X10_ones_29 : lk t_X10_ones 29 = some (.iload 4, 31, 4, [], .returned) := rfl
theorem e_X10_ones_31 : lk t_X10_ones 31 = some (.iload 5, 33, 5, [], .returned) := rfl
theorem e_X10_ones_33 : lk t_X10_ones 33 = some (.invokevirtual 272, 36, 0, [6, 10, 0, 0], .code yX10_shares cX10_shares 7 (some .boolean)) := rfl
theorem e_X10_ones_36 : lk t_X10_ones 36 = some (.ifCond .eq 10, 39, 46, [], .returned) := rfl
theorem e_X10_ones_39 : lk t_X10_ones 39 = some (.aload_n 0, 40, 0, [], .returned) := rfl
theorem e_X10_ones_40 : lk t_X10_ones 40 = some (.iload 6, 42, 6, [], .returned) := rfl
theorem e_X10_ones_42 : lk t_X10_ones 42 = some (.iconst 1, 43, 0, [], .constant "" 0 (1)) := rfl
theorem e_X10_ones_43 : lk t_X10_ones 43 = some (.invokevirtual 276, 46, 0, [2, 10, 0, 0], .code yX10_gives cX10_gives 3 none) := rfl
theorem e_X10_ones_46 : lk t_X10_ones 46 = some (.iinc 6 1, 49, 6, [], .constant "" 0 (1)) := rfl
theorem e_X10_ones_49 : lk t_X10_ones 49 = some (.goto (-46), 52, 3, [], .returned) := rfl
theorem e_X10_ones_52 : lk t_X10_ones 52 = some (.return_, 53, 0, [], .returned) := rfl
abbrev q_X10_evens : MI := (yX10_evens, cX10_evens, 9, none)
def t_X10_evens : Tab := [(0, [], (.aload_n 0, 1, 0, [], .returned)),
  (1, [], (.iload_n 1, 2, 1, [], .returned)),
  (2, [], (.iload_n 2, 3, 2, [], .returned)),
  (3, [], (.iload_n 3, 4, 3, [], .returned)),
  (4, [], (.iload 4, 6, 4, [], .returned)),
  (6, [], (.iload 5, 8, 5, [], .returned)),
  (8, [1473, 1476, 1475, 81, 102], (.invokevirtual 279, 11, 0, [5, 10, 0, 0], .code yX10_sharers cX10_sharers 8 (some .int))),
  (11, [], (.istore 6, 13, 6, [], .returned)),
  (13, [], (.iload 6, 15, 6, [], .returned)),
  (15, [], (.ifCond .le 105, 18, 120, [], .returned)),
  (18, [], (.aload_n 0, 19, 0, [], .returned)),
  (19, [1076], (.getfield 262, 22, 10, [27, 0], .returned)),
  (22, [], (.iload 5, 24, 5, [], .returned)),
  (24, [], (.isub, 25, 0, [], .returned)),
  (25, [], (.iload 6, 27, 6, [], .returned)),
  (27, [], (.if_icmp .lt 93, 30, 120, [], .returned)),
  (30, [], (.aload_n 0, 31, 0, [], .returned)),
  (31, [1076], (.getfield 262, 34, 10, [27, 0], .returned)),
  (34, [], (.iload 5, 36, 5, [], .returned)),
  (36, [], (.isub, 37, 0, [], .returned)),
  (37, [], (.iload 6, 39, 6, [], .returned)),
  (39, [], (.idiv, 40, 0, [], .returned)),
  (40, [], (.istore 7, 42, 7, [], .returned)),
  (42, [], (.iconst 0, 43, 0, [], .constant "" 0 (0))),
  (43, [], (.istore 8, 45, 8, [], .returned)),
  (45, [], (.iload 8, 47, 8, [], .returned)),
  (47, [], (.aload_n 0, 48, 0, [], .returned)),
  (48, [1061], (.getfield 17, 51, 10, [12, 2], .returned)),
  (51, [], (.iconst 5, 52, 0, [], .constant "" 0 (5))),
  (52, [], (.iaload, 53, 0, [], .returned)),
  (53, [], (.if_icmp .ge 51, 56, 104, [], .returned)),
  (56, [], (.aload_n 0, 57, 0, [], .returned)),
  (57, [], (.iload_n 1, 58, 1, [], .returned)),
  (58, [], (.iload 8, 60, 8, [], .returned)),
  (60, [], (.iload_n 2, 61, 2, [], .returned)),
  (61, [], (.iload_n 3, 62, 3, [], .returned)),
  (62, [], (.iload 4, 64, 4, [], .returned)),
  (64, [], (.iload 5, 66, 5, [], .returned)),
  (66, [1461, 1464, 1463, 78, 102], (.invokevirtual 272, 69, 0, [6, 10, 0, 0], .code yX10_shares cX10_shares 7 (some .boolean))),
  (69, [], (.ifCond .eq 29, 72, 98, [], .returned)),
  (72, [], (.aload_n 0, 73, 0, [], .returned)),
  (73, [], (.iload 8, 75, 8, [], .returned)),
  (75, [], (.iload 7, 77, 7, [], .returned)),
  (77, [], (.aload_n 0, 78, 0, [], .returned)),
  (78, [1074], (.getfield 50, 81, 10, [25, 2], .returned)),
  (81, [], (.iload 8, 83, 8, [], .returned)),
  (83, [], (.iaload, 84, 0, [], .returned)),
  (84, [], (.aload_n 0, 85, 0, [], .returned)),
  (85, [1075], (.getfield 53, 88, 10, [26, 2], .returned)),
  (88, [], (.iload 8, 90, 8, [], .returned)),
  (90, [], (.iaload, 91, 0, [], .returned)),
  (91, [], (.isub, 92, 0, [], .returned)),
  (92, [1391, 1393, 1392, 102], (.invokestatic 243, 95, 0, [2, 0, 0], .code yX10_lesser cX10_lesser 2 (some .int))),
  (95, [1465, 1468, 1467, 79, 102], (.invokevirtual 276, 98, 0, [2, 10, 0, 0], .code yX10_gives cX10_gives 3 none)),
  (98, [], (.iinc 8 1, 101, 8, [], .constant "" 0 (1))),
  (101, [], (.goto (-56), 104, 45, [], .returned)),
  (104, [], (.aload_n 0, 105, 0, [], .returned)),
  (105, [], (.iload_n 1, 106, 1, [], .returned)),
  (106, [], (.iload_n 2, 107, 2, [], .returned)),
  (107, [], (.iload_n 3, 108, 3, [], .returned)),
  (108, [], (.iload 4, 110, 4, [], .returned)),
  (110, [], (.iload 5, 112, 5, [], .returned)),
  (112, [1473, 1476, 1475, 81, 102], (.invokevirtual 279, 115, 0, [5, 10, 0, 0], .code yX10_sharers cX10_sharers 8 (some .int))),
  (115, [], (.istore 6, 117, 6, [], .returned)),
  (117, [], (.goto (-104), 120, 13, [], .returned)),
  (120, [], (.return_, 121, 0, [], .returned))]
theorem ck_X10_evens : okT q_X10_evens t_X10_evens = true := by decide +kernel
theorem e_X10_evens_0 : lk t_X10_evens 0 = some (.aload_n 0, 1, 0, [], .returned) := rfl
theorem e_X10_evens_1 : lk t_X10_evens 1 = some (.iload_n 1, 2, 1, [], .returned) := rfl
theorem e_X10_evens_2 : lk t_X10_evens 2 = some (.iload_n 2, 3, 2, [], .returned) := rfl
theorem e_X10_evens_3 : lk t_X10_evens 3 = some (.iload_n 3, 4, 3, [], .returned) := rfl
theorem e_X10_evens_4 : lk t_X10_evens 4 = some (.iload 4, 6, 4, [], .returned) := rfl
theorem e_X10_evens_6 : lk t_X10_evens 6 = some (.iload 5, 8, 5, [], .returned) := rfl
theorem e_X10_evens_8 : lk t_X10_evens 8 = some (.invokevirtual 279, 11, 0, [5, 10, 0, 0], .code yX10_sharers cX10_sharers 8 (some .int)) := rfl
theorem e_X10_evens_11 : lk t_X10_evens 11 = some (.istore 6, 13, 6, [], .returned) := rfl
theorem e_X10_evens_13 : lk t_X10_evens 13 = some (.iload 6, 15, 6, [], .returned) := rfl
theorem e_X10_evens_15 : lk t_X10_evens 15 = some (.ifCond .le 105, 18, 120, [], .returned) := rfl
theorem e_X10_evens_18 : lk t_X10_evens 18 = some (.aload_n 0, 19, 0, [], .returned) := rfl
theorem e_X10_evens_19 : lk t_X10_evens 19 = some (.getfield 262, 22, 10, [27, 0], .returned) := rfl
theorem e_X10_evens_22 : lk t_X10_evens 22 = some (.iload 5, 24, 5, [], .returned) := rfl
theorem e_X10_evens_24 : lk t_X10_evens 24 = some (.isub, 25, 0, [], .returned) := rfl
theorem e_X10_evens_25 : lk t_X10_evens 25 = some (.iload 6, 27, 6, [], .returned) := rfl
theorem e_X10_evens_27 : lk t_X10_evens 27 = some (.if_icmp .lt 93, 30, 120, [], .returned) := rfl
theorem e_X10_evens_30 : lk t_X10_evens 30 = some (.aload_n 0, 31, 0, [], .returned) := rfl
theorem e_X10_evens_31 : lk t_X10_evens 31 = some (.getfield 262, 34, 10, [27, 0], .returned) := rfl
theorem e_X10_evens_34 : lk t_X10_evens 34 = some (.iload 5, 36, 5, [], .returned) := rfl
theorem e_X10_evens_36 : lk t_X10_evens 36 = some (.isub, 37, 0, [], .returned) := rfl
theorem e_X10_evens_37 : lk t_X10_evens 37 = some (.iload 6, 39, 6, [], .returned) := rfl
theorem e_X10_evens_39 : lk t_X10_evens 39 = some (.idiv, 40, 0, [], .returned) := rfl
theorem e_X10_evens_40 : lk t_X10_evens 40 = some (.istore 7, 42, 7, [], .returned) := rfl
theorem e_X10_evens_42 : lk t_X10_evens 42 = some (.iconst 0, 43, 0, [], .constant "" 0 (0)) := rfl
theorem e_X10_evens_43 : lk t_X10_evens 43 = some (.istore 8, 45, 8, [], .returned) := rfl
theorem e_X10_evens_45 : lk t_X10_evens 45 = some (.iload 8, 47, 8, [], .returned) := rfl
theorem e_X10_evens_47 : lk t_X10_evens 47 = some (.aload_n 0, 48, 0, [], .returned) := rfl
theorem e_X10_evens_48 : lk t_X10_evens 48 = some (.getfield 17, 51, 10, [12, 2], .returned) := rfl
theorem e_X10_evens_51 : lk t_X10_evens 51 = some (.iconst 5, 52, 0, [], .constant "" 0 (5)) := rfl
theorem e_X10_evens_52 : lk t_X10_evens 52 = some (.iaload, 53, 0, [], .returned) := rfl
theorem e_X10_evens_53 : lk t_X10_evens 53 = some (.if_icmp .ge 51, 56, 104, [], .returned) := rfl
theorem e_X10_evens_56 : lk t_X10_evens 56 = some (.aload_n 0, 57, 0, [], .returned) := rfl
theorem e_X10_evens_57 : lk t_X10_evens 57 = some (.iload_n 1, 58, 1, [], .returned) := rfl
theorem e_X10_evens_58 : lk t_X10_evens 58 = some (.iload 8, 60, 8, [], .returned) := rfl
theorem e_X10_evens_60 : lk t_X10_evens 60 = some (.iload_n 2, 61, 2, [], .returned) := rfl
theorem e_X10_evens_61 : lk t_X10_evens 61 = some (.iload_n 3, 62, 3, [], .returned) := rfl
theorem e_X10_evens_62 : lk t_X10_evens 62 = some (.iload 4, 64, 4, [], .returned) := rfl
theorem e_X10_evens_64 : lk t_X10_evens 64 = some (.iload 5, 66, 5, [], .returned) := rfl
theorem e_X10_evens_66 : lk t_X10_evens 66 = some (.invokevirtual 272, 69, 0, [6, 10, 0, 0], .code yX10_shares cX10_shares 7 (some .boolean)) := rfl
theorem e_X10_evens_69 : lk t_X10_evens 69 = some (.ifCond .eq 29, 72, 98, [], .returned) := rfl
theorem e_X10_evens_72 : lk t_X10_evens 72 = some (.aload_n 0, 73, 0, [], .returned) := rfl
theorem e_X10_evens_73 : lk t_X10_evens 73 = some (.iload 8, 75, 8, [], .returned) := rfl
theorem e_X10_evens_75 : lk t_X10_evens 75 = some (.iload 7, 77, 7, [], .returned) := rfl
theorem e_X10_evens_77 : lk t_X10_evens 77 = some (.aload_n 0, 78, 0, [], .returned) := rfl
theorem e_X10_evens_78 : lk t_X10_evens 78 = some (.getfield 50, 81, 10, [25, 2], .returned) := rfl
theorem e_X10_evens_81 : lk t_X10_evens 81 = some (.iload 8, 83, 8, [], .returned) := rfl
theorem e_X10_evens_83 : lk t_X10_evens 83 = some (.iaload, 84, 0, [], .returned) := rfl
theorem e_X10_evens_84 : lk t_X10_evens 84 = some (.aload_n 0, 85, 0, [], .returned) := rfl
theorem e_X10_evens_85 : lk t_X10_evens 85 = some (.getfield 53, 88, 10, [26, 2], .returned) := rfl
theorem e_X10_evens_88 : lk t_X10_evens 88 = some (.iload 8, 90, 8, [], .returned) := rfl
theorem e_X10_evens_90 : lk t_X10_evens 90 = some (.iaload, 91, 0, [], .returned) := rfl
theorem e_X10_evens_91 : lk t_X10_evens 91 = some (.isub, 92, 0, [], .returned) := rfl
theorem e_X10_evens_92 : lk t_X10_evens 92 = some (.invokestatic 243, 95, 0, [2, 0, 0], .code yX10_lesser cX10_lesser 2 (some .int)) := rfl
theorem e_X10_evens_95 : lk t_X10_evens 95 = some (.invokevirtual 276, 98, 0, [2, 10, 0, 0], .code yX10_gives cX10_gives 3 none) := rfl
theorem e_X10_evens_98 : lk t_X10_evens 98 = some (.iinc 8 1, 101, 8, [], .constant "" 0 (1)) := rfl
theorem e_X10_evens_101 : lk t_X10_evens 101 = some (.goto (-56), 104, 45, [], .returned) := rfl
theorem e_X10_evens_104 : lk t_X10_evens 104 = some (.aload_n 0, 105, 0, [], .returned) := rfl
theorem e_X10_evens_105 : lk t_X10_evens 105 = some (.iload_n 1, 106, 1, [], .returned) := rfl
theorem e_X10_evens_106 : lk t_X10_evens 106 = some (.iload_n 2, 107, 2, [], .returned) := rfl
theorem e_X10_evens_107 : lk t_X10_evens 107 = some (.iload_n 3, 108, 3, [], .returned) := rfl
theorem e_X10_evens_108 : lk t_X10_evens 108 = some (.iload 4, 110, 4, [], .returned) := rfl
theorem e_X10_evens_110 : lk t_X10_evens 110 = some (.iload 5, 112, 5, [], .returned) := rfl
theorem e_X10_evens_112 : lk t_X10_evens 112 = some (.invokevirtual 279, 115, 0, [5, 10, 0, 0], .code yX10_sharers cX10_sharers 8 (some .int)) := rfl
theorem e_X10_evens_115 : lk t_X10_evens 115 = some (.istore 6, 117, 6, [], .returned) := rfl
theorem e_X10_evens_117 : lk t_X10_evens 117 = some (.goto (-104), 120, 13, [], .returned) := rfl
theorem e_X10_evens_120 : lk t_X10_evens 120 = some (.return_, 121, 0, [], .returned) := rfl
abbrev q_X10_parts : MI := (yX10_parts, cX10_parts, 10, none)
def t_X10_parts : Tab := [(0, [], (.aload_n 0, 1, 0, [], .returned)),
  (1, [1076], (.getfield 262, 4, 10, [27, 0], .returned)),
  (4, [], (.iload 5, 6, 5, [], .returned)),
  (6, [], (.isub, 7, 0, [], .returned)),
  (7, [], (.i2l, 8, 0, [], .returned)),
  (8, [], (.lstore 6, 10, 6, [], .returned)),
  (10, [], (.aload_n 0, 11, 0, [], .returned)),
  (11, [], (.iload_n 1, 12, 1, [], .returned)),
  (12, [], (.iload_n 2, 13, 2, [], .returned)),
  (13, [], (.iload_n 3, 14, 3, [], .returned)),
  (14, [], (.iload 4, 16, 4, [], .returned)),
  (16, [], (.iload 5, 18, 5, [], .returned)),
  (18, [1457, 1460, 1459, 77, 102], (.invokevirtual 283, 21, 0, [5, 10, 0, 0], .code yX10_wantedYet cX10_wantedYet 8 (some .int))),
  (21, [], (.istore 8, 23, 8, [], .returned)),
  (23, [], (.iconst 0, 24, 0, [], .constant "" 0 (0))),
  (24, [], (.istore 9, 26, 9, [], .returned)),
  (26, [], (.iload 9, 28, 9, [], .returned)),
  (28, [], (.aload_n 0, 29, 0, [], .returned)),
  (29, [1061], (.getfield 17, 32, 10, [12, 2], .returned)),
  (32, [], (.iconst 5, 33, 0, [], .constant "" 0 (5))),
  (33, [], (.iaload, 34, 0, [], .returned)),
  (34, [], (.if_icmp .ge 55, 37, 89, [], .returned)),
  (37, [], (.aload_n 0, 38, 0, [], .returned)),
  (38, [], (.iload_n 1, 39, 1, [], .returned)),
  (39, [], (.iload 9, 41, 9, [], .returned)),
  (41, [], (.iload_n 2, 42, 2, [], .returned)),
  (42, [], (.iload_n 3, 43, 3, [], .returned)),
  (43, [], (.iload 4, 45, 4, [], .returned)),
  (45, [], (.iload 5, 47, 5, [], .returned)),
  (47, [1461, 1464, 1463, 78, 102], (.invokevirtual 272, 50, 0, [6, 10, 0, 0], .code yX10_shares cX10_shares 7 (some .boolean))),
  (50, [], (.ifCond .eq 33, 53, 83, [], .returned)),
  (53, [], (.aload_n 0, 54, 0, [], .returned)),
  (54, [], (.iload 9, 56, 9, [], .returned)),
  (56, [], (.lload 6, 58, 6, [], .returned)),
  (58, [], (.aload_n 0, 59, 0, [], .returned)),
  (59, [1074], (.getfield 50, 62, 10, [25, 2], .returned)),
  (62, [], (.iload 9, 64, 9, [], .returned)),
  (64, [], (.iaload, 65, 0, [], .returned)),
  (65, [], (.aload_n 0, 66, 0, [], .returned)),
  (66, [1075], (.getfield 53, 69, 10, [26, 2], .returned)),
  (69, [], (.iload 9, 71, 9, [], .returned)),
  (71, [], (.iaload, 72, 0, [], .returned)),
  (72, [], (.isub, 73, 0, [], .returned)),
  (73, [], (.i2l, 74, 0, [], .returned)),
  (74, [], (.lmul, 75, 0, [], .returned)),
  (75, [], (.iload 8, 77, 8, [], .returned)),
  (77, [], (.i2l, 78, 0, [], .returned)),
  (78, [], (.ldiv, 79, 0, [], .returned)),
  (79, [], (.l2i, 80, 0, [], .returned)),
  (80, [1465, 1468, 1467, 79, 102], (.invokevirtual 276, 83, 0, [2, 10, 0, 0], .code yX10_gives cX10_gives 3 none)),
  (83, [], (.iinc 9 1, 86, 9, [], .constant "" 0 (1))),
  (86, [], (.goto (-60), 89, 26, [], .returned)),
  (89, [], (.return_, 90, 0, [], .returned))]
theorem ck_X10_parts : okT q_X10_parts t_X10_parts = true := by decide +kernel
theorem e_X10_parts_0 : lk t_X10_parts 0 = some (.aload_n 0, 1, 0, [], .returned) := rfl
theorem e_X10_parts_1 : lk t_X10_parts 1 = some (.getfield 262, 4, 10, [27, 0], .returned) := rfl
theorem e_X10_parts_4 : lk t_X10_parts 4 = some (.iload 5, 6, 5, [], .returned) := rfl
theorem e_X10_parts_6 : lk t_X10_parts 6 = some (.isub, 7, 0, [], .returned) := rfl
theorem e_X10_parts_7 : lk t_X10_parts 7 = some (.i2l, 8, 0, [], .returned) := rfl
theorem e_X10_parts_8 : lk t_X10_parts 8 = some (.lstore 6, 10, 6, [], .returned) := rfl
theorem e_X10_parts_10 : lk t_X10_parts 10 = some (.aload_n 0, 11, 0, [], .returned) := rfl
theorem e_X10_parts_11 : lk t_X10_parts 11 = some (.iload_n 1, 12, 1, [], .returned) := rfl
theorem e_X10_parts_12 : lk t_X10_parts 12 = some (.iload_n 2, 13, 2, [], .returned) := rfl
theorem e_X10_parts_13 : lk t_X10_parts 13 = some (.iload_n 3, 14, 3, [], .returned) := rfl
theorem e_X10_parts_14 : lk t_X10_parts 14 = some (.iload 4, 16, 4, [], .returned) := rfl
theorem e_X10_parts_16 : lk t_X10_parts 16 = some (.iload 5, 18, 5, [], .returned) := rfl
theorem e_X10_parts_18 : lk t_X10_parts 18 = some (.invokevirtual 283, 21, 0, [5, 10, 0, 0], .code yX10_wantedYet cX10_wantedYet 8 (some .int)) := rfl
theorem e_X10_parts_21 : lk t_X10_parts 21 = some (.istore 8, 23, 8, [], .returned) := rfl
theorem e_X10_parts_23 : lk t_X10_parts 23 = some (.iconst 0, 24, 0, [], .constant "" 0 (0)) := rfl
theorem e_X10_parts_24 : lk t_X10_parts 24 = some (.istore 9, 26, 9, [], .returned) := rfl
theorem e_X10_parts_26 : lk t_X10_parts 26 = some (.iload 9, 28, 9, [], .returned) := rfl
theorem e_X10_parts_28 : lk t_X10_parts 28 = some (.aload_n 0, 29, 0, [], .returned) := rfl
theorem e_X10_parts_29 : lk t_X10_parts 29 = some (.getfield 17, 32, 10, [12, 2], .returned) := rfl
theorem e_X10_parts_32 : lk t_X10_parts 32 = some (.iconst 5, 33, 0, [], .constant "" 0 (5)) := rfl
theorem e_X10_parts_33 : lk t_X10_parts 33 = some (.iaload, 34, 0, [], .returned) := rfl
theorem e_X10_parts_34 : lk t_X10_parts 34 = some (.if_icmp .ge 55, 37, 89, [], .returned) := rfl
theorem e_X10_parts_37 : lk t_X10_parts 37 = some (.aload_n 0, 38, 0, [], .returned) := rfl
theorem e_X10_parts_38 : lk t_X10_parts 38 = some (.iload_n 1, 39, 1, [], .returned) := rfl
theorem e_X10_parts_39 : lk t_X10_parts 39 = some (.iload 9, 41, 9, [], .returned) := rfl
theorem e_X10_parts_41 : lk t_X10_parts 41 = some (.iload_n 2, 42, 2, [], .returned) := rfl
theorem e_X10_parts_42 : lk t_X10_parts 42 = some (.iload_n 3, 43, 3, [], .returned) := rfl
theorem e_X10_parts_43 : lk t_X10_parts 43 = some (.iload 4, 45, 4, [], .returned) := rfl
theorem e_X10_parts_45 : lk t_X10_parts 45 = some (.iload 5, 47, 5, [], .returned) := rfl
theorem e_X10_parts_47 : lk t_X10_parts 47 = some (.invokevirtual 272, 50, 0, [6, 10, 0, 0], .code yX10_shares cX10_shares 7 (some .boolean)) := rfl
theorem e_X10_parts_50 : lk t_X10_parts 50 = some (.ifCond .eq 33, 53, 83, [], .returned) := rfl
theorem e_X10_parts_53 : lk t_X10_parts 53 = some (.aload_n 0, 54, 0, [], .returned) := rfl
theorem e_X10_parts_54 : lk t_X10_parts 54 = some (.iload 9, 56, 9, [], .returned) := rfl
theorem e_X10_parts_56 : lk t_X10_parts 56 = some (.lload 6, 58, 6, [], .returned) := rfl
theorem e_X10_parts_58 : lk t_X10_parts 58 = some (.aload_n 0, 59, 0, [], .returned) := rfl
theorem e_X10_parts_59 : lk t_X10_parts 59 = some (.getfield 50, 62, 10, [25, 2], .returned) := rfl
theorem e_X10_parts_62 : lk t_X10_parts 62 = some (.iload 9, 64, 9, [], .returned) := rfl
theorem e_X10_parts_64 : lk t_X10_parts 64 = some (.iaload, 65, 0, [], .returned) := rfl
theorem e_X10_parts_65 : lk t_X10_parts 65 = some (.aload_n 0, 66, 0, [], .returned) := rfl
theorem e_X10_parts_66 : lk t_X10_parts 66 = some (.getfield 53, 69, 10, [26, 2], .returned) := rfl
theorem e_X10_parts_69 : lk t_X10_parts 69 = some (.iload 9, 71, 9, [], .returned) := rfl
theorem e_X10_parts_71 : lk t_X10_parts 71 = some (.iaload, 72, 0, [], .returned) := rfl
theorem e_X10_parts_72 : lk t_X10_parts 72 = some (.isub, 73, 0, [], .returned) := rfl
theorem e_X10_parts_73 : lk t_X10_parts 73 = some (.i2l, 74, 0, [], .returned) := rfl
theorem e_X10_parts_74 : lk t_X10_parts 74 = some (.lmul, 75, 0, [], .returned) := rfl
theorem e_X10_parts_75 : lk t_X10_parts 75 = some (.iload 8, 77, 8, [], .returned) := rfl
theorem e_X10_parts_77 : lk t_X10_parts 77 = some (.i2l, 78, 0, [], .returned) := rfl
theorem e_X10_parts_78 : lk t_X10_parts 78 = some (.ldiv, 79, 0, [], .returned) := rfl
theorem e_X10_parts_79 : lk t_X10_parts 79 = some (.l2i, 80, 0, [], .returned) := rfl
theorem e_X10_parts_80 : lk t_X10_parts 80 = some (.invokevirtual 276, 83, 0, [2, 10, 0, 0], .code yX10_gives cX10_gives 3 none) := rfl
theorem e_X10_parts_83 : lk t_X10_parts 83 = some (.iinc 9 1, 86, 9, [], .constant "" 0 (1)) := rfl
theorem e_X10_parts_86 : lk t_X10_parts 86 = some (.goto (-60), 89, 26, [], .returned) := rfl
theorem e_X10_parts_89 : lk t_X10_parts 89 = some (.return_, 90, 0, [], .returned) := rfl
abbrev q_X10_pool : MI := (yX10_pool, cX10_pool, 7, none)
def t_X10_pool : Tab := [(0, [], (.aload_n 0, 1, 0, [], .returned)),
  (1, [1076], (.getfield 262, 4, 10, [27, 0], .returned)),
  (4, [], (.iload 5, 6, 5, [], .returned)),
  (6, [], (.if_icmp .gt 4, 9, 10, [], .returned)),
  (9, [], (.return_, 10, 0, [], .returned)),
  (10, [], (.aload_n 0, 11, 0, [], .returned)),
  (11, [1076], (.getfield 262, 14, 10, [27, 0], .returned)),
  (14, [], (.iload 5, 16, 5, [], .returned)),
  (16, [], (.isub, 17, 0, [], .returned)),
  (17, [], (.aload_n 0, 18, 0, [], .returned)),
  (18, [], (.iload_n 1, 19, 1, [], .returned)),
  (19, [], (.iload_n 2, 20, 2, [], .returned)),
  (20, [], (.iload_n 3, 21, 3, [], .returned)),
  (21, [], (.iload 4, 23, 4, [], .returned)),
  (23, [], (.iload 5, 25, 5, [], .returned)),
  (25, [1457, 1460, 1459, 77, 102], (.invokevirtual 283, 28, 0, [5, 10, 0, 0], .code yX10_wantedYet cX10_wantedYet 8 (some .int))),
  (28, [], (.if_icmp .lt 61, 31, 89, [], .returned)),
  (31, [], (.iconst 0, 32, 0, [], .constant "" 0 (0))),
  (32, [], (.istore 6, 34, 6, [], .returned)),
  (34, [], (.iload 6, 36, 6, [], .returned)),
  (36, [], (.aload_n 0, 37, 0, [], .returned)),
  (37, [1061], (.getfield 17, 40, 10, [12, 2], .returned)),
  (40, [], (.iconst 5, 41, 0, [], .constant "" 0 (5))),
  (41, [], (.iaload, 42, 0, [], .returned)),
  (42, [], (.if_icmp .ge 46, 45, 88, [], .returned)),
  (45, [], (.aload_n 0, 46, 0, [], .returned)),
  (46, [], (.iload_n 1, 47, 1, [], .returned)),
  (47, [], (.iload 6, 49, 6, [], .returned)),
  (49, [], (.iload_n 2, 50, 2, [], .returned)),
  (50, [], (.iload_n 3, 51, 3, [], .returned)),
  (51, [], (.iload 4, 53, 4, [], .returned)),
  (53, [], (.iload 5, 55, 5, [], .returned)),
  (55, [1461, 1464, 1463, 78, 102], (.invokevirtual 272, 58, 0, [6, 10, 0, 0], .code yX10_shares cX10_shares 7 (some .boolean))),
  (58, [], (.ifCond .eq 24, 61, 82, [], .returned)),
  (61, [], (.aload_n 0, 62, 0, [], .returned)),
  (62, [], (.iload 6, 64, 6, [], .returned)),
  (64, [], (.aload_n 0, 65, 0, [], .returned)),
  (65, [1074], (.getfield 50, 68, 10, [25, 2], .returned)),
  (68, [], (.iload 6, 70, 6, [], .returned)),
  (70, [], (.iaload, 71, 0, [], .returned)),
  (71, [], (.aload_n 0, 72, 0, [], .returned)),
  (72, [1075], (.getfield 53, 75, 10, [26, 2], .returned)),
  (75, [], (.iload 6, 77, 6, [], .returned)),
  (77, [], (.iaload, 78, 0, [], .returned)),
  (78, [], (.isub, 79, 0, [], .returned)),
  (79, [1465, 1468, 1467, 79, 102], (.invokevirtual 276, 82, 0, [2, 10, 0, 0], .code yX10_gives cX10_gives 3 none)),
  (82, [], (.iinc 6 1, 85, 6, [], .constant "" 0 (1))),
  (85, [], (.goto (-51), 88, 34, [], .returned)),
  (88, [], (.return_, 89, 0, [], .returned)),
  (89, [], (.aload_n 0, 90, 0, [], .returned)),
  (90, [1061], (.getfield 17, 93, 10, [12, 2], .returned)),
  (93, [], (.iconst 2, 94, 0, [], .constant "" 0 (2))),
  (94, [], (.iaload, 95, 0, [], .returned)),
  (95, [], (.iconst 1, 96, 0, [], .constant "" 0 (1))),
  (96, [], (.if_icmp .ne 17, 99, 113, [], .returned)),
  (99, [], (.aload_n 0, 100, 0, [], .returned)),
  (100, [], (.iload_n 1, 101, 1, [], .returned)),
  (101, [], (.iload_n 2, 102, 2, [], .returned)),
  (102, [], (.iload_n 3, 103, 3, [], .returned)),
  (103, [], (.iload 4, 105, 4, [], .returned)),
  (105, [], (.iload 5, 107, 5, [], .returned)),
  (107, [1469, 1472, 1471, 80, 102], (.invokevirtual 286, 110, 0, [5, 10, 0, 0], .code yX10_evens cX10_evens 9 none)),
  (110, [], (.goto 14, 113, 124, [], .returned)),
  (113, [], (.aload_n 0, 114, 0, [], .returned)),
  (114, [], (.iload_n 1, 115, 1, [], .returned)),
  (115, [], (.iload_n 2, 116, 2, [], .returned)),
  (116, [], (.iload_n 3, 117, 3, [], .returned)),
  (117, [], (.iload 4, 119, 4, [], .returned)),
  (119, [], (.iload 5, 121, 5, [], .returned)),
  (121, [1477, 1480, 1479, 82, 102], (.invokevirtual 290, 124, 0, [5, 10, 0, 0], .code yX10_parts cX10_parts 10 none)),
  (124, [], (.aload_n 0, 125, 0, [], .returned)),
  (125, [], (.iload_n 1, 126, 1, [], .returned)),
  (126, [], (.iload_n 2, 127, 2, [], .returned)),
  (127, [], (.iload_n 3, 128, 3, [], .returned)),
  (128, [], (.iload 4, 130, 4, [], .returned)),
  (130, [], (.iload 5, 132, 5, [], .returned)),
  (132, [1481, 1484, 1483, 83, 102], (.invokevirtual 292, 135, 0, [5, 10, 0, 0], .code yX10_ones cX10_ones 7 none)),
  (135, [], (.return_, 136, 0, [], .returned))]
theorem ck_X10_pool : okT q_X10_pool t_X10_pool = true := by decide +kernel
theorem e_X10_pool_0 : lk t_X10_pool 0 = some (.aload_n 0, 1, 0, [], .returned) := rfl
theorem e_X10_pool_1 : lk t_X10_pool 1 = some (.getfield 262, 4, 10, [27, 0], .returned) := rfl
theorem e_X10_pool_4 : lk t_X10_pool 4 = some (.iload 5, 6, 5, [], .returned) := rfl
theorem e_X10_pool_6 : lk t_X10_pool 6 = some (.if_icmp .gt 4, 9, 10, [], .returned) := rfl
theorem e_X10_pool_9 : lk t_X10_pool 9 = some (.return_, 10, 0, [], .returned) := rfl
theorem e_X10_pool_10 : lk t_X10_pool 10 = some (.aload_n 0, 11, 0, [], .returned) := rfl
theorem e_X10_pool_11 : lk t_X10_pool 11 = some (.getfield 262, 14, 10, [27, 0], .returned) := rfl
theorem e_X10_pool_14 : lk t_X10_pool 14 = some (.iload 5, 16, 5, [], .returned) := rfl
theorem e_X10_pool_16 : lk t_X10_pool 16 = some (.isub, 17, 0, [], .returned) := rfl
theorem e_X10_pool_17 : lk t_X10_pool 17 = some (.aload_n 0, 18, 0, [], .returned) := rfl
theorem e_X10_pool_18 : lk t_X10_pool 18 = some (.iload_n 1, 19, 1, [], .returned) := rfl
theorem e_X10_pool_19 : lk t_X10_pool 19 = some (.iload_n 2, 20, 2, [], .returned) := rfl
theorem e_X10_pool_20 : lk t_X10_pool 20 = some (.iload_n 3, 21, 3, [], .returned) := rfl
theorem e_X10_pool_21 : lk t_X10_pool 21 = some (.iload 4, 23, 4, [], .returned) := rfl
theorem e_X10_pool_23 : lk t_X10_pool 23 = some (.iload 5, 25, 5, [], .returned) := rfl
theorem e_X10_pool_25 : lk t_X10_pool 25 = some (.invokevirtual 283, 28, 0, [5, 10, 0, 0], .code yX10_wantedYet cX10_wantedYet 8 (some .int)) := rfl
theorem e_X10_pool_28 : lk t_X10_pool 28 = some (.if_icmp .lt 61, 31, 89, [], .returned) := rfl
theorem e_X10_pool_31 : lk t_X10_pool 31 = some (.iconst 0, 32, 0, [], .constant "" 0 (0)) := rfl
theorem e_X10_pool_32 : lk t_X10_pool 32 = some (.istore 6, 34, 6, [], .returned) := rfl
theorem e_X10_pool_34 : lk t_X10_pool 34 = some (.iload 6, 36, 6, [], .returned) := rfl
theorem e_X10_pool_36 : lk t_X10_pool 36 = some (.aload_n 0, 37, 0, [], .returned) := rfl
theorem e_X10_pool_37 : lk t_X10_pool 37 = some (.getfield 17, 40, 10, [12, 2], .returned) := rfl
theorem e_X10_pool_40 : lk t_X10_pool 40 = some (.iconst 5, 41, 0, [], .constant "" 0 (5)) := rfl
theorem e_X10_pool_41 : lk t_X10_pool 41 = some (.iaload, 42, 0, [], .returned) := rfl
theorem e_X10_pool_42 : lk t_X10_pool 42 = some (.if_icmp .ge 46, 45, 88, [], .returned) := rfl
theorem e_X10_pool_45 : lk t_X10_pool 45 = some (.aload_n 0, 46, 0, [], .returned) := rfl
theorem e_X10_pool_46 : lk t_X10_pool 46 = some (.iload_n 1, 47, 1, [], .returned) := rfl
theorem e_X10_pool_47 : lk t_X10_pool 47 = some (.iload 6, 49, 6, [], .returned) := rfl
theorem e_X10_pool_49 : lk t_X10_pool 49 = some (.iload_n 2, 50, 2, [], .returned) := rfl
theorem e_X10_pool_50 : lk t_X10_pool 50 = some (.iload_n 3, 51, 3, [], .returned) := rfl
theorem e_X10_pool_51 : lk t_X10_pool 51 = some (.iload 4, 53, 4, [], .returned) := rfl
theorem e_X10_pool_53 : lk t_X10_pool 53 = some (.iload 5, 55, 5, [], .returned) := rfl
theorem e_X10_pool_55 : lk t_X10_pool 55 = some (.invokevirtual 272, 58, 0, [6, 10, 0, 0], .code yX10_shares cX10_shares 7 (some .boolean)) := rfl
theorem e_X10_pool_58 : lk t_X10_pool 58 = some (.ifCond .eq 24, 61, 82, [], .returned) := rfl
theorem e_X10_pool_61 : lk t_X10_pool 61 = some (.aload_n 0, 62, 0, [], .returned) := rfl
theorem e_X10_pool_62 : lk t_X10_pool 62 = some (.iload 6, 64, 6, [], .returned) := rfl
theorem e_X10_pool_64 : lk t_X10_pool 64 = some (.aload_n 0, 65, 0, [], .returned) := rfl
theorem e_X10_pool_65 : lk t_X10_pool 65 = some (.getfield 50, 68, 10, [25, 2], .returned) := rfl
theorem e_X10_pool_68 : lk t_X10_pool 68 = some (.iload 6, 70, 6, [], .returned) := rfl
theorem e_X10_pool_70 : lk t_X10_pool 70 = some (.iaload, 71, 0, [], .returned) := rfl
theorem e_X10_pool_71 : lk t_X10_pool 71 = some (.aload_n 0, 72, 0, [], .returned) := rfl
theorem e_X10_pool_72 : lk t_X10_pool 72 = some (.getfield 53, 75, 10, [26, 2], .returned) := rfl
theorem e_X10_pool_75 : lk t_X10_pool 75 = some (.iload 6, 77, 6, [], .returned) := rfl
theorem e_X10_pool_77 : lk t_X10_pool 77 = some (.iaload, 78, 0, [], .returned) := rfl
theorem e_X10_pool_78 : lk t_X10_pool 78 = some (.isub, 79, 0, [], .returned) := rfl
theorem e_X10_pool_79 : lk t_X10_pool 79 = some (.invokevirtual 276, 82, 0, [2, 10, 0, 0], .code yX10_gives cX10_gives 3 none) := rfl
theorem e_X10_pool_82 : lk t_X10_pool 82 = some (.iinc 6 1, 85, 6, [], .constant "" 0 (1)) := rfl
theorem e_X10_pool_85 : lk t_X10_pool 85 = some (.goto (-51), 88, 34, [], .returned) := rfl
theorem e_X10_pool_88 : lk t_X10_pool 88 = some (.return_, 89, 0, [], .returned) := rfl
theorem e_X10_pool_89 : lk t_X10_pool 89 = some (.aload_n 0, 90, 0, [], .returned) := rfl
theorem e_X10_pool_90 : lk t_X10_pool 90 = some (.getfield 17, 93, 10, [12, 2], .returned) := rfl
theorem e_X10_pool_93 : lk t_X10_pool 93 = some (.iconst 2, 94, 0, [], .constant "" 0 (2)) := rfl
theorem e_X10_pool_94 : lk t_X10_pool 94 = some (.iaload, 95, 0, [], .returned) := rfl
theorem e_X10_pool_95 : lk t_X10_pool 95 = some (.iconst 1, 96, 0, [], .constant "" 0 (1)) := rfl
theorem e_X10_pool_96 : lk t_X10_pool 96 = some (.if_icmp .ne 17, 99, 113, [], .returned) := rfl
theorem e_X10_pool_99 : lk t_X10_pool 99 = some (.aload_n 0, 100, 0, [], .returned) := rfl
theorem e_X10_pool_100 : lk t_X10_pool 100 = some (.iload_n 1, 101, 1, [], .returned) := rfl
theorem e_X10_pool_101 : lk t_X10_pool 101 = some (.iload_n 2, 102, 2, [], .returned) := rfl
theorem e_X10_pool_102 : lk t_X10_pool 102 = some (.iload_n 3, 103, 3, [], .returned) := rfl
theorem e_X10_pool_103 : lk t_X10_pool 103 = some (.iload 4, 105, 4, [], .returned) := rfl
theorem e_X10_pool_105 : lk t_X10_pool 105 = some (.iload 5, 107, 5, [], .returned) := rfl
theorem e_X10_pool_107 : lk t_X10_pool 107 = some (.invokevirtual 286, 110, 0, [5, 10, 0, 0], .code yX10_evens cX10_evens 9 none) := rfl
theorem e_X10_pool_110 : lk t_X10_pool 110 = some (.goto 14, 113, 124, [], .returned) := rfl
theorem e_X10_pool_113 : lk t_X10_pool 113 = some (.aload_n 0, 114, 0, [], .returned) := rfl
theorem e_X10_pool_114 : lk t_X10_pool 114 = some (.iload_n 1, 115, 1, [], .returned) := rfl
theorem e_X10_pool_115 : lk t_X10_pool 115 = some (.iload_n 2, 116, 2, [], .returned) := rfl
theorem e_X10_pool_116 : lk t_X10_pool 116 = some (.iload_n 3, 117, 3, [], .returned) := rfl
theorem e_X10_pool_117 : lk t_X10_pool 117 = some (.iload 4, 119, 4, [], .returned) := rfl
theorem e_X10_pool_119 : lk t_X10_pool 119 = some (.iload 5, 121, 5, [], .returned) := rfl
theorem e_X10_pool_121 : lk t_X10_pool 121 = some (.invokevirtual 290, 124, 0, [5, 10, 0, 0], .code yX10_parts cX10_parts 10 none) := rfl
theorem e_X10_pool_124 : lk t_X10_pool 124 = some (.aload_n 0, 125, 0, [], .returned) := rfl
theorem e_X10_pool_125 : lk t_X10_pool 125 = some (.iload_n 1, 126, 1, [], .returned) := rfl
theorem e_X10_pool_126 : lk t_X10_pool 126 = some (.iload_n 2, 127, 2, [], .returned) := rfl
theorem e_X10_pool_127 : lk t_X10_pool 127 = some (.iload_n 3, 128, 3, [], .returned) := rfl
theorem e_X10_pool_128 : lk t_X10_pool 128 = some (.iload 4, 130, 4, [], .returned) := rfl
theorem e_X10_pool_130 : lk t_X10_pool 130 = some (.iload 5, 132, 5, [], .returned) := rfl
theorem e_X10_pool_132 : lk t_X10_pool 132 = some (.invokevirtual 292, 135, 0, [5, 10, 0, 0], .code yX10_ones cX10_ones 7 none) := rfl
theorem e_X10_pool_135 : lk t_X10_pool 135 = some (.return_, 136, 0, [], .returned) := rfl
abbrev q_X10_nextFloor : MI := (yX10_nextFloor, cX10_nextFloor, 8, (some .int))
def t_X10_nextFloor : Tab := [(0, [], (.iconst (-1), 1, 0, [], .constant "" 0 (-1))),
  (1, [], (.istore 6, 3, 6, [], .returned)),
  (3, [], (.iconst 0, 4, 0, [], .constant "" 0 (0))),
  (4, [], (.istore 7, 6, 7, [], .returned)),
  (6, [], (.iload 7, 8, 7, [], .returned)),
  (8, [], (.aload_n 0, 9, 0, [], .returned)),
  (9, [1061], (.getfield 17, 12, 10, [12, 2], .returned)),
  (12, [], (.iconst 5, 13, 0, [], .constant "" 0 (5))),
  (13, [], (.iaload, 14, 0, [], .returned)),
  (14, [], (.if_icmp .ge 60, 17, 74, [], .returned)),
  (17, [], (.aload_n 0, 18, 0, [], .returned)),
  (18, [], (.iload_n 1, 19, 1, [], .returned)),
  (19, [], (.iload 7, 21, 7, [], .returned)),
  (21, [], (.iload_n 2, 22, 2, [], .returned)),
  (22, [], (.iload 4, 24, 4, [], .returned)),
  (24, [1441, 1444, 1443, 73, 102], (.invokevirtual 265, 27, 0, [4, 10, 0, 0], .code yX10_isIn cX10_isIn 5 (some .boolean))),
  (27, [], (.ifCond .eq 41, 30, 68, [], .returned)),
  (30, [], (.aload_n 0, 31, 0, [], .returned)),
  (31, [1074], (.getfield 50, 34, 10, [25, 2], .returned)),
  (34, [], (.iload 7, 36, 7, [], .returned)),
  (36, [], (.iaload, 37, 0, [], .returned)),
  (37, [], (.ifCond .le 31, 40, 68, [], .returned)),
  (40, [], (.aload_n 0, 41, 0, [], .returned)),
  (41, [], (.iload 7, 43, 7, [], .returned)),
  (43, [], (.iload_n 2, 44, 2, [], .returned)),
  (44, [], (.iload_n 3, 45, 3, [], .returned)),
  (45, [1413, 1416, 1415, 69, 102], (.invokevirtual 269, 48, 0, [3, 10, 0, 0], .code yX10_ownFloorOf cX10_ownFloorOf 4 (some .int))),
  (48, [], (.iload 5, 50, 5, [], .returned)),
  (50, [], (.if_icmp .ge 18, 53, 68, [], .returned)),
  (53, [], (.iload 6, 55, 6, [], .returned)),
  (55, [], (.aload_n 0, 56, 0, [], .returned)),
  (56, [], (.iload 7, 58, 7, [], .returned)),
  (58, [], (.iload_n 2, 59, 2, [], .returned)),
  (59, [], (.iload_n 3, 60, 3, [], .returned)),
  (60, [1413, 1416, 1415, 69, 102], (.invokevirtual 269, 63, 0, [3, 10, 0, 0], .code yX10_ownFloorOf cX10_ownFloorOf 4 (some .int))),
  (63, [1406, 1408, 1407, 102], (.invokestatic 250, 66, 0, [2, 0, 0], .code yX10_greater cX10_greater 2 (some .int))),
  (66, [], (.istore 6, 68, 6, [], .returned)),
  (68, [], (.iinc 7 1, 71, 7, [], .constant "" 0 (1))),
  (71, [], (.goto (-65), 74, 6, [], .returned)),
  (74, [], (.iload 6, 76, 6, [], .returned)),
  (76, [], (.ireturn, 77, 0, [], .returned))]
theorem ck_X10_nextFloor : okT q_X10_nextFloor t_X10_nextFloor = true := by decide +kernel
theorem e_X10_nextFloor_0 : lk t_X10_nextFloor 0 = some (.iconst (-1), 1, 0, [], .constant "" 0 (-1)) := rfl
theorem e_X10_nextFloor_1 : lk t_X10_nextFloor 1 = some (.istore 6, 3, 6, [], .returned) := rfl
theorem e_X10_nextFloor_3 : lk t_X10_nextFloor 3 = some (.iconst 0, 4, 0, [], .constant "" 0 (0)) := rfl
theorem e_X10_nextFloor_4 : lk t_X10_nextFloor 4 = some (.istore 7, 6, 7, [], .returned) := rfl
theorem e_X10_nextFloor_6 : lk t_X10_nextFloor 6 = some (.iload 7, 8, 7, [], .returned) := rfl
theorem e_X10_nextFloor_8 : lk t_X10_nextFloor 8 = some (.aload_n 0, 9, 0, [], .returned) := rfl
theorem e_X10_nextFloor_9 : lk t_X10_nextFloor 9 = some (.getfield 17, 12, 10, [12, 2], .returned) := rfl
theorem e_X10_nextFloor_12 : lk t_X10_nextFloor 12 = some (.iconst 5, 13, 0, [], .constant "" 0 (5)) := rfl
theorem e_X10_nextFloor_13 : lk t_X10_nextFloor 13 = some (.iaload, 14, 0, [], .returned) := rfl
theorem e_X10_nextFloor_14 : lk t_X10_nextFloor 14 = some (.if_icmp .ge 60, 17, 74, [], .returned) := rfl
theorem e_X10_nextFloor_17 : lk t_X10_nextFloor 17 = some (.aload_n 0, 18, 0, [], .returned) := rfl
theorem e_X10_nextFloor_18 : lk t_X10_nextFloor 18 = some (.iload_n 1, 19, 1, [], .returned) := rfl
theorem e_X10_nextFloor_19 : lk t_X10_nextFloor 19 = some (.iload 7, 21, 7, [], .returned) := rfl
theorem e_X10_nextFloor_21 : lk t_X10_nextFloor 21 = some (.iload_n 2, 22, 2, [], .returned) := rfl
theorem e_X10_nextFloor_22 : lk t_X10_nextFloor 22 = some (.iload 4, 24, 4, [], .returned) := rfl
theorem e_X10_nextFloor_24 : lk t_X10_nextFloor 24 = some (.invokevirtual 265, 27, 0, [4, 10, 0, 0], .code yX10_isIn cX10_isIn 5 (some .boolean)) := rfl
theorem e_X10_nextFloor_27 : lk t_X10_nextFloor 27 = some (.ifCond .eq 41, 30, 68, [], .returned) := rfl
theorem e_X10_nextFloor_30 : lk t_X10_nextFloor 30 = some (.aload_n 0, 31, 0, [], .returned) := rfl
theorem e_X10_nextFloor_31 : lk t_X10_nextFloor 31 = some (.getfield 50, 34, 10, [25, 2], .returned) := rfl
theorem e_X10_nextFloor_34 : lk t_X10_nextFloor 34 = some (.iload 7, 36, 7, [], .returned) := rfl
theorem e_X10_nextFloor_36 : lk t_X10_nextFloor 36 = some (.iaload, 37, 0, [], .returned) := rfl
theorem e_X10_nextFloor_37 : lk t_X10_nextFloor 37 = some (.ifCond .le 31, 40, 68, [], .returned) := rfl
theorem e_X10_nextFloor_40 : lk t_X10_nextFloor 40 = some (.aload_n 0, 41, 0, [], .returned) := rfl
theorem e_X10_nextFloor_41 : lk t_X10_nextFloor 41 = some (.iload 7, 43, 7, [], .returned) := rfl
theorem e_X10_nextFloor_43 : lk t_X10_nextFloor 43 = some (.iload_n 2, 44, 2, [], .returned) := rfl
theorem e_X10_nextFloor_44 : lk t_X10_nextFloor 44 = some (.iload_n 3, 45, 3, [], .returned) := rfl
theorem e_X10_nextFloor_45 : lk t_X10_nextFloor 45 = some (.invokevirtual 269, 48, 0, [3, 10, 0, 0], .code yX10_ownFloorOf cX10_ownFloorOf 4 (some .int)) := rfl
theorem e_X10_nextFloor_48 : lk t_X10_nextFloor 48 = some (.iload 5, 50, 5, [], .returned) := rfl
theorem e_X10_nextFloor_50 : lk t_X10_nextFloor 50 = some (.if_icmp .ge 18, 53, 68, [], .returned) := rfl
theorem e_X10_nextFloor_53 : lk t_X10_nextFloor 53 = some (.iload 6, 55, 6, [], .returned) := rfl
theorem e_X10_nextFloor_55 : lk t_X10_nextFloor 55 = some (.aload_n 0, 56, 0, [], .returned) := rfl
theorem e_X10_nextFloor_56 : lk t_X10_nextFloor 56 = some (.iload 7, 58, 7, [], .returned) := rfl
theorem e_X10_nextFloor_58 : lk t_X10_nextFloor 58 = some (.iload_n 2, 59, 2, [], .returned) := rfl
theorem e_X10_nextFloor_59 : lk t_X10_nextFloor 59 = some (.iload_n 3, 60, 3, [], .returned) := rfl
theorem e_X10_nextFloor_60 : lk t_X10_nextFloor 60 = some (.invokevirtual 269, 63, 0, [3, 10, 0, 0], .code yX10_ownFloorOf cX10_ownFloorOf 4 (some .int)) := rfl
theorem e_X10_nextFloor_63 : lk t_X10_nextFloor 63 = some (.invokestatic 250, 66, 0, [2, 0, 0], .code yX10_greater cX10_greater 2 (some .int)) := rfl
theorem e_X10_nextFloor_66 : lk t_X10_nextFloor 66 = some (.istore 6, 68, 6, [], .returned) := rfl
theorem e_X10_nextFloor_68 : lk t_X10_nextFloor 68 = some (.iinc 7 1, 71, 7, [], .constant "" 0 (1)) := rfl
theorem e_X10_nextFloor_71 : lk t_X10_nextFloor 71 = some (.goto (-65), 74, 6, [], .returned) := rfl
theorem e_X10_nextFloor_74 : lk t_X10_nextFloor 74 = some (.iload 6, 76, 6, [], .returned) := rfl
theorem e_X10_nextFloor_76 : lk t_X10_nextFloor 76 = some (.ireturn, 77, 0, [], .returned) := rfl
abbrev q_X10_ranks : MI := (yX10_ranks, cX10_ranks, 6, none)
def t_X10_ranks : Tab := [(0, [], (.iconst 0, 1, 0, [], .constant "" 0 (0))),
  (1, [], (.istore 5, 3, 5, [], .returned)),
  (3, [], (.iload 5, 5, 5, [], .returned)),
  (5, [], (.aload_n 0, 6, 0, [], .returned)),
  (6, [1061], (.getfield 17, 9, 10, [12, 2], .returned)),
  (9, [], (.iconst 5, 10, 0, [], .constant "" 0 (5))),
  (10, [], (.iaload, 11, 0, [], .returned)),
  (11, [], (.if_icmp .ge 38, 14, 49, [], .returned)),
  (14, [], (.aload_n 0, 15, 0, [], .returned)),
  (15, [], (.iload_n 1, 16, 1, [], .returned)),
  (16, [], (.iload 5, 18, 5, [], .returned)),
  (18, [], (.iload_n 2, 19, 2, [], .returned)),
  (19, [], (.iload 4, 21, 4, [], .returned)),
  (21, [1441, 1444, 1443, 73, 102], (.invokevirtual 265, 24, 0, [4, 10, 0, 0], .code yX10_isIn cX10_isIn 5 (some .boolean))),
  (24, [], (.ifCond .eq 19, 27, 43, [], .returned)),
  (27, [], (.aload_n 0, 28, 0, [], .returned)),
  (28, [1074], (.getfield 50, 31, 10, [25, 2], .returned)),
  (31, [], (.iload 5, 33, 5, [], .returned)),
  (33, [], (.aload_n 0, 34, 0, [], .returned)),
  (34, [], (.iload_n 1, 35, 1, [], .returned)),
  (35, [], (.iload 5, 37, 5, [], .returned)),
  (37, [], (.iload_n 2, 38, 2, [], .returned)),
  (38, [], (.iload_n 3, 39, 3, [], .returned)),
  (39, [1445, 1448, 1447, 74, 102], (.invokevirtual 295, 42, 0, [4, 10, 0, 0], .code yX10_wantOf cX10_wantOf 6 (some .int))),
  (42, [], (.iastore, 43, 0, [], .returned)),
  (43, [], (.iinc 5 1, 46, 5, [], .constant "" 0 (1))),
  (46, [], (.goto (-43), 49, 3, [], .returned)),
  (49, [], (.aload_n 0, 50, 0, [], .returned)),
  (50, [], (.iload_n 1, 51, 1, [], .returned)),
  (51, [], (.iload_n 2, 52, 2, [], .returned)),
  (52, [], (.iload_n 3, 53, 3, [], .returned)),
  (53, [], (.iload 4, 55, 4, [], .returned)),
  (55, [1351], (.ldc 235, 57, 0, [], .constant "" 0 (999999))),
  (57, [1449, 1452, 1451, 75, 102], (.invokevirtual 299, 60, 0, [5, 10, 0, 0], .code yX10_nextFloor cX10_nextFloor 8 (some .int))),
  (60, [], (.istore 5, 62, 5, [], .returned)),
  (62, [], (.iload 5, 64, 5, [], .returned)),
  (64, [], (.iconst (-1), 65, 0, [], .constant "" 0 (-1))),
  (65, [], (.if_icmp .eq 30, 68, 95, [], .returned)),
  (68, [], (.aload_n 0, 69, 0, [], .returned)),
  (69, [], (.iload_n 1, 70, 1, [], .returned)),
  (70, [], (.iload_n 2, 71, 2, [], .returned)),
  (71, [], (.iload_n 3, 72, 3, [], .returned)),
  (72, [], (.iload 4, 74, 4, [], .returned)),
  (74, [], (.iload 5, 76, 5, [], .returned)),
  (76, [1453, 1456, 1455, 76, 102], (.invokevirtual 302, 79, 0, [5, 10, 0, 0], .code yX10_pool cX10_pool 7 none)),
  (79, [], (.aload_n 0, 80, 0, [], .returned)),
  (80, [], (.iload_n 1, 81, 1, [], .returned)),
  (81, [], (.iload_n 2, 82, 2, [], .returned)),
  (82, [], (.iload_n 3, 83, 3, [], .returned)),
  (83, [], (.iload 4, 85, 4, [], .returned)),
  (85, [], (.iload 5, 87, 5, [], .returned)),
  (87, [1449, 1452, 1451, 75, 102], (.invokevirtual 299, 90, 0, [5, 10, 0, 0], .code yX10_nextFloor cX10_nextFloor 8 (some .int))),
  (90, [], (.istore 5, 92, 5, [], .returned)),
  (92, [], (.goto (-30), 95, 62, [], .returned)),
  (95, [], (.return_, 96, 0, [], .returned))]
theorem ck_X10_ranks : okT q_X10_ranks t_X10_ranks = true := by decide +kernel
theorem e_X10_ranks_0 : lk t_X10_ranks 0 = some (.iconst 0, 1, 0, [], .constant "" 0 (0)) := rfl
theorem e_X10_ranks_1 : lk t_X10_ranks 1 = some (.istore 5, 3, 5, [], .returned) := rfl
theorem e_X10_ranks_3 : lk t_X10_ranks 3 = some (.iload 5, 5, 5, [], .returned) := rfl
theorem e_X10_ranks_5 : lk t_X10_ranks 5 = some (.aload_n 0, 6, 0, [], .returned) := rfl
theorem e_X10_ranks_6 : lk t_X10_ranks 6 = some (.getfield 17, 9, 10, [12, 2], .returned) := rfl
theorem e_X10_ranks_9 : lk t_X10_ranks 9 = some (.iconst 5, 10, 0, [], .constant "" 0 (5)) := rfl
theorem e_X10_ranks_10 : lk t_X10_ranks 10 = some (.iaload, 11, 0, [], .returned) := rfl
theorem e_X10_ranks_11 : lk t_X10_ranks 11 = some (.if_icmp .ge 38, 14, 49, [], .returned) := rfl
theorem e_X10_ranks_14 : lk t_X10_ranks 14 = some (.aload_n 0, 15, 0, [], .returned) := rfl
theorem e_X10_ranks_15 : lk t_X10_ranks 15 = some (.iload_n 1, 16, 1, [], .returned) := rfl
theorem e_X10_ranks_16 : lk t_X10_ranks 16 = some (.iload 5, 18, 5, [], .returned) := rfl
theorem e_X10_ranks_18 : lk t_X10_ranks 18 = some (.iload_n 2, 19, 2, [], .returned) := rfl
theorem e_X10_ranks_19 : lk t_X10_ranks 19 = some (.iload 4, 21, 4, [], .returned) := rfl
theorem e_X10_ranks_21 : lk t_X10_ranks 21 = some (.invokevirtual 265, 24, 0, [4, 10, 0, 0], .code yX10_isIn cX10_isIn 5 (some .boolean)) := rfl
theorem e_X10_ranks_24 : lk t_X10_ranks 24 = some (.ifCond .eq 19, 27, 43, [], .returned) := rfl
theorem e_X10_ranks_27 : lk t_X10_ranks 27 = some (.aload_n 0, 28, 0, [], .returned) := rfl
theorem e_X10_ranks_28 : lk t_X10_ranks 28 = some (.getfield 50, 31, 10, [25, 2], .returned) := rfl
theorem e_X10_ranks_31 : lk t_X10_ranks 31 = some (.iload 5, 33, 5, [], .returned) := rfl
theorem e_X10_ranks_33 : lk t_X10_ranks 33 = some (.aload_n 0, 34, 0, [], .returned) := rfl
theorem e_X10_ranks_34 : lk t_X10_ranks 34 = some (.iload_n 1, 35, 1, [], .returned) := rfl
theorem e_X10_ranks_35 : lk t_X10_ranks 35 = some (.iload 5, 37, 5, [], .returned) := rfl
theorem e_X10_ranks_37 : lk t_X10_ranks 37 = some (.iload_n 2, 38, 2, [], .returned) := rfl
theorem e_X10_ranks_38 : lk t_X10_ranks 38 = some (.iload_n 3, 39, 3, [], .returned) := rfl
theorem e_X10_ranks_39 : lk t_X10_ranks 39 = some (.invokevirtual 295, 42, 0, [4, 10, 0, 0], .code yX10_wantOf cX10_wantOf 6 (some .int)) := rfl
theorem e_X10_ranks_42 : lk t_X10_ranks 42 = some (.iastore, 43, 0, [], .returned) := rfl
theorem e_X10_ranks_43 : lk t_X10_ranks 43 = some (.iinc 5 1, 46, 5, [], .constant "" 0 (1)) := rfl
theorem e_X10_ranks_46 : lk t_X10_ranks 46 = some (.goto (-43), 49, 3, [], .returned) := rfl
theorem e_X10_ranks_49 : lk t_X10_ranks 49 = some (.aload_n 0, 50, 0, [], .returned) := rfl
theorem e_X10_ranks_50 : lk t_X10_ranks 50 = some (.iload_n 1, 51, 1, [], .returned) := rfl
theorem e_X10_ranks_51 : lk t_X10_ranks 51 = some (.iload_n 2, 52, 2, [], .returned) := rfl
theorem e_X10_ranks_52 : lk t_X10_ranks 52 = some (.iload_n 3, 53, 3, [], .returned) := rfl
theorem e_X10_ranks_53 : lk t_X10_ranks 53 = some (.iload 4, 55, 4, [], .returned) := rfl
theorem e_X10_ranks_55 : lk t_X10_ranks 55 = some (.ldc 235, 57, 0, [], .constant "" 0 (999999)) := rfl
theorem e_X10_ranks_57 : lk t_X10_ranks 57 = some (.invokevirtual 299, 60, 0, [5, 10, 0, 0], .code yX10_nextFloor cX10_nextFloor 8 (some .int)) := rfl
theorem e_X10_ranks_60 : lk t_X10_ranks 60 = some (.istore 5, 62, 5, [], .returned) := rfl
theorem e_X10_ranks_62 : lk t_X10_ranks 62 = some (.iload 5, 64, 5, [], .returned) := rfl
theorem e_X10_ranks_64 : lk t_X10_ranks 64 = some (.iconst (-1), 65, 0, [], .constant "" 0 (-1)) := rfl
theorem e_X10_ranks_65 : lk t_X10_ranks 65 = some (.if_icmp .eq 30, 68, 95, [], .returned) := rfl
theorem e_X10_ranks_68 : lk t_X10_ranks 68 = some (.aload_n 0, 69, 0, [], .returned) := rfl
theorem e_X10_ranks_69 : lk t_X10_ranks 69 = some (.iload_n 1, 70, 1, [], .returned) := rfl
theorem e_X10_ranks_70 : lk t_X10_ranks 70 = some (.iload_n 2, 71, 2, [], .returned) := rfl
theorem e_X10_ranks_71 : lk t_X10_ranks 71 = some (.iload_n 3, 72, 3, [], .returned) := rfl
theorem e_X10_ranks_72 : lk t_X10_ranks 72 = some (.iload 4, 74, 4, [], .returned) := rfl
theorem e_X10_ranks_74 : lk t_X10_ranks 74 = some (.iload 5, 76, 5, [], .returned) := rfl
theorem e_X10_ranks_76 : lk t_X10_ranks 76 = some (.invokevirtual 302, 79, 0, [5, 10, 0, 0], .code yX10_pool cX10_pool 7 none) := rfl
theorem e_X10_ranks_79 : lk t_X10_ranks 79 = some (.aload_n 0, 80, 0, [], .returned) := rfl
theorem e_X10_ranks_80 : lk t_X10_ranks 80 = some (.iload_n 1, 81, 1, [], .returned) := rfl
theorem e_X10_ranks_81 : lk t_X10_ranks 81 = some (.iload_n 2, 82, 2, [], .returned) := rfl
theorem e_X10_ranks_82 : lk t_X10_ranks 82 = some (.iload_n 3, 83, 3, [], .returned) := rfl
theorem e_X10_ranks_83 : lk t_X10_ranks 83 = some (.iload 4, 85, 4, [], .returned) := rfl
theorem e_X10_ranks_85 : lk t_X10_ranks 85 = some (.iload 5, 87, 5, [], .returned) := rfl
theorem e_X10_ranks_87 : lk t_X10_ranks 87 = some (.invokevirtual 299, 90, 0, [5, 10, 0, 0], .code yX10_nextFloor cX10_nextFloor 8 (some .int)) := rfl
theorem e_X10_ranks_90 : lk t_X10_ranks 90 = some (.istore 5, 92, 5, [], .returned) := rfl
theorem e_X10_ranks_92 : lk t_X10_ranks 92 = some (.goto (-30), 95, 62, [], .returned) := rfl
theorem e_X10_ranks_95 : lk t_X10_ranks 95 = some (.return_, 96, 0, [], .returned) := rfl
abbrev q_X10_shares_ : MI := (yX10_shares_, cX10_shares_, 5, none)
def t_X10_shares_ : Tab := [(0, [], (.aload_n 0, 1, 0, [], .returned)),
  (1, [], (.iload_n 3, 2, 3, [], .returned)),
  (2, [1076], (.putfield 262, 5, 10, [27, 0], .returned)),
  (5, [], (.iconst 0, 6, 0, [], .constant "" 0 (0))),
  (6, [], (.istore 4, 8, 4, [], .returned)),
  (8, [], (.iload 4, 10, 4, [], .returned)),
  (10, [], (.bipush 6, 12, 0, [], .constant "" 0 (6))),
  (12, [], (.if_icmp .ge 25, 15, 37, [], .returned)),
  (15, [], (.aload_n 0, 16, 0, [], .returned)),
  (16, [1074], (.getfield 50, 19, 10, [25, 2], .returned)),
  (19, [], (.iload 4, 21, 4, [], .returned)),
  (21, [], (.iconst 0, 22, 0, [], .constant "" 0 (0))),
  (22, [], (.iastore, 23, 0, [], .returned)),
  (23, [], (.aload_n 0, 24, 0, [], .returned)),
  (24, [1075], (.getfield 53, 27, 10, [26, 2], .returned)),
  (27, [], (.iload 4, 29, 4, [], .returned)),
  (29, [], (.iconst 0, 30, 0, [], .constant "" 0 (0))),
  (30, [], (.iastore, 31, 0, [], .returned)),
  (31, [], (.iinc 4 1, 34, 4, [], .constant "" 0 (1))),
  (34, [], (.goto (-26), 37, 8, [], .returned)),
  (37, [], (.iconst 1, 38, 0, [], .constant "" 0 (1))),
  (38, [], (.istore 4, 40, 4, [], .returned)),
  (40, [], (.iload 4, 42, 4, [], .returned)),
  (42, [], (.bipush 9, 44, 0, [], .constant "" 0 (9))),
  (44, [], (.if_icmp .gt 18, 47, 62, [], .returned)),
  (47, [], (.aload_n 0, 48, 0, [], .returned)),
  (48, [], (.iload_n 1, 49, 1, [], .returned)),
  (49, [], (.iload_n 2, 50, 2, [], .returned)),
  (50, [], (.iload_n 3, 51, 3, [], .returned)),
  (51, [], (.iload 4, 53, 4, [], .returned)),
  (53, [1437, 1440, 1439, 72, 102], (.invokevirtual 305, 56, 0, [4, 10, 0, 0], .code yX10_ranks cX10_ranks 6 none)),
  (56, [], (.iinc 4 1, 59, 4, [], .constant "" 0 (1))),
  (59, [], (.goto (-19), 62, 40, [], .returned)),
  (62, [], (.return_, 63, 0, [], .returned))]
theorem ck_X10_shares_ : okT q_X10_shares_ t_X10_shares_ = true := by decide +kernel
theorem e_X10_shares__0 : lk t_X10_shares_ 0 = some (.aload_n 0, 1, 0, [], .returned) := rfl
theorem e_X10_shares__1 : lk t_X10_shares_ 1 = some (.iload_n 3, 2, 3, [], .returned) := rfl
theorem e_X10_shares__2 : lk t_X10_shares_ 2 = some (.putfield 262, 5, 10, [27, 0], .returned) := rfl
theorem e_X10_shares__5 : lk t_X10_shares_ 5 = some (.iconst 0, 6, 0, [], .constant "" 0 (0)) := rfl
theorem e_X10_shares__6 : lk t_X10_shares_ 6 = some (.istore 4, 8, 4, [], .returned) := rfl
theorem e_X10_shares__8 : lk t_X10_shares_ 8 = some (.iload 4, 10, 4, [], .returned) := rfl
theorem e_X10_shares__10 : lk t_X10_shares_ 10 = some (.bipush 6, 12, 0, [], .constant "" 0 (6)) := rfl
theorem e_X10_shares__12 : lk t_X10_shares_ 12 = some (.if_icmp .ge 25, 15, 37, [], .returned) := rfl
theorem e_X10_shares__15 : lk t_X10_shares_ 15 = some (.aload_n 0, 16, 0, [], .returned) := rfl
theorem e_X10_shares__16 : lk t_X10_shares_ 16 = some (.getfield 50, 19, 10, [25, 2], .returned) := rfl
theorem e_X10_shares__19 : lk t_X10_shares_ 19 = some (.iload 4, 21, 4, [], .returned) := rfl
theorem e_X10_shares__21 : lk t_X10_shares_ 21 = some (.iconst 0, 22, 0, [], .constant "" 0 (0)) := rfl
theorem e_X10_shares__22 : lk t_X10_shares_ 22 = some (.iastore, 23, 0, [], .returned) := rfl
theorem e_X10_shares__23 : lk t_X10_shares_ 23 = some (.aload_n 0, 24, 0, [], .returned) := rfl
theorem e_X10_shares__24 : lk t_X10_shares_ 24 = some (.getfield 53, 27, 10, [26, 2], .returned) := rfl
theorem e_X10_shares__27 : lk t_X10_shares_ 27 = some (.iload 4, 29, 4, [], .returned) := rfl
theorem e_X10_shares__29 : lk t_X10_shares_ 29 = some (.iconst 0, 30, 0, [], .constant "" 0 (0)) := rfl
theorem e_X10_shares__30 : lk t_X10_shares_ 30 = some (.iastore, 31, 0, [], .returned) := rfl
theorem e_X10_shares__31 : lk t_X10_shares_ 31 = some (.iinc 4 1, 34, 4, [], .constant "" 0 (1)) := rfl
theorem e_X10_shares__34 : lk t_X10_shares_ 34 = some (.goto (-26), 37, 8, [], .returned) := rfl
theorem e_X10_shares__37 : lk t_X10_shares_ 37 = some (.iconst 1, 38, 0, [], .constant "" 0 (1)) := rfl
theorem e_X10_shares__38 : lk t_X10_shares_ 38 = some (.istore 4, 40, 4, [], .returned) := rfl
theorem e_X10_shares__40 : lk t_X10_shares_ 40 = some (.iload 4, 42, 4, [], .returned) := rfl
theorem e_X10_shares__42 : lk t_X10_shares_ 42 = some (.bipush 9, 44, 0, [], .constant "" 0 (9)) := rfl
theorem e_X10_shares__44 : lk t_X10_shares_ 44 = some (.if_icmp .gt 18, 47, 62, [], .returned) := rfl
theorem e_X10_shares__47 : lk t_X10_shares_ 47 = some (.aload_n 0, 48, 0, [], .returned) := rfl
theorem e_X10_shares__48 : lk t_X10_shares_ 48 = some (.iload_n 1, 49, 1, [], .returned) := rfl
theorem e_X10_shares__49 : lk t_X10_shares_ 49 = some (.iload_n 2, 50, 2, [], .returned) := rfl
theorem e_X10_shares__50 : lk t_X10_shares_ 50 = some (.iload_n 3, 51, 3, [], .returned) := rfl
theorem e_X10_shares__51 : lk t_X10_shares_ 51 = some (.iload 4, 53, 4, [], .returned) := rfl
theorem e_X10_shares__53 : lk t_X10_shares_ 53 = some (.invokevirtual 305, 56, 0, [4, 10, 0, 0], .code yX10_ranks cX10_ranks 6 none) := rfl
theorem e_X10_shares__56 : lk t_X10_shares_ 56 = some (.iinc 4 1, 59, 4, [], .constant "" 0 (1)) := rfl
theorem e_X10_shares__59 : lk t_X10_shares_ 59 = some (.goto (-19), 62, 40, [], .returned) := rfl
theorem e_X10_shares__62 : lk t_X10_shares_ 62 = some (.return_, 63, 0, [], .returned) := rfl
abbrev q_X10_owedThen : MI := (yX10_owedThen, cX10_owedThen, 4, (some .int))
def t_X10_owedThen : Tab := [(0, [], (.aload_n 0, 1, 0, [], .returned)),
  (1, [], (.iload_n 1, 2, 1, [], .returned)),
  (2, [], (.iload_n 2, 3, 2, [], .returned)),
  (3, [1343, 1346, 1345, 60, 102], (.invokevirtual 239, 6, 0, [2, 10, 0, 0], .code yX10_isLive cX10_isLive 3 (some .boolean))),
  (6, [], (.ifCond .eq 12, 9, 18, [], .returned)),
  (9, [], (.aload_n 0, 10, 0, [], .returned)),
  (10, [], (.iload_n 2, 11, 2, [], .returned)),
  (11, [], (.iload_n 3, 12, 3, [], .returned)),
  (12, [1352, 1355, 1354, 62, 102], (.invokevirtual 256, 15, 0, [2, 10, 0, 0], .code yX10_isAt cX10_isAt 3 (some .boolean))),
  (15, [], (.ifCond .ne 14, 18, 29, [], .returned)),
  (18, [], (.aload_n 0, 19, 0, [], .returned)),
  (19, [1067], (.getfield 31, 22, 10, [18, 2], .returned)),
  (22, [], (.iload_n 1, 23, 1, [], .returned)),
  (23, [], (.iload_n 2, 24, 2, [], .returned)),
  (24, [], (.iadd, 25, 0, [], .returned)),
  (25, [], (.iaload, 26, 0, [], .returned)),
  (26, [], (.goto 46, 29, 72, [], .returned)),
  (29, [], (.aload_n 0, 30, 0, [], .returned)),
  (30, [1061], (.getfield 17, 33, 10, [12, 2], .returned)),
  (33, [], (.bipush 69, 35, 0, [], .constant "" 0 (69))),
  (35, [], (.iload_n 2, 36, 2, [], .returned)),
  (36, [], (.iadd, 37, 0, [], .returned)),
  (37, [], (.iaload, 38, 0, [], .returned)),
  (38, [], (.ifCond .ne 21, 41, 59, [], .returned)),
  (41, [], (.aload_n 0, 42, 0, [], .returned)),
  (42, [1067], (.getfield 31, 45, 10, [18, 2], .returned)),
  (45, [], (.iload_n 1, 46, 1, [], .returned)),
  (46, [], (.iload_n 2, 47, 2, [], .returned)),
  (47, [], (.iadd, 48, 0, [], .returned)),
  (48, [], (.iaload, 49, 0, [], .returned)),
  (49, [], (.aload_n 0, 50, 0, [], .returned)),
  (50, [1075], (.getfield 53, 53, 10, [26, 2], .returned)),
  (53, [], (.iload_n 2, 54, 2, [], .returned)),
  (54, [], (.iaload, 55, 0, [], .returned)),
  (55, [], (.isub, 56, 0, [], .returned)),
  (56, [], (.goto 16, 59, 72, [], .returned)),
  (59, [], (.aload_n 0, 60, 0, [], .returned)),
  (60, [1074], (.getfield 50, 63, 10, [25, 2], .returned)),
  (63, [], (.iload_n 2, 64, 2, [], .returned)),
  (64, [], (.iaload, 65, 0, [], .returned)),
  (65, [], (.aload_n 0, 66, 0, [], .returned)),
  (66, [1075], (.getfield 53, 69, 10, [26, 2], .returned)),
  (69, [], (.iload_n 2, 70, 2, [], .returned)),
  (70, [], (.iaload, 71, 0, [], .returned)),
  (71, [], (.isub, 72, 0, [], .returned)),
  (72, [], (.ireturn, 73, 0, [], .returned))]
theorem ck_X10_owedThen : okT q_X10_owedThen t_X10_owedThen = true := by decide +kernel
theorem e_X10_owedThen_0 : lk t_X10_owedThen 0 = some (.aload_n 0, 1, 0, [], .returned) := rfl
theorem e_X10_owedThen_1 : lk t_X10_owedThen 1 = some (.iload_n 1, 2, 1, [], .returned) := rfl
theorem e_X10_owedThen_2 : lk t_X10_owedThen 2 = some (.iload_n 2, 3, 2, [], .returned) := rfl
theorem e_X10_owedThen_3 : lk t_X10_owedThen 3 = some (.invokevirtual 239, 6, 0, [2, 10, 0, 0], .code yX10_isLive cX10_isLive 3 (some .boolean)) := rfl
theorem e_X10_owedThen_6 : lk t_X10_owedThen 6 = some (.ifCond .eq 12, 9, 18, [], .returned) := rfl
theorem e_X10_owedThen_9 : lk t_X10_owedThen 9 = some (.aload_n 0, 10, 0, [], .returned) := rfl
theorem e_X10_owedThen_10 : lk t_X10_owedThen 10 = some (.iload_n 2, 11, 2, [], .returned) := rfl
theorem e_X10_owedThen_11 : lk t_X10_owedThen 11 = some (.iload_n 3, 12, 3, [], .returned) := rfl
theorem e_X10_owedThen_12 : lk t_X10_owedThen 12 = some (.invokevirtual 256, 15, 0, [2, 10, 0, 0], .code yX10_isAt cX10_isAt 3 (some .boolean)) := rfl
theorem e_X10_owedThen_15 : lk t_X10_owedThen 15 = some (.ifCond .ne 14, 18, 29, [], .returned) := rfl
theorem e_X10_owedThen_18 : lk t_X10_owedThen 18 = some (.aload_n 0, 19, 0, [], .returned) := rfl
theorem e_X10_owedThen_19 : lk t_X10_owedThen 19 = some (.getfield 31, 22, 10, [18, 2], .returned) := rfl
theorem e_X10_owedThen_22 : lk t_X10_owedThen 22 = some (.iload_n 1, 23, 1, [], .returned) := rfl
theorem e_X10_owedThen_23 : lk t_X10_owedThen 23 = some (.iload_n 2, 24, 2, [], .returned) := rfl
theorem e_X10_owedThen_24 : lk t_X10_owedThen 24 = some (.iadd, 25, 0, [], .returned) := rfl
theorem e_X10_owedThen_25 : lk t_X10_owedThen 25 = some (.iaload, 26, 0, [], .returned) := rfl
theorem e_X10_owedThen_26 : lk t_X10_owedThen 26 = some (.goto 46, 29, 72, [], .returned) := rfl
theorem e_X10_owedThen_29 : lk t_X10_owedThen 29 = some (.aload_n 0, 30, 0, [], .returned) := rfl
theorem e_X10_owedThen_30 : lk t_X10_owedThen 30 = some (.getfield 17, 33, 10, [12, 2], .returned) := rfl
theorem e_X10_owedThen_33 : lk t_X10_owedThen 33 = some (.bipush 69, 35, 0, [], .constant "" 0 (69)) := rfl
theorem e_X10_owedThen_35 : lk t_X10_owedThen 35 = some (.iload_n 2, 36, 2, [], .returned) := rfl
theorem e_X10_owedThen_36 : lk t_X10_owedThen 36 = some (.iadd, 37, 0, [], .returned) := rfl
theorem e_X10_owedThen_37 : lk t_X10_owedThen 37 = some (.iaload, 38, 0, [], .returned) := rfl
theorem e_X10_owedThen_38 : lk t_X10_owedThen 38 = some (.ifCond .ne 21, 41, 59, [], .returned) := rfl
theorem e_X10_owedThen_41 : lk t_X10_owedThen 41 = some (.aload_n 0, 42, 0, [], .returned) := rfl
theorem e_X10_owedThen_42 : lk t_X10_owedThen 42 = some (.getfield 31, 45, 10, [18, 2], .returned) := rfl
theorem e_X10_owedThen_45 : lk t_X10_owedThen 45 = some (.iload_n 1, 46, 1, [], .returned) := rfl
theorem e_X10_owedThen_46 : lk t_X10_owedThen 46 = some (.iload_n 2, 47, 2, [], .returned) := rfl
theorem e_X10_owedThen_47 : lk t_X10_owedThen 47 = some (.iadd, 48, 0, [], .returned) := rfl
theorem e_X10_owedThen_48 : lk t_X10_owedThen 48 = some (.iaload, 49, 0, [], .returned) := rfl
theorem e_X10_owedThen_49 : lk t_X10_owedThen 49 = some (.aload_n 0, 50, 0, [], .returned) := rfl
theorem e_X10_owedThen_50 : lk t_X10_owedThen 50 = some (.getfield 53, 53, 10, [26, 2], .returned) := rfl
theorem e_X10_owedThen_53 : lk t_X10_owedThen 53 = some (.iload_n 2, 54, 2, [], .returned) := rfl
theorem e_X10_owedThen_54 : lk t_X10_owedThen 54 = some (.iaload, 55, 0, [], .returned) := rfl
theorem e_X10_owedThen_55 : lk t_X10_owedThen 55 = some (.isub, 56, 0, [], .returned) := rfl
theorem e_X10_owedThen_56 : lk t_X10_owedThen 56 = some (.goto 16, 59, 72, [], .returned) := rfl
theorem e_X10_owedThen_59 : lk t_X10_owedThen 59 = some (.aload_n 0, 60, 0, [], .returned) := rfl
theorem e_X10_owedThen_60 : lk t_X10_owedThen 60 = some (.getfield 50, 63, 10, [25, 2], .returned) := rfl
theorem e_X10_owedThen_63 : lk t_X10_owedThen 63 = some (.iload_n 2, 64, 2, [], .returned) := rfl
theorem e_X10_owedThen_64 : lk t_X10_owedThen 64 = some (.iaload, 65, 0, [], .returned) := rfl
theorem e_X10_owedThen_65 : lk t_X10_owedThen 65 = some (.aload_n 0, 66, 0, [], .returned) := rfl
theorem e_X10_owedThen_66 : lk t_X10_owedThen 66 = some (.getfield 53, 69, 10, [26, 2], .returned) := rfl
theorem e_X10_owedThen_69 : lk t_X10_owedThen 69 = some (.iload_n 2, 70, 2, [], .returned) := rfl
theorem e_X10_owedThen_70 : lk t_X10_owedThen 70 = some (.iaload, 71, 0, [], .returned) := rfl
theorem e_X10_owedThen_71 : lk t_X10_owedThen 71 = some (.isub, 72, 0, [], .returned) := rfl
theorem e_X10_owedThen_72 : lk t_X10_owedThen 72 = some (.ireturn, 73, 0, [], .returned) := rfl
abbrev q_X10_pays : MI := (yX10_pays, cX10_pays, 5, none)
def t_X10_pays : Tab := [(0, [], (.aload_n 0, 1, 0, [], .returned)),
  (1, [], (.iload_n 1, 2, 1, [], .returned)),
  (2, [], (.iload_n 2, 3, 2, [], .returned)),
  (3, [], (.iload_n 3, 4, 3, [], .returned)),
  (4, [1433, 1436, 1435, 71, 102], (.invokevirtual 309, 7, 0, [3, 10, 0, 0], .code yX10_shares_ cX10_shares_ 5 none)),
  (7, [], (.iconst 0, 8, 0, [], .constant "" 0 (0))),
  (8, [], (.istore 4, 10, 4, [], .returned)),
  (10, [], (.iload 4, 12, 4, [], .returned)),
  (12, [], (.aload_n 0, 13, 0, [], .returned)),
  (13, [1061], (.getfield 17, 16, 10, [12, 2], .returned)),
  (16, [], (.iconst 5, 17, 0, [], .constant "" 0 (5))),
  (17, [], (.iaload, 18, 0, [], .returned)),
  (18, [], (.if_icmp .ge 45, 21, 63, [], .returned)),
  (21, [], (.aload_n 0, 22, 0, [], .returned)),
  (22, [1067], (.getfield 31, 25, 10, [18, 2], .returned)),
  (25, [], (.iload_n 1, 26, 1, [], .returned)),
  (26, [], (.iload 4, 28, 4, [], .returned)),
  (28, [], (.iadd, 29, 0, [], .returned)),
  (29, [], (.aload_n 0, 30, 0, [], .returned)),
  (30, [], (.iload_n 1, 31, 1, [], .returned)),
  (31, [], (.iload 4, 33, 4, [], .returned)),
  (33, [], (.iload_n 2, 34, 2, [], .returned)),
  (34, [1485, 1488, 1487, 84, 102], (.invokevirtual 312, 37, 0, [3, 10, 0, 0], .code yX10_owedThen cX10_owedThen 4 (some .int))),
  (37, [], (.iastore, 38, 0, [], .returned)),
  (38, [], (.aload_n 0, 39, 0, [], .returned)),
  (39, [1066], (.getfield 28, 42, 10, [17, 2], .returned)),
  (42, [], (.iload_n 1, 43, 1, [], .returned)),
  (43, [], (.iload 4, 45, 4, [], .returned)),
  (45, [], (.iadd, 46, 0, [], .returned)),
  (46, [], (.dup2, 47, 0, [], .returned)),
  (47, [], (.iaload, 48, 0, [], .returned)),
  (48, [], (.aload_n 0, 49, 0, [], .returned)),
  (49, [1075], (.getfield 53, 52, 10, [26, 2], .returned)),
  (52, [], (.iload 4, 54, 4, [], .returned)),
  (54, [], (.iaload, 55, 0, [], .returned)),
  (55, [], (.iadd, 56, 0, [], .returned)),
  (56, [], (.iastore, 57, 0, [], .returned)),
  (57, [], (.iinc 4 1, 60, 4, [], .constant "" 0 (1))),
  (60, [], (.goto (-50), 63, 10, [], .returned)),
  (63, [], (.return_, 64, 0, [], .returned))]
theorem ck_X10_pays : okT q_X10_pays t_X10_pays = true := by decide +kernel
theorem e_X10_pays_0 : lk t_X10_pays 0 = some (.aload_n 0, 1, 0, [], .returned) := rfl
theorem e_X10_pays_1 : lk t_X10_pays 1 = some (.iload_n 1, 2, 1, [], .returned) := rfl
theorem e_X10_pays_2 : lk t_X10_pays 2 = some (.iload_n 2, 3, 2, [], .returned) := rfl
theorem e_X10_pays_3 : lk t_X10_pays 3 = some (.iload_n 3, 4, 3, [], .returned) := rfl
theorem e_X10_pays_4 : lk t_X10_pays 4 = some (.invokevirtual 309, 7, 0, [3, 10, 0, 0], .code yX10_shares_ cX10_shares_ 5 none) := rfl
theorem e_X10_pays_7 : lk t_X10_pays 7 = some (.iconst 0, 8, 0, [], .constant "" 0 (0)) := rfl
theorem e_X10_pays_8 : lk t_X10_pays 8 = some (.istore 4, 10, 4, [], .returned) := rfl
theorem e_X10_pays_10 : lk t_X10_pays 10 = some (.iload 4, 12, 4, [], .returned) := rfl
theorem e_X10_pays_12 : lk t_X10_pays 12 = some (.aload_n 0, 13, 0, [], .returned) := rfl
theorem e_X10_pays_13 : lk t_X10_pays 13 = some (.getfield 17, 16, 10, [12, 2], .returned) := rfl
theorem e_X10_pays_16 : lk t_X10_pays 16 = some (.iconst 5, 17, 0, [], .constant "" 0 (5)) := rfl
theorem e_X10_pays_17 : lk t_X10_pays 17 = some (.iaload, 18, 0, [], .returned) := rfl
theorem e_X10_pays_18 : lk t_X10_pays 18 = some (.if_icmp .ge 45, 21, 63, [], .returned) := rfl
theorem e_X10_pays_21 : lk t_X10_pays 21 = some (.aload_n 0, 22, 0, [], .returned) := rfl
theorem e_X10_pays_22 : lk t_X10_pays 22 = some (.getfield 31, 25, 10, [18, 2], .returned) := rfl
theorem e_X10_pays_25 : lk t_X10_pays 25 = some (.iload_n 1, 26, 1, [], .returned) := rfl
theorem e_X10_pays_26 : lk t_X10_pays 26 = some (.iload 4, 28, 4, [], .returned) := rfl
theorem e_X10_pays_28 : lk t_X10_pays 28 = some (.iadd, 29, 0, [], .returned) := rfl
theorem e_X10_pays_29 : lk t_X10_pays 29 = some (.aload_n 0, 30, 0, [], .returned) := rfl
theorem e_X10_pays_30 : lk t_X10_pays 30 = some (.iload_n 1, 31, 1, [], .returned) := rfl
theorem e_X10_pays_31 : lk t_X10_pays 31 = some (.iload 4, 33, 4, [], .returned) := rfl
theorem e_X10_pays_33 : lk t_X10_pays 33 = some (.iload_n 2, 34, 2, [], .returned) := rfl
theorem e_X10_pays_34 : lk t_X10_pays 34 = some (.invokevirtual 312, 37, 0, [3, 10, 0, 0], .code yX10_owedThen cX10_owedThen 4 (some .int)) := rfl
theorem e_X10_pays_37 : lk t_X10_pays 37 = some (.iastore, 38, 0, [], .returned) := rfl
theorem e_X10_pays_38 : lk t_X10_pays 38 = some (.aload_n 0, 39, 0, [], .returned) := rfl
theorem e_X10_pays_39 : lk t_X10_pays 39 = some (.getfield 28, 42, 10, [17, 2], .returned) := rfl
theorem e_X10_pays_42 : lk t_X10_pays 42 = some (.iload_n 1, 43, 1, [], .returned) := rfl
theorem e_X10_pays_43 : lk t_X10_pays 43 = some (.iload 4, 45, 4, [], .returned) := rfl
theorem e_X10_pays_45 : lk t_X10_pays 45 = some (.iadd, 46, 0, [], .returned) := rfl
theorem e_X10_pays_46 : lk t_X10_pays 46 = some (.dup2, 47, 0, [], .returned) := rfl
theorem e_X10_pays_47 : lk t_X10_pays 47 = some (.iaload, 48, 0, [], .returned) := rfl
theorem e_X10_pays_48 : lk t_X10_pays 48 = some (.aload_n 0, 49, 0, [], .returned) := rfl
theorem e_X10_pays_49 : lk t_X10_pays 49 = some (.getfield 53, 52, 10, [26, 2], .returned) := rfl
theorem e_X10_pays_52 : lk t_X10_pays 52 = some (.iload 4, 54, 4, [], .returned) := rfl
theorem e_X10_pays_54 : lk t_X10_pays 54 = some (.iaload, 55, 0, [], .returned) := rfl
theorem e_X10_pays_55 : lk t_X10_pays 55 = some (.iadd, 56, 0, [], .returned) := rfl
theorem e_X10_pays_56 : lk t_X10_pays 56 = some (.iastore, 57, 0, [], .returned) := rfl
theorem e_X10_pays_57 : lk t_X10_pays 57 = some (.iinc 4 1, 60, 4, [], .constant "" 0 (1)) := rfl
theorem e_X10_pays_60 : lk t_X10_pays 60 = some (.goto (-50), 63, 10, [], .returned) := rfl
theorem e_X10_pays_63 : lk t_X10_pays 63 = some (.return_, 64, 0, [], .returned) := rfl
abbrev q_X10_isOrder : MI := (yX10_isOrder, cX10_isOrder, 2, (some .boolean))
def t_X10_isOrder : Tab := [(0, [], (.aload_n 0, 1, 0, [], .returned)),
  (1, [1064], (.getfield 224, 4, 10, [15, 0], .returned)),
  (4, [], (.ifCond .eq 23, 7, 27, [], .returned)),
  (7, [], (.iload_n 1, 8, 1, [], .returned)),
  (8, [], (.iconst 0, 9, 0, [], .constant "" 0 (0))),
  (9, [], (.aload_n 0, 10, 0, [], .returned)),
  (10, [1061], (.getfield 17, 13, 10, [12, 2], .returned)),
  (13, [], (.iconst 5, 14, 0, [], .constant "" 0 (5))),
  (14, [], (.iaload, 15, 0, [], .returned)),
  (15, [], (.iconst 1, 16, 0, [], .constant "" 0 (1))),
  (16, [], (.isub, 17, 0, [], .returned)),
  (17, [1174, 1176, 1175, 102], (.invokestatic 90, 20, 0, [3, 0, 0], .code yX10_in cX10_in 3 (some .boolean))),
  (20, [], (.ifCond .eq 7, 23, 27, [], .returned)),
  (23, [], (.iconst 1, 24, 0, [], .constant "" 0 (1))),
  (24, [], (.goto 4, 27, 28, [], .returned)),
  (27, [], (.iconst 0, 28, 0, [], .constant "" 0 (0))),
  (28, [], (.ireturn, 29, 1, [], .returned))]
theorem ck_X10_isOrder : okT q_X10_isOrder t_X10_isOrder = true := by decide +kernel
theorem e_X10_isOrder_0 : lk t_X10_isOrder 0 = some (.aload_n 0, 1, 0, [], .returned) := rfl
theorem e_X10_isOrder_1 : lk t_X10_isOrder 1 = some (.getfield 224, 4, 10, [15, 0], .returned) := rfl
theorem e_X10_isOrder_4 : lk t_X10_isOrder 4 = some (.ifCond .eq 23, 7, 27, [], .returned) := rfl
theorem e_X10_isOrder_7 : lk t_X10_isOrder 7 = some (.iload_n 1, 8, 1, [], .returned) := rfl
theorem e_X10_isOrder_8 : lk t_X10_isOrder 8 = some (.iconst 0, 9, 0, [], .constant "" 0 (0)) := rfl
theorem e_X10_isOrder_9 : lk t_X10_isOrder 9 = some (.aload_n 0, 10, 0, [], .returned) := rfl
theorem e_X10_isOrder_10 : lk t_X10_isOrder 10 = some (.getfield 17, 13, 10, [12, 2], .returned) := rfl
theorem e_X10_isOrder_13 : lk t_X10_isOrder 13 = some (.iconst 5, 14, 0, [], .constant "" 0 (5)) := rfl
theorem e_X10_isOrder_14 : lk t_X10_isOrder 14 = some (.iaload, 15, 0, [], .returned) := rfl
theorem e_X10_isOrder_15 : lk t_X10_isOrder 15 = some (.iconst 1, 16, 0, [], .constant "" 0 (1)) := rfl
theorem e_X10_isOrder_16 : lk t_X10_isOrder 16 = some (.isub, 17, 0, [], .returned) := rfl
theorem e_X10_isOrder_17 : lk t_X10_isOrder 17 = some (.invokestatic 90, 20, 0, [3, 0, 0], .code yX10_in cX10_in 3 (some .boolean)) := rfl
theorem e_X10_isOrder_20 : lk t_X10_isOrder 20 = some (.ifCond .eq 7, 23, 27, [], .returned) := rfl
theorem e_X10_isOrder_23 : lk t_X10_isOrder 23 = some (.iconst 1, 24, 0, [], .constant "" 0 (1)) := rfl
theorem e_X10_isOrder_24 : lk t_X10_isOrder 24 = some (.goto 4, 27, 28, [], .returned) := rfl
theorem e_X10_isOrder_27 : lk t_X10_isOrder 27 = some (.iconst 0, 28, 0, [], .constant "" 0 (0)) := rfl
theorem e_X10_isOrder_28 : lk t_X10_isOrder 28 = some (.ireturn, 29, 1, [], .returned) := rfl
