abbrev q_X0_init : MI := (yX0_init, cX0_init, 2, none)
def t_X0_init : Tab := [(0, [], (.aload_n 0, 1, 0, [], .returned)),
  (1, [325, 120, 119], (.invokespecial 3, 4, 1, [], .returned)),
  (4, [], (.aload_n 0, 5, 0, [], .returned)),
  (5, [], (.iconst 3, 6, 0, [], .constant "" 0 (3))),
  (6, [326, 327], (.anewarray 9, 9, 4, [], .classLink "" 0 "PayOrders$Table")),
  (9, [383], (.putfield 11, 12, 0, [0, 2], .returned)),
  (12, [], (.aload_n 0, 13, 0, [], .returned)),
  (13, [], (.iconst 3, 14, 0, [], .constant "" 0 (3))),
  (14, [328, 329], (.anewarray 17, 17, 5, [], .classLink "" 0 "PayOrders$Payer")),
  (17, [387], (.putfield 19, 20, 0, [1, 2], .returned)),
  (20, [], (.aload_n 0, 21, 0, [], .returned)),
  (21, [], (.bipush 6, 23, 0, [], .constant "" 0 (6))),
  (23, [330, 231], (.anewarray 23, 26, 6, [], .classLink "" 0 "PayOrders$Order")),
  (26, [392], (.putfield 25, 29, 0, [2, 2], .returned)),
  (29, [], (.iconst 0, 30, 0, [], .constant "" 0 (0))),
  (30, [], (.istore_n 1, 31, 1, [], .returned)),
  (31, [], (.iload_n 1, 32, 1, [], .returned)),
  (32, [], (.iconst 3, 33, 0, [], .constant "" 0 (3))),
  (33, [], (.if_icmp .ge 22, 36, 55, [], .returned)),
  (36, [], (.aload_n 0, 37, 0, [], .returned)),
  (37, [383], (.getfield 11, 40, 0, [0, 2], .returned)),
  (40, [], (.iload_n 1, 41, 1, [], .returned)),
  (41, [326, 331, 100], (.new 9, 44, 5, [], .returned)),
  (44, [], (.dup, 45, 0, [], .returned)),
  (45, [332, 334, 333, 100], (.invokespecial 29, 48, 0, [0, 2, 12], .code yX5_init cX5_init 1 none)),
  (48, [], (.aastore, 49, 0, [], .returned)),
  (49, [], (.iinc 1 1, 52, 1, [], .constant "" 0 (1))),
  (52, [], (.goto (-21), 55, 31, [], .returned)),
  (55, [], (.iconst 0, 56, 0, [], .constant "" 0 (0))),
  (56, [], (.istore_n 1, 57, 1, [], .returned)),
  (57, [], (.iload_n 1, 58, 1, [], .returned)),
  (58, [], (.iconst 3, 59, 0, [], .constant "" 0 (3))),
  (59, [], (.if_icmp .ge 22, 62, 81, [], .returned)),
  (62, [], (.aload_n 0, 63, 0, [], .returned)),
  (63, [387], (.getfield 19, 66, 0, [1, 2], .returned)),
  (66, [], (.iload_n 1, 67, 1, [], .returned)),
  (67, [328, 355, 101], (.new 17, 70, 4, [], .returned)),
  (70, [], (.dup, 71, 0, [], .returned)),
  (71, [356, 358, 357, 101], (.invokespecial 30, 74, 0, [0, 0, 0], .code yX4_init cX4_init 1 none)),
  (74, [], (.aastore, 75, 0, [], .returned)),
  (75, [], (.iinc 1 1, 78, 1, [], .constant "" 0 (1))),
  (78, [], (.goto (-21), 81, 57, [], .returned)),
  (81, [], (.iconst 0, 82, 0, [], .constant "" 0 (0))),
  (82, [], (.istore_n 1, 83, 1, [], .returned)),
  (83, [], (.iload_n 1, 84, 1, [], .returned)),
  (84, [], (.bipush 6, 86, 0, [], .constant "" 0 (6))),
  (86, [], (.if_icmp .ge 22, 89, 108, [], .returned)),
  (89, [], (.aload_n 0, 90, 0, [], .returned)),
  (90, [392], (.getfield 25, 93, 0, [2, 2], .returned)),
  (93, [], (.iload_n 1, 94, 1, [], .returned)),
  (94, [330, 234, 97], (.new 23, 97, 3, [], .returned)),
  (97, [], (.dup, 98, 0, [], .returned)),
  (98, [382, 237, 236, 97], (.invokespecial 31, 101, 0, [0, 0, 0], .code yX3_init cX3_init 1 none)),
  (101, [], (.aastore, 102, 0, [], .returned)),
  (102, [], (.iinc 1 1, 105, 1, [], .constant "" 0 (1))),
  (105, [], (.goto (-22), 108, 83, [], .returned)),
  (108, [], (.return_, 109, 0, [], .returned))]
theorem ck_X0_init : okT q_X0_init t_X0_init = true := by decide +kernel
theorem e_X0_init_0 : lk t_X0_init 0 = some (.aload_n 0, 1, 0, [], .returned) := rfl
theorem e_X0_init_1 : lk t_X0_init 1 = some (.invokespecial 3, 4, 1, [], .returned) := rfl
theorem e_X0_init_4 : lk t_X0_init 4 = some (.aload_n 0, 5, 0, [], .returned) := rfl
theorem e_X0_init_5 : lk t_X0_init 5 = some (.iconst 3, 6, 0, [], .constant "" 0 (3)) := rfl
theorem e_X0_init_6 : lk t_X0_init 6 = some (.anewarray 9, 9, 4, [], .classLink "" 0 "PayOrders$Table") := rfl
theorem e_X0_init_9 : lk t_X0_init 9 = some (.putfield 11, 12, 0, [0, 2], .returned) := rfl
theorem e_X0_init_12 : lk t_X0_init 12 = some (.aload_n 0, 13, 0, [], .returned) := rfl
theorem e_X0_init_13 : lk t_X0_init 13 = some (.iconst 3, 14, 0, [], .constant "" 0 (3)) := rfl
theorem e_X0_init_14 : lk t_X0_init 14 = some (.anewarray 17, 17, 5, [], .classLink "" 0 "PayOrders$Payer") := rfl
theorem e_X0_init_17 : lk t_X0_init 17 = some (.putfield 19, 20, 0, [1, 2], .returned) := rfl
theorem e_X0_init_20 : lk t_X0_init 20 = some (.aload_n 0, 21, 0, [], .returned) := rfl
theorem e_X0_init_21 : lk t_X0_init 21 = some (.bipush 6, 23, 0, [], .constant "" 0 (6)) := rfl
theorem e_X0_init_23 : lk t_X0_init 23 = some (.anewarray 23, 26, 6, [], .classLink "" 0 "PayOrders$Order") := rfl
theorem e_X0_init_26 : lk t_X0_init 26 = some (.putfield 25, 29, 0, [2, 2], .returned) := rfl
theorem e_X0_init_29 : lk t_X0_init 29 = some (.iconst 0, 30, 0, [], .constant "" 0 (0)) := rfl
theorem e_X0_init_30 : lk t_X0_init 30 = some (.istore_n 1, 31, 1, [], .returned) := rfl
theorem e_X0_init_31 : lk t_X0_init 31 = some (.iload_n 1, 32, 1, [], .returned) := rfl
theorem e_X0_init_32 : lk t_X0_init 32 = some (.iconst 3, 33, 0, [], .constant "" 0 (3)) := rfl
theorem e_X0_init_33 : lk t_X0_init 33 = some (.if_icmp .ge 22, 36, 55, [], .returned) := rfl
theorem e_X0_init_36 : lk t_X0_init 36 = some (.aload_n 0, 37, 0, [], .returned) := rfl
theorem e_X0_init_37 : lk t_X0_init 37 = some (.getfield 11, 40, 0, [0, 2], .returned) := rfl
theorem e_X0_init_40 : lk t_X0_init 40 = some (.iload_n 1, 41, 1, [], .returned) := rfl
theorem e_X0_init_41 : lk t_X0_init 41 = some (.new 9, 44, 5, [], .returned) := rfl
theorem e_X0_init_44 : lk t_X0_init 44 = some (.dup, 45, 0, [], .returned) := rfl
theorem e_X0_init_45 : lk t_X0_init 45 = some (.invokespecial 29, 48, 0, [0, 2, 12], .code yX5_init cX5_init 1 none) := rfl
theorem e_X0_init_48 : lk t_X0_init 48 = some (.aastore, 49, 0, [], .returned) := rfl
theorem e_X0_init_49 : lk t_X0_init 49 = some (.iinc 1 1, 52, 1, [], .constant "" 0 (1)) := rfl
theorem e_X0_init_52 : lk t_X0_init 52 = some (.goto (-21), 55, 31, [], .returned) := rfl
theorem e_X0_init_55 : lk t_X0_init 55 = some (.iconst 0, 56, 0, [], .constant "" 0 (0)) := rfl
theorem e_X0_init_56 : lk t_X0_init 56 = some (.istore_n 1, 57, 1, [], .returned) := rfl
theorem e_X0_init_57 : lk t_X0_init 57 = some (.iload_n 1, 58, 1, [], .returned) := rfl
theorem e_X0_init_58 : lk t_X0_init 58 = some (.iconst 3, 59, 0, [], .constant "" 0 (3)) := rfl
theorem e_X0_init_59 : lk t_X0_init 59 = some (.if_icmp .ge 22, 62, 81, [], .returned) := rfl
theorem e_X0_init_62 : lk t_X0_init 62 = some (.aload_n 0, 63, 0, [], .returned) := rfl
theorem e_X0_init_63 : lk t_X0_init 63 = some (.getfield 19, 66, 0, [1, 2], .returned) := rfl
theorem e_X0_init_66 : lk t_X0_init 66 = some (.iload_n 1, 67, 1, [], .returned) := rfl
theorem e_X0_init_67 : lk t_X0_init 67 = some (.new 17, 70, 4, [], .returned) := rfl
theorem e_X0_init_70 : lk t_X0_init 70 = some (.dup, 71, 0, [], .returned) := rfl
theorem e_X0_init_71 : lk t_X0_init 71 = some (.invokespecial 30, 74, 0, [0, 0, 0], .code yX4_init cX4_init 1 none) := rfl
theorem e_X0_init_74 : lk t_X0_init 74 = some (.aastore, 75, 0, [], .returned) := rfl
theorem e_X0_init_75 : lk t_X0_init 75 = some (.iinc 1 1, 78, 1, [], .constant "" 0 (1)) := rfl
theorem e_X0_init_78 : lk t_X0_init 78 = some (.goto (-21), 81, 57, [], .returned) := rfl
theorem e_X0_init_81 : lk t_X0_init 81 = some (.iconst 0, 82, 0, [], .constant "" 0 (0)) := rfl
theorem e_X0_init_82 : lk t_X0_init 82 = some (.istore_n 1, 83, 1, [], .returned) := rfl
theorem e_X0_init_83 : lk t_X0_init 83 = some (.iload_n 1, 84, 1, [], .returned) := rfl
theorem e_X0_init_84 : lk t_X0_init 84 = some (.bipush 6, 86, 0, [], .constant "" 0 (6)) := rfl
theorem e_X0_init_86 : lk t_X0_init 86 = some (.if_icmp .ge 22, 89, 108, [], .returned) := rfl
theorem e_X0_init_89 : lk t_X0_init 89 = some (.aload_n 0, 90, 0, [], .returned) := rfl
theorem e_X0_init_90 : lk t_X0_init 90 = some (.getfield 25, 93, 0, [2, 2], .returned) := rfl
theorem e_X0_init_93 : lk t_X0_init 93 = some (.iload_n 1, 94, 1, [], .returned) := rfl
theorem e_X0_init_94 : lk t_X0_init 94 = some (.new 23, 97, 3, [], .returned) := rfl
theorem e_X0_init_97 : lk t_X0_init 97 = some (.dup, 98, 0, [], .returned) := rfl
theorem e_X0_init_98 : lk t_X0_init 98 = some (.invokespecial 31, 101, 0, [0, 0, 0], .code yX3_init cX3_init 1 none) := rfl
theorem e_X0_init_101 : lk t_X0_init 101 = some (.aastore, 102, 0, [], .returned) := rfl
theorem e_X0_init_102 : lk t_X0_init 102 = some (.iinc 1 1, 105, 1, [], .constant "" 0 (1)) := rfl
theorem e_X0_init_105 : lk t_X0_init 105 = some (.goto (-22), 108, 83, [], .returned) := rfl
theorem e_X0_init_108 : lk t_X0_init 108 = some (.return_, 109, 0, [], .returned) := rfl
abbrev q_X0_clear : MI := (yX0_clear, cX0_clear, 1, none)
def t_X0_clear : Tab := [(0, [], (.aload_n 0, 1, 0, [], .returned)),
  (1, [], (.iconst 0, 2, 0, [], .constant "" 0 (0))),
  (2, [396], (.putfield 32, 5, 0, [3, 0], .returned)),
  (5, [], (.aload_n 0, 6, 0, [], .returned)),
  (6, [], (.iconst 0, 7, 0, [], .constant "" 0 (0))),
  (7, [399], (.putfield 36, 10, 0, [4, 0], .returned)),
  (10, [], (.aload_n 0, 11, 0, [], .returned)),
  (11, [], (.iconst 0, 12, 0, [], .constant "" 0 (0))),
  (12, [404], (.putfield 39, 15, 0, [5, 0], .returned)),
  (15, [], (.aload_n 0, 16, 0, [], .returned)),
  (16, [], (.iconst 0, 17, 0, [], .constant "" 0 (0))),
  (17, [417], (.putfield 42, 20, 0, [9, 0], .returned)),
  (20, [], (.return_, 21, 0, [], .returned))]
theorem ck_X0_clear : okT q_X0_clear t_X0_clear = true := by decide +kernel
theorem e_X0_clear_0 : lk t_X0_clear 0 = some (.aload_n 0, 1, 0, [], .returned) := rfl
theorem e_X0_clear_1 : lk t_X0_clear 1 = some (.iconst 0, 2, 0, [], .constant "" 0 (0)) := rfl
theorem e_X0_clear_2 : lk t_X0_clear 2 = some (.putfield 32, 5, 0, [3, 0], .returned) := rfl
theorem e_X0_clear_5 : lk t_X0_clear 5 = some (.aload_n 0, 6, 0, [], .returned) := rfl
theorem e_X0_clear_6 : lk t_X0_clear 6 = some (.iconst 0, 7, 0, [], .constant "" 0 (0)) := rfl
theorem e_X0_clear_7 : lk t_X0_clear 7 = some (.putfield 36, 10, 0, [4, 0], .returned) := rfl
theorem e_X0_clear_10 : lk t_X0_clear 10 = some (.aload_n 0, 11, 0, [], .returned) := rfl
theorem e_X0_clear_11 : lk t_X0_clear 11 = some (.iconst 0, 12, 0, [], .constant "" 0 (0)) := rfl
theorem e_X0_clear_12 : lk t_X0_clear 12 = some (.putfield 39, 15, 0, [5, 0], .returned) := rfl
theorem e_X0_clear_15 : lk t_X0_clear 15 = some (.aload_n 0, 16, 0, [], .returned) := rfl
theorem e_X0_clear_16 : lk t_X0_clear 16 = some (.iconst 0, 17, 0, [], .constant "" 0 (0)) := rfl
theorem e_X0_clear_17 : lk t_X0_clear 17 = some (.putfield 42, 20, 0, [9, 0], .returned) := rfl
theorem e_X0_clear_20 : lk t_X0_clear 20 = some (.return_, 21, 0, [], .returned) := rfl
abbrev q_X0_isOpen : MI := (yX0_isOpen, cX0_isOpen, 1, (some .boolean))
def t_X0_isOpen : Tab := [(0, [], (.aload_n 0, 1, 0, [], .returned)),
  (1, [399], (.getfield 36, 4, 0, [4, 0], .returned)),
  (4, [], (.ifCond .le 7, 7, 11, [], .returned)),
  (7, [], (.iconst 1, 8, 0, [], .constant "" 0 (1))),
  (8, [], (.goto 4, 11, 12, [], .returned)),
  (11, [], (.iconst 0, 12, 0, [], .constant "" 0 (0))),
  (12, [], (.ireturn, 13, 1, [], .returned))]
theorem ck_X0_isOpen : okT q_X0_isOpen t_X0_isOpen = true := by decide +kernel
theorem e_X0_isOpen_0 : lk t_X0_isOpen 0 = some (.aload_n 0, 1, 0, [], .returned) := rfl
theorem e_X0_isOpen_1 : lk t_X0_isOpen 1 = some (.getfield 36, 4, 0, [4, 0], .returned) := rfl
theorem e_X0_isOpen_4 : lk t_X0_isOpen 4 = some (.ifCond .le 7, 7, 11, [], .returned) := rfl
theorem e_X0_isOpen_7 : lk t_X0_isOpen 7 = some (.iconst 1, 8, 0, [], .constant "" 0 (1)) := rfl
theorem e_X0_isOpen_8 : lk t_X0_isOpen 8 = some (.goto 4, 11, 12, [], .returned) := rfl
theorem e_X0_isOpen_11 : lk t_X0_isOpen 11 = some (.iconst 0, 12, 0, [], .constant "" 0 (0)) := rfl
theorem e_X0_isOpen_12 : lk t_X0_isOpen 12 = some (.ireturn, 13, 1, [], .returned) := rfl
abbrev q_X0_hasTable : MI := (yX0_hasTable, cX0_hasTable, 2, (some .boolean))
def t_X0_hasTable : Tab := [(0, [], (.iload_n 1, 1, 1, [], .returned)),
  (1, [], (.ifCond .lt 15, 4, 16, [], .returned)),
  (4, [], (.iload_n 1, 5, 1, [], .returned)),
  (5, [], (.aload_n 0, 6, 0, [], .returned)),
  (6, [396], (.getfield 32, 9, 0, [3, 0], .returned)),
  (9, [], (.if_icmp .ge 7, 12, 16, [], .returned)),
  (12, [], (.iconst 1, 13, 0, [], .constant "" 0 (1))),
  (13, [], (.goto 4, 16, 17, [], .returned)),
  (16, [], (.iconst 0, 17, 0, [], .constant "" 0 (0))),
  (17, [], (.ireturn, 18, 1, [], .returned))]
theorem ck_X0_hasTable : okT q_X0_hasTable t_X0_hasTable = true := by decide +kernel
theorem e_X0_hasTable_0 : lk t_X0_hasTable 0 = some (.iload_n 1, 1, 1, [], .returned) := rfl
theorem e_X0_hasTable_1 : lk t_X0_hasTable 1 = some (.ifCond .lt 15, 4, 16, [], .returned) := rfl
theorem e_X0_hasTable_4 : lk t_X0_hasTable 4 = some (.iload_n 1, 5, 1, [], .returned) := rfl
theorem e_X0_hasTable_5 : lk t_X0_hasTable 5 = some (.aload_n 0, 6, 0, [], .returned) := rfl
theorem e_X0_hasTable_6 : lk t_X0_hasTable 6 = some (.getfield 32, 9, 0, [3, 0], .returned) := rfl
theorem e_X0_hasTable_9 : lk t_X0_hasTable 9 = some (.if_icmp .ge 7, 12, 16, [], .returned) := rfl
theorem e_X0_hasTable_12 : lk t_X0_hasTable 12 = some (.iconst 1, 13, 0, [], .constant "" 0 (1)) := rfl
theorem e_X0_hasTable_13 : lk t_X0_hasTable 13 = some (.goto 4, 16, 17, [], .returned) := rfl
theorem e_X0_hasTable_16 : lk t_X0_hasTable 16 = some (.iconst 0, 17, 0, [], .constant "" 0 (0)) := rfl
theorem e_X0_hasTable_17 : lk t_X0_hasTable 17 = some (.ireturn, 18, 1, [], .returned) := rfl
abbrev q_X0_hasPayer : MI := (yX0_hasPayer, cX0_hasPayer, 2, (some .boolean))
def t_X0_hasPayer : Tab := [(0, [], (.iload_n 1, 1, 1, [], .returned)),
  (1, [], (.ifCond .lt 15, 4, 16, [], .returned)),
  (4, [], (.iload_n 1, 5, 1, [], .returned)),
  (5, [], (.aload_n 0, 6, 0, [], .returned)),
  (6, [399], (.getfield 36, 9, 0, [4, 0], .returned)),
  (9, [], (.if_icmp .ge 7, 12, 16, [], .returned)),
  (12, [], (.iconst 1, 13, 0, [], .constant "" 0 (1))),
  (13, [], (.goto 4, 16, 17, [], .returned)),
  (16, [], (.iconst 0, 17, 0, [], .constant "" 0 (0))),
  (17, [], (.ireturn, 18, 1, [], .returned))]
theorem ck_X0_hasPayer : okT q_X0_hasPayer t_X0_hasPayer = true := by decide +kernel
theorem e_X0_hasPayer_0 : lk t_X0_hasPayer 0 = some (.iload_n 1, 1, 1, [], .returned) := rfl
theorem e_X0_hasPayer_1 : lk t_X0_hasPayer 1 = some (.ifCond .lt 15, 4, 16, [], .returned) := rfl
theorem e_X0_hasPayer_4 : lk t_X0_hasPayer 4 = some (.iload_n 1, 5, 1, [], .returned) := rfl
theorem e_X0_hasPayer_5 : lk t_X0_hasPayer 5 = some (.aload_n 0, 6, 0, [], .returned) := rfl
theorem e_X0_hasPayer_6 : lk t_X0_hasPayer 6 = some (.getfield 36, 9, 0, [4, 0], .returned) := rfl
theorem e_X0_hasPayer_9 : lk t_X0_hasPayer 9 = some (.if_icmp .ge 7, 12, 16, [], .returned) := rfl
theorem e_X0_hasPayer_12 : lk t_X0_hasPayer 12 = some (.iconst 1, 13, 0, [], .constant "" 0 (1)) := rfl
theorem e_X0_hasPayer_13 : lk t_X0_hasPayer 13 = some (.goto 4, 16, 17, [], .returned) := rfl
theorem e_X0_hasPayer_16 : lk t_X0_hasPayer 16 = some (.iconst 0, 17, 0, [], .constant "" 0 (0)) := rfl
theorem e_X0_hasPayer_17 : lk t_X0_hasPayer 17 = some (.ireturn, 18, 1, [], .returned) := rfl
abbrev q_X0_hasOrder : MI := (yX0_hasOrder, cX0_hasOrder, 2, (some .boolean))
def t_X0_hasOrder : Tab := [(0, [], (.iload_n 1, 1, 1, [], .returned)),
  (1, [], (.ifCond .lt 15, 4, 16, [], .returned)),
  (4, [], (.iload_n 1, 5, 1, [], .returned)),
  (5, [], (.aload_n 0, 6, 0, [], .returned)),
  (6, [404], (.getfield 39, 9, 0, [5, 0], .returned)),
  (9, [], (.if_icmp .ge 7, 12, 16, [], .returned)),
  (12, [], (.iconst 1, 13, 0, [], .constant "" 0 (1))),
  (13, [], (.goto 4, 16, 17, [], .returned)),
  (16, [], (.iconst 0, 17, 0, [], .constant "" 0 (0))),
  (17, [], (.ireturn, 18, 1, [], .returned))]
theorem ck_X0_hasOrder : okT q_X0_hasOrder t_X0_hasOrder = true := by decide +kernel
theorem e_X0_hasOrder_0 : lk t_X0_hasOrder 0 = some (.iload_n 1, 1, 1, [], .returned) := rfl
theorem e_X0_hasOrder_1 : lk t_X0_hasOrder 1 = some (.ifCond .lt 15, 4, 16, [], .returned) := rfl
theorem e_X0_hasOrder_4 : lk t_X0_hasOrder 4 = some (.iload_n 1, 5, 1, [], .returned) := rfl
theorem e_X0_hasOrder_5 : lk t_X0_hasOrder 5 = some (.aload_n 0, 6, 0, [], .returned) := rfl
theorem e_X0_hasOrder_6 : lk t_X0_hasOrder 6 = some (.getfield 39, 9, 0, [5, 0], .returned) := rfl
theorem e_X0_hasOrder_9 : lk t_X0_hasOrder 9 = some (.if_icmp .ge 7, 12, 16, [], .returned) := rfl
theorem e_X0_hasOrder_12 : lk t_X0_hasOrder 12 = some (.iconst 1, 13, 0, [], .constant "" 0 (1)) := rfl
theorem e_X0_hasOrder_13 : lk t_X0_hasOrder 13 = some (.goto 4, 16, 17, [], .returned) := rfl
theorem e_X0_hasOrder_16 : lk t_X0_hasOrder 16 = some (.iconst 0, 17, 0, [], .constant "" 0 (0)) := rfl
theorem e_X0_hasOrder_17 : lk t_X0_hasOrder 17 = some (.ireturn, 18, 1, [], .returned) := rfl
abbrev q_X0_payersOf : MI := (yX0_payersOf, cX0_payersOf, 2, (some .int))
def t_X0_payersOf : Tab := [(0, [], (.aload_n 1, 1, 1, [], .returned)),
  (1, [259], (.getfield 45, 4, 3, [5, 0], .returned)),
  (4, [], (.iconst 1, 5, 0, [], .constant "" 0 (1))),
  (5, [], (.aload_n 0, 6, 0, [], .returned)),
  (6, [399], (.getfield 36, 9, 0, [4, 0], .returned)),
  (9, [], (.ishl, 10, 0, [], .returned)),
  (10, [], (.iconst 1, 11, 0, [], .constant "" 0 (1))),
  (11, [], (.isub, 12, 0, [], .returned)),
  (12, [], (.iand, 13, 0, [], .returned)),
  (13, [], (.ireturn, 14, 0, [], .returned))]
theorem ck_X0_payersOf : okT q_X0_payersOf t_X0_payersOf = true := by decide +kernel
theorem e_X0_payersOf_0 : lk t_X0_payersOf 0 = some (.aload_n 1, 1, 1, [], .returned) := rfl
theorem e_X0_payersOf_1 : lk t_X0_payersOf 1 = some (.getfield 45, 4, 3, [5, 0], .returned) := rfl
theorem e_X0_payersOf_4 : lk t_X0_payersOf 4 = some (.iconst 1, 5, 0, [], .constant "" 0 (1)) := rfl
theorem e_X0_payersOf_5 : lk t_X0_payersOf 5 = some (.aload_n 0, 6, 0, [], .returned) := rfl
theorem e_X0_payersOf_6 : lk t_X0_payersOf 6 = some (.getfield 36, 9, 0, [4, 0], .returned) := rfl
theorem e_X0_payersOf_9 : lk t_X0_payersOf 9 = some (.ishl, 10, 0, [], .returned) := rfl
theorem e_X0_payersOf_10 : lk t_X0_payersOf 10 = some (.iconst 1, 11, 0, [], .constant "" 0 (1)) := rfl
theorem e_X0_payersOf_11 : lk t_X0_payersOf 11 = some (.isub, 12, 0, [], .returned) := rfl
theorem e_X0_payersOf_12 : lk t_X0_payersOf 12 = some (.iand, 13, 0, [], .returned) := rfl
theorem e_X0_payersOf_13 : lk t_X0_payersOf 13 = some (.ireturn, 14, 0, [], .returned) := rfl
abbrev q_X0_floorOf : MI := (yX0_floorOf, cX0_floorOf, 4, (some .int))
def t_X0_floorOf : Tab := [(0, [], (.aload_n 0, 1, 0, [], .returned)),
  (1, [413], (.getfield 47, 4, 0, [7, 0], .returned)),
  (4, [], (.iload_n 2, 5, 2, [], .returned)),
  (5, [], (.imul, 6, 0, [], .returned)),
  (6, [], (.bipush 99, 8, 0, [], .constant "" 0 (99))),
  (8, [], (.iadd, 9, 0, [], .returned)),
  (9, [], (.bipush 100, 11, 0, [], .constant "" 0 (100))),
  (11, [], (.idiv, 12, 0, [], .returned)),
  (12, [], (.istore_n 3, 13, 3, [], .returned)),
  (13, [], (.aload_n 0, 14, 0, [], .returned)),
  (14, [410], (.getfield 50, 17, 0, [6, 0], .returned)),
  (17, [], (.aload_n 0, 18, 0, [], .returned)),
  (18, [387], (.getfield 19, 21, 0, [1, 2], .returned)),
  (21, [], (.iload_n 1, 22, 1, [], .returned)),
  (22, [], (.aaload, 23, 0, [], .returned)),
  (23, [362], (.getfield 53, 26, 4, [0, 0], .returned)),
  (26, [], (.imul, 27, 0, [], .returned)),
  (27, [], (.iload_n 3, 28, 3, [], .returned)),
  (28, [737, 739, 738, 103], (.invokestatic 56, 31, 2, [], .returned)),
  (31, [], (.ireturn, 32, 0, [], .returned))]
theorem ck_X0_floorOf : okT q_X0_floorOf t_X0_floorOf = true := by decide +kernel
theorem e_X0_floorOf_0 : lk t_X0_floorOf 0 = some (.aload_n 0, 1, 0, [], .returned) := rfl
theorem e_X0_floorOf_1 : lk t_X0_floorOf 1 = some (.getfield 47, 4, 0, [7, 0], .returned) := rfl
theorem e_X0_floorOf_4 : lk t_X0_floorOf 4 = some (.iload_n 2, 5, 2, [], .returned) := rfl
theorem e_X0_floorOf_5 : lk t_X0_floorOf 5 = some (.imul, 6, 0, [], .returned) := rfl
theorem e_X0_floorOf_6 : lk t_X0_floorOf 6 = some (.bipush 99, 8, 0, [], .constant "" 0 (99)) := rfl
theorem e_X0_floorOf_8 : lk t_X0_floorOf 8 = some (.iadd, 9, 0, [], .returned) := rfl
theorem e_X0_floorOf_9 : lk t_X0_floorOf 9 = some (.bipush 100, 11, 0, [], .constant "" 0 (100)) := rfl
theorem e_X0_floorOf_11 : lk t_X0_floorOf 11 = some (.idiv, 12, 0, [], .returned) := rfl
theorem e_X0_floorOf_12 : lk t_X0_floorOf 12 = some (.istore_n 3, 13, 3, [], .returned) := rfl
theorem e_X0_floorOf_13 : lk t_X0_floorOf 13 = some (.aload_n 0, 14, 0, [], .returned) := rfl
theorem e_X0_floorOf_14 : lk t_X0_floorOf 14 = some (.getfield 50, 17, 0, [6, 0], .returned) := rfl
theorem e_X0_floorOf_17 : lk t_X0_floorOf 17 = some (.aload_n 0, 18, 0, [], .returned) := rfl
theorem e_X0_floorOf_18 : lk t_X0_floorOf 18 = some (.getfield 19, 21, 0, [1, 2], .returned) := rfl
theorem e_X0_floorOf_21 : lk t_X0_floorOf 21 = some (.iload_n 1, 22, 1, [], .returned) := rfl
theorem e_X0_floorOf_22 : lk t_X0_floorOf 22 = some (.aaload, 23, 0, [], .returned) := rfl
theorem e_X0_floorOf_23 : lk t_X0_floorOf 23 = some (.getfield 53, 26, 4, [0, 0], .returned) := rfl
theorem e_X0_floorOf_26 : lk t_X0_floorOf 26 = some (.imul, 27, 0, [], .returned) := rfl
theorem e_X0_floorOf_27 : lk t_X0_floorOf 27 = some (.iload_n 3, 28, 3, [], .returned) := rfl
theorem e_X0_floorOf_28 : lk t_X0_floorOf 28 = some (.invokestatic 56, 31, 2, [], .returned) := rfl
theorem e_X0_floorOf_31 : lk t_X0_floorOf 31 = some (.ireturn, 32, 0, [], .returned) := rfl
abbrev q_X0_passWeek : MI := (yX0_passWeek, cX0_passWeek, 2, none)
def t_X0_passWeek : Tab := [(0, [], (.aload_n 0, 1, 0, [], .returned)),
  (1, [], (.dup, 2, 0, [], .returned)),
  (2, [417], (.getfield 42, 5, 0, [9, 0], .returned)),
  (5, [], (.iconst 1, 6, 0, [], .constant "" 0 (1))),
  (6, [], (.iadd, 7, 0, [], .returned)),
  (7, [417], (.putfield 42, 10, 0, [9, 0], .returned)),
  (10, [], (.iconst 0, 11, 0, [], .constant "" 0 (0))),
  (11, [], (.istore_n 1, 12, 1, [], .returned)),
  (12, [], (.iload_n 1, 13, 1, [], .returned)),
  (13, [], (.aload_n 0, 14, 0, [], .returned)),
  (14, [404], (.getfield 39, 17, 0, [5, 0], .returned)),
  (17, [], (.if_icmp .ge 18, 20, 35, [], .returned)),
  (20, [], (.aload_n 0, 21, 0, [], .returned)),
  (21, [392], (.getfield 25, 24, 0, [2, 2], .returned)),
  (24, [], (.iload_n 1, 25, 1, [], .returned)),
  (25, [], (.aaload, 26, 0, [], .returned)),
  (26, [913, 870, 868, 869, 97], (.invokevirtual 62, 29, 0, [0, 3, 0, 0], .code yX3_fallDue cX3_fallDue 1 none)),
  (29, [], (.iinc 1 1, 32, 1, [], .constant "" 0 (1))),
  (32, [], (.goto (-20), 35, 12, [], .returned)),
  (35, [], (.return_, 36, 0, [], .returned))]
theorem ck_X0_passWeek : okT q_X0_passWeek t_X0_passWeek = true := by decide +kernel
theorem e_X0_passWeek_0 : lk t_X0_passWeek 0 = some (.aload_n 0, 1, 0, [], .returned) := rfl
theorem e_X0_passWeek_1 : lk t_X0_passWeek 1 = some (.dup, 2, 0, [], .returned) := rfl
theorem e_X0_passWeek_2 : lk t_X0_passWeek 2 = some (.getfield 42, 5, 0, [9, 0], .returned) := rfl
theorem e_X0_passWeek_5 : lk t_X0_passWeek 5 = some (.iconst 1, 6, 0, [], .constant "" 0 (1)) := rfl
theorem e_X0_passWeek_6 : lk t_X0_passWeek 6 = some (.iadd, 7, 0, [], .returned) := rfl
theorem e_X0_passWeek_7 : lk t_X0_passWeek 7 = some (.putfield 42, 10, 0, [9, 0], .returned) := rfl
theorem e_X0_passWeek_10 : lk t_X0_passWeek 10 = some (.iconst 0, 11, 0, [], .constant "" 0 (0)) := rfl
theorem e_X0_passWeek_11 : lk t_X0_passWeek 11 = some (.istore_n 1, 12, 1, [], .returned) := rfl
theorem e_X0_passWeek_12 : lk t_X0_passWeek 12 = some (.iload_n 1, 13, 1, [], .returned) := rfl
theorem e_X0_passWeek_13 : lk t_X0_passWeek 13 = some (.aload_n 0, 14, 0, [], .returned) := rfl
theorem e_X0_passWeek_14 : lk t_X0_passWeek 14 = some (.getfield 39, 17, 0, [5, 0], .returned) := rfl
theorem e_X0_passWeek_17 : lk t_X0_passWeek 17 = some (.if_icmp .ge 18, 20, 35, [], .returned) := rfl
theorem e_X0_passWeek_20 : lk t_X0_passWeek 20 = some (.aload_n 0, 21, 0, [], .returned) := rfl
theorem e_X0_passWeek_21 : lk t_X0_passWeek 21 = some (.getfield 25, 24, 0, [2, 2], .returned) := rfl
theorem e_X0_passWeek_24 : lk t_X0_passWeek 24 = some (.iload_n 1, 25, 1, [], .returned) := rfl
theorem e_X0_passWeek_25 : lk t_X0_passWeek 25 = some (.aaload, 26, 0, [], .returned) := rfl
theorem e_X0_passWeek_26 : lk t_X0_passWeek 26 = some (.invokevirtual 62, 29, 0, [0, 3, 0, 0], .code yX3_fallDue cX3_fallDue 1 none) := rfl
theorem e_X0_passWeek_29 : lk t_X0_passWeek 29 = some (.iinc 1 1, 32, 1, [], .constant "" 0 (1)) := rfl
theorem e_X0_passWeek_32 : lk t_X0_passWeek 32 = some (.goto (-20), 35, 12, [], .returned) := rfl
theorem e_X0_passWeek_35 : lk t_X0_passWeek 35 = some (.return_, 36, 0, [], .returned) := rfl
abbrev q_X0_paysOfAll : MI := (yX0_paysOfAll, cX0_paysOfAll, 3, (some .int))
def t_X0_paysOfAll : Tab := [(0, [], (.iconst 0, 1, 0, [], .constant "" 0 (0))),
  (1, [], (.istore_n 1, 2, 1, [], .returned)),
  (2, [], (.iconst 0, 3, 0, [], .constant "" 0 (0))),
  (3, [], (.istore_n 2, 4, 2, [], .returned)),
  (4, [], (.iload_n 2, 5, 2, [], .returned)),
  (5, [], (.aload_n 0, 6, 0, [], .returned)),
  (6, [399], (.getfield 36, 9, 0, [4, 0], .returned)),
  (9, [], (.if_icmp .ge 21, 12, 30, [], .returned)),
  (12, [], (.iload_n 1, 13, 1, [], .returned)),
  (13, [], (.aload_n 0, 14, 0, [], .returned)),
  (14, [387], (.getfield 19, 17, 0, [1, 2], .returned)),
  (17, [], (.iload_n 2, 18, 2, [], .returned)),
  (18, [], (.aaload, 19, 0, [], .returned)),
  (19, [366], (.getfield 65, 22, 4, [1, 0], .returned)),
  (22, [], (.iadd, 23, 0, [], .returned)),
  (23, [], (.istore_n 1, 24, 1, [], .returned)),
  (24, [], (.iinc 2 1, 27, 2, [], .constant "" 0 (1))),
  (27, [], (.goto (-23), 30, 4, [], .returned)),
  (30, [], (.iload_n 1, 31, 1, [], .returned)),
  (31, [], (.ireturn, 32, 0, [], .returned))]
theorem ck_X0_paysOfAll : okT q_X0_paysOfAll t_X0_paysOfAll = true := by decide +kernel
theorem e_X0_paysOfAll_0 : lk t_X0_paysOfAll 0 = some (.iconst 0, 1, 0, [], .constant "" 0 (0)) := rfl
theorem e_X0_paysOfAll_1 : lk t_X0_paysOfAll 1 = some (.istore_n 1, 2, 1, [], .returned) := rfl
theorem e_X0_paysOfAll_2 : lk t_X0_paysOfAll 2 = some (.iconst 0, 3, 0, [], .constant "" 0 (0)) := rfl
theorem e_X0_paysOfAll_3 : lk t_X0_paysOfAll 3 = some (.istore_n 2, 4, 2, [], .returned) := rfl
theorem e_X0_paysOfAll_4 : lk t_X0_paysOfAll 4 = some (.iload_n 2, 5, 2, [], .returned) := rfl
theorem e_X0_paysOfAll_5 : lk t_X0_paysOfAll 5 = some (.aload_n 0, 6, 0, [], .returned) := rfl
theorem e_X0_paysOfAll_6 : lk t_X0_paysOfAll 6 = some (.getfield 36, 9, 0, [4, 0], .returned) := rfl
theorem e_X0_paysOfAll_9 : lk t_X0_paysOfAll 9 = some (.if_icmp .ge 21, 12, 30, [], .returned) := rfl
theorem e_X0_paysOfAll_12 : lk t_X0_paysOfAll 12 = some (.iload_n 1, 13, 1, [], .returned) := rfl
theorem e_X0_paysOfAll_13 : lk t_X0_paysOfAll 13 = some (.aload_n 0, 14, 0, [], .returned) := rfl
theorem e_X0_paysOfAll_14 : lk t_X0_paysOfAll 14 = some (.getfield 19, 17, 0, [1, 2], .returned) := rfl
theorem e_X0_paysOfAll_17 : lk t_X0_paysOfAll 17 = some (.iload_n 2, 18, 2, [], .returned) := rfl
theorem e_X0_paysOfAll_18 : lk t_X0_paysOfAll 18 = some (.aaload, 19, 0, [], .returned) := rfl
theorem e_X0_paysOfAll_19 : lk t_X0_paysOfAll 19 = some (.getfield 65, 22, 4, [1, 0], .returned) := rfl
theorem e_X0_paysOfAll_22 : lk t_X0_paysOfAll 22 = some (.iadd, 23, 0, [], .returned) := rfl
theorem e_X0_paysOfAll_23 : lk t_X0_paysOfAll 23 = some (.istore_n 1, 24, 1, [], .returned) := rfl
theorem e_X0_paysOfAll_24 : lk t_X0_paysOfAll 24 = some (.iinc 2 1, 27, 2, [], .constant "" 0 (1)) := rfl
theorem e_X0_paysOfAll_27 : lk t_X0_paysOfAll 27 = some (.goto (-23), 30, 4, [], .returned) := rfl
theorem e_X0_paysOfAll_30 : lk t_X0_paysOfAll 30 = some (.iload_n 1, 31, 1, [], .returned) := rfl
theorem e_X0_paysOfAll_31 : lk t_X0_paysOfAll 31 = some (.ireturn, 32, 0, [], .returned) := rfl
abbrev q_X0_netsOfAll : MI := (yX0_netsOfAll, cX0_netsOfAll, 3, (some .int))
def t_X0_netsOfAll : Tab := [(0, [], (.iconst 0, 1, 0, [], .constant "" 0 (0))),
  (1, [], (.istore_n 1, 2, 1, [], .returned)),
  (2, [], (.iconst 0, 3, 0, [], .constant "" 0 (0))),
  (3, [], (.istore_n 2, 4, 2, [], .returned)),
  (4, [], (.iload_n 2, 5, 2, [], .returned)),
  (5, [], (.aload_n 0, 6, 0, [], .returned)),
  (6, [399], (.getfield 36, 9, 0, [4, 0], .returned)),
  (9, [], (.if_icmp .ge 21, 12, 30, [], .returned)),
  (12, [], (.iload_n 1, 13, 1, [], .returned)),
  (13, [], (.aload_n 0, 14, 0, [], .returned)),
  (14, [387], (.getfield 19, 17, 0, [1, 2], .returned)),
  (17, [], (.iload_n 2, 18, 2, [], .returned)),
  (18, [], (.aaload, 19, 0, [], .returned)),
  (19, [369], (.getfield 68, 22, 4, [2, 0], .returned)),
  (22, [], (.iadd, 23, 0, [], .returned)),
  (23, [], (.istore_n 1, 24, 1, [], .returned)),
  (24, [], (.iinc 2 1, 27, 2, [], .constant "" 0 (1))),
  (27, [], (.goto (-23), 30, 4, [], .returned)),
  (30, [], (.iload_n 1, 31, 1, [], .returned)),
  (31, [], (.ireturn, 32, 0, [], .returned))]
theorem ck_X0_netsOfAll : okT q_X0_netsOfAll t_X0_netsOfAll = true := by decide +kernel
theorem e_X0_netsOfAll_0 : lk t_X0_netsOfAll 0 = some (.iconst 0, 1, 0, [], .constant "" 0 (0)) := rfl
theorem e_X0_netsOfAll_1 : lk t_X0_netsOfAll 1 = some (.istore_n 1, 2, 1, [], .returned) := rfl
theorem e_X0_netsOfAll_2 : lk t_X0_netsOfAll 2 = some (.iconst 0, 3, 0, [], .constant "" 0 (0)) := rfl
theorem e_X0_netsOfAll_3 : lk t_X0_netsOfAll 3 = some (.istore_n 2, 4, 2, [], .returned) := rfl
theorem e_X0_netsOfAll_4 : lk t_X0_netsOfAll 4 = some (.iload_n 2, 5, 2, [], .returned) := rfl
theorem e_X0_netsOfAll_5 : lk t_X0_netsOfAll 5 = some (.aload_n 0, 6, 0, [], .returned) := rfl
theorem e_X0_netsOfAll_6 : lk t_X0_netsOfAll 6 = some (.getfield 36, 9, 0, [4, 0], .returned) := rfl
theorem e_X0_netsOfAll_9 : lk t_X0_netsOfAll 9 = some (.if_icmp .ge 21, 12, 30, [], .returned) := rfl
theorem e_X0_netsOfAll_12 : lk t_X0_netsOfAll 12 = some (.iload_n 1, 13, 1, [], .returned) := rfl
theorem e_X0_netsOfAll_13 : lk t_X0_netsOfAll 13 = some (.aload_n 0, 14, 0, [], .returned) := rfl
theorem e_X0_netsOfAll_14 : lk t_X0_netsOfAll 14 = some (.getfield 19, 17, 0, [1, 2], .returned) := rfl
theorem e_X0_netsOfAll_17 : lk t_X0_netsOfAll 17 = some (.iload_n 2, 18, 2, [], .returned) := rfl
theorem e_X0_netsOfAll_18 : lk t_X0_netsOfAll 18 = some (.aaload, 19, 0, [], .returned) := rfl
theorem e_X0_netsOfAll_19 : lk t_X0_netsOfAll 19 = some (.getfield 68, 22, 4, [2, 0], .returned) := rfl
theorem e_X0_netsOfAll_22 : lk t_X0_netsOfAll 22 = some (.iadd, 23, 0, [], .returned) := rfl
theorem e_X0_netsOfAll_23 : lk t_X0_netsOfAll 23 = some (.istore_n 1, 24, 1, [], .returned) := rfl
theorem e_X0_netsOfAll_24 : lk t_X0_netsOfAll 24 = some (.iinc 2 1, 27, 2, [], .constant "" 0 (1)) := rfl
theorem e_X0_netsOfAll_27 : lk t_X0_netsOfAll 27 = some (.goto (-23), 30, 4, [], .returned) := rfl
theorem e_X0_netsOfAll_30 : lk t_X0_netsOfAll 30 = some (.iload_n 1, 31, 1, [], .returned) := rfl
theorem e_X0_netsOfAll_31 : lk t_X0_netsOfAll 31 = some (.ireturn, 32, 0, [], .returned) := rfl
abbrev q_X0_takenOfAll : MI := (yX0_takenOfAll, cX0_takenOfAll, 3, (some .int))
def t_X0_takenOfAll : Tab := [(0, [], (.iconst 0, 1, 0, [], .constant "" 0 (0))),
  (1, [], (.istore_n 1, 2, 1, [], .returned)),
  (2, [], (.iconst 0, 3, 0, [], .constant "" 0 (0))),
  (3, [], (.istore_n 2, 4, 2, [], .returned)),
  (4, [], (.iload_n 2, 5, 2, [], .returned)),
  (5, [], (.aload_n 0, 6, 0, [], .returned)),
  (6, [399], (.getfield 36, 9, 0, [4, 0], .returned)),
  (9, [], (.if_icmp .ge 21, 12, 30, [], .returned)),
  (12, [], (.iload_n 1, 13, 1, [], .returned)),
  (13, [], (.aload_n 0, 14, 0, [], .returned)),
  (14, [387], (.getfield 19, 17, 0, [1, 2], .returned)),
  (17, [], (.iload_n 2, 18, 2, [], .returned)),
  (18, [], (.aaload, 19, 0, [], .returned)),
  (19, [372], (.getfield 71, 22, 4, [3, 0], .returned)),
  (22, [], (.iadd, 23, 0, [], .returned)),
  (23, [], (.istore_n 1, 24, 1, [], .returned)),
  (24, [], (.iinc 2 1, 27, 2, [], .constant "" 0 (1))),
  (27, [], (.goto (-23), 30, 4, [], .returned)),
  (30, [], (.iload_n 1, 31, 1, [], .returned)),
  (31, [], (.ireturn, 32, 0, [], .returned))]
theorem ck_X0_takenOfAll : okT q_X0_takenOfAll t_X0_takenOfAll = true := by decide +kernel
theorem e_X0_takenOfAll_0 : lk t_X0_takenOfAll 0 = some (.iconst 0, 1, 0, [], .constant "" 0 (0)) := rfl
theorem e_X0_takenOfAll_1 : lk t_X0_takenOfAll 1 = some (.istore_n 1, 2, 1, [], .returned) := rfl
theorem e_X0_takenOfAll_2 : lk t_X0_takenOfAll 2 = some (.iconst 0, 3, 0, [], .constant "" 0 (0)) := rfl
theorem e_X0_takenOfAll_3 : lk t_X0_takenOfAll 3 = some (.istore_n 2, 4, 2, [], .returned) := rfl
theorem e_X0_takenOfAll_4 : lk t_X0_takenOfAll 4 = some (.iload_n 2, 5, 2, [], .returned) := rfl
theorem e_X0_takenOfAll_5 : lk t_X0_takenOfAll 5 = some (.aload_n 0, 6, 0, [], .returned) := rfl
theorem e_X0_takenOfAll_6 : lk t_X0_takenOfAll 6 = some (.getfield 36, 9, 0, [4, 0], .returned) := rfl
theorem e_X0_takenOfAll_9 : lk t_X0_takenOfAll 9 = some (.if_icmp .ge 21, 12, 30, [], .returned) := rfl
theorem e_X0_takenOfAll_12 : lk t_X0_takenOfAll 12 = some (.iload_n 1, 13, 1, [], .returned) := rfl
theorem e_X0_takenOfAll_13 : lk t_X0_takenOfAll 13 = some (.aload_n 0, 14, 0, [], .returned) := rfl
theorem e_X0_takenOfAll_14 : lk t_X0_takenOfAll 14 = some (.getfield 19, 17, 0, [1, 2], .returned) := rfl
theorem e_X0_takenOfAll_17 : lk t_X0_takenOfAll 17 = some (.iload_n 2, 18, 2, [], .returned) := rfl
theorem e_X0_takenOfAll_18 : lk t_X0_takenOfAll 18 = some (.aaload, 19, 0, [], .returned) := rfl
theorem e_X0_takenOfAll_19 : lk t_X0_takenOfAll 19 = some (.getfield 71, 22, 4, [3, 0], .returned) := rfl
theorem e_X0_takenOfAll_22 : lk t_X0_takenOfAll 22 = some (.iadd, 23, 0, [], .returned) := rfl
theorem e_X0_takenOfAll_23 : lk t_X0_takenOfAll 23 = some (.istore_n 1, 24, 1, [], .returned) := rfl
theorem e_X0_takenOfAll_24 : lk t_X0_takenOfAll 24 = some (.iinc 2 1, 27, 2, [], .constant "" 0 (1)) := rfl
theorem e_X0_takenOfAll_27 : lk t_X0_takenOfAll 27 = some (.goto (-23), 30, 4, [], .returned) := rfl
theorem e_X0_takenOfAll_30 : lk t_X0_takenOfAll 30 = some (.iload_n 1, 31, 1, [], .returned) := rfl
theorem e_X0_takenOfAll_31 : lk t_X0_takenOfAll 31 = some (.ireturn, 32, 0, [], .returned) := rfl
abbrev q_X0_owedOfAll : MI := (yX0_owedOfAll, cX0_owedOfAll, 3, (some .int))
def t_X0_owedOfAll : Tab := [(0, [], (.iconst 0, 1, 0, [], .constant "" 0 (0))),
  (1, [], (.istore_n 1, 2, 1, [], .returned)),
  (2, [], (.iconst 0, 3, 0, [], .constant "" 0 (0))),
  (3, [], (.istore_n 2, 4, 2, [], .returned)),
  (4, [], (.iload_n 2, 5, 2, [], .returned)),
  (5, [], (.aload_n 0, 6, 0, [], .returned)),
  (6, [404], (.getfield 39, 9, 0, [5, 0], .returned)),
  (9, [], (.if_icmp .ge 21, 12, 30, [], .returned)),
  (12, [], (.iload_n 1, 13, 1, [], .returned)),
  (13, [], (.aload_n 0, 14, 0, [], .returned)),
  (14, [392], (.getfield 25, 17, 0, [2, 2], .returned)),
  (17, [], (.iload_n 2, 18, 2, [], .returned)),
  (18, [], (.aaload, 19, 0, [], .returned)),
  (19, [270], (.getfield 74, 22, 3, [8, 0], .returned)),
  (22, [], (.iadd, 23, 0, [], .returned)),
  (23, [], (.istore_n 1, 24, 1, [], .returned)),
  (24, [], (.iinc 2 1, 27, 2, [], .constant "" 0 (1))),
  (27, [], (.goto (-23), 30, 4, [], .returned)),
  (30, [], (.iload_n 1, 31, 1, [], .returned)),
  (31, [], (.ireturn, 32, 0, [], .returned))]
theorem ck_X0_owedOfAll : okT q_X0_owedOfAll t_X0_owedOfAll = true := by decide +kernel
theorem e_X0_owedOfAll_0 : lk t_X0_owedOfAll 0 = some (.iconst 0, 1, 0, [], .constant "" 0 (0)) := rfl
theorem e_X0_owedOfAll_1 : lk t_X0_owedOfAll 1 = some (.istore_n 1, 2, 1, [], .returned) := rfl
theorem e_X0_owedOfAll_2 : lk t_X0_owedOfAll 2 = some (.iconst 0, 3, 0, [], .constant "" 0 (0)) := rfl
theorem e_X0_owedOfAll_3 : lk t_X0_owedOfAll 3 = some (.istore_n 2, 4, 2, [], .returned) := rfl
theorem e_X0_owedOfAll_4 : lk t_X0_owedOfAll 4 = some (.iload_n 2, 5, 2, [], .returned) := rfl
theorem e_X0_owedOfAll_5 : lk t_X0_owedOfAll 5 = some (.aload_n 0, 6, 0, [], .returned) := rfl
theorem e_X0_owedOfAll_6 : lk t_X0_owedOfAll 6 = some (.getfield 39, 9, 0, [5, 0], .returned) := rfl
theorem e_X0_owedOfAll_9 : lk t_X0_owedOfAll 9 = some (.if_icmp .ge 21, 12, 30, [], .returned) := rfl
theorem e_X0_owedOfAll_12 : lk t_X0_owedOfAll 12 = some (.iload_n 1, 13, 1, [], .returned) := rfl
theorem e_X0_owedOfAll_13 : lk t_X0_owedOfAll 13 = some (.aload_n 0, 14, 0, [], .returned) := rfl
theorem e_X0_owedOfAll_14 : lk t_X0_owedOfAll 14 = some (.getfield 25, 17, 0, [2, 2], .returned) := rfl
theorem e_X0_owedOfAll_17 : lk t_X0_owedOfAll 17 = some (.iload_n 2, 18, 2, [], .returned) := rfl
theorem e_X0_owedOfAll_18 : lk t_X0_owedOfAll 18 = some (.aaload, 19, 0, [], .returned) := rfl
theorem e_X0_owedOfAll_19 : lk t_X0_owedOfAll 19 = some (.getfield 74, 22, 3, [8, 0], .returned) := rfl
theorem e_X0_owedOfAll_22 : lk t_X0_owedOfAll 22 = some (.iadd, 23, 0, [], .returned) := rfl
theorem e_X0_owedOfAll_23 : lk t_X0_owedOfAll 23 = some (.istore_n 1, 24, 1, [], .returned) := rfl
theorem e_X0_owedOfAll_24 : lk t_X0_owedOfAll 24 = some (.iinc 2 1, 27, 2, [], .constant "" 0 (1)) := rfl
theorem e_X0_owedOfAll_27 : lk t_X0_owedOfAll 27 = some (.goto (-23), 30, 4, [], .returned) := rfl
theorem e_X0_owedOfAll_30 : lk t_X0_owedOfAll 30 = some (.iload_n 1, 31, 1, [], .returned) := rfl
theorem e_X0_owedOfAll_31 : lk t_X0_owedOfAll 31 = some (.ireturn, 32, 0, [], .returned) := rfl
abbrev q_X0_liveBits : MI := (yX0_liveBits, cX0_liveBits, 3, (some .int))
def t_X0_liveBits : Tab := [(0, [], (.iconst 0, 1, 0, [], .constant "" 0 (0))),
  (1, [], (.istore_n 1, 2, 1, [], .returned)),
  (2, [], (.iconst 0, 3, 0, [], .constant "" 0 (0))),
  (3, [], (.istore_n 2, 4, 2, [], .returned)),
  (4, [], (.iload_n 2, 5, 2, [], .returned)),
  (5, [], (.aload_n 0, 6, 0, [], .returned)),
  (6, [404], (.getfield 39, 9, 0, [5, 0], .returned)),
  (9, [], (.if_icmp .ge 31, 12, 40, [], .returned)),
  (12, [], (.iload_n 1, 13, 1, [], .returned)),
  (13, [], (.aload_n 0, 14, 0, [], .returned)),
  (14, [392], (.getfield 25, 17, 0, [2, 2], .returned)),
  (17, [], (.iload_n 2, 18, 2, [], .returned)),
  (18, [], (.aaload, 19, 0, [], .returned)),
  (19, [657, 660, 658, 659, 97], (.invokevirtual 77, 22, 0, [0, 3, 0, 0], .code yX3_isLive cX3_isLive 1 (some .boolean))),
  (22, [], (.ifCond .eq 9, 25, 31, [], .returned)),
  (25, [], (.iconst 1, 26, 0, [], .constant "" 0 (1))),
  (26, [], (.iload_n 2, 27, 2, [], .returned)),
  (27, [], (.ishl, 28, 0, [], .returned)),
  (28, [], (.goto 4, 31, 32, [], .returned)),
  (31, [], (.iconst 0, 32, 0, [], .constant "" 0 (0))),
  (32, [], (.ior, 33, 0, [], .returned)),
  (33, [], (.istore_n 1, 34, 1, [], .returned)),
  (34, [], (.iinc 2 1, 37, 2, [], .constant "" 0 (1))),
  (37, [], (.goto (-33), 40, 4, [], .returned)),
  (40, [], (.iload_n 1, 41, 1, [], .returned)),
  (41, [], (.ireturn, 42, 0, [], .returned))]
theorem ck_X0_liveBits : okT q_X0_liveBits t_X0_liveBits = true := by decide +kernel
theorem e_X0_liveBits_0 : lk t_X0_liveBits 0 = some (.iconst 0, 1, 0, [], .constant "" 0 (0)) := rfl
theorem e_X0_liveBits_1 : lk t_X0_liveBits 1 = some (.istore_n 1, 2, 1, [], .returned) := rfl
theorem e_X0_liveBits_2 : lk t_X0_liveBits 2 = some (.iconst 0, 3, 0, [], .constant "" 0 (0)) := rfl
theorem e_X0_liveBits_3 : lk t_X0_liveBits 3 = some (.istore_n 2, 4, 2, [], .returned) := rfl
theorem e_X0_liveBits_4 : lk t_X0_liveBits 4 = some (.iload_n 2, 5, 2, [], .returned) := rfl
theorem e_X0_liveBits_5 : lk t_X0_liveBits 5 = some (.aload_n 0, 6, 0, [], .returned) := rfl
theorem e_X0_liveBits_6 : lk t_X0_liveBits 6 = some (.getfield 39, 9, 0, [5, 0], .returned) := rfl
theorem e_X0_liveBits_9 : lk t_X0_liveBits 9 = some (.if_icmp .ge 31, 12, 40, [], .returned) := rfl
theorem e_X0_liveBits_12 : lk t_X0_liveBits 12 = some (.iload_n 1, 13, 1, [], .returned) := rfl
theorem e_X0_liveBits_13 : lk t_X0_liveBits 13 = some (.aload_n 0, 14, 0, [], .returned) := rfl
theorem e_X0_liveBits_14 : lk t_X0_liveBits 14 = some (.getfield 25, 17, 0, [2, 2], .returned) := rfl
theorem e_X0_liveBits_17 : lk t_X0_liveBits 17 = some (.iload_n 2, 18, 2, [], .returned) := rfl
theorem e_X0_liveBits_18 : lk t_X0_liveBits 18 = some (.aaload, 19, 0, [], .returned) := rfl
theorem e_X0_liveBits_19 : lk t_X0_liveBits 19 = some (.invokevirtual 77, 22, 0, [0, 3, 0, 0], .code yX3_isLive cX3_isLive 1 (some .boolean)) := rfl
theorem e_X0_liveBits_22 : lk t_X0_liveBits 22 = some (.ifCond .eq 9, 25, 31, [], .returned) := rfl
theorem e_X0_liveBits_25 : lk t_X0_liveBits 25 = some (.iconst 1, 26, 0, [], .constant "" 0 (1)) := rfl
theorem e_X0_liveBits_26 : lk t_X0_liveBits 26 = some (.iload_n 2, 27, 2, [], .returned) := rfl
theorem e_X0_liveBits_27 : lk t_X0_liveBits 27 = some (.ishl, 28, 0, [], .returned) := rfl
theorem e_X0_liveBits_28 : lk t_X0_liveBits 28 = some (.goto 4, 31, 32, [], .returned) := rfl
theorem e_X0_liveBits_31 : lk t_X0_liveBits 31 = some (.iconst 0, 32, 0, [], .constant "" 0 (0)) := rfl
theorem e_X0_liveBits_32 : lk t_X0_liveBits 32 = some (.ior, 33, 0, [], .returned) := rfl
theorem e_X0_liveBits_33 : lk t_X0_liveBits 33 = some (.istore_n 1, 34, 1, [], .returned) := rfl
theorem e_X0_liveBits_34 : lk t_X0_liveBits 34 = some (.iinc 2 1, 37, 2, [], .constant "" 0 (1)) := rfl
theorem e_X0_liveBits_37 : lk t_X0_liveBits 37 = some (.goto (-33), 40, 4, [], .returned) := rfl
theorem e_X0_liveBits_40 : lk t_X0_liveBits 40 = some (.iload_n 1, 41, 1, [], .returned) := rfl
theorem e_X0_liveBits_41 : lk t_X0_liveBits 41 = some (.ireturn, 42, 0, [], .returned) := rfl
abbrev q_X0_liveBitsAt : MI := (yX0_liveBitsAt, cX0_liveBitsAt, 4, (some .int))
def t_X0_liveBitsAt : Tab := [(0, [], (.iconst 0, 1, 0, [], .constant "" 0 (0))),
  (1, [], (.istore_n 2, 2, 2, [], .returned)),
  (2, [], (.iconst 0, 3, 0, [], .constant "" 0 (0))),
  (3, [], (.istore_n 3, 4, 3, [], .returned)),
  (4, [], (.iload_n 3, 5, 3, [], .returned)),
  (5, [], (.aload_n 0, 6, 0, [], .returned)),
  (6, [404], (.getfield 39, 9, 0, [5, 0], .returned)),
  (9, [], (.if_icmp .ge 32, 12, 41, [], .returned)),
  (12, [], (.iload_n 2, 13, 2, [], .returned)),
  (13, [], (.aload_n 0, 14, 0, [], .returned)),
  (14, [392], (.getfield 25, 17, 0, [2, 2], .returned)),
  (17, [], (.iload_n 3, 18, 3, [], .returned)),
  (18, [], (.aaload, 19, 0, [], .returned)),
  (19, [], (.iload_n 1, 20, 1, [], .returned)),
  (20, [692, 695, 693, 694, 97], (.invokevirtual 81, 23, 0, [1, 3, 0, 0], .code yX3_isLiveAt cX3_isLiveAt 2 (some .boolean))),
  (23, [], (.ifCond .eq 9, 26, 32, [], .returned)),
  (26, [], (.iconst 1, 27, 0, [], .constant "" 0 (1))),
  (27, [], (.iload_n 3, 28, 3, [], .returned)),
  (28, [], (.ishl, 29, 0, [], .returned)),
  (29, [], (.goto 4, 32, 33, [], .returned)),
  (32, [], (.iconst 0, 33, 0, [], .constant "" 0 (0))),
  (33, [], (.ior, 34, 0, [], .returned)),
  (34, [], (.istore_n 2, 35, 2, [], .returned)),
  (35, [], (.iinc 3 1, 38, 3, [], .constant "" 0 (1))),
  (38, [], (.goto (-34), 41, 4, [], .returned)),
  (41, [], (.iload_n 2, 42, 2, [], .returned)),
  (42, [], (.ireturn, 43, 0, [], .returned))]
theorem ck_X0_liveBitsAt : okT q_X0_liveBitsAt t_X0_liveBitsAt = true := by decide +kernel
theorem e_X0_liveBitsAt_0 : lk t_X0_liveBitsAt 0 = some (.iconst 0, 1, 0, [], .constant "" 0 (0)) := rfl
theorem e_X0_liveBitsAt_1 : lk t_X0_liveBitsAt 1 = some (.istore_n 2, 2, 2, [], .returned) := rfl
theorem e_X0_liveBitsAt_2 : lk t_X0_liveBitsAt 2 = some (.iconst 0, 3, 0, [], .constant "" 0 (0)) := rfl
theorem e_X0_liveBitsAt_3 : lk t_X0_liveBitsAt 3 = some (.istore_n 3, 4, 3, [], .returned) := rfl
theorem e_X0_liveBitsAt_4 : lk t_X0_liveBitsAt 4 = some (.iload_n 3, 5, 3, [], .returned) := rfl
theorem e_X0_liveBitsAt_5 : lk t_X0_liveBitsAt 5 = some (.aload_n 0, 6, 0, [], .returned) := rfl
theorem e_X0_liveBitsAt_6 : lk t_X0_liveBitsAt 6 = some (.getfield 39, 9, 0, [5, 0], .returned) := rfl
theorem e_X0_liveBitsAt_9 : lk t_X0_liveBitsAt 9 = some (.if_icmp .ge 32, 12, 41, [], .returned) := rfl
theorem e_X0_liveBitsAt_12 : lk t_X0_liveBitsAt 12 = some (.iload_n 2, 13, 2, [], .returned) := rfl
theorem e_X0_liveBitsAt_13 : lk t_X0_liveBitsAt 13 = some (.aload_n 0, 14, 0, [], .returned) := rfl
theorem e_X0_liveBitsAt_14 : lk t_X0_liveBitsAt 14 = some (.getfield 25, 17, 0, [2, 2], .returned) := rfl
theorem e_X0_liveBitsAt_17 : lk t_X0_liveBitsAt 17 = some (.iload_n 3, 18, 3, [], .returned) := rfl
theorem e_X0_liveBitsAt_18 : lk t_X0_liveBitsAt 18 = some (.aaload, 19, 0, [], .returned) := rfl
theorem e_X0_liveBitsAt_19 : lk t_X0_liveBitsAt 19 = some (.iload_n 1, 20, 1, [], .returned) := rfl
theorem e_X0_liveBitsAt_20 : lk t_X0_liveBitsAt 20 = some (.invokevirtual 81, 23, 0, [1, 3, 0, 0], .code yX3_isLiveAt cX3_isLiveAt 2 (some .boolean)) := rfl
theorem e_X0_liveBitsAt_23 : lk t_X0_liveBitsAt 23 = some (.ifCond .eq 9, 26, 32, [], .returned) := rfl
theorem e_X0_liveBitsAt_26 : lk t_X0_liveBitsAt 26 = some (.iconst 1, 27, 0, [], .constant "" 0 (1)) := rfl
theorem e_X0_liveBitsAt_27 : lk t_X0_liveBitsAt 27 = some (.iload_n 3, 28, 3, [], .returned) := rfl
theorem e_X0_liveBitsAt_28 : lk t_X0_liveBitsAt 28 = some (.ishl, 29, 0, [], .returned) := rfl
theorem e_X0_liveBitsAt_29 : lk t_X0_liveBitsAt 29 = some (.goto 4, 32, 33, [], .returned) := rfl
theorem e_X0_liveBitsAt_32 : lk t_X0_liveBitsAt 32 = some (.iconst 0, 33, 0, [], .constant "" 0 (0)) := rfl
theorem e_X0_liveBitsAt_33 : lk t_X0_liveBitsAt 33 = some (.ior, 34, 0, [], .returned) := rfl
theorem e_X0_liveBitsAt_34 : lk t_X0_liveBitsAt 34 = some (.istore_n 2, 35, 2, [], .returned) := rfl
theorem e_X0_liveBitsAt_35 : lk t_X0_liveBitsAt 35 = some (.iinc 3 1, 38, 3, [], .constant "" 0 (1)) := rfl
theorem e_X0_liveBitsAt_38 : lk t_X0_liveBitsAt 38 = some (.goto (-34), 41, 4, [], .returned) := rfl
theorem e_X0_liveBitsAt_41 : lk t_X0_liveBitsAt 41 = some (.iload_n 2, 42, 2, [], .returned) := rfl
theorem e_X0_liveBitsAt_42 : lk t_X0_liveBitsAt 42 = some (.ireturn, 43, 0, [], .returned) := rfl
abbrev q_X0_inTurn : MI := (yX0_inTurn, cX0_inTurn, 6, (some .int))
def t_X0_inTurn : Tab := [(0, [], (.iconst 0, 1, 0, [], .constant "" 0 (0))),
  (1, [], (.istore_n 3, 2, 3, [], .returned)),
  (2, [], (.iconst 1, 3, 0, [], .constant "" 0 (1))),
  (3, [], (.istore 4, 5, 4, [], .returned)),
  (5, [], (.iload 4, 7, 4, [], .returned)),
  (7, [], (.bipush 9, 9, 0, [], .constant "" 0 (9))),
  (9, [], (.if_icmp .gt 67, 12, 76, [], .returned)),
  (12, [], (.iconst 0, 13, 0, [], .constant "" 0 (0))),
  (13, [], (.istore 5, 15, 5, [], .returned)),
  (15, [], (.iload 5, 17, 5, [], .returned)),
  (17, [], (.aload_n 0, 18, 0, [], .returned)),
  (18, [404], (.getfield 39, 21, 0, [5, 0], .returned)),
  (21, [], (.if_icmp .ge 49, 24, 70, [], .returned)),
  (24, [], (.aload_n 0, 25, 0, [], .returned)),
  (25, [392], (.getfield 25, 28, 0, [2, 2], .returned)),
  (28, [], (.iload 5, 30, 5, [], .returned)),
  (30, [], (.aaload, 31, 0, [], .returned)),
  (31, [243], (.getfield 85, 34, 3, [0, 0], .returned)),
  (34, [], (.iload 4, 36, 4, [], .returned)),
  (36, [], (.if_icmp .ne 28, 39, 64, [], .returned)),
  (39, [], (.aload_n 0, 40, 0, [], .returned)),
  (40, [392], (.getfield 25, 43, 0, [2, 2], .returned)),
  (43, [], (.iload 5, 45, 5, [], .returned)),
  (45, [], (.aaload, 46, 0, [], .returned)),
  (46, [], (.iload_n 1, 47, 1, [], .returned)),
  (47, [692, 695, 693, 694, 97], (.invokevirtual 81, 50, 0, [1, 3, 0, 0], .code yX3_isLiveAt cX3_isLiveAt 2 (some .boolean))),
  (50, [], (.ifCond .eq 14, 53, 64, [], .returned)),
  (53, [], (.iload_n 3, 54, 3, [], .returned)),
  (54, [], (.iload_n 2, 55, 2, [], .returned)),
  (55, [], (.if_icmp .ne 6, 58, 61, [], .returned)),
  (58, [], (.iload 5, 60, 5, [], .returned)),
  (60, [], (.ireturn, 61, 0, [], .returned)),
  (61, [], (.iinc 3 1, 64, 3, [], .constant "" 0 (1))),
  (64, [], (.iinc 5 1, 67, 5, [], .constant "" 0 (1))),
  (67, [], (.goto (-52), 70, 15, [], .returned)),
  (70, [], (.iinc 4 1, 73, 4, [], .constant "" 0 (1))),
  (73, [], (.goto (-68), 76, 5, [], .returned)),
  (76, [], (.iconst (-1), 77, 0, [], .constant "" 0 (-1))),
  (77, [], (.ireturn, 78, 0, [], .returned))]
theorem ck_X0_inTurn : okT q_X0_inTurn t_X0_inTurn = true := by decide +kernel
theorem e_X0_inTurn_0 : lk t_X0_inTurn 0 = some (.iconst 0, 1, 0, [], .constant "" 0 (0)) := rfl
theorem e_X0_inTurn_1 : lk t_X0_inTurn 1 = some (.istore_n 3, 2, 3, [], .returned) := rfl
theorem e_X0_inTurn_2 : lk t_X0_inTurn 2 = some (.iconst 1, 3, 0, [], .constant "" 0 (1)) := rfl
theorem e_X0_inTurn_3 : lk t_X0_inTurn 3 = some (.istore 4, 5, 4, [], .returned) := rfl
theorem e_X0_inTurn_5 : lk t_X0_inTurn 5 = some (.iload 4, 7, 4, [], .returned) := rfl
theorem e_X0_inTurn_7 : lk t_X0_inTurn 7 = some (.bipush 9, 9, 0, [], .constant "" 0 (9)) := rfl
theorem e_X0_inTurn_9 : lk t_X0_inTurn 9 = some (.if_icmp .gt 67, 12, 76, [], .returned) := rfl
theorem e_X0_inTurn_12 : lk t_X0_inTurn 12 = some (.iconst 0, 13, 0, [], .constant "" 0 (0)) := rfl
theorem e_X0_inTurn_13 : lk t_X0_inTurn 13 = some (.istore 5, 15, 5, [], .returned) := rfl
theorem e_X0_inTurn_15 : lk t_X0_inTurn 15 = some (.iload 5, 17, 5, [], .returned) := rfl
theorem e_X0_inTurn_17 : lk t_X0_inTurn 17 = some (.aload_n 0, 18, 0, [], .returned) := rfl
theorem e_X0_inTurn_18 : lk t_X0_inTurn 18 = some (.getfield 39, 21, 0, [5, 0], .returned) := rfl
theorem e_X0_inTurn_21 : lk t_X0_inTurn 21 = some (.if_icmp .ge 49, 24, 70, [], .returned) := rfl
theorem e_X0_inTurn_24 : lk t_X0_inTurn 24 = some (.aload_n 0, 25, 0, [], .returned) := rfl
theorem e_X0_inTurn_25 : lk t_X0_inTurn 25 = some (.getfield 25, 28, 0, [2, 2], .returned) := rfl
theorem e_X0_inTurn_28 : lk t_X0_inTurn 28 = some (.iload 5, 30, 5, [], .returned) := rfl
theorem e_X0_inTurn_30 : lk t_X0_inTurn 30 = some (.aaload, 31, 0, [], .returned) := rfl
theorem e_X0_inTurn_31 : lk t_X0_inTurn 31 = some (.getfield 85, 34, 3, [0, 0], .returned) := rfl
theorem e_X0_inTurn_34 : lk t_X0_inTurn 34 = some (.iload 4, 36, 4, [], .returned) := rfl
theorem e_X0_inTurn_36 : lk t_X0_inTurn 36 = some (.if_icmp .ne 28, 39, 64, [], .returned) := rfl
theorem e_X0_inTurn_39 : lk t_X0_inTurn 39 = some (.aload_n 0, 40, 0, [], .returned) := rfl
theorem e_X0_inTurn_40 : lk t_X0_inTurn 40 = some (.getfield 25, 43, 0, [2, 2], .returned) := rfl
theorem e_X0_inTurn_43 : lk t_X0_inTurn 43 = some (.iload 5, 45, 5, [], .returned) := rfl
theorem e_X0_inTurn_45 : lk t_X0_inTurn 45 = some (.aaload, 46, 0, [], .returned) := rfl
theorem e_X0_inTurn_46 : lk t_X0_inTurn 46 = some (.iload_n 1, 47, 1, [], .returned) := rfl
theorem e_X0_inTurn_47 : lk t_X0_inTurn 47 = some (.invokevirtual 81, 50, 0, [1, 3, 0, 0], .code yX3_isLiveAt cX3_isLiveAt 2 (some .boolean)) := rfl
theorem e_X0_inTurn_50 : lk t_X0_inTurn 50 = some (.ifCond .eq 14, 53, 64, [], .returned) := rfl
theorem e_X0_inTurn_53 : lk t_X0_inTurn 53 = some (.iload_n 3, 54, 3, [], .returned) := rfl
theorem e_X0_inTurn_54 : lk t_X0_inTurn 54 = some (.iload_n 2, 55, 2, [], .returned) := rfl
theorem e_X0_inTurn_55 : lk t_X0_inTurn 55 = some (.if_icmp .ne 6, 58, 61, [], .returned) := rfl
theorem e_X0_inTurn_58 : lk t_X0_inTurn 58 = some (.iload 5, 60, 5, [], .returned) := rfl
theorem e_X0_inTurn_60 : lk t_X0_inTurn 60 = some (.ireturn, 61, 0, [], .returned) := rfl
theorem e_X0_inTurn_61 : lk t_X0_inTurn 61 = some (.iinc 3 1, 64, 3, [], .constant "" 0 (1)) := rfl
theorem e_X0_inTurn_64 : lk t_X0_inTurn 64 = some (.iinc 5 1, 67, 5, [], .constant "" 0 (1)) := rfl
theorem e_X0_inTurn_67 : lk t_X0_inTurn 67 = some (.goto (-52), 70, 15, [], .returned) := rfl
theorem e_X0_inTurn_70 : lk t_X0_inTurn 70 = some (.iinc 4 1, 73, 4, [], .constant "" 0 (1)) := rfl
theorem e_X0_inTurn_73 : lk t_X0_inTurn 73 = some (.goto (-68), 76, 5, [], .returned) := rfl
theorem e_X0_inTurn_76 : lk t_X0_inTurn 76 = some (.iconst (-1), 77, 0, [], .constant "" 0 (-1)) := rfl
theorem e_X0_inTurn_77 : lk t_X0_inTurn 77 = some (.ireturn, 78, 0, [], .returned) := rfl
