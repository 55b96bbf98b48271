abbrev q_X5_init : MI := (yX5_init, cX5_init, 1, none)
def t_X5_init : Tab := [(0, [], (.aload_n 0, 1, 0, [], .returned)),
  (1, [335, 120, 119], (.invokespecial 3, 4, 1, [], .returned)),
  (4, [], (.aload_n 0, 5, 0, [], .returned)),
  (5, [], (.bipush 6, 7, 0, [], .constant "" 0 (6))),
  (7, [178], (.newarray .int, 9, 0, [], .returned)),
  (9, [336], (.putfield 9, 12, 5, [0, 2], .returned)),
  (12, [], (.aload_n 0, 13, 0, [], .returned)),
  (13, [], (.bipush 6, 15, 0, [], .constant "" 0 (6))),
  (15, [178], (.newarray .int, 17, 0, [], .returned)),
  (17, [339], (.putfield 15, 20, 5, [1, 2], .returned)),
  (20, [], (.return_, 21, 0, [], .returned))]
theorem ck_X5_init : okT q_X5_init t_X5_init = true := by decide +kernel
theorem e_X5_init_0 : lk t_X5_init 0 = some (.aload_n 0, 1, 0, [], .returned) := rfl
theorem e_X5_init_1 : lk t_X5_init 1 = some (.invokespecial 3, 4, 1, [], .returned) := rfl
theorem e_X5_init_4 : lk t_X5_init 4 = some (.aload_n 0, 5, 0, [], .returned) := rfl
theorem e_X5_init_5 : lk t_X5_init 5 = some (.bipush 6, 7, 0, [], .constant "" 0 (6)) := rfl
theorem e_X5_init_7 : lk t_X5_init 7 = some (.newarray .int, 9, 0, [], .returned) := rfl
theorem e_X5_init_9 : lk t_X5_init 9 = some (.putfield 9, 12, 5, [0, 2], .returned) := rfl
theorem e_X5_init_12 : lk t_X5_init 12 = some (.aload_n 0, 13, 0, [], .returned) := rfl
theorem e_X5_init_13 : lk t_X5_init 13 = some (.bipush 6, 15, 0, [], .constant "" 0 (6)) := rfl
theorem e_X5_init_15 : lk t_X5_init 15 = some (.newarray .int, 17, 0, [], .returned) := rfl
theorem e_X5_init_17 : lk t_X5_init 17 = some (.putfield 15, 20, 5, [1, 2], .returned) := rfl
theorem e_X5_init_20 : lk t_X5_init 20 = some (.return_, 21, 0, [], .returned) := rfl
abbrev q_X5_begin : MI := (yX5_begin, cX5_begin, 2, none)
def t_X5_begin : Tab := [(0, [], (.aload_n 0, 1, 0, [], .returned)),
  (1, [], (.iload_n 1, 2, 1, [], .returned)),
  (2, [344], (.putfield 18, 5, 5, [3, 3], .returned)),
  (5, [], (.aload_n 0, 6, 0, [], .returned)),
  (6, [], (.iconst 0, 7, 0, [], .constant "" 0 (0))),
  (7, [342], (.putfield 22, 10, 5, [2, 0], .returned)),
  (10, [], (.return_, 11, 0, [], .returned))]
theorem ck_X5_begin : okT q_X5_begin t_X5_begin = true := by decide +kernel
theorem e_X5_begin_0 : lk t_X5_begin 0 = some (.aload_n 0, 1, 0, [], .returned) := rfl
theorem e_X5_begin_1 : lk t_X5_begin 1 = some (.iload_n 1, 2, 1, [], .returned) := rfl
theorem e_X5_begin_2 : lk t_X5_begin 2 = some (.putfield 18, 5, 5, [3, 3], .returned) := rfl
theorem e_X5_begin_5 : lk t_X5_begin 5 = some (.aload_n 0, 6, 0, [], .returned) := rfl
theorem e_X5_begin_6 : lk t_X5_begin 6 = some (.iconst 0, 7, 0, [], .constant "" 0 (0)) := rfl
theorem e_X5_begin_7 : lk t_X5_begin 7 = some (.putfield 22, 10, 5, [2, 0], .returned) := rfl
theorem e_X5_begin_10 : lk t_X5_begin 10 = some (.return_, 11, 0, [], .returned) := rfl
abbrev q_X5_hasRow : MI := (yX5_hasRow, cX5_hasRow, 2, (some .boolean))
def t_X5_hasRow : Tab := [(0, [], (.iload_n 1, 1, 1, [], .returned)),
  (1, [], (.ifCond .lt 15, 4, 16, [], .returned)),
  (4, [], (.iload_n 1, 5, 1, [], .returned)),
  (5, [], (.aload_n 0, 6, 0, [], .returned)),
  (6, [342], (.getfield 22, 9, 5, [2, 0], .returned)),
  (9, [], (.if_icmp .ge 7, 12, 16, [], .returned)),
  (12, [], (.iconst 1, 13, 0, [], .constant "" 0 (1))),
  (13, [], (.goto 4, 16, 17, [], .returned)),
  (16, [], (.iconst 0, 17, 0, [], .constant "" 0 (0))),
  (17, [], (.ireturn, 18, 1, [], .returned))]
theorem ck_X5_hasRow : okT q_X5_hasRow t_X5_hasRow = true := by decide +kernel
theorem e_X5_hasRow_0 : lk t_X5_hasRow 0 = some (.iload_n 1, 1, 1, [], .returned) := rfl
theorem e_X5_hasRow_1 : lk t_X5_hasRow 1 = some (.ifCond .lt 15, 4, 16, [], .returned) := rfl
theorem e_X5_hasRow_4 : lk t_X5_hasRow 4 = some (.iload_n 1, 5, 1, [], .returned) := rfl
theorem e_X5_hasRow_5 : lk t_X5_hasRow 5 = some (.aload_n 0, 6, 0, [], .returned) := rfl
theorem e_X5_hasRow_6 : lk t_X5_hasRow 6 = some (.getfield 22, 9, 5, [2, 0], .returned) := rfl
theorem e_X5_hasRow_9 : lk t_X5_hasRow 9 = some (.if_icmp .ge 7, 12, 16, [], .returned) := rfl
theorem e_X5_hasRow_12 : lk t_X5_hasRow 12 = some (.iconst 1, 13, 0, [], .constant "" 0 (1)) := rfl
theorem e_X5_hasRow_13 : lk t_X5_hasRow 13 = some (.goto 4, 16, 17, [], .returned) := rfl
theorem e_X5_hasRow_16 : lk t_X5_hasRow 16 = some (.iconst 0, 17, 0, [], .constant "" 0 (0)) := rfl
theorem e_X5_hasRow_17 : lk t_X5_hasRow 17 = some (.ireturn, 18, 1, [], .returned) := rfl
abbrev q_X5_tells : MI := (yX5_tells, cX5_tells, 3, (some .int))
def t_X5_tells : Tab := [(0, [], (.aload_n 0, 1, 0, [], .returned)),
  (1, [344], (.getfield 18, 4, 5, [3, 0], .returned)),
  (4, [], (.ifCond .eq 12, 7, 16, [], .returned)),
  (7, [], (.aload_n 0, 8, 0, [], .returned)),
  (8, [], (.iload_n 1, 9, 1, [], .returned)),
  (9, [], (.iload_n 2, 10, 2, [], .returned)),
  (10, [712, 715, 714, 21, 100], (.invokevirtual 26, 13, 0, [2, 5, 0, 0], .code yX5_ofSteps cX5_ofSteps 6 (some .int))),
  (13, [], (.goto 9, 16, 22, [], .returned)),
  (16, [], (.aload_n 0, 17, 0, [], .returned)),
  (17, [], (.iload_n 1, 18, 1, [], .returned)),
  (18, [], (.iload_n 2, 19, 2, [], .returned)),
  (19, [717, 720, 719, 22, 100], (.invokevirtual 30, 22, 0, [2, 5, 0, 0], .code yX5_ofAll cX5_ofAll 5 (some .int))),
  (22, [], (.ireturn, 23, 0, [], .returned))]
theorem ck_X5_tells : okT q_X5_tells t_X5_tells = true := by decide +kernel
theorem e_X5_tells_0 : lk t_X5_tells 0 = some (.aload_n 0, 1, 0, [], .returned) := rfl
theorem e_X5_tells_1 : lk t_X5_tells 1 = some (.getfield 18, 4, 5, [3, 0], .returned) := rfl
theorem e_X5_tells_4 : lk t_X5_tells 4 = some (.ifCond .eq 12, 7, 16, [], .returned) := rfl
theorem e_X5_tells_7 : lk t_X5_tells 7 = some (.aload_n 0, 8, 0, [], .returned) := rfl
theorem e_X5_tells_8 : lk t_X5_tells 8 = some (.iload_n 1, 9, 1, [], .returned) := rfl
theorem e_X5_tells_9 : lk t_X5_tells 9 = some (.iload_n 2, 10, 2, [], .returned) := rfl
theorem e_X5_tells_10 : lk t_X5_tells 10 = some (.invokevirtual 26, 13, 0, [2, 5, 0, 0], .code yX5_ofSteps cX5_ofSteps 6 (some .int)) := rfl
theorem e_X5_tells_13 : lk t_X5_tells 13 = some (.goto 9, 16, 22, [], .returned) := rfl
theorem e_X5_tells_16 : lk t_X5_tells 16 = some (.aload_n 0, 17, 0, [], .returned) := rfl
theorem e_X5_tells_17 : lk t_X5_tells 17 = some (.iload_n 1, 18, 1, [], .returned) := rfl
theorem e_X5_tells_18 : lk t_X5_tells 18 = some (.iload_n 2, 19, 2, [], .returned) := rfl
theorem e_X5_tells_19 : lk t_X5_tells 19 = some (.invokevirtual 30, 22, 0, [2, 5, 0, 0], .code yX5_ofAll cX5_ofAll 5 (some .int)) := rfl
theorem e_X5_tells_22 : lk t_X5_tells 22 = some (.ireturn, 23, 0, [], .returned) := rfl
abbrev q_X5_ofAll : MI := (yX5_ofAll, cX5_ofAll, 5, (some .int))
def t_X5_ofAll : Tab := [(0, [], (.iconst 0, 1, 0, [], .constant "" 0 (0))),
  (1, [], (.istore_n 3, 2, 3, [], .returned)),
  (2, [], (.iconst 0, 3, 0, [], .constant "" 0 (0))),
  (3, [], (.istore 4, 5, 4, [], .returned)),
  (5, [], (.iload 4, 7, 4, [], .returned)),
  (7, [], (.aload_n 0, 8, 0, [], .returned)),
  (8, [342], (.getfield 22, 11, 5, [2, 0], .returned)),
  (11, [], (.if_icmp .ge 30, 14, 41, [], .returned)),
  (14, [], (.aload_n 0, 15, 0, [], .returned)),
  (15, [336], (.getfield 9, 18, 5, [0, 2], .returned)),
  (18, [], (.iload 4, 20, 4, [], .returned)),
  (20, [], (.iaload, 21, 0, [], .returned)),
  (21, [], (.iload_n 2, 22, 2, [], .returned)),
  (22, [], (.imul, 23, 0, [], .returned)),
  (23, [], (.iload_n 1, 24, 1, [], .returned)),
  (24, [], (.if_icmp .gt 17, 27, 41, [], .returned)),
  (27, [], (.aload_n 0, 28, 0, [], .returned)),
  (28, [339], (.getfield 15, 31, 5, [1, 2], .returned)),
  (31, [], (.iload 4, 33, 4, [], .returned)),
  (33, [], (.iaload, 34, 0, [], .returned)),
  (34, [], (.istore_n 3, 35, 3, [], .returned)),
  (35, [], (.iinc 4 1, 38, 4, [], .constant "" 0 (1))),
  (38, [], (.goto (-33), 41, 5, [], .returned)),
  (41, [], (.iload_n 3, 42, 3, [], .returned)),
  (42, [], (.iload_n 1, 43, 1, [], .returned)),
  (43, [], (.imul, 44, 0, [], .returned)),
  (44, [], (.bipush 100, 46, 0, [], .constant "" 0 (100))),
  (46, [], (.idiv, 47, 0, [], .returned)),
  (47, [], (.ireturn, 48, 0, [], .returned))]
theorem ck_X5_ofAll : okT q_X5_ofAll t_X5_ofAll = true := by decide +kernel
theorem e_X5_ofAll_0 : lk t_X5_ofAll 0 = some (.iconst 0, 1, 0, [], .constant "" 0 (0)) := rfl
theorem e_X5_ofAll_1 : lk t_X5_ofAll 1 = some (.istore_n 3, 2, 3, [], .returned) := rfl
theorem e_X5_ofAll_2 : lk t_X5_ofAll 2 = some (.iconst 0, 3, 0, [], .constant "" 0 (0)) := rfl
theorem e_X5_ofAll_3 : lk t_X5_ofAll 3 = some (.istore 4, 5, 4, [], .returned) := rfl
theorem e_X5_ofAll_5 : lk t_X5_ofAll 5 = some (.iload 4, 7, 4, [], .returned) := rfl
theorem e_X5_ofAll_7 : lk t_X5_ofAll 7 = some (.aload_n 0, 8, 0, [], .returned) := rfl
theorem e_X5_ofAll_8 : lk t_X5_ofAll 8 = some (.getfield 22, 11, 5, [2, 0], .returned) := rfl
theorem e_X5_ofAll_11 : lk t_X5_ofAll 11 = some (.if_icmp .ge 30, 14, 41, [], .returned) := rfl
theorem e_X5_ofAll_14 : lk t_X5_ofAll 14 = some (.aload_n 0, 15, 0, [], .returned) := rfl
theorem e_X5_ofAll_15 : lk t_X5_ofAll 15 = some (.getfield 9, 18, 5, [0, 2], .returned) := rfl
theorem e_X5_ofAll_18 : lk t_X5_ofAll 18 = some (.iload 4, 20, 4, [], .returned) := rfl
theorem e_X5_ofAll_20 : lk t_X5_ofAll 20 = some (.iaload, 21, 0, [], .returned) := rfl
theorem e_X5_ofAll_21 : lk t_X5_ofAll 21 = some (.iload_n 2, 22, 2, [], .returned) := rfl
theorem e_X5_ofAll_22 : lk t_X5_ofAll 22 = some (.imul, 23, 0, [], .returned) := rfl
theorem e_X5_ofAll_23 : lk t_X5_ofAll 23 = some (.iload_n 1, 24, 1, [], .returned) := rfl
theorem e_X5_ofAll_24 : lk t_X5_ofAll 24 = some (.if_icmp .gt 17, 27, 41, [], .returned) := rfl
theorem e_X5_ofAll_27 : lk t_X5_ofAll 27 = some (.aload_n 0, 28, 0, [], .returned) := rfl
theorem e_X5_ofAll_28 : lk t_X5_ofAll 28 = some (.getfield 15, 31, 5, [1, 2], .returned) := rfl
theorem e_X5_ofAll_31 : lk t_X5_ofAll 31 = some (.iload 4, 33, 4, [], .returned) := rfl
theorem e_X5_ofAll_33 : lk t_X5_ofAll 33 = some (.iaload, 34, 0, [], .returned) := rfl
theorem e_X5_ofAll_34 : lk t_X5_ofAll 34 = some (.istore_n 3, 35, 3, [], .returned) := rfl
theorem e_X5_ofAll_35 : lk t_X5_ofAll 35 = some (.iinc 4 1, 38, 4, [], .constant "" 0 (1)) := rfl
theorem e_X5_ofAll_38 : lk t_X5_ofAll 38 = some (.goto (-33), 41, 5, [], .returned) := rfl
theorem e_X5_ofAll_41 : lk t_X5_ofAll 41 = some (.iload_n 3, 42, 3, [], .returned) := rfl
theorem e_X5_ofAll_42 : lk t_X5_ofAll 42 = some (.iload_n 1, 43, 1, [], .returned) := rfl
theorem e_X5_ofAll_43 : lk t_X5_ofAll 43 = some (.imul, 44, 0, [], .returned) := rfl
theorem e_X5_ofAll_44 : lk t_X5_ofAll 44 = some (.bipush 100, 46, 0, [], .constant "" 0 (100)) := rfl
theorem e_X5_ofAll_46 : lk t_X5_ofAll 46 = some (.idiv, 47, 0, [], .returned) := rfl
theorem e_X5_ofAll_47 : lk t_X5_ofAll 47 = some (.ireturn, 48, 0, [], .returned) := rfl
abbrev q_X5_ofSteps : MI := (yX5_ofSteps, cX5_ofSteps, 6, (some .int))
def t_X5_ofSteps : Tab := [(0, [], (.iconst 0, 1, 0, [], .constant "" 0 (0))),
  (1, [], (.istore_n 3, 2, 3, [], .returned)),
  (2, [], (.iconst 0, 3, 0, [], .constant "" 0 (0))),
  (3, [], (.istore 4, 5, 4, [], .returned)),
  (5, [], (.iload 4, 7, 4, [], .returned)),
  (7, [], (.aload_n 0, 8, 0, [], .returned)),
  (8, [342], (.getfield 22, 11, 5, [2, 0], .returned)),
  (11, [], (.if_icmp .ge 80, 14, 91, [], .returned)),
  (14, [], (.aload_n 0, 15, 0, [], .returned)),
  (15, [336], (.getfield 9, 18, 5, [0, 2], .returned)),
  (18, [], (.iload 4, 20, 4, [], .returned)),
  (20, [], (.iaload, 21, 0, [], .returned)),
  (21, [], (.iload_n 2, 22, 2, [], .returned)),
  (22, [], (.imul, 23, 0, [], .returned)),
  (23, [], (.iload_n 1, 24, 1, [], .returned)),
  (24, [], (.if_icmp .ge 67, 27, 91, [], .returned)),
  (27, [], (.iload 4, 29, 4, [], .returned)),
  (29, [], (.iconst 1, 30, 0, [], .constant "" 0 (1))),
  (30, [], (.iadd, 31, 0, [], .returned)),
  (31, [], (.aload_n 0, 32, 0, [], .returned)),
  (32, [342], (.getfield 22, 35, 5, [2, 0], .returned)),
  (35, [], (.if_icmp .ge 21, 38, 56, [], .returned)),
  (38, [], (.iload_n 1, 39, 1, [], .returned)),
  (39, [], (.aload_n 0, 40, 0, [], .returned)),
  (40, [336], (.getfield 9, 43, 5, [0, 2], .returned)),
  (43, [], (.iload 4, 45, 4, [], .returned)),
  (45, [], (.iconst 1, 46, 0, [], .constant "" 0 (1))),
  (46, [], (.iadd, 47, 0, [], .returned)),
  (47, [], (.iaload, 48, 0, [], .returned)),
  (48, [], (.iload_n 2, 49, 2, [], .returned)),
  (49, [], (.imul, 50, 0, [], .returned)),
  (50, [716, 496, 495, 103], (.invokestatic 33, 53, 1, [], .returned)),
  (53, [], (.goto 4, 56, 57, [], .returned)),
  (56, [], (.iload_n 1, 57, 1, [], .returned)),
  (57, [], (.istore 5, 59, 5, [], .returned)),
  (59, [], (.iload_n 3, 60, 3, [], .returned)),
  (60, [], (.aload_n 0, 61, 0, [], .returned)),
  (61, [339], (.getfield 15, 64, 5, [1, 2], .returned)),
  (64, [], (.iload 4, 66, 4, [], .returned)),
  (66, [], (.iaload, 67, 0, [], .returned)),
  (67, [], (.iload 5, 69, 5, [], .returned)),
  (69, [], (.aload_n 0, 70, 0, [], .returned)),
  (70, [336], (.getfield 9, 73, 5, [0, 2], .returned)),
  (73, [], (.iload 4, 75, 4, [], .returned)),
  (75, [], (.iaload, 76, 0, [], .returned)),
  (76, [], (.iload_n 2, 77, 2, [], .returned)),
  (77, [], (.imul, 78, 0, [], .returned)),
  (78, [], (.isub, 79, 0, [], .returned)),
  (79, [], (.imul, 80, 0, [], .returned)),
  (80, [], (.bipush 100, 82, 0, [], .constant "" 0 (100))),
  (82, [], (.idiv, 83, 0, [], .returned)),
  (83, [], (.iadd, 84, 0, [], .returned)),
  (84, [], (.istore_n 3, 85, 3, [], .returned)),
  (85, [], (.iinc 4 1, 88, 4, [], .constant "" 0 (1))),
  (88, [], (.goto (-83), 91, 5, [], .returned)),
  (91, [], (.iload_n 3, 92, 3, [], .returned)),
  (92, [], (.ireturn, 93, 0, [], .returned))]
theorem ck_X5_ofSteps : okT q_X5_ofSteps t_X5_ofSteps = true := by decide +kernel
theorem e_X5_ofSteps_0 : lk t_X5_ofSteps 0 = some (.iconst 0, 1, 0, [], .constant "" 0 (0)) := rfl
theorem e_X5_ofSteps_1 : lk t_X5_ofSteps 1 = some (.istore_n 3, 2, 3, [], .returned) := rfl
theorem e_X5_ofSteps_2 : lk t_X5_ofSteps 2 = some (.iconst 0, 3, 0, [], .constant "" 0 (0)) := rfl
theorem e_X5_ofSteps_3 : lk t_X5_ofSteps 3 = some (.istore 4, 5, 4, [], .returned) := rfl
theorem e_X5_ofSteps_5 : lk t_X5_ofSteps 5 = some (.iload 4, 7, 4, [], .returned) := rfl
theorem e_X5_ofSteps_7 : lk t_X5_ofSteps 7 = some (.aload_n 0, 8, 0, [], .returned) := rfl
theorem e_X5_ofSteps_8 : lk t_X5_ofSteps 8 = some (.getfield 22, 11, 5, [2, 0], .returned) := rfl
theorem e_X5_ofSteps_11 : lk t_X5_ofSteps 11 = some (.if_icmp .ge 80, 14, 91, [], .returned) := rfl
theorem e_X5_ofSteps_14 : lk t_X5_ofSteps 14 = some (.aload_n 0, 15, 0, [], .returned) := rfl
theorem e_X5_ofSteps_15 : lk t_X5_ofSteps 15 = some (.getfield 9, 18, 5, [0, 2], .returned) := rfl
theorem e_X5_ofSteps_18 : lk t_X5_ofSteps 18 = some (.iload 4, 20, 4, [], .returned) := rfl
theorem e_X5_ofSteps_20 : lk t_X5_ofSteps 20 = some (.iaload, 21, 0, [], .returned) := rfl
theorem e_X5_ofSteps_21 : lk t_X5_ofSteps 21 = some (.iload_n 2, 22, 2, [], .returned) := rfl
theorem e_X5_ofSteps_22 : lk t_X5_ofSteps 22 = some (.imul, 23, 0, [], .returned) := rfl
theorem e_X5_ofSteps_23 : lk t_X5_ofSteps 23 = some (.iload_n 1, 24, 1, [], .returned) := rfl
theorem e_X5_ofSteps_24 : lk t_X5_ofSteps 24 = some (.if_icmp .ge 67, 27, 91, [], .returned) := rfl
theorem e_X5_ofSteps_27 : lk t_X5_ofSteps 27 = some (.iload 4, 29, 4, [], .returned) := rfl
theorem e_X5_ofSteps_29 : lk t_X5_ofSteps 29 = some (.iconst 1, 30, 0, [], .constant "" 0 (1)) := rfl
theorem e_X5_ofSteps_30 : lk t_X5_ofSteps 30 = some (.iadd, 31, 0, [], .returned) := rfl
theorem e_X5_ofSteps_31 : lk t_X5_ofSteps 31 = some (.aload_n 0, 32, 0, [], .returned) := rfl
theorem e_X5_ofSteps_32 : lk t_X5_ofSteps 32 = some (.getfield 22, 35, 5, [2, 0], .returned) := rfl
theorem e_X5_ofSteps_35 : lk t_X5_ofSteps 35 = some (.if_icmp .ge 21, 38, 56, [], .returned) := rfl
theorem e_X5_ofSteps_38 : lk t_X5_ofSteps 38 = some (.iload_n 1, 39, 1, [], .returned) := rfl
theorem e_X5_ofSteps_39 : lk t_X5_ofSteps 39 = some (.aload_n 0, 40, 0, [], .returned) := rfl
theorem e_X5_ofSteps_40 : lk t_X5_ofSteps 40 = some (.getfield 9, 43, 5, [0, 2], .returned) := rfl
theorem e_X5_ofSteps_43 : lk t_X5_ofSteps 43 = some (.iload 4, 45, 4, [], .returned) := rfl
theorem e_X5_ofSteps_45 : lk t_X5_ofSteps 45 = some (.iconst 1, 46, 0, [], .constant "" 0 (1)) := rfl
theorem e_X5_ofSteps_46 : lk t_X5_ofSteps 46 = some (.iadd, 47, 0, [], .returned) := rfl
theorem e_X5_ofSteps_47 : lk t_X5_ofSteps 47 = some (.iaload, 48, 0, [], .returned) := rfl
theorem e_X5_ofSteps_48 : lk t_X5_ofSteps 48 = some (.iload_n 2, 49, 2, [], .returned) := rfl
theorem e_X5_ofSteps_49 : lk t_X5_ofSteps 49 = some (.imul, 50, 0, [], .returned) := rfl
theorem e_X5_ofSteps_50 : lk t_X5_ofSteps 50 = some (.invokestatic 33, 53, 1, [], .returned) := rfl
theorem e_X5_ofSteps_53 : lk t_X5_ofSteps 53 = some (.goto 4, 56, 57, [], .returned) := rfl
theorem e_X5_ofSteps_56 : lk t_X5_ofSteps 56 = some (.iload_n 1, 57, 1, [], .returned) := rfl
theorem e_X5_ofSteps_57 : lk t_X5_ofSteps 57 = some (.istore 5, 59, 5, [], .returned) := rfl
theorem e_X5_ofSteps_59 : lk t_X5_ofSteps 59 = some (.iload_n 3, 60, 3, [], .returned) := rfl
theorem e_X5_ofSteps_60 : lk t_X5_ofSteps 60 = some (.aload_n 0, 61, 0, [], .returned) := rfl
theorem e_X5_ofSteps_61 : lk t_X5_ofSteps 61 = some (.getfield 15, 64, 5, [1, 2], .returned) := rfl
theorem e_X5_ofSteps_64 : lk t_X5_ofSteps 64 = some (.iload 4, 66, 4, [], .returned) := rfl
theorem e_X5_ofSteps_66 : lk t_X5_ofSteps 66 = some (.iaload, 67, 0, [], .returned) := rfl
theorem e_X5_ofSteps_67 : lk t_X5_ofSteps 67 = some (.iload 5, 69, 5, [], .returned) := rfl
theorem e_X5_ofSteps_69 : lk t_X5_ofSteps 69 = some (.aload_n 0, 70, 0, [], .returned) := rfl
theorem e_X5_ofSteps_70 : lk t_X5_ofSteps 70 = some (.getfield 9, 73, 5, [0, 2], .returned) := rfl
theorem e_X5_ofSteps_73 : lk t_X5_ofSteps 73 = some (.iload 4, 75, 4, [], .returned) := rfl
theorem e_X5_ofSteps_75 : lk t_X5_ofSteps 75 = some (.iaload, 76, 0, [], .returned) := rfl
theorem e_X5_ofSteps_76 : lk t_X5_ofSteps 76 = some (.iload_n 2, 77, 2, [], .returned) := rfl
theorem e_X5_ofSteps_77 : lk t_X5_ofSteps 77 = some (.imul, 78, 0, [], .returned) := rfl
theorem e_X5_ofSteps_78 : lk t_X5_ofSteps 78 = some (.isub, 79, 0, [], .returned) := rfl
theorem e_X5_ofSteps_79 : lk t_X5_ofSteps 79 = some (.imul, 80, 0, [], .returned) := rfl
theorem e_X5_ofSteps_80 : lk t_X5_ofSteps 80 = some (.bipush 100, 82, 0, [], .constant "" 0 (100)) := rfl
theorem e_X5_ofSteps_82 : lk t_X5_ofSteps 82 = some (.idiv, 83, 0, [], .returned) := rfl
theorem e_X5_ofSteps_83 : lk t_X5_ofSteps 83 = some (.iadd, 84, 0, [], .returned) := rfl
theorem e_X5_ofSteps_84 : lk t_X5_ofSteps 84 = some (.istore_n 3, 85, 3, [], .returned) := rfl
theorem e_X5_ofSteps_85 : lk t_X5_ofSteps 85 = some (.iinc 4 1, 88, 4, [], .constant "" 0 (1)) := rfl
theorem e_X5_ofSteps_88 : lk t_X5_ofSteps 88 = some (.goto (-83), 91, 5, [], .returned) := rfl
theorem e_X5_ofSteps_91 : lk t_X5_ofSteps 91 = some (.iload_n 3, 92, 3, [], .returned) := rfl
theorem e_X5_ofSteps_92 : lk t_X5_ofSteps 92 = some (.ireturn, 93, 0, [], .returned) := rfl
