abbrev q_X4_init : MI := (yX4_init, cX4_init, 1, none)
def t_X4_init : Tab := [(0, [], (.aload_n 0, 1, 0, [], .returned)),
  (1, [359, 120, 119], (.invokespecial 1, 4, 1, [], .returned)),
  (4, [], (.return_, 5, 0, [], .returned))]
theorem ck_X4_init : okT q_X4_init t_X4_init = true := by decide +kernel
theorem e_X4_init_0 : lk t_X4_init 0 = some (.aload_n 0, 1, 0, [], .returned) := rfl
theorem e_X4_init_1 : lk t_X4_init 1 = some (.invokespecial 1, 4, 1, [], .returned) := rfl
theorem e_X4_init_4 : lk t_X4_init 4 = some (.return_, 5, 0, [], .returned) := rfl
abbrev q_X4_begin : MI := (yX4_begin, cX4_begin, 2, none)
def t_X4_begin : Tab := [(0, [], (.aload_n 0, 1, 0, [], .returned)),
  (1, [], (.iload_n 1, 2, 1, [], .returned)),
  (2, [360], (.putfield 7, 5, 4, [0, 0], .returned)),
  (5, [], (.aload_n 0, 6, 0, [], .returned)),
  (6, [], (.iconst 0, 7, 0, [], .constant "" 0 (0))),
  (7, [364], (.putfield 13, 10, 4, [1, 0], .returned)),
  (10, [], (.aload_n 0, 11, 0, [], .returned)),
  (11, [], (.iconst 0, 12, 0, [], .constant "" 0 (0))),
  (12, [367], (.putfield 16, 15, 4, [2, 0], .returned)),
  (15, [], (.aload_n 0, 16, 0, [], .returned)),
  (16, [], (.iconst 0, 17, 0, [], .constant "" 0 (0))),
  (17, [370], (.putfield 19, 20, 4, [3, 0], .returned)),
  (20, [], (.return_, 21, 0, [], .returned))]
theorem ck_X4_begin : okT q_X4_begin t_X4_begin = true := by decide +kernel
theorem e_X4_begin_0 : lk t_X4_begin 0 = some (.aload_n 0, 1, 0, [], .returned) := rfl
theorem e_X4_begin_1 : lk t_X4_begin 1 = some (.iload_n 1, 2, 1, [], .returned) := rfl
theorem e_X4_begin_2 : lk t_X4_begin 2 = some (.putfield 7, 5, 4, [0, 0], .returned) := rfl
theorem e_X4_begin_5 : lk t_X4_begin 5 = some (.aload_n 0, 6, 0, [], .returned) := rfl
theorem e_X4_begin_6 : lk t_X4_begin 6 = some (.iconst 0, 7, 0, [], .constant "" 0 (0)) := rfl
theorem e_X4_begin_7 : lk t_X4_begin 7 = some (.putfield 13, 10, 4, [1, 0], .returned) := rfl
theorem e_X4_begin_10 : lk t_X4_begin 10 = some (.aload_n 0, 11, 0, [], .returned) := rfl
theorem e_X4_begin_11 : lk t_X4_begin 11 = some (.iconst 0, 12, 0, [], .constant "" 0 (0)) := rfl
theorem e_X4_begin_12 : lk t_X4_begin 12 = some (.putfield 16, 15, 4, [2, 0], .returned) := rfl
theorem e_X4_begin_15 : lk t_X4_begin 15 = some (.aload_n 0, 16, 0, [], .returned) := rfl
theorem e_X4_begin_16 : lk t_X4_begin 16 = some (.iconst 0, 17, 0, [], .constant "" 0 (0)) := rfl
theorem e_X4_begin_17 : lk t_X4_begin 17 = some (.putfield 19, 20, 4, [3, 0], .returned) := rfl
theorem e_X4_begin_20 : lk t_X4_begin 20 = some (.return_, 21, 0, [], .returned) := rfl
abbrev q_X4_count : MI := (yX4_count, cX4_count, 3, none)
def t_X4_count : Tab := [(0, [], (.aload_n 0, 1, 0, [], .returned)),
  (1, [], (.dup, 2, 0, [], .returned)),
  (2, [364], (.getfield 13, 5, 4, [1, 0], .returned)),
  (5, [], (.iconst 1, 6, 0, [], .constant "" 0 (1))),
  (6, [], (.iadd, 7, 0, [], .returned)),
  (7, [364], (.putfield 13, 10, 4, [1, 0], .returned)),
  (10, [], (.aload_n 0, 11, 0, [], .returned)),
  (11, [], (.dup, 12, 0, [], .returned)),
  (12, [367], (.getfield 16, 15, 4, [2, 0], .returned)),
  (15, [], (.iload_n 1, 16, 1, [], .returned)),
  (16, [], (.iadd, 17, 0, [], .returned)),
  (17, [367], (.putfield 16, 20, 4, [2, 0], .returned)),
  (20, [], (.aload_n 0, 21, 0, [], .returned)),
  (21, [], (.dup, 22, 0, [], .returned)),
  (22, [370], (.getfield 19, 25, 4, [3, 0], .returned)),
  (25, [], (.iload_n 2, 26, 2, [], .returned)),
  (26, [], (.iadd, 27, 0, [], .returned)),
  (27, [370], (.putfield 19, 30, 4, [3, 0], .returned)),
  (30, [], (.return_, 31, 0, [], .returned))]
theorem ck_X4_count : okT q_X4_count t_X4_count = true := by decide +kernel
theorem e_X4_count_0 : lk t_X4_count 0 = some (.aload_n 0, 1, 0, [], .returned) := rfl
theorem e_X4_count_1 : lk t_X4_count 1 = some (.dup, 2, 0, [], .returned) := rfl
theorem e_X4_count_2 : lk t_X4_count 2 = some (.getfield 13, 5, 4, [1, 0], .returned) := rfl
theorem e_X4_count_5 : lk t_X4_count 5 = some (.iconst 1, 6, 0, [], .constant "" 0 (1)) := rfl
theorem e_X4_count_6 : lk t_X4_count 6 = some (.iadd, 7, 0, [], .returned) := rfl
theorem e_X4_count_7 : lk t_X4_count 7 = some (.putfield 13, 10, 4, [1, 0], .returned) := rfl
theorem e_X4_count_10 : lk t_X4_count 10 = some (.aload_n 0, 11, 0, [], .returned) := rfl
theorem e_X4_count_11 : lk t_X4_count 11 = some (.dup, 12, 0, [], .returned) := rfl
theorem e_X4_count_12 : lk t_X4_count 12 = some (.getfield 16, 15, 4, [2, 0], .returned) := rfl
theorem e_X4_count_15 : lk t_X4_count 15 = some (.iload_n 1, 16, 1, [], .returned) := rfl
theorem e_X4_count_16 : lk t_X4_count 16 = some (.iadd, 17, 0, [], .returned) := rfl
theorem e_X4_count_17 : lk t_X4_count 17 = some (.putfield 16, 20, 4, [2, 0], .returned) := rfl
theorem e_X4_count_20 : lk t_X4_count 20 = some (.aload_n 0, 21, 0, [], .returned) := rfl
theorem e_X4_count_21 : lk t_X4_count 21 = some (.dup, 22, 0, [], .returned) := rfl
theorem e_X4_count_22 : lk t_X4_count 22 = some (.getfield 19, 25, 4, [3, 0], .returned) := rfl
theorem e_X4_count_25 : lk t_X4_count 25 = some (.iload_n 2, 26, 2, [], .returned) := rfl
theorem e_X4_count_26 : lk t_X4_count 26 = some (.iadd, 27, 0, [], .returned) := rfl
theorem e_X4_count_27 : lk t_X4_count 27 = some (.putfield 19, 30, 4, [3, 0], .returned) := rfl
theorem e_X4_count_30 : lk t_X4_count 30 = some (.return_, 31, 0, [], .returned) := rfl
abbrev q_X4_paysInWeek : MI := (yX4_paysInWeek, cX4_paysInWeek, 2, (some .boolean))
def t_X4_paysInWeek : Tab := [(0, [], (.aload_n 0, 1, 0, [], .returned)),
  (1, [360], (.getfield 7, 4, 4, [0, 0], .returned)),
  (4, [], (.ifCond .le 16, 7, 20, [], .returned)),
  (7, [], (.iload_n 1, 8, 1, [], .returned)),
  (8, [], (.aload_n 0, 9, 0, [], .returned)),
  (9, [360], (.getfield 7, 12, 4, [0, 0], .returned)),
  (12, [], (.irem, 13, 0, [], .returned)),
  (13, [], (.ifCond .ne 7, 16, 20, [], .returned)),
  (16, [], (.iconst 1, 17, 0, [], .constant "" 0 (1))),
  (17, [], (.goto 4, 20, 21, [], .returned)),
  (20, [], (.iconst 0, 21, 0, [], .constant "" 0 (0))),
  (21, [], (.ireturn, 22, 1, [], .returned))]
theorem ck_X4_paysInWeek : okT q_X4_paysInWeek t_X4_paysInWeek = true := by decide +kernel
theorem e_X4_paysInWeek_0 : lk t_X4_paysInWeek 0 = some (.aload_n 0, 1, 0, [], .returned) := rfl
theorem e_X4_paysInWeek_1 : lk t_X4_paysInWeek 1 = some (.getfield 7, 4, 4, [0, 0], .returned) := rfl
theorem e_X4_paysInWeek_4 : lk t_X4_paysInWeek 4 = some (.ifCond .le 16, 7, 20, [], .returned) := rfl
theorem e_X4_paysInWeek_7 : lk t_X4_paysInWeek 7 = some (.iload_n 1, 8, 1, [], .returned) := rfl
theorem e_X4_paysInWeek_8 : lk t_X4_paysInWeek 8 = some (.aload_n 0, 9, 0, [], .returned) := rfl
theorem e_X4_paysInWeek_9 : lk t_X4_paysInWeek 9 = some (.getfield 7, 12, 4, [0, 0], .returned) := rfl
theorem e_X4_paysInWeek_12 : lk t_X4_paysInWeek 12 = some (.irem, 13, 0, [], .returned) := rfl
theorem e_X4_paysInWeek_13 : lk t_X4_paysInWeek 13 = some (.ifCond .ne 7, 16, 20, [], .returned) := rfl
theorem e_X4_paysInWeek_16 : lk t_X4_paysInWeek 16 = some (.iconst 1, 17, 0, [], .constant "" 0 (1)) := rfl
theorem e_X4_paysInWeek_17 : lk t_X4_paysInWeek 17 = some (.goto 4, 20, 21, [], .returned) := rfl
theorem e_X4_paysInWeek_20 : lk t_X4_paysInWeek 20 = some (.iconst 0, 21, 0, [], .constant "" 0 (0)) := rfl
theorem e_X4_paysInWeek_21 : lk t_X4_paysInWeek 21 = some (.ireturn, 22, 1, [], .returned) := rfl
