abbrev q_X3_init : MI := (yX3_init, cX3_init, 1, none)
def t_X3_init : Tab := [(0, [], (.aload_n 0, 1, 0, [], .returned)),
  (1, [238, 120, 119], (.invokespecial 3, 4, 1, [], .returned)),
  (4, [], (.return_, 5, 0, [], .returned))]
theorem ck_X3_init : okT q_X3_init t_X3_init = true := by decide +kernel
theorem e_X3_init_0 : lk t_X3_init 0 = some (.aload_n 0, 1, 0, [], .returned) := rfl
theorem e_X3_init_1 : lk t_X3_init 1 = some (.invokespecial 3, 4, 1, [], .returned) := rfl
theorem e_X3_init_4 : lk t_X3_init 4 = some (.return_, 5, 0, [], .returned) := rfl
abbrev q_X3_begin : MI := (yX3_begin, cX3_begin, 1, none)
def t_X3_begin : Tab := [(0, [], (.aload_n 0, 1, 0, [], .returned)),
  (1, [], (.iconst 0, 2, 0, [], .constant "" 0 (0))),
  (2, [262], (.putfield 9, 5, 3, [6, 3], .returned)),
  (5, [], (.aload_n 0, 6, 0, [], .returned)),
  (6, [], (.iconst 0, 7, 0, [], .constant "" 0 (0))),
  (7, [264], (.putfield 15, 10, 3, [7, 0], .returned)),
  (10, [], (.aload_n 0, 11, 0, [], .returned)),
  (11, [], (.iconst 0, 12, 0, [], .constant "" 0 (0))),
  (12, [266], (.putfield 19, 15, 3, [8, 0], .returned)),
  (15, [], (.aload_n 0, 16, 0, [], .returned)),
  (16, [], (.iconst 0, 17, 0, [], .constant "" 0 (0))),
  (17, [271], (.putfield 22, 20, 3, [9, 0], .returned)),
  (20, [], (.return_, 21, 0, [], .returned))]
theorem ck_X3_begin : okT q_X3_begin t_X3_begin = true := by decide +kernel
theorem e_X3_begin_0 : lk t_X3_begin 0 = some (.aload_n 0, 1, 0, [], .returned) := rfl
theorem e_X3_begin_1 : lk t_X3_begin 1 = some (.iconst 0, 2, 0, [], .constant "" 0 (0)) := rfl
theorem e_X3_begin_2 : lk t_X3_begin 2 = some (.putfield 9, 5, 3, [6, 3], .returned) := rfl
theorem e_X3_begin_5 : lk t_X3_begin 5 = some (.aload_n 0, 6, 0, [], .returned) := rfl
theorem e_X3_begin_6 : lk t_X3_begin 6 = some (.iconst 0, 7, 0, [], .constant "" 0 (0)) := rfl
theorem e_X3_begin_7 : lk t_X3_begin 7 = some (.putfield 15, 10, 3, [7, 0], .returned) := rfl
theorem e_X3_begin_10 : lk t_X3_begin 10 = some (.aload_n 0, 11, 0, [], .returned) := rfl
theorem e_X3_begin_11 : lk t_X3_begin 11 = some (.iconst 0, 12, 0, [], .constant "" 0 (0)) := rfl
theorem e_X3_begin_12 : lk t_X3_begin 12 = some (.putfield 19, 15, 3, [8, 0], .returned) := rfl
theorem e_X3_begin_15 : lk t_X3_begin 15 = some (.aload_n 0, 16, 0, [], .returned) := rfl
theorem e_X3_begin_16 : lk t_X3_begin 16 = some (.iconst 0, 17, 0, [], .constant "" 0 (0)) := rfl
theorem e_X3_begin_17 : lk t_X3_begin 17 = some (.putfield 22, 20, 3, [9, 0], .returned) := rfl
theorem e_X3_begin_20 : lk t_X3_begin 20 = some (.return_, 21, 0, [], .returned) := rfl
abbrev q_X3_copyFrom : MI := (yX3_copyFrom, cX3_copyFrom, 2, none)
def t_X3_copyFrom : Tab := [(0, [], (.aload_n 0, 1, 0, [], .returned)),
  (1, [], (.aload_n 1, 2, 1, [], .returned)),
  (2, [239], (.getfield 25, 5, 3, [0, 0], .returned)),
  (5, [239], (.putfield 25, 8, 3, [0, 0], .returned)),
  (8, [], (.aload_n 0, 9, 0, [], .returned)),
  (9, [], (.aload_n 1, 10, 1, [], .returned)),
  (10, [244], (.getfield 28, 13, 3, [1, 0], .returned)),
  (13, [244], (.putfield 28, 16, 3, [1, 0], .returned)),
  (16, [], (.aload_n 0, 17, 0, [], .returned)),
  (17, [], (.aload_n 1, 18, 1, [], .returned)),
  (18, [247], (.getfield 31, 21, 3, [2, 0], .returned)),
  (21, [247], (.putfield 31, 24, 3, [2, 0], .returned)),
  (24, [], (.aload_n 0, 25, 0, [], .returned)),
  (25, [], (.aload_n 1, 26, 1, [], .returned)),
  (26, [250], (.getfield 34, 29, 3, [3, 0], .returned)),
  (29, [250], (.putfield 34, 32, 3, [3, 0], .returned)),
  (32, [], (.aload_n 0, 33, 0, [], .returned)),
  (33, [], (.aload_n 1, 34, 1, [], .returned)),
  (34, [254], (.getfield 37, 37, 3, [4, 0], .returned)),
  (37, [254], (.putfield 37, 40, 3, [4, 0], .returned)),
  (40, [], (.aload_n 0, 41, 0, [], .returned)),
  (41, [], (.aload_n 1, 42, 1, [], .returned)),
  (42, [258], (.getfield 40, 45, 3, [5, 0], .returned)),
  (45, [258], (.putfield 40, 48, 3, [5, 0], .returned)),
  (48, [], (.aload_n 0, 49, 0, [], .returned)),
  (49, [], (.aload_n 1, 50, 1, [], .returned)),
  (50, [262], (.getfield 9, 53, 3, [6, 0], .returned)),
  (53, [262], (.putfield 9, 56, 3, [6, 3], .returned)),
  (56, [], (.aload_n 0, 57, 0, [], .returned)),
  (57, [], (.aload_n 1, 58, 1, [], .returned)),
  (58, [264], (.getfield 15, 61, 3, [7, 0], .returned)),
  (61, [264], (.putfield 15, 64, 3, [7, 0], .returned)),
  (64, [], (.aload_n 0, 65, 0, [], .returned)),
  (65, [], (.aload_n 1, 66, 1, [], .returned)),
  (66, [266], (.getfield 19, 69, 3, [8, 0], .returned)),
  (69, [266], (.putfield 19, 72, 3, [8, 0], .returned)),
  (72, [], (.aload_n 0, 73, 0, [], .returned)),
  (73, [], (.aload_n 1, 74, 1, [], .returned)),
  (74, [271], (.getfield 22, 77, 3, [9, 0], .returned)),
  (77, [271], (.putfield 22, 80, 3, [9, 0], .returned)),
  (80, [], (.return_, 81, 0, [], .returned))]
theorem ck_X3_copyFrom : okT q_X3_copyFrom t_X3_copyFrom = true := by decide +kernel
theorem e_X3_copyFrom_0 : lk t_X3_copyFrom 0 = some (.aload_n 0, 1, 0, [], .returned) := rfl
theorem e_X3_copyFrom_1 : lk t_X3_copyFrom 1 = some (.aload_n 1, 2, 1, [], .returned) := rfl
theorem e_X3_copyFrom_2 : lk t_X3_copyFrom 2 = some (.getfield 25, 5, 3, [0, 0], .returned) := rfl
theorem e_X3_copyFrom_5 : lk t_X3_copyFrom 5 = some (.putfield 25, 8, 3, [0, 0], .returned) := rfl
theorem e_X3_copyFrom_8 : lk t_X3_copyFrom 8 = some (.aload_n 0, 9, 0, [], .returned) := rfl
theorem e_X3_copyFrom_9 : lk t_X3_copyFrom 9 = some (.aload_n 1, 10, 1, [], .returned) := rfl
theorem e_X3_copyFrom_10 : lk t_X3_copyFrom 10 = some (.getfield 28, 13, 3, [1, 0], .returned) := rfl
theorem e_X3_copyFrom_13 : lk t_X3_copyFrom 13 = some (.putfield 28, 16, 3, [1, 0], .returned) := rfl
theorem e_X3_copyFrom_16 : lk t_X3_copyFrom 16 = some (.aload_n 0, 17, 0, [], .returned) := rfl
theorem e_X3_copyFrom_17 : lk t_X3_copyFrom 17 = some (.aload_n 1, 18, 1, [], .returned) := rfl
theorem e_X3_copyFrom_18 : lk t_X3_copyFrom 18 = some (.getfield 31, 21, 3, [2, 0], .returned) := rfl
theorem e_X3_copyFrom_21 : lk t_X3_copyFrom 21 = some (.putfield 31, 24, 3, [2, 0], .returned) := rfl
theorem e_X3_copyFrom_24 : lk t_X3_copyFrom 24 = some (.aload_n 0, 25, 0, [], .returned) := rfl
theorem e_X3_copyFrom_25 : lk t_X3_copyFrom 25 = some (.aload_n 1, 26, 1, [], .returned) := rfl
theorem e_X3_copyFrom_26 : lk t_X3_copyFrom 26 = some (.getfield 34, 29, 3, [3, 0], .returned) := rfl
theorem e_X3_copyFrom_29 : lk t_X3_copyFrom 29 = some (.putfield 34, 32, 3, [3, 0], .returned) := rfl
theorem e_X3_copyFrom_32 : lk t_X3_copyFrom 32 = some (.aload_n 0, 33, 0, [], .returned) := rfl
theorem e_X3_copyFrom_33 : lk t_X3_copyFrom 33 = some (.aload_n 1, 34, 1, [], .returned) := rfl
theorem e_X3_copyFrom_34 : lk t_X3_copyFrom 34 = some (.getfield 37, 37, 3, [4, 0], .returned) := rfl
theorem e_X3_copyFrom_37 : lk t_X3_copyFrom 37 = some (.putfield 37, 40, 3, [4, 0], .returned) := rfl
theorem e_X3_copyFrom_40 : lk t_X3_copyFrom 40 = some (.aload_n 0, 41, 0, [], .returned) := rfl
theorem e_X3_copyFrom_41 : lk t_X3_copyFrom 41 = some (.aload_n 1, 42, 1, [], .returned) := rfl
theorem e_X3_copyFrom_42 : lk t_X3_copyFrom 42 = some (.getfield 40, 45, 3, [5, 0], .returned) := rfl
theorem e_X3_copyFrom_45 : lk t_X3_copyFrom 45 = some (.putfield 40, 48, 3, [5, 0], .returned) := rfl
theorem e_X3_copyFrom_48 : lk t_X3_copyFrom 48 = some (.aload_n 0, 49, 0, [], .returned) := rfl
theorem e_X3_copyFrom_49 : lk t_X3_copyFrom 49 = some (.aload_n 1, 50, 1, [], .returned) := rfl
theorem e_X3_copyFrom_50 : lk t_X3_copyFrom 50 = some (.getfield 9, 53, 3, [6, 0], .returned) := rfl
theorem e_X3_copyFrom_53 : lk t_X3_copyFrom 53 = some (.putfield 9, 56, 3, [6, 3], .returned) := rfl
theorem e_X3_copyFrom_56 : lk t_X3_copyFrom 56 = some (.aload_n 0, 57, 0, [], .returned) := rfl
theorem e_X3_copyFrom_57 : lk t_X3_copyFrom 57 = some (.aload_n 1, 58, 1, [], .returned) := rfl
theorem e_X3_copyFrom_58 : lk t_X3_copyFrom 58 = some (.getfield 15, 61, 3, [7, 0], .returned) := rfl
theorem e_X3_copyFrom_61 : lk t_X3_copyFrom 61 = some (.putfield 15, 64, 3, [7, 0], .returned) := rfl
theorem e_X3_copyFrom_64 : lk t_X3_copyFrom 64 = some (.aload_n 0, 65, 0, [], .returned) := rfl
theorem e_X3_copyFrom_65 : lk t_X3_copyFrom 65 = some (.aload_n 1, 66, 1, [], .returned) := rfl
theorem e_X3_copyFrom_66 : lk t_X3_copyFrom 66 = some (.getfield 19, 69, 3, [8, 0], .returned) := rfl
theorem e_X3_copyFrom_69 : lk t_X3_copyFrom 69 = some (.putfield 19, 72, 3, [8, 0], .returned) := rfl
theorem e_X3_copyFrom_72 : lk t_X3_copyFrom 72 = some (.aload_n 0, 73, 0, [], .returned) := rfl
theorem e_X3_copyFrom_73 : lk t_X3_copyFrom 73 = some (.aload_n 1, 74, 1, [], .returned) := rfl
theorem e_X3_copyFrom_74 : lk t_X3_copyFrom 74 = some (.getfield 22, 77, 3, [9, 0], .returned) := rfl
theorem e_X3_copyFrom_77 : lk t_X3_copyFrom 77 = some (.putfield 22, 80, 3, [9, 0], .returned) := rfl
theorem e_X3_copyFrom_80 : lk t_X3_copyFrom 80 = some (.return_, 81, 0, [], .returned) := rfl
abbrev q_X3_rest : MI := (yX3_rest, cX3_rest, 1, (some .int))
def t_X3_rest : Tab := [(0, [], (.aload_n 0, 1, 0, [], .returned)),
  (1, [247], (.getfield 31, 4, 3, [2, 0], .returned)),
  (4, [], (.ifCond .ne 8, 7, 12, [], .returned)),
  (7, [665], (.ldc 43, 9, 0, [], .constant "" 0 (999999))),
  (9, [], (.goto 12, 12, 21, [], .returned)),
  (12, [], (.aload_n 0, 13, 0, [], .returned)),
  (13, [247], (.getfield 31, 16, 3, [2, 0], .returned)),
  (16, [], (.aload_n 0, 17, 0, [], .returned)),
  (17, [264], (.getfield 15, 20, 3, [7, 0], .returned)),
  (20, [], (.isub, 21, 0, [], .returned)),
  (21, [], (.ireturn, 22, 0, [], .returned))]
theorem ck_X3_rest : okT q_X3_rest t_X3_rest = true := by decide +kernel
theorem e_X3_rest_0 : lk t_X3_rest 0 = some (.aload_n 0, 1, 0, [], .returned) := rfl
theorem e_X3_rest_1 : lk t_X3_rest 1 = some (.getfield 31, 4, 3, [2, 0], .returned) := rfl
theorem e_X3_rest_4 : lk t_X3_rest 4 = some (.ifCond .ne 8, 7, 12, [], .returned) := rfl
theorem e_X3_rest_7 : lk t_X3_rest 7 = some (.ldc 43, 9, 0, [], .constant "" 0 (999999)) := rfl
theorem e_X3_rest_9 : lk t_X3_rest 9 = some (.goto 12, 12, 21, [], .returned) := rfl
theorem e_X3_rest_12 : lk t_X3_rest 12 = some (.aload_n 0, 13, 0, [], .returned) := rfl
theorem e_X3_rest_13 : lk t_X3_rest 13 = some (.getfield 31, 16, 3, [2, 0], .returned) := rfl
theorem e_X3_rest_16 : lk t_X3_rest 16 = some (.aload_n 0, 17, 0, [], .returned) := rfl
theorem e_X3_rest_17 : lk t_X3_rest 17 = some (.getfield 15, 20, 3, [7, 0], .returned) := rfl
theorem e_X3_rest_20 : lk t_X3_rest 20 = some (.isub, 21, 0, [], .returned) := rfl
theorem e_X3_rest_21 : lk t_X3_rest 21 = some (.ireturn, 22, 0, [], .returned) := rfl
abbrev q_X3_isLive : MI := (yX3_isLive, cX3_isLive, 1, (some .boolean))
def t_X3_isLive : Tab := [(0, [], (.aload_n 0, 1, 0, [], .returned)),
  (1, [262], (.getfield 9, 4, 3, [6, 0], .returned)),
  (4, [], (.ifCond .ne 14, 7, 18, [], .returned)),
  (7, [], (.aload_n 0, 8, 0, [], .returned)),
  (8, [661, 664, 662, 663, 97], (.invokevirtual 44, 11, 0, [0, 3, 0, 0], .code yX3_rest cX3_rest 1 (some .int))),
  (11, [], (.ifCond .le 7, 14, 18, [], .returned)),
  (14, [], (.iconst 1, 15, 0, [], .constant "" 0 (1))),
  (15, [], (.goto 4, 18, 19, [], .returned)),
  (18, [], (.iconst 0, 19, 0, [], .constant "" 0 (0))),
  (19, [], (.ireturn, 20, 1, [], .returned))]
theorem ck_X3_isLive : okT q_X3_isLive t_X3_isLive = true := by decide +kernel
theorem e_X3_isLive_0 : lk t_X3_isLive 0 = some (.aload_n 0, 1, 0, [], .returned) := rfl
theorem e_X3_isLive_1 : lk t_X3_isLive 1 = some (.getfield 9, 4, 3, [6, 0], .returned) := rfl
theorem e_X3_isLive_4 : lk t_X3_isLive 4 = some (.ifCond .ne 14, 7, 18, [], .returned) := rfl
theorem e_X3_isLive_7 : lk t_X3_isLive 7 = some (.aload_n 0, 8, 0, [], .returned) := rfl
theorem e_X3_isLive_8 : lk t_X3_isLive 8 = some (.invokevirtual 44, 11, 0, [0, 3, 0, 0], .code yX3_rest cX3_rest 1 (some .int)) := rfl
theorem e_X3_isLive_11 : lk t_X3_isLive 11 = some (.ifCond .le 7, 14, 18, [], .returned) := rfl
theorem e_X3_isLive_14 : lk t_X3_isLive 14 = some (.iconst 1, 15, 0, [], .constant "" 0 (1)) := rfl
theorem e_X3_isLive_15 : lk t_X3_isLive 15 = some (.goto 4, 18, 19, [], .returned) := rfl
theorem e_X3_isLive_18 : lk t_X3_isLive 18 = some (.iconst 0, 19, 0, [], .constant "" 0 (0)) := rfl
theorem e_X3_isLive_19 : lk t_X3_isLive 19 = some (.ireturn, 20, 1, [], .returned) := rfl
abbrev q_X3_isLiveAt : MI := (yX3_isLiveAt, cX3_isLiveAt, 2, (some .boolean))
def t_X3_isLiveAt : Tab := [(0, [], (.aload_n 0, 1, 0, [], .returned)),
  (1, [258], (.getfield 40, 4, 3, [5, 0], .returned)),
  (4, [], (.iload_n 1, 5, 1, [], .returned)),
  (5, [], (.ishr, 6, 0, [], .returned)),
  (6, [], (.iconst 1, 7, 0, [], .constant "" 0 (1))),
  (7, [], (.iand, 8, 0, [], .returned)),
  (8, [], (.iconst 1, 9, 0, [], .constant "" 0 (1))),
  (9, [], (.if_icmp .ne 14, 12, 23, [], .returned)),
  (12, [], (.aload_n 0, 13, 0, [], .returned)),
  (13, [696, 660, 658, 659, 97], (.invokevirtual 48, 16, 0, [0, 3, 0, 0], .code yX3_isLive cX3_isLive 1 (some .boolean))),
  (16, [], (.ifCond .eq 7, 19, 23, [], .returned)),
  (19, [], (.iconst 1, 20, 0, [], .constant "" 0 (1))),
  (20, [], (.goto 4, 23, 24, [], .returned)),
  (23, [], (.iconst 0, 24, 0, [], .constant "" 0 (0))),
  (24, [], (.ireturn, 25, 1, [], .returned))]
theorem ck_X3_isLiveAt : okT q_X3_isLiveAt t_X3_isLiveAt = true := by decide +kernel
theorem e_X3_isLiveAt_0 : lk t_X3_isLiveAt 0 = some (.aload_n 0, 1, 0, [], .returned) := rfl
theorem e_X3_isLiveAt_1 : lk t_X3_isLiveAt 1 = some (.getfield 40, 4, 3, [5, 0], .returned) := rfl
theorem e_X3_isLiveAt_4 : lk t_X3_isLiveAt 4 = some (.iload_n 1, 5, 1, [], .returned) := rfl
theorem e_X3_isLiveAt_5 : lk t_X3_isLiveAt 5 = some (.ishr, 6, 0, [], .returned) := rfl
theorem e_X3_isLiveAt_6 : lk t_X3_isLiveAt 6 = some (.iconst 1, 7, 0, [], .constant "" 0 (1)) := rfl
theorem e_X3_isLiveAt_7 : lk t_X3_isLiveAt 7 = some (.iand, 8, 0, [], .returned) := rfl
theorem e_X3_isLiveAt_8 : lk t_X3_isLiveAt 8 = some (.iconst 1, 9, 0, [], .constant "" 0 (1)) := rfl
theorem e_X3_isLiveAt_9 : lk t_X3_isLiveAt 9 = some (.if_icmp .ne 14, 12, 23, [], .returned) := rfl
theorem e_X3_isLiveAt_12 : lk t_X3_isLiveAt 12 = some (.aload_n 0, 13, 0, [], .returned) := rfl
theorem e_X3_isLiveAt_13 : lk t_X3_isLiveAt 13 = some (.invokevirtual 48, 16, 0, [0, 3, 0, 0], .code yX3_isLive cX3_isLive 1 (some .boolean)) := rfl
theorem e_X3_isLiveAt_16 : lk t_X3_isLiveAt 16 = some (.ifCond .eq 7, 19, 23, [], .returned) := rfl
theorem e_X3_isLiveAt_19 : lk t_X3_isLiveAt 19 = some (.iconst 1, 20, 0, [], .constant "" 0 (1)) := rfl
theorem e_X3_isLiveAt_20 : lk t_X3_isLiveAt 20 = some (.goto 4, 23, 24, [], .returned) := rfl
theorem e_X3_isLiveAt_23 : lk t_X3_isLiveAt 23 = some (.iconst 0, 24, 0, [], .constant "" 0 (0)) := rfl
theorem e_X3_isLiveAt_24 : lk t_X3_isLiveAt 24 = some (.ireturn, 25, 1, [], .returned) := rfl
abbrev q_X3_floorAbove : MI := (yX3_floorAbove, cX3_floorAbove, 3, (some .int))
def t_X3_floorAbove : Tab := [(0, [], (.iload_n 1, 1, 1, [], .returned)),
  (1, [], (.aload_n 0, 2, 0, [], .returned)),
  (2, [244], (.getfield 28, 5, 3, [1, 0], .returned)),
  (5, [], (.iload_n 2, 6, 2, [], .returned)),
  (6, [], (.imul, 7, 0, [], .returned)),
  (7, [748, 739, 738, 103], (.invokestatic 52, 10, 2, [], .returned)),
  (10, [], (.ireturn, 11, 0, [], .returned))]
theorem ck_X3_floorAbove : okT q_X3_floorAbove t_X3_floorAbove = true := by decide +kernel
theorem e_X3_floorAbove_0 : lk t_X3_floorAbove 0 = some (.iload_n 1, 1, 1, [], .returned) := rfl
theorem e_X3_floorAbove_1 : lk t_X3_floorAbove 1 = some (.aload_n 0, 2, 0, [], .returned) := rfl
theorem e_X3_floorAbove_2 : lk t_X3_floorAbove 2 = some (.getfield 28, 5, 3, [1, 0], .returned) := rfl
theorem e_X3_floorAbove_5 : lk t_X3_floorAbove 5 = some (.iload_n 2, 6, 2, [], .returned) := rfl
theorem e_X3_floorAbove_6 : lk t_X3_floorAbove 6 = some (.imul, 7, 0, [], .returned) := rfl
theorem e_X3_floorAbove_7 : lk t_X3_floorAbove 7 = some (.invokestatic 52, 10, 2, [], .returned) := rfl
theorem e_X3_floorAbove_10 : lk t_X3_floorAbove 10 = some (.ireturn, 11, 0, [], .returned) := rfl
abbrev q_X3_fallDue : MI := (yX3_fallDue, cX3_fallDue, 1, none)
def t_X3_fallDue : Tab := [(0, [], (.aload_n 0, 1, 0, [], .returned)),
  (1, [250], (.getfield 34, 4, 3, [3, 0], .returned)),
  (4, [], (.ifCond .ne 30, 7, 34, [], .returned)),
  (7, [], (.aload_n 0, 8, 0, [], .returned)),
  (8, [696, 660, 658, 659, 97], (.invokevirtual 48, 11, 0, [0, 3, 0, 0], .code yX3_isLive cX3_isLive 1 (some .boolean))),
  (11, [], (.ifCond .eq 23, 14, 34, [], .returned)),
  (14, [], (.aload_n 0, 15, 0, [], .returned)),
  (15, [], (.aload_n 0, 16, 0, [], .returned)),
  (16, [266], (.getfield 19, 19, 3, [8, 0], .returned)),
  (19, [], (.aload_n 0, 20, 0, [], .returned)),
  (20, [254], (.getfield 37, 23, 3, [4, 0], .returned)),
  (23, [], (.iadd, 24, 0, [], .returned)),
  (24, [], (.aload_n 0, 25, 0, [], .returned)),
  (25, [661, 664, 662, 663, 97], (.invokevirtual 44, 28, 0, [0, 3, 0, 0], .code yX3_rest cX3_rest 1 (some .int))),
  (28, [871, 496, 495, 103], (.invokestatic 58, 31, 1, [], .returned)),
  (31, [266], (.putfield 19, 34, 3, [8, 0], .returned)),
  (34, [], (.return_, 35, 0, [], .returned))]
theorem ck_X3_fallDue : okT q_X3_fallDue t_X3_fallDue = true := by decide +kernel
theorem e_X3_fallDue_0 : lk t_X3_fallDue 0 = some (.aload_n 0, 1, 0, [], .returned) := rfl
theorem e_X3_fallDue_1 : lk t_X3_fallDue 1 = some (.getfield 34, 4, 3, [3, 0], .returned) := rfl
theorem e_X3_fallDue_4 : lk t_X3_fallDue 4 = some (.ifCond .ne 30, 7, 34, [], .returned) := rfl
theorem e_X3_fallDue_7 : lk t_X3_fallDue 7 = some (.aload_n 0, 8, 0, [], .returned) := rfl
theorem e_X3_fallDue_8 : lk t_X3_fallDue 8 = some (.invokevirtual 48, 11, 0, [0, 3, 0, 0], .code yX3_isLive cX3_isLive 1 (some .boolean)) := rfl
theorem e_X3_fallDue_11 : lk t_X3_fallDue 11 = some (.ifCond .eq 23, 14, 34, [], .returned) := rfl
theorem e_X3_fallDue_14 : lk t_X3_fallDue 14 = some (.aload_n 0, 15, 0, [], .returned) := rfl
theorem e_X3_fallDue_15 : lk t_X3_fallDue 15 = some (.aload_n 0, 16, 0, [], .returned) := rfl
theorem e_X3_fallDue_16 : lk t_X3_fallDue 16 = some (.getfield 19, 19, 3, [8, 0], .returned) := rfl
theorem e_X3_fallDue_19 : lk t_X3_fallDue 19 = some (.aload_n 0, 20, 0, [], .returned) := rfl
theorem e_X3_fallDue_20 : lk t_X3_fallDue 20 = some (.getfield 37, 23, 3, [4, 0], .returned) := rfl
theorem e_X3_fallDue_23 : lk t_X3_fallDue 23 = some (.iadd, 24, 0, [], .returned) := rfl
theorem e_X3_fallDue_24 : lk t_X3_fallDue 24 = some (.aload_n 0, 25, 0, [], .returned) := rfl
theorem e_X3_fallDue_25 : lk t_X3_fallDue 25 = some (.invokevirtual 44, 28, 0, [0, 3, 0, 0], .code yX3_rest cX3_rest 1 (some .int)) := rfl
theorem e_X3_fallDue_28 : lk t_X3_fallDue 28 = some (.invokestatic 58, 31, 1, [], .returned) := rfl
theorem e_X3_fallDue_31 : lk t_X3_fallDue 31 = some (.putfield 19, 34, 3, [8, 0], .returned) := rfl
theorem e_X3_fallDue_34 : lk t_X3_fallDue 34 = some (.return_, 35, 0, [], .returned) := rfl
abbrev q_X3_owedBehind : MI := (yX3_owedBehind, cX3_owedBehind, 3, (some .int))
def t_X3_owedBehind : Tab := [(0, [], (.aload_n 0, 1, 0, [], .returned)),
  (1, [250], (.getfield 34, 4, 3, [3, 0], .returned)),
  (4, [], (.ifCond .ne 12, 7, 16, [], .returned)),
  (7, [], (.aload_n 0, 8, 0, [], .returned)),
  (8, [266], (.getfield 19, 11, 3, [8, 0], .returned)),
  (11, [], (.iload_n 2, 12, 2, [], .returned)),
  (12, [], (.isub, 13, 0, [], .returned)),
  (13, [], (.goto 6, 16, 19, [], .returned)),
  (16, [], (.iload_n 1, 17, 1, [], .returned)),
  (17, [], (.iload_n 2, 18, 2, [], .returned)),
  (18, [], (.isub, 19, 0, [], .returned)),
  (19, [], (.ireturn, 20, 0, [], .returned))]
theorem ck_X3_owedBehind : okT q_X3_owedBehind t_X3_owedBehind = true := by decide +kernel
theorem e_X3_owedBehind_0 : lk t_X3_owedBehind 0 = some (.aload_n 0, 1, 0, [], .returned) := rfl
theorem e_X3_owedBehind_1 : lk t_X3_owedBehind 1 = some (.getfield 34, 4, 3, [3, 0], .returned) := rfl
theorem e_X3_owedBehind_4 : lk t_X3_owedBehind 4 = some (.ifCond .ne 12, 7, 16, [], .returned) := rfl
theorem e_X3_owedBehind_7 : lk t_X3_owedBehind 7 = some (.aload_n 0, 8, 0, [], .returned) := rfl
theorem e_X3_owedBehind_8 : lk t_X3_owedBehind 8 = some (.getfield 19, 11, 3, [8, 0], .returned) := rfl
theorem e_X3_owedBehind_11 : lk t_X3_owedBehind 11 = some (.iload_n 2, 12, 2, [], .returned) := rfl
theorem e_X3_owedBehind_12 : lk t_X3_owedBehind 12 = some (.isub, 13, 0, [], .returned) := rfl
theorem e_X3_owedBehind_13 : lk t_X3_owedBehind 13 = some (.goto 6, 16, 19, [], .returned) := rfl
theorem e_X3_owedBehind_16 : lk t_X3_owedBehind 16 = some (.iload_n 1, 17, 1, [], .returned) := rfl
theorem e_X3_owedBehind_17 : lk t_X3_owedBehind 17 = some (.iload_n 2, 18, 2, [], .returned) := rfl
theorem e_X3_owedBehind_18 : lk t_X3_owedBehind 18 = some (.isub, 19, 0, [], .returned) := rfl
theorem e_X3_owedBehind_19 : lk t_X3_owedBehind 19 = some (.ireturn, 20, 0, [], .returned) := rfl
abbrev q_X3_settle : MI := (yX3_settle, cX3_settle, 3, none)
def t_X3_settle : Tab := [(0, [], (.aload_n 0, 1, 0, [], .returned)),
  (1, [], (.aload_n 0, 2, 0, [], .returned)),
  (2, [], (.iload_n 1, 3, 1, [], .returned)),
  (3, [], (.iload_n 2, 4, 2, [], .returned)),
  (4, [885, 833, 831, 832, 97], (.invokevirtual 61, 7, 0, [2, 3, 0, 0], .code yX3_owedBehind cX3_owedBehind 3 (some .int))),
  (7, [266], (.putfield 19, 10, 3, [8, 0], .returned)),
  (10, [], (.aload_n 0, 11, 0, [], .returned)),
  (11, [], (.dup, 12, 0, [], .returned)),
  (12, [264], (.getfield 15, 15, 3, [7, 0], .returned)),
  (15, [], (.iload_n 2, 16, 2, [], .returned)),
  (16, [], (.iadd, 17, 0, [], .returned)),
  (17, [264], (.putfield 15, 20, 3, [7, 0], .returned)),
  (20, [], (.iload_n 2, 21, 2, [], .returned)),
  (21, [], (.ifCond .le 13, 24, 34, [], .returned)),
  (24, [], (.aload_n 0, 25, 0, [], .returned)),
  (25, [], (.dup, 26, 0, [], .returned)),
  (26, [271], (.getfield 22, 29, 3, [9, 0], .returned)),
  (29, [], (.iconst 1, 30, 0, [], .constant "" 0 (1))),
  (30, [], (.iadd, 31, 0, [], .returned)),
  (31, [271], (.putfield 22, 34, 3, [9, 0], .returned)),
  (34, [], (.return_, 35, 0, [], .returned))]
theorem ck_X3_settle : okT q_X3_settle t_X3_settle = true := by decide +kernel
theorem e_X3_settle_0 : lk t_X3_settle 0 = some (.aload_n 0, 1, 0, [], .returned) := rfl
theorem e_X3_settle_1 : lk t_X3_settle 1 = some (.aload_n 0, 2, 0, [], .returned) := rfl
theorem e_X3_settle_2 : lk t_X3_settle 2 = some (.iload_n 1, 3, 1, [], .returned) := rfl
theorem e_X3_settle_3 : lk t_X3_settle 3 = some (.iload_n 2, 4, 2, [], .returned) := rfl
theorem e_X3_settle_4 : lk t_X3_settle 4 = some (.invokevirtual 61, 7, 0, [2, 3, 0, 0], .code yX3_owedBehind cX3_owedBehind 3 (some .int)) := rfl
theorem e_X3_settle_7 : lk t_X3_settle 7 = some (.putfield 19, 10, 3, [8, 0], .returned) := rfl
theorem e_X3_settle_10 : lk t_X3_settle 10 = some (.aload_n 0, 11, 0, [], .returned) := rfl
theorem e_X3_settle_11 : lk t_X3_settle 11 = some (.dup, 12, 0, [], .returned) := rfl
theorem e_X3_settle_12 : lk t_X3_settle 12 = some (.getfield 15, 15, 3, [7, 0], .returned) := rfl
theorem e_X3_settle_15 : lk t_X3_settle 15 = some (.iload_n 2, 16, 2, [], .returned) := rfl
theorem e_X3_settle_16 : lk t_X3_settle 16 = some (.iadd, 17, 0, [], .returned) := rfl
theorem e_X3_settle_17 : lk t_X3_settle 17 = some (.putfield 15, 20, 3, [7, 0], .returned) := rfl
theorem e_X3_settle_20 : lk t_X3_settle 20 = some (.iload_n 2, 21, 2, [], .returned) := rfl
theorem e_X3_settle_21 : lk t_X3_settle 21 = some (.ifCond .le 13, 24, 34, [], .returned) := rfl
theorem e_X3_settle_24 : lk t_X3_settle 24 = some (.aload_n 0, 25, 0, [], .returned) := rfl
theorem e_X3_settle_25 : lk t_X3_settle 25 = some (.dup, 26, 0, [], .returned) := rfl
theorem e_X3_settle_26 : lk t_X3_settle 26 = some (.getfield 22, 29, 3, [9, 0], .returned) := rfl
theorem e_X3_settle_29 : lk t_X3_settle 29 = some (.iconst 1, 30, 0, [], .constant "" 0 (1)) := rfl
theorem e_X3_settle_30 : lk t_X3_settle 30 = some (.iadd, 31, 0, [], .returned) := rfl
theorem e_X3_settle_31 : lk t_X3_settle 31 = some (.putfield 22, 34, 3, [9, 0], .returned) := rfl
theorem e_X3_settle_34 : lk t_X3_settle 34 = some (.return_, 35, 0, [], .returned) := rfl
