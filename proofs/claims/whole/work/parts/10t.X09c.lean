abbrev q_X9_forgive : MI := (yX9_forgive, cX9_forgive, 4, (some .int))
def t_X9_forgive : Tab := [(0, [], (.aload_n 0, 1, 0, [], .returned)),
  (1, [445], (.getfield 47, 4, 9, [5, 2], .returned)),
  (4, [], (.iload_n 1, 5, 1, [], .returned)),
  (5, [670, 673, 671, 672, 99], (.invokevirtual 138, 8, 0, [1, 0, 0, 0], .code yX0_hasOrder cX0_hasOrder 2 (some .boolean))),
  (8, [], (.ifCond .ne 9, 11, 17, [], .returned)),
  (11, [], (.aload_n 0, 12, 0, [], .returned)),
  (12, [], (.iconst 1, 13, 0, [], .constant "" 0 (1))),
  (13, [486, 489, 488, 0, 92], (.invokevirtual 75, 16, 0, [1, 9, 0, 0], .code yX9_refuse cX9_refuse 2 (some .int))),
  (16, [], (.ireturn, 17, 0, [], .returned)),
  (17, [], (.aload_n 0, 18, 0, [], .returned)),
  (18, [445], (.getfield 47, 21, 9, [5, 2], .returned)),
  (21, [394], (.getfield 142, 24, 0, [2, 2], .returned)),
  (24, [], (.iload_n 1, 25, 1, [], .returned)),
  (25, [], (.aaload, 26, 0, [], .returned)),
  (26, [], (.astore_n 2, 27, 2, [], .returned)),
  (27, [], (.aload_n 2, 28, 2, [], .returned)),
  (28, [269], (.getfield 168, 31, 3, [8, 0], .returned)),
  (31, [], (.istore_n 3, 32, 3, [], .returned)),
  (32, [], (.aload_n 2, 33, 2, [], .returned)),
  (33, [], (.iconst 0, 34, 0, [], .constant "" 0 (0))),
  (34, [269], (.putfield 168, 37, 3, [8, 0], .returned)),
  (37, [], (.aload_n 0, 38, 0, [], .returned)),
  (38, [], (.iload_n 3, 39, 3, [], .returned)),
  (39, [617, 620, 619, 20, 92], (.invokevirtual 96, 42, 0, [1, 9, 0, 0], .code yX9_granted cX9_granted 2 (some .int))),
  (42, [], (.ireturn, 43, 0, [], .returned))]
theorem ck_X9_forgive : okT q_X9_forgive t_X9_forgive = true := by decide +kernel
theorem e_X9_forgive_0 : lk t_X9_forgive 0 = some (.aload_n 0, 1, 0, [], .returned) := rfl
theorem e_X9_forgive_1 : lk t_X9_forgive 1 = some (.getfield 47, 4, 9, [5, 2], .returned) := rfl
theorem e_X9_forgive_4 : lk t_X9_forgive 4 = some (.iload_n 1, 5, 1, [], .returned) := rfl
theorem e_X9_forgive_5 : lk t_X9_forgive 5 = some (.invokevirtual 138, 8, 0, [1, 0, 0, 0], .code yX0_hasOrder cX0_hasOrder 2 (some .boolean)) := rfl
theorem e_X9_forgive_8 : lk t_X9_forgive 8 = some (.ifCond .ne 9, 11, 17, [], .returned) := rfl
theorem e_X9_forgive_11 : lk t_X9_forgive 11 = some (.aload_n 0, 12, 0, [], .returned) := rfl
theorem e_X9_forgive_12 : lk t_X9_forgive 12 = some (.iconst 1, 13, 0, [], .constant "" 0 (1)) := rfl
theorem e_X9_forgive_13 : lk t_X9_forgive 13 = some (.invokevirtual 75, 16, 0, [1, 9, 0, 0], .code yX9_refuse cX9_refuse 2 (some .int)) := rfl
theorem e_X9_forgive_16 : lk t_X9_forgive 16 = some (.ireturn, 17, 0, [], .returned) := rfl
theorem e_X9_forgive_17 : lk t_X9_forgive 17 = some (.aload_n 0, 18, 0, [], .returned) := rfl
theorem e_X9_forgive_18 : lk t_X9_forgive 18 = some (.getfield 47, 21, 9, [5, 2], .returned) := rfl
theorem e_X9_forgive_21 : lk t_X9_forgive 21 = some (.getfield 142, 24, 0, [2, 2], .returned) := rfl
theorem e_X9_forgive_24 : lk t_X9_forgive 24 = some (.iload_n 1, 25, 1, [], .returned) := rfl
theorem e_X9_forgive_25 : lk t_X9_forgive 25 = some (.aaload, 26, 0, [], .returned) := rfl
theorem e_X9_forgive_26 : lk t_X9_forgive 26 = some (.astore_n 2, 27, 2, [], .returned) := rfl
theorem e_X9_forgive_27 : lk t_X9_forgive 27 = some (.aload_n 2, 28, 2, [], .returned) := rfl
theorem e_X9_forgive_28 : lk t_X9_forgive 28 = some (.getfield 168, 31, 3, [8, 0], .returned) := rfl
theorem e_X9_forgive_31 : lk t_X9_forgive 31 = some (.istore_n 3, 32, 3, [], .returned) := rfl
theorem e_X9_forgive_32 : lk t_X9_forgive 32 = some (.aload_n 2, 33, 2, [], .returned) := rfl
theorem e_X9_forgive_33 : lk t_X9_forgive 33 = some (.iconst 0, 34, 0, [], .constant "" 0 (0)) := rfl
theorem e_X9_forgive_34 : lk t_X9_forgive 34 = some (.putfield 168, 37, 3, [8, 0], .returned) := rfl
theorem e_X9_forgive_37 : lk t_X9_forgive 37 = some (.aload_n 0, 38, 0, [], .returned) := rfl
theorem e_X9_forgive_38 : lk t_X9_forgive 38 = some (.iload_n 3, 39, 3, [], .returned) := rfl
theorem e_X9_forgive_39 : lk t_X9_forgive 39 = some (.invokevirtual 96, 42, 0, [1, 9, 0, 0], .code yX9_granted cX9_granted 2 (some .int)) := rfl
theorem e_X9_forgive_42 : lk t_X9_forgive 42 = some (.ireturn, 43, 0, [], .returned) := rfl
abbrev q_X9_size : MI := (yX9_size, cX9_size, 1, (some .int))
def t_X9_size : Tab := [(0, [], (.aload_n 0, 1, 0, [], .returned)),
  (1, [440], (.getfield 10, 4, 9, [0, 2], .returned)),
  (4, [129], (.getfield 64, 7, 6, [1, 0], .returned)),
  (7, [], (.ireturn, 8, 0, [], .returned))]
theorem ck_X9_size : okT q_X9_size t_X9_size = true := by decide +kernel
theorem e_X9_size_0 : lk t_X9_size 0 = some (.aload_n 0, 1, 0, [], .returned) := rfl
theorem e_X9_size_1 : lk t_X9_size 1 = some (.getfield 10, 4, 9, [0, 2], .returned) := rfl
theorem e_X9_size_4 : lk t_X9_size 4 = some (.getfield 64, 7, 6, [1, 0], .returned) := rfl
theorem e_X9_size_7 : lk t_X9_size 7 = some (.ireturn, 8, 0, [], .returned) := rfl
abbrev q_X9_trouble : MI := (yX9_trouble, cX9_trouble, 1, (some .int))
def t_X9_trouble : Tab := [(0, [], (.aload_n 0, 1, 0, [], .returned)),
  (1, [447], (.getfield 54, 4, 9, [7, 0], .returned)),
  (4, [], (.ireturn, 5, 0, [], .returned))]
theorem ck_X9_trouble : okT q_X9_trouble t_X9_trouble = true := by decide +kernel
theorem e_X9_trouble_0 : lk t_X9_trouble 0 = some (.aload_n 0, 1, 0, [], .returned) := rfl
theorem e_X9_trouble_1 : lk t_X9_trouble 1 = some (.getfield 54, 4, 9, [7, 0], .returned) := rfl
theorem e_X9_trouble_4 : lk t_X9_trouble 4 = some (.ireturn, 5, 0, [], .returned) := rfl
abbrev q_X9_refuse : MI := (yX9_refuse, cX9_refuse, 2, (some .int))
def t_X9_refuse : Tab := [(0, [], (.aload_n 0, 1, 0, [], .returned)),
  (1, [], (.iload_n 1, 2, 1, [], .returned)),
  (2, [447], (.putfield 54, 5, 9, [7, 0], .returned)),
  (5, [], (.iconst (-1), 6, 0, [], .constant "" 0 (-1))),
  (6, [], (.ireturn, 7, 0, [], .returned))]
theorem ck_X9_refuse : okT q_X9_refuse t_X9_refuse = true := by decide +kernel
theorem e_X9_refuse_0 : lk t_X9_refuse 0 = some (.aload_n 0, 1, 0, [], .returned) := rfl
theorem e_X9_refuse_1 : lk t_X9_refuse 1 = some (.iload_n 1, 2, 1, [], .returned) := rfl
theorem e_X9_refuse_2 : lk t_X9_refuse 2 = some (.putfield 54, 5, 9, [7, 0], .returned) := rfl
theorem e_X9_refuse_5 : lk t_X9_refuse 5 = some (.iconst (-1), 6, 0, [], .constant "" 0 (-1)) := rfl
theorem e_X9_refuse_6 : lk t_X9_refuse 6 = some (.ireturn, 7, 0, [], .returned) := rfl
abbrev q_X9_granted : MI := (yX9_granted, cX9_granted, 2, (some .int))
def t_X9_granted : Tab := [(0, [], (.aload_n 0, 1, 0, [], .returned)),
  (1, [], (.iconst 0, 2, 0, [], .constant "" 0 (0))),
  (2, [447], (.putfield 54, 5, 9, [7, 0], .returned)),
  (5, [], (.iload_n 1, 6, 1, [], .returned)),
  (6, [], (.ireturn, 7, 0, [], .returned))]
theorem ck_X9_granted : okT q_X9_granted t_X9_granted = true := by decide +kernel
theorem e_X9_granted_0 : lk t_X9_granted 0 = some (.aload_n 0, 1, 0, [], .returned) := rfl
theorem e_X9_granted_1 : lk t_X9_granted 1 = some (.iconst 0, 2, 0, [], .constant "" 0 (0)) := rfl
theorem e_X9_granted_2 : lk t_X9_granted 2 = some (.putfield 54, 5, 9, [7, 0], .returned) := rfl
theorem e_X9_granted_5 : lk t_X9_granted 5 = some (.iload_n 1, 6, 1, [], .returned) := rfl
theorem e_X9_granted_6 : lk t_X9_granted 6 = some (.ireturn, 7, 0, [], .returned) := rfl
abbrev q_X9_within : MI := (yX9_within, cX9_within, 3, (some .boolean))
def t_X9_within : Tab := [(0, [], (.iload_n 0, 1, 0, [], .returned)),
  (1, [], (.iload_n 1, 2, 1, [], .returned)),
  (2, [], (.if_icmp .lt 12, 5, 14, [], .returned)),
  (5, [], (.iload_n 0, 6, 0, [], .returned)),
  (6, [], (.iload_n 2, 7, 2, [], .returned)),
  (7, [], (.if_icmp .gt 7, 10, 14, [], .returned)),
  (10, [], (.iconst 1, 11, 0, [], .constant "" 0 (1))),
  (11, [], (.goto 4, 14, 15, [], .returned)),
  (14, [], (.iconst 0, 15, 0, [], .constant "" 0 (0))),
  (15, [], (.ireturn, 16, 1, [], .returned))]
theorem ck_X9_within : okT q_X9_within t_X9_within = true := by decide +kernel
theorem e_X9_within_0 : lk t_X9_within 0 = some (.iload_n 0, 1, 0, [], .returned) := rfl
theorem e_X9_within_1 : lk t_X9_within 1 = some (.iload_n 1, 2, 1, [], .returned) := rfl
theorem e_X9_within_2 : lk t_X9_within 2 = some (.if_icmp .lt 12, 5, 14, [], .returned) := rfl
theorem e_X9_within_5 : lk t_X9_within 5 = some (.iload_n 0, 6, 0, [], .returned) := rfl
theorem e_X9_within_6 : lk t_X9_within 6 = some (.iload_n 2, 7, 2, [], .returned) := rfl
theorem e_X9_within_7 : lk t_X9_within 7 = some (.if_icmp .gt 7, 10, 14, [], .returned) := rfl
theorem e_X9_within_10 : lk t_X9_within 10 = some (.iconst 1, 11, 0, [], .constant "" 0 (1)) := rfl
theorem e_X9_within_11 : lk t_X9_within 11 = some (.goto 4, 14, 15, [], .returned) := rfl
theorem e_X9_within_14 : lk t_X9_within 14 = some (.iconst 0, 15, 0, [], .constant "" 0 (0)) := rfl
theorem e_X9_within_15 : lk t_X9_within 15 = some (.ireturn, 16, 1, [], .returned) := rfl
abbrev q_X9_isNet : MI := (yX9_isNet, cX9_isNet, 1, (some .boolean))
def t_X9_isNet : Tab := [(0, [], (.iload_n 0, 1, 0, [], .returned)),
  (1, [], (.iconst 0, 2, 0, [], .constant "" 0 (0))),
  (2, [], (.sipush 9999, 5, 0, [], .constant "" 0 (9999))),
  (5, [483, 485, 484, 92], (.invokestatic 71, 8, 0, [3, 0, 0], .code yX9_within cX9_within 3 (some .boolean))),
  (8, [], (.ireturn, 9, 1, [], .returned))]
theorem ck_X9_isNet : okT q_X9_isNet t_X9_isNet = true := by decide +kernel
theorem e_X9_isNet_0 : lk t_X9_isNet 0 = some (.iload_n 0, 1, 0, [], .returned) := rfl
theorem e_X9_isNet_1 : lk t_X9_isNet 1 = some (.iconst 0, 2, 0, [], .constant "" 0 (0)) := rfl
theorem e_X9_isNet_2 : lk t_X9_isNet 2 = some (.sipush 9999, 5, 0, [], .constant "" 0 (9999)) := rfl
theorem e_X9_isNet_5 : lk t_X9_isNet 5 = some (.invokestatic 71, 8, 0, [3, 0, 0], .code yX9_within cX9_within 3 (some .boolean)) := rfl
theorem e_X9_isNet_8 : lk t_X9_isNet 8 = some (.ireturn, 9, 1, [], .returned) := rfl
