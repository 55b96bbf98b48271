abbrev q_X6_init : MI := (yX6_init, cX6_init, 1, none)
def t_X6_init : Tab := [(0, [], (.aload_n 0, 1, 0, [], .returned)),
  (1, [126, 120, 119], (.invokespecial 3, 4, 1, [], .returned)),
  (4, [], (.aload_n 0, 5, 0, [], .returned)),
  (5, [], (.sipush 500, 8, 0, [], .constant "" 0 (500))),
  (8, [136], (.newarray .byte, 10, 1, [], .returned)),
  (10, [127], (.putfield 9, 13, 6, [0, 2], .returned)),
  (13, [], (.return_, 14, 0, [], .returned))]
theorem ck_X6_init : okT q_X6_init t_X6_init = true := by decide +kernel
theorem e_X6_init_0 : lk t_X6_init 0 = some (.aload_n 0, 1, 0, [], .returned) := rfl
theorem e_X6_init_1 : lk t_X6_init 1 = some (.invokespecial 3, 4, 1, [], .returned) := rfl
theorem e_X6_init_4 : lk t_X6_init 4 = some (.aload_n 0, 5, 0, [], .returned) := rfl
theorem e_X6_init_5 : lk t_X6_init 5 = some (.sipush 500, 8, 0, [], .constant "" 0 (500)) := rfl
theorem e_X6_init_8 : lk t_X6_init 8 = some (.newarray .byte, 10, 1, [], .returned) := rfl
theorem e_X6_init_10 : lk t_X6_init 10 = some (.putfield 9, 13, 6, [0, 2], .returned) := rfl
theorem e_X6_init_13 : lk t_X6_init 13 = some (.return_, 14, 0, [], .returned) := rfl
abbrev q_X6_append : MI := (yX6_append, cX6_append, 3, none)
def t_X6_append : Tab := [(0, [], (.bipush 24, 2, 0, [], .constant "" 0 (24))),
  (2, [], (.istore_n 2, 3, 2, [], .returned)),
  (3, [], (.iload_n 2, 4, 2, [], .returned)),
  (4, [], (.ifCond .lt 44, 7, 48, [], .returned)),
  (7, [], (.aload_n 0, 8, 0, [], .returned)),
  (8, [130], (.getfield 15, 11, 6, [1, 0], .returned)),
  (11, [], (.aload_n 0, 12, 0, [], .returned)),
  (12, [127], (.getfield 9, 15, 6, [0, 2], .returned)),
  (15, [], (.arraylength, 16, 0, [], .returned)),
  (16, [], (.if_icmp .ge 32, 19, 48, [], .returned)),
  (19, [], (.aload_n 0, 20, 0, [], .returned)),
  (20, [127], (.getfield 9, 23, 6, [0, 2], .returned)),
  (23, [], (.aload_n 0, 24, 0, [], .returned)),
  (24, [130], (.getfield 15, 27, 6, [1, 0], .returned)),
  (27, [], (.iload_n 1, 28, 1, [], .returned)),
  (28, [], (.iload_n 2, 29, 2, [], .returned)),
  (29, [], (.ishr, 30, 0, [], .returned)),
  (30, [], (.i2b, 31, 0, [], .returned)),
  (31, [], (.bastore, 32, 0, [], .returned)),
  (32, [], (.aload_n 0, 33, 0, [], .returned)),
  (33, [], (.dup, 34, 0, [], .returned)),
  (34, [130], (.getfield 15, 37, 6, [1, 0], .returned)),
  (37, [], (.iconst 1, 38, 0, [], .constant "" 0 (1))),
  (38, [], (.iadd, 39, 0, [], .returned)),
  (39, [130], (.putfield 15, 42, 6, [1, 0], .returned)),
  (42, [], (.iinc 2 (-8), 45, 2, [], .constant "" 0 (-8))),
  (45, [], (.goto (-42), 48, 3, [], .returned)),
  (48, [], (.return_, 49, 0, [], .returned))]
theorem ck_X6_append : okT q_X6_append t_X6_append = true := by decide +kernel
theorem e_X6_append_0 : lk t_X6_append 0 = some (.bipush 24, 2, 0, [], .constant "" 0 (24)) := rfl
theorem e_X6_append_2 : lk t_X6_append 2 = some (.istore_n 2, 3, 2, [], .returned) := rfl
theorem e_X6_append_3 : lk t_X6_append 3 = some (.iload_n 2, 4, 2, [], .returned) := rfl
theorem e_X6_append_4 : lk t_X6_append 4 = some (.ifCond .lt 44, 7, 48, [], .returned) := rfl
theorem e_X6_append_7 : lk t_X6_append 7 = some (.aload_n 0, 8, 0, [], .returned) := rfl
theorem e_X6_append_8 : lk t_X6_append 8 = some (.getfield 15, 11, 6, [1, 0], .returned) := rfl
theorem e_X6_append_11 : lk t_X6_append 11 = some (.aload_n 0, 12, 0, [], .returned) := rfl
theorem e_X6_append_12 : lk t_X6_append 12 = some (.getfield 9, 15, 6, [0, 2], .returned) := rfl
theorem e_X6_append_15 : lk t_X6_append 15 = some (.arraylength, 16, 0, [], .returned) := rfl
theorem e_X6_append_16 : lk t_X6_append 16 = some (.if_icmp .ge 32, 19, 48, [], .returned) := rfl
theorem e_X6_append_19 : lk t_X6_append 19 = some (.aload_n 0, 20, 0, [], .returned) := rfl
theorem e_X6_append_20 : lk t_X6_append 20 = some (.getfield 9, 23, 6, [0, 2], .returned) := rfl
theorem e_X6_append_23 : lk t_X6_append 23 = some (.aload_n 0, 24, 0, [], .returned) := rfl
theorem e_X6_append_24 : lk t_X6_append 24 = some (.getfield 15, 27, 6, [1, 0], .returned) := rfl
theorem e_X6_append_27 : lk t_X6_append 27 = some (.iload_n 1, 28, 1, [], .returned) := rfl
theorem e_X6_append_28 : lk t_X6_append 28 = some (.iload_n 2, 29, 2, [], .returned) := rfl
theorem e_X6_append_29 : lk t_X6_append 29 = some (.ishr, 30, 0, [], .returned) := rfl
theorem e_X6_append_30 : lk t_X6_append 30 = some (.i2b, 31, 0, [], .returned) := rfl
theorem e_X6_append_31 : lk t_X6_append 31 = some (.bastore, 32, 0, [], .returned) := rfl
theorem e_X6_append_32 : lk t_X6_append 32 = some (.aload_n 0, 33, 0, [], .returned) := rfl
theorem e_X6_append_33 : lk t_X6_append 33 = some (.dup, 34, 0, [], .returned) := rfl
theorem e_X6_append_34 : lk t_X6_append 34 = some (.getfield 15, 37, 6, [1, 0], .returned) := rfl
theorem e_X6_append_37 : lk t_X6_append 37 = some (.iconst 1, 38, 0, [], .constant "" 0 (1)) := rfl
theorem e_X6_append_38 : lk t_X6_append 38 = some (.iadd, 39, 0, [], .returned) := rfl
theorem e_X6_append_39 : lk t_X6_append 39 = some (.putfield 15, 42, 6, [1, 0], .returned) := rfl
theorem e_X6_append_42 : lk t_X6_append 42 = some (.iinc 2 (-8), 45, 2, [], .constant "" 0 (-8)) := rfl
theorem e_X6_append_45 : lk t_X6_append 45 = some (.goto (-42), 48, 3, [], .returned) := rfl
theorem e_X6_append_48 : lk t_X6_append 48 = some (.return_, 49, 0, [], .returned) := rfl
