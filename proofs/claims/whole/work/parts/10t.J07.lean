abbrev q_J7_fill_53178 : MI := (yJ7_fill_53178, cJ7_fill_53178, 4, none)
def t_J7_fill_53178 : Tab := [(0, [], (.iconst 0, 1, 0, [], .constant "" 0 (0))),
  (1, [], (.istore_n 2, 2, 2, [], .returned)),
  (2, [], (.aload_n 0, 3, 0, [], .returned)),
  (3, [], (.arraylength, 4, 0, [], .returned)),
  (4, [], (.istore_n 3, 5, 3, [], .returned)),
  (5, [], (.iload_n 2, 6, 2, [], .returned)),
  (6, [], (.iload_n 3, 7, 3, [], .returned)),
  (7, [], (.if_icmp .ge 13, 10, 20, [], .returned)),
  (10, [], (.aload_n 0, 11, 0, [], .returned)),
  (11, [], (.iload_n 2, 12, 2, [], .returned)),
  (12, [], (.iload_n 1, 13, 1, [], .returned)),
  (13, [], (.iastore, 14, 0, [], .returned)),
  (14, [], (.iinc 2 1, 17, 2, [], .constant "" 0 (1))),
  (17, [], (.goto (-12), 20, 5, [], .returned)),
  (20, [], (.return_, 21, 0, [], .returned))]
theorem ck_J7_fill_53178 : okT q_J7_fill_53178 t_J7_fill_53178 = true := by decide +kernel
theorem e_J7_fill_53178_0 : lk t_J7_fill_53178 0 = some (.iconst 0, 1, 0, [], .constant "" 0 (0)) := rfl
theorem e_J7_fill_53178_1 : lk t_J7_fill_53178 1 = some (.istore_n 2, 2, 2, [], .returned) := rfl
theorem e_J7_fill_53178_2 : lk t_J7_fill_53178 2 = some (.aload_n 0, 3, 0, [], .returned) := rfl
theorem e_J7_fill_53178_3 : lk t_J7_fill_53178 3 = some (.arraylength, 4, 0, [], .returned) := rfl
theorem e_J7_fill_53178_4 : lk t_J7_fill_53178 4 = some (.istore_n 3, 5, 3, [], .returned) := rfl
theorem e_J7_fill_53178_5 : lk t_J7_fill_53178 5 = some (.iload_n 2, 6, 2, [], .returned) := rfl
theorem e_J7_fill_53178_6 : lk t_J7_fill_53178 6 = some (.iload_n 3, 7, 3, [], .returned) := rfl
theorem e_J7_fill_53178_7 : lk t_J7_fill_53178 7 = some (.if_icmp .ge 13, 10, 20, [], .returned) := rfl
theorem e_J7_fill_53178_10 : lk t_J7_fill_53178 10 = some (.aload_n 0, 11, 0, [], .returned) := rfl
theorem e_J7_fill_53178_11 : lk t_J7_fill_53178 11 = some (.iload_n 2, 12, 2, [], .returned) := rfl
theorem e_J7_fill_53178_12 : lk t_J7_fill_53178 12 = some (.iload_n 1, 13, 1, [], .returned) := rfl
theorem e_J7_fill_53178_13 : lk t_J7_fill_53178 13 = some (.iastore, 14, 0, [], .returned) := rfl
theorem e_J7_fill_53178_14 : lk t_J7_fill_53178 14 = some (.iinc 2 1, 17, 2, [], .constant "" 0 (1)) := rfl
theorem e_J7_fill_53178_17 : lk t_J7_fill_53178 17 = some (.goto (-12), 20, 5, [], .returned) := rfl
theorem e_J7_fill_53178_20 : lk t_J7_fill_53178 20 = some (.return_, 21, 0, [], .returned) := rfl
