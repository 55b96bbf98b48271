abbrev q_J3_checkIndex_8e157 : MI := (yJ3_checkIndex_8e157, cJ3_checkIndex_8e157, 3, (some .int))
def t_J3_checkIndex_8e157 : Tab := [(0, [], (.iload_n 0, 1, 0, [], .returned)),
  (1, [], (.ifCond .lt 8, 4, 9, [], .returned)),
  (4, [], (.iload_n 0, 5, 0, [], .returned)),
  (5, [], (.iload_n 1, 6, 1, [], .returned)),
  (6, [], (.if_icmp .lt 10, 9, 16, [], .returned)),
  (9, [], (.aload_n 2, 10, 2, [], .returned)),
  (10, [], (.iload_n 0, 11, 0, [], .returned)),
  (11, [], (.iload_n 1, 12, 1, [], .returned)),
  (16, [], (.iload_n 0, 17, 0, [], .returned)),
  (17, [], (.ireturn, 18, 0, [], .returned))]
theorem ck_J3_checkIndex_8e157 : okT q_J3_checkIndex_8e157 t_J3_checkIndex_8e157 = true := by decide +kernel
theorem e_J3_checkIndex_8e157_0 : lk t_J3_checkIndex_8e157 0 = some (.iload_n 0, 1, 0, [], .returned) := rfl
theorem e_J3_checkIndex_8e157_1 : lk t_J3_checkIndex_8e157 1 = some (.ifCond .lt 8, 4, 9, [], .returned) := rfl
theorem e_J3_checkIndex_8e157_4 : lk t_J3_checkIndex_8e157 4 = some (.iload_n 0, 5, 0, [], .returned) := rfl
theorem e_J3_checkIndex_8e157_5 : lk t_J3_checkIndex_8e157 5 = some (.iload_n 1, 6, 1, [], .returned) := rfl
theorem e_J3_checkIndex_8e157_6 : lk t_J3_checkIndex_8e157 6 = some (.if_icmp .lt 10, 9, 16, [], .returned) := rfl
theorem e_J3_checkIndex_8e157_9 : lk t_J3_checkIndex_8e157 9 = some (.aload_n 2, 10, 2, [], .returned) := rfl
theorem e_J3_checkIndex_8e157_10 : lk t_J3_checkIndex_8e157 10 = some (.iload_n 0, 11, 0, [], .returned) := rfl
theorem e_J3_checkIndex_8e157_11 : lk t_J3_checkIndex_8e157 11 = some (.iload_n 1, 12, 1, [], .returned) := rfl
theorem e_J3_checkIndex_8e157_16 : lk t_J3_checkIndex_8e157 16 = some (.iload_n 0, 17, 0, [], .returned) := rfl
theorem e_J3_checkIndex_8e157_17 : lk t_J3_checkIndex_8e157 17 = some (.ireturn, 18, 0, [], .returned) := rfl
