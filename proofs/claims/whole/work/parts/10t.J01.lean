abbrev q_J1_charAt_3b067 : MI := (yJ1_charAt_3b067, cJ1_charAt_3b067, 2, (some .char))
def t_J1_charAt_3b067 : Tab := [(0, [], (.iload_n 1, 1, 1, [], .returned)),
  (1, [], (.aload_n 0, 2, 0, [], .returned)),
  (2, [], (.arraylength, 3, 1, [], .returned)),
  (3, [1215, 1217, 1216, 105], (.invokestatic 9, 6, 0, [2, 0, 0], .code yJ0_checkIndex_df160 cJ0_checkIndex_df160 2 none)),
  (6, [], (.aload_n 0, 7, 0, [], .returned)),
  (7, [], (.iload_n 1, 8, 1, [], .returned)),
  (8, [], (.baload, 9, 1, [], .returned)),
  (9, [], (.sipush 255, 12, 0, [], .constant "" 0 (255))),
  (12, [], (.iand, 13, 0, [], .returned)),
  (13, [], (.i2c, 14, 0, [], .returned)),
  (14, [], (.ireturn, 15, 2, [], .returned))]
theorem ck_J1_charAt_3b067 : okT q_J1_charAt_3b067 t_J1_charAt_3b067 = true := by decide +kernel
theorem e_J1_charAt_3b067_0 : lk t_J1_charAt_3b067 0 = some (.iload_n 1, 1, 1, [], .returned) := rfl
theorem e_J1_charAt_3b067_1 : lk t_J1_charAt_3b067 1 = some (.aload_n 0, 2, 0, [], .returned) := rfl
theorem e_J1_charAt_3b067_2 : lk t_J1_charAt_3b067 2 = some (.arraylength, 3, 1, [], .returned) := rfl
theorem e_J1_charAt_3b067_3 : lk t_J1_charAt_3b067 3 = some (.invokestatic 9, 6, 0, [2, 0, 0], .code yJ0_checkIndex_df160 cJ0_checkIndex_df160 2 none) := rfl
theorem e_J1_charAt_3b067_6 : lk t_J1_charAt_3b067 6 = some (.aload_n 0, 7, 0, [], .returned) := rfl
theorem e_J1_charAt_3b067_7 : lk t_J1_charAt_3b067 7 = some (.iload_n 1, 8, 1, [], .returned) := rfl
theorem e_J1_charAt_3b067_8 : lk t_J1_charAt_3b067 8 = some (.baload, 9, 1, [], .returned) := rfl
theorem e_J1_charAt_3b067_9 : lk t_J1_charAt_3b067 9 = some (.sipush 255, 12, 0, [], .constant "" 0 (255)) := rfl
theorem e_J1_charAt_3b067_12 : lk t_J1_charAt_3b067 12 = some (.iand, 13, 0, [], .returned) := rfl
theorem e_J1_charAt_3b067_13 : lk t_J1_charAt_3b067 13 = some (.i2c, 14, 0, [], .returned) := rfl
theorem e_J1_charAt_3b067_14 : lk t_J1_charAt_3b067 14 = some (.ireturn, 15, 2, [], .returned) := rfl
