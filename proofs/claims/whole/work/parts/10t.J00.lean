abbrev q_J0_length_8abf5 : MI := (yJ0_length_8abf5, cJ0_length_8abf5, 1, (some .int))
def t_J0_length_8abf5 : Tab := [(0, [], (.aload_n 0, 1, 0, [], .returned)),
  (1, [1604], (.getfield 9, 4, 0, [0], .returned)),
  (4, [], (.arraylength, 5, 1, [], .returned)),
  (5, [], (.aload_n 0, 6, 0, [], .returned)),
  (6, [1198, 1201, 1199, 1200, 105], (.invokevirtual 335, 9, 0, [0], .code yJ0_coder_7d493 cJ0_coder_7d493 1 (some .byte))),
  (9, [], (.ishr, 10, 0, [], .returned)),
  (10, [], (.ireturn, 11, 0, [], .returned))]
theorem ck_J0_length_8abf5 : okT q_J0_length_8abf5 t_J0_length_8abf5 = true := by decide +kernel
theorem e_J0_length_8abf5_0 : lk t_J0_length_8abf5 0 = some (.aload_n 0, 1, 0, [], .returned) := rfl
theorem e_J0_length_8abf5_1 : lk t_J0_length_8abf5 1 = some (.getfield 9, 4, 0, [0], .returned) := rfl
theorem e_J0_length_8abf5_4 : lk t_J0_length_8abf5 4 = some (.arraylength, 5, 1, [], .returned) := rfl
theorem e_J0_length_8abf5_5 : lk t_J0_length_8abf5 5 = some (.aload_n 0, 6, 0, [], .returned) := rfl
theorem e_J0_length_8abf5_6 : lk t_J0_length_8abf5 6 = some (.invokevirtual 335, 9, 0, [0], .code yJ0_coder_7d493 cJ0_coder_7d493 1 (some .byte)) := rfl
theorem e_J0_length_8abf5_9 : lk t_J0_length_8abf5 9 = some (.ishr, 10, 0, [], .returned) := rfl
theorem e_J0_length_8abf5_10 : lk t_J0_length_8abf5 10 = some (.ireturn, 11, 0, [], .returned) := rfl
abbrev q_J0_charAt_5068e : MI := (yJ0_charAt_5068e, cJ0_charAt_5068e, 2, (some .char))
def t_J0_charAt_5068e : Tab := [(0, [], (.aload_n 0, 1, 0, [], .returned)),
  (1, [1208, 1211, 1209, 1210, 105], (.invokevirtual 492, 4, 0, [0], .code yJ0_isLatin1_aae02 cJ0_isLatin1_aae02 1 (some .boolean))),
  (4, [], (.ifCond .eq 12, 7, 16, [], .returned)),
  (7, [], (.aload_n 0, 8, 0, [], .returned)),
  (8, [1604], (.getfield 9, 11, 0, [0], .returned)),
  (11, [], (.iload_n 1, 12, 1, [], .returned)),
  (12, [1212, 1214, 1213, 106], (.invokestatic 495, 15, 0, [2, 0, 0], .code yJ1_charAt_3b067 cJ1_charAt_3b067 2 (some .char))),
  (15, [], (.ireturn, 16, 2, [], .returned)),
  (16, [], (.aload_n 0, 17, 0, [], .returned)),
  (17, [1604], (.getfield 9, 20, 0, [0], .returned)),
  (20, [], (.iload_n 1, 21, 1, [], .returned)),
  (24, [], (.ireturn, 25, 2, [], .returned))]
theorem ck_J0_charAt_5068e : okT q_J0_charAt_5068e t_J0_charAt_5068e = true := by decide +kernel
theorem e_J0_charAt_5068e_0 : lk t_J0_charAt_5068e 0 = some (.aload_n 0, 1, 0, [], .returned) := rfl
theorem e_J0_charAt_5068e_1 : lk t_J0_charAt_5068e 1 = some (.invokevirtual 492, 4, 0, [0], .code yJ0_isLatin1_aae02 cJ0_isLatin1_aae02 1 (some .boolean)) := rfl
theorem e_J0_charAt_5068e_4 : lk t_J0_charAt_5068e 4 = some (.ifCond .eq 12, 7, 16, [], .returned) := rfl
theorem e_J0_charAt_5068e_7 : lk t_J0_charAt_5068e 7 = some (.aload_n 0, 8, 0, [], .returned) := rfl
theorem e_J0_charAt_5068e_8 : lk t_J0_charAt_5068e 8 = some (.getfield 9, 11, 0, [0], .returned) := rfl
theorem e_J0_charAt_5068e_11 : lk t_J0_charAt_5068e 11 = some (.iload_n 1, 12, 1, [], .returned) := rfl
theorem e_J0_charAt_5068e_12 : lk t_J0_charAt_5068e 12 = some (.invokestatic 495, 15, 0, [2, 0, 0], .code yJ1_charAt_3b067 cJ1_charAt_3b067 2 (some .char)) := rfl
theorem e_J0_charAt_5068e_15 : lk t_J0_charAt_5068e 15 = some (.ireturn, 16, 2, [], .returned) := rfl
theorem e_J0_charAt_5068e_16 : lk t_J0_charAt_5068e 16 = some (.aload_n 0, 17, 0, [], .returned) := rfl
theorem e_J0_charAt_5068e_17 : lk t_J0_charAt_5068e 17 = some (.getfield 9, 20, 0, [0], .returned) := rfl
theorem e_J0_charAt_5068e_20 : lk t_J0_charAt_5068e 20 = some (.iload_n 1, 21, 1, [], .returned) := rfl
theorem e_J0_charAt_5068e_24 : lk t_J0_charAt_5068e 24 = some (.ireturn, 25, 2, [], .returned) := rfl
abbrev q_J0_coder_7d493 : MI := (yJ0_coder_7d493, cJ0_coder_7d493, 1, (some .byte))
def t_J0_coder_7d493 : Tab := [(0, [1202], (.getstatic 38, 3, 1, [], .returned)),
  (3, [], (.ifCond .eq 10, 6, 13, [], .returned)),
  (6, [], (.aload_n 0, 7, 0, [], .returned)),
  (7, [1605], (.getfield 15, 10, 0, [1], .returned)),
  (10, [], (.goto 4, 13, 14, [], .returned)),
  (13, [], (.iconst 1, 14, 0, [], .constant "" 0 (1))),
  (14, [], (.ireturn, 15, 3, [], .returned))]
theorem ck_J0_coder_7d493 : okT q_J0_coder_7d493 t_J0_coder_7d493 = true := by decide +kernel
theorem e_J0_coder_7d493_0 : lk t_J0_coder_7d493 0 = some (.getstatic 38, 3, 1, [], .returned) := rfl
theorem e_J0_coder_7d493_3 : lk t_J0_coder_7d493 3 = some (.ifCond .eq 10, 6, 13, [], .returned) := rfl
theorem e_J0_coder_7d493_6 : lk t_J0_coder_7d493 6 = some (.aload_n 0, 7, 0, [], .returned) := rfl
theorem e_J0_coder_7d493_7 : lk t_J0_coder_7d493 7 = some (.getfield 15, 10, 0, [1], .returned) := rfl
theorem e_J0_coder_7d493_10 : lk t_J0_coder_7d493 10 = some (.goto 4, 13, 14, [], .returned) := rfl
theorem e_J0_coder_7d493_13 : lk t_J0_coder_7d493 13 = some (.iconst 1, 14, 0, [], .constant "" 0 (1)) := rfl
theorem e_J0_coder_7d493_14 : lk t_J0_coder_7d493 14 = some (.ireturn, 15, 3, [], .returned) := rfl
abbrev q_J0_isLatin1_aae02 : MI := (yJ0_isLatin1_aae02, cJ0_isLatin1_aae02, 1, (some .boolean))
def t_J0_isLatin1_aae02 : Tab := [(0, [1202], (.getstatic 38, 3, 1, [], .returned)),
  (3, [], (.ifCond .eq 14, 6, 17, [], .returned)),
  (6, [], (.aload_n 0, 7, 0, [], .returned)),
  (7, [1605], (.getfield 15, 10, 0, [1], .returned)),
  (10, [], (.ifCond .ne 7, 13, 17, [], .returned)),
  (13, [], (.iconst 1, 14, 0, [], .constant "" 0 (1))),
  (14, [], (.goto 4, 17, 18, [], .returned)),
  (17, [], (.iconst 0, 18, 0, [], .constant "" 0 (0))),
  (18, [], (.ireturn, 19, 1, [], .returned))]
theorem ck_J0_isLatin1_aae02 : okT q_J0_isLatin1_aae02 t_J0_isLatin1_aae02 = true := by decide +kernel
theorem e_J0_isLatin1_aae02_0 : lk t_J0_isLatin1_aae02 0 = some (.getstatic 38, 3, 1, [], .returned) := rfl
theorem e_J0_isLatin1_aae02_3 : lk t_J0_isLatin1_aae02 3 = some (.ifCond .eq 14, 6, 17, [], .returned) := rfl
theorem e_J0_isLatin1_aae02_6 : lk t_J0_isLatin1_aae02 6 = some (.aload_n 0, 7, 0, [], .returned) := rfl
theorem e_J0_isLatin1_aae02_7 : lk t_J0_isLatin1_aae02 7 = some (.getfield 15, 10, 0, [1], .returned) := rfl
theorem e_J0_isLatin1_aae02_10 : lk t_J0_isLatin1_aae02 10 = some (.ifCond .ne 7, 13, 17, [], .returned) := rfl
theorem e_J0_isLatin1_aae02_13 : lk t_J0_isLatin1_aae02 13 = some (.iconst 1, 14, 0, [], .constant "" 0 (1)) := rfl
theorem e_J0_isLatin1_aae02_14 : lk t_J0_isLatin1_aae02 14 = some (.goto 4, 17, 18, [], .returned) := rfl
theorem e_J0_isLatin1_aae02_17 : lk t_J0_isLatin1_aae02 17 = some (.iconst 0, 18, 0, [], .constant "" 0 (0)) := rfl
theorem e_J0_isLatin1_aae02_18 : lk t_J0_isLatin1_aae02 18 = some (.ireturn, 19, 1, [], .returned) := rfl
abbrev q_J0_checkIndex_df160 : MI := (yJ0_checkIndex_df160, cJ0_checkIndex_df160, 2, none)
def t_J0_checkIndex_df160 : Tab := [(0, [], (.iload_n 0, 1, 0, [], .returned)),
  (1, [], (.iload_n 1, 2, 1, [], .returned)),
  (2, [1218], (.getstatic 1053, 5, 0, [], .returned)),
  (5, [1220, 1222, 1221, 107], (.invokestatic 1059, 8, 0, [3, 0, 0], .code yJ3_checkIndex_8e157 cJ3_checkIndex_8e157 3 (some .int))),
  (8, [], (.pop, 9, 0, [], .returned)),
  (9, [], (.return_, 10, 0, [], .returned))]
theorem ck_J0_checkIndex_df160 : okT q_J0_checkIndex_df160 t_J0_checkIndex_df160 = true := by decide +kernel
theorem e_J0_checkIndex_df160_0 : lk t_J0_checkIndex_df160 0 = some (.iload_n 0, 1, 0, [], .returned) := rfl
theorem e_J0_checkIndex_df160_1 : lk t_J0_checkIndex_df160 1 = some (.iload_n 1, 2, 1, [], .returned) := rfl
theorem e_J0_checkIndex_df160_2 : lk t_J0_checkIndex_df160 2 = some (.getstatic 1053, 5, 0, [], .returned) := rfl
theorem e_J0_checkIndex_df160_5 : lk t_J0_checkIndex_df160 5 = some (.invokestatic 1059, 8, 0, [3, 0, 0], .code yJ3_checkIndex_8e157 cJ3_checkIndex_8e157 3 (some .int)) := rfl
theorem e_J0_checkIndex_df160_8 : lk t_J0_checkIndex_df160 8 = some (.pop, 9, 0, [], .returned) := rfl
theorem e_J0_checkIndex_df160_9 : lk t_J0_checkIndex_df160 9 = some (.return_, 10, 0, [], .returned) := rfl
